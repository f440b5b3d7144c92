/-! ### names, classes of PARAMETERS -/
def zOn (μ m : zM) : Prop := (∀ q : Int, q < 21 → m.1 3000075 q = μ.1 3000075 q) ∧ (∀ q : Int, q < 80 → m.1 3000081 q = μ.1 3000081 q) ∧ ∀ q : Int, q < 80 → m.1 82 q = μ.1 82 q
theorem zOn_r (μ : zM) : zOn μ μ := ⟨fun _ _ => rfl, fun _ _ => rfl, fun _ _ => rfl⟩
theorem zOn_t {a b c : zM} (h1 : zOn a b) (h2 : zOn b c) : zOn a c := ⟨fun q h => (h2.1 q h).trans (h1.1 q h), fun q h => (h2.2.1 q h).trans (h1.2.1 q h), fun q h => (h2.2.2 q h).trans (h1.2.2 q h)⟩
theorem zOn_fr {μ m m' : zM} (h : zOn μ m) (a : m'.1 3000075 = m.1 3000075) (b : m'.1 3000081 = m.1 3000081) (c : m'.1 82 = m.1 82) : zOn μ m' := ⟨fun q hq => by rw [a]; exact h.1 q hq, fun q hq => by rw [b]; exact h.2.1 q hq, fun q hq => by rw [c]; exact h.2.2 q hq⟩
theorem zOn_w {μ m m' : zM} {j : Nat} {k x : Int} (h : zOn μ m) (e : m' = zu m j k x) (s : (j = 3000075 → 21 ≤ k) ∧ (j = 3000081 → 80 ≤ k) ∧ (j = 82 → 80 ≤ k)) : zOn μ m' := by
  have key : ∀ (i : Nat) (q : Int), (i = j → q ≠ k) → m'.1 i q = m.1 i q := fun i q hq => by
    rw [e]
    by_cases w : i = j
    · subst w; exact zu_nk (hq rfl)
    · rw [zu_ne w]
  refine ⟨fun q hq => ?_, fun q hq => ?_, fun q hq => ?_⟩
  · rw [key _ q (fun w => by have := s.1 w.symm; omega)]; exact h.1 q hq
  · rw [key _ q (fun w => by have := s.2.1 w.symm; omega)]; exact h.2.1 q hq
  · rw [key _ q (fun w => by have := s.2.2 w.symm; omega)]; exact h.2.2 q hq
def rNm (μ m : zM) (k : Int) : Prop := (∀ q : Int, 0 ≤ q → q < k → m.1 3000075 q = μ.1 3000075 (21 + q)) ∧ ∀ q : Int, 21 ≤ q → m.1 3000075 q = μ.1 3000075 q
def rPm (μ m : zM) (k : Int) : Prop := (∀ q : Int, 0 ≤ q → q < k → m.1 3000081 q = μ.1 3000081 (80 + q) ∧ m.1 82 q = μ.1 82 (80 + q)) ∧ ∀ q : Int, 80 ≤ q → m.1 3000081 q = μ.1 3000081 q ∧ m.1 82 q = μ.1 82 q
theorem rNm_0 {μ m : zM} (h : m.1 3000075 = μ.1 3000075) : rNm μ m 0 := ⟨fun q a b => by omega, fun q _ => by rw [h]⟩
theorem rPm_0 {μ m : zM} (h : m.1 3000081 = μ.1 3000081) (h2 : m.1 82 = μ.1 82) : rPm μ m 0 := ⟨fun q a b => by omega, fun q _ => by rw [h, h2]; exact ⟨rfl, rfl⟩⟩
theorem rNm_f {μ m m' : zM} {k : Int} (h : rNm μ m k) (e : m'.1 3000075 = m.1 3000075) : rNm μ m' k := ⟨fun q a b => by rw [e]; exact h.1 q a b, fun q a => by rw [e]; exact h.2 q a⟩
theorem rPm_f {μ m m' : zM} {k : Int} (h : rPm μ m k) (e : m'.1 3000081 = m.1 3000081) (e2 : m'.1 82 = m.1 82) : rPm μ m' k := ⟨fun q a b => by rw [e, e2]; exact h.1 q a b, fun q a => by rw [e, e2]; exact h.2 q a⟩
theorem rNm_s {μ m m1 m' : zM} {k y : Int} (h : rNm μ m k) (e : m1 = zu m 3000075 k y) (hy : y = m.1 3000075 (21 + k)) (k0 : 0 ≤ k) (k1 : k < 21) (f : m'.1 3000075 = m1.1 3000075) : rNm μ m' (k + 1) := by
  have key : ∀ q : Int, m'.1 3000075 q = if q = k then y else m.1 3000075 q := fun q => by rw [f, e, zu_if]
  refine ⟨fun q a b => ?_, fun q a => ?_⟩
  · rw [key]
    by_cases w : q = k
    · rw [if_pos w, hy, w]; exact h.2 _ (by omega)
    · rw [if_neg w]; exact h.1 q a (by omega)
  · rw [key, if_neg (by omega)]; exact h.2 q a
theorem rPm_s {μ m m1 m2 m' : zM} {k y x : Int} (h : rPm μ m k) (e : m1 = zu m 3000081 k y) (hy : y = m.1 3000081 (80 + k)) (e2 : m2 = zu m1 82 k x) (hx : x = m1.1 82 (80 + k)) (k0 : 0 ≤ k) (k1 : k < 80) (f : m'.1 3000081 = m2.1 3000081) (f2 : m'.1 82 = m2.1 82) : rPm μ m' (k + 1) := by
  have key : ∀ q : Int, m'.1 3000081 q = if q = k then y else m.1 3000081 q := fun q => by rw [f, e2, zu_ne (by decide), e, zu_if]
  have key2 : ∀ q : Int, m'.1 82 q = if q = k then x else m.1 82 q := fun q => by rw [f2, e2, zu_if, e, zu_ne (by decide)]
  have hx : x = m.1 82 (80 + k) := by rw [hx, e, zu_ne (by decide)]
  refine ⟨fun q a b => ?_, fun q a => ?_⟩
  · rw [key, key2]
    by_cases w : q = k
    · rw [if_pos w, if_pos w, hy, hx, w]; exact h.2 _ (by omega)
    · rw [if_neg w, if_neg w]; exact h.1 q a (by omega)
  · rw [key, key2, if_neg (by omega), if_neg (by omega)]; exact h.2 q a
