/-! ### chains anew -/
def zNDt (μ : zM) (lo t : Int) : Prop := (0 ≤ lo ∧ lo ≤ t) ∧ (∀ x : Int, 0 ≤ x → x < t → zNd μ x) ∧
  (∀ h : Int, 0 ≤ h → h < 2048 → μ.1 73 h < t ∧ (0 ≤ μ.1 73 h → lo ≤ μ.1 73 h ∧ zsx μ (μ.1 73 h) = h)) ∧ (∀ x : Int, lo ≤ x → x < t → x ≤ μ.1 73 (zsx μ x)) ∧
  (∀ x : Int, lo ≤ x → x < t → μ.1 72 x < x ∧ (0 ≤ μ.1 72 x → lo ≤ μ.1 72 x ∧ zsx μ (μ.1 72 x) = zsx μ x) ∧ ∀ y : Int, lo ≤ y → y < x → zsx μ y = zsx μ x → y ≤ μ.1 72 x)
theorem zND_t {μ : zM} {lo : Int} : zND μ lo ↔ zNDt μ lo (zTop μ) := Iff.rfl
theorem zNDt_0 {μ : zM} {lo : Int} (h0 : 0 ≤ lo) (hn : ∀ x : Int, 0 ≤ x → x < lo → zNd μ x) (hh : ∀ h : Int, 0 ≤ h → h < 2048 → μ.1 73 h = -1) : zNDt μ lo lo :=
  ⟨⟨h0, Int.le_refl _⟩, hn, fun h a b => ⟨by rw [hh h a b]; omega, fun c => by rw [hh h a b] at c; omega⟩, fun x a b => by omega, fun x a b => by omega⟩
theorem zNd_same {μ μ' : zM} (h : ∀ j : Nat, 67 ≤ j → j ≤ 71 → μ'.1 j = μ.1 j) {x : Int} (hn : zNd μ x) : zNd μ' x := by
  unfold zNd at hn ⊢
  rw [h 67 (by omega) (by omega), h 68 (by omega) (by omega), h 69 (by omega) (by omega), h 70 (by omega) (by omega), h 71 (by omega) (by omega)]
  exact hn
theorem zsx_same {μ μ' : zM} (h : ∀ j : Nat, 67 ≤ j → j ≤ 71 → μ'.1 j = μ.1 j) (x : Int) : zsx μ' x = zsx μ x := by
  unfold zsx
  rw [h 67 (by omega) (by omega), h 68 (by omega) (by omega), h 69 (by omega) (by omega), h 70 (by omega) (by omega)]
theorem zNDt_same {μ μ' : zM} {lo t : Int} (h : ∀ j : Nat, 67 ≤ j → j ≤ 73 → μ'.1 j = μ.1 j) (hn : zNDt μ lo t) : zNDt μ' lo t := by
  have h5 : ∀ j : Nat, 67 ≤ j → j ≤ 71 → μ'.1 j = μ.1 j := fun j a b => h j a (by omega)
  obtain ⟨n1, n2, n3, n4, n5⟩ := hn
  refine ⟨n1, fun x a b => zNd_same h5 (n2 x a b), fun q a b => ?_, fun x a b => ?_, fun x a b => ?_⟩
  · rw [h 73 (by omega) (by omega), zsx_same h5]; exact n3 q a b
  · rw [h 73 (by omega) (by omega), zsx_same h5]; exact n4 x a b
  · rw [h 72 (by omega) (by omega), zsx_same h5, zsx_same h5]
    refine ⟨(n5 x a b).1, (n5 x a b).2.1, fun y c d e => (n5 x a b).2.2 y c d ?_⟩
    rw [zsx_same h5] at e
    exact e
/-- one more node is put into its chain -/
theorem zch {m m1 m2 : zM} {lo t h xh x1 x2 : Int} (hn : zNDt m lo t) (hnd : zNd m t) (hh : h = zsx m t) (hxh : xh = m.1 73 h) (e1 : m1 = zu m 72 x1 xh) (e2 : m2 = zu m1 73 h x2) (q1 : x1 = t) (q2 : x2 = t) : zNDt m2 lo (t + 1) := by
  rw [q1] at e1
  rw [q2] at e2
  have s5 : ∀ j : Nat, 67 ≤ j → j ≤ 71 → m2.1 j = m.1 j := fun j a b => by rw [e2, zu_ne (by omega), e1, zu_ne (by omega)]
  have sx := zsx_same s5
  have c72 : ∀ q, m2.1 72 q = if q = t then m.1 73 h else m.1 72 q := fun q => by
    rw [e2, zu_ne (by decide), e1]
    by_cases hq : q = t
    · rw [if_pos hq, hq, zu_at, hxh]
    · rw [if_neg hq, zu_nk hq]
  have c73 : ∀ q, m2.1 73 q = if q = h then t else m.1 73 q := fun q => by
    rw [e2]
    by_cases hq : q = h
    · rw [if_pos hq, hq, zu_at]
    · rw [if_neg hq, zu_nk hq, e1, zu_ne (by decide)]
  have hrng := zsl_rng (m.1 67 t) (m.1 68 t) (m.1 69 t) (fun i => m.1 70 (4 * t + i))
  have hrng : 0 ≤ h ∧ h ≤ 2047 := by rw [hh]; exact hrng
  obtain ⟨⟨l0, l1⟩, nd, hd, hc, nx⟩ := hn
  refine ⟨⟨l0, by omega⟩, fun x a b => ?_, fun q a b => ?_, fun x a b => ?_, fun x a b => ?_⟩
  · by_cases hx : x = t
    · rw [hx]; exact zNd_same s5 hnd
    · exact zNd_same s5 (nd x a (by omega))
  · rw [c73, sx]
    by_cases hq : q = h
    · rw [if_pos hq]
      exact ⟨by omega, fun _ => ⟨l1, by rw [hq, hh]⟩⟩
    · rw [if_neg hq]
      obtain ⟨g1, g2⟩ := hd q a b
      exact ⟨by omega, g2⟩
  · rw [c73, sx]
    by_cases hx : x = t
    · rw [hx, ← hh, if_pos rfl]; exact Int.le_refl _
    · split
      · omega
      · exact hc x a (by omega)
  · rw [c72, sx, sx]
    by_cases hx : x = t
    · rw [if_pos hx, hx, ← hh]
      obtain ⟨g1, g2⟩ := hd h hrng.1 (by omega)
      refine ⟨g1, g2, fun y a b hy => ?_⟩
      rw [sx] at hy
      have := hc y a b
      rw [hy] at this
      exact this
    · rw [if_neg hx]
      obtain ⟨g1, g2, g3⟩ := nx x a (by omega)
      refine ⟨g1, g2, fun y a b hy => ?_⟩
      rw [sx] at hy
      exact g3 y a b hy
theorem zfx5 {ws fs : List Nat} {μ μ' : zM} (h : zfx ws fs μ μ') (hw : zsub ws [72, 73, 74] = true) : ∀ j : Nat, 67 ≤ j → j ≤ 71 → μ'.1 j = μ.1 j := by
  intro j a b
  refine h.1 j (by omega) (zsub_f hw ?_)
  rcases (show j = 67 ∨ j = 68 ∨ j = 69 ∨ j = 70 ∨ j = 71 by omega) with e | e | e | e | e <;> subst e <;> rfl
