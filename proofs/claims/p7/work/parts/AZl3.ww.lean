/-! ### which PARAMETERS lead to which: by those below k -/
def wW (E : Int → Int → Prop) : Nat → Int → Int → Prop
  | 0, p, q => E p q
  | k + 1, p, q => wW E k p q ∨ (wW E k p k ∧ wW E k k q)
theorem wW_i {E : Int → Int → Prop} {k : Nat} {p q : Int} : wW E (k + 1) p q ↔ (wW E k p q ∨ (wW E k p k ∧ wW E k k q)) := Iff.rfl
theorem wW_e {E : Int → Int → Prop} : ∀ (k : Nat) {p q : Int}, E p q → wW E k p q
  | 0, _, _, h => h
  | k + 1, _, _, h => Or.inl (wW_e k h)
theorem wW_pk {E : Int → Int → Prop} {k : Nat} {p : Int} : wW E (k + 1) p k ↔ wW E k p k := ⟨fun h => h.elim id (fun w => w.1), Or.inl⟩
theorem wW_kq {E : Int → Int → Prop} {k : Nat} {q : Int} : wW E (k + 1) k q ↔ wW E k k q := ⟨fun h => h.elim id (fun w => w.2), Or.inl⟩
theorem wW_t {E : Int → Int → Prop} : ∀ (k : Nat) (p m q : Int), 0 ≤ m → m < k → wW E k p m → wW E k m q → wW E k p q
  | 0, _, m, _, h0, h1, _, _ => by omega
  | k + 1, p, m, q, h0, h1, a, b => by
    by_cases e : m = k
    · subst e
      exact Or.inr ⟨wW_pk.mp a, wW_kq.mp b⟩
    · have lt : m < k := by omega
      rcases a with a | ⟨a1, a2⟩ <;> rcases b with b | ⟨b1, b2⟩
      · exact Or.inl (wW_t k p m q h0 lt a b)
      · exact Or.inr ⟨wW_t k p m k h0 lt a b1, b2⟩
      · exact Or.inr ⟨a1, wW_t k k m q h0 lt a2 b⟩
      · exact Or.inr ⟨a1, b2⟩
theorem wW_c {E E' : Int → Int → Prop} {N : Int} (h : ∀ p q : Int, 0 ≤ p → p < N → 0 ≤ q → q < N → (E p q ↔ E' p q)) : ∀ (k : Nat), (k : Int) ≤ N → ∀ p q : Int, 0 ≤ p → p < N → 0 ≤ q → q < N → (wW E k p q ↔ wW E' k p q)
  | 0, _, p, q, a, b, c, d => h p q a b c d
  | k + 1, hk, p, q, a, b, c, d => by
    have i := wW_c h k (by omega)
    show (wW E k p q ∨ (wW E k p k ∧ wW E k k q)) ↔ (wW E' k p q ∨ (wW E' k p k ∧ wW E' k k q))
    rw [i p q a b c d, i p k a b (by omega) (by omega), i k q (by omega) (by omega) c d]
/-- leads, or is the same -/
def wL (E : Int → Int → Prop) (n : Nat) (p q : Int) : Prop := p = q ∨ wW E n p q
theorem wL_t {E : Int → Int → Prop} {n : Nat} {p m q : Int} (h0 : 0 ≤ m) (h1 : m < n) (a : wL E n p m) (b : wL E n m q) : wL E n p q := by
  rcases a with a | a
  · rw [a]; exact b
  · rcases b with b | b
    · rw [← b]; exact Or.inr a
    · exact Or.inr (wW_t n p m q h0 h1 a b)
/-- on a ROUND with a way that GROWS: as the class has it, as the reference has it -/
def wGc (w : Int → Int → Int) (n : Nat) (r : Int) : Prop := ∃ p q : Int, (0 ≤ p ∧ p < n) ∧ (0 ≤ q ∧ q < n) ∧ w p q = 2 ∧ wL (fun a b => 1 ≤ w a b) n q p ∧ wL (fun a b => 1 ≤ w a b) n p r ∧ wL (fun a b => 1 ≤ w a b) n r p
def wGr (w : Int → Int → Int) (n : Nat) (r : Int) : Prop := ∃ u v : Int, (0 ≤ u ∧ u < n) ∧ (0 ≤ v ∧ v < n) ∧ w u v = 2 ∧ wL (fun a b => 1 ≤ w a b) n r u ∧ wL (fun a b => 1 ≤ w a b) n v r
theorem wG_eq {w : Int → Int → Int} {n : Nat} {r : Int} (r0 : 0 ≤ r) (r1 : r < n) : wGc w n r ↔ wGr w n r := by
  constructor
  · rintro ⟨p, q, hp, hq, e, a, b, c⟩
    exact ⟨p, q, hp, hq, e, c, wL_t hp.1 hp.2 a b⟩
  · rintro ⟨u, v, hu, hv, e, a, b⟩
    have uv : wL (fun a b => 1 ≤ w a b) n u v := Or.inr (wW_e n (by show 1 ≤ w u v; omega))
    exact ⟨u, v, hu, hv, e, wL_t r0 r1 b a, wL_t hv.1 hv.2 uv b, a⟩
theorem wGr_c {w w' : Int → Int → Int} {n : Nat} {r : Int} (h : ∀ p q : Int, 0 ≤ p → p < n → 0 ≤ q → q < n → w p q = w' p q) (r0 : 0 ≤ r) (r1 : r < n) : wGr w n r ↔ wGr w' n r := by
  have key : ∀ a b : Int, 0 ≤ a → a < n → 0 ≤ b → b < n → (wL (fun a b => 1 ≤ w a b) n a b ↔ wL (fun a b => 1 ≤ w' a b) n a b) := fun a b a0 a1 b0 b1 => by
    unfold wL
    rw [wW_c (N := (n : Int)) (E := fun a b => 1 ≤ w a b) (E' := fun a b => 1 ≤ w' a b) (fun p q p0 p1 q0 q1 => by show 1 ≤ w p q ↔ 1 ≤ w' p q; rw [h p q p0 p1 q0 q1]) n (Int.le_refl _) a b a0 a1 b0 b1]
  constructor
  · rintro ⟨u, v, hu, hv, e, a, b⟩
    exact ⟨u, v, hu, hv, by rw [← h u v hu.1 hu.2 hv.1 hv.2]; exact e, (key r u r0 r1 hu.1 hu.2).mp a, (key v r hv.1 hv.2 r0 r1).mp b⟩
  · rintro ⟨u, v, hu, hv, e, a, b⟩
    exact ⟨u, v, hu, hv, by rw [h u v hu.1 hu.2 hv.1 hv.2]; exact e, (key r u r0 r1 hu.1 hu.2).mpr a, (key v r hv.1 hv.2 r0 r1).mpr b⟩
/-! ### the reference's reach, one by one -/
def rWv (m : zM) : Int → Int → Int := fun a b => m.1 86 (80 * a + b)
def rEd (m : zM) : Int → Int → Prop := fun a b => 1 ≤ rWv m a b
def wRg (m : zM) (n : Int) (k : Nat) (p q : Int) : Prop := ∀ a b : Int, 0 ≤ a → a < n → 0 ≤ b → b < n → ((a < p ∨ (a = p ∧ b < q)) → (m.1 87 (80 * a + b) = 1 ↔ wW (rEd m) (k + 1) a b)) ∧ (¬ (a < p ∨ (a = p ∧ b < q)) → (m.1 87 (80 * a + b) = 1 ↔ wW (rEd m) k a b)) ∧ (m.1 87 (80 * a + b) = 0 ∨ m.1 87 (80 * a + b) = 1)
theorem wRg_0 {m : zM} {n : Int} (hn : n ≤ 80) (h : ∀ w : Int, 0 ≤ w → w < 6400 → (m.1 87 w = 1 ↔ 1 ≤ m.1 86 w) ∧ (m.1 87 w = 0 ∨ m.1 87 w = 1)) : wRg m n 0 0 0 := fun a b a0 a1 b0 b1 => by
  have w := h (80 * a + b) (by omega) (by omega)
  exact ⟨fun q => by exfalso; omega, fun _ => w.1, w.2⟩
theorem wRg_p {m : zM} {n : Int} {k : Nat} {p q : Int} (h : wRg m n k p q) (hq : n ≤ q) : wRg m n k (p + 1) 0 := fun a b a0 a1 b0 b1 => by
  have w := h a b a0 a1 b0 b1
  exact ⟨fun z => w.1 (by omega), fun z => w.2.1 (by omega), w.2.2⟩
theorem wRg_k {m : zM} {n : Int} {k : Nat} {p : Int} (h : wRg m n k p 0) (hp : n ≤ p) : wRg m n (k + 1) 0 0 := fun a b a0 a1 b0 b1 => by
  have w := h a b a0 a1 b0 b1
  exact ⟨fun z => by exfalso; omega, fun _ => w.1 (by omega), w.2.2⟩
theorem wRg_s {m m' : zM} {n : Int} {k : Nat} {p q x : Int} (h : wRg m n k p q) (hn : n ≤ 80) (hk : (k : Int) < n) (hp : 0 ≤ p ∧ p < n) (hq : 0 ≤ q ∧ q < n) (e : m' = zu m 87 (80 * p + q) x) (hx : x = 0 ∨ x = 1) (hv : x = 1 ↔ m.1 87 (80 * p + q) = 1 ∨ (m.1 87 (80 * p + k) = 1 ∧ m.1 87 (80 * k + q) = 1)) : wRg m' n k p (q + 1) := fun a b a0 a1 b0 b1 => by
  have hE : rEd m' = rEd m := by unfold rEd rWv; rw [e, zu_ne (by decide)]
  have w := h a b a0 a1 b0 b1
  by_cases c : a = p ∧ b = q
  · obtain ⟨rfl, rfl⟩ := c
    have v : m'.1 87 (80 * a + b) = x := by rw [e, zu_at]
    have w1 := w.2.1 (by omega)
    have wk := h a k a0 a1 (by omega) hk
    have wq := h k b (by omega) hk b0 b1
    have e1 : m.1 87 (80 * a + k) = 1 ↔ wW (rEd m) k a k := by
      by_cases z : a < a ∨ (a = a ∧ (k : Int) < b)
      · exact (wk.1 z).trans wW_pk
      · exact wk.2.1 z
    have e2 : m.1 87 (80 * k + b) = 1 ↔ wW (rEd m) k k b := by
      by_cases z : (k : Int) < a ∨ ((k : Int) = a ∧ b < b)
      · exact (wq.1 z).trans wW_kq
      · exact wq.2.1 z
    rw [v, hE]
    refine ⟨fun _ => ?_, fun z => by exfalso; omega, hx⟩
    rw [hv, w1, e1, e2]
    exact Iff.rfl
  · have v : m'.1 87 (80 * a + b) = m.1 87 (80 * a + b) := by rw [e, zu_nk (fun z => c (by omega))]
    rw [v, hE]
    exact ⟨fun z => w.1 (by omega), fun z => w.2.1 (by omega), w.2.2⟩
/-- as the reference asks whether one is on such a ROUND -/
def rOq (m : zM) (p u v : Int) : Prop := m.1 86 (80 * u + v) = 2 ∧ (u = p ∨ m.1 87 (80 * p + u) ≠ 0) ∧ (v = p ∨ m.1 87 (80 * v + p) ≠ 0)
def rOg (m : zM) (n p : Int) : Prop := ∃ u v : Int, (0 ≤ u ∧ u < n) ∧ (0 ≤ v ∧ v < n) ∧ rOq m p u v
def rRc (m : zM) (n : Int) : Prop := ∀ a b : Int, 0 ≤ a → a < n → 0 ≤ b → b < n → (m.1 87 (80 * a + b) = 1 ↔ wW (rEd m) n.toNat a b) ∧ (m.1 87 (80 * a + b) = 0 ∨ m.1 87 (80 * a + b) = 1)
theorem rRc_mk {m : zM} {n : Int} {k : Nat} (h : wRg m n k 0 0) (hk : (k : Int) = n) : rRc m n := fun a b a0 a1 b0 b1 => by
  have w := h a b a0 a1 b0 b1
  rw [show n.toNat = k by omega]
  exact ⟨w.2.1 (by omega), w.2.2⟩
theorem rOg_r {m : zM} {n p : Int} (h : rRc m n) (hp : 0 ≤ p ∧ p < n) : rOg m n p ↔ wGr (rWv m) n.toNat p := by
  have cast : ((n.toNat : Nat) : Int) = n := by omega
  have key : ∀ a b : Int, 0 ≤ a → a < n → 0 ≤ b → b < n → ((a = b ∨ m.1 87 (80 * a + b) ≠ 0) ↔ wL (fun a b => 1 ≤ rWv m a b) n.toNat a b) := fun a b a0 a1 b0 b1 => by
    have w := h a b a0 a1 b0 b1
    have z : m.1 87 (80 * a + b) ≠ 0 ↔ m.1 87 (80 * a + b) = 1 := by have := w.2; omega
    unfold wL
    rw [z, w.1]
    exact Iff.rfl
  constructor
  · rintro ⟨u, v, hu, hv, e, a, b⟩
    exact ⟨u, v, by rw [cast]; exact hu, by rw [cast]; exact hv, e, (key p u hp.1 hp.2 hu.1 hu.2).mp (a.imp Eq.symm id), (key v p hv.1 hv.2 hp.1 hp.2).mp b⟩
  · rintro ⟨u, v, hu, hv, e, a, b⟩
    rw [cast] at hu hv
    exact ⟨u, v, hu, hv, e, ((key p u hp.1 hp.2 hu.1 hu.2).mpr a).imp Eq.symm id, (key v p hv.1 hv.2 hp.1 hp.2).mpr b⟩
theorem rRc_f {m m' : zM} {n : Int} (h : rRc m n) (e86 : m'.1 86 = m.1 86) (e87 : m'.1 87 = m.1 87) : rRc m' n := by
  have hE : rEd m' = rEd m := by unfold rEd rWv; rw [e86]
  intro a b a0 a1 b0 b1
  rw [e87, hE]
  exact h a b a0 a1 b0 b1
