/-! ### the old table stays while another one is read -/
def zOt (μ m : zM) : Prop := (∀ q : Int, q < 21 → m.1 76 q = μ.1 76 q ∧ m.1 77 q = μ.1 77 q ∧ m.1 79 q = μ.1 79 q) ∧ (∀ q : Int, q < 84 → m.1 78 q = μ.1 78 q) ∧ (∀ q : Int, q < 441 → m.1 80 q = μ.1 80 q) ∧ (∀ q : Int, q < 160 → m.1 83 q = μ.1 83 q) ∧ ∀ q : Int, q < 80 → m.1 84 q = μ.1 84 q
theorem zOt_r (μ : zM) : zOt μ μ := ⟨fun _ _ => ⟨rfl, rfl, rfl⟩, fun _ _ => rfl, fun _ _ => rfl, fun _ _ => rfl, fun _ _ => rfl⟩
theorem zOt_t {a b c : zM} (h1 : zOt a b) (h2 : zOt b c) : zOt a c := by
  obtain ⟨a1, a2, a3, a4, a5⟩ := h1
  obtain ⟨b1, b2, b3, b4, b5⟩ := h2
  exact ⟨fun q hq => ⟨(b1 q hq).1.trans (a1 q hq).1, (b1 q hq).2.1.trans (a1 q hq).2.1, (b1 q hq).2.2.trans (a1 q hq).2.2⟩, fun q hq => (b2 q hq).trans (a2 q hq), fun q hq => (b3 q hq).trans (a3 q hq), fun q hq => (b4 q hq).trans (a4 q hq), fun q hq => (b5 q hq).trans (a5 q hq)⟩
theorem zOt_fr {μ m m' : zM} (h : zOt μ m) (h76 : m'.1 76 = m.1 76) (h77 : m'.1 77 = m.1 77) (h78 : m'.1 78 = m.1 78) (h79 : m'.1 79 = m.1 79) (h80 : m'.1 80 = m.1 80) (h83 : m'.1 83 = m.1 83) (h84 : m'.1 84 = m.1 84) : zOt μ m' := by
  unfold zOt
  rw [h76, h77, h78, h79, h80, h83, h84]
  exact h
theorem zOt_w {μ m m' : zM} {j : Nat} {k x : Int} (h : zOt μ m) (e : m' = zu m j k x) (hk : (j = 76 ∨ j = 77 ∨ j = 79 → 21 ≤ k) ∧ (j = 78 → 84 ≤ k) ∧ (j = 80 → 441 ≤ k) ∧ (j = 83 → 160 ≤ k) ∧ (j = 84 → 80 ≤ k)) : zOt μ m' := by
  have ev : ∀ (r : Nat) (q : Int), (r = j → q ≠ k) → m'.1 r q = m.1 r q := fun r q hq => by
    by_cases z : r = j
    · rw [z, e, zu_nk (hq z)]
    · rw [e, zu_ne z]
  obtain ⟨a1, a2, a3, a4, a5⟩ := h
  refine ⟨fun q hq => ?_, fun q hq => ?_, fun q hq => ?_, fun q hq => ?_, fun q hq => ?_⟩
  · rw [ev 76 q (by omega), ev 77 q (by omega), ev 79 q (by omega)]; exact a1 q hq
  · rw [ev 78 q (by omega)]; exact a2 q hq
  · rw [ev 80 q (by omega)]; exact a3 q hq
  · rw [ev 83 q (by omega)]; exact a4 q hq
  · rw [ev 84 q (by omega)]; exact a5 q hq
