/-! ### PARAMETERS' classes -/
def rPk (m : zM) (B : yB) : Prop := ∀ p : Int, 0 ≤ p → p < B.1 0 1 → m.1 82 (80 + p) = B.1 7 p
theorem rPk_c {μ m : zM} {B B' : yB} (h : rPk μ B) (e : m.1 82 = μ.1 82) (e1 : B'.1 0 1 = B.1 0 1) (e7 : B'.1 7 = B.1 7) : rPk m B' := by
  unfold rPk
  rw [e, e1, e7]
  exact h
theorem rPk_m {μ m : zM} {B : yB} (h : rPk μ B) (e : m.1 82 = μ.1 82) : rPk m B := rPk_c h e rfl rfl
theorem rPk_ap {μ m : zM} {B : yB} {x o : Int} (h : rPk μ B) (ho : o = B.1 0 3) (h82 : ∀ k : Int, m.1 82 k = if k = 80 + B.1 0 1 then o else μ.1 82 k) : rPk m (yap B x) := by
  obtain ⟨⟨v0, v1, v2, v3⟩, ⟨w1, w2, w3, w4⟩, w5, -⟩ := yap_v B x
  intro p a b
  rw [v1] at b
  rw [h82]
  by_cases e : p = B.1 0 1
  · rw [if_pos (by omega), e, w2, ho]
  · rw [if_neg (by omega), (w5 p e).2.2]
    exact h p a (by omega)
