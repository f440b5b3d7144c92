/-! ### a question is read: the tables stay -/
def zqj (j : Nat) : Prop := j = 0 ∨ (6 ≤ j ∧ j < 50) ∨ (52 ≤ j ∧ j < 66) ∨ (109 ≤ j ∧ j < 1000000) ∨ (3000006 ≤ j ∧ j < 3000050)
theorem zOk_mono {g : zΓ} {d a : Nat} {C C' : zC} (h : zOk g d a C) (hc : ∀ As μ Q, C' As μ Q → C As μ Q) : zOk g d a C' := fun As μ Q w hw hr hC => h As μ Q w hw hr (hc As μ Q hC)
