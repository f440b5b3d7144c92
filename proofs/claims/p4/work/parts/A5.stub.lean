/-! ### kindOf and makeRoom: what they keep -/
def zk_X5_kindOf : zC := fun As μ Q => ∃ (a1 : Int) (a2 : Int) (a3 : Int64), As = [.inl a1, .inl a2, .inr (.inl a3)] ∧ ((-2147483648) ≤ a1 ∧ a1 ≤ 2147483647) ∧ ((-2147483648) ≤ a2 ∧ a2 ≤ 2147483647) ∧ (∀ (v : Int), (-2147483648) ≤ v → v ≤ 2147483647 → Q (some (.inl v)) μ)
def zk_X1_makeRoom : zC := fun As μ Q => ∃ (t : Nat) (a1 : Int), As = [.inr (.inr (t, 26)), .inl a1] ∧ (t = 26 ∨ t = 44) ∧ ((-2147483648) ≤ a1 ∧ a1 ≤ 2147483647) ∧ (zcq μ) ∧ (∀ (μ' : zM), zle μ μ' → Q none μ')
