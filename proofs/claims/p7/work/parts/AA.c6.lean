/-! ### calls that throw nothing -/
def zk_X8_fault : zC := fun As μ Q => As = [.inr (.inr (0, 0))] ∧ (∀ (v : Int), (-2147483648) ≤ v → v ≤ 2147483647 → Q (some (.inl v)) μ)
set_option maxHeartbeats 4000000 in
theorem zm_X8_fault {g : zΓ} (hg : zg g) (d : Nat) (hd : 1 ≤ d) : zOk g d 100 zk_X8_fault := by
  obtain ⟨d, rfl⟩ : ∃ d', d = d' + 1 := ⟨d - 1, by omega⟩
  refine zOk_straight hg (show mt_tab[100]? = some mt_X8_fault from rfl) [] 8 rfl fun As μ Q hC => ?_
  obtain ⟨rfl, hQ⟩ := hC
  refine ⟨rfl, ?_⟩
  intro x1 hx1 kx1 lx1
  exact And.intro trivial (And.intro ⟨by omega, by omega⟩ (hQ _ (by omega) (by omega)))
