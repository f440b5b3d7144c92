/-! ### pairs of arguments -/
def zk_X9_boundOf2 : zC := fun As μ Q => ∃ (a1 : Int) (a2 : Int), As = [.inr (.inr (66, 66)), .inl a1, .inl a2] ∧ (0 ≤ a1 ∧ a1 ≤ 19999) ∧ (0 ≤ a2 ∧ a2 ≤ 2) ∧ (μ.1 67 a1 = 2 ∨ μ.1 68 a1 ≤ 79) ∧ (μ.1 67 a1 = 2 ∨ a2 ≤ 1) ∧ (∀ (v : Int), (-1) ≤ v → v ≤ 19999 → (v = zbo μ a1 a2) → (0 ≤ μ.1 68 a1) → (1 ≤ zbn μ a1) → Q (some (.inl v)) μ)
set_option maxHeartbeats 2000000 in
theorem zm_X9_boundOf2 {g : zΓ} (hg : zg g) (d : Nat) (hd : 1 ≤ d) : zOk g d 162 zk_X9_boundOf2 := by
  obtain ⟨d, rfl⟩ : ∃ d', d = d' + 1 := ⟨d - 1, by omega⟩
  refine zOk_straight hg (show mt_tab[162]? = some mt_X9_boundOf from rfl) [] 61 rfl fun As μ Q hC => ?_
  obtain ⟨a1, a2, rfl, ha1, ha2, hp0, hp1, hQ⟩ := hC
  refine ⟨rfl, ?_⟩
  refine And.intro ⟨by omega, by omega⟩ ?_
  intro x1 hx1 kx1 lx1
  refine And.intro ⟨⟨by omega, by omega⟩, ⟨by omega, by omega⟩⟩ (And.intro (fun c2 => ?_) (fun c2 => ?_))
  · refine And.intro ⟨by omega, by omega⟩ ?_
    intro x3 hx3 kx3 lx3
    refine And.intro ⟨by omega, by omega⟩ ?_
    intro x4 hx4 kx4 lx4
    refine And.intro ⟨by omega, by omega⟩ (And.intro (fun c5 => ?_) (fun c5 => ?_))
    · refine And.intro ⟨by omega, by omega⟩ ?_
      intro x6 hx6 kx6 lx6
      refine And.intro ⟨by omega, by omega⟩ ?_
      intro x7 hx7 kx7 lx7
      exact And.intro trivial (And.intro ⟨by omega, by omega⟩ (hQ _ (by omega) (by omega) (by unfold zbo; subst_vars; (repeat' split) <;> omega) (by omega) (by unfold zbn; subst_vars; (repeat' split) <;> omega)))
    · refine And.intro ⟨by omega, by omega⟩ ?_
      intro x8 hx8 kx8 lx8
      exact And.intro trivial (And.intro ⟨by omega, by omega⟩ (hQ _ (by omega) (by omega) (by unfold zbo; subst_vars; (repeat' split) <;> omega) (by omega) (by unfold zbn; subst_vars; (repeat' split) <;> omega)))
  · refine And.intro ⟨by omega, by omega⟩ ?_
    intro x9 hx9 kx9 lx9
    refine And.intro ⟨by omega, by omega⟩ ?_
    intro x10 hx10 kx10 lx10
    refine And.intro ⟨by omega, by omega⟩ (And.intro (fun c11 => ?_) (fun c11 => ?_))
    · refine And.intro ⟨by omega, by omega⟩ ?_
      intro x12 hx12 kx12 lx12
      refine And.intro ⟨by omega, by omega⟩ ?_
      intro x13 hx13 kx13 lx13
      exact And.intro trivial (And.intro ⟨by omega, by omega⟩ (hQ _ (by omega) (by omega) (by unfold zbo; subst_vars; (repeat' split) <;> omega) (by omega) (by unfold zbn; subst_vars; (repeat' split) <;> omega)))
    · refine And.intro ⟨by omega, by omega⟩ ?_
      intro x14 hx14 kx14 lx14
      exact And.intro trivial (And.intro ⟨by omega, by omega⟩ (hQ _ (by omega) (by omega) (by unfold zbo; subst_vars; (repeat' split) <;> omega) (by omega) (by unfold zbn; subst_vars; (repeat' split) <;> omega)))
def zk_X9_isVariable2 : zC := fun As μ Q => ∃ (a1 : Int), As = [.inr (.inr (66, 66)), .inl a1] ∧ (0 ≤ a1 ∧ a1 ≤ 19999) ∧ (∀ (v : Int), 0 ≤ v → v ≤ 1 → ((v = 1 ∧ (μ.1 67 a1 = 1 ∨ μ.1 67 a1 = 2)) ∨ (v = 0 ∧ μ.1 67 a1 ≠ 1 ∧ μ.1 67 a1 ≠ 2)) → (0 ≤ μ.1 67 a1) → Q (some (.inl v)) μ)
set_option maxHeartbeats 2000000 in
theorem zm_X9_isVariable2 {g : zΓ} (hg : zg g) (d : Nat) (hd : 1 ≤ d) : zOk g d 160 zk_X9_isVariable2 := by
  obtain ⟨d, rfl⟩ : ∃ d', d = d' + 1 := ⟨d - 1, by omega⟩
  refine zOk_straight hg (show mt_tab[160]? = some mt_X9_isVariable from rfl) [] 21 rfl fun As μ Q hC => ?_
  obtain ⟨a1, rfl, ha1, hQ⟩ := hC
  refine ⟨rfl, ?_⟩
  refine And.intro ⟨by omega, by omega⟩ ?_
  intro x1 hx1 kx1 lx1
  refine And.intro ⟨⟨by omega, by omega⟩, ⟨by omega, by omega⟩⟩ (And.intro (fun c2 => ?_) (fun c2 => ?_))
  · exact And.intro (zrtb (by omega)) (And.intro ⟨by omega, by omega⟩ (hQ _ (by omega) (by omega) (by omega) (by omega)))
  · refine And.intro ⟨by omega, by omega⟩ ?_
    intro x3 hx3 kx3 lx3
    refine And.intro ⟨⟨by omega, by omega⟩, ⟨by omega, by omega⟩⟩ (And.intro (fun c4 => ?_) (fun c4 => ?_))
    · exact And.intro (zrtb (by omega)) (And.intro ⟨by omega, by omega⟩ (hQ _ (by omega) (by omega) (by omega) (by omega)))
    · exact And.intro (zrtb (by omega)) (And.intro ⟨by omega, by omega⟩ (hQ _ (by omega) (by omega) (by omega) (by omega)))
