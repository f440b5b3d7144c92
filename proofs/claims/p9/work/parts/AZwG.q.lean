def qk_X8_above : zC := fun As μ Q => ∃ (B : yB), As = [.inr (.inr (0, 0))] ∧ (∀ i : Int, 0 ≤ i → i < μ.1 1 ((4 : Nat) : Int) → 0 ≤ μ.1 2 i ∧ μ.1 2 i ≤ 255) ∧ (0 ≤ μ.1 1 ((4 : Nat) : Int) ∧ μ.1 1 ((4 : Nat) : Int) ≤ 800) ∧ (∀ t : Nat, (t : Int) = μ.1 0 ((3 : Nat) : Int) → yRB μ t B ∧ yRS μ t 300 B) ∧ (∀ (v : Int) (μ' : zM), zqy μ μ' → (-2147483648) ≤ v → v ≤ 2147483647 → (μ'.1 1 ((4 : Nat) : Int) = 0) → (∃ x l, yQp ((μ.1 2, μ.1 1 ((4 : Nat) : Int)) : yT) B x l ∧ μ'.1 0 ((7 : Nat) : Int) = x) → Q (some (.inl v)) μ')
set_option maxHeartbeats 4000000 in
theorem qm_X8_above {g : zΓ} (hg : zg g) (d : Nat) (hd : 30 ≤ d) : zOk g d 107 qk_X8_above := by
  obtain ⟨d, rfl⟩ : ∃ d', d = d' + 1 := ⟨d - 1, by omega⟩
  refine zOk_straight hg (show mt_tab[107]? = some mt_X8_above from rfl) [36] 68 rfl fun As μ Q hC => ?_
  obtain ⟨B, rfl, hp0, hp1, hpB, hQ⟩ := hC
  refine ⟨rfl, ?_⟩
  have z0 : zqy μ μ := zqy_r μ
  intro t1 et1 ht1
  refine ⟨qk_X3_readPlace, qm_X3_readPlace hg d (by omega), _, B, rfl, ht1.1, hp0, hp1, hpB t1 et1, ?_⟩
  intro x2 m3 qm3 kx2 lx2 p4
  obtain ⟨xF, lF, FQ, FE⟩ : ∃ x l, yQp ((μ.1 2, μ.1 1 ((4 : Nat) : Int)) : yT) B x l ∧ m3.1 50 ((8 : Nat) : Int) = x := by
    rcases p4 with h | h
    · exact ⟨0, 0, h.2.1, h.2.2⟩
    · obtain ⟨x, l, h1, h2, h3⟩ := h.2; exact ⟨x, l, h1, h2⟩
  have L4 := qm3.2
  have z5 := zqy_t z0 (zqy_x qm3.1)
  intro x6 hx6 kx6 lx6
  refine And.intro ⟨by omega, by omega⟩ ?_
  intro m7 em7
  have z8 := zqy_t z5 (zqy_u em7 (Or.inl (by decide)) (Or.inl ⟨by decide, by decide⟩))
  have : m7.1 1 ((4 : Nat) : Int) = m3.1 1 ((4 : Nat) : Int) := by rw [em7]; exact congrFun (zu_ne (show (1 : Nat) ≠ 0 by omega)) _
  refine And.intro ⟨by omega, by omega⟩ (And.intro (fun c9 => ?_) (fun c9 => ?_))
  · intro t10 et10 ht10
    intro x11 hx11 kx11 lx11
    refine ⟨xk_X0_startOver, xm_X0_startOver hg d (by omega), _, _, rfl, ht10.1, ⟨by omega, by omega⟩, ?_⟩
    intro m12 qm12
    have z13 := zqy_t z8 (zqy_0 qm12)
    have : m12.1 1 ((4 : Nat) : Int) = m7.1 1 ((4 : Nat) : Int) ∨ m12.1 1 ((4 : Nat) : Int) = 0 := qm12.1.1.2.2.2.1
    intro t14 et14 ht14
    intro x15 hx15 kx15 lx15
    refine ⟨_, zOk_tag (xm_X0_nodeOf hg d (by omega)), [.inr (.inr (52, 52)), .inr (.inr (t14, 1001)), .inl 0, .inl x15], rfl, _, _, _, rfl, (zIa_200 ht14.1), ⟨by omega, by omega⟩, ⟨by omega, by omega⟩, ?_⟩
    intro x16 m17 qm17 kx16 lx16
    have z18 := zqy_t z13 (zqy_0 qm17)
    have : m17.1 1 ((4 : Nat) : Int) = m12.1 1 ((4 : Nat) : Int) ∨ m17.1 1 ((4 : Nat) : Int) = 0 := qm17.1.1.2.2.2.1
    intro x19 hx19 kx19 lx19
    refine ⟨xk_X0_nodeAbove, xm_X0_nodeAbove hg d (by omega), _, _, rfl, ⟨by omega, by omega⟩, ⟨by omega, by omega⟩, ?_⟩
    intro x20 m21 qm21 kx20 lx20
    have z22 := zqy_t z18 (zqy_0 qm21)
    have : m21.1 1 ((4 : Nat) : Int) = m17.1 1 ((4 : Nat) : Int) ∨ m21.1 1 ((4 : Nat) : Int) = 0 := qm21.1.1.2.2.2.1
    refine And.intro ⟨⟨by omega, by omega⟩, ⟨by omega, by omega⟩⟩ (And.intro (fun c23 => ?_) (fun c23 => ?_))
    · refine And.intro ⟨by omega, by omega⟩ (And.intro (fun c24 => ?_) (fun c24 => ?_))
      · intro t25 et25 ht25
        refine ⟨xk_X2_writeType, xm_X2_writeType hg d (by omega), _, _, rfl, ht25.1, ⟨by omega, by omega⟩, ?_⟩
        intro x26 m27 qm27 kx26 lx26 p28
        have z29 := zqy_t z22 (zqy_0 qm27)
        have : m27.1 1 ((4 : Nat) : Int) = m21.1 1 ((4 : Nat) : Int) := p28
        exact And.intro trivial (And.intro ⟨by omega, by omega⟩ (hQ _ _ z29 (by omega) (by omega) (by omega) ⟨xF, lF, FQ, by rw [qm27.2 0 (by decide), qm21.2 0 (by decide), qm17.2 0 (by decide), qm12.2 0 (by decide), em7, zu_at, hx6]; exact FE⟩))
      · exact And.intro trivial (And.intro ⟨by omega, by omega⟩ (hQ _ _ z22 (by omega) (by omega) (by omega) ⟨xF, lF, FQ, by rw [qm21.2 0 (by decide), qm17.2 0 (by decide), qm12.2 0 (by decide), em7, zu_at, hx6]; exact FE⟩))
    · exact And.intro trivial (And.intro ⟨by omega, by omega⟩ (hQ _ _ z22 (by omega) (by omega) (by omega) ⟨xF, lF, FQ, by rw [qm21.2 0 (by decide), qm17.2 0 (by decide), qm12.2 0 (by decide), em7, zu_at, hx6]; exact FE⟩))
  · intro x30 hx30 kx30 lx30
    intro x31 hx31 kx31 lx31
    exact And.intro trivial (And.intro ⟨by omega, by omega⟩ (hQ _ _ z8 (by omega) (by omega) (by omega) ⟨xF, lF, FQ, by rw [em7, zu_at, hx6]; exact FE⟩))
