def xk_X0_count : zC := fun As μ Q => ∃ (a1 : Int), As = [.inr (.inr (52, 52)), .inl a1] ∧ ((-2147483648) ≤ a1 ∧ a1 ≤ 2147483647) ∧ (∀ (v : Int) (μ' : zM), zq0 μ μ' → 0 ≤ v → v ≤ 1 → Q (some (.inl v)) μ')
set_option maxHeartbeats 4000000 in
theorem xm_X0_count {g : zΓ} (hg : zg g) (d : Nat) (hd : 1 ≤ d) : zOk g d 13 xk_X0_count := by
  obtain ⟨d, rfl⟩ : ∃ d', d = d' + 1 := ⟨d - 1, by omega⟩
  refine zOk_straight hg (show mt_tab[13]? = some mt_X0_count from rfl) [5, 20] 21 rfl fun As μ Q hC => ?_
  obtain ⟨a1, rfl, ha1, hQ⟩ := hC
  refine ⟨rfl, ?_⟩
  have z0 : zq0 μ μ := zq0_r μ
  intro x1 hx1 kx1 lx1
  intro x2 hx2 kx2 lx2
  refine And.intro ⟨⟨by omega, by omega⟩, ⟨by omega, by omega⟩⟩ (And.intro (fun c3 => ?_) (fun c3 => ?_))
  · intro x4 hx4 kx4 lx4
    intro x5 hx5 kx5 lx5
    refine And.intro ⟨by omega, by omega⟩ ?_
    intro m6 em6
    have z7 := zq0_t z0 (zq0_u em6 (Or.inl (by decide)) (Or.inl ⟨by decide, by decide⟩))
    exact And.intro (zrtb (by omega)) (And.intro ⟨by omega, by omega⟩ (hQ _ _ z7 (by omega) (by omega)))
  · exact And.intro (zrtb (by omega)) (And.intro ⟨by omega, by omega⟩ (hQ _ _ z0 (by omega) (by omega)))
def xk_X0_addBound : zC := fun As μ Q => ∃ (a1 : Int) (a2 : Int), As = [.inr (.inr (52, 52)), .inl a1, .inl a2] ∧ ((-2147483648) ≤ a1 ∧ a1 ≤ 2147483647) ∧ ((-2147483648) ≤ a2 ∧ a2 ≤ 2147483647) ∧ (∀ (μ' : zM), zq0 μ μ' → Q none μ')
set_option maxHeartbeats 4000000 in
theorem xm_X0_addBound {g : zΓ} (hg : zg g) (d : Nat) (hd : 2 ≤ d) : zOk g d 11 xk_X0_addBound := by
  obtain ⟨d, rfl⟩ : ∃ d', d = d' + 1 := ⟨d - 1, by omega⟩
  refine zOk_straight hg (show mt_tab[11]? = some mt_X0_addBound from rfl) [24, 26] 32 rfl fun As μ Q hC => ?_
  obtain ⟨a1, a2, rfl, ha1, ha2, hQ⟩ := hC
  refine ⟨rfl, ?_⟩
  have z0 : zq0 μ μ := zq0_r μ
  refine ⟨zk_X8_at, zm_X8_at hg d (by omega), _, _, _, rfl, ⟨by omega, by omega⟩, ?_⟩
  intro x1 kx1 lx1 fx1 gx1
  refine And.intro ⟨by omega, by omega⟩ (And.intro (fun c2 => ?_) (fun c2 => ?_))
  · exact And.intro rfl (hQ _ z0)
  · refine And.intro ⟨⟨by omega, by omega⟩, ⟨by omega, by omega⟩⟩ (And.intro (fun c3 => ?_) (fun c3 => ?_))
    · exact And.intro rfl (hQ _ z0)
    · intro x4 hx4 kx4 lx4
      intro x5 hx5 kx5 lx5
      refine ⟨zk_X8_set, zm_X8_set hg d (by omega), _, _, _, _, rfl, ⟨by omega, by omega⟩, ?_⟩
      refine And.intro ⟨by omega, by omega⟩ ?_
      intro m6 qm6 fm6 gm6
      have z7 := zq0_t z0 (zq0_s qm6 fm6 gm6 (by decide))
      refine ⟨zk_X8_set, zm_X8_set hg d (by omega), _, _, _, _, rfl, ⟨by omega, by omega⟩, ?_⟩
      refine And.intro ⟨by omega, by omega⟩ ?_
      intro m8 qm8 fm8 gm8
      have z9 := zq0_t z7 (zq0_s qm8 fm8 gm8 (by decide))
      exact And.intro rfl (hQ _ z9)
def xk_X0_bind : zC := fun As μ Q => ∃ (a1 : Int) (a2 : Int) (a3 : Int), As = [.inr (.inr (52, 52)), .inl a1, .inl a2, .inl a3] ∧ ((-2147483648) ≤ a1 ∧ a1 ≤ 2147483647) ∧ (0 ≤ a2 ∧ a2 ≤ 3) ∧ (0 ≤ a3 ∧ a3 ≤ 164) ∧ (∀ (v : Int) (μ' : zM), zq0 μ μ' → 0 ≤ v → v ≤ 1 → Q (some (.inl v)) μ')
set_option maxHeartbeats 4000000 in
theorem xm_X0_bind {g : zΓ} (hg : zg g) (d : Nat) (hd : 4 ≤ d) : zOk g d 10 xk_X0_bind := by
  obtain ⟨d, rfl⟩ : ∃ d', d = d' + 1 := ⟨d - 1, by omega⟩
  refine zOk_loop hg (show mt_tab[10]? = some mt_X0_bind from rfl) ([(94, [0, 3, 4, 6, 7, 8])], [20, 88, 114, 117]) 110 rfl fun As μ Q hC => ?_
  obtain ⟨a1, a2, a3, rfl, ha1, ha2, ha3, hQ⟩ := hC
  have z0 : zq0 μ μ := zq0_r μ
  refine ⟨rfl, fun pc vs μ' n => ∃ (v3 : Int) (v4 : Int) (v6 : Int) (v7 : Int) (v8 : Int), vs = [.inr (.inr (52, 52)), .inl v3, .inl v4, .inl v6, .inl v7, .inl v8] ∧ zq0 μ μ' ∧ ((-2147483648) ≤ v3 ∧ v3 ≤ 2147483647) ∧ ((-2147483648) ≤ v4 ∧ v4 ≤ 2147483647) ∧ ((-2147483648) ≤ v6 ∧ v6 ≤ 2147483647) ∧ ((-2147483648) ≤ v7 ∧ v7 ≤ 2147483647) ∧ (0 ≤ v8 ∧ v8 ≤ 2147483647) ∧ n = (Int.toNat (2147483648 - v8)), ?_, ?_, trivial⟩
  · refine ⟨zk_X8_at, zm_X8_at hg d (by omega), _, _, _, rfl, ⟨by omega, by omega⟩, ?_⟩
    intro x1 kx1 lx1 fx1 gx1
    refine ⟨zk_X6_head, zm_X6_head hg d (by omega), _, rfl, ⟨by omega, by omega⟩, ?_⟩
    intro x2 kx2 lx2
    intro x3 hx3 kx3 lx3
    refine ⟨zk_X6_part, zm_X6_part hg d (by omega), _, _, rfl, ⟨by omega, by omega⟩, ⟨by omega, by omega⟩, ?_⟩
    intro x4 kx4 lx4
    refine ⟨zk_X6_head, zm_X6_head hg d (by omega), _, rfl, ⟨by omega, by omega⟩, ?_⟩
    intro x5 kx5 lx5
    refine And.intro ⟨⟨by omega, by omega⟩, ⟨by omega, by omega⟩⟩ (And.intro (fun c6 => ?_) (fun c6 => ?_))
    · intro t7 et7 ht7
      refine And.intro ht7.1 ?_
      refine ⟨zk_X6_head, zm_X6_head hg d (by omega), _, rfl, ⟨by omega, by omega⟩, ?_⟩
      intro x8 kx8 lx8
      refine ⟨zk_X8_at, zm_X8_at hg d (by omega), _, _, _, rfl, ⟨by omega, by omega⟩, ?_⟩
      refine And.intro (zfa (o := 2) (y2 := 16) ht7.1 rfl) ?_
      intro x9 kx9 lx9 fx9 gx9
      intro x10 hx10 kx10 lx10
      refine Exists.intro (Int.toNat (2147483648 - 0)) ?_
      exact ⟨_, _, _, _, _, rfl, z0, ⟨by omega, by omega⟩, ⟨by omega, by omega⟩, ⟨by omega, by omega⟩, ⟨by omega, by omega⟩, ⟨by omega, by omega⟩, rfl⟩
    · refine ⟨zk_X6_part, zm_X6_part hg d (by omega), _, _, rfl, ⟨by omega, by omega⟩, ⟨by omega, by omega⟩, ?_⟩
      intro x11 kx11 lx11
      refine ⟨xk_X0_addBound, xm_X0_addBound hg d (by omega), _, _, rfl, ⟨by omega, by omega⟩, ⟨by omega, by omega⟩, ?_⟩
      intro m12 qm12
      have z13 := zq0_t z0 qm12
      intro t14 et14 ht14
      refine And.intro ht14.1 ?_
      refine ⟨zk_X6_head, zm_X6_head hg d (by omega), _, rfl, ⟨by omega, by omega⟩, ?_⟩
      intro x15 kx15 lx15
      refine ⟨zk_X8_at, zm_X8_at hg d (by omega), _, _, _, rfl, ⟨by omega, by omega⟩, ?_⟩
      refine And.intro (zfa (o := 2) (y2 := 16) ht14.1 rfl) ?_
      intro x16 kx16 lx16 fx16 gx16
      intro x17 hx17 kx17 lx17
      refine Exists.intro (Int.toNat (2147483648 - 0)) ?_
      exact ⟨_, _, _, _, _, rfl, z13, ⟨by omega, by omega⟩, ⟨by omega, by omega⟩, ⟨by omega, by omega⟩, ⟨by omega, by omega⟩, ⟨by omega, by omega⟩, rfl⟩
  · intro vs m0 n hI
    clear z0
    obtain ⟨v3, v4, v6, v7, v8, rfl, z0, hv3, hv4, hv6, hv7, hv8, rfl⟩ := hI
    intro t18 et18 ht18
    refine And.intro ht18.1 ?_
    refine ⟨zk_X8_at, zm_X8_at hg d (by omega), _, _, _, rfl, ⟨by omega, by omega⟩, ?_⟩
    refine And.intro (zfa (o := 8) (y2 := 22) ht18.1 rfl) ?_
    intro x19 kx19 lx19 fx19 gx19
    refine And.intro ⟨⟨by omega, by omega⟩, ⟨by omega, by omega⟩⟩ (And.intro (fun c20 => ?_) (fun c20 => ?_))
    · refine ⟨zk_X8_at, zm_X8_at hg d (by omega), _, _, _, rfl, ⟨by omega, by omega⟩, ?_⟩
      intro x21 kx21 lx21 fx21 gx21
      refine And.intro ⟨by omega, by omega⟩ (And.intro (fun c22 => ?_) (fun c22 => ?_))
      · exact And.intro (zrtb (by omega)) (And.intro ⟨by omega, by omega⟩ (hQ _ _ z0 (by omega) (by omega)))
      · intro x23 hx23 kx23 lx23
        refine ⟨xk_X0_addBound, xm_X0_addBound hg d (by omega), _, _, rfl, ⟨by omega, by omega⟩, ⟨by omega, by omega⟩, ?_⟩
        intro m24 qm24
        have z25 := zq0_t z0 qm24
        exact And.intro (zrtb (by omega)) (And.intro ⟨by omega, by omega⟩ (hQ _ _ z25 (by omega) (by omega)))
    · intro x26 hx26 kx26 lx26
      intro x27 hx27 kx27 lx27
      intro t28 et28 ht28
      have qt28 : t18 = t28 := by omega
      subst qt28
      refine And.intro ht18.1 ?_
      refine ⟨zk_X8_at, zm_X8_at hg d (by omega), _, _, _, rfl, ⟨by omega, by omega⟩, ?_⟩
      refine And.intro (zfa (o := 10) (y2 := 24) ht18.1 rfl) ?_
      intro x29 kx29 lx29 fx29 gx29
      refine ⟨xk_X0_count, xm_X0_count hg d (by omega), _, rfl, ⟨by omega, by omega⟩, ?_⟩
      intro x30 m31 qm31 kx30 lx30
      have z32 := zq0_t z0 qm31
      refine And.intro ⟨by omega, by omega⟩ (And.intro (fun c33 => ?_) (fun c33 => ?_))
      · intro t34 et34 ht34
        refine And.intro ht34.1 ?_
        intro t35 et35 ht35
        have qt35 : t34 = t35 := by omega
        subst qt35
        refine And.intro ht34.1 ?_
        refine ⟨zk_X8_at, zm_X8_at hg d (by omega), _, _, _, rfl, ⟨by omega, by omega⟩, ?_⟩
        refine And.intro (zfa (o := 9) (y2 := 23) ht34.1 rfl) ?_
        intro x36 kx36 lx36 fx36 gx36
        refine ⟨_, zOk_tag (xm_X6_put hg d (by omega)), [.inr (.inr (59, 59)), .inr (.inr ((Nat.add t34 11), 1001)), .inl x36, .inl x29, .inr (.inr (58, 1001)), .inl v3, .inl v6], rfl, _, _, _, _, _, _, rfl, (zIa_f (zfa (o := 11) (y2 := 25) ht34.1 rfl) (by decide) (by decide)), ⟨by omega, by omega⟩, ⟨by omega, by omega⟩, (Or.inr ⟨by decide, by decide⟩), ⟨by omega, by omega⟩, ⟨by omega, by omega⟩, ?_⟩
        intro x37 m38 qm38 kx37 lx37 p39
        have z40 := zq0_t z32 qm38
        refine ⟨xk_X0_addBound, xm_X0_addBound hg d (by omega), _, _, rfl, ⟨by omega, by omega⟩, ⟨by omega, by omega⟩, ?_⟩
        intro m41 qm41
        have z42 := zq0_t z40 qm41
        refine Exists.intro (Int.toNat (2147483648 - (v8 + 1))) (And.intro (by omega) ?_)
        exact ⟨_, _, _, _, _, rfl, z42, ⟨by omega, by omega⟩, ⟨by omega, by omega⟩, ⟨by omega, by omega⟩, ⟨by omega, by omega⟩, ⟨by omega, by omega⟩, rfl⟩
      · exact And.intro (zrtb (by omega)) (And.intro ⟨by omega, by omega⟩ (hQ _ _ z32 (by omega) (by omega)))
def xk_X0_captureArgs : zC := fun As μ Q => ∃ (a1 : Int) (a2 : Int), As = [.inr (.inr (52, 52)), .inl a1, .inl a2] ∧ ((-2147483648) ≤ a1 ∧ a1 ≤ 2147483647) ∧ (0 ≤ a2 ∧ a2 ≤ 164) ∧ (∀ (v : Int) (μ' : zM), zq0 μ μ' → 0 ≤ v → v ≤ 1 → Q (some (.inl v)) μ')
set_option maxHeartbeats 4000000 in
theorem xm_X0_captureArgs {g : zΓ} (hg : zg g) (d : Nat) (hd : 5 ≤ d) : zOk g d 9 xk_X0_captureArgs := by
  obtain ⟨d, rfl⟩ : ∃ d', d = d' + 1 := ⟨d - 1, by omega⟩
  refine zOk_loop hg (show mt_tab[9]? = some mt_X0_captureArgs from rfl) ([(12, [0, 1, 2, 3, 4]), (158, [0, 1, 2, 3, 4])], []) 107 rfl fun As μ Q hC => ?_
  obtain ⟨a1, a2, rfl, ha1, ha2, hQ⟩ := hC
  have z0 : zq0 μ μ := zq0_r μ
  refine ⟨rfl, fun pc vs μ' n => (pc = 12 → ∃ (v1 : Int) (v2 : Int) (v3 : Int) (v4 : Int), vs = [.inr (.inr (52, 52)), .inl v1, .inl v2, .inl v3, .inl v4] ∧ zq0 μ μ' ∧ ((-2147483648) ≤ v1 ∧ v1 ≤ 2147483647) ∧ (0 ≤ v2 ∧ v2 ≤ 164) ∧ (0 ≤ v3 ∧ v3 ≤ 4) ∧ (0 ≤ v4 ∧ v4 ≤ 2147483647) ∧ n = (Int.toNat (2147483648 - v4 + 8589934592))) ∧ (pc = 158 → ∃ (v1 : Int) (v2 : Int) (v3 : Int) (v4 : Int), vs = [.inr (.inr (52, 52)), .inl v1, .inl v2, .inl v3, .inl v4] ∧ zq0 μ μ' ∧ ((-2147483648) ≤ v1 ∧ v1 ≤ 2147483647) ∧ (0 ≤ v2 ∧ v2 ≤ 164) ∧ (0 ≤ v3 ∧ v3 ≤ 4) ∧ (0 ≤ v4 ∧ v4 ≤ 2147483647) ∧ n = (Int.toNat (2147483648 - v4))), ?_, ?_, ?_, trivial⟩
  · refine ⟨zk_X6_partsOf, zm_X6_partsOf hg d (by omega), _, rfl, ⟨by omega, by omega⟩, ?_⟩
    intro x1 kx1 lx1
    refine Exists.intro (Int.toNat (2147483648 - 0 + 8589934592)) ?_
    exact ⟨(fun _ => ⟨_, _, _, _, rfl, z0, ⟨by omega, by omega⟩, ⟨by omega, by omega⟩, ⟨by omega, by omega⟩, ⟨by omega, by omega⟩, rfl⟩), (fun h => absurd h (by decide))⟩
  · intro vs m0 n hI
    replace hI := hI.1 rfl
    clear z0
    obtain ⟨v1, v2, v3, v4, rfl, z0, hv1, hv2, hv3, hv4, rfl⟩ := hI
    refine And.intro ⟨⟨by omega, by omega⟩, ⟨by omega, by omega⟩⟩ (And.intro (fun c2 => ?_) (fun c2 => ?_))
    · refine Exists.intro (Int.toNat (2147483648 - 0)) (And.intro (by omega) ?_)
      exact ⟨(fun h => absurd h (by decide)), (fun _ => ⟨_, _, _, _, rfl, z0, ⟨by omega, by omega⟩, ⟨by omega, by omega⟩, ⟨by omega, by omega⟩, ⟨by omega, by omega⟩, rfl⟩)⟩
    · refine ⟨zk_X6_part, zm_X6_part hg d (by omega), _, _, rfl, ⟨by omega, by omega⟩, ⟨by omega, by omega⟩, ?_⟩
      intro x3 kx3 lx3
      refine ⟨zk_X6_head, zm_X6_head hg d (by omega), _, rfl, ⟨by omega, by omega⟩, ?_⟩
      intro x4 kx4 lx4
      refine ⟨zk_X8_isWild, zm_X8_isWild hg d (by omega), _, rfl, ⟨by omega, by omega⟩, ?_⟩
      intro x5 kx5 lx5
      refine And.intro ⟨by omega, by omega⟩ (And.intro (fun c6 => ?_) (fun c6 => ?_))
      · refine ⟨zk_X8_set, zm_X8_set hg d (by omega), _, _, _, _, rfl, ⟨by omega, by omega⟩, ?_⟩
        refine And.intro ⟨by omega, by omega⟩ ?_
        intro m7 qm7 fm7 gm7
        have z8 := zq0_t z0 (zq0_s qm7 fm7 gm7 (by decide))
        have : m7.1 52 ((13 : Nat) : Int) = m0.1 52 ((13 : Nat) : Int) := congrFun (fm7 52 (show (52 : Nat) ≠ 58 by omega)) _
        refine Exists.intro (Int.toNat (2147483648 - (v4 + 1) + 8589934592)) (And.intro (by omega) ?_)
        exact ⟨(fun _ => ⟨_, _, _, _, rfl, z8, ⟨by omega, by omega⟩, ⟨by omega, by omega⟩, ⟨by omega, by omega⟩, ⟨by omega, by omega⟩, rfl⟩), (fun h => absurd h (by decide))⟩
      · intro x9 hx9 kx9 lx9
        refine And.intro ⟨⟨by omega, by omega⟩, ⟨by omega, by omega⟩⟩ (And.intro (fun c10 => ?_) (fun c10 => ?_))
        · intro x11 hx11 kx11 lx11
          refine ⟨zk_X8_set, zm_X8_set hg d (by omega), _, _, _, _, rfl, ⟨by omega, by omega⟩, ?_⟩
          refine And.intro ⟨by omega, by omega⟩ ?_
          intro m12 qm12 fm12 gm12
          have z13 := zq0_t z0 (zq0_s qm12 fm12 gm12 (by decide))
          have : m12.1 52 ((13 : Nat) : Int) = m0.1 52 ((13 : Nat) : Int) := congrFun (fm12 52 (show (52 : Nat) ≠ 53 by omega)) _
          intro x14 hx14 kx14 lx14
          refine ⟨zk_X6_head, zm_X6_head hg d (by omega), _, rfl, ⟨by omega, by omega⟩, ?_⟩
          intro x15 kx15 lx15
          refine And.intro ⟨⟨by omega, by omega⟩, ⟨by omega, by omega⟩⟩ (And.intro (fun c16 => ?_) (fun c16 => ?_))
          · refine ⟨zk_X8_set, zm_X8_set hg d (by omega), _, _, _, _, rfl, ⟨by omega, by omega⟩, ?_⟩
            refine And.intro ⟨by omega, by omega⟩ ?_
            intro m17 qm17 fm17 gm17
            have z18 := zq0_t z13 (zq0_s qm17 fm17 gm17 (by decide))
            have : m17.1 52 ((13 : Nat) : Int) = m12.1 52 ((13 : Nat) : Int) := congrFun (fm17 52 (show (52 : Nat) ≠ 55 by omega)) _
            intro x19 hx19 kx19 lx19
            refine ⟨xk_X6_leaf, xm_X6_leaf hg d (by omega), _, rfl, ⟨by omega, by omega⟩, ?_⟩
            intro x20 m21 qm21 kx20 lx20 p22
            have z23 := zq0_t z18 qm21
            have : m21.1 52 ((13 : Nat) : Int) = m17.1 52 ((13 : Nat) : Int) := p22
            intro x24 hx24 kx24 lx24
            refine And.intro ⟨by omega, by omega⟩ ?_
            intro m25 em25
            have z26 := zq0_t z23 (zq0_u em25 (Or.inl (by decide)) (Or.inl ⟨by decide, by decide⟩))
            have : m25.1 52 ((13 : Nat) : Int) = (x24 + 1) := by rw [em25]; exact zu_at
            refine ⟨zk_X8_set, zm_X8_set hg d (by omega), _, _, _, _, rfl, ⟨by omega, by omega⟩, ?_⟩
            refine And.intro ⟨by omega, by omega⟩ ?_
            intro m27 qm27 fm27 gm27
            have z28 := zq0_t z26 (zq0_s qm27 fm27 gm27 (by decide))
            have : m27.1 52 ((13 : Nat) : Int) = m25.1 52 ((13 : Nat) : Int) := congrFun (fm27 52 (show (52 : Nat) ≠ 58 by omega)) _
            refine Exists.intro (Int.toNat (2147483648 - (v4 + 1) + 8589934592)) (And.intro (by omega) ?_)
            exact ⟨(fun _ => ⟨_, _, _, _, rfl, z28, ⟨by omega, by omega⟩, ⟨by omega, by omega⟩, ⟨by omega, by omega⟩, ⟨by omega, by omega⟩, rfl⟩), (fun h => absurd h (by decide))⟩
          · refine ⟨zk_X6_part, zm_X6_part hg d (by omega), _, _, rfl, ⟨by omega, by omega⟩, ⟨by omega, by omega⟩, ?_⟩
            intro x29 kx29 lx29
            refine ⟨zk_X8_set, zm_X8_set hg d (by omega), _, _, _, _, rfl, ⟨by omega, by omega⟩, ?_⟩
            refine And.intro ⟨by omega, by omega⟩ ?_
            intro m30 qm30 fm30 gm30
            have z31 := zq0_t z13 (zq0_s qm30 fm30 gm30 (by decide))
            have : m30.1 52 ((13 : Nat) : Int) = m12.1 52 ((13 : Nat) : Int) := congrFun (fm30 52 (show (52 : Nat) ≠ 55 by omega)) _
            intro x32 hx32 kx32 lx32
            refine ⟨xk_X6_leaf, xm_X6_leaf hg d (by omega), _, rfl, ⟨by omega, by omega⟩, ?_⟩
            intro x33 m34 qm34 kx33 lx33 p35
            have z36 := zq0_t z31 qm34
            have : m34.1 52 ((13 : Nat) : Int) = m30.1 52 ((13 : Nat) : Int) := p35
            intro x37 hx37 kx37 lx37
            refine And.intro ⟨by omega, by omega⟩ ?_
            intro m38 em38
            have z39 := zq0_t z36 (zq0_u em38 (Or.inl (by decide)) (Or.inl ⟨by decide, by decide⟩))
            have : m38.1 52 ((13 : Nat) : Int) = (x37 + 1) := by rw [em38]; exact zu_at
            refine ⟨zk_X8_set, zm_X8_set hg d (by omega), _, _, _, _, rfl, ⟨by omega, by omega⟩, ?_⟩
            refine And.intro ⟨by omega, by omega⟩ ?_
            intro m40 qm40 fm40 gm40
            have z41 := zq0_t z39 (zq0_s qm40 fm40 gm40 (by decide))
            have : m40.1 52 ((13 : Nat) : Int) = m38.1 52 ((13 : Nat) : Int) := congrFun (fm40 52 (show (52 : Nat) ≠ 58 by omega)) _
            refine Exists.intro (Int.toNat (2147483648 - (v4 + 1) + 8589934592)) (And.intro (by omega) ?_)
            exact ⟨(fun _ => ⟨_, _, _, _, rfl, z41, ⟨by omega, by omega⟩, ⟨by omega, by omega⟩, ⟨by omega, by omega⟩, ⟨by omega, by omega⟩, rfl⟩), (fun h => absurd h (by decide))⟩
        · exact And.intro (zrtb (by omega)) (And.intro ⟨by omega, by omega⟩ (hQ _ _ z0 (by omega) (by omega)))
  · intro vs m0 n hI
    replace hI := hI.2 rfl
    clear z0
    obtain ⟨v1, v2, v3, v4, rfl, z0, hv1, hv2, hv3, hv4, rfl⟩ := hI
    refine And.intro ⟨⟨by omega, by omega⟩, ⟨by omega, by omega⟩⟩ (And.intro (fun c42 => ?_) (fun c42 => ?_))
    · exact And.intro (zrtb (by omega)) (And.intro ⟨by omega, by omega⟩ (hQ _ _ z0 (by omega) (by omega)))
    · refine ⟨zk_X6_part, zm_X6_part hg d (by omega), _, _, rfl, ⟨by omega, by omega⟩, ⟨by omega, by omega⟩, ?_⟩
      intro x43 kx43 lx43
      refine ⟨zk_X6_head, zm_X6_head hg d (by omega), _, rfl, ⟨by omega, by omega⟩, ?_⟩
      intro x44 kx44 lx44
      refine ⟨zk_X8_isWild, zm_X8_isWild hg d (by omega), _, rfl, ⟨by omega, by omega⟩, ?_⟩
      intro x45 kx45 lx45
      refine And.intro ⟨by omega, by omega⟩ (And.intro (fun c46 => ?_) (fun c46 => ?_))
      · refine Exists.intro (Int.toNat (2147483648 - (v4 + 1))) (And.intro (by omega) ?_)
        exact ⟨(fun h => absurd h (by decide)), (fun _ => ⟨_, _, _, _, rfl, z0, ⟨by omega, by omega⟩, ⟨by omega, by omega⟩, ⟨by omega, by omega⟩, ⟨by omega, by omega⟩, rfl⟩)⟩
      · refine ⟨xk_X0_bind, xm_X0_bind hg d (by omega), _, _, _, rfl, ⟨by omega, by omega⟩, ⟨by omega, by omega⟩, ⟨by omega, by omega⟩, ?_⟩
        intro x47 m48 qm48 kx47 lx47
        have z49 := zq0_t z0 qm48
        refine And.intro ⟨by omega, by omega⟩ (And.intro (fun c50 => ?_) (fun c50 => ?_))
        · refine Exists.intro (Int.toNat (2147483648 - (v4 + 1))) (And.intro (by omega) ?_)
          exact ⟨(fun h => absurd h (by decide)), (fun _ => ⟨_, _, _, _, rfl, z49, ⟨by omega, by omega⟩, ⟨by omega, by omega⟩, ⟨by omega, by omega⟩, ⟨by omega, by omega⟩, rfl⟩)⟩
        · exact And.intro (zrtb (by omega)) (And.intro ⟨by omega, by omega⟩ (hQ _ _ z49 (by omega) (by omega)))
def xk_X0_raise : zC := fun As μ Q => ∃ (a1 : Int) (a2 : Int) (a3 : Int), As = [.inr (.inr (52, 52)), .inl a1, .inl a2, .inl a3] ∧ ((-2147483648) ≤ a1 ∧ a1 ≤ 2147483647) ∧ ((-2147483648) ≤ a2 ∧ a2 ≤ 2147483647) ∧ (0 ≤ a3 ∧ a3 ≤ 164) ∧ (∀ (v : Int) (μ' : zM), zq0 μ μ' → (-2147483648) ≤ v → v ≤ 2147483647 → Q (some (.inl v)) μ')
set_option maxHeartbeats 4000000 in
theorem xm_X0_raise {g : zΓ} (hg : zg g) (d : Nat) (hd : 4 ≤ d) : zOk g d 12 xk_X0_raise := by
  obtain ⟨d, rfl⟩ : ∃ d', d = d' + 1 := ⟨d - 1, by omega⟩
  refine zOk_straight hg (show mt_tab[12]? = some mt_X0_raise from rfl) [] 39 rfl fun As μ Q hC => ?_
  obtain ⟨a1, a2, a3, rfl, ha1, ha2, ha3, hQ⟩ := hC
  refine ⟨rfl, ?_⟩
  have z0 : zq0 μ μ := zq0_r μ
  intro t1 et1 ht1
  refine And.intro ht1.1 ⟨zk_X4_overLength, zm_X4_overLength hg d (by omega), _, _, _, rfl, ht1.1, ⟨by omega, by omega⟩, ⟨by omega, by omega⟩, ?_⟩
  intro x2 kx2 lx2
  refine ⟨xk_X0_count, xm_X0_count hg d (by omega), _, rfl, ⟨by omega, by omega⟩, ?_⟩
  intro x3 m4 qm4 kx3 lx3
  have z5 := zq0_t z0 qm4
  refine And.intro ⟨by omega, by omega⟩ (And.intro (fun c6 => ?_) (fun c6 => ?_))
  · intro t7 et7 ht7
    refine And.intro ht7.1 ?_
    refine And.intro (zfa (o := 12) (y2 := 26) ht7.1 rfl) ?_
    intro t8 et8 ht8
    intro t9 et9 ht9
    have qt9 : t7 = t9 := by omega
    subst qt9
    refine And.intro ht7.1 ⟨zk_X4_overStart, zm_X4_overStart hg d (by omega), _, _, _, rfl, ht7.1, ⟨by omega, by omega⟩, ⟨by omega, by omega⟩, ?_⟩
    intro x10 kx10 lx10
    intro t11 et11 ht11
    have qt11 : t7 = t11 := by omega
    subst qt11
    refine And.intro ht7.1 ?_
    refine ⟨zk_X8_at, zm_X8_at hg d (by omega), _, _, _, rfl, ⟨by omega, by omega⟩, ?_⟩
    refine And.intro (zfa (o := 2) (y2 := 16) ht7.1 rfl) ?_
    intro x12 kx12 lx12 fx12 gx12
    refine ⟨_, zOk_tag (xm_X6_put hg d (by omega)), [.inr (.inr (59, 59)), .inr (.inr (t8, 1001)), .inl x10, .inl x2, .inr (.inr (58, 1001)), .inl a3, .inl x12], rfl, _, _, _, _, _, _, rfl, (Or.inl ht8.1), ⟨by omega, by omega⟩, ⟨by omega, by omega⟩, (Or.inr ⟨by decide, by decide⟩), ⟨by omega, by omega⟩, ⟨by omega, by omega⟩, ?_⟩
    intro x13 m14 qm14 kx13 lx13 p15
    have z16 := zq0_t z5 qm14
    exact And.intro trivial (And.intro ⟨by omega, by omega⟩ (hQ _ _ z16 (by omega) (by omega)))
  · exact And.intro trivial (And.intro ⟨by omega, by omega⟩ (hQ _ _ z5 (by omega) (by omega)))
def xk_X0_nodeAbove : zC := fun As μ Q => ∃ (a1 : Int) (a2 : Int), As = [.inr (.inr (52, 52)), .inl a1, .inl a2] ∧ ((-2147483648) ≤ a1 ∧ a1 ≤ 2147483647) ∧ ((-2147483648) ≤ a2 ∧ a2 ≤ 2147483647) ∧ (∀ (v : Int) (μ' : zM), zq0 μ μ' → (-2147483648) ≤ v → v ≤ 2147483647 → Q (some (.inl v)) μ')
set_option maxHeartbeats 4000000 in
theorem xm_X0_nodeAbove {g : zΓ} (hg : zg g) (d : Nat) (hd : 6 ≤ d) : zOk g d 4 xk_X0_nodeAbove := by
  obtain ⟨d, rfl⟩ : ∃ d', d = d' + 1 := ⟨d - 1, by omega⟩
  refine zOk_straight hg (show mt_tab[4]? = some mt_X0_nodeAbove from rfl) [] 44 rfl fun As μ Q hC => ?_
  obtain ⟨a1, a2, rfl, ha1, ha2, hQ⟩ := hC
  refine ⟨rfl, ?_⟩
  have z0 : zq0 μ μ := zq0_r μ
  refine ⟨zk_X6_head, zm_X6_head hg d (by omega), _, rfl, ⟨by omega, by omega⟩, ?_⟩
  intro x1 kx1 lx1
  refine And.intro ⟨by omega, by omega⟩ (And.intro (fun c2 => ?_) (fun c2 => ?_))
  · refine And.intro ⟨⟨by omega, by omega⟩, ⟨by omega, by omega⟩⟩ (And.intro (fun c3 => ?_) (fun c3 => ?_))
    · refine ⟨zk_X8_isClass, zm_X8_isClass hg d (by omega), _, rfl, ⟨by omega, by omega⟩, ?_⟩
      intro x4 kx4 lx4
      refine And.intro ⟨by omega, by omega⟩ (And.intro (fun c5 => ?_) (fun c5 => ?_))
      · exact And.intro trivial (And.intro ⟨by omega, by omega⟩ (hQ _ _ z0 (by omega) (by omega)))
      · intro t6 et6 ht6
        refine And.intro ht6.1 ⟨zk_X4_overLength, zm_X4_overLength hg d (by omega), _, _, _, rfl, ht6.1, ⟨by omega, by omega⟩, ⟨by omega, by omega⟩, ?_⟩
        intro x7 kx7 lx7
        refine And.intro ⟨by omega, by omega⟩ (And.intro (fun c8 => ?_) (fun c8 => ?_))
        · refine ⟨xk_X0_captureArgs, xm_X0_captureArgs hg d (by omega), _, _, rfl, ⟨by omega, by omega⟩, ⟨by omega, by omega⟩, ?_⟩
          intro x9 m10 qm10 kx9 lx9
          have z11 := zq0_t z0 qm10
          refine And.intro ⟨by omega, by omega⟩ (And.intro (fun c12 => ?_) (fun c12 => ?_))
          · exact And.intro trivial (And.intro ⟨by omega, by omega⟩ (hQ _ _ z11 (by omega) (by omega)))
          · refine ⟨xk_X0_raise, xm_X0_raise hg d (by omega), _, _, _, rfl, ⟨by omega, by omega⟩, ⟨by omega, by omega⟩, ⟨by omega, by omega⟩, ?_⟩
            intro x13 m14 qm14 kx13 lx13
            have z15 := zq0_t z11 qm14
            exact And.intro trivial (And.intro ⟨by omega, by omega⟩ (hQ _ _ z15 (by omega) (by omega)))
        · exact And.intro trivial (And.intro ⟨by omega, by omega⟩ (hQ _ _ z0 (by omega) (by omega)))
    · exact And.intro trivial (And.intro ⟨by omega, by omega⟩ (hQ _ _ z0 (by omega) (by omega)))
  · intro x16 hx16 kx16 lx16
    exact And.intro trivial (And.intro ⟨by omega, by omega⟩ (hQ _ _ z0 (by omega) (by omega)))
