def yk_X3_parameterNames : zC := fun As μ Q => ∃ (τ : yT) (p : Int) (B : yB) (t : Nat), As = [.inr (.inr (50, 50))] ∧ (yDI τ μ p B t) ∧ (ykd τ p ≠ 0) ∧ (B.1 3 (B.1 0 3) = 0) ∧ (yZ B ∧ B.1 4 (B.1 0 3) = 0) ∧ (∀ (v : Int) (μ' : zM), zl0 μ μ' → 0 ≤ v → v ≤ 1 → ((v = 1 ∧ yPO τ (2, p, 0, [], B) t μ') ∨ (v = 0 ∧ yFa τ (2, p, 0, [], B) μ')) → Q (some (.inl v)) μ')
set_option maxHeartbeats 4000000 in
theorem ym_X3_parameterNames {g : zΓ} (hg : zg g) (d : Nat) (hd : 3 ≤ d) : zOk g d 43 yk_X3_parameterNames := by
  obtain ⟨d, rfl⟩ : ∃ d', d = d' + 1 := ⟨d - 1, by omega⟩
  refine zOk_loop hg (show mt_tab[43]? = some mt_X3_parameterNames from rfl) ([(2, [0, 1])], []) 78 rfl fun As μ Q hC => ?_
  obtain ⟨τ, p, B, t, rfl, hp0, hp1, hp2, hp3, hQ⟩ := hC
  have z0 : zl0 μ μ := zl0_r μ
  refine ⟨rfl, fun pc vs μ' n => ∃ (v1 : Int), vs = [.inr (.inr (50, 50)), .inl v1] ∧ zl0 μ μ' ∧ (0 ≤ v1 ∧ v1 ≤ 5) ∧ (yPI τ (2, p, 0, [], B) t v1 μ') ∧ n = (Int.toNat (2147483648 - v1)), ?_, ?_, trivial⟩
  · refine Exists.intro (Int.toNat (2147483648 - 0)) ?_
    exact ⟨_, rfl, z0, ⟨by omega, by omega⟩, ⟨p, B, ⟨yR_r τ _, hp1⟩, hp0, hp2.symm, hp3.1, hp3.2, rfl⟩, rfl⟩
  · intro vs m0 n hI
    clear z0
    obtain ⟨v1, rfl, z0, hv1, i0, rfl⟩ := hI
    obtain ⟨p0, B0, ⟨r0, k0⟩, D0, c0, Z0, S0, M0⟩ := i0
    have b0 := yDI_B D0
    refine And.intro ⟨⟨by omega, by omega⟩, ⟨by omega, by omega⟩⟩ (And.intro (fun c1 => ?_) (fun c1 => ?_))
    · exfalso; omega
    · refine ⟨yk_X5_step, ym_X5_step hg d (by omega), rfl, ?_⟩
      intro m2 qm2 p3
      have z4 := zl0_t z0 qm2
      have H1 := yDI_st D0 k0 p3
      have K1 := yTI_k H1.1.1
      have O1 := H1.1.1.2.1
      have RB := H1.1.1.2.2.1
      have RO := (RB.2.1 (B0.1 0 3) (by omega) (by omega)).1
      intro x5 hx5 kx5 lx5
      refine And.intro ⟨⟨by omega, by omega⟩, ⟨by omega, by omega⟩⟩ (And.intro (fun c6 => ?_) (fun c6 => ?_))
      · intro t7 et7 ht7
        have E1 : t7 = t := by have h0 := H1.1.1.2.1.2.1; omega
        intro x8 hx8 kx8 lx8
        intro j9 hj9
        refine And.intro ht7.1 ⟨yk_X4_findParameter, ym_X4_findParameter hg d (by omega), _, _, _, rfl, ht7.1, ⟨by omega, by omega⟩, (by rw [E1]; exact yRC_pre H1.1.1 _), ?_⟩
        intro x10 kx10 lx10 p11
        have FP : x10 = yfp B0 (ynm τ (ynx τ p0)).toInt := by have h0 := p11; rw [E1, show x8 = B0.1 0 3 by have h1 := H1.1.1.2.1.2.2.2.2.1; omega, show j9.toInt = (ynm τ (ynx τ p0)).toInt from hj9.trans K1.2.2] at h0; rw [h0]; exact yRC_fp H1.1.1 (by have h1 := yDI_B H1.1; omega) _
        refine And.intro ⟨by omega, by omega⟩ (And.intro (fun c12 => ?_) (fun c12 => ?_))
        · refine And.intro ⟨⟨by omega, by omega⟩, ⟨by omega, by omega⟩⟩ (And.intro (fun c13 => ?_) (fun c13 => ?_))
          · intro t14 et14 ht14
            have qt14 : t7 = t14 := by omega
            subst qt14
            intro x15 hx15 kx15 lx15
            intro j16 hj16
            refine And.intro ht7.1 ⟨yk_X4_addParameter, ym_X4_addParameter hg d (by omega), _, _, _, rfl, ht7.1, ⟨by omega, by omega⟩, ⟨by omega, by omega⟩, (by rw [E1, RB.1.2.1]; omega), (by rw [E1, show x15 = B0.1 0 3 by omega, RO.2.2.1]; omega), ?_⟩
            intro m17 qm17 p18
            have z19 := zl0_t z4 qm17
            have A1 := yRC_ap (m1 := m17) (x := (ynm τ (ynx τ p0)).toInt) H1.1.1 H1.1.2.2 (by omega) (show x15 = B0.1 0 3 by omega) (by have h0 := p18; rw [E1, show j16.toInt = (ynm τ (ynx τ p0)).toInt from hj16.trans K1.2.2] at h0; exact h0)
            have D1 : yDI τ m17 (ynx τ p0) (yap B0 (ynm τ (ynx τ p0)).toInt) t := ⟨A1.1, by rw [A1.2.1]; exact H1.1.2.1, A1.2.2⟩
            refine ⟨yk_X5_step, ym_X5_step hg d (by omega), rfl, ?_⟩
            intro m20 qm20 p21
            have z22 := zl0_t z19 qm20
            have H2 := yDI_st D1 (by omega) p21
            have K2 := yTI_k H2.1.1
            have VV := yap_v B0 (ynm τ (ynx τ p0)).toInt
            have S2 : (yap B0 (ynm τ (ynx τ p0)).toInt).1 4 ((yap B0 (ynm τ (ynx τ p0)).toInt).1 0 3) = 0 := by rw [VV.1.2.2.2, VV.2.2.2.2.1.2.2]; exact S0
            intro x23 hx23 kx23 lx23
            refine And.intro ⟨⟨by omega, by omega⟩, ⟨by omega, by omega⟩⟩ (And.intro (fun c24 => ?_) (fun c24 => ?_))
            · intro x25 hx25 kx25 lx25
              refine And.intro ⟨⟨by omega, by omega⟩, ⟨by omega, by omega⟩⟩ (And.intro (fun c26 => ?_) (fun c26 => ?_))
              · refine Exists.intro (Int.toNat (2147483648 - (v1 + 1))) (And.intro (by omega) ?_)
                exact ⟨_, rfl, z22, ⟨by omega, by omega⟩, ⟨_, _, ⟨yR_s r0 (ym2_c (by omega) (by omega) (by omega) (by omega)), by omega⟩, H2.1, by rw [VV.1.2.2.2, VV.2.1.2.2.2]; omega, yZ_ap Z0, S2, VV.1.1.trans M0⟩, rfl⟩
              · refine ⟨yk_X3_fail, ym_X3_fail hg d (by omega), _, rfl, ⟨by omega, by omega⟩, ?_⟩
                intro x27 m28 qm28 kx27 lx27 p29
                have z30 := zl0_t z22 qm28
                exact And.intro (zrtb (by omega)) (And.intro ⟨by omega, by omega⟩ (hQ _ _ z30 (by omega) (by omega) (Or.inr ⟨by omega, yFa_f H2.1.1 (yR_s r0 (ym2_f (by omega) (by omega) (by omega) (by omega) (by omega))) p29⟩)))
            · refine ⟨yk_X5_step, ym_X5_step hg d (by omega), rfl, ?_⟩
              intro m31 qm31 p32
              have z33 := zl0_t z22 qm31
              have H3 := yDI_st H2.1 (by omega) p32
              exact And.intro (zrtb (by omega)) (And.intro ⟨by omega, by omega⟩ (hQ _ _ z33 (by omega) (by omega) (Or.inl ⟨rfl, _, _, yR_s r0 (ym2_g (by omega) (by omega) (by omega) (by omega)), H3.1, yZ_ap Z0, S2, VV.1.1.trans M0⟩)))
          · refine ⟨yk_X3_fail, ym_X3_fail hg d (by omega), _, rfl, ⟨by omega, by omega⟩, ?_⟩
            intro x34 m35 qm35 kx34 lx34 p36
            have z37 := zl0_t z4 qm35
            exact And.intro (zrtb (by omega)) (And.intro ⟨by omega, by omega⟩ (hQ _ _ z37 (by omega) (by omega) (Or.inr ⟨by omega, yFa_f H1.1.1 (yR_s r0 (ym2_6 (by omega) (by omega) (by omega))) p36⟩)))
        · refine ⟨yk_X3_fail, ym_X3_fail hg d (by omega), _, rfl, ⟨by omega, by omega⟩, ?_⟩
          intro x38 m39 qm39 kx38 lx38 p40
          have z41 := zl0_t z4 qm39
          exact And.intro (zrtb (by omega)) (And.intro ⟨by omega, by omega⟩ (hQ _ _ z41 (by omega) (by omega) (Or.inr ⟨by omega, yFa_f H1.1.1 (yR_s r0 (ym2_3 (by omega) (by omega))) p40⟩)))
      · refine ⟨yk_X3_fail, ym_X3_fail hg d (by omega), _, rfl, ⟨by omega, by omega⟩, ?_⟩
        intro x42 m43 qm43 kx42 lx42 p44
        have z45 := zl0_t z4 qm43
        exact And.intro (zrtb (by omega)) (And.intro ⟨by omega, by omega⟩ (hQ _ _ z45 (by omega) (by omega) (Or.inr ⟨by omega, yFa_f H1.1.1 (yR_s r0 (ym2_2 (by omega))) p44⟩)))
def yk_X3_boundName : zC := fun As μ Q => ∃ (τ : yT) (p : Int) (B : yB) (t : Nat), As = [.inr (.inr (50, 50))] ∧ (yDI τ μ p B t) ∧ (ykd τ p ≠ 0) ∧ (∀ (v : Int) (μ' : zM), zl0 μ μ' → (-1) ≤ v → v ≤ 79 → ((0 ≤ v ∧ yNO τ (4, p, 0, [], B) B t v μ') ∨ (v = -1 ∧ yFa τ (4, p, 0, [], B) μ')) → Q (some (.inl v)) μ')
set_option maxHeartbeats 4000000 in
theorem ym_X3_boundName {g : zΓ} (hg : zg g) (d : Nat) (hd : 3 ≤ d) : zOk g d 46 yk_X3_boundName := by
  obtain ⟨d, rfl⟩ : ∃ d', d = d' + 1 := ⟨d - 1, by omega⟩
  refine zOk_straight hg (show mt_tab[46]? = some mt_X3_boundName from rfl) [] 62 rfl fun As μ Q hC => ?_
  obtain ⟨τ, p, B, t, rfl, hp0, hp1, hQ⟩ := hC
  refine ⟨rfl, ?_⟩
  have z0 : zl0 μ μ := zl0_r μ
  refine ⟨yk_X5_step, ym_X5_step hg d (by omega), rfl, ?_⟩
  intro m1 qm1 p2
  have z3 := zl0_t z0 qm1
  have H1 := yDI_st hp0 hp1 p2
  have K1 := yTI_k H1.1.1
  have O1 := H1.1.1.2.1
  have RB := H1.1.1.2.2.1
  have b0 := yDI_B H1.1
  intro x4 hx4 kx4 lx4
  refine And.intro ⟨⟨by omega, by omega⟩, ⟨by omega, by omega⟩⟩ (And.intro (fun c5 => ?_) (fun c5 => ?_))
  · intro t6 et6 ht6
    have E1 : t6 = t := by have h0 := H1.1.1.2.1.2.1; omega
    intro x7 hx7 kx7 lx7
    intro j8 hj8
    refine And.intro ht6.1 ⟨yk_X4_findParameter, ym_X4_findParameter hg d (by omega), _, _, _, rfl, ht6.1, ⟨by omega, by omega⟩, (by rw [E1]; exact yRC_pre H1.1.1 _), ?_⟩
    intro x9 kx9 lx9 p10
    have FP : x9 = yfp B (ynm τ (ynx τ p)).toInt := by have h0 := p10; rw [E1, show x7 = B.1 0 3 by have h1 := H1.1.1.2.1.2.2.2.2.1; omega, show j8.toInt = (ynm τ (ynx τ p)).toInt from hj8.trans K1.2.2] at h0; rw [h0]; exact yRC_fp H1.1.1 (by have h1 := yDI_B H1.1; omega) _
    refine And.intro ⟨by omega, by omega⟩ (And.intro (fun c11 => ?_) (fun c11 => ?_))
    · refine And.intro ⟨by omega, by omega⟩ (And.intro (fun c12 => ?_) (fun c12 => ?_))
      · exfalso; omega
      · refine ⟨yk_X3_fail, ym_X3_fail hg d (by omega), _, rfl, ⟨by omega, by omega⟩, ?_⟩
        intro x13 m14 qm14 kx13 lx13 p15
        have z16 := zl0_t z3 qm14
        exact And.intro trivial (And.intro ⟨by omega, by omega⟩ (hQ _ _ z16 (by omega) (by omega) (Or.inr ⟨by omega, yFa_f H1.1.1 (yR_s (yR_r τ _) (ym4_4 (by omega) (by omega))) p15⟩)))
    · have FB := yfp_B (B := B) (x := (ynm τ (ynx τ p)).toInt) (by omega)
      have CU := H1.1.2.2.2.2.1
      have RP := RB.2.2 x9 (by omega) (by omega)
      intro t17 et17 ht17
      have qt17 : t6 = t17 := by omega
      subst qt17
      refine And.intro ht6.1 ?_
      refine ⟨zk_X8_at, zm_X8_at hg d (by omega), _, _, _, rfl, ⟨by omega, by omega⟩, ?_⟩
      refine And.intro (zfa (o := 8) (y2 := 22) ht6.1 rfl) ?_
      intro x18 kx18 lx18 fx18 gx18
      have hx18 : x18 = m1.1 (Nat.add t6 8) x9 := (fx18 ⟨by omega, by omega⟩).1
      have ix18 := (fx18 ⟨by omega, by omega⟩).2
      have XB : x18 = B.1 6 x9 := by rw [hx18, E1]; exact RP.1.2.2
      refine And.intro ⟨by omega, by omega⟩ (And.intro (fun c19 => ?_) (fun c19 => ?_))
      · refine ⟨yk_X5_step, ym_X5_step hg d (by omega), rfl, ?_⟩
        intro m20 qm20 p21
        have z22 := zl0_t z3 qm20
        have H2 := yDI_st H1.1 (by omega) p21
        have K2 := yTI_k H2.1.1
        intro x23 hx23 kx23 lx23
        refine And.intro ⟨⟨by omega, by omega⟩, ⟨by omega, by omega⟩⟩ (And.intro (fun c24 => ?_) (fun c24 => ?_))
        · exact And.intro trivial (And.intro ⟨by omega, by omega⟩ (hQ _ _ z22 (by omega) (by omega) (Or.inl ⟨by omega, _, ⟨by have h0 := yR_s (yR_r τ (4, p, 0, [], B)) (ym4_k (by omega) (by omega) (by rw [← FP]; omega) (by omega)); rw [← FP] at h0; exact h0, by omega⟩, yDI_N H2.1 (by decide), ⟨by omega, by omega⟩, by omega⟩)))
        · refine ⟨yk_X3_fail, ym_X3_fail hg d (by omega), _, rfl, ⟨by omega, by omega⟩, ?_⟩
          intro x25 m26 qm26 kx25 lx25 p27
          have z28 := zl0_t z22 qm26
          exact And.intro trivial (And.intro ⟨by omega, by omega⟩ (hQ _ _ z28 (by omega) (by omega) (Or.inr ⟨by omega, yFa_f H2.1.1 (yR_s (yR_r τ _) (ym4_f (by omega) (by omega) (by rw [← FP]; omega) (by omega))) p27⟩)))
      · refine And.intro ⟨by omega, by omega⟩ (And.intro (fun c29 => ?_) (fun c29 => ?_))
        · refine ⟨yk_X3_fail, ym_X3_fail hg d (by omega), _, rfl, ⟨by omega, by omega⟩, ?_⟩
          intro x30 m31 qm31 kx30 lx30 p32
          have z33 := zl0_t z3 qm31
          exact And.intro trivial (And.intro ⟨by omega, by omega⟩ (hQ _ _ z33 (by omega) (by omega) (Or.inr ⟨by omega, yFa_f H1.1.1 (yR_s (yR_r τ _) (ym4_3 (by omega) (by omega) (by rw [← FP]; omega))) p32⟩)))
        · exfalso; omega
  · refine ⟨yk_X3_fail, ym_X3_fail hg d (by omega), _, rfl, ⟨by omega, by omega⟩, ?_⟩
    intro x34 m35 qm35 kx34 lx34 p36
    have z37 := zl0_t z3 qm35
    exact And.intro trivial (And.intro ⟨by omega, by omega⟩ (hQ _ _ z37 (by omega) (by omega) (Or.inr ⟨by omega, yFa_f H1.1.1 (yR_s (yR_r τ _) (ym4_2 (by omega))) p36⟩)))
