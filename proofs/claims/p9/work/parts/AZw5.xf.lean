def wk_X3_parameterNames : zC := fun As μ Q => ∃ (τ : yT) (p : Int) (B : yB) (t : Nat), As = [.inr (.inr (50, 50))] ∧ (yDJ τ μ p B t) ∧ (ykd τ p ≠ 0) ∧ (B.1 3 (B.1 0 3) = 0) ∧ (yZ B ∧ B.1 4 (B.1 0 3) = 0) ∧ (∀ (v : Int) (μ' : zM), (∀ T : Nat, T = t → zfr T μ μ') → 0 ≤ v → v ≤ 1 → ((v = 1 ∧ yPOj τ (2, p, 0, [], B) t μ') ∨ (v = 0 ∧ yFa τ (2, p, 0, [], B) μ')) → Q (some (.inl v)) μ')
set_option maxHeartbeats 4000000 in
theorem wm_X3_parameterNames {g : zΓ} (hg : zg g) (d : Nat) (hd : 3 ≤ d) : zOk g d 43 wk_X3_parameterNames := by
  obtain ⟨d, rfl⟩ : ∃ d', d = d' + 1 := ⟨d - 1, by omega⟩
  refine zOk_loop hg (show mt_tab[43]? = some mt_X3_parameterNames from rfl) ([(2, [0, 1])], []) 78 rfl fun As μ Q hC => ?_
  obtain ⟨τ, p, B, t, rfl, hp0, hp1, hp2, hp3, hQ⟩ := hC
  have z0 : zfr t μ μ := zfr_r t μ
  refine ⟨rfl, fun pc vs μ' n => ∃ (v1 : Int), vs = [.inr (.inr (50, 50)), .inl v1] ∧ zfr t μ μ' ∧ (0 ≤ v1 ∧ v1 ≤ 5) ∧ (yPIj τ (2, p, 0, [], B) t v1 μ') ∧ n = (Int.toNat (2147483648 - v1)), ?_, ?_, trivial⟩
  · refine Exists.intro (Int.toNat (2147483648 - 0)) ?_
    exact ⟨_, rfl, z0, ⟨by omega, by omega⟩, ⟨p, B, ⟨yR_r τ _, hp1⟩, hp0, hp2.symm, hp3.1, hp3.2, rfl⟩, rfl⟩
  · intro vs m0 n hI
    clear z0
    obtain ⟨v1, rfl, z0, hv1, i0, rfl⟩ := hI
    obtain ⟨p0, B0, ⟨r0, k0⟩, D0, c0, Z0, S0, M0⟩ := i0
    have b0 := yDJ_B D0
    refine And.intro ⟨⟨by omega, by omega⟩, ⟨by omega, by omega⟩⟩ (And.intro (fun c1 => ?_) (fun c1 => ?_))
    · exfalso; omega
    · refine ⟨wk_X5_step, wm_X5_step hg d (by omega), rfl, ?_⟩
      intro m2 qm2 p3
      have z4 := zfr_t z0 (qm2 t)
      have H1 := yDJ_st D0 k0 p3
      have K1 := yTI_k H1.1.1
      have O1 := H1.1.1.2.1
      have RB := H1.1.1.2.2.1
      have RO := (RB.2.1 (B0.1 0 3) (by omega) (by omega)).1
      intro x5 hx5 kx5 lx5
      refine And.intro ⟨⟨by omega, by omega⟩, ⟨by omega, by omega⟩⟩ (And.intro (fun c6 => ?_) (fun c6 => ?_))
      · intro t7 et7 ht7
        have E1 : t7 = t := by have h0 := H1.1.1.2.1.2.1; omega
        intro x8 hx8 kx8 lx8
        intro j9 hj9
        refine And.intro ht7.1 ⟨yk_X4_findParameter, ym_X4_findParameter hg d (by omega), _, _, _, rfl, ht7.1, ⟨by omega, by omega⟩, (by rw [E1]; exact yRC_pre H1.1.1 _), ?_⟩
        intro x10 kx10 lx10 p11
        have FP : x10 = yfp B0 (ynm τ (ynx τ p0)).toInt := by have h0 := p11; rw [E1, show x8 = B0.1 0 3 by have h1 := H1.1.1.2.1.2.2.2.2.1; omega, show j9.toInt = (ynm τ (ynx τ p0)).toInt from hj9.trans K1.2.2] at h0; rw [h0]; exact yRC_fp H1.1.1 (by have h1 := yDJ_B H1.1; omega) _
        refine And.intro ⟨by omega, by omega⟩ (And.intro (fun c12 => ?_) (fun c12 => ?_))
        · refine And.intro ⟨⟨by omega, by omega⟩, ⟨by omega, by omega⟩⟩ (And.intro (fun c13 => ?_) (fun c13 => ?_))
          · intro t14 et14 ht14
            have qt14 : t7 = t14 := by omega
            subst qt14
            intro x15 hx15 kx15 lx15
            intro j16 hj16
            refine And.intro ht7.1 ⟨wk_X4_addParameter, wm_X4_addParameter hg d (by omega), _, _, _, rfl, ht7.1, ⟨by omega, by omega⟩, ⟨by omega, by omega⟩, (by rw [E1, RB.1.2.1]; omega), (by rw [E1, show x15 = B0.1 0 3 by omega, RO.2.2.1]; omega), ?_⟩
            intro m17 qm17 p18
            have z19 := zfr_t z4 (qm17 t (by first | rfl | omega))
            have A1 := yRC_ap (m1 := m17) (x := (ynm τ (ynx τ p0)).toInt) H1.1.1 H1.1.2.2.1 (by omega) (show x15 = B0.1 0 3 by omega) (by have h0 := p18; rw [E1, show j16.toInt = (ynm τ (ynx τ p0)).toInt from hj16.trans K1.2.2] at h0; exact h0)
            have D1 : yDJ τ m17 (ynx τ p0) (yap B0 (ynm τ (ynx τ p0)).toInt) t := ⟨A1.1, by rw [A1.2.1]; exact H1.1.2.1, A1.2.2, yCv_ap (o := x15) H1.1.1.2.1.1.1 H1.1.2.2.2 (by have h0 := p18; rw [E1, show j16.toInt = (ynm τ (ynx τ p0)).toInt from hj16.trans K1.2.2] at h0; exact h0)⟩
            refine ⟨wk_X5_step, wm_X5_step hg d (by omega), rfl, ?_⟩
            intro m20 qm20 p21
            have z22 := zfr_t z19 (qm20 t)
            have H2 := yDJ_st D1 (by omega) p21
            have K2 := yTI_k H2.1.1
            have VV := yap_v B0 (ynm τ (ynx τ p0)).toInt
            have S2 : (yap B0 (ynm τ (ynx τ p0)).toInt).1 4 ((yap B0 (ynm τ (ynx τ p0)).toInt).1 0 3) = 0 := by rw [VV.1.2.2.2, VV.2.2.2.2.1.2.2]; exact S0
            intro x23 hx23 kx23 lx23
            refine And.intro ⟨⟨by omega, by omega⟩, ⟨by omega, by omega⟩⟩ (And.intro (fun c24 => ?_) (fun c24 => ?_))
            · intro x25 hx25 kx25 lx25
              refine And.intro ⟨⟨by omega, by omega⟩, ⟨by omega, by omega⟩⟩ (And.intro (fun c26 => ?_) (fun c26 => ?_))
              · refine Exists.intro (Int.toNat (2147483648 - (v1 + 1))) (And.intro (by omega) ?_)
                exact ⟨_, rfl, z22, ⟨by omega, by omega⟩, ⟨_, _, ⟨yR_s r0 (ym2_c (by omega) (by omega) (by omega) (by omega)), by omega⟩, H2.1, by rw [VV.1.2.2.2, VV.2.1.2.2.2]; omega, yZ_ap Z0, S2, VV.1.1.trans M0⟩, rfl⟩
              · refine ⟨wk_X3_fail, wm_X3_fail hg d (by omega), _, rfl, ⟨by omega, by omega⟩, ?_⟩
                intro x27 m28 qm28 kx27 lx27 p29
                have z30 := zfr_t z22 (qm28 t)
                exact And.intro (zrtb (by omega)) (And.intro ⟨by omega, by omega⟩ (hQ _ _ (fun T hT => by rw [hT]; exact z30) (by omega) (by omega) (Or.inr ⟨by omega, yFa_f H2.1.1 (yR_s r0 (ym2_f (by omega) (by omega) (by omega) (by omega) (by omega))) p29⟩)))
            · refine ⟨wk_X5_step, wm_X5_step hg d (by omega), rfl, ?_⟩
              intro m31 qm31 p32
              have z33 := zfr_t z22 (qm31 t)
              have H3 := yDJ_st H2.1 (by omega) p32
              exact And.intro (zrtb (by omega)) (And.intro ⟨by omega, by omega⟩ (hQ _ _ (fun T hT => by rw [hT]; exact z33) (by omega) (by omega) (Or.inl ⟨rfl, _, _, yR_s r0 (ym2_g (by omega) (by omega) (by omega) (by omega)), H3.1, yZ_ap Z0, S2, VV.1.1.trans M0⟩)))
          · refine ⟨wk_X3_fail, wm_X3_fail hg d (by omega), _, rfl, ⟨by omega, by omega⟩, ?_⟩
            intro x34 m35 qm35 kx34 lx34 p36
            have z37 := zfr_t z4 (qm35 t)
            exact And.intro (zrtb (by omega)) (And.intro ⟨by omega, by omega⟩ (hQ _ _ (fun T hT => by rw [hT]; exact z37) (by omega) (by omega) (Or.inr ⟨by omega, yFa_f H1.1.1 (yR_s r0 (ym2_6 (by omega) (by omega) (by omega))) p36⟩)))
        · refine ⟨wk_X3_fail, wm_X3_fail hg d (by omega), _, rfl, ⟨by omega, by omega⟩, ?_⟩
          intro x38 m39 qm39 kx38 lx38 p40
          have z41 := zfr_t z4 (qm39 t)
          exact And.intro (zrtb (by omega)) (And.intro ⟨by omega, by omega⟩ (hQ _ _ (fun T hT => by rw [hT]; exact z41) (by omega) (by omega) (Or.inr ⟨by omega, yFa_f H1.1.1 (yR_s r0 (ym2_3 (by omega) (by omega))) p40⟩)))
      · refine ⟨wk_X3_fail, wm_X3_fail hg d (by omega), _, rfl, ⟨by omega, by omega⟩, ?_⟩
        intro x42 m43 qm43 kx42 lx42 p44
        have z45 := zfr_t z4 (qm43 t)
        exact And.intro (zrtb (by omega)) (And.intro ⟨by omega, by omega⟩ (hQ _ _ (fun T hT => by rw [hT]; exact z45) (by omega) (by omega) (Or.inr ⟨by omega, yFa_f H1.1.1 (yR_s r0 (ym2_2 (by omega))) p44⟩)))
def wk_X3_boundName : zC := fun As μ Q => ∃ (τ : yT) (p : Int) (B : yB) (t : Nat), As = [.inr (.inr (50, 50))] ∧ (yDJ τ μ p B t) ∧ (ykd τ p ≠ 0) ∧ (∀ (v : Int) (μ' : zM), (∀ T : Nat, T = t → zfr T μ μ') → (-1) ≤ v → v ≤ 79 → ((0 ≤ v ∧ yNOj τ (4, p, 0, [], B) B t v μ') ∨ (v = -1 ∧ yFa τ (4, p, 0, [], B) μ')) → Q (some (.inl v)) μ')
set_option maxHeartbeats 4000000 in
theorem wm_X3_boundName {g : zΓ} (hg : zg g) (d : Nat) (hd : 3 ≤ d) : zOk g d 46 wk_X3_boundName := by
  obtain ⟨d, rfl⟩ : ∃ d', d = d' + 1 := ⟨d - 1, by omega⟩
  refine zOk_straight hg (show mt_tab[46]? = some mt_X3_boundName from rfl) [] 62 rfl fun As μ Q hC => ?_
  obtain ⟨τ, p, B, t, rfl, hp0, hp1, hQ⟩ := hC
  refine ⟨rfl, ?_⟩
  have z0 : zfr t μ μ := zfr_r t μ
  refine ⟨wk_X5_step, wm_X5_step hg d (by omega), rfl, ?_⟩
  intro m1 qm1 p2
  have z3 := zfr_t z0 (qm1 t)
  have H1 := yDJ_st hp0 hp1 p2
  have K1 := yTI_k H1.1.1
  have O1 := H1.1.1.2.1
  have RB := H1.1.1.2.2.1
  have b0 := yDJ_B H1.1
  intro x4 hx4 kx4 lx4
  refine And.intro ⟨⟨by omega, by omega⟩, ⟨by omega, by omega⟩⟩ (And.intro (fun c5 => ?_) (fun c5 => ?_))
  · intro t6 et6 ht6
    have E1 : t6 = t := by have h0 := H1.1.1.2.1.2.1; omega
    intro x7 hx7 kx7 lx7
    intro j8 hj8
    refine And.intro ht6.1 ⟨yk_X4_findParameter, ym_X4_findParameter hg d (by omega), _, _, _, rfl, ht6.1, ⟨by omega, by omega⟩, (by rw [E1]; exact yRC_pre H1.1.1 _), ?_⟩
    intro x9 kx9 lx9 p10
    have FP : x9 = yfp B (ynm τ (ynx τ p)).toInt := by have h0 := p10; rw [E1, show x7 = B.1 0 3 by have h1 := H1.1.1.2.1.2.2.2.2.1; omega, show j8.toInt = (ynm τ (ynx τ p)).toInt from hj8.trans K1.2.2] at h0; rw [h0]; exact yRC_fp H1.1.1 (by have h1 := yDJ_B H1.1; omega) _
    refine And.intro ⟨by omega, by omega⟩ (And.intro (fun c11 => ?_) (fun c11 => ?_))
    · refine And.intro ⟨by omega, by omega⟩ (And.intro (fun c12 => ?_) (fun c12 => ?_))
      · exfalso; omega
      · refine ⟨wk_X3_fail, wm_X3_fail hg d (by omega), _, rfl, ⟨by omega, by omega⟩, ?_⟩
        intro x13 m14 qm14 kx13 lx13 p15
        have z16 := zfr_t z3 (qm14 t)
        exact And.intro trivial (And.intro ⟨by omega, by omega⟩ (hQ _ _ (fun T hT => by rw [hT]; exact z16) (by omega) (by omega) (Or.inr ⟨by omega, yFa_f H1.1.1 (yR_s (yR_r τ _) (ym4_4 (by omega) (by omega))) p15⟩)))
    · have FB := yfp_B (B := B) (x := (ynm τ (ynx τ p)).toInt) (by omega)
      have CU := H1.1.2.2.1.2.2.1
      have RP := RB.2.2 x9 (by omega) (by omega)
      intro t17 et17 ht17
      have qt17 : t6 = t17 := by omega
      subst qt17
      refine And.intro ht6.1 ?_
      refine ⟨zk_X8_at, zm_X8_at hg d (by omega), _, _, _, rfl, ⟨by omega, by omega⟩, ?_⟩
      refine And.intro (zfa (o := 8) (y2 := 22) ht6.1 rfl) ?_
      intro x18 kx18 lx18 fx18 gx18
      have hx18 : x18 = m1.1 (Nat.add t6 8) x9 := (fx18 ⟨by omega, by omega⟩).1
      have ix18 := (fx18 ⟨by omega, by omega⟩).2
      have XB : x18 = B.1 6 x9 := by rw [hx18, E1]; exact RP.1.2.2
      refine And.intro ⟨by omega, by omega⟩ (And.intro (fun c19 => ?_) (fun c19 => ?_))
      · refine ⟨wk_X5_step, wm_X5_step hg d (by omega), rfl, ?_⟩
        intro m20 qm20 p21
        have z22 := zfr_t z3 (qm20 t)
        have H2 := yDJ_st H1.1 (by omega) p21
        have K2 := yTI_k H2.1.1
        intro x23 hx23 kx23 lx23
        refine And.intro ⟨⟨by omega, by omega⟩, ⟨by omega, by omega⟩⟩ (And.intro (fun c24 => ?_) (fun c24 => ?_))
        · exact And.intro trivial (And.intro ⟨by omega, by omega⟩ (hQ _ _ (fun T hT => by rw [hT]; exact z22) (by omega) (by omega) (Or.inl ⟨by omega, _, ⟨by have h0 := yR_s (yR_r τ (4, p, 0, [], B)) (ym4_k (by omega) (by omega) (by rw [← FP]; omega) (by omega)); rw [← FP] at h0; exact h0, by omega⟩, yDJ_N H2.1 (by decide), ⟨by omega, by omega⟩, by omega⟩)))
        · refine ⟨wk_X3_fail, wm_X3_fail hg d (by omega), _, rfl, ⟨by omega, by omega⟩, ?_⟩
          intro x25 m26 qm26 kx25 lx25 p27
          have z28 := zfr_t z22 (qm26 t)
          exact And.intro trivial (And.intro ⟨by omega, by omega⟩ (hQ _ _ (fun T hT => by rw [hT]; exact z28) (by omega) (by omega) (Or.inr ⟨by omega, yFa_f H2.1.1 (yR_s (yR_r τ _) (ym4_f (by omega) (by omega) (by rw [← FP]; omega) (by omega))) p27⟩)))
      · refine And.intro ⟨by omega, by omega⟩ (And.intro (fun c29 => ?_) (fun c29 => ?_))
        · refine ⟨wk_X3_fail, wm_X3_fail hg d (by omega), _, rfl, ⟨by omega, by omega⟩, ?_⟩
          intro x30 m31 qm31 kx30 lx30 p32
          have z33 := zfr_t z3 (qm31 t)
          exact And.intro trivial (And.intro ⟨by omega, by omega⟩ (hQ _ _ (fun T hT => by rw [hT]; exact z33) (by omega) (by omega) (Or.inr ⟨by omega, yFa_f H1.1.1 (yR_s (yR_r τ _) (ym4_3 (by omega) (by omega) (by rw [← FP]; omega))) p32⟩)))
        · exfalso; omega
  · refine ⟨wk_X3_fail, wm_X3_fail hg d (by omega), _, rfl, ⟨by omega, by omega⟩, ?_⟩
    intro x34 m35 qm35 kx34 lx34 p36
    have z37 := zfr_t z3 (qm35 t)
    exact And.intro trivial (And.intro ⟨by omega, by omega⟩ (hQ _ _ (fun T hT => by rw [hT]; exact z37) (by omega) (by omega) (Or.inr ⟨by omega, yFa_f H1.1.1 (yR_s (yR_r τ _) (ym4_2 (by omega))) p36⟩)))
def wk_X3_bounds : zC := fun As μ Q => ∃ (τ : yT) (p : Int) (B : yB) (t : Nat), As = [.inr (.inr (50, 50))] ∧ (yDJ τ μ p B t) ∧ (ykd τ p = 4) ∧ (yZ B ∧ B.1 4 (B.1 0 3) = 0) ∧ (∀ (v : Int) (μ' : zM), (∀ T : Nat, T = t → zfr T μ μ') → 0 ≤ v → v ≤ 1 → ((v = 1 ∧ yS6j τ (4, p, 0, [], B) t μ') ∨ (v = 0 ∧ yFa τ (4, p, 0, [], B) μ')) → Q (some (.inl v)) μ')
set_option maxHeartbeats 4000000 in
theorem wm_X3_bounds {g : zΓ} (hg : zg g) (d : Nat) (hd : 29 ≤ d) : zOk g d 44 wk_X3_bounds := by
  obtain ⟨d, rfl⟩ : ∃ d', d = d' + 1 := ⟨d - 1, by omega⟩
  refine zOk_loop hg (show mt_tab[44]? = some mt_X3_bounds from rfl) ([(4, [0, 1, 2])], []) 81 rfl fun As μ Q hC => ?_
  obtain ⟨τ, p, B, t, rfl, hp0, hp1, hp2, hQ⟩ := hC
  have z0 : zfr t μ μ := zfr_r t μ
  refine ⟨rfl, fun pc vs μ' n => ∃ (v1 : Int) (v2 : Int), vs = [.inr (.inr (50, 50)), .inl v1, .inl v2] ∧ zfr t μ μ' ∧ ((-2147483648) ≤ v1 ∧ v1 ≤ 2147483647) ∧ (0 ≤ v2 ∧ v2 ≤ 13) ∧ (yBIj τ (4, p, 0, [], B) t v1 v2 μ') ∧ n = (Int.toNat (2147483648 - v2)), ?_, ?_, trivial⟩
  · refine Exists.intro (Int.toNat (2147483648 - 0)) ?_
    exact ⟨_, _, rfl, z0, ⟨by omega, by omega⟩, ⟨by omega, by omega⟩, ⟨p, B, Or.inl ⟨by omega, yR_r τ _⟩, hp0, ybs_0 (yDJ_i hp0) hp2.1, hp2.2, by omega, rfl⟩, rfl⟩
  · intro vs m0 n hI
    clear z0
    obtain ⟨v1, v2, rfl, z0, hv1, hv2, i0, rfl⟩ := hI
    have B8 := (by obtain ⟨p0, B0, -, D0, c0, -⟩ := i0; have := ybs_8 (yDJ_i D0); omega : 0 ≤ v2 ∧ v2 ≤ 8)
    refine And.intro ⟨⟨by omega, by omega⟩, ⟨by omega, by omega⟩⟩ (And.intro (fun c1 => ?_) (fun c1 => ?_))
    · exfalso; omega
    · obtain ⟨p0, B0, a0, D0, c0, S0, k0, M0⟩ := i0
      have K0 := yTI_k D0.1
      intro x2 hx2 kx2 lx2
      refine And.intro ⟨⟨by omega, by omega⟩, ⟨by omega, by omega⟩⟩ (And.intro (fun c3 => ?_) (fun c3 => ?_))
      · obtain ⟨p5, B5, Q5⟩ : ∃ p5 B5, yB5j τ (4, p, 0, [], B) t v1 v2 m0 p5 B5 := ⟨p0, B0, by rcases a0 with h0 | h0; (exfalso; have := h0.1; omega); exact ⟨⟨h0.2.1, k0⟩, D0, h0.2.2, c0, S0, M0⟩⟩
        have b5 := yDJ_B Q5.2.1
        have V5 := Q5.2.2.1
        have RV := Q5.2.1.1.2.2.1.2.2 v1 (by omega) (by omega)
        refine ⟨wk_X5_step, wm_X5_step hg d (by omega), rfl, ?_⟩
        intro m4 qm4 p5
        have z6 := zfr_t z0 (qm4 t)
        have H1 := yDJ_st Q5.2.1 Q5.1.2 p5
        have K1 := yTI_k H1.1.1
        have O1 := H1.1.1.2.1
        have RB := H1.1.1.2.2.1
        intro x7 hx7 kx7 lx7
        intro t8 et8 ht8
        have E1 : t8 = t := by have h0 := H1.1.1.2.1.2.1; omega
        refine And.intro ht8.1 ?_
        refine ⟨zk_X8_at, zm_X8_at hg d (by omega), _, _, _, rfl, ⟨by omega, by omega⟩, ?_⟩
        refine And.intro (zfa (o := 8) (y2 := 22) ht8.1 rfl) ?_
        intro x9 kx9 lx9 fx9 gx9
        have hx9 : x9 = m4.1 (Nat.add t8 8) v1 := (fx9 ⟨by omega, by omega⟩).1
        have ix9 := (fx9 ⟨by omega, by omega⟩).2
        have XB : x9 = B5.1 6 (B5.1 0 6) := by rw [hx9, E1, V5.1]; exact (RB.2.2 v1 (by omega) (by omega)).1.2.2
        refine And.intro ⟨⟨by omega, by omega⟩, ⟨by omega, by omega⟩⟩ (And.intro (fun c10 => ?_) (fun c10 => ?_))
        · refine ⟨(wk_X3_type 8), wm_X3_typeN hg 8 d (by omega), _, _, _, _, _, _, _, _, _, 0, [], rfl, ⟨by omega, by omega⟩, ⟨by omega, by omega⟩, ⟨by omega, by omega⟩, (by decide), (yTI_d (r := 0) (s := (if 2 ≤ B5.1 6 (B5.1 0 6) then 1 else 0)) (yDJ_i H1.1)), ⟨rfl, yW2_t.1.symm, by rw [yW3_t (by split <;> omega)]; split <;> omega⟩, H1.1.2.1, ?_⟩
          intro x11 m12 qm12 kx11 lx11 p13 p14
          have z15 := zfr_t z6 (qm12 t)
          refine And.intro ⟨by omega, by omega⟩ (And.intro (fun c16 => ?_) (fun c16 => ?_))
          · exact And.intro (zrtb (by omega)) (And.intro ⟨by omega, by omega⟩ (hQ _ _ (fun T hT => by rw [hT]; exact z15) (by omega) (by omega) (Or.inr ⟨rfl, yFa_t (yR_s Q5.1.1 ym5) (by rcases p13 with h0 | h0; (exfalso; omega); exact h0.2)⟩)))
          · intro x17 hx17 kx17 lx17
            refine ⟨yk_X3_isBehindBound, ym_X3_isBehindBound hg d (by omega), _, rfl, ⟨by omega, by omega⟩, ?_⟩
            intro x18 kx18 lx18 p19
            refine ⟨wk_X3_behindType, wm_X3_behindType hg d (by omega), _, rfl, ⟨by omega, by omega⟩, ?_⟩
            intro x20 m21 qm21 kx20 lx20 p22
            have z23 := zfr_t z15 (qm21 t)
            have TY : yT1 τ _ 0 [] _ t _ _ m12 := (by rcases p13 with h0 | h0; exact h0.2; (exfalso; omega))
            have BB := yT1_b TY (a := x18) (by rw [← hx17]; rcases p19 with h0 | h0; exact Or.inl ⟨h0.1, (ymay_0 (yBt_v _ _ _).1).mpr h0.2⟩; exact Or.inr ⟨h0.1, fun h1 => h0.2 ((ymay_0 (yBt_v _ _ _).1).mp h1)⟩) p22
            refine And.intro ⟨by omega, by omega⟩ (And.intro (fun c24 => ?_) (fun c24 => ?_))
            · obtain ⟨-, M5, p6, n6, x6, as6, ⟨r6, k6⟩, I6, M6⟩ := (by rcases BB with h0 | h0; (exfalso; omega); exact h0 : _ ∧ _ ∧ _)
              have O6 := I6.1.2.1
              have N6 : m21.1 50 ((4 : Nat) : Int) = n6 := by rw [O6.2.2.2.1, yN_at]
              have L6 := I6.2.2.1
              have W6 := p14 (by omega)
              rw [yW3_t (by split <;> omega)] at W6
              have RW := I6.1.2.2.1.2.2 v1 (by omega) (by rw [yN_ne (by decide), (yBt_v _ _ _).2.2.1 1 (by decide) (by decide)]; omega)
              rw [yN_nk (by decide), yN_nk (by decide), yN_nk (by decide), (yBt_v _ _ _).2.2.2 5 (by decide), (yBt_v _ _ _).2.2.2 6 (by decide), (yBt_v _ _ _).2.2.2 7 (by decide)] at RW
              intro t25 et25 ht25
              have E2 : t25 = t := by have h0 := I6.1.2.1.2.1; omega
              intro x26 hx26 kx26 lx26
              refine And.intro ht25.1 ⟨wk_X4_addBound, wm_X4_addBound hg d (by omega), _, _, _, _, rfl, ht25.1, ⟨by omega, by omega⟩, ⟨by omega, by omega⟩, ⟨by omega, by omega⟩, ⟨by omega, by omega⟩, (by rw [E2, RW.1.2.2]; have h0 := W6; rw [V5.1] at h0; split at h0 <;> omega), ?_⟩
              intro m27 qm27 p28
              have z29 := zfr_t z23 (qm27 t (by first | rfl | omega))
              have EE := yB5_ej (m1 := m27) (len := n6 - B5.1 0 2) (zfr_t (zfr_t (qm4 (t + 100)) (qm12 (t + 100))) (qm21 (t + 100))) Q5 r6 rfl W6 I6 M6 rfl rfl (by have h0 := p28; rw [E2, show (x26 - x7) = n6 - B5.1 0 2 by omega, show x7 = B5.1 0 2 by omega] at h0; exact h0) k6
              have K6 := yTI_k I6.1
              have K7 : m27.1 1 ((6 : Nat) : Int) = ykd τ p6 := by rw [EE.2.1]; exact K6.1
              have KK := EE.1
              intro x30 hx30 kx30 lx30
              refine And.intro ⟨⟨by omega, by omega⟩, ⟨by omega, by omega⟩⟩ (And.intro (fun c31 => ?_) (fun c31 => ?_))
              · exact And.intro (zrtb (by omega)) (And.intro ⟨by omega, by omega⟩ (hQ _ _ (fun T hT => by rw [hT]; exact z29) (by omega) (by omega) (Or.inl ⟨rfl, EE.2.2.1 (by omega)⟩)))
              · intro x32 hx32 kx32 lx32
                refine And.intro ⟨⟨by omega, by omega⟩, ⟨by omega, by omega⟩⟩ (And.intro (fun c33 => ?_) (fun c33 => ?_))
                · refine Exists.intro (Int.toNat (2147483648 - (v2 + 1))) (And.intro (by omega) ?_)
                  exact ⟨_, _, rfl, z29, ⟨by omega, by omega⟩, ⟨by omega, by omega⟩, (EE.2.2.2 (by omega)), rfl⟩
                · exact And.intro (zrtb (by omega)) (And.intro ⟨by omega, by omega⟩ (hQ _ _ (fun T hT => by rw [hT]; exact z29) (by omega) (by omega) (Or.inl ⟨rfl, EE.2.2.1 (by omega)⟩)))
            · exact And.intro (zrtb (by omega)) (And.intro ⟨by omega, by omega⟩ (hQ _ _ (fun T hT => by rw [hT]; exact z23) (by omega) (by omega) (Or.inr ⟨rfl, yFa_t (yR_s Q5.1.1 ym5) (by rcases BB with h0 | h0; exact h0.2; (exfalso; omega))⟩)))
        · refine ⟨(wk_X3_type 8), wm_X3_typeN hg 8 d (by omega), _, _, _, _, _, _, _, _, _, 0, [], rfl, ⟨by omega, by omega⟩, ⟨by omega, by omega⟩, ⟨by omega, by omega⟩, (by decide), (yTI_d (r := 0) (s := (if 2 ≤ B5.1 6 (B5.1 0 6) then 1 else 0)) (yDJ_i H1.1)), ⟨rfl, yW2_t.1.symm, by rw [yW3_t (by split <;> omega)]; split <;> omega⟩, H1.1.2.1, ?_⟩
          intro x34 m35 qm35 kx34 lx34 p36 p37
          have z38 := zfr_t z6 (qm35 t)
          refine And.intro ⟨by omega, by omega⟩ (And.intro (fun c39 => ?_) (fun c39 => ?_))
          · exact And.intro (zrtb (by omega)) (And.intro ⟨by omega, by omega⟩ (hQ _ _ (fun T hT => by rw [hT]; exact z38) (by omega) (by omega) (Or.inr ⟨rfl, yFa_t (yR_s Q5.1.1 ym5) (by rcases p36 with h0 | h0; (exfalso; omega); exact h0.2)⟩)))
          · intro x40 hx40 kx40 lx40
            refine ⟨yk_X3_isBehindBound, ym_X3_isBehindBound hg d (by omega), _, rfl, ⟨by omega, by omega⟩, ?_⟩
            intro x41 kx41 lx41 p42
            refine ⟨wk_X3_behindType, wm_X3_behindType hg d (by omega), _, rfl, ⟨by omega, by omega⟩, ?_⟩
            intro x43 m44 qm44 kx43 lx43 p45
            have z46 := zfr_t z38 (qm44 t)
            have TY : yT1 τ _ 0 [] _ t _ _ m35 := (by rcases p36 with h0 | h0; exact h0.2; (exfalso; omega))
            have BB := yT1_b TY (a := x41) (by rw [← hx40]; rcases p42 with h0 | h0; exact Or.inl ⟨h0.1, (ymay_0 (yBt_v _ _ _).1).mpr h0.2⟩; exact Or.inr ⟨h0.1, fun h1 => h0.2 ((ymay_0 (yBt_v _ _ _).1).mp h1)⟩) p45
            refine And.intro ⟨by omega, by omega⟩ (And.intro (fun c47 => ?_) (fun c47 => ?_))
            · obtain ⟨-, M5, p6, n6, x6, as6, ⟨r6, k6⟩, I6, M6⟩ := (by rcases BB with h0 | h0; (exfalso; omega); exact h0 : _ ∧ _ ∧ _)
              have O6 := I6.1.2.1
              have N6 : m44.1 50 ((4 : Nat) : Int) = n6 := by rw [O6.2.2.2.1, yN_at]
              have L6 := I6.2.2.1
              have W6 := p37 (by omega)
              rw [yW3_t (by split <;> omega)] at W6
              have RW := I6.1.2.2.1.2.2 v1 (by omega) (by rw [yN_ne (by decide), (yBt_v _ _ _).2.2.1 1 (by decide) (by decide)]; omega)
              rw [yN_nk (by decide), yN_nk (by decide), yN_nk (by decide), (yBt_v _ _ _).2.2.2 5 (by decide), (yBt_v _ _ _).2.2.2 6 (by decide), (yBt_v _ _ _).2.2.2 7 (by decide)] at RW
              intro t48 et48 ht48
              have E2 : t48 = t := by have h0 := I6.1.2.1.2.1; omega
              intro x49 hx49 kx49 lx49
              refine And.intro ht48.1 ⟨wk_X4_addBound, wm_X4_addBound hg d (by omega), _, _, _, _, rfl, ht48.1, ⟨by omega, by omega⟩, ⟨by omega, by omega⟩, ⟨by omega, by omega⟩, ⟨by omega, by omega⟩, (by rw [E2, RW.1.2.2]; have h0 := W6; rw [V5.1] at h0; split at h0 <;> omega), ?_⟩
              intro m50 qm50 p51
              have z52 := zfr_t z46 (qm50 t (by first | rfl | omega))
              have EE := yB5_ej (m1 := m50) (len := n6 - B5.1 0 2) (zfr_t (zfr_t (qm4 (t + 100)) (qm35 (t + 100))) (qm44 (t + 100))) Q5 r6 rfl W6 I6 M6 rfl rfl (by have h0 := p51; rw [E2, show (x49 - x7) = n6 - B5.1 0 2 by omega, show x7 = B5.1 0 2 by omega] at h0; exact h0) k6
              have K6 := yTI_k I6.1
              have K7 : m50.1 1 ((6 : Nat) : Int) = ykd τ p6 := by rw [EE.2.1]; exact K6.1
              have KK := EE.1
              intro x53 hx53 kx53 lx53
              refine And.intro ⟨⟨by omega, by omega⟩, ⟨by omega, by omega⟩⟩ (And.intro (fun c54 => ?_) (fun c54 => ?_))
              · exact And.intro (zrtb (by omega)) (And.intro ⟨by omega, by omega⟩ (hQ _ _ (fun T hT => by rw [hT]; exact z52) (by omega) (by omega) (Or.inl ⟨rfl, EE.2.2.1 (by omega)⟩)))
              · intro x55 hx55 kx55 lx55
                refine And.intro ⟨⟨by omega, by omega⟩, ⟨by omega, by omega⟩⟩ (And.intro (fun c56 => ?_) (fun c56 => ?_))
                · refine Exists.intro (Int.toNat (2147483648 - (v2 + 1))) (And.intro (by omega) ?_)
                  exact ⟨_, _, rfl, z52, ⟨by omega, by omega⟩, ⟨by omega, by omega⟩, (EE.2.2.2 (by omega)), rfl⟩
                · exact And.intro (zrtb (by omega)) (And.intro ⟨by omega, by omega⟩ (hQ _ _ (fun T hT => by rw [hT]; exact z52) (by omega) (by omega) (Or.inl ⟨rfl, EE.2.2.1 (by omega)⟩)))
            · exact And.intro (zrtb (by omega)) (And.intro ⟨by omega, by omega⟩ (hQ _ _ (fun T hT => by rw [hT]; exact z46) (by omega) (by omega) (Or.inr ⟨rfl, yFa_t (yR_s Q5.1.1 ym5) (by rcases BB with h0 | h0; exact h0.2; (exfalso; omega))⟩)))
      · have r0 : yR τ (4, p, 0, [], B) (4, p0, 0, [], B0) := by rcases a0 with h0 | h0; exact h0.2; (exfalso; have := h0.1; omega)
        refine ⟨wk_X3_boundName, wm_X3_boundName hg d (by omega), _, _, _, _, rfl, D0, k0, ?_⟩
        intro x57 m58 qm58 kx57 lx57 p59
        have z60 := zfr_t z0 (qm58 t (by first | rfl | omega))
        refine And.intro ⟨by omega, by omega⟩ (And.intro (fun c61 => ?_) (fun c61 => ?_))
        · obtain ⟨p5, B5, Q5⟩ : ∃ p5 B5, yB5j τ (4, p, 0, [], B) t x57 v2 m58 p5 B5 := yB5_nj r0 (by rcases p59 with h0 | h0; exact h0.2; (exfalso; omega)) c0 S0 M0
          have b5 := yDJ_B Q5.2.1
          have V5 := Q5.2.2.1
          have RV := Q5.2.1.1.2.2.1.2.2 x57 (by omega) (by omega)
          refine ⟨wk_X5_step, wm_X5_step hg d (by omega), rfl, ?_⟩
          intro m62 qm62 p63
          have z64 := zfr_t z60 (qm62 t)
          have H1 := yDJ_st Q5.2.1 Q5.1.2 p63
          have K1 := yTI_k H1.1.1
          have O1 := H1.1.1.2.1
          have RB := H1.1.1.2.2.1
          intro x65 hx65 kx65 lx65
          intro t66 et66 ht66
          have E1 : t66 = t := by have h0 := H1.1.1.2.1.2.1; omega
          refine And.intro ht66.1 ?_
          refine ⟨zk_X8_at, zm_X8_at hg d (by omega), _, _, _, rfl, ⟨by omega, by omega⟩, ?_⟩
          refine And.intro (zfa (o := 8) (y2 := 22) ht66.1 rfl) ?_
          intro x67 kx67 lx67 fx67 gx67
          have hx67 : x67 = m62.1 (Nat.add t66 8) x57 := (fx67 ⟨by omega, by omega⟩).1
          have ix67 := (fx67 ⟨by omega, by omega⟩).2
          have XB : x67 = B5.1 6 (B5.1 0 6) := by rw [hx67, E1, V5.1]; exact (RB.2.2 x57 (by omega) (by omega)).1.2.2
          refine And.intro ⟨⟨by omega, by omega⟩, ⟨by omega, by omega⟩⟩ (And.intro (fun c68 => ?_) (fun c68 => ?_))
          · refine ⟨(wk_X3_type 8), wm_X3_typeN hg 8 d (by omega), _, _, _, _, _, _, _, _, _, 0, [], rfl, ⟨by omega, by omega⟩, ⟨by omega, by omega⟩, ⟨by omega, by omega⟩, (by decide), (yTI_d (r := 0) (s := (if 2 ≤ B5.1 6 (B5.1 0 6) then 1 else 0)) (yDJ_i H1.1)), ⟨rfl, yW2_t.1.symm, by rw [yW3_t (by split <;> omega)]; split <;> omega⟩, H1.1.2.1, ?_⟩
            intro x69 m70 qm70 kx69 lx69 p71 p72
            have z73 := zfr_t z64 (qm70 t)
            refine And.intro ⟨by omega, by omega⟩ (And.intro (fun c74 => ?_) (fun c74 => ?_))
            · exact And.intro (zrtb (by omega)) (And.intro ⟨by omega, by omega⟩ (hQ _ _ (fun T hT => by rw [hT]; exact z73) (by omega) (by omega) (Or.inr ⟨rfl, yFa_t (yR_s Q5.1.1 ym5) (by rcases p71 with h0 | h0; (exfalso; omega); exact h0.2)⟩)))
            · intro x75 hx75 kx75 lx75
              refine ⟨yk_X3_isBehindBound, ym_X3_isBehindBound hg d (by omega), _, rfl, ⟨by omega, by omega⟩, ?_⟩
              intro x76 kx76 lx76 p77
              refine ⟨wk_X3_behindType, wm_X3_behindType hg d (by omega), _, rfl, ⟨by omega, by omega⟩, ?_⟩
              intro x78 m79 qm79 kx78 lx78 p80
              have z81 := zfr_t z73 (qm79 t)
              have TY : yT1 τ _ 0 [] _ t _ _ m70 := (by rcases p71 with h0 | h0; exact h0.2; (exfalso; omega))
              have BB := yT1_b TY (a := x76) (by rw [← hx75]; rcases p77 with h0 | h0; exact Or.inl ⟨h0.1, (ymay_0 (yBt_v _ _ _).1).mpr h0.2⟩; exact Or.inr ⟨h0.1, fun h1 => h0.2 ((ymay_0 (yBt_v _ _ _).1).mp h1)⟩) p80
              refine And.intro ⟨by omega, by omega⟩ (And.intro (fun c82 => ?_) (fun c82 => ?_))
              · obtain ⟨-, M5, p6, n6, x6, as6, ⟨r6, k6⟩, I6, M6⟩ := (by rcases BB with h0 | h0; (exfalso; omega); exact h0 : _ ∧ _ ∧ _)
                have O6 := I6.1.2.1
                have N6 : m79.1 50 ((4 : Nat) : Int) = n6 := by rw [O6.2.2.2.1, yN_at]
                have L6 := I6.2.2.1
                have W6 := p72 (by omega)
                rw [yW3_t (by split <;> omega)] at W6
                have RW := I6.1.2.2.1.2.2 x57 (by omega) (by rw [yN_ne (by decide), (yBt_v _ _ _).2.2.1 1 (by decide) (by decide)]; omega)
                rw [yN_nk (by decide), yN_nk (by decide), yN_nk (by decide), (yBt_v _ _ _).2.2.2 5 (by decide), (yBt_v _ _ _).2.2.2 6 (by decide), (yBt_v _ _ _).2.2.2 7 (by decide)] at RW
                intro t83 et83 ht83
                have E2 : t83 = t := by have h0 := I6.1.2.1.2.1; omega
                intro x84 hx84 kx84 lx84
                refine And.intro ht83.1 ⟨wk_X4_addBound, wm_X4_addBound hg d (by omega), _, _, _, _, rfl, ht83.1, ⟨by omega, by omega⟩, ⟨by omega, by omega⟩, ⟨by omega, by omega⟩, ⟨by omega, by omega⟩, (by rw [E2, RW.1.2.2]; have h0 := W6; rw [V5.1] at h0; split at h0 <;> omega), ?_⟩
                intro m85 qm85 p86
                have z87 := zfr_t z81 (qm85 t (by first | rfl | omega))
                have EE := yB5_ej (m1 := m85) (len := n6 - B5.1 0 2) (zfr_t (zfr_t (qm62 (t + 100)) (qm70 (t + 100))) (qm79 (t + 100))) Q5 r6 rfl W6 I6 M6 rfl rfl (by have h0 := p86; rw [E2, show (x84 - x65) = n6 - B5.1 0 2 by omega, show x65 = B5.1 0 2 by omega] at h0; exact h0) k6
                have K6 := yTI_k I6.1
                have K7 : m85.1 1 ((6 : Nat) : Int) = ykd τ p6 := by rw [EE.2.1]; exact K6.1
                have KK := EE.1
                intro x88 hx88 kx88 lx88
                refine And.intro ⟨⟨by omega, by omega⟩, ⟨by omega, by omega⟩⟩ (And.intro (fun c89 => ?_) (fun c89 => ?_))
                · exact And.intro (zrtb (by omega)) (And.intro ⟨by omega, by omega⟩ (hQ _ _ (fun T hT => by rw [hT]; exact z87) (by omega) (by omega) (Or.inl ⟨rfl, EE.2.2.1 (by omega)⟩)))
                · intro x90 hx90 kx90 lx90
                  refine And.intro ⟨⟨by omega, by omega⟩, ⟨by omega, by omega⟩⟩ (And.intro (fun c91 => ?_) (fun c91 => ?_))
                  · refine Exists.intro (Int.toNat (2147483648 - (v2 + 1))) (And.intro (by omega) ?_)
                    exact ⟨_, _, rfl, z87, ⟨by omega, by omega⟩, ⟨by omega, by omega⟩, (EE.2.2.2 (by omega)), rfl⟩
                  · exact And.intro (zrtb (by omega)) (And.intro ⟨by omega, by omega⟩ (hQ _ _ (fun T hT => by rw [hT]; exact z87) (by omega) (by omega) (Or.inl ⟨rfl, EE.2.2.1 (by omega)⟩)))
              · exact And.intro (zrtb (by omega)) (And.intro ⟨by omega, by omega⟩ (hQ _ _ (fun T hT => by rw [hT]; exact z81) (by omega) (by omega) (Or.inr ⟨rfl, yFa_t (yR_s Q5.1.1 ym5) (by rcases BB with h0 | h0; exact h0.2; (exfalso; omega))⟩)))
          · refine ⟨(wk_X3_type 8), wm_X3_typeN hg 8 d (by omega), _, _, _, _, _, _, _, _, _, 0, [], rfl, ⟨by omega, by omega⟩, ⟨by omega, by omega⟩, ⟨by omega, by omega⟩, (by decide), (yTI_d (r := 0) (s := (if 2 ≤ B5.1 6 (B5.1 0 6) then 1 else 0)) (yDJ_i H1.1)), ⟨rfl, yW2_t.1.symm, by rw [yW3_t (by split <;> omega)]; split <;> omega⟩, H1.1.2.1, ?_⟩
            intro x92 m93 qm93 kx92 lx92 p94 p95
            have z96 := zfr_t z64 (qm93 t)
            refine And.intro ⟨by omega, by omega⟩ (And.intro (fun c97 => ?_) (fun c97 => ?_))
            · exact And.intro (zrtb (by omega)) (And.intro ⟨by omega, by omega⟩ (hQ _ _ (fun T hT => by rw [hT]; exact z96) (by omega) (by omega) (Or.inr ⟨rfl, yFa_t (yR_s Q5.1.1 ym5) (by rcases p94 with h0 | h0; (exfalso; omega); exact h0.2)⟩)))
            · intro x98 hx98 kx98 lx98
              refine ⟨yk_X3_isBehindBound, ym_X3_isBehindBound hg d (by omega), _, rfl, ⟨by omega, by omega⟩, ?_⟩
              intro x99 kx99 lx99 p100
              refine ⟨wk_X3_behindType, wm_X3_behindType hg d (by omega), _, rfl, ⟨by omega, by omega⟩, ?_⟩
              intro x101 m102 qm102 kx101 lx101 p103
              have z104 := zfr_t z96 (qm102 t)
              have TY : yT1 τ _ 0 [] _ t _ _ m93 := (by rcases p94 with h0 | h0; exact h0.2; (exfalso; omega))
              have BB := yT1_b TY (a := x99) (by rw [← hx98]; rcases p100 with h0 | h0; exact Or.inl ⟨h0.1, (ymay_0 (yBt_v _ _ _).1).mpr h0.2⟩; exact Or.inr ⟨h0.1, fun h1 => h0.2 ((ymay_0 (yBt_v _ _ _).1).mp h1)⟩) p103
              refine And.intro ⟨by omega, by omega⟩ (And.intro (fun c105 => ?_) (fun c105 => ?_))
              · obtain ⟨-, M5, p6, n6, x6, as6, ⟨r6, k6⟩, I6, M6⟩ := (by rcases BB with h0 | h0; (exfalso; omega); exact h0 : _ ∧ _ ∧ _)
                have O6 := I6.1.2.1
                have N6 : m102.1 50 ((4 : Nat) : Int) = n6 := by rw [O6.2.2.2.1, yN_at]
                have L6 := I6.2.2.1
                have W6 := p95 (by omega)
                rw [yW3_t (by split <;> omega)] at W6
                have RW := I6.1.2.2.1.2.2 x57 (by omega) (by rw [yN_ne (by decide), (yBt_v _ _ _).2.2.1 1 (by decide) (by decide)]; omega)
                rw [yN_nk (by decide), yN_nk (by decide), yN_nk (by decide), (yBt_v _ _ _).2.2.2 5 (by decide), (yBt_v _ _ _).2.2.2 6 (by decide), (yBt_v _ _ _).2.2.2 7 (by decide)] at RW
                intro t106 et106 ht106
                have E2 : t106 = t := by have h0 := I6.1.2.1.2.1; omega
                intro x107 hx107 kx107 lx107
                refine And.intro ht106.1 ⟨wk_X4_addBound, wm_X4_addBound hg d (by omega), _, _, _, _, rfl, ht106.1, ⟨by omega, by omega⟩, ⟨by omega, by omega⟩, ⟨by omega, by omega⟩, ⟨by omega, by omega⟩, (by rw [E2, RW.1.2.2]; have h0 := W6; rw [V5.1] at h0; split at h0 <;> omega), ?_⟩
                intro m108 qm108 p109
                have z110 := zfr_t z104 (qm108 t (by first | rfl | omega))
                have EE := yB5_ej (m1 := m108) (len := n6 - B5.1 0 2) (zfr_t (zfr_t (qm62 (t + 100)) (qm93 (t + 100))) (qm102 (t + 100))) Q5 r6 rfl W6 I6 M6 rfl rfl (by have h0 := p109; rw [E2, show (x107 - x65) = n6 - B5.1 0 2 by omega, show x65 = B5.1 0 2 by omega] at h0; exact h0) k6
                have K6 := yTI_k I6.1
                have K7 : m108.1 1 ((6 : Nat) : Int) = ykd τ p6 := by rw [EE.2.1]; exact K6.1
                have KK := EE.1
                intro x111 hx111 kx111 lx111
                refine And.intro ⟨⟨by omega, by omega⟩, ⟨by omega, by omega⟩⟩ (And.intro (fun c112 => ?_) (fun c112 => ?_))
                · exact And.intro (zrtb (by omega)) (And.intro ⟨by omega, by omega⟩ (hQ _ _ (fun T hT => by rw [hT]; exact z110) (by omega) (by omega) (Or.inl ⟨rfl, EE.2.2.1 (by omega)⟩)))
                · intro x113 hx113 kx113 lx113
                  refine And.intro ⟨⟨by omega, by omega⟩, ⟨by omega, by omega⟩⟩ (And.intro (fun c114 => ?_) (fun c114 => ?_))
                  · refine Exists.intro (Int.toNat (2147483648 - (v2 + 1))) (And.intro (by omega) ?_)
                    exact ⟨_, _, rfl, z110, ⟨by omega, by omega⟩, ⟨by omega, by omega⟩, (EE.2.2.2 (by omega)), rfl⟩
                  · exact And.intro (zrtb (by omega)) (And.intro ⟨by omega, by omega⟩ (hQ _ _ (fun T hT => by rw [hT]; exact z110) (by omega) (by omega) (Or.inl ⟨rfl, EE.2.2.1 (by omega)⟩)))
              · exact And.intro (zrtb (by omega)) (And.intro ⟨by omega, by omega⟩ (hQ _ _ (fun T hT => by rw [hT]; exact z104) (by omega) (by omega) (Or.inr ⟨rfl, yFa_t (yR_s Q5.1.1 ym5) (by rcases BB with h0 | h0; exact h0.2; (exfalso; omega))⟩)))
        · exact And.intro (zrtb (by omega)) (And.intro ⟨by omega, by omega⟩ (hQ _ _ (fun T hT => by rw [hT]; exact z60) (by omega) (by omega) (Or.inr ⟨rfl, yFa_t r0 (by rcases p59 with h0 | h0; (exfalso; omega); exact h0.2)⟩)))
def wk_X3_supers : zC := fun As μ Q => ∃ (τ : yT) (p : Int) (B : yB) (t : Nat), As = [.inr (.inr (50, 50))] ∧ (yDJ τ μ p B t) ∧ (ykd τ p = 58) ∧ (B.1 4 (B.1 0 3) = 0) ∧ (∀ (v : Int) (μ' : zM), (∀ T : Nat, T = t → zfr T μ μ') → 0 ≤ v → v ≤ 1 → ((v = 1 ∧ yS8j τ (7, p, 0, [], B) t μ') ∨ (v = 0 ∧ yFa τ (7, p, 0, [], B) μ')) → Q (some (.inl v)) μ')
set_option maxHeartbeats 4000000 in
theorem wm_X3_supers {g : zΓ} (hg : zg g) (d : Nat) (hd : 29 ≤ d) : zOk g d 47 wk_X3_supers := by
  obtain ⟨d, rfl⟩ : ∃ d', d = d' + 1 := ⟨d - 1, by omega⟩
  refine zOk_loop hg (show mt_tab[47]? = some mt_X3_supers from rfl) ([(2, [0, 1])], []) 64 rfl fun As μ Q hC => ?_
  obtain ⟨τ, p, B, t, rfl, hp0, hp1, hp2, hQ⟩ := hC
  have z0 : zfr t μ μ := zfr_r t μ
  refine ⟨rfl, fun pc vs μ' n => ∃ (v1 : Int), vs = [.inr (.inr (50, 50)), .inl v1] ∧ zfr t μ μ' ∧ (0 ≤ v1 ∧ v1 ≤ 5) ∧ (∃ p5 B5, yUIj τ (7, p, 0, [], B) t v1 μ' p5 B5) ∧ n = (Int.toNat (2147483648 - v1)), ?_, ?_, trivial⟩
  · refine Exists.intro (Int.toNat (2147483648 - 0)) ?_
    exact ⟨_, rfl, z0, ⟨by omega, by omega⟩, ⟨p, B, ⟨yR_r τ _, by omega⟩, hp0, hp2.symm, rfl⟩, rfl⟩
  · intro vs m0 n hI
    clear z0
    obtain ⟨v1, rfl, z0, hv1, i0, rfl⟩ := hI
    obtain ⟨p5, B5, Q5⟩ := i0
    have b5 := yDJ_B Q5.2.1
    have c5 := Q5.2.2.1
    refine And.intro ⟨⟨by omega, by omega⟩, ⟨by omega, by omega⟩⟩ (And.intro (fun c1 => ?_) (fun c1 => ?_))
    · exfalso; omega
    · refine ⟨wk_X5_step, wm_X5_step hg d (by omega), rfl, ?_⟩
      intro m2 qm2 p3
      have z4 := zfr_t z0 (qm2 t)
      have H1 := yDJ_st Q5.2.1 Q5.1.2 p3
      have K1 := yTI_k H1.1.1
      have O1 := H1.1.1.2.1
      intro x5 hx5 kx5 lx5
      refine And.intro ⟨⟨by omega, by omega⟩, ⟨by omega, by omega⟩⟩ (And.intro (fun c6 => ?_) (fun c6 => ?_))
      · refine ⟨(wk_X3_type 8), wm_X3_typeN hg 8 d (by omega), _, _, _, _, _, _, _, _, _, 0, [], rfl, ⟨by omega, by omega⟩, ⟨by omega, by omega⟩, ⟨by omega, by omega⟩, (by decide), (yTI_d (r := 1) (s := (if 4 ≤ B5.1 4 (B5.1 0 3) then 1 else 0)) (yDJ_i H1.1)), ⟨rfl, yW2_t.2.symm, by rw [yW3_t (by split <;> omega)]; split <;> omega⟩, H1.1.2.1, ?_⟩
        intro x7 m8 qm8 kx7 lx7 p9 p10
        have z11 := zfr_t z4 (qm8 t)
        refine And.intro ⟨by omega, by omega⟩ (And.intro (fun c12 => ?_) (fun c12 => ?_))
        · exact And.intro (zrtb (by omega)) (And.intro ⟨by omega, by omega⟩ (hQ _ _ (fun T hT => by rw [hT]; exact z11) (by omega) (by omega) (Or.inr ⟨rfl, yFa_t (yR_s Q5.1.1 ym7) (by rcases p9 with h0 | h0; (exfalso; omega); exact h0.2)⟩)))
        · intro x13 hx13 kx13 lx13
          refine And.intro ⟨⟨by omega, by omega⟩, ⟨by omega, by omega⟩⟩ (And.intro (fun c14 => ?_) (fun c14 => ?_))
          · refine ⟨wk_X3_behindType, wm_X3_behindType hg d (by omega), _, rfl, ⟨by omega, by omega⟩, ?_⟩
            intro x15 m16 qm16 kx15 lx15 p17
            have z18 := zfr_t z11 (qm16 t)
            have TY : yT1 τ _ 0 [] _ t _ _ m8 := (by rcases p9 with h0 | h0; exact h0.2; (exfalso; omega))
            have BB := yT1_b TY (a := 1) (by rw [ymay_1 (yBt_v _ _ _).1]; omega) p17
            refine And.intro ⟨by omega, by omega⟩ (And.intro (fun c19 => ?_) (fun c19 => ?_))
            · obtain ⟨-, M5, p6, n6, x6, as6, ⟨r6, k6⟩, I6, M6⟩ := (by rcases BB with h0 | h0; (exfalso; omega); exact h0 : _ ∧ _ ∧ _)
              have O6 := I6.1.2.1
              have L6 := I6.2.2.1
              have W6 := p10 (by omega)
              rw [yW3_t (by split <;> omega)] at W6
              have O7 : m16.1 50 ((5 : Nat) : Int) = B5.1 0 3 := by rw [O6.2.2.2.2.1, yN_ne (by decide), (yBt_v _ _ _).2.2.1 3 (by decide) (by decide)]
              have RW := I6.1.2.2.1.2.1 (B5.1 0 3) (by omega) (by rw [yN_ne (by decide), (yBt_v _ _ _).2.2.1 0 (by decide) (by decide)]; omega)
              have RW4 := RW.1.2.2.2
              rw [yN_nk (by decide), (yBt_v _ _ _).2.2.2 4 (by decide)] at RW4
              intro t20 et20 ht20
              have E2 : t20 = t := by have h0 := I6.1.2.1.2.1; omega
              intro x21 hx21 kx21 lx21
              refine And.intro ht20.1 ⟨wk_X4_addSuper, wm_X4_addSuper hg d (by omega), _, _, _, rfl, ht20.1, ⟨by omega, by omega⟩, ⟨by omega, by omega⟩, ⟨by omega, by omega⟩, (by rw [E2, show x21 = B5.1 0 3 by omega, RW4]; have h0 := W6; split at h0 <;> omega), ?_⟩
              intro m22 qm22 p23
              have z24 := zfr_t z18 (qm22 t (by first | rfl | omega))
              have EE := yUI_ej (m1 := m22) (zfr_t (zfr_t (qm2 (t + 100)) (qm8 (t + 100))) (qm16 (t + 100))) Q5 r6 rfl W6 I6 M6 rfl rfl (by have h0 := p23; rw [E2, show x21 = B5.1 0 3 by omega, show x5 = B5.1 0 2 by omega] at h0; exact h0) k6
              have K6 := yTI_k I6.1
              have K7 : m22.1 1 ((6 : Nat) : Int) = ykd τ p6 := by rw [EE.2.1]; exact K6.1
              have KK := EE.1
              intro x25 hx25 kx25 lx25
              refine And.intro ⟨⟨by omega, by omega⟩, ⟨by omega, by omega⟩⟩ (And.intro (fun c26 => ?_) (fun c26 => ?_))
              · refine Exists.intro (Int.toNat (2147483648 - (v1 + 1))) (And.intro (by omega) ?_)
                exact ⟨_, rfl, z24, ⟨by omega, by omega⟩, (EE.2.2.2 (by omega)), rfl⟩
              · exact And.intro (zrtb (by omega)) (And.intro ⟨by omega, by omega⟩ (hQ _ _ (fun T hT => by rw [hT]; exact z24) (by omega) (by omega) (Or.inl ⟨rfl, EE.2.2.1 (by omega)⟩)))
            · exact And.intro (zrtb (by omega)) (And.intro ⟨by omega, by omega⟩ (hQ _ _ (fun T hT => by rw [hT]; exact z18) (by omega) (by omega) (Or.inr ⟨rfl, yFa_t (yR_s Q5.1.1 ym7) (by rcases BB with h0 | h0; exact h0.2; (exfalso; omega))⟩)))
          · intro x27 hx27 kx27 lx27
            refine And.intro ⟨⟨by omega, by omega⟩, ⟨by omega, by omega⟩⟩ (And.intro (fun c28 => ?_) (fun c28 => ?_))
            · refine ⟨wk_X3_behindType, wm_X3_behindType hg d (by omega), _, rfl, ⟨by omega, by omega⟩, ?_⟩
              intro x29 m30 qm30 kx29 lx29 p31
              have z32 := zfr_t z11 (qm30 t)
              have TY : yT1 τ _ 0 [] _ t _ _ m8 := (by rcases p9 with h0 | h0; exact h0.2; (exfalso; omega))
              have BB := yT1_b TY (a := 0) (by rw [ymay_1 (yBt_v _ _ _).1]; omega) p31
              refine And.intro ⟨by omega, by omega⟩ (And.intro (fun c33 => ?_) (fun c33 => ?_))
              · obtain ⟨-, M5, p6, n6, x6, as6, ⟨r6, k6⟩, I6, M6⟩ := (by rcases BB with h0 | h0; (exfalso; omega); exact h0 : _ ∧ _ ∧ _)
                have O6 := I6.1.2.1
                have L6 := I6.2.2.1
                have W6 := p10 (by omega)
                rw [yW3_t (by split <;> omega)] at W6
                have O7 : m30.1 50 ((5 : Nat) : Int) = B5.1 0 3 := by rw [O6.2.2.2.2.1, yN_ne (by decide), (yBt_v _ _ _).2.2.1 3 (by decide) (by decide)]
                have RW := I6.1.2.2.1.2.1 (B5.1 0 3) (by omega) (by rw [yN_ne (by decide), (yBt_v _ _ _).2.2.1 0 (by decide) (by decide)]; omega)
                have RW4 := RW.1.2.2.2
                rw [yN_nk (by decide), (yBt_v _ _ _).2.2.2 4 (by decide)] at RW4
                intro t34 et34 ht34
                have E2 : t34 = t := by have h0 := I6.1.2.1.2.1; omega
                intro x35 hx35 kx35 lx35
                refine And.intro ht34.1 ⟨wk_X4_addSuper, wm_X4_addSuper hg d (by omega), _, _, _, rfl, ht34.1, ⟨by omega, by omega⟩, ⟨by omega, by omega⟩, ⟨by omega, by omega⟩, (by rw [E2, show x35 = B5.1 0 3 by omega, RW4]; have h0 := W6; split at h0 <;> omega), ?_⟩
                intro m36 qm36 p37
                have z38 := zfr_t z32 (qm36 t (by first | rfl | omega))
                have EE := yUI_ej (m1 := m36) (zfr_t (zfr_t (qm2 (t + 100)) (qm8 (t + 100))) (qm30 (t + 100))) Q5 r6 rfl W6 I6 M6 rfl rfl (by have h0 := p37; rw [E2, show x35 = B5.1 0 3 by omega, show x5 = B5.1 0 2 by omega] at h0; exact h0) k6
                have K6 := yTI_k I6.1
                have K7 : m36.1 1 ((6 : Nat) : Int) = ykd τ p6 := by rw [EE.2.1]; exact K6.1
                have KK := EE.1
                intro x39 hx39 kx39 lx39
                refine And.intro ⟨⟨by omega, by omega⟩, ⟨by omega, by omega⟩⟩ (And.intro (fun c40 => ?_) (fun c40 => ?_))
                · refine Exists.intro (Int.toNat (2147483648 - (v1 + 1))) (And.intro (by omega) ?_)
                  exact ⟨_, rfl, z38, ⟨by omega, by omega⟩, (EE.2.2.2 (by omega)), rfl⟩
                · exact And.intro (zrtb (by omega)) (And.intro ⟨by omega, by omega⟩ (hQ _ _ (fun T hT => by rw [hT]; exact z38) (by omega) (by omega) (Or.inl ⟨rfl, EE.2.2.1 (by omega)⟩)))
              · exact And.intro (zrtb (by omega)) (And.intro ⟨by omega, by omega⟩ (hQ _ _ (fun T hT => by rw [hT]; exact z32) (by omega) (by omega) (Or.inr ⟨rfl, yFa_t (yR_s Q5.1.1 ym7) (by rcases BB with h0 | h0; exact h0.2; (exfalso; omega))⟩)))
            · refine ⟨wk_X3_behindType, wm_X3_behindType hg d (by omega), _, rfl, ⟨by omega, by omega⟩, ?_⟩
              intro x41 m42 qm42 kx41 lx41 p43
              have z44 := zfr_t z11 (qm42 t)
              have TY : yT1 τ _ 0 [] _ t _ _ m8 := (by rcases p9 with h0 | h0; exact h0.2; (exfalso; omega))
              have BB := yT1_b TY (a := 1) (by rw [ymay_1 (yBt_v _ _ _).1]; omega) p43
              refine And.intro ⟨by omega, by omega⟩ (And.intro (fun c45 => ?_) (fun c45 => ?_))
              · obtain ⟨-, M5, p6, n6, x6, as6, ⟨r6, k6⟩, I6, M6⟩ := (by rcases BB with h0 | h0; (exfalso; omega); exact h0 : _ ∧ _ ∧ _)
                have O6 := I6.1.2.1
                have L6 := I6.2.2.1
                have W6 := p10 (by omega)
                rw [yW3_t (by split <;> omega)] at W6
                have O7 : m42.1 50 ((5 : Nat) : Int) = B5.1 0 3 := by rw [O6.2.2.2.2.1, yN_ne (by decide), (yBt_v _ _ _).2.2.1 3 (by decide) (by decide)]
                have RW := I6.1.2.2.1.2.1 (B5.1 0 3) (by omega) (by rw [yN_ne (by decide), (yBt_v _ _ _).2.2.1 0 (by decide) (by decide)]; omega)
                have RW4 := RW.1.2.2.2
                rw [yN_nk (by decide), (yBt_v _ _ _).2.2.2 4 (by decide)] at RW4
                intro t46 et46 ht46
                have E2 : t46 = t := by have h0 := I6.1.2.1.2.1; omega
                intro x47 hx47 kx47 lx47
                refine And.intro ht46.1 ⟨wk_X4_addSuper, wm_X4_addSuper hg d (by omega), _, _, _, rfl, ht46.1, ⟨by omega, by omega⟩, ⟨by omega, by omega⟩, ⟨by omega, by omega⟩, (by rw [E2, show x47 = B5.1 0 3 by omega, RW4]; have h0 := W6; split at h0 <;> omega), ?_⟩
                intro m48 qm48 p49
                have z50 := zfr_t z44 (qm48 t (by first | rfl | omega))
                have EE := yUI_ej (m1 := m48) (zfr_t (zfr_t (qm2 (t + 100)) (qm8 (t + 100))) (qm42 (t + 100))) Q5 r6 rfl W6 I6 M6 rfl rfl (by have h0 := p49; rw [E2, show x47 = B5.1 0 3 by omega, show x5 = B5.1 0 2 by omega] at h0; exact h0) k6
                have K6 := yTI_k I6.1
                have K7 : m48.1 1 ((6 : Nat) : Int) = ykd τ p6 := by rw [EE.2.1]; exact K6.1
                have KK := EE.1
                intro x51 hx51 kx51 lx51
                refine And.intro ⟨⟨by omega, by omega⟩, ⟨by omega, by omega⟩⟩ (And.intro (fun c52 => ?_) (fun c52 => ?_))
                · refine Exists.intro (Int.toNat (2147483648 - (v1 + 1))) (And.intro (by omega) ?_)
                  exact ⟨_, rfl, z50, ⟨by omega, by omega⟩, (EE.2.2.2 (by omega)), rfl⟩
                · exact And.intro (zrtb (by omega)) (And.intro ⟨by omega, by omega⟩ (hQ _ _ (fun T hT => by rw [hT]; exact z50) (by omega) (by omega) (Or.inl ⟨rfl, EE.2.2.1 (by omega)⟩)))
              · exact And.intro (zrtb (by omega)) (And.intro ⟨by omega, by omega⟩ (hQ _ _ (fun T hT => by rw [hT]; exact z44) (by omega) (by omega) (Or.inr ⟨rfl, yFa_t (yR_s Q5.1.1 ym7) (by rcases BB with h0 | h0; exact h0.2; (exfalso; omega))⟩)))
      · refine ⟨(wk_X3_type 8), wm_X3_typeN hg 8 d (by omega), _, _, _, _, _, _, _, _, _, 0, [], rfl, ⟨by omega, by omega⟩, ⟨by omega, by omega⟩, ⟨by omega, by omega⟩, (by decide), (yTI_d (r := 1) (s := (if 4 ≤ B5.1 4 (B5.1 0 3) then 1 else 0)) (yDJ_i H1.1)), ⟨rfl, yW2_t.2.symm, by rw [yW3_t (by split <;> omega)]; split <;> omega⟩, H1.1.2.1, ?_⟩
        intro x53 m54 qm54 kx53 lx53 p55 p56
        have z57 := zfr_t z4 (qm54 t)
        refine And.intro ⟨by omega, by omega⟩ (And.intro (fun c58 => ?_) (fun c58 => ?_))
        · exact And.intro (zrtb (by omega)) (And.intro ⟨by omega, by omega⟩ (hQ _ _ (fun T hT => by rw [hT]; exact z57) (by omega) (by omega) (Or.inr ⟨rfl, yFa_t (yR_s Q5.1.1 ym7) (by rcases p55 with h0 | h0; (exfalso; omega); exact h0.2)⟩)))
        · intro x59 hx59 kx59 lx59
          refine And.intro ⟨⟨by omega, by omega⟩, ⟨by omega, by omega⟩⟩ (And.intro (fun c60 => ?_) (fun c60 => ?_))
          · refine ⟨wk_X3_behindType, wm_X3_behindType hg d (by omega), _, rfl, ⟨by omega, by omega⟩, ?_⟩
            intro x61 m62 qm62 kx61 lx61 p63
            have z64 := zfr_t z57 (qm62 t)
            have TY : yT1 τ _ 0 [] _ t _ _ m54 := (by rcases p55 with h0 | h0; exact h0.2; (exfalso; omega))
            have BB := yT1_b TY (a := 1) (by rw [ymay_1 (yBt_v _ _ _).1]; omega) p63
            refine And.intro ⟨by omega, by omega⟩ (And.intro (fun c65 => ?_) (fun c65 => ?_))
            · obtain ⟨-, M5, p6, n6, x6, as6, ⟨r6, k6⟩, I6, M6⟩ := (by rcases BB with h0 | h0; (exfalso; omega); exact h0 : _ ∧ _ ∧ _)
              have O6 := I6.1.2.1
              have L6 := I6.2.2.1
              have W6 := p56 (by omega)
              rw [yW3_t (by split <;> omega)] at W6
              have O7 : m62.1 50 ((5 : Nat) : Int) = B5.1 0 3 := by rw [O6.2.2.2.2.1, yN_ne (by decide), (yBt_v _ _ _).2.2.1 3 (by decide) (by decide)]
              have RW := I6.1.2.2.1.2.1 (B5.1 0 3) (by omega) (by rw [yN_ne (by decide), (yBt_v _ _ _).2.2.1 0 (by decide) (by decide)]; omega)
              have RW4 := RW.1.2.2.2
              rw [yN_nk (by decide), (yBt_v _ _ _).2.2.2 4 (by decide)] at RW4
              intro t66 et66 ht66
              have E2 : t66 = t := by have h0 := I6.1.2.1.2.1; omega
              intro x67 hx67 kx67 lx67
              refine And.intro ht66.1 ⟨wk_X4_addSuper, wm_X4_addSuper hg d (by omega), _, _, _, rfl, ht66.1, ⟨by omega, by omega⟩, ⟨by omega, by omega⟩, ⟨by omega, by omega⟩, (by rw [E2, show x67 = B5.1 0 3 by omega, RW4]; have h0 := W6; split at h0 <;> omega), ?_⟩
              intro m68 qm68 p69
              have z70 := zfr_t z64 (qm68 t (by first | rfl | omega))
              have EE := yUI_ej (m1 := m68) (zfr_t (zfr_t (qm2 (t + 100)) (qm54 (t + 100))) (qm62 (t + 100))) Q5 r6 rfl W6 I6 M6 rfl rfl (by have h0 := p69; rw [E2, show x67 = B5.1 0 3 by omega, show x5 = B5.1 0 2 by omega] at h0; exact h0) k6
              have K6 := yTI_k I6.1
              have K7 : m68.1 1 ((6 : Nat) : Int) = ykd τ p6 := by rw [EE.2.1]; exact K6.1
              have KK := EE.1
              intro x71 hx71 kx71 lx71
              refine And.intro ⟨⟨by omega, by omega⟩, ⟨by omega, by omega⟩⟩ (And.intro (fun c72 => ?_) (fun c72 => ?_))
              · refine Exists.intro (Int.toNat (2147483648 - (v1 + 1))) (And.intro (by omega) ?_)
                exact ⟨_, rfl, z70, ⟨by omega, by omega⟩, (EE.2.2.2 (by omega)), rfl⟩
              · exact And.intro (zrtb (by omega)) (And.intro ⟨by omega, by omega⟩ (hQ _ _ (fun T hT => by rw [hT]; exact z70) (by omega) (by omega) (Or.inl ⟨rfl, EE.2.2.1 (by omega)⟩)))
            · exact And.intro (zrtb (by omega)) (And.intro ⟨by omega, by omega⟩ (hQ _ _ (fun T hT => by rw [hT]; exact z64) (by omega) (by omega) (Or.inr ⟨rfl, yFa_t (yR_s Q5.1.1 ym7) (by rcases BB with h0 | h0; exact h0.2; (exfalso; omega))⟩)))
          · intro x73 hx73 kx73 lx73
            refine And.intro ⟨⟨by omega, by omega⟩, ⟨by omega, by omega⟩⟩ (And.intro (fun c74 => ?_) (fun c74 => ?_))
            · refine ⟨wk_X3_behindType, wm_X3_behindType hg d (by omega), _, rfl, ⟨by omega, by omega⟩, ?_⟩
              intro x75 m76 qm76 kx75 lx75 p77
              have z78 := zfr_t z57 (qm76 t)
              have TY : yT1 τ _ 0 [] _ t _ _ m54 := (by rcases p55 with h0 | h0; exact h0.2; (exfalso; omega))
              have BB := yT1_b TY (a := 0) (by rw [ymay_1 (yBt_v _ _ _).1]; omega) p77
              refine And.intro ⟨by omega, by omega⟩ (And.intro (fun c79 => ?_) (fun c79 => ?_))
              · obtain ⟨-, M5, p6, n6, x6, as6, ⟨r6, k6⟩, I6, M6⟩ := (by rcases BB with h0 | h0; (exfalso; omega); exact h0 : _ ∧ _ ∧ _)
                have O6 := I6.1.2.1
                have L6 := I6.2.2.1
                have W6 := p56 (by omega)
                rw [yW3_t (by split <;> omega)] at W6
                have O7 : m76.1 50 ((5 : Nat) : Int) = B5.1 0 3 := by rw [O6.2.2.2.2.1, yN_ne (by decide), (yBt_v _ _ _).2.2.1 3 (by decide) (by decide)]
                have RW := I6.1.2.2.1.2.1 (B5.1 0 3) (by omega) (by rw [yN_ne (by decide), (yBt_v _ _ _).2.2.1 0 (by decide) (by decide)]; omega)
                have RW4 := RW.1.2.2.2
                rw [yN_nk (by decide), (yBt_v _ _ _).2.2.2 4 (by decide)] at RW4
                intro t80 et80 ht80
                have E2 : t80 = t := by have h0 := I6.1.2.1.2.1; omega
                intro x81 hx81 kx81 lx81
                refine And.intro ht80.1 ⟨wk_X4_addSuper, wm_X4_addSuper hg d (by omega), _, _, _, rfl, ht80.1, ⟨by omega, by omega⟩, ⟨by omega, by omega⟩, ⟨by omega, by omega⟩, (by rw [E2, show x81 = B5.1 0 3 by omega, RW4]; have h0 := W6; split at h0 <;> omega), ?_⟩
                intro m82 qm82 p83
                have z84 := zfr_t z78 (qm82 t (by first | rfl | omega))
                have EE := yUI_ej (m1 := m82) (zfr_t (zfr_t (qm2 (t + 100)) (qm54 (t + 100))) (qm76 (t + 100))) Q5 r6 rfl W6 I6 M6 rfl rfl (by have h0 := p83; rw [E2, show x81 = B5.1 0 3 by omega, show x5 = B5.1 0 2 by omega] at h0; exact h0) k6
                have K6 := yTI_k I6.1
                have K7 : m82.1 1 ((6 : Nat) : Int) = ykd τ p6 := by rw [EE.2.1]; exact K6.1
                have KK := EE.1
                intro x85 hx85 kx85 lx85
                refine And.intro ⟨⟨by omega, by omega⟩, ⟨by omega, by omega⟩⟩ (And.intro (fun c86 => ?_) (fun c86 => ?_))
                · refine Exists.intro (Int.toNat (2147483648 - (v1 + 1))) (And.intro (by omega) ?_)
                  exact ⟨_, rfl, z84, ⟨by omega, by omega⟩, (EE.2.2.2 (by omega)), rfl⟩
                · exact And.intro (zrtb (by omega)) (And.intro ⟨by omega, by omega⟩ (hQ _ _ (fun T hT => by rw [hT]; exact z84) (by omega) (by omega) (Or.inl ⟨rfl, EE.2.2.1 (by omega)⟩)))
              · exact And.intro (zrtb (by omega)) (And.intro ⟨by omega, by omega⟩ (hQ _ _ (fun T hT => by rw [hT]; exact z78) (by omega) (by omega) (Or.inr ⟨rfl, yFa_t (yR_s Q5.1.1 ym7) (by rcases BB with h0 | h0; exact h0.2; (exfalso; omega))⟩)))
            · refine ⟨wk_X3_behindType, wm_X3_behindType hg d (by omega), _, rfl, ⟨by omega, by omega⟩, ?_⟩
              intro x87 m88 qm88 kx87 lx87 p89
              have z90 := zfr_t z57 (qm88 t)
              have TY : yT1 τ _ 0 [] _ t _ _ m54 := (by rcases p55 with h0 | h0; exact h0.2; (exfalso; omega))
              have BB := yT1_b TY (a := 1) (by rw [ymay_1 (yBt_v _ _ _).1]; omega) p89
              refine And.intro ⟨by omega, by omega⟩ (And.intro (fun c91 => ?_) (fun c91 => ?_))
              · obtain ⟨-, M5, p6, n6, x6, as6, ⟨r6, k6⟩, I6, M6⟩ := (by rcases BB with h0 | h0; (exfalso; omega); exact h0 : _ ∧ _ ∧ _)
                have O6 := I6.1.2.1
                have L6 := I6.2.2.1
                have W6 := p56 (by omega)
                rw [yW3_t (by split <;> omega)] at W6
                have O7 : m88.1 50 ((5 : Nat) : Int) = B5.1 0 3 := by rw [O6.2.2.2.2.1, yN_ne (by decide), (yBt_v _ _ _).2.2.1 3 (by decide) (by decide)]
                have RW := I6.1.2.2.1.2.1 (B5.1 0 3) (by omega) (by rw [yN_ne (by decide), (yBt_v _ _ _).2.2.1 0 (by decide) (by decide)]; omega)
                have RW4 := RW.1.2.2.2
                rw [yN_nk (by decide), (yBt_v _ _ _).2.2.2 4 (by decide)] at RW4
                intro t92 et92 ht92
                have E2 : t92 = t := by have h0 := I6.1.2.1.2.1; omega
                intro x93 hx93 kx93 lx93
                refine And.intro ht92.1 ⟨wk_X4_addSuper, wm_X4_addSuper hg d (by omega), _, _, _, rfl, ht92.1, ⟨by omega, by omega⟩, ⟨by omega, by omega⟩, ⟨by omega, by omega⟩, (by rw [E2, show x93 = B5.1 0 3 by omega, RW4]; have h0 := W6; split at h0 <;> omega), ?_⟩
                intro m94 qm94 p95
                have z96 := zfr_t z90 (qm94 t (by first | rfl | omega))
                have EE := yUI_ej (m1 := m94) (zfr_t (zfr_t (qm2 (t + 100)) (qm54 (t + 100))) (qm88 (t + 100))) Q5 r6 rfl W6 I6 M6 rfl rfl (by have h0 := p95; rw [E2, show x93 = B5.1 0 3 by omega, show x5 = B5.1 0 2 by omega] at h0; exact h0) k6
                have K6 := yTI_k I6.1
                have K7 : m94.1 1 ((6 : Nat) : Int) = ykd τ p6 := by rw [EE.2.1]; exact K6.1
                have KK := EE.1
                intro x97 hx97 kx97 lx97
                refine And.intro ⟨⟨by omega, by omega⟩, ⟨by omega, by omega⟩⟩ (And.intro (fun c98 => ?_) (fun c98 => ?_))
                · refine Exists.intro (Int.toNat (2147483648 - (v1 + 1))) (And.intro (by omega) ?_)
                  exact ⟨_, rfl, z96, ⟨by omega, by omega⟩, (EE.2.2.2 (by omega)), rfl⟩
                · exact And.intro (zrtb (by omega)) (And.intro ⟨by omega, by omega⟩ (hQ _ _ (fun T hT => by rw [hT]; exact z96) (by omega) (by omega) (Or.inl ⟨rfl, EE.2.2.1 (by omega)⟩)))
              · exact And.intro (zrtb (by omega)) (And.intro ⟨by omega, by omega⟩ (hQ _ _ (fun T hT => by rw [hT]; exact z90) (by omega) (by omega) (Or.inr ⟨rfl, yFa_t (yR_s Q5.1.1 ym7) (by rcases BB with h0 | h0; exact h0.2; (exfalso; omega))⟩)))
