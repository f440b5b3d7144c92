def qk_X3_type (n : Nat) : zC := fun As μ Q => ∃ (a1 : Int) (a2 : Int) (a3 : Int) (τ : yT) (p : Int) (B : yB) (t : Nat) (q : Nat) (σ : Int) (w : Int) (fr : List yF), As = [.inr (.inr (50, 50)), .inl a1, .inl a2, .inl a3] ∧ (0 ≤ a1 ∧ a1 ≤ 8) ∧ (0 ≤ a2 ∧ a2 ≤ 2) ∧ (0 ≤ a3 ∧ a3 ≤ 1) ∧ (8 - a1 ≤ n) ∧ (yTI τ μ p B t q σ (yfl fr ++ ywr w)) ∧ (a1 = (fr.length : Int) ∧ a2 = yW2 B fr ∧ a3 = yW3 B fr) ∧ (μ.1 50 ((10 : Nat) : Int) = 0) ∧ (∀ (v : Int) (μ' : zM), (∀ T : Nat, T = 51 → zfr T μ μ') → 0 ≤ v → v ≤ 1 → (yTO τ (10, p, w, fr, B) w fr B t q σ v μ') → (v = 1 → yW3 B fr = 0) → Q (some (.inl v)) μ')
def qk_X3_args (n : Nat) : zC := fun As μ Q => ∃ (a1 : Int) (a2 : Int) (τ : yT) (p : Int) (B : yB) (t : Nat) (q : Nat) (σ : Int) (w : Int) (h : Int) (fr : List yF), As = [.inr (.inr (50, 50)), .inl a1, .inl a2] ∧ (0 ≤ a1 ∧ a1 ≤ 8) ∧ (0 ≤ a2 ∧ a2 ≤ 1) ∧ (8 - a1 ≤ n) ∧ (yTI τ μ p B t q σ (yfl ((w, h, []) :: fr))) ∧ (a1 = (fr.length : Int) + 1 ∧ a2 = yW4 B ((w, h, []) :: fr)) ∧ (μ.1 50 ((10 : Nat) : Int) = 0) ∧ (ykd τ p ≠ 0) ∧ (∀ (v : Int) (μ' : zM), (∀ T : Nat, T = 51 → zfr T μ μ') → (-1) ≤ v → v ≤ 300 → (yAO τ (11, ynx τ p, 0, (w, h, []) :: fr, B) w h fr B t q σ v μ') → Q (some (.inl v)) μ')
def qk_X3_wild (n : Nat) : zC := fun As μ Q => ∃ (a1 : Int) (a2 : Int) (τ : yT) (p : Int) (B : yB) (t : Nat) (q : Nat) (σ : Int) (fr : List yF), As = [.inr (.inr (50, 50)), .inl a1, .inl a2] ∧ (0 ≤ a1 ∧ a1 ≤ 8) ∧ (0 ≤ a2 ∧ a2 ≤ 1) ∧ (8 - a1 ≤ n) ∧ (yTI τ μ p B t q σ (yfl fr)) ∧ (a1 = (fr.length : Int) ∧ 1 ≤ a1 ∧ a2 = yW4 B fr) ∧ (μ.1 50 ((10 : Nat) : Int) = 0) ∧ (ykd τ p = 63) ∧ (∀ (v : Int) (μ' : zM), (∀ T : Nat, T = 51 → zfr T μ μ') → 0 ≤ v → v ≤ 1 → (yWO τ (11, p, 0, fr, B) fr B t q σ v μ') → Q (some (.inl v)) μ')
set_option maxHeartbeats 4000000 in
theorem qm_X3_wild {g : zΓ} (hg : zg g) (n : Nat) (hT : ∀ d, 4 + 3 * n ≤ d → zOk g d 48 (qk_X3_type n)) (d : Nat) (hd : 5 + 3 * n ≤ d) : zOk g d 50 (qk_X3_wild n) := by
  obtain ⟨d, rfl⟩ : ∃ d', d = d' + 1 := ⟨d - 1, by omega⟩
  refine zOk_straight hg (show mt_tab[50]? = some mt_X3_wild from rfl) [] 59 rfl fun As μ Q hC => ?_
  obtain ⟨a1, a2, τ, p, B, t, q, σ, fr, rfl, ha1, ha2, hp0, hp1, hp2, hp3, hp4, hQ⟩ := hC
  have K0 := yTI_k hp1.1
  have HO := hp1.1.2.1
  obtain ⟨W1, W2, W3⟩ := hp2
  refine ⟨rfl, ?_⟩
  have z0 : zfr 51 μ μ := zfr_r 51 μ
  intro x1 hx1 kx1 lx1
  refine And.intro ⟨⟨by omega, by omega⟩, ⟨by omega, by omega⟩⟩ (And.intro (fun c2 => ?_) (fun c2 => ?_))
  · refine And.intro ⟨by omega, by omega⟩ (And.intro (fun c3 => ?_) (fun c3 => ?_))
    · refine ⟨wk_X5_step, wm_X5_step hg d (by omega), rfl, ?_⟩
      intro m4 qm4 p5
      have z6 := zfr_t z0 (qm4 51)
      have H1 := yTI_st hp1 (by omega) p5
      have K1 := yTI_k H1.1.1
      have HO1 := H1.1.1.2.1
      have M1 : m4.1 50 ((10 : Nat) : Int) = 0 := by rw [H1.2]; exact hp3
      intro x7 hx7 kx7 lx7
      refine And.intro ⟨⟨by omega, by omega⟩, ⟨by omega, by omega⟩⟩ (And.intro (fun c8 => ?_) (fun c8 => ?_))
      · refine And.intro ⟨by omega, by omega⟩ (And.intro (fun c9 => ?_) (fun c9 => ?_))
        · exfalso; omega
        · intro x10 hx10 kx10 lx10
          refine And.intro ⟨⟨by omega, by omega⟩, ⟨by omega, by omega⟩⟩ (And.intro (fun c11 => ?_) (fun c11 => ?_))
          · refine And.intro ⟨by omega, by omega⟩ (And.intro (fun c12 => ?_) (fun c12 => ?_))
            · refine ⟨wk_X3_tell, wm_X3_tell hg d (by omega), _, rfl, ⟨by omega, by omega⟩, (by omega), ?_⟩
              intro m13 qm13 p14
              have z15 := zfr_t z6 (qm13 51)
              have H2 := yTI_te H1.1 (by omega) p14
              refine ⟨wk_X5_step, wm_X5_step hg d (by omega), rfl, ?_⟩
              intro m16 qm16 p17
              have z18 := zfr_t z15 (qm16 51)
              have K2 := yTI_k H2.1.1
              have H3 := yTI_st H2.1 (by omega) p17
              refine ⟨(qk_X3_type n), hT d (by omega), _, _, _, _, _, _, _, _, _, _, _, rfl, ⟨by omega, by omega⟩, ⟨by omega, by omega⟩, ⟨by omega, by omega⟩, (by omega), (show yTI _ _ _ _ _ _ _ (yfl fr ++ ywr 5) from H3.1), ⟨by omega, by unfold yW2; rw [if_neg (by omega)], by unfold yW3; rw [if_neg (by omega)]⟩, (by rw [H3.2, H2.2]; exact M1), ?_⟩
              intro x19 m20 qm20 kx19 lx19 p21 p22
              have z23 := zfr_t z18 (qm20 51 (by first | rfl | omega))
              exact And.intro (zrtb (by omega)) (And.intro ⟨by omega, by omega⟩ (hQ _ _ (fun T hT => by rw [hT]; exact z23) (by omega) (by omega) (by have h0 := p21; rcases h0 with h0 | h0; exact Or.inl ⟨h0.1, Or.inr ⟨5, yT1_t (yR_s (yR_r τ _) (ym11_d hp4 (by omega) (by omega) (by omega))) h0.2⟩⟩; exact Or.inr ⟨h0.1, yFa_t (yR_s (yR_r τ _) (ym11_d hp4 (by omega) (by omega) (by omega))) h0.2⟩)))
            · exfalso; omega
          · refine ⟨wk_X3_tell, wm_X3_tell hg d (by omega), _, rfl, ⟨by omega, by omega⟩, (by omega), ?_⟩
            intro m24 qm24 p25
            have z26 := zfr_t z6 (qm24 51)
            have H2 := yTI_te H1.1 (by omega) p25
            exact And.intro (zrtb (by omega)) (And.intro ⟨by omega, by omega⟩ (hQ _ _ (fun T hT => by rw [hT]; exact z26) (by omega) (by omega) (Or.inl ⟨rfl, Or.inl ⟨_, _, yR_s (yR_r τ _) (ym11_p hp4 (by omega) (by omega) (by omega) (by omega)), H2.1, H2.2.trans M1⟩⟩)))
      · refine And.intro ⟨by omega, by omega⟩ (And.intro (fun c27 => ?_) (fun c27 => ?_))
        · refine And.intro ⟨by omega, by omega⟩ (And.intro (fun c28 => ?_) (fun c28 => ?_))
          · exfalso; omega
          · refine ⟨wk_X3_tell, wm_X3_tell hg d (by omega), _, rfl, ⟨by omega, by omega⟩, (by omega), ?_⟩
            intro m29 qm29 p30
            have z31 := zfr_t z6 (qm29 51)
            have H2 := yTI_te H1.1 (by omega) p30
            refine ⟨wk_X5_step, wm_X5_step hg d (by omega), rfl, ?_⟩
            intro m32 qm32 p33
            have z34 := zfr_t z31 (qm32 51)
            have K2 := yTI_k H2.1.1
            have H3 := yTI_st H2.1 (by omega) p33
            refine ⟨(qk_X3_type n), hT d (by omega), _, _, _, _, _, _, _, _, _, _, _, rfl, ⟨by omega, by omega⟩, ⟨by omega, by omega⟩, ⟨by omega, by omega⟩, (by omega), (show yTI _ _ _ _ _ _ _ (yfl fr ++ ywr 4) from H3.1), ⟨by omega, by unfold yW2; rw [if_neg (by omega)], by unfold yW3; rw [if_neg (by omega)]⟩, (by rw [H3.2, H2.2]; exact M1), ?_⟩
            intro x35 m36 qm36 kx35 lx35 p37 p38
            have z39 := zfr_t z34 (qm36 51 (by first | rfl | omega))
            exact And.intro (zrtb (by omega)) (And.intro ⟨by omega, by omega⟩ (hQ _ _ (fun T hT => by rw [hT]; exact z39) (by omega) (by omega) (by have h0 := p37; rcases h0 with h0 | h0; exact Or.inl ⟨h0.1, Or.inr ⟨4, yT1_t (yR_s (yR_r τ _) (ym11_u hp4 (by omega) (by omega) (by omega))) h0.2⟩⟩; exact Or.inr ⟨h0.1, yFa_t (yR_s (yR_r τ _) (ym11_u hp4 (by omega) (by omega) (by omega))) h0.2⟩)))
        · exfalso; omega
    · refine ⟨wk_X3_fail, wm_X3_fail hg d (by omega), _, rfl, ⟨by omega, by omega⟩, ?_⟩
      intro x40 m41 qm41 kx40 lx40 p42
      have z43 := zfr_t z0 (qm41 51)
      exact And.intro (zrtb (by omega)) (And.intro ⟨by omega, by omega⟩ (hQ _ _ (fun T hT => by rw [hT]; exact z43) (by omega) (by omega) (Or.inr ⟨by omega, yFa_f hp1.1 (yR_s (yR_r τ _) (ym11_7 hp4 (by omega) (by omega))) p42⟩)))
  · refine ⟨wk_X3_fail, wm_X3_fail hg d (by omega), _, rfl, ⟨by omega, by omega⟩, ?_⟩
    intro x44 m45 qm45 kx44 lx44 p46
    have z47 := zfr_t z0 (qm45 51)
    exact And.intro (zrtb (by omega)) (And.intro ⟨by omega, by omega⟩ (hQ _ _ (fun T hT => by rw [hT]; exact z47) (by omega) (by omega) (Or.inr ⟨by omega, yFa_f hp1.1 (yR_s (yR_r τ _) (ym11_6 hp4 (by omega))) p46⟩)))
set_option maxHeartbeats 4000000 in
theorem qm_X3_args {g : zΓ} (hg : zg g) (n : Nat) (hT : ∀ d, 4 + 3 * n ≤ d → zOk g d 48 (qk_X3_type n)) (d : Nat) (hd : 6 + 3 * n ≤ d) : zOk g d 49 (qk_X3_args n) := by
  obtain ⟨d, rfl⟩ : ∃ d', d = d' + 1 := ⟨d - 1, by omega⟩
  refine zOk_loop hg (show mt_tab[49]? = some mt_X3_args from rfl) ([(2, [0, 1, 2, 3])], []) 67 rfl fun As μ Q hC => ?_
  obtain ⟨a1, a2, τ, p, B, t, q, σ, w, h, fr, rfl, ha1, ha2, hp0, hp1, hp2, hp3, hp4, hQ⟩ := hC
  have z0 : zfr 51 μ μ := zfr_r 51 μ
  refine ⟨rfl, fun pc vs μ' n => ∃ (v1 : Int) (v2 : Int) (v3 : Int), vs = [.inr (.inr (50, 50)), .inl v1, .inl v2, .inl v3] ∧ zfr 51 μ μ' ∧ (0 ≤ v1 ∧ v1 ≤ 8) ∧ (0 ≤ v2 ∧ v2 ≤ 1) ∧ (1 ≤ v3 ∧ v3 ≤ 301) ∧ (v1 = a1 ∧ v2 = a2) ∧ (yAI τ (11, ynx τ p, 0, (w, h, []) :: fr, B) w h fr B t q σ v3 μ') ∧ n = (Int.toNat (2147483648 - v3)), ?_, ?_, trivial⟩
  · refine Exists.intro (Int.toNat (2147483648 - 1)) ?_
    exact ⟨_, _, _, rfl, z0, ⟨by omega, by omega⟩, ⟨by omega, by omega⟩, ⟨by omega, by omega⟩, ⟨by omega, by omega⟩, ⟨p, B.1 0 2, [], ⟨by rw [yN_id]; exact yR_r τ _, rfl, fun a h0 => absurd h0 (by simp), hp4⟩, by rw [yN_id]; exact hp1, hp3⟩, rfl⟩
  · intro vs m0 n hI
    clear z0
    obtain ⟨v1, v2, v3, rfl, z0, hv1, hv2, hv3, i0, i1, rfl⟩ := hI
    have L3 := yAI_300 i1
    obtain ⟨p0, n0, as0, ⟨r0, l0, a0, k0⟩, I0, M0⟩ := i1
    refine And.intro ⟨⟨by omega, by omega⟩, ⟨by omega, by omega⟩⟩ (And.intro (fun c1 => ?_) (fun c1 => ?_))
    · exfalso; omega
    · refine ⟨wk_X5_step, wm_X5_step hg d (by omega), rfl, ?_⟩
      intro m2 qm2 p3
      have z4 := zfr_t z0 (qm2 51)
      have H1 := yTI_st I0 k0 p3
      have K1 := yTI_k H1.1.1
      have M1 : m2.1 50 ((10 : Nat) : Int) = 0 := by rw [H1.2]; exact M0
      intro x5 hx5 kx5 lx5
      refine And.intro ⟨⟨by omega, by omega⟩, ⟨by omega, by omega⟩⟩ (And.intro (fun c6 => ?_) (fun c6 => ?_))
      · refine ⟨(qk_X3_type n), hT d (by omega), _, _, _, _, _, _, _, _, _, _, _, rfl, ⟨by omega, by omega⟩, ⟨by omega, by omega⟩, ⟨by omega, by omega⟩, (by omega), (yTI_0 H1.1), ⟨by simp only [List.length_cons]; omega, by unfold yW2; rw [if_neg (by simp)], by unfold yW3; rw [if_neg (by simp)]⟩, M1, ?_⟩
        intro x7 m8 qm8 kx7 lx7 p9 p10
        have z11 := zfr_t z4 (qm8 51 (by first | rfl | omega))
        refine And.intro ⟨by omega, by omega⟩ (And.intro (fun c12 => ?_) (fun c12 => ?_))
        · exact And.intro trivial (And.intro ⟨by omega, by omega⟩ (hQ _ _ (fun T hT => by rw [hT]; exact z11) (by omega) (by omega) (Or.inr ⟨rfl, yFa_t r0 (by rcases p9 with h0 | h0; (exfalso; omega); exact (yFa_t (yR_s (yR_r τ _) (ym11_t (by omega))) h0.2))⟩)))
        · have AA : yAA τ (11, ynx τ p, 0, (w, h, []) :: fr, B) w h fr B t q σ v3 m8 := yAA_t r0 (by omega) l0 a0 (by have h0 := p9; rw [show x7 = 1 by omega] at h0; exact h0)
          intro x13 hx13 kx13 lx13
          refine And.intro ⟨⟨by omega, by omega⟩, ⟨by omega, by omega⟩⟩ (And.intro (fun c14 => ?_) (fun c14 => ?_))
          · refine ⟨wk_X3_behindType, wm_X3_behindType hg d (by omega), _, rfl, ⟨by omega, by omega⟩, ?_⟩
            intro x15 m16 qm16 kx15 lx15 p17
            have z18 := zfr_t z11 (qm16 51)
            have BB := yAA_b AA (a := 1) (by omega) p17
            refine And.intro ⟨by omega, by omega⟩ (And.intro (fun c19 => ?_) (fun c19 => ?_))
            · obtain ⟨-, -, p4, n4, as4, ⟨r4, l4, a4, k4⟩, I4, M4⟩ := (by rcases BB with h0 | h0; (exfalso; omega); exact h0 : _ ∧ _ ∧ _)
              have K4 := yTI_k I4.1
              intro x20 hx20 kx20 lx20
              refine And.intro ⟨⟨by omega, by omega⟩, ⟨by omega, by omega⟩⟩ (And.intro (fun c21 => ?_) (fun c21 => ?_))
              · refine Exists.intro (Int.toNat (2147483648 - (v3 + 1))) (And.intro (by omega) ?_)
                exact ⟨_, _, _, rfl, z18, ⟨by omega, by omega⟩, ⟨by omega, by omega⟩, ⟨by omega, by omega⟩, i0, ⟨_, _, as4, ⟨yR_s r4 (ym13_c (by omega)), by omega, a4, by omega⟩, I4, M4⟩, rfl⟩
              · refine ⟨wk_X5_step, wm_X5_step hg d (by omega), rfl, ?_⟩
                intro m22 qm22 p23
                have z24 := zfr_t z18 (qm22 51)
                have H5 := yTI_st I4 (by omega) p23
                exact And.intro trivial (And.intro ⟨by omega, by omega⟩ (hQ _ _ (fun T hT => by rw [hT]; exact z24) (by omega) (by omega) (Or.inl ⟨by omega, _, _, as4, ⟨yR_s r4 (ym13_g (by omega)), l4⟩, H5.1, by rw [H5.2]; exact M4⟩)))
            · exact And.intro trivial (And.intro ⟨by omega, by omega⟩ (hQ _ _ (fun T hT => by rw [hT]; exact z18) (by omega) (by omega) (Or.inr ⟨rfl, by rcases BB with h0 | h0; exact h0.2; (exfalso; omega)⟩)))
          · intro x25 hx25 kx25 lx25
            refine And.intro ⟨⟨by omega, by omega⟩, ⟨by omega, by omega⟩⟩ (And.intro (fun c26 => ?_) (fun c26 => ?_))
            · refine ⟨wk_X3_behindType, wm_X3_behindType hg d (by omega), _, rfl, ⟨by omega, by omega⟩, ?_⟩
              intro x27 m28 qm28 kx27 lx27 p29
              have z30 := zfr_t z11 (qm28 51)
              have BB := yAA_b AA (a := 0) (by omega) p29
              refine And.intro ⟨by omega, by omega⟩ (And.intro (fun c31 => ?_) (fun c31 => ?_))
              · obtain ⟨-, -, p4, n4, as4, ⟨r4, l4, a4, k4⟩, I4, M4⟩ := (by rcases BB with h0 | h0; (exfalso; omega); exact h0 : _ ∧ _ ∧ _)
                have K4 := yTI_k I4.1
                intro x32 hx32 kx32 lx32
                refine And.intro ⟨⟨by omega, by omega⟩, ⟨by omega, by omega⟩⟩ (And.intro (fun c33 => ?_) (fun c33 => ?_))
                · refine Exists.intro (Int.toNat (2147483648 - (v3 + 1))) (And.intro (by omega) ?_)
                  exact ⟨_, _, _, rfl, z30, ⟨by omega, by omega⟩, ⟨by omega, by omega⟩, ⟨by omega, by omega⟩, i0, ⟨_, _, as4, ⟨yR_s r4 (ym13_c (by omega)), by omega, a4, by omega⟩, I4, M4⟩, rfl⟩
                · refine ⟨wk_X5_step, wm_X5_step hg d (by omega), rfl, ?_⟩
                  intro m34 qm34 p35
                  have z36 := zfr_t z30 (qm34 51)
                  have H5 := yTI_st I4 (by omega) p35
                  exact And.intro trivial (And.intro ⟨by omega, by omega⟩ (hQ _ _ (fun T hT => by rw [hT]; exact z36) (by omega) (by omega) (Or.inl ⟨by omega, _, _, as4, ⟨yR_s r4 (ym13_g (by omega)), l4⟩, H5.1, by rw [H5.2]; exact M4⟩)))
              · exact And.intro trivial (And.intro ⟨by omega, by omega⟩ (hQ _ _ (fun T hT => by rw [hT]; exact z30) (by omega) (by omega) (Or.inr ⟨rfl, by rcases BB with h0 | h0; exact h0.2; (exfalso; omega)⟩)))
            · refine ⟨wk_X3_behindType, wm_X3_behindType hg d (by omega), _, rfl, ⟨by omega, by omega⟩, ?_⟩
              intro x37 m38 qm38 kx37 lx37 p39
              have z40 := zfr_t z11 (qm38 51)
              have BB := yAA_b AA (a := 1) (by omega) p39
              refine And.intro ⟨by omega, by omega⟩ (And.intro (fun c41 => ?_) (fun c41 => ?_))
              · obtain ⟨-, -, p4, n4, as4, ⟨r4, l4, a4, k4⟩, I4, M4⟩ := (by rcases BB with h0 | h0; (exfalso; omega); exact h0 : _ ∧ _ ∧ _)
                have K4 := yTI_k I4.1
                intro x42 hx42 kx42 lx42
                refine And.intro ⟨⟨by omega, by omega⟩, ⟨by omega, by omega⟩⟩ (And.intro (fun c43 => ?_) (fun c43 => ?_))
                · refine Exists.intro (Int.toNat (2147483648 - (v3 + 1))) (And.intro (by omega) ?_)
                  exact ⟨_, _, _, rfl, z40, ⟨by omega, by omega⟩, ⟨by omega, by omega⟩, ⟨by omega, by omega⟩, i0, ⟨_, _, as4, ⟨yR_s r4 (ym13_c (by omega)), by omega, a4, by omega⟩, I4, M4⟩, rfl⟩
                · refine ⟨wk_X5_step, wm_X5_step hg d (by omega), rfl, ?_⟩
                  intro m44 qm44 p45
                  have z46 := zfr_t z40 (qm44 51)
                  have H5 := yTI_st I4 (by omega) p45
                  exact And.intro trivial (And.intro ⟨by omega, by omega⟩ (hQ _ _ (fun T hT => by rw [hT]; exact z46) (by omega) (by omega) (Or.inl ⟨by omega, _, _, as4, ⟨yR_s r4 (ym13_g (by omega)), l4⟩, H5.1, by rw [H5.2]; exact M4⟩)))
              · exact And.intro trivial (And.intro ⟨by omega, by omega⟩ (hQ _ _ (fun T hT => by rw [hT]; exact z40) (by omega) (by omega) (Or.inr ⟨rfl, by rcases BB with h0 | h0; exact h0.2; (exfalso; omega)⟩)))
      · refine ⟨(qk_X3_wild n), qm_X3_wild hg n hT d (by omega), _, _, _, _, _, _, _, _, _, rfl, ⟨by omega, by omega⟩, ⟨by omega, by omega⟩, (by omega), H1.1, ⟨by simp only [List.length_cons]; omega, by omega, by rw [yW4_N (w' := w) (h' := h) (as' := [])]; omega⟩, M1, (by omega), ?_⟩
        intro x47 m48 qm48 kx47 lx47 p49
        have z50 := zfr_t z4 (qm48 51 (by first | rfl | omega))
        refine And.intro ⟨by omega, by omega⟩ (And.intro (fun c51 => ?_) (fun c51 => ?_))
        · exact And.intro trivial (And.intro ⟨by omega, by omega⟩ (hQ _ _ (fun T hT => by rw [hT]; exact z50) (by omega) (by omega) (Or.inr ⟨rfl, yFa_t r0 (by rcases p49 with h0 | h0; (exfalso; omega); exact h0.2)⟩)))
        · have AA : yAA τ (11, ynx τ p, 0, (w, h, []) :: fr, B) w h fr B t q σ v3 m48 := yAA_w r0 l0 a0 (by have h0 := p49; rw [show x47 = 1 by omega] at h0; exact h0)
          intro x52 hx52 kx52 lx52
          refine And.intro ⟨⟨by omega, by omega⟩, ⟨by omega, by omega⟩⟩ (And.intro (fun c53 => ?_) (fun c53 => ?_))
          · refine ⟨wk_X3_behindType, wm_X3_behindType hg d (by omega), _, rfl, ⟨by omega, by omega⟩, ?_⟩
            intro x54 m55 qm55 kx54 lx54 p56
            have z57 := zfr_t z50 (qm55 51)
            have BB := yAA_b AA (a := 1) (by omega) p56
            refine And.intro ⟨by omega, by omega⟩ (And.intro (fun c58 => ?_) (fun c58 => ?_))
            · obtain ⟨-, -, p4, n4, as4, ⟨r4, l4, a4, k4⟩, I4, M4⟩ := (by rcases BB with h0 | h0; (exfalso; omega); exact h0 : _ ∧ _ ∧ _)
              have K4 := yTI_k I4.1
              intro x59 hx59 kx59 lx59
              refine And.intro ⟨⟨by omega, by omega⟩, ⟨by omega, by omega⟩⟩ (And.intro (fun c60 => ?_) (fun c60 => ?_))
              · refine Exists.intro (Int.toNat (2147483648 - (v3 + 1))) (And.intro (by omega) ?_)
                exact ⟨_, _, _, rfl, z57, ⟨by omega, by omega⟩, ⟨by omega, by omega⟩, ⟨by omega, by omega⟩, i0, ⟨_, _, as4, ⟨yR_s r4 (ym13_c (by omega)), by omega, a4, by omega⟩, I4, M4⟩, rfl⟩
              · refine ⟨wk_X5_step, wm_X5_step hg d (by omega), rfl, ?_⟩
                intro m61 qm61 p62
                have z63 := zfr_t z57 (qm61 51)
                have H5 := yTI_st I4 (by omega) p62
                exact And.intro trivial (And.intro ⟨by omega, by omega⟩ (hQ _ _ (fun T hT => by rw [hT]; exact z63) (by omega) (by omega) (Or.inl ⟨by omega, _, _, as4, ⟨yR_s r4 (ym13_g (by omega)), l4⟩, H5.1, by rw [H5.2]; exact M4⟩)))
            · exact And.intro trivial (And.intro ⟨by omega, by omega⟩ (hQ _ _ (fun T hT => by rw [hT]; exact z57) (by omega) (by omega) (Or.inr ⟨rfl, by rcases BB with h0 | h0; exact h0.2; (exfalso; omega)⟩)))
          · intro x64 hx64 kx64 lx64
            refine And.intro ⟨⟨by omega, by omega⟩, ⟨by omega, by omega⟩⟩ (And.intro (fun c65 => ?_) (fun c65 => ?_))
            · refine ⟨wk_X3_behindType, wm_X3_behindType hg d (by omega), _, rfl, ⟨by omega, by omega⟩, ?_⟩
              intro x66 m67 qm67 kx66 lx66 p68
              have z69 := zfr_t z50 (qm67 51)
              have BB := yAA_b AA (a := 0) (by omega) p68
              refine And.intro ⟨by omega, by omega⟩ (And.intro (fun c70 => ?_) (fun c70 => ?_))
              · obtain ⟨-, -, p4, n4, as4, ⟨r4, l4, a4, k4⟩, I4, M4⟩ := (by rcases BB with h0 | h0; (exfalso; omega); exact h0 : _ ∧ _ ∧ _)
                have K4 := yTI_k I4.1
                intro x71 hx71 kx71 lx71
                refine And.intro ⟨⟨by omega, by omega⟩, ⟨by omega, by omega⟩⟩ (And.intro (fun c72 => ?_) (fun c72 => ?_))
                · refine Exists.intro (Int.toNat (2147483648 - (v3 + 1))) (And.intro (by omega) ?_)
                  exact ⟨_, _, _, rfl, z69, ⟨by omega, by omega⟩, ⟨by omega, by omega⟩, ⟨by omega, by omega⟩, i0, ⟨_, _, as4, ⟨yR_s r4 (ym13_c (by omega)), by omega, a4, by omega⟩, I4, M4⟩, rfl⟩
                · refine ⟨wk_X5_step, wm_X5_step hg d (by omega), rfl, ?_⟩
                  intro m73 qm73 p74
                  have z75 := zfr_t z69 (qm73 51)
                  have H5 := yTI_st I4 (by omega) p74
                  exact And.intro trivial (And.intro ⟨by omega, by omega⟩ (hQ _ _ (fun T hT => by rw [hT]; exact z75) (by omega) (by omega) (Or.inl ⟨by omega, _, _, as4, ⟨yR_s r4 (ym13_g (by omega)), l4⟩, H5.1, by rw [H5.2]; exact M4⟩)))
              · exact And.intro trivial (And.intro ⟨by omega, by omega⟩ (hQ _ _ (fun T hT => by rw [hT]; exact z69) (by omega) (by omega) (Or.inr ⟨rfl, by rcases BB with h0 | h0; exact h0.2; (exfalso; omega)⟩)))
            · refine ⟨wk_X3_behindType, wm_X3_behindType hg d (by omega), _, rfl, ⟨by omega, by omega⟩, ?_⟩
              intro x76 m77 qm77 kx76 lx76 p78
              have z79 := zfr_t z50 (qm77 51)
              have BB := yAA_b AA (a := 1) (by omega) p78
              refine And.intro ⟨by omega, by omega⟩ (And.intro (fun c80 => ?_) (fun c80 => ?_))
              · obtain ⟨-, -, p4, n4, as4, ⟨r4, l4, a4, k4⟩, I4, M4⟩ := (by rcases BB with h0 | h0; (exfalso; omega); exact h0 : _ ∧ _ ∧ _)
                have K4 := yTI_k I4.1
                intro x81 hx81 kx81 lx81
                refine And.intro ⟨⟨by omega, by omega⟩, ⟨by omega, by omega⟩⟩ (And.intro (fun c82 => ?_) (fun c82 => ?_))
                · refine Exists.intro (Int.toNat (2147483648 - (v3 + 1))) (And.intro (by omega) ?_)
                  exact ⟨_, _, _, rfl, z79, ⟨by omega, by omega⟩, ⟨by omega, by omega⟩, ⟨by omega, by omega⟩, i0, ⟨_, _, as4, ⟨yR_s r4 (ym13_c (by omega)), by omega, a4, by omega⟩, I4, M4⟩, rfl⟩
                · refine ⟨wk_X5_step, wm_X5_step hg d (by omega), rfl, ?_⟩
                  intro m83 qm83 p84
                  have z85 := zfr_t z79 (qm83 51)
                  have H5 := yTI_st I4 (by omega) p84
                  exact And.intro trivial (And.intro ⟨by omega, by omega⟩ (hQ _ _ (fun T hT => by rw [hT]; exact z85) (by omega) (by omega) (Or.inl ⟨by omega, _, _, as4, ⟨yR_s r4 (ym13_g (by omega)), l4⟩, H5.1, by rw [H5.2]; exact M4⟩)))
              · exact And.intro trivial (And.intro ⟨by omega, by omega⟩ (hQ _ _ (fun T hT => by rw [hT]; exact z79) (by omega) (by omega) (Or.inr ⟨rfl, by rcases BB with h0 | h0; exact h0.2; (exfalso; omega)⟩)))
set_option maxHeartbeats 4000000 in
theorem qm_X3_type {g : zΓ} (hg : zg g) (n : Nat) (hA : ∀ k, n = k + 1 → ∀ d, 6 + 3 * k ≤ d → zOk g d 49 (qk_X3_args k)) (d : Nat) (hd : 4 + 3 * n ≤ d) : zOk g d 48 (qk_X3_type n) := by
  obtain ⟨d, rfl⟩ : ∃ d', d = d' + 1 := ⟨d - 1, by omega⟩
  refine zOk_straight hg (show mt_tab[48]? = some mt_X3_type from rfl) [] 106 rfl fun As μ Q hC => ?_
  obtain ⟨a1, a2, a3, τ, p, B, t, q, σ, w, fr, rfl, ha1, ha2, ha3, hp0, hp1, hp2, hp3, hQ⟩ := hC
  have K0 := yTI_k hp1.1
  have HO := hp1.1.2.1
  obtain ⟨W1, W2, W3⟩ := hp2
  have W5 := yW2_c (B := B) (fr := fr)
  refine ⟨rfl, ?_⟩
  have z0 : zfr 51 μ μ := zfr_r 51 μ
  intro x1 hx1 kx1 lx1
  refine And.intro ⟨⟨by omega, by omega⟩, ⟨by omega, by omega⟩⟩ (And.intro (fun c2 => ?_) (fun c2 => ?_))
  · intro t3 et3 ht3
    have E1 : t3 = t := by have h0 := hp1.1.2.1.2.1; omega
    intro x4 hx4 kx4 lx4
    intro j5 hj5
    refine And.intro ht3.1 ⟨yk_X4_headOf, ym_X4_headOf hg d (by omega), _, _, _, rfl, ht3.1, ⟨by omega, by omega⟩, (by rw [E1]; exact yRC_pre hp1.1 _), ?_⟩
    intro x6 kx6 lx6 p7
    have HD : x6 = yhd B (ynm τ p).toInt := by have h0 := p7; rw [E1, show x4 = B.1 0 3 by omega, show j5.toInt = (ynm τ p).toInt from hj5.trans K0.2.2] at h0; rw [h0]; exact yRC_hd hp1.1 hp1.2.2.2 _
    have HB := yhd_B (x := (ynm τ p).toInt) hp1.1 hp1.2.2.2
    rw [← HD] at HB
    have HC := hp1.1.2.2.1.1.2.2
    refine And.intro ⟨by omega, by omega⟩ (And.intro (fun c8 => ?_) (fun c8 => ?_))
    · refine And.intro ⟨by omega, by omega⟩ (And.intro (fun c9 => ?_) (fun c9 => ?_))
      · refine ⟨wk_X3_fail, wm_X3_fail hg d (by omega), _, rfl, ⟨by omega, by omega⟩, ?_⟩
        intro x10 m11 qm11 kx10 lx10 p12
        have z13 := zfr_t z0 (qm11 51)
        exact And.intro (zrtb (by omega)) (And.intro ⟨by omega, by omega⟩ (hQ _ _ (fun T hT => by rw [hT]; exact z13) (by omega) (by omega) (Or.inr ⟨by omega, yFa_f hp1.1 (yR_s (yR_r τ _) (ym10_6 (by omega) (by omega) (by omega))) p12⟩) (fun h0 => by first | exact N6.1 | omega)))
      · refine And.intro ⟨⟨by omega, by omega⟩, ⟨by omega, by omega⟩⟩ (And.intro (fun c14 => ?_) (fun c14 => ?_))
        · refine ⟨wk_X3_fail, wm_X3_fail hg d (by omega), _, rfl, ⟨by omega, by omega⟩, ?_⟩
          intro x15 m16 qm16 kx15 lx15 p17
          have z18 := zfr_t z0 (qm16 51)
          exact And.intro (zrtb (by omega)) (And.intro ⟨by omega, by omega⟩ (hQ _ _ (fun T hT => by rw [hT]; exact z18) (by omega) (by omega) (Or.inr ⟨by omega, yFa_f hp1.1 (yR_s (yR_r τ _) (ym10_6 (by omega) (by omega) (by omega))) p17⟩) (fun h0 => by first | exact N6.1 | omega)))
        · intro x19 hx19 kx19 lx19
          refine And.intro ⟨⟨by omega, by omega⟩, ⟨by omega, by omega⟩⟩ (And.intro (fun c20 => ?_) (fun c20 => ?_))
          · refine And.intro ⟨by omega, by omega⟩ (And.intro (fun c21 => ?_) (fun c21 => ?_))
            · refine And.intro ⟨⟨by omega, by omega⟩, ⟨by omega, by omega⟩⟩ (And.intro (fun c22 => ?_) (fun c22 => ?_))
              · refine ⟨wk_X3_tell, wm_X3_tell hg d (by omega), _, rfl, ⟨by omega, by omega⟩, (by omega), ?_⟩
                intro m23 qm23 p24
                have z25 := zfr_t z0 (qm23 51)
                refine ⟨wk_X5_step, wm_X5_step hg d (by omega), rfl, ?_⟩
                intro m26 qm26 p27
                have z28 := zfr_t z25 (qm26 51)
                have N6 : yW3 B fr = 0 ∧ (fr.length : Int) < 8 ∧ B.1 0 2 < 300 := ⟨by omega, by omega, by omega⟩
                have N7 : ¬ ((yW2 B fr ≠ 0 ∧ 32 ≤ yhd B (ynm τ p).toInt) ∨ (yW2 B fr = 1 ∧ yhd B (ynm τ p).toInt = B.1 0 3)) := by rw [← HD]; omega
                have H1 := yTI_h hp1 (by omega) (by omega) p24 p27 hp3
                have K1 := yTI_k H1.1.1
                refine ⟨yk_X5_opensArgs, ym_X5_opensArgs hg d (by omega), rfl, (fun h0 => (yRT_n H1.1.1.1 (by rw [← K1.1, h0]; decide)).1), ?_⟩
                intro x29 kx29 lx29 p30
                refine And.intro ⟨by omega, by omega⟩ (And.intro (fun c31 => ?_) (fun c31 => ?_))
                · have bc31 := yp0 p30 c31
                  have R3 := yR_s (yR_r τ (10, p, w, fr, B)) (ym10_n (by omega) (by omega) N6 N7 (fun h0 => bc31 ((yop H1.1.1).mpr h0)))
                  rw [← HD] at R3
                  have I3 := H1.1
                  have l3 : (0 : Int) = (([] : List (List Int)).length : Int) := rfl
                  intro t32 et32 ht32
                  have E2 : t32 = t := by have h0 := I3.1.2.1.2.1; omega
                  refine And.intro ht32.1 ⟨yk_X4_arity, ym_X4_arity hg d (by omega), _, _, rfl, ht32.1, ⟨by omega, by omega⟩, ?_⟩
                  intro x33 kx33 lx33 p34
                  have AR := p34
                  rw [E2, yRC_ar I3.1, yar_N] at AR
                  refine And.intro ⟨⟨by omega, by omega⟩, ⟨by omega, by omega⟩⟩ (And.intro (fun c35 => ?_) (fun c35 => ?_))
                  · refine And.intro ⟨by omega, by omega⟩ ?_
                    intro m36 em36
                    have z37 := zfr_t z28 (zfr_u em36 (Or.inl (by decide)) (Or.inl ⟨by decide, by decide⟩))
                    exact And.intro (zrtb (by omega)) (And.intro ⟨by omega, by omega⟩ (hQ _ _ (fun T hT => by rw [hT]; exact z37) (by omega) (by omega) (Or.inl ⟨rfl, yT1_m R3 I3 em36 (by omega)⟩) (fun h0 => by first | exact N6.1 | omega)))
                  · refine And.intro ⟨by omega, by omega⟩ ?_
                    intro m38 em38
                    have z39 := zfr_t z28 (zfr_u em38 (Or.inl (by decide)) (Or.inl ⟨by decide, by decide⟩))
                    exact And.intro (zrtb (by omega)) (And.intro ⟨by omega, by omega⟩ (hQ _ _ (fun T hT => by rw [hT]; exact z39) (by omega) (by omega) (Or.inl ⟨rfl, yT1_m R3 I3 em38 (by omega)⟩) (fun h0 => by first | exact N6.1 | omega)))
                · have bc31 := yp1 p30 c31
                  have OP := (yop H1.1.1).mp bc31
                  refine ⟨yk_X8_isParameter, ym_X8_isParameter hg d (by omega), _, rfl, ⟨by omega, by omega⟩, ?_⟩
                  intro x40 kx40 lx40 p41
                  refine And.intro ⟨by omega, by omega⟩ (And.intro (fun c42 => ?_) (fun c42 => ?_))
                  · have bc42 := yp0 p41 c42
                    refine And.intro ⟨⟨by omega, by omega⟩, ⟨by omega, by omega⟩⟩ (And.intro (fun c43 => ?_) (fun c43 => ?_))
                    · obtain ⟨k, hk⟩ : ∃ k, n = k + 1 := ⟨n - 1, by omega⟩
                      refine ⟨(qk_X3_args k), hA k hk d (by omega), _, _, _, _, _, _, _, _, _, _, _, rfl, ⟨by omega, by omega⟩, ⟨by omega, by omega⟩, (by omega), H1.1, ⟨by omega, by rw [yW4_2]; split <;> omega⟩, H1.2, (by rw [OP.1]; decide), ?_⟩
                      intro x44 m45 qm45 kx44 lx44 p46
                      have z47 := zfr_t z28 (qm45 51 (by first | rfl | omega))
                      refine And.intro ⟨by omega, by omega⟩ (And.intro (fun c48 => ?_) (fun c48 => ?_))
                      · obtain ⟨p3, n3, as3, ⟨r3, l3⟩, I3, M3⟩ : yA1 τ _ w x6 fr (yN B 0 2 (B.1 0 2 + 1)) t q σ x44 m45 := by rcases p46 with h0 | h0; exact h0.2; (exfalso; omega)
                        have R3 := yR_t (yR_s (yR_r τ (10, p, w, fr, B)) (ym10_a (by omega) (by omega) N6 N7 OP (by omega))) (by rw [← HD]; exact r3)
                        rw [yN_N] at R3 I3
                        intro t49 et49 ht49
                        have E2 : t49 = t := by have h0 := I3.1.2.1.2.1; omega
                        refine And.intro ht49.1 ⟨yk_X4_arity, ym_X4_arity hg d (by omega), _, _, rfl, ht49.1, ⟨by omega, by omega⟩, ?_⟩
                        intro x50 kx50 lx50 p51
                        have AR := p51
                        rw [E2, yRC_ar I3.1, yar_N] at AR
                        refine And.intro ⟨⟨by omega, by omega⟩, ⟨by omega, by omega⟩⟩ (And.intro (fun c52 => ?_) (fun c52 => ?_))
                        · refine And.intro ⟨by omega, by omega⟩ ?_
                          intro m53 em53
                          have z54 := zfr_t z47 (zfr_u em53 (Or.inl (by decide)) (Or.inl ⟨by decide, by decide⟩))
                          exact And.intro (zrtb (by omega)) (And.intro ⟨by omega, by omega⟩ (hQ _ _ (fun T hT => by rw [hT]; exact z54) (by omega) (by omega) (Or.inl ⟨rfl, yT1_m R3 I3 em53 (by omega)⟩) (fun h0 => by first | exact N6.1 | omega)))
                        · refine And.intro ⟨by omega, by omega⟩ ?_
                          intro m55 em55
                          have z56 := zfr_t z47 (zfr_u em55 (Or.inl (by decide)) (Or.inl ⟨by decide, by decide⟩))
                          exact And.intro (zrtb (by omega)) (And.intro ⟨by omega, by omega⟩ (hQ _ _ (fun T hT => by rw [hT]; exact z56) (by omega) (by omega) (Or.inl ⟨rfl, yT1_m R3 I3 em55 (by omega)⟩) (fun h0 => by first | exact N6.1 | omega)))
                      · have F3 : yFa τ (11, ynx τ (ynx τ p), 0, (w, x6, []) :: fr, yN B 0 2 (B.1 0 2 + 1)) m45 := by rcases p46 with h0 | h0; (exfalso; omega); exact h0.2
                        exact And.intro (zrtb (by omega)) (And.intro ⟨by omega, by omega⟩ (hQ _ _ (fun T hT => by rw [hT]; exact z47) (by omega) (by omega) (Or.inr ⟨rfl, yFa_t (yR_s (yR_r τ (10, p, w, fr, B)) (ym10_a (by omega) (by omega) N6 N7 OP (by omega))) (by rw [← HD]; exact F3)⟩) (fun h0 => by first | exact N6.1 | omega)))
                    · exfalso; omega
                  · have bc42 := yp1 p41 c42
                    refine ⟨wk_X3_fail, wm_X3_fail hg d (by omega), _, rfl, ⟨by omega, by omega⟩, ?_⟩
                    intro x57 m58 qm58 kx57 lx57 p59
                    have z60 := zfr_t z28 (qm58 51)
                    exact And.intro (zrtb (by omega)) (And.intro ⟨by omega, by omega⟩ (hQ _ _ (fun T hT => by rw [hT]; exact z60) (by omega) (by omega) (Or.inr ⟨by omega, yFa_f H1.1.1 (yR_s (yR_r τ _) (ym10_5 (by omega) (by omega) N6 N7 OP (by omega))) p59⟩) (fun h0 => by first | exact N6.1 | omega)))
              · exfalso; omega
            · refine ⟨yk_X8_isParameter, ym_X8_isParameter hg d (by omega), _, rfl, ⟨by omega, by omega⟩, ?_⟩
              intro x61 kx61 lx61 p62
              refine And.intro ⟨by omega, by omega⟩ (And.intro (fun c63 => ?_) (fun c63 => ?_))
              · have bc63 := yp1 p62 c63
                refine ⟨wk_X3_fail, wm_X3_fail hg d (by omega), _, rfl, ⟨by omega, by omega⟩, ?_⟩
                intro x64 m65 qm65 kx64 lx64 p66
                have z67 := zfr_t z0 (qm65 51)
                exact And.intro (zrtb (by omega)) (And.intro ⟨by omega, by omega⟩ (hQ _ _ (fun T hT => by rw [hT]; exact z67) (by omega) (by omega) (Or.inr ⟨by omega, yFa_f hp1.1 (yR_s (yR_r τ _) (ym10_7 (by omega) (by omega) ⟨by omega, by omega, by omega⟩ (by rw [← HD]; omega))) p66⟩) (fun h0 => by first | exact N6.1 | omega)))
              · have bc63 := yp0 p62 c63
                refine And.intro ⟨⟨by omega, by omega⟩, ⟨by omega, by omega⟩⟩ (And.intro (fun c68 => ?_) (fun c68 => ?_))
                · refine ⟨wk_X3_tell, wm_X3_tell hg d (by omega), _, rfl, ⟨by omega, by omega⟩, (by omega), ?_⟩
                  intro m69 qm69 p70
                  have z71 := zfr_t z0 (qm69 51)
                  refine ⟨wk_X5_step, wm_X5_step hg d (by omega), rfl, ?_⟩
                  intro m72 qm72 p73
                  have z74 := zfr_t z71 (qm72 51)
                  have N6 : yW3 B fr = 0 ∧ (fr.length : Int) < 8 ∧ B.1 0 2 < 300 := ⟨by omega, by omega, by omega⟩
                  have N7 : ¬ ((yW2 B fr ≠ 0 ∧ 32 ≤ yhd B (ynm τ p).toInt) ∨ (yW2 B fr = 1 ∧ yhd B (ynm τ p).toInt = B.1 0 3)) := by rw [← HD]; omega
                  have H1 := yTI_h hp1 (by omega) (by omega) p70 p73 hp3
                  have K1 := yTI_k H1.1.1
                  refine ⟨yk_X5_opensArgs, ym_X5_opensArgs hg d (by omega), rfl, (fun h0 => (yRT_n H1.1.1.1 (by rw [← K1.1, h0]; decide)).1), ?_⟩
                  intro x75 kx75 lx75 p76
                  refine And.intro ⟨by omega, by omega⟩ (And.intro (fun c77 => ?_) (fun c77 => ?_))
                  · have bc77 := yp0 p76 c77
                    have R3 := yR_s (yR_r τ (10, p, w, fr, B)) (ym10_n (by omega) (by omega) N6 N7 (fun h0 => bc77 ((yop H1.1.1).mpr h0)))
                    rw [← HD] at R3
                    have I3 := H1.1
                    have l3 : (0 : Int) = (([] : List (List Int)).length : Int) := rfl
                    intro t78 et78 ht78
                    have E2 : t78 = t := by have h0 := I3.1.2.1.2.1; omega
                    refine And.intro ht78.1 ⟨yk_X4_arity, ym_X4_arity hg d (by omega), _, _, rfl, ht78.1, ⟨by omega, by omega⟩, ?_⟩
                    intro x79 kx79 lx79 p80
                    have AR := p80
                    rw [E2, yRC_ar I3.1, yar_N] at AR
                    refine And.intro ⟨⟨by omega, by omega⟩, ⟨by omega, by omega⟩⟩ (And.intro (fun c81 => ?_) (fun c81 => ?_))
                    · refine And.intro ⟨by omega, by omega⟩ ?_
                      intro m82 em82
                      have z83 := zfr_t z74 (zfr_u em82 (Or.inl (by decide)) (Or.inl ⟨by decide, by decide⟩))
                      exact And.intro (zrtb (by omega)) (And.intro ⟨by omega, by omega⟩ (hQ _ _ (fun T hT => by rw [hT]; exact z83) (by omega) (by omega) (Or.inl ⟨rfl, yT1_m R3 I3 em82 (by omega)⟩) (fun h0 => by first | exact N6.1 | omega)))
                    · refine And.intro ⟨by omega, by omega⟩ ?_
                      intro m84 em84
                      have z85 := zfr_t z74 (zfr_u em84 (Or.inl (by decide)) (Or.inl ⟨by decide, by decide⟩))
                      exact And.intro (zrtb (by omega)) (And.intro ⟨by omega, by omega⟩ (hQ _ _ (fun T hT => by rw [hT]; exact z85) (by omega) (by omega) (Or.inl ⟨rfl, yT1_m R3 I3 em84 (by omega)⟩) (fun h0 => by first | exact N6.1 | omega)))
                  · have bc77 := yp1 p76 c77
                    have OP := (yop H1.1.1).mp bc77
                    refine ⟨yk_X8_isParameter, ym_X8_isParameter hg d (by omega), _, rfl, ⟨by omega, by omega⟩, ?_⟩
                    intro x86 kx86 lx86 p87
                    refine And.intro ⟨by omega, by omega⟩ (And.intro (fun c88 => ?_) (fun c88 => ?_))
                    · have bc88 := yp0 p87 c88
                      refine And.intro ⟨⟨by omega, by omega⟩, ⟨by omega, by omega⟩⟩ (And.intro (fun c89 => ?_) (fun c89 => ?_))
                      · obtain ⟨k, hk⟩ : ∃ k, n = k + 1 := ⟨n - 1, by omega⟩
                        refine ⟨(qk_X3_args k), hA k hk d (by omega), _, _, _, _, _, _, _, _, _, _, _, rfl, ⟨by omega, by omega⟩, ⟨by omega, by omega⟩, (by omega), H1.1, ⟨by omega, by rw [yW4_2]; split <;> omega⟩, H1.2, (by rw [OP.1]; decide), ?_⟩
                        intro x90 m91 qm91 kx90 lx90 p92
                        have z93 := zfr_t z74 (qm91 51 (by first | rfl | omega))
                        refine And.intro ⟨by omega, by omega⟩ (And.intro (fun c94 => ?_) (fun c94 => ?_))
                        · obtain ⟨p3, n3, as3, ⟨r3, l3⟩, I3, M3⟩ : yA1 τ _ w x6 fr (yN B 0 2 (B.1 0 2 + 1)) t q σ x90 m91 := by rcases p92 with h0 | h0; exact h0.2; (exfalso; omega)
                          have R3 := yR_t (yR_s (yR_r τ (10, p, w, fr, B)) (ym10_a (by omega) (by omega) N6 N7 OP (by omega))) (by rw [← HD]; exact r3)
                          rw [yN_N] at R3 I3
                          intro t95 et95 ht95
                          have E2 : t95 = t := by have h0 := I3.1.2.1.2.1; omega
                          refine And.intro ht95.1 ⟨yk_X4_arity, ym_X4_arity hg d (by omega), _, _, rfl, ht95.1, ⟨by omega, by omega⟩, ?_⟩
                          intro x96 kx96 lx96 p97
                          have AR := p97
                          rw [E2, yRC_ar I3.1, yar_N] at AR
                          refine And.intro ⟨⟨by omega, by omega⟩, ⟨by omega, by omega⟩⟩ (And.intro (fun c98 => ?_) (fun c98 => ?_))
                          · refine And.intro ⟨by omega, by omega⟩ ?_
                            intro m99 em99
                            have z100 := zfr_t z93 (zfr_u em99 (Or.inl (by decide)) (Or.inl ⟨by decide, by decide⟩))
                            exact And.intro (zrtb (by omega)) (And.intro ⟨by omega, by omega⟩ (hQ _ _ (fun T hT => by rw [hT]; exact z100) (by omega) (by omega) (Or.inl ⟨rfl, yT1_m R3 I3 em99 (by omega)⟩) (fun h0 => by first | exact N6.1 | omega)))
                          · refine And.intro ⟨by omega, by omega⟩ ?_
                            intro m101 em101
                            have z102 := zfr_t z93 (zfr_u em101 (Or.inl (by decide)) (Or.inl ⟨by decide, by decide⟩))
                            exact And.intro (zrtb (by omega)) (And.intro ⟨by omega, by omega⟩ (hQ _ _ (fun T hT => by rw [hT]; exact z102) (by omega) (by omega) (Or.inl ⟨rfl, yT1_m R3 I3 em101 (by omega)⟩) (fun h0 => by first | exact N6.1 | omega)))
                        · have F3 : yFa τ (11, ynx τ (ynx τ p), 0, (w, x6, []) :: fr, yN B 0 2 (B.1 0 2 + 1)) m91 := by rcases p92 with h0 | h0; (exfalso; omega); exact h0.2
                          exact And.intro (zrtb (by omega)) (And.intro ⟨by omega, by omega⟩ (hQ _ _ (fun T hT => by rw [hT]; exact z93) (by omega) (by omega) (Or.inr ⟨rfl, yFa_t (yR_s (yR_r τ (10, p, w, fr, B)) (ym10_a (by omega) (by omega) N6 N7 OP (by omega))) (by rw [← HD]; exact F3)⟩) (fun h0 => by first | exact N6.1 | omega)))
                      · obtain ⟨k, hk⟩ : ∃ k, n = k + 1 := ⟨n - 1, by omega⟩
                        refine ⟨(qk_X3_args k), hA k hk d (by omega), _, _, _, _, _, _, _, _, _, _, _, rfl, ⟨by omega, by omega⟩, ⟨by omega, by omega⟩, (by omega), H1.1, ⟨by omega, by rw [yW4_2]; split <;> omega⟩, H1.2, (by rw [OP.1]; decide), ?_⟩
                        intro x103 m104 qm104 kx103 lx103 p105
                        have z106 := zfr_t z74 (qm104 51 (by first | rfl | omega))
                        refine And.intro ⟨by omega, by omega⟩ (And.intro (fun c107 => ?_) (fun c107 => ?_))
                        · obtain ⟨p3, n3, as3, ⟨r3, l3⟩, I3, M3⟩ : yA1 τ _ w x6 fr (yN B 0 2 (B.1 0 2 + 1)) t q σ x103 m104 := by rcases p105 with h0 | h0; exact h0.2; (exfalso; omega)
                          have R3 := yR_t (yR_s (yR_r τ (10, p, w, fr, B)) (ym10_a (by omega) (by omega) N6 N7 OP (by omega))) (by rw [← HD]; exact r3)
                          rw [yN_N] at R3 I3
                          intro t108 et108 ht108
                          have E2 : t108 = t := by have h0 := I3.1.2.1.2.1; omega
                          refine And.intro ht108.1 ⟨yk_X4_arity, ym_X4_arity hg d (by omega), _, _, rfl, ht108.1, ⟨by omega, by omega⟩, ?_⟩
                          intro x109 kx109 lx109 p110
                          have AR := p110
                          rw [E2, yRC_ar I3.1, yar_N] at AR
                          refine And.intro ⟨⟨by omega, by omega⟩, ⟨by omega, by omega⟩⟩ (And.intro (fun c111 => ?_) (fun c111 => ?_))
                          · refine And.intro ⟨by omega, by omega⟩ ?_
                            intro m112 em112
                            have z113 := zfr_t z106 (zfr_u em112 (Or.inl (by decide)) (Or.inl ⟨by decide, by decide⟩))
                            exact And.intro (zrtb (by omega)) (And.intro ⟨by omega, by omega⟩ (hQ _ _ (fun T hT => by rw [hT]; exact z113) (by omega) (by omega) (Or.inl ⟨rfl, yT1_m R3 I3 em112 (by omega)⟩) (fun h0 => by first | exact N6.1 | omega)))
                          · refine And.intro ⟨by omega, by omega⟩ ?_
                            intro m114 em114
                            have z115 := zfr_t z106 (zfr_u em114 (Or.inl (by decide)) (Or.inl ⟨by decide, by decide⟩))
                            exact And.intro (zrtb (by omega)) (And.intro ⟨by omega, by omega⟩ (hQ _ _ (fun T hT => by rw [hT]; exact z115) (by omega) (by omega) (Or.inl ⟨rfl, yT1_m R3 I3 em114 (by omega)⟩) (fun h0 => by first | exact N6.1 | omega)))
                        · have F3 : yFa τ (11, ynx τ (ynx τ p), 0, (w, x6, []) :: fr, yN B 0 2 (B.1 0 2 + 1)) m104 := by rcases p105 with h0 | h0; (exfalso; omega); exact h0.2
                          exact And.intro (zrtb (by omega)) (And.intro ⟨by omega, by omega⟩ (hQ _ _ (fun T hT => by rw [hT]; exact z106) (by omega) (by omega) (Or.inr ⟨rfl, yFa_t (yR_s (yR_r τ (10, p, w, fr, B)) (ym10_a (by omega) (by omega) N6 N7 OP (by omega))) (by rw [← HD]; exact F3)⟩) (fun h0 => by first | exact N6.1 | omega)))
                    · have bc88 := yp1 p87 c88
                      refine ⟨wk_X3_fail, wm_X3_fail hg d (by omega), _, rfl, ⟨by omega, by omega⟩, ?_⟩
                      intro x116 m117 qm117 kx116 lx116 p118
                      have z119 := zfr_t z74 (qm117 51)
                      exact And.intro (zrtb (by omega)) (And.intro ⟨by omega, by omega⟩ (hQ _ _ (fun T hT => by rw [hT]; exact z119) (by omega) (by omega) (Or.inr ⟨by omega, yFa_f H1.1.1 (yR_s (yR_r τ _) (ym10_5 (by omega) (by omega) N6 N7 OP (by omega))) p118⟩) (fun h0 => by first | exact N6.1 | omega)))
                · intro x120 hx120 kx120 lx120
                  refine And.intro ⟨⟨by omega, by omega⟩, ⟨by omega, by omega⟩⟩ (And.intro (fun c121 => ?_) (fun c121 => ?_))
                  · refine ⟨wk_X3_tell, wm_X3_tell hg d (by omega), _, rfl, ⟨by omega, by omega⟩, (by omega), ?_⟩
                    intro m122 qm122 p123
                    have z124 := zfr_t z0 (qm122 51)
                    refine ⟨wk_X5_step, wm_X5_step hg d (by omega), rfl, ?_⟩
                    intro m125 qm125 p126
                    have z127 := zfr_t z124 (qm125 51)
                    have N6 : yW3 B fr = 0 ∧ (fr.length : Int) < 8 ∧ B.1 0 2 < 300 := ⟨by omega, by omega, by omega⟩
                    have N7 : ¬ ((yW2 B fr ≠ 0 ∧ 32 ≤ yhd B (ynm τ p).toInt) ∨ (yW2 B fr = 1 ∧ yhd B (ynm τ p).toInt = B.1 0 3)) := by rw [← HD]; omega
                    have H1 := yTI_h hp1 (by omega) (by omega) p123 p126 hp3
                    have K1 := yTI_k H1.1.1
                    refine ⟨yk_X5_opensArgs, ym_X5_opensArgs hg d (by omega), rfl, (fun h0 => (yRT_n H1.1.1.1 (by rw [← K1.1, h0]; decide)).1), ?_⟩
                    intro x128 kx128 lx128 p129
                    refine And.intro ⟨by omega, by omega⟩ (And.intro (fun c130 => ?_) (fun c130 => ?_))
                    · have bc130 := yp0 p129 c130
                      have R3 := yR_s (yR_r τ (10, p, w, fr, B)) (ym10_n (by omega) (by omega) N6 N7 (fun h0 => bc130 ((yop H1.1.1).mpr h0)))
                      rw [← HD] at R3
                      have I3 := H1.1
                      have l3 : (0 : Int) = (([] : List (List Int)).length : Int) := rfl
                      intro t131 et131 ht131
                      have E2 : t131 = t := by have h0 := I3.1.2.1.2.1; omega
                      refine And.intro ht131.1 ⟨yk_X4_arity, ym_X4_arity hg d (by omega), _, _, rfl, ht131.1, ⟨by omega, by omega⟩, ?_⟩
                      intro x132 kx132 lx132 p133
                      have AR := p133
                      rw [E2, yRC_ar I3.1, yar_N] at AR
                      refine And.intro ⟨⟨by omega, by omega⟩, ⟨by omega, by omega⟩⟩ (And.intro (fun c134 => ?_) (fun c134 => ?_))
                      · refine And.intro ⟨by omega, by omega⟩ ?_
                        intro m135 em135
                        have z136 := zfr_t z127 (zfr_u em135 (Or.inl (by decide)) (Or.inl ⟨by decide, by decide⟩))
                        exact And.intro (zrtb (by omega)) (And.intro ⟨by omega, by omega⟩ (hQ _ _ (fun T hT => by rw [hT]; exact z136) (by omega) (by omega) (Or.inl ⟨rfl, yT1_m R3 I3 em135 (by omega)⟩) (fun h0 => by first | exact N6.1 | omega)))
                      · refine And.intro ⟨by omega, by omega⟩ ?_
                        intro m137 em137
                        have z138 := zfr_t z127 (zfr_u em137 (Or.inl (by decide)) (Or.inl ⟨by decide, by decide⟩))
                        exact And.intro (zrtb (by omega)) (And.intro ⟨by omega, by omega⟩ (hQ _ _ (fun T hT => by rw [hT]; exact z138) (by omega) (by omega) (Or.inl ⟨rfl, yT1_m R3 I3 em137 (by omega)⟩) (fun h0 => by first | exact N6.1 | omega)))
                    · have bc130 := yp1 p129 c130
                      have OP := (yop H1.1.1).mp bc130
                      refine ⟨yk_X8_isParameter, ym_X8_isParameter hg d (by omega), _, rfl, ⟨by omega, by omega⟩, ?_⟩
                      intro x139 kx139 lx139 p140
                      refine And.intro ⟨by omega, by omega⟩ (And.intro (fun c141 => ?_) (fun c141 => ?_))
                      · have bc141 := yp0 p140 c141
                        refine And.intro ⟨⟨by omega, by omega⟩, ⟨by omega, by omega⟩⟩ (And.intro (fun c142 => ?_) (fun c142 => ?_))
                        · exfalso; omega
                        · obtain ⟨k, hk⟩ : ∃ k, n = k + 1 := ⟨n - 1, by omega⟩
                          refine ⟨(qk_X3_args k), hA k hk d (by omega), _, _, _, _, _, _, _, _, _, _, _, rfl, ⟨by omega, by omega⟩, ⟨by omega, by omega⟩, (by omega), H1.1, ⟨by omega, by rw [yW4_2]; split <;> omega⟩, H1.2, (by rw [OP.1]; decide), ?_⟩
                          intro x143 m144 qm144 kx143 lx143 p145
                          have z146 := zfr_t z127 (qm144 51 (by first | rfl | omega))
                          refine And.intro ⟨by omega, by omega⟩ (And.intro (fun c147 => ?_) (fun c147 => ?_))
                          · obtain ⟨p3, n3, as3, ⟨r3, l3⟩, I3, M3⟩ : yA1 τ _ w x6 fr (yN B 0 2 (B.1 0 2 + 1)) t q σ x143 m144 := by rcases p145 with h0 | h0; exact h0.2; (exfalso; omega)
                            have R3 := yR_t (yR_s (yR_r τ (10, p, w, fr, B)) (ym10_a (by omega) (by omega) N6 N7 OP (by omega))) (by rw [← HD]; exact r3)
                            rw [yN_N] at R3 I3
                            intro t148 et148 ht148
                            have E2 : t148 = t := by have h0 := I3.1.2.1.2.1; omega
                            refine And.intro ht148.1 ⟨yk_X4_arity, ym_X4_arity hg d (by omega), _, _, rfl, ht148.1, ⟨by omega, by omega⟩, ?_⟩
                            intro x149 kx149 lx149 p150
                            have AR := p150
                            rw [E2, yRC_ar I3.1, yar_N] at AR
                            refine And.intro ⟨⟨by omega, by omega⟩, ⟨by omega, by omega⟩⟩ (And.intro (fun c151 => ?_) (fun c151 => ?_))
                            · refine And.intro ⟨by omega, by omega⟩ ?_
                              intro m152 em152
                              have z153 := zfr_t z146 (zfr_u em152 (Or.inl (by decide)) (Or.inl ⟨by decide, by decide⟩))
                              exact And.intro (zrtb (by omega)) (And.intro ⟨by omega, by omega⟩ (hQ _ _ (fun T hT => by rw [hT]; exact z153) (by omega) (by omega) (Or.inl ⟨rfl, yT1_m R3 I3 em152 (by omega)⟩) (fun h0 => by first | exact N6.1 | omega)))
                            · refine And.intro ⟨by omega, by omega⟩ ?_
                              intro m154 em154
                              have z155 := zfr_t z146 (zfr_u em154 (Or.inl (by decide)) (Or.inl ⟨by decide, by decide⟩))
                              exact And.intro (zrtb (by omega)) (And.intro ⟨by omega, by omega⟩ (hQ _ _ (fun T hT => by rw [hT]; exact z155) (by omega) (by omega) (Or.inl ⟨rfl, yT1_m R3 I3 em154 (by omega)⟩) (fun h0 => by first | exact N6.1 | omega)))
                          · have F3 : yFa τ (11, ynx τ (ynx τ p), 0, (w, x6, []) :: fr, yN B 0 2 (B.1 0 2 + 1)) m144 := by rcases p145 with h0 | h0; (exfalso; omega); exact h0.2
                            exact And.intro (zrtb (by omega)) (And.intro ⟨by omega, by omega⟩ (hQ _ _ (fun T hT => by rw [hT]; exact z146) (by omega) (by omega) (Or.inr ⟨rfl, yFa_t (yR_s (yR_r τ (10, p, w, fr, B)) (ym10_a (by omega) (by omega) N6 N7 OP (by omega))) (by rw [← HD]; exact F3)⟩) (fun h0 => by first | exact N6.1 | omega)))
                      · have bc141 := yp1 p140 c141
                        refine ⟨wk_X3_fail, wm_X3_fail hg d (by omega), _, rfl, ⟨by omega, by omega⟩, ?_⟩
                        intro x156 m157 qm157 kx156 lx156 p158
                        have z159 := zfr_t z127 (qm157 51)
                        exact And.intro (zrtb (by omega)) (And.intro ⟨by omega, by omega⟩ (hQ _ _ (fun T hT => by rw [hT]; exact z159) (by omega) (by omega) (Or.inr ⟨by omega, yFa_f H1.1.1 (yR_s (yR_r τ _) (ym10_5 (by omega) (by omega) N6 N7 OP (by omega))) p158⟩) (fun h0 => by first | exact N6.1 | omega)))
                  · refine ⟨wk_X3_fail, wm_X3_fail hg d (by omega), _, rfl, ⟨by omega, by omega⟩, ?_⟩
                    intro x160 m161 qm161 kx160 lx160 p162
                    have z163 := zfr_t z0 (qm161 51)
                    exact And.intro (zrtb (by omega)) (And.intro ⟨by omega, by omega⟩ (hQ _ _ (fun T hT => by rw [hT]; exact z163) (by omega) (by omega) (Or.inr ⟨by omega, yFa_f hp1.1 (yR_s (yR_r τ _) (ym10_7 (by omega) (by omega) ⟨by omega, by omega, by omega⟩ (by rw [← HD]; omega))) p162⟩) (fun h0 => by first | exact N6.1 | omega)))
          · refine ⟨wk_X3_fail, wm_X3_fail hg d (by omega), _, rfl, ⟨by omega, by omega⟩, ?_⟩
            intro x164 m165 qm165 kx164 lx164 p166
            have z167 := zfr_t z0 (qm165 51)
            exact And.intro (zrtb (by omega)) (And.intro ⟨by omega, by omega⟩ (hQ _ _ (fun T hT => by rw [hT]; exact z167) (by omega) (by omega) (Or.inr ⟨by omega, yFa_f hp1.1 (yR_s (yR_r τ _) (ym10_6 (by omega) (by omega) (by omega))) p166⟩) (fun h0 => by first | exact N6.1 | omega)))
    · refine ⟨wk_X3_fail, wm_X3_fail hg d (by omega), _, rfl, ⟨by omega, by omega⟩, ?_⟩
      intro x168 m169 qm169 kx168 lx168 p170
      have z171 := zfr_t z0 (qm169 51)
      exact And.intro (zrtb (by omega)) (And.intro ⟨by omega, by omega⟩ (hQ _ _ (fun T hT => by rw [hT]; exact z171) (by omega) (by omega) (Or.inr ⟨by omega, yFa_f hp1.1 (yR_s (yR_r τ _) (ym10_4 (by omega) (by omega))) p170⟩) (fun h0 => by first | exact N6.1 | omega)))
  · refine ⟨wk_X3_fail, wm_X3_fail hg d (by omega), _, rfl, ⟨by omega, by omega⟩, ?_⟩
    intro x172 m173 qm173 kx172 lx172 p174
    have z175 := zfr_t z0 (qm173 51)
    exact And.intro (zrtb (by omega)) (And.intro ⟨by omega, by omega⟩ (hQ _ _ (fun T hT => by rw [hT]; exact z175) (by omega) (by omega) (Or.inr ⟨by omega, yFa_f hp1.1 (yR_s (yR_r τ _) (ym10_2 (by omega))) p174⟩) (fun h0 => by first | exact N6.1 | omega)))
theorem qm_X3_typeN {g : zΓ} (hg : zg g) : ∀ (n d : Nat), 4 + 3 * n ≤ d → zOk g d 48 (qk_X3_type n)
  | 0, d, hd => qm_X3_type hg 0 (fun k hk => by omega) d hd
  | n + 1, d, hd => qm_X3_type hg (n + 1) (fun k hk d' hd' => by
      have e : k = n := by omega
      subst e
      exact qm_X3_args hg k (qm_X3_typeN hg k) d' hd') d hd
