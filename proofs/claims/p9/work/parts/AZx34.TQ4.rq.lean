def gk_X3_readQuestion : zC := fun As μ Q => ∃ (a1 : Nat) (B : yB), As = [.inr (.inr (50, 50)), .inr (.inr (a1, 14))] ∧ (a1 = 14 ∨ a1 = 32) ∧ (∀ i : Int, 0 ≤ i → i < μ.1 1 ((4 : Nat) : Int) → 0 ≤ μ.1 2 i ∧ μ.1 2 i ≤ 255) ∧ (0 ≤ μ.1 1 ((4 : Nat) : Int) ∧ μ.1 1 ((4 : Nat) : Int) ≤ 800) ∧ (yRB μ a1 B ∧ yRS μ a1 300 B) ∧ yI0 B ∧ (∀ (v : Int) (μ' : zM), zqX μ μ' → 0 ≤ v → v ≤ 1 → ((v = 1 ∧ yQq ((μ.1 2, μ.1 1 ((4 : Nat) : Int)) : yT) B 0 0 ∧ μ'.1 50 ((8 : Nat) : Int) = 0 ∧ ∃ (o : Int) (L1 L2 : List Int), yQl ((μ.1 2, μ.1 1 ((4 : Nat) : Int)) : yT) B o L1 L2 ∧ yTl μ' o L1 L2) ∨ (v = 0 ∧ ∃ x l, yQq ((μ.1 2, μ.1 1 ((4 : Nat) : Int)) : yT) B x l ∧ μ'.1 50 ((8 : Nat) : Int) = x ∧ μ'.1 50 ((9 : Nat) : Int) = l ∧ x ≠ 0)) → Q (some (.inl v)) μ')
set_option maxHeartbeats 4000000 in
theorem gm_X3_readQuestion {g : zΓ} (hg : zg g) (d : Nat) (hd : 29 ≤ d) : zOk g d 39 gk_X3_readQuestion := by
  obtain ⟨d, rfl⟩ : ∃ d', d = d' + 1 := ⟨d - 1, by omega⟩
  refine zOk_straight hg (show mt_tab[39]? = some mt_X3_readQuestion from rfl) [] 71 rfl fun As μ Q hC => ?_
  obtain ⟨a1, B, rfl, ha1, hp0, hp1, hp2, hpI, hQ⟩ := hC
  refine ⟨rfl, ?_⟩
  refine ⟨_, zOk_tag (ym_X3_start hg d (by omega)), [.inr (.inr (50, 50)), .inr (.inr (a1, 14)), .inr (.inr (51, 200))], rfl, _, _, rfl, ha1, (Or.inr (Or.inr rfl)), hp0, hp1, ?_⟩
  intro m1 qm1 p2
  have P1 := p2
  have z3 : zqX μ m1 := ⟨⟨zl0_t (zl0_r μ) qm1, by rw [P1.2.2.1.2.1]; rfl, fun j hj => by unfold zqj at hj; exact P1.2.1 j (by omega) (by omega) (by omega) (by omega) (by omega) (by omega)⟩, P1.2.2.2⟩
  have C0 := yRC_q0 ha1 hp2 P1.1 P1.2.1 ⟨P1.2.2.1.1, P1.2.2.1.2.1, P1.2.2.1.2.2.1, P1.2.2.1.2.2.2.1, P1.2.2.1.2.2.2.2.1⟩
  refine ⟨qk_X3_opening, qm_X3_opening hg d (by omega), _, B, a1, rfl, ⟨C0, P1.2.2.1.2.2.2.2.2⟩, yN_at, hp2.1.1.2.2.1.1, ?_⟩
  intro x4 m5 qm5 kx4 lx4 p6
  have z7 := zqX_f z3 (qm5 51 (by first | rfl | omega))
  refine And.intro ⟨by omega, by omega⟩ (And.intro (fun c8 => ?_) (fun c8 => ?_))
  · exact And.intro (zrtb (by omega)) (And.intro ⟨by omega, by omega⟩ (hQ _ _ z7 (by omega) (by omega) (Or.inr ⟨rfl, by obtain ⟨x, l, h1, h2, h3⟩ := (by rcases p6 with h0 | h0; (exfalso; omega); exact h0.2 : ∃ x l, yqo _ B = .inr (x, l) ∧ m5.1 50 ((8 : Nat) : Int) = x ∧ m5.1 50 ((9 : Nat) : Int) = l); exact ⟨x, l, Or.inl h1, h2, h3, yqo_x h1⟩⟩)))
  · obtain ⟨o, p0, QP, Q0, QO⟩ := (by rcases p6 with h0 | h0; exact h0.2; (exfalso; omega) : ∃ o p, yqo _ B = .inl (o, p) ∧ (yRC _ m5 p (yN (yN B 0 2 0) 0 3 o) a1 51 ∧ m5.1 50 ((10 : Nat) : Int) = 0) ∧ o < B.1 0 0)
    refine ⟨(qk_X3_type 8), qm_X3_typeN hg 8 d (by omega), _, _, _, _, _, _, _, _, _, 0, [], rfl, ⟨by omega, by omega⟩, ⟨by omega, by omega⟩, ⟨by omega, by omega⟩, (by decide), (yTI_q (r := 2) Q0.1 QO), ⟨rfl, (yW2_q (yQB_v _ _ _ _).1 (by decide)).symm, (yW3_q (yQB_v _ _ _ _).2.1).symm⟩, Q0.2, ?_⟩
    intro x9 m10 qm10 kx9 lx9 p11 p12
    have z13 := zqX_f z7 (qm10 51 (by first | rfl | omega))
    refine And.intro ⟨by omega, by omega⟩ (And.intro (fun c14 => ?_) (fun c14 => ?_))
    · exact And.intro (zrtb (by omega)) (And.intro ⟨by omega, by omega⟩ (hQ _ _ z13 (by omega) (by omega) (Or.inr ⟨rfl, by obtain ⟨l, x, B1, R1, F8, F9⟩ := (by rcases p11 with h0 | h0; (exfalso; omega); exact h0.2 : yFa _ _ _); exact ⟨x, l, Or.inr ⟨o, p0, QP, Or.inl ⟨B1, R1⟩⟩, F8, F9, yKs_x hpI (yqo_o QP QO) (by decide) R1⟩⟩)))
    · intro x15 hx15 kx15 lx15
      refine And.intro ⟨⟨by omega, by omega⟩, ⟨by omega, by omega⟩⟩ (And.intro (fun c16 => ?_) (fun c16 => ?_))
      · refine ⟨wk_X3_behindType, wm_X3_behindType hg d (by omega), _, rfl, ⟨by omega, by omega⟩, ?_⟩
        intro x17 m18 qm18 kx17 lx17 p19
        have z20 := zqX_f z13 (qm18 51)
        have TY : yT1 _ _ 0 [] (yQB B 0 o 2) a1 51 _ m10 := (by rcases p11 with h0 | h0; exact h0.2; (exfalso; omega))
        have BB := yT1_q TY (a := 0) (by rw [ymay_2 (yQB_v _ _ _ _).1]; omega) p19
        refine And.intro ⟨by omega, by omega⟩ (And.intro (fun c21 => ?_) (fun c21 => ?_))
        · obtain ⟨-, M5, p6, n6, x6, as6, ⟨r6, k6⟩, I6, M6⟩ := (by rcases BB with h0 | h0; (exfalso; omega); exact h0 : _ ∧ _ ∧ _)
          rw [ymay_2 (yQB_v _ _ _ _).1] at k6
          have C6 : yRC _ m18 p6 (yN (yQB B 0 o 2) 0 2 n6) a1 51 := I6.1
          refine ⟨wk_X5_step, wm_X5_step hg d (by omega), rfl, ?_⟩
          intro m22 qm22 p23
          have z24 := zqX_f z20 (qm22 51)
          have H1 := yRC_st C6 (by omega) p23
          have K1 := yTI_k H1.1
          have K1a : m22.1 1 ((6 : Nat) : Int) = ykd ((μ.1 2, μ.1 1 ((4 : Nat) : Int)) : yT) (ynx ((μ.1 2, μ.1 1 ((4 : Nat) : Int)) : yT) p6) := K1.1
          have M7 : m22.1 50 ((10 : Nat) : Int) = 0 := by rw [H1.2, ystM_ne _ _ (by decide) (by decide)]; exact M6
          intro x25 hx25 kx25 lx25
          refine And.intro ⟨⟨by omega, by omega⟩, ⟨by omega, by omega⟩⟩ (And.intro (fun c26 => ?_) (fun c26 => ?_))
          · refine ⟨wk_X5_step, wm_X5_step hg d (by omega), rfl, ?_⟩
            intro m27 qm27 p28
            have z29 := zqX_f z24 (qm27 51)
            have H2 := yRC_st H1.1 (by omega) p28
            have M8 : m27.1 50 ((10 : Nat) : Int) = 0 := by rw [H2.2, ystM_ne _ _ (by decide) (by decide)]; exact M7
            intro x30 hx30 kx30 lx30
            refine And.intro ⟨by omega, by omega⟩ ?_
            intro m31 em31
            have z32 := zqX_6 z29 em31
            have H3 : yRC _ m31 _ (yN (yN B 0 2 n6) 0 3 o) a1 51 ∧ m31.1 50 ((10 : Nat) : Int) = 0 := ⟨yRC_qs (yRC_50 H2.1 em31 (by decide)), by rw [em31, zu_nk (by decide)]; exact M8⟩
            refine ⟨(qk_X3_type 8), qm_X3_typeN hg 8 d (by omega), _, _, _, _, _, _, _, _, _, 0, [], rfl, ⟨by omega, by omega⟩, ⟨by omega, by omega⟩, ⟨by omega, by omega⟩, (by decide), (yTI_q (r := 3) H3.1 QO), ⟨rfl, (yW2_q (yQB_v _ _ _ _).1 (by decide)).symm, (yW3_q (yQB_v _ _ _ _).2.1).symm⟩, H3.2, ?_⟩
            intro x33 m34 qm34 kx33 lx33 p35 p36
            have z37 := zqX_f z32 (qm34 51 (by first | rfl | omega))
            refine And.intro ⟨by omega, by omega⟩ (And.intro (fun c38 => ?_) (fun c38 => ?_))
            · exact And.intro (zrtb (by omega)) (And.intro ⟨by omega, by omega⟩ (hQ _ _ z37 (by omega) (by omega) (Or.inr ⟨rfl, by obtain ⟨l, x, B1, R1, F8, F9⟩ := (by rcases p35 with h0 | h0; (exfalso; omega); exact h0.2 : yFa _ _ _); exact ⟨x, l, Or.inr ⟨o, p0, QP, Or.inr ⟨p6, n6, _, r6, Or.inr ⟨by omega, Or.inl ⟨B1, R1⟩⟩⟩⟩, F8, F9, yKs_x hpI (yqo_o QP QO) (by decide) R1⟩⟩)))
            · intro x39 hx39 kx39 lx39
              refine And.intro ⟨by omega, by omega⟩ (And.intro (fun c40 => ?_) (fun c40 => ?_))
              · refine ⟨wk_X3_behindType, wm_X3_behindType hg d (by omega), _, rfl, ⟨by omega, by omega⟩, ?_⟩
                intro x41 m42 qm42 kx41 lx41 p43
                have z44 := zqX_f z37 (qm42 51)
                have TY2 : yT1 _ _ 0 [] (yQB B n6 o 3) a1 51 _ m34 := (by rcases p35 with h0 | h0; exact h0.2; (exfalso; omega))
                have BB2 := yT1_q TY2 (a := 0) (by rw [ymay_3 (yQB_v _ _ _ _).1]; omega) p43
                refine And.intro ⟨by omega, by omega⟩ (And.intro (fun c45 => ?_) (fun c45 => ?_))
                · exact And.intro (zrtb (by omega)) (And.intro ⟨by omega, by omega⟩ (hQ _ _ z44 (by omega) (by omega) (Or.inr ⟨rfl, by obtain ⟨l, x, B1, R1, F8, F9⟩ := (by rcases BB2 with h0 | h0; exact h0.2; (exfalso; omega) : yFa _ _ _); exact ⟨x, l, Or.inr ⟨o, p0, QP, Or.inr ⟨p6, n6, _, r6, Or.inr ⟨by omega, Or.inl ⟨B1, R1⟩⟩⟩⟩, F8, F9, yKs_x hpI (yqo_o QP QO) (by decide) R1⟩⟩)))
                · obtain ⟨-, M9, p9, n9, x9, as9, ⟨r9, k9⟩, I9, -⟩ := (by rcases BB2 with h0 | h0; (exfalso; omega); exact h0 : _ ∧ _ ∧ _)
                  have QL : ∃ (o : Int) (L1 L2 : List Int), yQl ((μ.1 2, μ.1 1 ((4 : Nat) : Int)) : yT) B o L1 L2 ∧ yTl m42 o L1 L2 := yQl_mk QP r6 (by omega) I6 H1.2 H2.2 em31 hx30 (zqX_w z32 (qm34 51 (by first | rfl | omega))) (zqX_w z37 (qm42 51)) r9 I9
                  exact And.intro (zrtb (by omega)) (And.intro ⟨by omega, by omega⟩ (hQ _ _ z44 (by omega) (by omega) (Or.inl ⟨rfl, Or.inr ⟨o, p0, QP, Or.inr ⟨p6, n6, _, r6, Or.inr ⟨by omega, Or.inr ⟨⟨rfl, rfl⟩, p9, n9, _, r9⟩⟩⟩⟩, I9.1.2.2.2.2.2, QL⟩)))
              · refine ⟨wk_X3_behindType, wm_X3_behindType hg d (by omega), _, rfl, ⟨by omega, by omega⟩, ?_⟩
                intro x46 m47 qm47 kx46 lx46 p48
                have z49 := zqX_f z37 (qm47 51)
                have TY2 : yT1 _ _ 0 [] (yQB B n6 o 3) a1 51 _ m34 := (by rcases p35 with h0 | h0; exact h0.2; (exfalso; omega))
                have BB2 := yT1_q TY2 (a := 1) (by rw [ymay_3 (yQB_v _ _ _ _).1]; omega) p48
                refine And.intro ⟨by omega, by omega⟩ (And.intro (fun c50 => ?_) (fun c50 => ?_))
                · exact And.intro (zrtb (by omega)) (And.intro ⟨by omega, by omega⟩ (hQ _ _ z49 (by omega) (by omega) (Or.inr ⟨rfl, by obtain ⟨l, x, B1, R1, F8, F9⟩ := (by rcases BB2 with h0 | h0; exact h0.2; (exfalso; omega) : yFa _ _ _); exact ⟨x, l, Or.inr ⟨o, p0, QP, Or.inr ⟨p6, n6, _, r6, Or.inr ⟨by omega, Or.inl ⟨B1, R1⟩⟩⟩⟩, F8, F9, yKs_x hpI (yqo_o QP QO) (by decide) R1⟩⟩)))
                · obtain ⟨-, M9, p9, n9, x9, as9, ⟨r9, k9⟩, I9, -⟩ := (by rcases BB2 with h0 | h0; (exfalso; omega); exact h0 : _ ∧ _ ∧ _)
                  have QL : ∃ (o : Int) (L1 L2 : List Int), yQl ((μ.1 2, μ.1 1 ((4 : Nat) : Int)) : yT) B o L1 L2 ∧ yTl m47 o L1 L2 := yQl_mk QP r6 (by omega) I6 H1.2 H2.2 em31 hx30 (zqX_w z32 (qm34 51 (by first | rfl | omega))) (zqX_w z37 (qm47 51)) r9 I9
                  exact And.intro (zrtb (by omega)) (And.intro ⟨by omega, by omega⟩ (hQ _ _ z49 (by omega) (by omega) (Or.inl ⟨rfl, Or.inr ⟨o, p0, QP, Or.inr ⟨p6, n6, _, r6, Or.inr ⟨by omega, Or.inr ⟨⟨rfl, rfl⟩, p9, n9, _, r9⟩⟩⟩⟩, I9.1.2.2.2.2.2, QL⟩)))
          · refine ⟨wk_X3_fail, wm_X3_fail hg d (by omega), _, rfl, ⟨by omega, by omega⟩, ?_⟩
            intro x51 m52 qm52 kx51 lx51 p53
            have z54 := zqX_f z24 (qm52 51)
            exact And.intro (zrtb (by omega)) (And.intro ⟨by omega, by omega⟩ (hQ _ _ z54 (by omega) (by omega) (Or.inr ⟨by omega, _, _, Or.inr ⟨o, p0, QP, Or.inr ⟨p6, n6, _, r6, Or.inl ⟨by omega, rfl⟩⟩⟩, ⟨(yfq_f H1.1 p53).1, (yfq_f H1.1 p53).2, yfq_x (by decide)⟩⟩)))
        · exact And.intro (zrtb (by omega)) (And.intro ⟨by omega, by omega⟩ (hQ _ _ z20 (by omega) (by omega) (Or.inr ⟨rfl, by obtain ⟨l, x, B1, R1, F8, F9⟩ := (by rcases BB with h0 | h0; exact h0.2; (exfalso; omega) : yFa _ _ _); exact ⟨x, l, Or.inr ⟨o, p0, QP, Or.inl ⟨B1, R1⟩⟩, F8, F9, yKs_x hpI (yqo_o QP QO) (by decide) R1⟩⟩)))
      · refine ⟨wk_X3_behindType, wm_X3_behindType hg d (by omega), _, rfl, ⟨by omega, by omega⟩, ?_⟩
        intro x55 m56 qm56 kx55 lx55 p57
        have z58 := zqX_f z13 (qm56 51)
        have TY : yT1 _ _ 0 [] (yQB B 0 o 2) a1 51 _ m10 := (by rcases p11 with h0 | h0; exact h0.2; (exfalso; omega))
        have BB := yT1_q TY (a := 1) (by rw [ymay_2 (yQB_v _ _ _ _).1]; omega) p57
        refine And.intro ⟨by omega, by omega⟩ (And.intro (fun c59 => ?_) (fun c59 => ?_))
        · obtain ⟨-, M5, p6, n6, x6, as6, ⟨r6, k6⟩, I6, M6⟩ := (by rcases BB with h0 | h0; (exfalso; omega); exact h0 : _ ∧ _ ∧ _)
          rw [ymay_2 (yQB_v _ _ _ _).1] at k6
          have C6 : yRC _ m56 p6 (yN (yQB B 0 o 2) 0 2 n6) a1 51 := I6.1
          refine ⟨wk_X5_step, wm_X5_step hg d (by omega), rfl, ?_⟩
          intro m60 qm60 p61
          have z62 := zqX_f z58 (qm60 51)
          have H1 := yRC_st C6 (by omega) p61
          have K1 := yTI_k H1.1
          have K1a : m60.1 1 ((6 : Nat) : Int) = ykd ((μ.1 2, μ.1 1 ((4 : Nat) : Int)) : yT) (ynx ((μ.1 2, μ.1 1 ((4 : Nat) : Int)) : yT) p6) := K1.1
          have M7 : m60.1 50 ((10 : Nat) : Int) = 0 := by rw [H1.2, ystM_ne _ _ (by decide) (by decide)]; exact M6
          intro x63 hx63 kx63 lx63
          refine And.intro ⟨⟨by omega, by omega⟩, ⟨by omega, by omega⟩⟩ (And.intro (fun c64 => ?_) (fun c64 => ?_))
          · refine ⟨wk_X5_step, wm_X5_step hg d (by omega), rfl, ?_⟩
            intro m65 qm65 p66
            have z67 := zqX_f z62 (qm65 51)
            have H2 := yRC_st H1.1 (by omega) p66
            have M8 : m65.1 50 ((10 : Nat) : Int) = 0 := by rw [H2.2, ystM_ne _ _ (by decide) (by decide)]; exact M7
            intro x68 hx68 kx68 lx68
            refine And.intro ⟨by omega, by omega⟩ ?_
            intro m69 em69
            have z70 := zqX_6 z67 em69
            have H3 : yRC _ m69 _ (yN (yN B 0 2 n6) 0 3 o) a1 51 ∧ m69.1 50 ((10 : Nat) : Int) = 0 := ⟨yRC_qs (yRC_50 H2.1 em69 (by decide)), by rw [em69, zu_nk (by decide)]; exact M8⟩
            refine ⟨(qk_X3_type 8), qm_X3_typeN hg 8 d (by omega), _, _, _, _, _, _, _, _, _, 0, [], rfl, ⟨by omega, by omega⟩, ⟨by omega, by omega⟩, ⟨by omega, by omega⟩, (by decide), (yTI_q (r := 3) H3.1 QO), ⟨rfl, (yW2_q (yQB_v _ _ _ _).1 (by decide)).symm, (yW3_q (yQB_v _ _ _ _).2.1).symm⟩, H3.2, ?_⟩
            intro x71 m72 qm72 kx71 lx71 p73 p74
            have z75 := zqX_f z70 (qm72 51 (by first | rfl | omega))
            refine And.intro ⟨by omega, by omega⟩ (And.intro (fun c76 => ?_) (fun c76 => ?_))
            · exact And.intro (zrtb (by omega)) (And.intro ⟨by omega, by omega⟩ (hQ _ _ z75 (by omega) (by omega) (Or.inr ⟨rfl, by obtain ⟨l, x, B1, R1, F8, F9⟩ := (by rcases p73 with h0 | h0; (exfalso; omega); exact h0.2 : yFa _ _ _); exact ⟨x, l, Or.inr ⟨o, p0, QP, Or.inr ⟨p6, n6, _, r6, Or.inr ⟨by omega, Or.inl ⟨B1, R1⟩⟩⟩⟩, F8, F9, yKs_x hpI (yqo_o QP QO) (by decide) R1⟩⟩)))
            · intro x77 hx77 kx77 lx77
              refine And.intro ⟨by omega, by omega⟩ (And.intro (fun c78 => ?_) (fun c78 => ?_))
              · refine ⟨wk_X3_behindType, wm_X3_behindType hg d (by omega), _, rfl, ⟨by omega, by omega⟩, ?_⟩
                intro x79 m80 qm80 kx79 lx79 p81
                have z82 := zqX_f z75 (qm80 51)
                have TY2 : yT1 _ _ 0 [] (yQB B n6 o 3) a1 51 _ m72 := (by rcases p73 with h0 | h0; exact h0.2; (exfalso; omega))
                have BB2 := yT1_q TY2 (a := 0) (by rw [ymay_3 (yQB_v _ _ _ _).1]; omega) p81
                refine And.intro ⟨by omega, by omega⟩ (And.intro (fun c83 => ?_) (fun c83 => ?_))
                · exact And.intro (zrtb (by omega)) (And.intro ⟨by omega, by omega⟩ (hQ _ _ z82 (by omega) (by omega) (Or.inr ⟨rfl, by obtain ⟨l, x, B1, R1, F8, F9⟩ := (by rcases BB2 with h0 | h0; exact h0.2; (exfalso; omega) : yFa _ _ _); exact ⟨x, l, Or.inr ⟨o, p0, QP, Or.inr ⟨p6, n6, _, r6, Or.inr ⟨by omega, Or.inl ⟨B1, R1⟩⟩⟩⟩, F8, F9, yKs_x hpI (yqo_o QP QO) (by decide) R1⟩⟩)))
                · obtain ⟨-, M9, p9, n9, x9, as9, ⟨r9, k9⟩, I9, -⟩ := (by rcases BB2 with h0 | h0; (exfalso; omega); exact h0 : _ ∧ _ ∧ _)
                  have QL : ∃ (o : Int) (L1 L2 : List Int), yQl ((μ.1 2, μ.1 1 ((4 : Nat) : Int)) : yT) B o L1 L2 ∧ yTl m80 o L1 L2 := yQl_mk QP r6 (by omega) I6 H1.2 H2.2 em69 hx68 (zqX_w z70 (qm72 51 (by first | rfl | omega))) (zqX_w z75 (qm80 51)) r9 I9
                  exact And.intro (zrtb (by omega)) (And.intro ⟨by omega, by omega⟩ (hQ _ _ z82 (by omega) (by omega) (Or.inl ⟨rfl, Or.inr ⟨o, p0, QP, Or.inr ⟨p6, n6, _, r6, Or.inr ⟨by omega, Or.inr ⟨⟨rfl, rfl⟩, p9, n9, _, r9⟩⟩⟩⟩, I9.1.2.2.2.2.2, QL⟩)))
              · refine ⟨wk_X3_behindType, wm_X3_behindType hg d (by omega), _, rfl, ⟨by omega, by omega⟩, ?_⟩
                intro x84 m85 qm85 kx84 lx84 p86
                have z87 := zqX_f z75 (qm85 51)
                have TY2 : yT1 _ _ 0 [] (yQB B n6 o 3) a1 51 _ m72 := (by rcases p73 with h0 | h0; exact h0.2; (exfalso; omega))
                have BB2 := yT1_q TY2 (a := 1) (by rw [ymay_3 (yQB_v _ _ _ _).1]; omega) p86
                refine And.intro ⟨by omega, by omega⟩ (And.intro (fun c88 => ?_) (fun c88 => ?_))
                · exact And.intro (zrtb (by omega)) (And.intro ⟨by omega, by omega⟩ (hQ _ _ z87 (by omega) (by omega) (Or.inr ⟨rfl, by obtain ⟨l, x, B1, R1, F8, F9⟩ := (by rcases BB2 with h0 | h0; exact h0.2; (exfalso; omega) : yFa _ _ _); exact ⟨x, l, Or.inr ⟨o, p0, QP, Or.inr ⟨p6, n6, _, r6, Or.inr ⟨by omega, Or.inl ⟨B1, R1⟩⟩⟩⟩, F8, F9, yKs_x hpI (yqo_o QP QO) (by decide) R1⟩⟩)))
                · obtain ⟨-, M9, p9, n9, x9, as9, ⟨r9, k9⟩, I9, -⟩ := (by rcases BB2 with h0 | h0; (exfalso; omega); exact h0 : _ ∧ _ ∧ _)
                  have QL : ∃ (o : Int) (L1 L2 : List Int), yQl ((μ.1 2, μ.1 1 ((4 : Nat) : Int)) : yT) B o L1 L2 ∧ yTl m85 o L1 L2 := yQl_mk QP r6 (by omega) I6 H1.2 H2.2 em69 hx68 (zqX_w z70 (qm72 51 (by first | rfl | omega))) (zqX_w z75 (qm85 51)) r9 I9
                  exact And.intro (zrtb (by omega)) (And.intro ⟨by omega, by omega⟩ (hQ _ _ z87 (by omega) (by omega) (Or.inl ⟨rfl, Or.inr ⟨o, p0, QP, Or.inr ⟨p6, n6, _, r6, Or.inr ⟨by omega, Or.inr ⟨⟨rfl, rfl⟩, p9, n9, _, r9⟩⟩⟩⟩, I9.1.2.2.2.2.2, QL⟩)))
          · refine ⟨wk_X3_fail, wm_X3_fail hg d (by omega), _, rfl, ⟨by omega, by omega⟩, ?_⟩
            intro x89 m90 qm90 kx89 lx89 p91
            have z92 := zqX_f z62 (qm90 51)
            exact And.intro (zrtb (by omega)) (And.intro ⟨by omega, by omega⟩ (hQ _ _ z92 (by omega) (by omega) (Or.inr ⟨by omega, _, _, Or.inr ⟨o, p0, QP, Or.inr ⟨p6, n6, _, r6, Or.inl ⟨by omega, rfl⟩⟩⟩, ⟨(yfq_f H1.1 p91).1, (yfq_f H1.1 p91).2, yfq_x (by decide)⟩⟩)))
        · exact And.intro (zrtb (by omega)) (And.intro ⟨by omega, by omega⟩ (hQ _ _ z58 (by omega) (by omega) (Or.inr ⟨rfl, by obtain ⟨l, x, B1, R1, F8, F9⟩ := (by rcases BB with h0 | h0; exact h0.2; (exfalso; omega) : yFa _ _ _); exact ⟨x, l, Or.inr ⟨o, p0, QP, Or.inl ⟨B1, R1⟩⟩, F8, F9, yKs_x hpI (yqo_o QP QO) (by decide) R1⟩⟩)))
