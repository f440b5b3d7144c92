def zqX (μ μ' : zM) : Prop := zqx μ μ' ∧ μ'.1 1 ((4 : Nat) : Int) = 0
theorem zqx_f {a b c : zM} (h1 : zqx a b) (h2 : zfr 51 b c) : zqx a c := by
  have ho : zoq 51 b := by
    unfold zoq
    rw [h1.2.1]
    exact ⟨by decide, by unfold zob; omega, Or.inl ⟨by decide, by decide⟩⟩
  have q := h2.2 ho
  exact ⟨zl0_t h1.1 h2.1, q.1.trans h1.2.1, fun j hj => (q.2.1 j (by unfold zqj at hj; unfold zob; omega)).trans (h1.2.2 j hj)⟩
theorem zqX_f {a b c : zM} (h1 : zqX a b) (h2 : zfr 51 b c) : zqX a c := ⟨zqx_f h1.1 h2, by have := h2.1.1.2.2.2.1; have := h1.2; omega⟩
theorem zqX_6 {a b c : zM} {x : Int} (h1 : zqX a b) (e : c = zu b 50 ((6 : Nat) : Int) x) : zqX a c := ⟨⟨zl0_t h1.1.1 (zl0_u e (Or.inl (by decide)) (Or.inl ⟨by decide, by decide⟩)), by rw [e, zu_nk (by decide)]; exact h1.1.2.1, fun j hj => by rw [e, zu_ne (by unfold zqj at hj; omega)]; exact h1.1.2.2 j hj⟩, by rw [e, zu_ne (by decide)]; exact h1.2⟩
theorem zqX_w {a b c : zM} (h1 : zqX a b) (h2 : zfr 51 b c) : b.1 50 ((4 : Nat) : Int) ≤ c.1 50 ((4 : Nat) : Int) ∧ (∀ k : Int, k < b.1 50 ((4 : Nat) : Int) → c.1 51 k = b.1 51 k) ∧ c.1 50 ((6 : Nat) : Int) = b.1 50 ((6 : Nat) : Int) := by
  have ho : zoq 51 b := by
    unfold zoq
    rw [h1.1.2.1]
    exact ⟨by decide, by unfold zob; omega, Or.inl ⟨by decide, by decide⟩⟩
  exact (h2.2 ho).2.2.2 rfl
def qk_X3_readPlace : zC := fun As μ Q => ∃ (a1 : Nat) (B : yB), As = [.inr (.inr (50, 50)), .inr (.inr (a1, 14))] ∧ (a1 = 14 ∨ a1 = 32) ∧ (∀ i : Int, 0 ≤ i → i < μ.1 1 ((4 : Nat) : Int) → 0 ≤ μ.1 2 i ∧ μ.1 2 i ≤ 255) ∧ (0 ≤ μ.1 1 ((4 : Nat) : Int) ∧ μ.1 1 ((4 : Nat) : Int) ≤ 800) ∧ (yRB μ a1 B ∧ yRS μ a1 300 B) ∧ (∀ (v : Int) (μ' : zM), zqX μ μ' → 0 ≤ v → v ≤ 1 → ((v = 1 ∧ yQp ((μ.1 2, μ.1 1 ((4 : Nat) : Int)) : yT) B 0 0 ∧ μ'.1 50 ((8 : Nat) : Int) = 0) ∨ (v = 0 ∧ ∃ x l, yQp ((μ.1 2, μ.1 1 ((4 : Nat) : Int)) : yT) B x l ∧ μ'.1 50 ((8 : Nat) : Int) = x ∧ μ'.1 50 ((9 : Nat) : Int) = l)) → Q (some (.inl v)) μ')
set_option maxHeartbeats 4000000 in
theorem qm_X3_readPlace {g : zΓ} (hg : zg g) (d : Nat) (hd : 29 ≤ d) : zOk g d 40 qk_X3_readPlace := by
  obtain ⟨d, rfl⟩ : ∃ d', d = d' + 1 := ⟨d - 1, by omega⟩
  refine zOk_straight hg (show mt_tab[40]? = some mt_X3_readPlace from rfl) [] 74 rfl fun As μ Q hC => ?_
  obtain ⟨a1, B, rfl, ha1, hp0, hp1, hp2, hQ⟩ := hC
  refine ⟨rfl, ?_⟩
  refine ⟨_, zOk_tag (ym_X3_start hg d (by omega)), [.inr (.inr (50, 50)), .inr (.inr (a1, 14)), .inr (.inr (51, 200))], rfl, _, _, rfl, ha1, (Or.inr (Or.inr rfl)), hp0, hp1, ?_⟩
  intro m1 qm1 p2
  have P1 := p2
  have z3 : zqX μ m1 := ⟨⟨zl0_t (zl0_r μ) qm1, by rw [P1.2.2.1.2.1]; rfl, fun j hj => by unfold zqj at hj; exact P1.2.1 j (by omega) (by omega) (by omega) (by omega) (by omega) (by omega)⟩, P1.2.2.2⟩
  have C0 := yRC_q0 ha1 hp2 P1.1 P1.2.1 ⟨P1.2.2.1.1, P1.2.2.1.2.1, P1.2.2.1.2.2.1, P1.2.2.1.2.2.2.1, P1.2.2.1.2.2.2.2.1⟩
  refine ⟨qk_X3_opening, qm_X3_opening hg d (by omega), _, B, a1, rfl, ⟨C0, P1.2.2.1.2.2.2.2.2⟩, yN_at, hp2.1.1.2.2.1.1, ?_⟩
  intro x4 m5 qm5 kx4 lx4 p6
  have z7 := zqX_f z3 (qm5 51 (by first | rfl | omega))
  refine And.intro ⟨by omega, by omega⟩ (And.intro (fun c8 => ?_) (fun c8 => ?_))
  · exact And.intro (zrtb (by omega)) (And.intro ⟨by omega, by omega⟩ (hQ _ _ z7 (by omega) (by omega) (Or.inr ⟨rfl, by obtain ⟨x, l, h1, h2, h3⟩ := (by rcases p6 with h0 | h0; (exfalso; omega); exact h0.2 : ∃ x l, yqo _ B = .inr (x, l) ∧ m5.1 50 ((8 : Nat) : Int) = x ∧ m5.1 50 ((9 : Nat) : Int) = l); exact ⟨x, l, Or.inl h1, h2, h3⟩⟩)))
  · obtain ⟨o, p0, QP, Q0, QO⟩ := (by rcases p6 with h0 | h0; exact h0.2; (exfalso; omega) : ∃ o p, yqo _ B = .inl (o, p) ∧ (yRC _ m5 p (yN (yN B 0 2 0) 0 3 o) a1 51 ∧ m5.1 50 ((10 : Nat) : Int) = 0) ∧ o < B.1 0 0)
    refine ⟨(qk_X3_type 8), qm_X3_typeN hg 8 d (by omega), _, _, _, _, _, _, _, _, _, 0, [], rfl, ⟨by omega, by omega⟩, ⟨by omega, by omega⟩, ⟨by omega, by omega⟩, (by decide), (yTI_q (r := 4) Q0.1 QO), ⟨rfl, (yW2_q (yQB_v _ _ _ _).1 (by decide)).symm, (yW3_q (yQB_v _ _ _ _).2.1).symm⟩, Q0.2, ?_⟩
    intro x9 m10 qm10 kx9 lx9 p11 p12
    have z13 := zqX_f z7 (qm10 51 (by first | rfl | omega))
    refine And.intro ⟨by omega, by omega⟩ (And.intro (fun c14 => ?_) (fun c14 => ?_))
    · exact And.intro (zrtb (by omega)) (And.intro ⟨by omega, by omega⟩ (hQ _ _ z13 (by omega) (by omega) (Or.inr ⟨rfl, by obtain ⟨l, x, B1, R1, F8, F9⟩ := (by rcases p11 with h0 | h0; (exfalso; omega); exact h0.2 : yFa _ _ _); exact ⟨x, l, Or.inr ⟨o, p0, QP, Or.inl ⟨B1, R1⟩⟩, F8, F9⟩⟩)))
    · intro x15 hx15 kx15 lx15
      refine And.intro ⟨⟨by omega, by omega⟩, ⟨by omega, by omega⟩⟩ (And.intro (fun c16 => ?_) (fun c16 => ?_))
      · refine ⟨wk_X3_behindType, wm_X3_behindType hg d (by omega), _, rfl, ⟨by omega, by omega⟩, ?_⟩
        intro x17 m18 qm18 kx17 lx17 p19
        have z20 := zqX_f z13 (qm18 51)
        have TY : yT1 _ _ 0 [] (yQB B 0 o 4) a1 51 _ m10 := (by rcases p11 with h0 | h0; exact h0.2; (exfalso; omega))
        have BB := yT1_q TY (a := 0) (by rw [ymay_4 (yQB_v _ _ _ _).1]; omega) p19
        refine And.intro ⟨by omega, by omega⟩ (And.intro (fun c21 => ?_) (fun c21 => ?_))
        · obtain ⟨-, M5, p6, n6, x6, as6, ⟨r6, k6⟩, I6, M6⟩ := (by rcases BB with h0 | h0; (exfalso; omega); exact h0 : _ ∧ _ ∧ _)
          rw [ymay_4 (yQB_v _ _ _ _).1] at k6
          have C6 : yRC _ m18 p6 (yN (yQB B 0 o 4) 0 2 n6) a1 51 := I6.1
          refine ⟨wk_X5_step, wm_X5_step hg d (by omega), rfl, ?_⟩
          intro m22 qm22 p23
          have z24 := zqX_f z20 (qm22 51)
          have H1 := yRC_st C6 (by omega) p23
          have K1 := yTI_k H1.1
          have K1a : m22.1 1 ((6 : Nat) : Int) = ykd ((μ.1 2, μ.1 1 ((4 : Nat) : Int)) : yT) (ynx ((μ.1 2, μ.1 1 ((4 : Nat) : Int)) : yT) p6) := K1.1
          have M7 : m22.1 50 ((10 : Nat) : Int) = 0 := by rw [H1.2, ystM_ne _ _ (by decide) (by decide)]; exact M6
          intro x25 hx25 kx25 lx25
          refine And.intro ⟨⟨by omega, by omega⟩, ⟨by omega, by omega⟩⟩ (And.intro (fun c26 => ?_) (fun c26 => ?_))
          · intro t27 et27 ht27
            have E1 : t27 = a1 := by have h0 := H1.1.2.1.2.1; omega
            intro j28 hj28
            refine And.intro ht27.1 ⟨yk_X4_findClass, ym_X4_findClass hg d (by omega), _, _, rfl, ht27.1, ?_⟩
            intro x29 kx29 lx29 p30
            have FC : x29 = yfc B (ynm ((μ.1 2, μ.1 1 ((4 : Nat) : Int)) : yT) (ynx ((μ.1 2, μ.1 1 ((4 : Nat) : Int)) : yT) p6)).toInt := by have h0 := p30; rw [E1, show j28.toInt = (ynm ((μ.1 2, μ.1 1 ((4 : Nat) : Int)) : yT) (ynx ((μ.1 2, μ.1 1 ((4 : Nat) : Int)) : yT) p6)).toInt from hj28.trans K1.2.2] at h0; rw [h0]; exact (yRC_fc H1.1 _).trans (by first | exact yfc_qn | exact yfc_qp)
            refine And.intro ⟨by omega, by omega⟩ ?_
            intro m31 em31
            have z32 := zqX_f z24 (zfr_u em31 (Or.inl (by decide)) (Or.inl ⟨by decide, by decide⟩))
            have O1 := yRC_50 H1.1 em31 (by decide)
            intro x33 hx33 kx33 lx33
            have XO : x33 = x29 := by rw [hx33, em31, zu_at]
            refine And.intro ⟨by omega, by omega⟩ (And.intro (fun c34 => ?_) (fun c34 => ?_))
            · refine ⟨wk_X5_step, wm_X5_step hg d (by omega), rfl, ?_⟩
              intro m35 qm35 p36
              have z37 := zqX_f z32 (qm35 51)
              have H2 := yRC_st O1 (by omega) p36
              have K2 := yTI_k H2.1
              have K2a : m35.1 1 ((6 : Nat) : Int) = ykd ((μ.1 2, μ.1 1 ((4 : Nat) : Int)) : yT) (ynx ((μ.1 2, μ.1 1 ((4 : Nat) : Int)) : yT) (ynx ((μ.1 2, μ.1 1 ((4 : Nat) : Int)) : yT) p6)) := K2.1
              intro x38 hx38 kx38 lx38
              refine And.intro ⟨by omega, by omega⟩ (And.intro (fun c39 => ?_) (fun c39 => ?_))
              · exact And.intro (zrtb (by omega)) (And.intro ⟨by omega, by omega⟩ (hQ _ _ z37 (by omega) (by omega) (Or.inl ⟨rfl, Or.inr ⟨o, p0, QP, Or.inr ⟨p6, n6, _, r6, Or.inr ⟨by omega, Or.inr ⟨by omega, Or.inr ⟨by omega, rfl, rfl⟩⟩⟩⟩⟩, H2.1.2.2.2.2.2⟩)))
              · refine ⟨wk_X3_fail, wm_X3_fail hg d (by omega), _, rfl, ⟨by omega, by omega⟩, ?_⟩
                intro x40 m41 qm41 kx40 lx40 p42
                have z43 := zqX_f z37 (qm41 51)
                refine And.intro ⟨by omega, by omega⟩ (And.intro (fun c44 => ?_) (fun c44 => ?_))
                · exact And.intro (zrtb (by omega)) (And.intro ⟨by omega, by omega⟩ (hQ _ _ z43 (by omega) (by omega) (Or.inr ⟨rfl, _, _, Or.inr ⟨o, p0, QP, Or.inr ⟨p6, n6, _, r6, Or.inr ⟨by omega, Or.inr ⟨by omega, Or.inl ⟨by omega, rfl⟩⟩⟩⟩⟩, yfq_f H2.1 p42⟩)))
                · exfalso; omega
            · refine ⟨wk_X3_fail, wm_X3_fail hg d (by omega), _, rfl, ⟨by omega, by omega⟩, ?_⟩
              intro x45 m46 qm46 kx45 lx45 p47
              have z48 := zqX_f z32 (qm46 51)
              exact And.intro (zrtb (by omega)) (And.intro ⟨by omega, by omega⟩ (hQ _ _ z48 (by omega) (by omega) (Or.inr ⟨by omega, _, _, Or.inr ⟨o, p0, QP, Or.inr ⟨p6, n6, _, r6, Or.inr ⟨by omega, Or.inl ⟨by omega, rfl⟩⟩⟩⟩, yfq_f O1 p47⟩)))
          · refine ⟨wk_X3_fail, wm_X3_fail hg d (by omega), _, rfl, ⟨by omega, by omega⟩, ?_⟩
            intro x49 m50 qm50 kx49 lx49 p51
            have z52 := zqX_f z24 (qm50 51)
            exact And.intro (zrtb (by omega)) (And.intro ⟨by omega, by omega⟩ (hQ _ _ z52 (by omega) (by omega) (Or.inr ⟨by omega, _, _, Or.inr ⟨o, p0, QP, Or.inr ⟨p6, n6, _, r6, Or.inl ⟨by omega, rfl⟩⟩⟩, yfq_f H1.1 p51⟩)))
        · exact And.intro (zrtb (by omega)) (And.intro ⟨by omega, by omega⟩ (hQ _ _ z20 (by omega) (by omega) (Or.inr ⟨rfl, by obtain ⟨l, x, B1, R1, F8, F9⟩ := (by rcases BB with h0 | h0; exact h0.2; (exfalso; omega) : yFa _ _ _); exact ⟨x, l, Or.inr ⟨o, p0, QP, Or.inl ⟨B1, R1⟩⟩, F8, F9⟩⟩)))
      · refine ⟨wk_X3_behindType, wm_X3_behindType hg d (by omega), _, rfl, ⟨by omega, by omega⟩, ?_⟩
        intro x53 m54 qm54 kx53 lx53 p55
        have z56 := zqX_f z13 (qm54 51)
        have TY : yT1 _ _ 0 [] (yQB B 0 o 4) a1 51 _ m10 := (by rcases p11 with h0 | h0; exact h0.2; (exfalso; omega))
        have BB := yT1_q TY (a := 1) (by rw [ymay_4 (yQB_v _ _ _ _).1]; omega) p55
        refine And.intro ⟨by omega, by omega⟩ (And.intro (fun c57 => ?_) (fun c57 => ?_))
        · obtain ⟨-, M5, p6, n6, x6, as6, ⟨r6, k6⟩, I6, M6⟩ := (by rcases BB with h0 | h0; (exfalso; omega); exact h0 : _ ∧ _ ∧ _)
          rw [ymay_4 (yQB_v _ _ _ _).1] at k6
          have C6 : yRC _ m54 p6 (yN (yQB B 0 o 4) 0 2 n6) a1 51 := I6.1
          refine ⟨wk_X5_step, wm_X5_step hg d (by omega), rfl, ?_⟩
          intro m58 qm58 p59
          have z60 := zqX_f z56 (qm58 51)
          have H1 := yRC_st C6 (by omega) p59
          have K1 := yTI_k H1.1
          have K1a : m58.1 1 ((6 : Nat) : Int) = ykd ((μ.1 2, μ.1 1 ((4 : Nat) : Int)) : yT) (ynx ((μ.1 2, μ.1 1 ((4 : Nat) : Int)) : yT) p6) := K1.1
          have M7 : m58.1 50 ((10 : Nat) : Int) = 0 := by rw [H1.2, ystM_ne _ _ (by decide) (by decide)]; exact M6
          intro x61 hx61 kx61 lx61
          refine And.intro ⟨⟨by omega, by omega⟩, ⟨by omega, by omega⟩⟩ (And.intro (fun c62 => ?_) (fun c62 => ?_))
          · intro t63 et63 ht63
            have E1 : t63 = a1 := by have h0 := H1.1.2.1.2.1; omega
            intro j64 hj64
            refine And.intro ht63.1 ⟨yk_X4_findClass, ym_X4_findClass hg d (by omega), _, _, rfl, ht63.1, ?_⟩
            intro x65 kx65 lx65 p66
            have FC : x65 = yfc B (ynm ((μ.1 2, μ.1 1 ((4 : Nat) : Int)) : yT) (ynx ((μ.1 2, μ.1 1 ((4 : Nat) : Int)) : yT) p6)).toInt := by have h0 := p66; rw [E1, show j64.toInt = (ynm ((μ.1 2, μ.1 1 ((4 : Nat) : Int)) : yT) (ynx ((μ.1 2, μ.1 1 ((4 : Nat) : Int)) : yT) p6)).toInt from hj64.trans K1.2.2] at h0; rw [h0]; exact (yRC_fc H1.1 _).trans (by first | exact yfc_qn | exact yfc_qp)
            refine And.intro ⟨by omega, by omega⟩ ?_
            intro m67 em67
            have z68 := zqX_f z60 (zfr_u em67 (Or.inl (by decide)) (Or.inl ⟨by decide, by decide⟩))
            have O1 := yRC_50 H1.1 em67 (by decide)
            intro x69 hx69 kx69 lx69
            have XO : x69 = x65 := by rw [hx69, em67, zu_at]
            refine And.intro ⟨by omega, by omega⟩ (And.intro (fun c70 => ?_) (fun c70 => ?_))
            · refine ⟨wk_X5_step, wm_X5_step hg d (by omega), rfl, ?_⟩
              intro m71 qm71 p72
              have z73 := zqX_f z68 (qm71 51)
              have H2 := yRC_st O1 (by omega) p72
              have K2 := yTI_k H2.1
              have K2a : m71.1 1 ((6 : Nat) : Int) = ykd ((μ.1 2, μ.1 1 ((4 : Nat) : Int)) : yT) (ynx ((μ.1 2, μ.1 1 ((4 : Nat) : Int)) : yT) (ynx ((μ.1 2, μ.1 1 ((4 : Nat) : Int)) : yT) p6)) := K2.1
              intro x74 hx74 kx74 lx74
              refine And.intro ⟨by omega, by omega⟩ (And.intro (fun c75 => ?_) (fun c75 => ?_))
              · exact And.intro (zrtb (by omega)) (And.intro ⟨by omega, by omega⟩ (hQ _ _ z73 (by omega) (by omega) (Or.inl ⟨rfl, Or.inr ⟨o, p0, QP, Or.inr ⟨p6, n6, _, r6, Or.inr ⟨by omega, Or.inr ⟨by omega, Or.inr ⟨by omega, rfl, rfl⟩⟩⟩⟩⟩, H2.1.2.2.2.2.2⟩)))
              · refine ⟨wk_X3_fail, wm_X3_fail hg d (by omega), _, rfl, ⟨by omega, by omega⟩, ?_⟩
                intro x76 m77 qm77 kx76 lx76 p78
                have z79 := zqX_f z73 (qm77 51)
                refine And.intro ⟨by omega, by omega⟩ (And.intro (fun c80 => ?_) (fun c80 => ?_))
                · exact And.intro (zrtb (by omega)) (And.intro ⟨by omega, by omega⟩ (hQ _ _ z79 (by omega) (by omega) (Or.inr ⟨rfl, _, _, Or.inr ⟨o, p0, QP, Or.inr ⟨p6, n6, _, r6, Or.inr ⟨by omega, Or.inr ⟨by omega, Or.inl ⟨by omega, rfl⟩⟩⟩⟩⟩, yfq_f H2.1 p78⟩)))
                · exfalso; omega
            · refine ⟨wk_X3_fail, wm_X3_fail hg d (by omega), _, rfl, ⟨by omega, by omega⟩, ?_⟩
              intro x81 m82 qm82 kx81 lx81 p83
              have z84 := zqX_f z68 (qm82 51)
              exact And.intro (zrtb (by omega)) (And.intro ⟨by omega, by omega⟩ (hQ _ _ z84 (by omega) (by omega) (Or.inr ⟨by omega, _, _, Or.inr ⟨o, p0, QP, Or.inr ⟨p6, n6, _, r6, Or.inr ⟨by omega, Or.inl ⟨by omega, rfl⟩⟩⟩⟩, yfq_f O1 p83⟩)))
          · refine ⟨wk_X3_fail, wm_X3_fail hg d (by omega), _, rfl, ⟨by omega, by omega⟩, ?_⟩
            intro x85 m86 qm86 kx85 lx85 p87
            have z88 := zqX_f z60 (qm86 51)
            exact And.intro (zrtb (by omega)) (And.intro ⟨by omega, by omega⟩ (hQ _ _ z88 (by omega) (by omega) (Or.inr ⟨by omega, _, _, Or.inr ⟨o, p0, QP, Or.inr ⟨p6, n6, _, r6, Or.inl ⟨by omega, rfl⟩⟩⟩, yfq_f H1.1 p87⟩)))
        · exact And.intro (zrtb (by omega)) (And.intro ⟨by omega, by omega⟩ (hQ _ _ z56 (by omega) (by omega) (Or.inr ⟨rfl, by obtain ⟨l, x, B1, R1, F8, F9⟩ := (by rcases BB with h0 | h0; exact h0.2; (exfalso; omega) : yFa _ _ _); exact ⟨x, l, Or.inr ⟨o, p0, QP, Or.inl ⟨B1, R1⟩⟩, F8, F9⟩⟩)))
