def wk_X3_declaration : zC := fun As μ Q => ∃ (τ : yT) (s0 : yS) (p : Int) (B : yB) (t : Nat), As = [.inr (.inr (50, 50))] ∧ (yInv s0) ∧ (yR τ s0 (0, p, 0, [], B)) ∧ (yRC τ μ p B t (Nat.add t 11) ∧ μ.1 50 ((10 : Nat) : Int) = 0 ∧ yCv μ t (B.1 0 2) B) ∧ (zcq μ) ∧ (∀ (v : Int) (μ' : zM), (∀ T : Nat, T = t → zfR T μ μ') → 0 ≤ v → v ≤ 1 → ((v = 1 ∧ ∃ p' B', yR τ s0 (9, p', 0, [], B') ∧ (yRC τ μ' p' B' t (Nat.add t 11) ∧ μ'.1 50 ((10 : Nat) : Int) = 0 ∧ yCv μ' t (B'.1 0 2) B' ∧ μ'.1 t ((14 : Nat) : Int) = B'.1 0 2) ∧ B'.1 0 0 = B.1 0 0 + 1) ∨ (v = 0 ∧ yFa τ s0 μ')) → Q (some (.inl v)) μ')
set_option maxHeartbeats 4000000 in
theorem wm_X3_declaration {g : zΓ} (hg : zg g) (d : Nat) (hd : 30 ≤ d) : zOk g d 42 wk_X3_declaration := by
  obtain ⟨d, rfl⟩ : ∃ d', d = d' + 1 := ⟨d - 1, by omega⟩
  refine zOk_straight hg (show mt_tab[42]? = some mt_X3_declaration from rfl) [] 100 rfl fun As μ Q hC => ?_
  obtain ⟨τ, s0, p, B, t, rfl, hp0, hp1, hp2, hp3, hQ⟩ := hC
  have K0 := yTI_k hp2.1
  have RB := hp2.1.2.2.1
  have TT := hp2.1.2.1.1.1
  have TN1 : t ≠ 1 ∧ t ≠ 5000001 := by omega
  refine ⟨rfl, ?_⟩
  have z0 : zfR t μ μ := zfR_r t μ
  intro x1 hx1 kx1 lx1
  refine And.intro ⟨⟨by omega, by omega⟩, ⟨by omega, by omega⟩⟩ (And.intro (fun c2 => ?_) (fun c2 => ?_))
  · intro t3 et3 ht3
    have E1 : t3 = t := by have h0 := hp2.1.2.1.2.1; omega
    intro j4 hj4
    refine And.intro ht3.1 ⟨yk_X4_findClass, ym_X4_findClass hg d (by omega), _, _, rfl, ht3.1, ?_⟩
    intro x5 kx5 lx5 p6
    have FC : x5 = yfc B (ynm τ p).toInt := by have h0 := p6; rw [E1, show j4.toInt = (ynm τ p).toInt from hj4.trans K0.2.2] at h0; rw [h0]; exact yRC_fc hp2.1 _
    refine And.intro ⟨by omega, by omega⟩ (And.intro (fun c7 => ?_) (fun c7 => ?_))
    · intro t8 et8 ht8
      have qt8 : t3 = t8 := by omega
      subst qt8
      refine And.intro ht3.1 ?_
      intro x9 hx9 kx9 lx9
      have XC : x9 = B.1 0 0 := by rw [hx9, E1]; exact RB.1.1
      refine And.intro ⟨⟨by omega, by omega⟩, ⟨by omega, by omega⟩⟩ (And.intro (fun c10 => ?_) (fun c10 => ?_))
      · intro t11 et11 ht11
        have qt11 : t3 = t11 := by omega
        subst qt11
        intro j12 hj12
        refine And.intro ht3.1 ⟨wk_X4_addClass, wm_X4_addClass hg d (by omega), _, _, rfl, ht3.1, (by rw [E1, RB.1.1]; omega), ?_⟩
        intro x13 m14 qm14 kx13 lx13 p15 p16
        have z17 := zfR_0 z0 (qm14 t (by first | rfl | omega))
        refine And.intro ⟨by omega, by omega⟩ ?_
        intro m18 em18
        have z19 := zfR_0 z17 (zfr_u em18 (Or.inl (by decide)) (Or.inl ⟨by decide, by decide⟩))
        have A1 := yRC_ac hp2.1 (x := (ynm τ p).toInt) (by omega) (by have h0 := p16; rw [E1, show j12.toInt = (ynm τ p).toInt from hj12.trans K0.2.2] at h0; exact h0) em18 (by have h0 := p15; rw [E1] at h0; rw [h0]; exact RB.1.1)
        have U1 := yCu_1 (x := (ynm τ p).toInt) hp2.1 (by omega)
        have D0 : yDJ τ m18 p (yB1 B (ynm τ p).toInt) t := ⟨A1.1, by rw [A1.2]; exact hp2.2.1, U1.1, yCv_ac TT hp2.2.2 (by have h0 := p16; rw [E1, show j12.toInt = (ynm τ p).toInt from hj12.trans K0.2.2] at h0; exact h0) em18⟩
        have R1 := yR_s hp1 (ym0_k (by omega) (by omega) (by omega))
        refine ⟨wk_X5_step, wm_X5_step hg d (by omega), rfl, ?_⟩
        intro m20 qm20 p21
        have z22 := zfR_0 z19 (qm20 t)
        have H1 := yDJ_st D0 (by omega) p21
        have K1 := yTI_k H1.1.1
        intro x23 hx23 kx23 lx23
        refine And.intro ⟨⟨by omega, by omega⟩, ⟨by omega, by omega⟩⟩ (And.intro (fun c24 => ?_) (fun c24 => ?_))
        · obtain ⟨p3, B3, R3, D3, Z3, S3, N3⟩ : ∃ p3 B3, yR τ s0 (3, p3, 0, [], B3) ∧ yDJ τ m20 p3 B3 t ∧ yZ B3 ∧ B3.1 4 (B3.1 0 3) = 0 ∧ B3.1 0 0 = B.1 0 0 + 1 := ⟨_, _, yR_s R1 (ym1_b (by omega)), H1.1, U1.2.1, U1.2.2.1.2, U1.2.2.2⟩
          have K3 := yTI_k D3.1
          intro x25 hx25 kx25 lx25
          refine And.intro ⟨⟨by omega, by omega⟩, ⟨by omega, by omega⟩⟩ (And.intro (fun c26 => ?_) (fun c26 => ?_))
          · obtain ⟨p6, B6, R6, D6, S6, N6⟩ : ∃ p6 B6, yR τ s0 (6, p6, 0, [], B6) ∧ yDJ τ m20 p6 B6 t ∧ B6.1 4 (B6.1 0 3) = 0 ∧ B6.1 0 0 = B.1 0 0 + 1 := ⟨_, _, yR_s R3 (ym3_b (by omega)), D3, S3, N3⟩
            have K6 := yTI_k D6.1
            intro x27 hx27 kx27 lx27
            refine And.intro ⟨⟨by omega, by omega⟩, ⟨by omega, by omega⟩⟩ (And.intro (fun c28 => ?_) (fun c28 => ?_))
            · obtain ⟨p8, B8, R8, D8, N8⟩ : ∃ p8 B8, yR τ s0 (8, p8, 0, [], B8) ∧ yDJ τ m20 p8 B8 t ∧ B8.1 0 0 = B.1 0 0 + 1 := ⟨_, _, yR_s R6 (ym6_b (by omega)), D6, N6⟩
              have K8 := yTI_k D8.1
              have b8 := yDJ_B D8
              have O8 := D8.1.2.1
              intro x29 hx29 kx29 lx29
              refine And.intro ⟨⟨by omega, by omega⟩, ⟨by omega, by omega⟩⟩ (And.intro (fun c30 => ?_) (fun c30 => ?_))
              · intro t31 et31 ht31
                have E8 : t31 = t := by have h0 := D8.1.2.1.2.1; omega
                intro x32 hx32 kx32 lx32
                refine And.intro ht31.1 ?_
                refine And.intro ⟨by omega, by omega⟩ ?_
                intro m33 em33
                have z34 := zfR_0 z22 (zfr_f em33 ht31.1 (by decide) (Or.inl (by decide)))
                have G8 := yRC_14 D8.1 (E8 ▸ em33)
                have M50 : m33.1 50 = m20.1 50 := by rw [em33, zu_ne (by omega)]
                have M14 : m33.1 t ((14 : Nat) : Int) = B8.1 0 2 := by rw [em33, E8, zu_at]; omega
                have O9 := G8.2.1
                intro t35 et35 ht35
                have E9 : t35 = t := by have h0 := G8.2.1.2.1; omega
                intro x36 hx36 kx36 lx36
                refine And.intro ht35.1 ⟨wk_X4_closeClass, wm_X4_closeClass hg d (by omega), _, _, _, _, _, _, rfl, ht35.1, ⟨by omega, by omega⟩, (yInv_R hp0 R8), ⟨yR_r τ _, by omega⟩, (by rw [E9]; exact G8), ⟨by omega, by rw [E9]; exact M14, by rw [M50]; exact D8.2.1⟩, D8.2.2.1, (zcq_t hp3 z34.1), ?_⟩
                intro x37 m38 qm38 kx37 lx37 p39
                have z40 := zfR_t z34 (qm38 t (by first | rfl | omega))
                refine And.intro ⟨by omega, by omega⟩ (And.intro (fun c41 => ?_) (fun c41 => ?_))
                · obtain ⟨B9, R9, G9, M9, N9⟩ := (by rcases p39 with h0 | h0; (exfalso; omega); (have h1 := h0.2; rw [E9] at h1; exact h1) : ∃ B', yR τ (8, p8, 0, [], B8) (9, ynx τ p8, 0, [], B') ∧ yRC τ m38 p8 B' t (Nat.add t 11) ∧ m38.1 50 ((10 : Nat) : Int) = 0 ∧ B'.1 0 0 = B8.1 0 0)
                  have KE := yE8_9 R9 N9
                  have F9 := yfR5 G8 (qm38 (t + 100) (by omega))
                  have CV9 : yCv m38 t (B9.1 0 2) B9 := yCv_e (yCv_f (yCv_f D8.2.2.2 (by rw [em33, zu_ne (show Nat.add t 5 ≠ _ by simp only [Nat.add_eq]; omega)]) (by rw [em33, zu_ne (show Nat.add t 9 ≠ _ by simp only [Nat.add_eq]; omega)])) (F9 5 (by decide)) (F9 9 (by decide))) KE.2.2.2 N9 KE.2.2.1 (KE.2.1 4 (by decide)) (KE.2.1 6 (by decide)) KE.1.1 KE.1.2
                  have L9 : m38.1 t ((14 : Nat) : Int) = B9.1 0 2 := by rw [show m38.1 t = m33.1 t from F9 0 (by decide), M14, KE.2.2.2]
                  refine ⟨wk_X5_step, wm_X5_step hg d (by omega), rfl, ?_⟩
                  intro m42 qm42 p43
                  have z44 := zfR_0 z40 (qm42 t)
                  have HN := yRC_st G9 (by omega) p43
                  exact And.intro (zrtb (by omega)) (And.intro ⟨by omega, by omega⟩ (hQ _ _ (fun T hT => by rw [hT]; exact z44) (by omega) (by omega) (Or.inl ⟨rfl, _, _, yR_t R8 R9, ⟨HN.1, by rw [HN.2, ystM_ne _ _ (by decide) (by decide)]; exact M9, yCv_st TT CV9 HN.2, by rw [HN.2, ystM_ne _ _ TN1.1 TN1.2]; exact L9⟩, N9.trans N8⟩)))
                · refine ⟨wk_X3_fail, wm_X3_fail hg d (by omega), _, rfl, ⟨by omega, by omega⟩, ?_⟩
                  intro x45 m46 qm46 kx45 lx45 p47
                  have z48 := zfR_0 z40 (qm46 t)
                  exact And.intro (zrtb (by omega)) (And.intro ⟨by omega, by omega⟩ (hQ _ _ (fun T hT => by rw [hT]; exact z48) (by omega) (by omega) (Or.inr ⟨by omega, by rcases p39 with h0 | h0; (obtain ⟨Bf, h1, h2⟩ := h0.2; exact yFa_x h2 (yR_t R8 h1) p47); (exfalso; omega)⟩)))
              · refine ⟨wk_X3_fail, wm_X3_fail hg d (by omega), _, rfl, ⟨by omega, by omega⟩, ?_⟩
                intro x49 m50 qm50 kx49 lx49 p51
                have z52 := zfR_0 z22 (qm50 t)
                exact And.intro (zrtb (by omega)) (And.intro ⟨by omega, by omega⟩ (hQ _ _ (fun T hT => by rw [hT]; exact z52) (by omega) (by omega) (Or.inr ⟨by omega, yFa_f D8.1 (yR_s R8 (ym8_f (by omega))) p51⟩)))
            · have R7 := yR_s R6 (ym6_a (by omega))
              refine ⟨wk_X3_supers, wm_X3_supers hg d (by omega), _, _, _, _, rfl, D6, (by omega), S6, ?_⟩
              intro x53 m54 qm54 kx53 lx53 p55
              have z56 := zfR_0 z22 (qm54 t (by first | rfl | omega))
              refine And.intro ⟨by omega, by omega⟩ (And.intro (fun c57 => ?_) (fun c57 => ?_))
              · obtain ⟨p8, B8, R8, D8, N8⟩ := (by rcases p55 with h0 | h0; exact h0.2; (exfalso; omega) : yS8j τ _ t m54)
                have R8 := yR_t R7 R8
                have N8 : B8.1 0 0 = B.1 0 0 + 1 := N8.trans N6
                have K8 := yTI_k D8.1
                have b8 := yDJ_B D8
                have O8 := D8.1.2.1
                intro x58 hx58 kx58 lx58
                refine And.intro ⟨⟨by omega, by omega⟩, ⟨by omega, by omega⟩⟩ (And.intro (fun c59 => ?_) (fun c59 => ?_))
                · intro t60 et60 ht60
                  have E8 : t60 = t := by have h0 := D8.1.2.1.2.1; omega
                  intro x61 hx61 kx61 lx61
                  refine And.intro ht60.1 ?_
                  refine And.intro ⟨by omega, by omega⟩ ?_
                  intro m62 em62
                  have z63 := zfR_0 z56 (zfr_f em62 ht60.1 (by decide) (Or.inl (by decide)))
                  have G8 := yRC_14 D8.1 (E8 ▸ em62)
                  have M50 : m62.1 50 = m54.1 50 := by rw [em62, zu_ne (by omega)]
                  have M14 : m62.1 t ((14 : Nat) : Int) = B8.1 0 2 := by rw [em62, E8, zu_at]; omega
                  have O9 := G8.2.1
                  intro t64 et64 ht64
                  have E9 : t64 = t := by have h0 := G8.2.1.2.1; omega
                  intro x65 hx65 kx65 lx65
                  refine And.intro ht64.1 ⟨wk_X4_closeClass, wm_X4_closeClass hg d (by omega), _, _, _, _, _, _, rfl, ht64.1, ⟨by omega, by omega⟩, (yInv_R hp0 R8), ⟨yR_r τ _, by omega⟩, (by rw [E9]; exact G8), ⟨by omega, by rw [E9]; exact M14, by rw [M50]; exact D8.2.1⟩, D8.2.2.1, (zcq_t hp3 z63.1), ?_⟩
                  intro x66 m67 qm67 kx66 lx66 p68
                  have z69 := zfR_t z63 (qm67 t (by first | rfl | omega))
                  refine And.intro ⟨by omega, by omega⟩ (And.intro (fun c70 => ?_) (fun c70 => ?_))
                  · obtain ⟨B9, R9, G9, M9, N9⟩ := (by rcases p68 with h0 | h0; (exfalso; omega); (have h1 := h0.2; rw [E9] at h1; exact h1) : ∃ B', yR τ (8, p8, 0, [], B8) (9, ynx τ p8, 0, [], B') ∧ yRC τ m67 p8 B' t (Nat.add t 11) ∧ m67.1 50 ((10 : Nat) : Int) = 0 ∧ B'.1 0 0 = B8.1 0 0)
                    have KE := yE8_9 R9 N9
                    have F9 := yfR5 G8 (qm67 (t + 100) (by omega))
                    have CV9 : yCv m67 t (B9.1 0 2) B9 := yCv_e (yCv_f (yCv_f D8.2.2.2 (by rw [em62, zu_ne (show Nat.add t 5 ≠ _ by simp only [Nat.add_eq]; omega)]) (by rw [em62, zu_ne (show Nat.add t 9 ≠ _ by simp only [Nat.add_eq]; omega)])) (F9 5 (by decide)) (F9 9 (by decide))) KE.2.2.2 N9 KE.2.2.1 (KE.2.1 4 (by decide)) (KE.2.1 6 (by decide)) KE.1.1 KE.1.2
                    have L9 : m67.1 t ((14 : Nat) : Int) = B9.1 0 2 := by rw [show m67.1 t = m62.1 t from F9 0 (by decide), M14, KE.2.2.2]
                    refine ⟨wk_X5_step, wm_X5_step hg d (by omega), rfl, ?_⟩
                    intro m71 qm71 p72
                    have z73 := zfR_0 z69 (qm71 t)
                    have HN := yRC_st G9 (by omega) p72
                    exact And.intro (zrtb (by omega)) (And.intro ⟨by omega, by omega⟩ (hQ _ _ (fun T hT => by rw [hT]; exact z73) (by omega) (by omega) (Or.inl ⟨rfl, _, _, yR_t R8 R9, ⟨HN.1, by rw [HN.2, ystM_ne _ _ (by decide) (by decide)]; exact M9, yCv_st TT CV9 HN.2, by rw [HN.2, ystM_ne _ _ TN1.1 TN1.2]; exact L9⟩, N9.trans N8⟩)))
                  · refine ⟨wk_X3_fail, wm_X3_fail hg d (by omega), _, rfl, ⟨by omega, by omega⟩, ?_⟩
                    intro x74 m75 qm75 kx74 lx74 p76
                    have z77 := zfR_0 z69 (qm75 t)
                    exact And.intro (zrtb (by omega)) (And.intro ⟨by omega, by omega⟩ (hQ _ _ (fun T hT => by rw [hT]; exact z77) (by omega) (by omega) (Or.inr ⟨by omega, by rcases p68 with h0 | h0; (obtain ⟨Bf, h1, h2⟩ := h0.2; exact yFa_x h2 (yR_t R8 h1) p76); (exfalso; omega)⟩)))
                · refine ⟨wk_X3_fail, wm_X3_fail hg d (by omega), _, rfl, ⟨by omega, by omega⟩, ?_⟩
                  intro x78 m79 qm79 kx78 lx78 p80
                  have z81 := zfR_0 z56 (qm79 t)
                  exact And.intro (zrtb (by omega)) (And.intro ⟨by omega, by omega⟩ (hQ _ _ (fun T hT => by rw [hT]; exact z81) (by omega) (by omega) (Or.inr ⟨by omega, yFa_f D8.1 (yR_s R8 (ym8_f (by omega))) p80⟩)))
              · exact And.intro (zrtb (by omega)) (And.intro ⟨by omega, by omega⟩ (hQ _ _ (fun T hT => by rw [hT]; exact z56) (by omega) (by omega) (Or.inr ⟨rfl, yFa_t R7 (by rcases p55 with h0 | h0; (exfalso; omega); exact h0.2)⟩)))
          · have R4 := yR_s R3 (ym3_a (by omega))
            refine ⟨wk_X3_bounds, wm_X3_bounds hg d (by omega), _, _, _, _, rfl, D3, (by omega), ⟨Z3, S3⟩, ?_⟩
            intro x82 m83 qm83 kx82 lx82 p84
            have z85 := zfR_0 z22 (qm83 t (by first | rfl | omega))
            refine And.intro ⟨by omega, by omega⟩ (And.intro (fun c86 => ?_) (fun c86 => ?_))
            · exact And.intro (zrtb (by omega)) (And.intro ⟨by omega, by omega⟩ (hQ _ _ (fun T hT => by rw [hT]; exact z85) (by omega) (by omega) (Or.inr ⟨rfl, yFa_t R4 (by rcases p84 with h0 | h0; (exfalso; omega); exact h0.2)⟩)))
            · obtain ⟨p6, B6, R6, D6, S6, N6⟩ := (by rcases p84 with h0 | h0; exact h0.2; (exfalso; omega) : yS6j τ _ t m83)
              have R6 := yR_t R4 R6
              have N6 : B6.1 0 0 = B.1 0 0 + 1 := N6.trans N3
              have K6 := yTI_k D6.1
              intro x87 hx87 kx87 lx87
              refine And.intro ⟨⟨by omega, by omega⟩, ⟨by omega, by omega⟩⟩ (And.intro (fun c88 => ?_) (fun c88 => ?_))
              · obtain ⟨p8, B8, R8, D8, N8⟩ : ∃ p8 B8, yR τ s0 (8, p8, 0, [], B8) ∧ yDJ τ m83 p8 B8 t ∧ B8.1 0 0 = B.1 0 0 + 1 := ⟨_, _, yR_s R6 (ym6_b (by omega)), D6, N6⟩
                have K8 := yTI_k D8.1
                have b8 := yDJ_B D8
                have O8 := D8.1.2.1
                intro x89 hx89 kx89 lx89
                refine And.intro ⟨⟨by omega, by omega⟩, ⟨by omega, by omega⟩⟩ (And.intro (fun c90 => ?_) (fun c90 => ?_))
                · intro t91 et91 ht91
                  have E8 : t91 = t := by have h0 := D8.1.2.1.2.1; omega
                  intro x92 hx92 kx92 lx92
                  refine And.intro ht91.1 ?_
                  refine And.intro ⟨by omega, by omega⟩ ?_
                  intro m93 em93
                  have z94 := zfR_0 z85 (zfr_f em93 ht91.1 (by decide) (Or.inl (by decide)))
                  have G8 := yRC_14 D8.1 (E8 ▸ em93)
                  have M50 : m93.1 50 = m83.1 50 := by rw [em93, zu_ne (by omega)]
                  have M14 : m93.1 t ((14 : Nat) : Int) = B8.1 0 2 := by rw [em93, E8, zu_at]; omega
                  have O9 := G8.2.1
                  intro t95 et95 ht95
                  have E9 : t95 = t := by have h0 := G8.2.1.2.1; omega
                  intro x96 hx96 kx96 lx96
                  refine And.intro ht95.1 ⟨wk_X4_closeClass, wm_X4_closeClass hg d (by omega), _, _, _, _, _, _, rfl, ht95.1, ⟨by omega, by omega⟩, (yInv_R hp0 R8), ⟨yR_r τ _, by omega⟩, (by rw [E9]; exact G8), ⟨by omega, by rw [E9]; exact M14, by rw [M50]; exact D8.2.1⟩, D8.2.2.1, (zcq_t hp3 z94.1), ?_⟩
                  intro x97 m98 qm98 kx97 lx97 p99
                  have z100 := zfR_t z94 (qm98 t (by first | rfl | omega))
                  refine And.intro ⟨by omega, by omega⟩ (And.intro (fun c101 => ?_) (fun c101 => ?_))
                  · obtain ⟨B9, R9, G9, M9, N9⟩ := (by rcases p99 with h0 | h0; (exfalso; omega); (have h1 := h0.2; rw [E9] at h1; exact h1) : ∃ B', yR τ (8, p8, 0, [], B8) (9, ynx τ p8, 0, [], B') ∧ yRC τ m98 p8 B' t (Nat.add t 11) ∧ m98.1 50 ((10 : Nat) : Int) = 0 ∧ B'.1 0 0 = B8.1 0 0)
                    have KE := yE8_9 R9 N9
                    have F9 := yfR5 G8 (qm98 (t + 100) (by omega))
                    have CV9 : yCv m98 t (B9.1 0 2) B9 := yCv_e (yCv_f (yCv_f D8.2.2.2 (by rw [em93, zu_ne (show Nat.add t 5 ≠ _ by simp only [Nat.add_eq]; omega)]) (by rw [em93, zu_ne (show Nat.add t 9 ≠ _ by simp only [Nat.add_eq]; omega)])) (F9 5 (by decide)) (F9 9 (by decide))) KE.2.2.2 N9 KE.2.2.1 (KE.2.1 4 (by decide)) (KE.2.1 6 (by decide)) KE.1.1 KE.1.2
                    have L9 : m98.1 t ((14 : Nat) : Int) = B9.1 0 2 := by rw [show m98.1 t = m93.1 t from F9 0 (by decide), M14, KE.2.2.2]
                    refine ⟨wk_X5_step, wm_X5_step hg d (by omega), rfl, ?_⟩
                    intro m102 qm102 p103
                    have z104 := zfR_0 z100 (qm102 t)
                    have HN := yRC_st G9 (by omega) p103
                    exact And.intro (zrtb (by omega)) (And.intro ⟨by omega, by omega⟩ (hQ _ _ (fun T hT => by rw [hT]; exact z104) (by omega) (by omega) (Or.inl ⟨rfl, _, _, yR_t R8 R9, ⟨HN.1, by rw [HN.2, ystM_ne _ _ (by decide) (by decide)]; exact M9, yCv_st TT CV9 HN.2, by rw [HN.2, ystM_ne _ _ TN1.1 TN1.2]; exact L9⟩, N9.trans N8⟩)))
                  · refine ⟨wk_X3_fail, wm_X3_fail hg d (by omega), _, rfl, ⟨by omega, by omega⟩, ?_⟩
                    intro x105 m106 qm106 kx105 lx105 p107
                    have z108 := zfR_0 z100 (qm106 t)
                    exact And.intro (zrtb (by omega)) (And.intro ⟨by omega, by omega⟩ (hQ _ _ (fun T hT => by rw [hT]; exact z108) (by omega) (by omega) (Or.inr ⟨by omega, by rcases p99 with h0 | h0; (obtain ⟨Bf, h1, h2⟩ := h0.2; exact yFa_x h2 (yR_t R8 h1) p107); (exfalso; omega)⟩)))
                · refine ⟨wk_X3_fail, wm_X3_fail hg d (by omega), _, rfl, ⟨by omega, by omega⟩, ?_⟩
                  intro x109 m110 qm110 kx109 lx109 p111
                  have z112 := zfR_0 z85 (qm110 t)
                  exact And.intro (zrtb (by omega)) (And.intro ⟨by omega, by omega⟩ (hQ _ _ (fun T hT => by rw [hT]; exact z112) (by omega) (by omega) (Or.inr ⟨by omega, yFa_f D8.1 (yR_s R8 (ym8_f (by omega))) p111⟩)))
              · have R7 := yR_s R6 (ym6_a (by omega))
                refine ⟨wk_X3_supers, wm_X3_supers hg d (by omega), _, _, _, _, rfl, D6, (by omega), S6, ?_⟩
                intro x113 m114 qm114 kx113 lx113 p115
                have z116 := zfR_0 z85 (qm114 t (by first | rfl | omega))
                refine And.intro ⟨by omega, by omega⟩ (And.intro (fun c117 => ?_) (fun c117 => ?_))
                · obtain ⟨p8, B8, R8, D8, N8⟩ := (by rcases p115 with h0 | h0; exact h0.2; (exfalso; omega) : yS8j τ _ t m114)
                  have R8 := yR_t R7 R8
                  have N8 : B8.1 0 0 = B.1 0 0 + 1 := N8.trans N6
                  have K8 := yTI_k D8.1
                  have b8 := yDJ_B D8
                  have O8 := D8.1.2.1
                  intro x118 hx118 kx118 lx118
                  refine And.intro ⟨⟨by omega, by omega⟩, ⟨by omega, by omega⟩⟩ (And.intro (fun c119 => ?_) (fun c119 => ?_))
                  · intro t120 et120 ht120
                    have E8 : t120 = t := by have h0 := D8.1.2.1.2.1; omega
                    intro x121 hx121 kx121 lx121
                    refine And.intro ht120.1 ?_
                    refine And.intro ⟨by omega, by omega⟩ ?_
                    intro m122 em122
                    have z123 := zfR_0 z116 (zfr_f em122 ht120.1 (by decide) (Or.inl (by decide)))
                    have G8 := yRC_14 D8.1 (E8 ▸ em122)
                    have M50 : m122.1 50 = m114.1 50 := by rw [em122, zu_ne (by omega)]
                    have M14 : m122.1 t ((14 : Nat) : Int) = B8.1 0 2 := by rw [em122, E8, zu_at]; omega
                    have O9 := G8.2.1
                    intro t124 et124 ht124
                    have E9 : t124 = t := by have h0 := G8.2.1.2.1; omega
                    intro x125 hx125 kx125 lx125
                    refine And.intro ht124.1 ⟨wk_X4_closeClass, wm_X4_closeClass hg d (by omega), _, _, _, _, _, _, rfl, ht124.1, ⟨by omega, by omega⟩, (yInv_R hp0 R8), ⟨yR_r τ _, by omega⟩, (by rw [E9]; exact G8), ⟨by omega, by rw [E9]; exact M14, by rw [M50]; exact D8.2.1⟩, D8.2.2.1, (zcq_t hp3 z123.1), ?_⟩
                    intro x126 m127 qm127 kx126 lx126 p128
                    have z129 := zfR_t z123 (qm127 t (by first | rfl | omega))
                    refine And.intro ⟨by omega, by omega⟩ (And.intro (fun c130 => ?_) (fun c130 => ?_))
                    · obtain ⟨B9, R9, G9, M9, N9⟩ := (by rcases p128 with h0 | h0; (exfalso; omega); (have h1 := h0.2; rw [E9] at h1; exact h1) : ∃ B', yR τ (8, p8, 0, [], B8) (9, ynx τ p8, 0, [], B') ∧ yRC τ m127 p8 B' t (Nat.add t 11) ∧ m127.1 50 ((10 : Nat) : Int) = 0 ∧ B'.1 0 0 = B8.1 0 0)
                      have KE := yE8_9 R9 N9
                      have F9 := yfR5 G8 (qm127 (t + 100) (by omega))
                      have CV9 : yCv m127 t (B9.1 0 2) B9 := yCv_e (yCv_f (yCv_f D8.2.2.2 (by rw [em122, zu_ne (show Nat.add t 5 ≠ _ by simp only [Nat.add_eq]; omega)]) (by rw [em122, zu_ne (show Nat.add t 9 ≠ _ by simp only [Nat.add_eq]; omega)])) (F9 5 (by decide)) (F9 9 (by decide))) KE.2.2.2 N9 KE.2.2.1 (KE.2.1 4 (by decide)) (KE.2.1 6 (by decide)) KE.1.1 KE.1.2
                      have L9 : m127.1 t ((14 : Nat) : Int) = B9.1 0 2 := by rw [show m127.1 t = m122.1 t from F9 0 (by decide), M14, KE.2.2.2]
                      refine ⟨wk_X5_step, wm_X5_step hg d (by omega), rfl, ?_⟩
                      intro m131 qm131 p132
                      have z133 := zfR_0 z129 (qm131 t)
                      have HN := yRC_st G9 (by omega) p132
                      exact And.intro (zrtb (by omega)) (And.intro ⟨by omega, by omega⟩ (hQ _ _ (fun T hT => by rw [hT]; exact z133) (by omega) (by omega) (Or.inl ⟨rfl, _, _, yR_t R8 R9, ⟨HN.1, by rw [HN.2, ystM_ne _ _ (by decide) (by decide)]; exact M9, yCv_st TT CV9 HN.2, by rw [HN.2, ystM_ne _ _ TN1.1 TN1.2]; exact L9⟩, N9.trans N8⟩)))
                    · refine ⟨wk_X3_fail, wm_X3_fail hg d (by omega), _, rfl, ⟨by omega, by omega⟩, ?_⟩
                      intro x134 m135 qm135 kx134 lx134 p136
                      have z137 := zfR_0 z129 (qm135 t)
                      exact And.intro (zrtb (by omega)) (And.intro ⟨by omega, by omega⟩ (hQ _ _ (fun T hT => by rw [hT]; exact z137) (by omega) (by omega) (Or.inr ⟨by omega, by rcases p128 with h0 | h0; (obtain ⟨Bf, h1, h2⟩ := h0.2; exact yFa_x h2 (yR_t R8 h1) p136); (exfalso; omega)⟩)))
                  · refine ⟨wk_X3_fail, wm_X3_fail hg d (by omega), _, rfl, ⟨by omega, by omega⟩, ?_⟩
                    intro x138 m139 qm139 kx138 lx138 p140
                    have z141 := zfR_0 z116 (qm139 t)
                    exact And.intro (zrtb (by omega)) (And.intro ⟨by omega, by omega⟩ (hQ _ _ (fun T hT => by rw [hT]; exact z141) (by omega) (by omega) (Or.inr ⟨by omega, yFa_f D8.1 (yR_s R8 (ym8_f (by omega))) p140⟩)))
                · exact And.intro (zrtb (by omega)) (And.intro ⟨by omega, by omega⟩ (hQ _ _ (fun T hT => by rw [hT]; exact z116) (by omega) (by omega) (Or.inr ⟨rfl, yFa_t R7 (by rcases p115 with h0 | h0; (exfalso; omega); exact h0.2)⟩)))
        · have R2 := yR_s R1 (ym1_a (by omega))
          refine ⟨wk_X3_parameterNames, wm_X3_parameterNames hg d (by omega), _, _, _, _, rfl, H1.1, (by omega), U1.2.2.1.1, ⟨U1.2.1, U1.2.2.1.2⟩, ?_⟩
          intro x142 m143 qm143 kx142 lx142 p144
          have z145 := zfR_0 z22 (qm143 t (by first | rfl | omega))
          refine And.intro ⟨by omega, by omega⟩ (And.intro (fun c146 => ?_) (fun c146 => ?_))
          · exact And.intro (zrtb (by omega)) (And.intro ⟨by omega, by omega⟩ (hQ _ _ (fun T hT => by rw [hT]; exact z145) (by omega) (by omega) (Or.inr ⟨rfl, yFa_t R2 (by rcases p144 with h0 | h0; (exfalso; omega); exact h0.2)⟩)))
          · obtain ⟨p3, B3, R3, D3, Z3, S3, N3⟩ := (by rcases p144 with h0 | h0; exact h0.2; (exfalso; omega) : yPOj τ _ t m143)
            have R3 := yR_t R2 R3
            have N3 : B3.1 0 0 = B.1 0 0 + 1 := N3.trans U1.2.2.2
            have K3 := yTI_k D3.1
            intro x147 hx147 kx147 lx147
            refine And.intro ⟨⟨by omega, by omega⟩, ⟨by omega, by omega⟩⟩ (And.intro (fun c148 => ?_) (fun c148 => ?_))
            · obtain ⟨p6, B6, R6, D6, S6, N6⟩ : ∃ p6 B6, yR τ s0 (6, p6, 0, [], B6) ∧ yDJ τ m143 p6 B6 t ∧ B6.1 4 (B6.1 0 3) = 0 ∧ B6.1 0 0 = B.1 0 0 + 1 := ⟨_, _, yR_s R3 (ym3_b (by omega)), D3, S3, N3⟩
              have K6 := yTI_k D6.1
              intro x149 hx149 kx149 lx149
              refine And.intro ⟨⟨by omega, by omega⟩, ⟨by omega, by omega⟩⟩ (And.intro (fun c150 => ?_) (fun c150 => ?_))
              · obtain ⟨p8, B8, R8, D8, N8⟩ : ∃ p8 B8, yR τ s0 (8, p8, 0, [], B8) ∧ yDJ τ m143 p8 B8 t ∧ B8.1 0 0 = B.1 0 0 + 1 := ⟨_, _, yR_s R6 (ym6_b (by omega)), D6, N6⟩
                have K8 := yTI_k D8.1
                have b8 := yDJ_B D8
                have O8 := D8.1.2.1
                intro x151 hx151 kx151 lx151
                refine And.intro ⟨⟨by omega, by omega⟩, ⟨by omega, by omega⟩⟩ (And.intro (fun c152 => ?_) (fun c152 => ?_))
                · intro t153 et153 ht153
                  have E8 : t153 = t := by have h0 := D8.1.2.1.2.1; omega
                  intro x154 hx154 kx154 lx154
                  refine And.intro ht153.1 ?_
                  refine And.intro ⟨by omega, by omega⟩ ?_
                  intro m155 em155
                  have z156 := zfR_0 z145 (zfr_f em155 ht153.1 (by decide) (Or.inl (by decide)))
                  have G8 := yRC_14 D8.1 (E8 ▸ em155)
                  have M50 : m155.1 50 = m143.1 50 := by rw [em155, zu_ne (by omega)]
                  have M14 : m155.1 t ((14 : Nat) : Int) = B8.1 0 2 := by rw [em155, E8, zu_at]; omega
                  have O9 := G8.2.1
                  intro t157 et157 ht157
                  have E9 : t157 = t := by have h0 := G8.2.1.2.1; omega
                  intro x158 hx158 kx158 lx158
                  refine And.intro ht157.1 ⟨wk_X4_closeClass, wm_X4_closeClass hg d (by omega), _, _, _, _, _, _, rfl, ht157.1, ⟨by omega, by omega⟩, (yInv_R hp0 R8), ⟨yR_r τ _, by omega⟩, (by rw [E9]; exact G8), ⟨by omega, by rw [E9]; exact M14, by rw [M50]; exact D8.2.1⟩, D8.2.2.1, (zcq_t hp3 z156.1), ?_⟩
                  intro x159 m160 qm160 kx159 lx159 p161
                  have z162 := zfR_t z156 (qm160 t (by first | rfl | omega))
                  refine And.intro ⟨by omega, by omega⟩ (And.intro (fun c163 => ?_) (fun c163 => ?_))
                  · obtain ⟨B9, R9, G9, M9, N9⟩ := (by rcases p161 with h0 | h0; (exfalso; omega); (have h1 := h0.2; rw [E9] at h1; exact h1) : ∃ B', yR τ (8, p8, 0, [], B8) (9, ynx τ p8, 0, [], B') ∧ yRC τ m160 p8 B' t (Nat.add t 11) ∧ m160.1 50 ((10 : Nat) : Int) = 0 ∧ B'.1 0 0 = B8.1 0 0)
                    have KE := yE8_9 R9 N9
                    have F9 := yfR5 G8 (qm160 (t + 100) (by omega))
                    have CV9 : yCv m160 t (B9.1 0 2) B9 := yCv_e (yCv_f (yCv_f D8.2.2.2 (by rw [em155, zu_ne (show Nat.add t 5 ≠ _ by simp only [Nat.add_eq]; omega)]) (by rw [em155, zu_ne (show Nat.add t 9 ≠ _ by simp only [Nat.add_eq]; omega)])) (F9 5 (by decide)) (F9 9 (by decide))) KE.2.2.2 N9 KE.2.2.1 (KE.2.1 4 (by decide)) (KE.2.1 6 (by decide)) KE.1.1 KE.1.2
                    have L9 : m160.1 t ((14 : Nat) : Int) = B9.1 0 2 := by rw [show m160.1 t = m155.1 t from F9 0 (by decide), M14, KE.2.2.2]
                    refine ⟨wk_X5_step, wm_X5_step hg d (by omega), rfl, ?_⟩
                    intro m164 qm164 p165
                    have z166 := zfR_0 z162 (qm164 t)
                    have HN := yRC_st G9 (by omega) p165
                    exact And.intro (zrtb (by omega)) (And.intro ⟨by omega, by omega⟩ (hQ _ _ (fun T hT => by rw [hT]; exact z166) (by omega) (by omega) (Or.inl ⟨rfl, _, _, yR_t R8 R9, ⟨HN.1, by rw [HN.2, ystM_ne _ _ (by decide) (by decide)]; exact M9, yCv_st TT CV9 HN.2, by rw [HN.2, ystM_ne _ _ TN1.1 TN1.2]; exact L9⟩, N9.trans N8⟩)))
                  · refine ⟨wk_X3_fail, wm_X3_fail hg d (by omega), _, rfl, ⟨by omega, by omega⟩, ?_⟩
                    intro x167 m168 qm168 kx167 lx167 p169
                    have z170 := zfR_0 z162 (qm168 t)
                    exact And.intro (zrtb (by omega)) (And.intro ⟨by omega, by omega⟩ (hQ _ _ (fun T hT => by rw [hT]; exact z170) (by omega) (by omega) (Or.inr ⟨by omega, by rcases p161 with h0 | h0; (obtain ⟨Bf, h1, h2⟩ := h0.2; exact yFa_x h2 (yR_t R8 h1) p169); (exfalso; omega)⟩)))
                · refine ⟨wk_X3_fail, wm_X3_fail hg d (by omega), _, rfl, ⟨by omega, by omega⟩, ?_⟩
                  intro x171 m172 qm172 kx171 lx171 p173
                  have z174 := zfR_0 z145 (qm172 t)
                  exact And.intro (zrtb (by omega)) (And.intro ⟨by omega, by omega⟩ (hQ _ _ (fun T hT => by rw [hT]; exact z174) (by omega) (by omega) (Or.inr ⟨by omega, yFa_f D8.1 (yR_s R8 (ym8_f (by omega))) p173⟩)))
              · have R7 := yR_s R6 (ym6_a (by omega))
                refine ⟨wk_X3_supers, wm_X3_supers hg d (by omega), _, _, _, _, rfl, D6, (by omega), S6, ?_⟩
                intro x175 m176 qm176 kx175 lx175 p177
                have z178 := zfR_0 z145 (qm176 t (by first | rfl | omega))
                refine And.intro ⟨by omega, by omega⟩ (And.intro (fun c179 => ?_) (fun c179 => ?_))
                · obtain ⟨p8, B8, R8, D8, N8⟩ := (by rcases p177 with h0 | h0; exact h0.2; (exfalso; omega) : yS8j τ _ t m176)
                  have R8 := yR_t R7 R8
                  have N8 : B8.1 0 0 = B.1 0 0 + 1 := N8.trans N6
                  have K8 := yTI_k D8.1
                  have b8 := yDJ_B D8
                  have O8 := D8.1.2.1
                  intro x180 hx180 kx180 lx180
                  refine And.intro ⟨⟨by omega, by omega⟩, ⟨by omega, by omega⟩⟩ (And.intro (fun c181 => ?_) (fun c181 => ?_))
                  · intro t182 et182 ht182
                    have E8 : t182 = t := by have h0 := D8.1.2.1.2.1; omega
                    intro x183 hx183 kx183 lx183
                    refine And.intro ht182.1 ?_
                    refine And.intro ⟨by omega, by omega⟩ ?_
                    intro m184 em184
                    have z185 := zfR_0 z178 (zfr_f em184 ht182.1 (by decide) (Or.inl (by decide)))
                    have G8 := yRC_14 D8.1 (E8 ▸ em184)
                    have M50 : m184.1 50 = m176.1 50 := by rw [em184, zu_ne (by omega)]
                    have M14 : m184.1 t ((14 : Nat) : Int) = B8.1 0 2 := by rw [em184, E8, zu_at]; omega
                    have O9 := G8.2.1
                    intro t186 et186 ht186
                    have E9 : t186 = t := by have h0 := G8.2.1.2.1; omega
                    intro x187 hx187 kx187 lx187
                    refine And.intro ht186.1 ⟨wk_X4_closeClass, wm_X4_closeClass hg d (by omega), _, _, _, _, _, _, rfl, ht186.1, ⟨by omega, by omega⟩, (yInv_R hp0 R8), ⟨yR_r τ _, by omega⟩, (by rw [E9]; exact G8), ⟨by omega, by rw [E9]; exact M14, by rw [M50]; exact D8.2.1⟩, D8.2.2.1, (zcq_t hp3 z185.1), ?_⟩
                    intro x188 m189 qm189 kx188 lx188 p190
                    have z191 := zfR_t z185 (qm189 t (by first | rfl | omega))
                    refine And.intro ⟨by omega, by omega⟩ (And.intro (fun c192 => ?_) (fun c192 => ?_))
                    · obtain ⟨B9, R9, G9, M9, N9⟩ := (by rcases p190 with h0 | h0; (exfalso; omega); (have h1 := h0.2; rw [E9] at h1; exact h1) : ∃ B', yR τ (8, p8, 0, [], B8) (9, ynx τ p8, 0, [], B') ∧ yRC τ m189 p8 B' t (Nat.add t 11) ∧ m189.1 50 ((10 : Nat) : Int) = 0 ∧ B'.1 0 0 = B8.1 0 0)
                      have KE := yE8_9 R9 N9
                      have F9 := yfR5 G8 (qm189 (t + 100) (by omega))
                      have CV9 : yCv m189 t (B9.1 0 2) B9 := yCv_e (yCv_f (yCv_f D8.2.2.2 (by rw [em184, zu_ne (show Nat.add t 5 ≠ _ by simp only [Nat.add_eq]; omega)]) (by rw [em184, zu_ne (show Nat.add t 9 ≠ _ by simp only [Nat.add_eq]; omega)])) (F9 5 (by decide)) (F9 9 (by decide))) KE.2.2.2 N9 KE.2.2.1 (KE.2.1 4 (by decide)) (KE.2.1 6 (by decide)) KE.1.1 KE.1.2
                      have L9 : m189.1 t ((14 : Nat) : Int) = B9.1 0 2 := by rw [show m189.1 t = m184.1 t from F9 0 (by decide), M14, KE.2.2.2]
                      refine ⟨wk_X5_step, wm_X5_step hg d (by omega), rfl, ?_⟩
                      intro m193 qm193 p194
                      have z195 := zfR_0 z191 (qm193 t)
                      have HN := yRC_st G9 (by omega) p194
                      exact And.intro (zrtb (by omega)) (And.intro ⟨by omega, by omega⟩ (hQ _ _ (fun T hT => by rw [hT]; exact z195) (by omega) (by omega) (Or.inl ⟨rfl, _, _, yR_t R8 R9, ⟨HN.1, by rw [HN.2, ystM_ne _ _ (by decide) (by decide)]; exact M9, yCv_st TT CV9 HN.2, by rw [HN.2, ystM_ne _ _ TN1.1 TN1.2]; exact L9⟩, N9.trans N8⟩)))
                    · refine ⟨wk_X3_fail, wm_X3_fail hg d (by omega), _, rfl, ⟨by omega, by omega⟩, ?_⟩
                      intro x196 m197 qm197 kx196 lx196 p198
                      have z199 := zfR_0 z191 (qm197 t)
                      exact And.intro (zrtb (by omega)) (And.intro ⟨by omega, by omega⟩ (hQ _ _ (fun T hT => by rw [hT]; exact z199) (by omega) (by omega) (Or.inr ⟨by omega, by rcases p190 with h0 | h0; (obtain ⟨Bf, h1, h2⟩ := h0.2; exact yFa_x h2 (yR_t R8 h1) p198); (exfalso; omega)⟩)))
                  · refine ⟨wk_X3_fail, wm_X3_fail hg d (by omega), _, rfl, ⟨by omega, by omega⟩, ?_⟩
                    intro x200 m201 qm201 kx200 lx200 p202
                    have z203 := zfR_0 z178 (qm201 t)
                    exact And.intro (zrtb (by omega)) (And.intro ⟨by omega, by omega⟩ (hQ _ _ (fun T hT => by rw [hT]; exact z203) (by omega) (by omega) (Or.inr ⟨by omega, yFa_f D8.1 (yR_s R8 (ym8_f (by omega))) p202⟩)))
                · exact And.intro (zrtb (by omega)) (And.intro ⟨by omega, by omega⟩ (hQ _ _ (fun T hT => by rw [hT]; exact z178) (by omega) (by omega) (Or.inr ⟨rfl, yFa_t R7 (by rcases p177 with h0 | h0; (exfalso; omega); exact h0.2)⟩)))
            · have R4 := yR_s R3 (ym3_a (by omega))
              refine ⟨wk_X3_bounds, wm_X3_bounds hg d (by omega), _, _, _, _, rfl, D3, (by omega), ⟨Z3, S3⟩, ?_⟩
              intro x204 m205 qm205 kx204 lx204 p206
              have z207 := zfR_0 z145 (qm205 t (by first | rfl | omega))
              refine And.intro ⟨by omega, by omega⟩ (And.intro (fun c208 => ?_) (fun c208 => ?_))
              · exact And.intro (zrtb (by omega)) (And.intro ⟨by omega, by omega⟩ (hQ _ _ (fun T hT => by rw [hT]; exact z207) (by omega) (by omega) (Or.inr ⟨rfl, yFa_t R4 (by rcases p206 with h0 | h0; (exfalso; omega); exact h0.2)⟩)))
              · obtain ⟨p6, B6, R6, D6, S6, N6⟩ := (by rcases p206 with h0 | h0; exact h0.2; (exfalso; omega) : yS6j τ _ t m205)
                have R6 := yR_t R4 R6
                have N6 : B6.1 0 0 = B.1 0 0 + 1 := N6.trans N3
                have K6 := yTI_k D6.1
                intro x209 hx209 kx209 lx209
                refine And.intro ⟨⟨by omega, by omega⟩, ⟨by omega, by omega⟩⟩ (And.intro (fun c210 => ?_) (fun c210 => ?_))
                · obtain ⟨p8, B8, R8, D8, N8⟩ : ∃ p8 B8, yR τ s0 (8, p8, 0, [], B8) ∧ yDJ τ m205 p8 B8 t ∧ B8.1 0 0 = B.1 0 0 + 1 := ⟨_, _, yR_s R6 (ym6_b (by omega)), D6, N6⟩
                  have K8 := yTI_k D8.1
                  have b8 := yDJ_B D8
                  have O8 := D8.1.2.1
                  intro x211 hx211 kx211 lx211
                  refine And.intro ⟨⟨by omega, by omega⟩, ⟨by omega, by omega⟩⟩ (And.intro (fun c212 => ?_) (fun c212 => ?_))
                  · intro t213 et213 ht213
                    have E8 : t213 = t := by have h0 := D8.1.2.1.2.1; omega
                    intro x214 hx214 kx214 lx214
                    refine And.intro ht213.1 ?_
                    refine And.intro ⟨by omega, by omega⟩ ?_
                    intro m215 em215
                    have z216 := zfR_0 z207 (zfr_f em215 ht213.1 (by decide) (Or.inl (by decide)))
                    have G8 := yRC_14 D8.1 (E8 ▸ em215)
                    have M50 : m215.1 50 = m205.1 50 := by rw [em215, zu_ne (by omega)]
                    have M14 : m215.1 t ((14 : Nat) : Int) = B8.1 0 2 := by rw [em215, E8, zu_at]; omega
                    have O9 := G8.2.1
                    intro t217 et217 ht217
                    have E9 : t217 = t := by have h0 := G8.2.1.2.1; omega
                    intro x218 hx218 kx218 lx218
                    refine And.intro ht217.1 ⟨wk_X4_closeClass, wm_X4_closeClass hg d (by omega), _, _, _, _, _, _, rfl, ht217.1, ⟨by omega, by omega⟩, (yInv_R hp0 R8), ⟨yR_r τ _, by omega⟩, (by rw [E9]; exact G8), ⟨by omega, by rw [E9]; exact M14, by rw [M50]; exact D8.2.1⟩, D8.2.2.1, (zcq_t hp3 z216.1), ?_⟩
                    intro x219 m220 qm220 kx219 lx219 p221
                    have z222 := zfR_t z216 (qm220 t (by first | rfl | omega))
                    refine And.intro ⟨by omega, by omega⟩ (And.intro (fun c223 => ?_) (fun c223 => ?_))
                    · obtain ⟨B9, R9, G9, M9, N9⟩ := (by rcases p221 with h0 | h0; (exfalso; omega); (have h1 := h0.2; rw [E9] at h1; exact h1) : ∃ B', yR τ (8, p8, 0, [], B8) (9, ynx τ p8, 0, [], B') ∧ yRC τ m220 p8 B' t (Nat.add t 11) ∧ m220.1 50 ((10 : Nat) : Int) = 0 ∧ B'.1 0 0 = B8.1 0 0)
                      have KE := yE8_9 R9 N9
                      have F9 := yfR5 G8 (qm220 (t + 100) (by omega))
                      have CV9 : yCv m220 t (B9.1 0 2) B9 := yCv_e (yCv_f (yCv_f D8.2.2.2 (by rw [em215, zu_ne (show Nat.add t 5 ≠ _ by simp only [Nat.add_eq]; omega)]) (by rw [em215, zu_ne (show Nat.add t 9 ≠ _ by simp only [Nat.add_eq]; omega)])) (F9 5 (by decide)) (F9 9 (by decide))) KE.2.2.2 N9 KE.2.2.1 (KE.2.1 4 (by decide)) (KE.2.1 6 (by decide)) KE.1.1 KE.1.2
                      have L9 : m220.1 t ((14 : Nat) : Int) = B9.1 0 2 := by rw [show m220.1 t = m215.1 t from F9 0 (by decide), M14, KE.2.2.2]
                      refine ⟨wk_X5_step, wm_X5_step hg d (by omega), rfl, ?_⟩
                      intro m224 qm224 p225
                      have z226 := zfR_0 z222 (qm224 t)
                      have HN := yRC_st G9 (by omega) p225
                      exact And.intro (zrtb (by omega)) (And.intro ⟨by omega, by omega⟩ (hQ _ _ (fun T hT => by rw [hT]; exact z226) (by omega) (by omega) (Or.inl ⟨rfl, _, _, yR_t R8 R9, ⟨HN.1, by rw [HN.2, ystM_ne _ _ (by decide) (by decide)]; exact M9, yCv_st TT CV9 HN.2, by rw [HN.2, ystM_ne _ _ TN1.1 TN1.2]; exact L9⟩, N9.trans N8⟩)))
                    · refine ⟨wk_X3_fail, wm_X3_fail hg d (by omega), _, rfl, ⟨by omega, by omega⟩, ?_⟩
                      intro x227 m228 qm228 kx227 lx227 p229
                      have z230 := zfR_0 z222 (qm228 t)
                      exact And.intro (zrtb (by omega)) (And.intro ⟨by omega, by omega⟩ (hQ _ _ (fun T hT => by rw [hT]; exact z230) (by omega) (by omega) (Or.inr ⟨by omega, by rcases p221 with h0 | h0; (obtain ⟨Bf, h1, h2⟩ := h0.2; exact yFa_x h2 (yR_t R8 h1) p229); (exfalso; omega)⟩)))
                  · refine ⟨wk_X3_fail, wm_X3_fail hg d (by omega), _, rfl, ⟨by omega, by omega⟩, ?_⟩
                    intro x231 m232 qm232 kx231 lx231 p233
                    have z234 := zfR_0 z207 (qm232 t)
                    exact And.intro (zrtb (by omega)) (And.intro ⟨by omega, by omega⟩ (hQ _ _ (fun T hT => by rw [hT]; exact z234) (by omega) (by omega) (Or.inr ⟨by omega, yFa_f D8.1 (yR_s R8 (ym8_f (by omega))) p233⟩)))
                · have R7 := yR_s R6 (ym6_a (by omega))
                  refine ⟨wk_X3_supers, wm_X3_supers hg d (by omega), _, _, _, _, rfl, D6, (by omega), S6, ?_⟩
                  intro x235 m236 qm236 kx235 lx235 p237
                  have z238 := zfR_0 z207 (qm236 t (by first | rfl | omega))
                  refine And.intro ⟨by omega, by omega⟩ (And.intro (fun c239 => ?_) (fun c239 => ?_))
                  · obtain ⟨p8, B8, R8, D8, N8⟩ := (by rcases p237 with h0 | h0; exact h0.2; (exfalso; omega) : yS8j τ _ t m236)
                    have R8 := yR_t R7 R8
                    have N8 : B8.1 0 0 = B.1 0 0 + 1 := N8.trans N6
                    have K8 := yTI_k D8.1
                    have b8 := yDJ_B D8
                    have O8 := D8.1.2.1
                    intro x240 hx240 kx240 lx240
                    refine And.intro ⟨⟨by omega, by omega⟩, ⟨by omega, by omega⟩⟩ (And.intro (fun c241 => ?_) (fun c241 => ?_))
                    · intro t242 et242 ht242
                      have E8 : t242 = t := by have h0 := D8.1.2.1.2.1; omega
                      intro x243 hx243 kx243 lx243
                      refine And.intro ht242.1 ?_
                      refine And.intro ⟨by omega, by omega⟩ ?_
                      intro m244 em244
                      have z245 := zfR_0 z238 (zfr_f em244 ht242.1 (by decide) (Or.inl (by decide)))
                      have G8 := yRC_14 D8.1 (E8 ▸ em244)
                      have M50 : m244.1 50 = m236.1 50 := by rw [em244, zu_ne (by omega)]
                      have M14 : m244.1 t ((14 : Nat) : Int) = B8.1 0 2 := by rw [em244, E8, zu_at]; omega
                      have O9 := G8.2.1
                      intro t246 et246 ht246
                      have E9 : t246 = t := by have h0 := G8.2.1.2.1; omega
                      intro x247 hx247 kx247 lx247
                      refine And.intro ht246.1 ⟨wk_X4_closeClass, wm_X4_closeClass hg d (by omega), _, _, _, _, _, _, rfl, ht246.1, ⟨by omega, by omega⟩, (yInv_R hp0 R8), ⟨yR_r τ _, by omega⟩, (by rw [E9]; exact G8), ⟨by omega, by rw [E9]; exact M14, by rw [M50]; exact D8.2.1⟩, D8.2.2.1, (zcq_t hp3 z245.1), ?_⟩
                      intro x248 m249 qm249 kx248 lx248 p250
                      have z251 := zfR_t z245 (qm249 t (by first | rfl | omega))
                      refine And.intro ⟨by omega, by omega⟩ (And.intro (fun c252 => ?_) (fun c252 => ?_))
                      · obtain ⟨B9, R9, G9, M9, N9⟩ := (by rcases p250 with h0 | h0; (exfalso; omega); (have h1 := h0.2; rw [E9] at h1; exact h1) : ∃ B', yR τ (8, p8, 0, [], B8) (9, ynx τ p8, 0, [], B') ∧ yRC τ m249 p8 B' t (Nat.add t 11) ∧ m249.1 50 ((10 : Nat) : Int) = 0 ∧ B'.1 0 0 = B8.1 0 0)
                        have KE := yE8_9 R9 N9
                        have F9 := yfR5 G8 (qm249 (t + 100) (by omega))
                        have CV9 : yCv m249 t (B9.1 0 2) B9 := yCv_e (yCv_f (yCv_f D8.2.2.2 (by rw [em244, zu_ne (show Nat.add t 5 ≠ _ by simp only [Nat.add_eq]; omega)]) (by rw [em244, zu_ne (show Nat.add t 9 ≠ _ by simp only [Nat.add_eq]; omega)])) (F9 5 (by decide)) (F9 9 (by decide))) KE.2.2.2 N9 KE.2.2.1 (KE.2.1 4 (by decide)) (KE.2.1 6 (by decide)) KE.1.1 KE.1.2
                        have L9 : m249.1 t ((14 : Nat) : Int) = B9.1 0 2 := by rw [show m249.1 t = m244.1 t from F9 0 (by decide), M14, KE.2.2.2]
                        refine ⟨wk_X5_step, wm_X5_step hg d (by omega), rfl, ?_⟩
                        intro m253 qm253 p254
                        have z255 := zfR_0 z251 (qm253 t)
                        have HN := yRC_st G9 (by omega) p254
                        exact And.intro (zrtb (by omega)) (And.intro ⟨by omega, by omega⟩ (hQ _ _ (fun T hT => by rw [hT]; exact z255) (by omega) (by omega) (Or.inl ⟨rfl, _, _, yR_t R8 R9, ⟨HN.1, by rw [HN.2, ystM_ne _ _ (by decide) (by decide)]; exact M9, yCv_st TT CV9 HN.2, by rw [HN.2, ystM_ne _ _ TN1.1 TN1.2]; exact L9⟩, N9.trans N8⟩)))
                      · refine ⟨wk_X3_fail, wm_X3_fail hg d (by omega), _, rfl, ⟨by omega, by omega⟩, ?_⟩
                        intro x256 m257 qm257 kx256 lx256 p258
                        have z259 := zfR_0 z251 (qm257 t)
                        exact And.intro (zrtb (by omega)) (And.intro ⟨by omega, by omega⟩ (hQ _ _ (fun T hT => by rw [hT]; exact z259) (by omega) (by omega) (Or.inr ⟨by omega, by rcases p250 with h0 | h0; (obtain ⟨Bf, h1, h2⟩ := h0.2; exact yFa_x h2 (yR_t R8 h1) p258); (exfalso; omega)⟩)))
                    · refine ⟨wk_X3_fail, wm_X3_fail hg d (by omega), _, rfl, ⟨by omega, by omega⟩, ?_⟩
                      intro x260 m261 qm261 kx260 lx260 p262
                      have z263 := zfR_0 z238 (qm261 t)
                      exact And.intro (zrtb (by omega)) (And.intro ⟨by omega, by omega⟩ (hQ _ _ (fun T hT => by rw [hT]; exact z263) (by omega) (by omega) (Or.inr ⟨by omega, yFa_f D8.1 (yR_s R8 (ym8_f (by omega))) p262⟩)))
                  · exact And.intro (zrtb (by omega)) (And.intro ⟨by omega, by omega⟩ (hQ _ _ (fun T hT => by rw [hT]; exact z238) (by omega) (by omega) (Or.inr ⟨rfl, yFa_t R7 (by rcases p237 with h0 | h0; (exfalso; omega); exact h0.2)⟩)))
      · refine ⟨wk_X3_fail, wm_X3_fail hg d (by omega), _, rfl, ⟨by omega, by omega⟩, ?_⟩
        intro x264 m265 qm265 kx264 lx264 p266
        have z267 := zfR_0 z0 (qm265 t)
        exact And.intro (zrtb (by omega)) (And.intro ⟨by omega, by omega⟩ (hQ _ _ (fun T hT => by rw [hT]; exact z267) (by omega) (by omega) (Or.inr ⟨by omega, yFa_f hp2.1 (yR_s hp1 (ym0_6 (by omega) (by omega) (by omega))) p266⟩)))
    · refine ⟨wk_X3_fail, wm_X3_fail hg d (by omega), _, rfl, ⟨by omega, by omega⟩, ?_⟩
      intro x268 m269 qm269 kx268 lx268 p270
      have z271 := zfR_0 z0 (qm269 t)
      exact And.intro (zrtb (by omega)) (And.intro ⟨by omega, by omega⟩ (hQ _ _ (fun T hT => by rw [hT]; exact z271) (by omega) (by omega) (Or.inr ⟨by omega, yFa_f hp2.1 (yR_s hp1 (ym0_3 (by omega) (by omega))) p270⟩)))
  · refine ⟨wk_X3_fail, wm_X3_fail hg d (by omega), _, rfl, ⟨by omega, by omega⟩, ?_⟩
    intro x272 m273 qm273 kx272 lx272 p274
    have z275 := zfR_0 z0 (qm273 t)
    exact And.intro (zrtb (by omega)) (And.intro ⟨by omega, by omega⟩ (hQ _ _ (fun T hT => by rw [hT]; exact z275) (by omega) (by omega) (Or.inr ⟨by omega, yFa_f hp2.1 (yR_s hp1 (ym0_2 (by omega))) p274⟩)))
