/-! ### behindFloor, by rows -/
def hk_X9_behindFloor : zC := fun As μ Q => ∃ (a1 : Int) (C : Int) (Pn : Int) (tt : Int) (K : Int) (B : yB) (S : qS) (s t : qR), As = [.inr (.inr (66, 66)), .inl a1] ∧ (0 ≤ a1 ∧ a1 ≤ 39) ∧ (zQS μ C Pn tt K) ∧ (0 ≤ μ.1 66 ((46 : Nat) : Int) ∧ μ.1 66 ((46 : Nat) : Int) ≤ μ.1 66 ((75 : Nat) : Int) ∧ μ.1 66 ((75 : Nat) : Int) ≤ 3000 ∧ 0 ≤ μ.1 66 ((74 : Nat) : Int) ∧ μ.1 66 ((74 : Nat) : Int) ≤ 40) ∧ (μ.1 66 ((74 : Nat) : Int) = a1 + 1) ∧ (zFs μ a1) ∧ (zFw μ a1) ∧ (rQt μ B C Pn tt ∧ zUq μ 0 ∧ rVs μ S) ∧ (rEf μ (μ.1 91 a1) s ∧ rEf μ (μ.1 92 a1) t) ∧ (∀ (v : Int) (μ' : zM), zfx [67, 68, 69, 70, 71, 72, 73, 74, 88, 89, 90, 91, 92, 93, 94, 95, 97, 98, 99, 107] [8, 45, 46, 47, 48, 60, 74, 76] μ μ' → 0 ≤ v → v ≤ 3 → (zQS μ' C Pn tt K) → (zQx μ μ') → (0 ≤ μ'.1 66 ((46 : Nat) : Int) ∧ μ'.1 66 ((46 : Nat) : Int) ≤ μ'.1 66 ((75 : Nat) : Int) ∧ μ'.1 66 ((75 : Nat) : Int) ≤ 3000 ∧ 0 ≤ μ'.1 66 ((74 : Nat) : Int) ∧ μ'.1 66 ((74 : Nat) : Int) ≤ 40) → (zAp μ μ' a1 v) → (rSt B (μ.1 66 ((75 : Nat) : Int)) C Pn tt μ μ' a1 v (qRe B (qB B (μ.1 66 ((75 : Nat) : Int)) (39 - a1).toNat) S s t)) → Q (some (.inl v)) μ')
set_option maxHeartbeats 4000000 in
theorem hm_X9_behindFloor {g : zΓ} (hg : zg g) (d : Nat) (hd : 7 ≤ d) : zOk g d 169 hk_X9_behindFloor := by
  obtain ⟨d, rfl⟩ : ∃ d', d = d' + 1 := ⟨d - 1, by omega⟩
  refine zOk_straight hg (show mt_tab[169]? = some mt_X9_behindFloor from rfl) [] 94 rfl fun As μ Q hC => ?_
  obtain ⟨a1, C, Pn, tt, K, B, S, s, t, rfl, ha1, hp0, hp1, hp2, hp3, hp4, ⟨hT, hU, hV⟩, ⟨hs, ht⟩, hQ⟩ := hC
  obtain ⟨u, hu⟩ : ∃ u : Int, μ.1 66 ((75 : Nat) : Int) = u := ⟨_, rfl⟩
  rw [hu] at hQ
  obtain ⟨g1, wg1⟩ : ∃ z : Int, μ.1 66 ((46 : Nat) : Int) = z := ⟨_, rfl⟩
  obtain ⟨g2, wg2⟩ : ∃ z : Int, μ.1 66 ((75 : Nat) : Int) = z := ⟨_, rfl⟩
  obtain ⟨g3, wg3⟩ : ∃ z : Int, μ.1 66 ((74 : Nat) : Int) = z := ⟨_, rfl⟩
  refine ⟨rfl, ?_⟩
  have z0 : zfx [67, 68, 69, 70, 71, 72, 73, 74, 88, 89, 90, 91, 92, 93, 94, 95, 97, 98, 99, 107] [8, 45, 46, 47, 48, 60, 74, 76] μ μ := zfx_x μ
  refine And.intro ⟨by omega, by omega⟩ ?_
  intro x4 hx4 kx4 lx4
  refine And.intro ⟨by omega, by omega⟩ ?_
  intro x5 hx5 kx5 lx5
  have TF := hp4.1
  have TT := hp4.2
  rw [← hx4] at TF
  rw [← hx5] at TT
  rw [← hx4] at hs
  rw [← hx5] at ht
  have HS := rEf_hd hs
  have HT := rEf_hd ht
  have c21 := hp0.1.2.1.1.2.1
  have WS := (hp0.1.2.2.2.2.1 x4 TF.1.1 TF.1.2).2.1
  have WT := (hp0.1.2.2.2.2.1 x5 TT.1.1 TT.1.2).2.1
  have QS := rEf_qPa hT hp0.1 TF.1.1 TF.1.2 hs
  have QT := rEf_qPa hT hp0.1 TT.1.1 TT.1.2 ht
  have KS : (μ.1 67 x4 = 0 → s.headD 0 = μ.1 68 x4 ∧ s.headD 0 < 21) ∧ (μ.1 67 x4 = 1 ∨ μ.1 67 x4 = 2 → ¬ s.headD 0 < 21) := by
    unfold rHf rHd at HS
    exact ⟨fun k => by have := WS k; omega, fun k => by omega⟩
  have KT : (μ.1 67 x5 = 0 → t.headD 0 = μ.1 68 x5 ∧ t.headD 0 < 21) ∧ (μ.1 67 x5 = 1 ∨ μ.1 67 x5 = 2 → ¬ t.headD 0 < 21) := by
    unfold rHf rHd at HT
    exact ⟨fun k => by have := WT k; omega, fun k => by omega⟩
  clear HS HT WS WT
  have NF := hp0.1.1.2.1 x4 TF.1.1 TF.1.2
  have NT := hp0.1.1.2.1 x5 TT.1.1 TT.1.2
  refine ⟨zk_X9_isVariable2, zm_X9_isVariable2 hg d (by omega), _, rfl, ⟨by omega, by omega⟩, ?_⟩
  intro x6 kx6 lx6 p7 p8
  try rw [wg1] at p7
  try rw [wg2] at p7
  try rw [wg3] at p7
  try rw [wg1] at p7
  try rw [wg2] at p7
  try rw [wg3] at p7
  try rw [wg1] at p8
  try rw [wg2] at p8
  try rw [wg3] at p8
  try rw [wg1] at p8
  try rw [wg2] at p8
  try rw [wg3] at p8
  refine And.intro ⟨by omega, by omega⟩ (And.intro (fun c9 => ?_) (fun c9 => ?_))
  · refine ⟨zk_X9_isVariable2, zm_X9_isVariable2 hg d (by omega), _, rfl, ⟨by omega, by omega⟩, ?_⟩
    intro x10 kx10 lx10 p11 p12
    try rw [wg1] at p11
    try rw [wg2] at p11
    try rw [wg3] at p11
    try rw [wg1] at p11
    try rw [wg2] at p11
    try rw [wg3] at p11
    try rw [wg1] at p12
    try rw [wg2] at p12
    try rw [wg3] at p12
    try rw [wg1] at p12
    try rw [wg2] at p12
    try rw [wg3] at p12
    refine And.intro ⟨by omega, by omega⟩ (And.intro (fun c13 => ?_) (fun c13 => ?_))
    · have K0 := KS.1 (by have := TF.2; omega)
      have K1 := KT.1 (by have := TT.2; omega)
      have eR : qRe B (qB B u (39 - a1).toNat) S s t = qCl B (qB B u (39 - a1).toNat) S s t := by unfold qRe; rw [if_neg (fun z => z K0.2), if_pos K1.2]
      rw [eR] at hQ
      clear eR
      unfold qCl at hQ
      rw [K0.1, K1.1] at hQ
      refine ⟨hk_X9_captured, hm_X9_captured hg d (by omega), _, _, _, _, _, qPa (yar B) s, B, S, rfl, ⟨by omega, by omega⟩, hp0, ⟨TF.1.2, by have := TF.2; omega⟩, ⟨QS.1, QS.2.1⟩, ⟨hT, hU, hV⟩, ?_⟩
      intro x14 m15 qm15 kx14 lx14 p16 p17 p18
      have T15 := rQt_x hT hp0.1 p17.1 (fun j a b => qm15.1 j (by omega) (zanyF (by simp <;> omega)))
      have z19 := zfx_t z0 qm15 rfl rfl
      have w20 : m15.1 66 ((46 : Nat) : Int) = g1 := (qm15.2.1 46 rfl).trans wg1
      have w21 : m15.1 66 ((75 : Nat) : Int) = g2 := (qm15.2.1 75 rfl).trans wg2
      have w22 : m15.1 66 ((74 : Nat) : Int) = g3 := (qm15.2.1 74 rfl).trans wg3
      have CP := p16
      have CX := p17
      have CF := zFs_x hp0.1 hp3 CX (qm15.1 84 (by decide) rfl) (fun a b c j e g => by rw [qm15.1 j (by omega) (zanyF (by simp <;> omega))])
      refine And.intro ⟨by omega, by omega⟩ (And.intro (fun c23 => ?_) (fun c23 => ?_))
      · obtain ⟨P0, ⟨PC, PC2⟩, PU, S1, PS, PV, PL, PR⟩ : 0 ≤ x14 ∧ (zCt m15 x14 ∧ m15.1 68 x14 = μ.1 68 x4) ∧ zUq m15 0 ∧ ∃ S1, qCp B S (μ.1 68 x4) (qPa (yar B) s) = some (S1, ycap (μ.1 66 ((45 : Nat) : Int)) (qPa (yar B) s)) ∧ rVs m15 S1 ∧ ((qPa (yar B) s).length : Int) = m15.1 69 x14 ∧ ∀ j : Nat, j < (qPa (yar B) s).length → rEf m15 (m15.1 70 (4 * x14 + j)) ((ycap (μ.1 66 ((45 : Nat) : Int)) (qPa (yar B) s)).getD j []) := by
          rcases p18 with h | h
          · exfalso; have := h.1; omega
          · exact h
        rw [PS] at hQ
        refine And.intro ⟨by omega, by omega⟩ ?_
        intro x24 hx24 kx24 lx24
        have V68 : x24 = μ.1 68 x5 := by rw [hx24]; exact (CX.1 x5 TT.1.1 TT.1.2).2.1
        have V20 := NT.2.2.1 (by have := TT.2; omega)
        refine ⟨hk_X9_aboveOf, hm_X9_aboveOf hg d (by omega), _, _, _, _, _, _, B, S1, ycap (μ.1 66 ((45 : Nat) : Int)) (qPa (yar B) s), rfl, ⟨by omega, by omega⟩, ⟨by omega, by omega⟩, CP, PC, ⟨T15, PU, PV⟩, ⟨by rw [ycap_l]; exact PL, fun j hj => PR j (by rw [ycap_l] at hj; exact hj)⟩, ?_⟩
        intro x25 m26 qm26 kx25 lx25 p27 p28 p29 p29u p29r
        rw [PC2, V68] at p29r
        have T26 := rQt_x T15 CP.1 p28.1 (fun j a b => qm26.1 j (by omega) (zanyF (by simp <;> omega)))
        have K26 : rKe μ m26 a1 := fun q a b j c e => by rw [qm26.1 j (by omega) (zanyF (by simp <;> omega)), qm15.1 j (by omega) (zanyF (by simp <;> omega))]
        have z30 := zfx_t z19 qm26 rfl rfl
        have w31 : m26.1 66 ((46 : Nat) : Int) = g1 := (qm26.2.1 46 rfl).trans w20
        have w32 : m26.1 66 ((75 : Nat) : Int) = g2 := (qm26.2.1 75 rfl).trans w21
        have w33 : m26.1 66 ((74 : Nat) : Int) = g3 := (qm26.2.1 74 rfl).trans w22
        clear w20 w21 w22
        have DX := zQx_t CX p28
        have DF := zFs_x CP.1 CF p28 (qm26.1 84 (by decide) rfl) (fun a b c j e g => by rw [qm26.1 j (by omega) (zanyF (by simp <;> omega))])
        refine And.intro ⟨⟨by omega, by omega⟩, ⟨by omega, by omega⟩⟩ (And.intro (fun c34 => ?_) (fun c34 => ?_))
        · refine And.intro ⟨by omega, by omega⟩ (And.intro (fun c35 => ?_) (fun c35 => ?_))
          · obtain ⟨P1, P2, S2, qs, P3, P4, P5, P6⟩ : 0 ≤ x25 ∧ B.2 2 (μ.1 68 x4) (μ.1 68 x5) ≠ [] ∧ ∃ S2 qs, qRs B S1 (μ.1 68 x4) (μ.1 68 x5) (ycap (μ.1 66 ((45 : Nat) : Int)) (qPa (yar B) s)) = some (S2, qs) ∧ rVs m26 S2 ∧ (qs.length : Int) = m26.1 69 x25 ∧ ∀ j : Nat, j < qs.length → rEf m26 (m26.1 70 (4 * x25 + j)) (qs.getD j []) := by
              rcases p29r with h | h | h
              · exfalso; have := h.1; omega
              · exfalso; have := h.1; omega
              · exact h
            simp only [if_neg P2, P3] at hQ
            refine And.intro ⟨by omega, by omega⟩ (And.intro ⟨by omega, by omega⟩ ?_)
            intro m36 em36
            have z37 := zfx_r z30 em36 rfl (by decide)
            have w38 : m36.1 66 ((46 : Nat) : Int) = g1 := by rw [em36]; exact (congrFun (zu_ne (by decide)) _).trans w31
            have w39 : m36.1 66 ((75 : Nat) : Int) = g2 := by rw [em36]; exact (congrFun (zu_ne (by decide)) _).trans w32
            have w40 : m36.1 66 ((74 : Nat) : Int) = g3 := by rw [em36]; exact (congrFun (zu_ne (by decide)) _).trans w33
            clear w31 w32 w33
            refine And.intro ⟨by omega, by omega⟩ (And.intro ⟨by omega, by omega⟩ ?_)
            intro m41 em41
            have z42 := zfx_r z37 em41 rfl (by decide)
            have w43 : m41.1 66 ((46 : Nat) : Int) = g1 := by rw [em41]; exact (congrFun (zu_ne (by decide)) _).trans w38
            have w44 : m41.1 66 ((75 : Nat) : Int) = g2 := by rw [em41]; exact (congrFun (zu_ne (by decide)) _).trans w39
            have w45 : m41.1 66 ((74 : Nat) : Int) = g3 := by rw [em41]; exact (congrFun (zu_ne (by decide)) _).trans w40
            clear w38 w39 w40
            refine And.intro ⟨by omega, by omega⟩ (And.intro ⟨by omega, by omega⟩ ?_)
            intro m46 em46
            have z47 := zfx_r z42 em46 rfl (by decide)
            have w48 : m46.1 66 ((46 : Nat) : Int) = g1 := by rw [em46]; exact (congrFun (zu_ne (by decide)) _).trans w43
            have w49 : m46.1 66 ((75 : Nat) : Int) = g2 := by rw [em46]; exact (congrFun (zu_ne (by decide)) _).trans w44
            have w50 : m46.1 66 ((74 : Nat) : Int) = g3 := by rw [em46]; exact (congrFun (zu_ne (by decide)) _).trans w45
            clear w43 w44 w45
            have W1 := zP_1 p27 DF em36 rfl (Or.inr (Or.inr rfl))
            have W2 := zP_1 W1.1 W1.2.1 em41 rfl (Or.inl rfl)
            have W3 := zP_1 W2.1 W2.2.1 em46 rfl (Or.inr (Or.inl rfl))
            have WY := zQx_t W1.2.2.1 (zQx_t W2.2.2.1 W3.2.2.1)
            have WX := zQx_t DX WY
            have W66 := W3.2.2.2.1.trans (W2.2.2.2.1.trans W1.2.2.2.1)
            have HQ : zCt m26 x25 ∧ m26.1 68 x25 = x24 := by rcases p29 with h | h | h <;> first | omega | exact h
            have WJ : ∀ j : Nat, j ≠ 93 → j ≠ 94 → j ≠ 95 → m46.1 j = m26.1 j := fun j a b c => (W3.2.2.2.2 j b).trans ((W2.2.2.2.2 j a).trans (W1.2.2.2.2 j c))
            have E93 : m46.1 93 a1 = 3 := by rw [em46, zu_ne (by decide), em41, zu_at]
            have E94 : m46.1 94 a1 = 0 := by rw [em46, zu_at]
            have E95 : m46.1 95 a1 = x25 := by rw [em46, zu_ne (by decide), em41, zu_ne (by decide), em36, zu_at]
            have E91 : m46.1 91 a1 = x4 := by rw [WJ 91 (by decide) (by decide) (by decide), qm26.1 91 (by decide) rfl, qm15.1 91 (by decide) rfl, hx4]
            have E92 : m46.1 92 a1 = x5 := by rw [WJ 92 (by decide) (by decide) (by decide), qm26.1 92 (by decide) rfl, qm15.1 92 (by decide) rfl, hx5]
            have FQ : zFq m46 a1 := by unfold zFq; rw [E91, E92, E93, E94, E95]; exact ⟨zTy_old TF WX.1 WX.2.1, zTy_old TT WX.1 WX.2.1, fun h => by omega, fun _ => ⟨zCt_old HQ.1 p27.1.1.2.1 WY.1 WY.2.1, by rw [(WX.1 x5 TT.1.1 TT.1.2).1]; have := TT.2; omega, by rw [WJ 68 (by decide) (by decide) (by decide), HQ.2, hx24, ← (p28.1 x5 (by have := TT.1; omega) (by have := TT.1; have := CX.2.1; omega)).2.1], by omega⟩⟩
            have X46 : zQx m26 m46 := WY
            have T46 := rQt_x T26 p27.1 X46.1 (fun j a b => WJ j (by omega) (by omega) (by omega))
            have U46 : zUq m46 0 := zUq_c p29u (fun j a b => WJ j (by omega) (by omega) (by omega)) (congrFun W66 _)
            have V46 : rVs m46 S2 := rVs_x P4 p27.1 X46 (by rw [W66]) (by rw [W66]) (by rw [W66])
            have K46 : rKe μ m46 a1 := rKe_t K26 (fun q a b j c e => by rw [em46]; by_cases h1 : j = 94 <;> first | (rw [h1, zu_nk (by omega), em41, zu_ne (by decide), em36, zu_ne (by decide)]) | (rw [zu_ne h1, em41]; by_cases h2 : j = 93 <;> first | (rw [h2, zu_nk (by omega), em36, zu_ne (by decide)]) | (rw [zu_ne h2, em36]; by_cases h3 : j = 95 <;> first | (rw [h3, zu_nk (by omega)]) | (rw [zu_ne h3]))))
            have nd := hp0.1.1.2.1
            have nq := p27.1.1.2.1 x25 HQ.1.1.1 HQ.1.1.2
            refine ⟨hk_X9_pairs, hm_X9_pairs hg d (by omega), _, _, _, _, _, B, S2, s, t, qs, rfl, ⟨by omega, by omega⟩, W3.1, (by rw [W66, qm26.2.1 46 rfl, qm15.2.1 46 rfl, qm26.2.1 74 rfl, qm15.2.1 74 rfl, qm26.2.1 75 rfl, qm15.2.1 75 rfl]; exact hp1), (by rw [W66, qm26.2.1 74 rfl, qm15.2.1 74 rfl]; exact hp2), W3.2.1, FQ, E93, ⟨T46, U46, V46⟩, ⟨by rw [E91]; exact rEf_old WX.1 nd TF.1.1 TF.1.2 hs, by rw [E92]; exact rEf_old WX.1 nd TT.1.1 TT.1.2 ht⟩, ⟨by rw [E95, WJ 69 (by decide) (by decide) (by decide)]; exact P5, fun j hj => by rw [E95, WJ 70 (by decide) (by decide) (by decide)]; exact rEf_c (fun j a b => WJ j (by omega) (by omega) (by omega)) (P6 j hj)⟩, ?_⟩
            intro x51 m52 qm52 kx51 lx51 p53 p54 p55 p56 p56r
            rw [E94, show ((0 : Int)).toNat = 0 from rfl, List.drop_zero, List.drop_zero, W66, qm26.2.1 75 rfl, qm15.2.1 75 rfl, hu] at p56r
            have z57 := zfx_t z47 qm52 rfl rfl
            have w58 : m52.1 66 ((75 : Nat) : Int) = g2 := (qm52.2.1 75 rfl).trans w49
            obtain ⟨g59, wg59⟩ : ∃ z : Int, m52.1 66 ((46 : Nat) : Int) = z := ⟨_, rfl⟩
            obtain ⟨g60, wg60⟩ : ∃ z : Int, m52.1 66 ((74 : Nat) : Int) = z := ⟨_, rfl⟩
            clear w48 w49 w50
            exact And.intro trivial (And.intro ⟨by omega, by omega⟩ (hQ _ _ z57 (by omega) (by omega) p53 (zQx_t WX p54) p55 (zAp_l p56 (by rw [W66, qm26.2.1 46 rfl, qm15.2.1 46 rfl])) (rSt_l p56r K46)))
          · obtain ⟨P2, P4⟩ : B.2 2 (μ.1 68 x4) (μ.1 68 x5) = [] ∧ rVs m26 S1 := by
              rcases p29r with h | h | h
              · exact h.2
              · exfalso; have := h.1; omega
              · exfalso; have := h.1; omega
            simp only [if_pos P2] at hQ
            exact And.intro trivial (And.intro ⟨by omega, by omega⟩ (hQ _ _ z30 (by omega) (by omega) p27 DX (by (try rw [w31]) <;> (try rw [w32]) <;> (try rw [w33]) <;> (try rw [wg1]) <;> (try rw [wg2]) <;> (try rw [wg3]) <;> omega) (zAp_01 (Or.inl rfl) (by rw [qm26.2.1 74 rfl, qm15.2.1 74 rfl]; exact hp2) (by rw [qm26.2.1 46 rfl, qm15.2.1 46 rfl]) DF) (rSt_01 (Or.inl rfl) T26 p29u K26 P4 rfl)))
        · refine And.intro ⟨by omega, by omega⟩ ?_
          intro m61 em61
          have z62 := zfx_f z30 em61 rfl
          have w63 : m61.1 66 ((46 : Nat) : Int) = g1 := by rw [em61]; exact (zu_nk (by decide)).trans w31
          have w64 : m61.1 66 ((75 : Nat) : Int) = g2 := by rw [em61]; exact (zu_nk (by decide)).trans w32
          have w65 : m61.1 66 ((74 : Nat) : Int) = g3 := by rw [em61]; exact (zu_nk (by decide)).trans w33
          clear w31 w32 w33
          obtain ⟨P2, P3⟩ : B.2 2 (μ.1 68 x4) (μ.1 68 x5) ≠ [] ∧ qRs B S1 (μ.1 68 x4) (μ.1 68 x5) (ycap (μ.1 66 ((45 : Nat) : Int)) (qPa (yar B) s)) = none := by
            rcases p29r with h | h | h
            · exfalso; have := h.1; omega
            · exact h.2
            · exfalso; have := h.1; omega
          simp only [if_neg P2, P3] at hQ
          have ES := zQS_fr (m' := m61) p27 (fun j a b => by rw [em61, zu_ne (by omega)]) (fun j a b => by rw [em61, zu_ne (by omega)]) (fun j a b => by rw [em61, zu_ne (by omega)]) (by rw [em61, zu_ne (by decide)]) (by rw [em61]; exact zu_nk (by decide)) (by rw [em61]; exact zu_nk (by decide)) (by rw [em61]; exact zu_nk (by decide)) (by rw [em61]; exact zu_nk (by decide))
          have EX := zQx_fr (c := m61) DX (fun j a b => by rw [em61, zu_ne (by omega)]) (fun j a b => by rw [em61, zu_ne (by omega)]) (by rw [em61]; exact zu_nk (by decide)) (by rw [em61]; exact zu_nk (by decide)) (by rw [em61]; exact zu_nk (by decide)) (by rw [em61]; exact zu_nk (by decide))
          exact And.intro trivial (And.intro ⟨by omega, by omega⟩ (hQ _ _ z62 (by omega) (by omega) ES EX (by (try rw [w63]) <;> (try rw [w64]) <;> (try rw [w65]) <;> (try rw [wg1]) <;> (try rw [wg2]) <;> (try rw [wg3]) <;> omega) zAp_3 (rSt_3 (by rw [em61, zu_at]) (show (-4 : Int) < 0 by decide))))
      · refine And.intro ⟨⟨by omega, by omega⟩, ⟨by omega, by omega⟩⟩ (And.intro (fun c66 => ?_) (fun c66 => ?_))
        · exfalso; omega
        · refine And.intro ⟨by omega, by omega⟩ ?_
          intro m67 em67
          have z68 := zfx_f z19 em67 rfl
          have w69 : m67.1 66 ((46 : Nat) : Int) = g1 := by rw [em67]; exact (zu_nk (by decide)).trans w20
          have w70 : m67.1 66 ((75 : Nat) : Int) = g2 := by rw [em67]; exact (zu_nk (by decide)).trans w21
          have w71 : m67.1 66 ((74 : Nat) : Int) = g3 := by rw [em67]; exact (zu_nk (by decide)).trans w22
          clear w20 w21 w22
          have P3 : qCp B S (μ.1 68 x4) (qPa (yar B) s) = none := by
            rcases p18 with h | h
            · exact h.2
            · exfalso; have := h.1; omega
          rw [P3] at hQ
          have ES := zQS_fr (m' := m67) CP (fun j a b => by rw [em67, zu_ne (by omega)]) (fun j a b => by rw [em67, zu_ne (by omega)]) (fun j a b => by rw [em67, zu_ne (by omega)]) (by rw [em67, zu_ne (by decide)]) (by rw [em67]; exact zu_nk (by decide)) (by rw [em67]; exact zu_nk (by decide)) (by rw [em67]; exact zu_nk (by decide)) (by rw [em67]; exact zu_nk (by decide))
          have EX := zQx_fr (c := m67) CX (fun j a b => by rw [em67, zu_ne (by omega)]) (fun j a b => by rw [em67, zu_ne (by omega)]) (by rw [em67]; exact zu_nk (by decide)) (by rw [em67]; exact zu_nk (by decide)) (by rw [em67]; exact zu_nk (by decide)) (by rw [em67]; exact zu_nk (by decide))
          exact And.intro trivial (And.intro ⟨by omega, by omega⟩ (hQ _ _ z68 (by omega) (by omega) ES EX (by (try rw [w69]) <;> (try rw [w70]) <;> (try rw [w71]) <;> (try rw [wg1]) <;> (try rw [wg2]) <;> (try rw [wg3]) <;> omega) zAp_3 (rSt_3 (by rw [em67, zu_at]) (show (-4 : Int) < 0 by decide))))
    · have K0 := KS.1 (by have := TF.2; omega)
      have K1 := KT.2 (by omega)
      exact And.intro trivial (And.intro ⟨by omega, by omega⟩ (hQ _ _ z0 (by omega) (by omega) hp0 (zQx_r _) (by (try rw [wg1]) <;> (try rw [wg2]) <;> (try rw [wg3]) <;> omega) (zAp_01 (Or.inl rfl) hp2 rfl hp3) (rSt_01 (Or.inl rfl) hT hU (rKe_r _ _) hV (by unfold qRe; rw [if_neg (fun z => z K0.2), if_neg K1]))))
  · refine And.intro ⟨by omega, by omega⟩ (And.intro ⟨by omega, by omega⟩ ?_)
    intro m72 em72
    have z73 := zfx_r z0 em72 rfl (by decide)
    have w74 : m72.1 66 ((46 : Nat) : Int) = g1 := by rw [em72]; exact (congrFun (zu_ne (by decide)) _).trans wg1
    have w75 : m72.1 66 ((75 : Nat) : Int) = g2 := by rw [em72]; exact (congrFun (zu_ne (by decide)) _).trans wg2
    have w76 : m72.1 66 ((74 : Nat) : Int) = g3 := by rw [em72]; exact (congrFun (zu_ne (by decide)) _).trans wg3
    refine And.intro ⟨by omega, by omega⟩ (And.intro ⟨by omega, by omega⟩ ?_)
    intro m77 em77
    have z78 := zfx_r z73 em77 rfl (by decide)
    have w79 : m77.1 66 ((46 : Nat) : Int) = g1 := by rw [em77]; exact (congrFun (zu_ne (by decide)) _).trans w74
    have w80 : m77.1 66 ((75 : Nat) : Int) = g2 := by rw [em77]; exact (congrFun (zu_ne (by decide)) _).trans w75
    have w81 : m77.1 66 ((74 : Nat) : Int) = g3 := by rw [em77]; exact (congrFun (zu_ne (by decide)) _).trans w76
    clear w74 w75 w76
    have W1 := zP_1 hp0 hp3 em72 rfl (Or.inl rfl)
    have W2 := zP_1 W1.1 W1.2.1 em77 rfl (Or.inr (Or.inl rfl))
    have WX := zQx_t W1.2.2.1 W2.2.2.1
    have W66 : m77.1 66 = μ.1 66 := W2.2.2.2.1.trans W1.2.2.2.1
    have WJ : ∀ j : Nat, j ≠ 93 → j ≠ 94 → m77.1 j = μ.1 j := fun j a b => (W2.2.2.2.2 j b).trans (W1.2.2.2.2 j a)
    refine ⟨zk_X9_boundOf2, zm_X9_boundOf2 hg d (by omega), _, _, rfl, ⟨by omega, by omega⟩, ⟨by omega, by omega⟩, (by rw [WJ 67 (by decide) (by decide), WJ 68 (by decide) (by decide)]; rcases (show μ.1 67 x4 = 2 ∨ μ.1 67 x4 = 1 by omega) with h | h <;> first | exact Or.inl h | exact Or.inr (NF.2.2.2.1 h)), (Or.inr (by omega)), ?_⟩
    intro x82 kx82 lx82 p83 p84 p85
    try rw [w79] at p83
    try rw [w80] at p83
    try rw [w81] at p83
    try rw [wg1] at p83
    try rw [wg2] at p83
    try rw [wg3] at p83
    try rw [w79] at p84
    try rw [w80] at p84
    try rw [w81] at p84
    try rw [wg1] at p84
    try rw [wg2] at p84
    try rw [wg3] at p84
    try rw [w79] at p85
    try rw [w80] at p85
    try rw [w81] at p85
    try rw [wg1] at p85
    try rw [wg2] at p85
    try rw [wg3] at p85
    have BN : zbn m77 x4 = zbn μ x4 := zbn_same (fun j a b => WJ j (by omega) (by omega))
    have B1 := p85
    have TB : zTy m77 x82 := by rw [p83]; exact zbo_ty W2.1.1 (zTy_old TF WX.1 WX.2.1) (by rw [WJ 67 (by decide) (by decide)]; omega) p84 ⟨by omega, by omega⟩
    have TB0 := TB.1
    have E93 : m77.1 93 a1 = 2 := by rw [em77, zu_ne (by decide), em72, zu_at]
    have E94 : m77.1 94 a1 = 1 := by rw [em77, zu_at]
    have FQ : zFq m77 a1 := by unfold zFq; rw [E93, E94, WJ 91 (by decide) (by decide), WJ 92 (by decide) (by decide), ← hx4, ← hx5]; exact ⟨zTy_old TF WX.1 WX.2.1, zTy_old TT WX.1 WX.2.1, fun _ => ⟨by rw [WJ 67 (by decide) (by decide)]; omega, p84, by omega, B1⟩, fun h => by omega⟩
    have FS1 := zFs_up W2.2.1 FQ (by omega)
    refine ⟨hk_X9_ask2, hm_X9_ask2 hg d (by omega), _, _, rfl, ⟨by omega, by omega⟩, ⟨by omega, by omega⟩, (by (try rw [w79]) <;> (try rw [w80]) <;> (try rw [w81]) <;> (try rw [wg1]) <;> (try rw [wg2]) <;> (try rw [wg3]) <;> omega), ?_⟩
    intro x86 m87 qm87 kx86 lx86 p88 p89 p90 p91 p91a p91b
    have KV := KS.2 (by omega)
    have T77 := rQt_x hT hp0.1 WX.1 (fun j a b => WJ j (by omega) (by omega))
    have U77 : zUq m77 0 := zUq_c hU (fun j a b => WJ j (by omega) (by omega)) (congrFun W66 _)
    have V77 : rVs m77 S := rVs_x hV hp0.1 WX (by rw [W66]) (by rw [W66]) (by rw [W66])
    have K77 : rKe μ m77 a1 := fun q a b j c e => by rw [em77]; by_cases h1 : j = 94 <;> first | (rw [h1, zu_nk (by omega), em72, zu_ne (by decide)]) | (rw [zu_ne h1, em72]; by_cases h2 : j = 93 <;> first | (rw [h2, zu_nk (by omega)]) | (rw [zu_ne h2]))
    have s77 : rEf m77 x4 s := rEf_c (fun j a b => WJ j (by omega) (by omega)) hs
    have BO := rBo T77 W2.1.1 V77 TF.1.1 (by have := WX.2.1; have := TF.1.2; omega) (by rw [WJ 67 (by decide) (by decide)]; omega) p85 s77
    have l0 : 0 < (qBo B S s).length := by have := BO.1; omega
    have B0 := BO.2 0 (by omega) (by omega)
    rw [← p83] at B0
    have D0 : qBo B S s = (qBo B S s).getD 0 [] :: (qBo B S s).drop 1 := by
      have q := drop_g (l := qBo B S s) (i := 0) (by omega) l0
      simpa using q
    have eR : qRe B (qB B u (39 - a1).toNat) S s t = qKr B (qB B u (39 - a1).toNat) (2, s, t, (qBo B S s).drop 1, []) (qB B u (39 - a1).toNat S ((qBo B S s).getD 0 []) t) := by
      unfold qRe
      rw [if_pos KV]
      conv => lhs; rw [D0]
      exact qBs_k
    rw [eR] at hQ
    have L77 : rFk m77 B S a1 (2, s, t, (qBo B S s).drop 1, []) := ⟨⟨by rw [E93]; rfl, (show (1 : Nat) ≤ 2 by decide), (show (2 : Nat) ≤ 3 by decide)⟩, ⟨by rw [WJ 91 (by decide) (by decide), ← hx4]; exact s77, by rw [WJ 92 (by decide) (by decide), ← hx5]; exact rEf_c (fun j a b => WJ j (by omega) (by omega)) ht⟩, fun _ => by rw [E94]; rfl, fun h => absurd (show (2 : Nat) = 3 from h) (by decide)⟩
    have RA := rSt_ask (μ := μ) (u := u) T77 W2.1.1 U77 V77 K77 ⟨by omega, by omega⟩ (by rw [W66]; exact hp2) L77 FQ TB (zTy_old TT WX.1 WX.2.1) B0 (rEf_c (fun j a b => WJ j (by omega) (by omega)) ht) (by rw [W66]; exact hu) (by rw [W66]; omega) qm87 p89 p90 p91 p91a p91b
    have z92 := zfx_t z78 qm87 rfl rfl
    have w93 : m87.1 66 ((75 : Nat) : Int) = g2 := (qm87.2.1 75 rfl).trans w80
    obtain ⟨g94, wg94⟩ : ∃ z : Int, m87.1 66 ((46 : Nat) : Int) = z := ⟨_, rfl⟩
    obtain ⟨g95, wg95⟩ : ∃ z : Int, m87.1 66 ((74 : Nat) : Int) = z := ⟨_, rfl⟩
    clear w79 w80 w81
    have A96 := zAp_ask (μ := μ) (d := a1) W2.1.1 FS1 (show m77.1 66 ((74 : Nat) : Int) = m77.1 66 ((74 : Nat) : Int) from rfl) (by rw [W66]; exact hp2) (by rw [W66]) TB (zTy_old TT WX.1 WX.2.1) (fun j a b c d => qm87.1 j a (zanyF (by simp <;> omega))) (qm87.2.1 8 rfl) (qm87.2.1 45 rfl) (qm87.2.1 48 rfl) (qm87.2.1 60 rfl) p89 p90 p91
    have ZS97 := zQS_ask W2.1 (fun j a b c d => qm87.1 j a (zanyF (by simp <;> omega))) (qm87.2.1 8 rfl) (qm87.2.1 45 rfl) (qm87.2.1 48 rfl) (qm87.2.1 60 rfl)
    have X98 := zQx_t WX A96.1
    refine And.intro ⟨by omega, by omega⟩ (And.intro (fun c99 => ?_) (fun c99 => ?_))
    · exact And.intro trivial (And.intro ⟨by omega, by omega⟩ (hQ _ _ z92 (by omega) (by omega) ZS97 X98 p88 zAp_3 (RA.1 (by omega))))
    · exact And.intro trivial (And.intro ⟨by omega, by omega⟩ (hQ _ _ z92 (by omega) (by omega) ZS97 X98 p88 (A96.2 (by omega)) (RA.2 (by omega))))
