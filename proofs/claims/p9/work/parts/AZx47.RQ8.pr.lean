/-! ### pairs of ARGS, by rows -/
def hk_X9_pairs : zC := fun As μ Q => ∃ (a1 : Int) (C : Int) (Pn : Int) (tt : Int) (K : Int) (B : yB) (S : qS) (s t : qR) (qs : List qR), As = [.inr (.inr (66, 66)), .inl a1] ∧ (0 ≤ a1 ∧ a1 ≤ 39) ∧ (zQS μ C Pn tt K) ∧ (0 ≤ μ.1 66 ((46 : Nat) : Int) ∧ μ.1 66 ((46 : Nat) : Int) ≤ μ.1 66 ((75 : Nat) : Int) ∧ μ.1 66 ((75 : Nat) : Int) ≤ 3000 ∧ 0 ≤ μ.1 66 ((74 : Nat) : Int) ∧ μ.1 66 ((74 : Nat) : Int) ≤ 40) ∧ (μ.1 66 ((74 : Nat) : Int) = a1 + 1) ∧ (zFs μ a1) ∧ (zFq μ a1) ∧ (μ.1 93 a1 = 3) ∧ (rQt μ B C Pn tt ∧ zUq μ 0 ∧ rVs μ S) ∧ (rEf μ (μ.1 91 a1) s ∧ rEf μ (μ.1 92 a1) t) ∧ ((qs.length : Int) = μ.1 69 (μ.1 95 a1) ∧ ∀ j : Nat, j < qs.length → rEf μ (μ.1 70 (4 * μ.1 95 a1 + j)) (qs.getD j [])) ∧ (∀ (v : Int) (μ' : zM), zfx [91, 92, 93, 94] [46, 47, 74, 76] μ μ' → 0 ≤ v → v ≤ 3 → (zQS μ' C Pn tt K) → (zQx μ μ') → (0 ≤ μ'.1 66 ((46 : Nat) : Int) ∧ μ'.1 66 ((46 : Nat) : Int) ≤ μ'.1 66 ((75 : Nat) : Int) ∧ μ'.1 66 ((75 : Nat) : Int) ≤ 3000 ∧ 0 ≤ μ'.1 66 ((74 : Nat) : Int) ∧ μ'.1 66 ((74 : Nat) : Int) ≤ 40) → (zAp μ μ' a1 v) → (rSt B (μ.1 66 ((75 : Nat) : Int)) C Pn tt μ μ' a1 v (qAs (qB B (μ.1 66 ((75 : Nat) : Int)) (39 - a1).toNat) (qs.drop (μ.1 94 a1).toNat) ((qPa (yar B) t).drop (μ.1 94 a1).toNat) S)) → Q (some (.inl v)) μ')
set_option maxHeartbeats 4000000 in
theorem hm_X9_pairs {g : zΓ} (hg : zg g) (d : Nat) (hd : 2 ≤ d) : zOk g d 167 hk_X9_pairs := by
  obtain ⟨d, rfl⟩ : ∃ d', d = d' + 1 := ⟨d - 1, by omega⟩
  refine zOk_loop hg (show mt_tab[167]? = some mt_X9_pairs from rfl) ([(14, [0, 1, 2, 3])], []) 111 rfl fun As μ Q hC => ?_
  obtain ⟨a1, C, Pn, tt, K, B, S, s, t, qs, rfl, ha1, hp0, hp1, hp2, hp3, hp4, hp5, ⟨hT, hU, hV⟩, ⟨hs, ht⟩, ⟨hq1, hq2⟩, hQ⟩ := hC
  obtain ⟨u, hu⟩ : ∃ u : Int, μ.1 66 ((75 : Nat) : Int) = u := ⟨_, rfl⟩
  rw [hu] at hQ
  have QT := rEf_qPa hT hp0.1 hp4.2.1.1.1 hp4.2.1.1.2 ht
  obtain ⟨g1, wg1⟩ : ∃ z : Int, μ.1 66 ((46 : Nat) : Int) = z := ⟨_, rfl⟩
  obtain ⟨g2, wg2⟩ : ∃ z : Int, μ.1 66 ((75 : Nat) : Int) = z := ⟨_, rfl⟩
  obtain ⟨g3, wg3⟩ : ∃ z : Int, μ.1 66 ((74 : Nat) : Int) = z := ⟨_, rfl⟩
  have z0 : zfx [91, 92, 93, 94] [46, 47, 74, 76] μ μ := zfx_x μ
  refine ⟨rfl, fun pc vs μ' n => ∃ (v1 : Int) (v2 : Int) (v3 : Int), vs = [.inr (.inr (66, 66)), .inl v1, .inl v2, .inl v3] ∧ zfx [91, 92, 93, 94] [46, 47, 74, 76] μ μ' ∧ (0 ≤ v1 ∧ v1 ≤ 39) ∧ (0 ≤ v2 ∧ v2 ≤ 19999) ∧ (0 ≤ v3 ∧ v3 ≤ 19999) ∧ (v1 = a1 ∧ v2 = μ.1 95 a1 ∧ v3 = μ.1 92 a1) ∧ (∀ j : Nat, j ≠ 94 → μ'.1 j = μ.1 j) ∧ (∀ q : Int, q ≠ a1 → μ'.1 94 q = μ.1 94 q) ∧ (0 ≤ μ'.1 94 a1) ∧ (qAs (qB B u (39 - a1).toNat) (qs.drop (μ.1 94 a1).toNat) ((qPa (yar B) t).drop (μ.1 94 a1).toNat) S = qAs (qB B u (39 - a1).toNat) (qs.drop (μ'.1 94 a1).toNat) ((qPa (yar B) t).drop (μ'.1 94 a1).toNat) S) ∧ n = (Int.toNat (10 - μ'.1 94 v1)), ?_, ?_, trivial⟩
  · refine And.intro ⟨by omega, by omega⟩ ?_
    intro x4 hx4 kx4 lx4
    refine And.intro ⟨by omega, by omega⟩ ?_
    intro x5 hx5 kx5 lx5
    refine Exists.intro (Int.toNat (10 - μ.1 94 a1)) ?_
    exact ⟨_, _, _, rfl, z0, ⟨by omega, by omega⟩, ⟨by omega, by omega⟩, ⟨by omega, by omega⟩, ⟨rfl, by omega, by omega⟩, (fun _ _ => rfl), (fun _ _ => rfl), (hp4.2.2.2 hp5).2.2.2, rfl, rfl⟩
  · intro vs m0 n hI
    clear z0
    obtain ⟨v1, v2, v3, rfl, z0, hv1, hv2, hv3, i0, i1, i2, i3, i3r, rfl⟩ := hI
    obtain ⟨j1, j2, j3⟩ := i0
    subst j1
    rw [← j2] at hq1 hq2
    rw [← j3] at ht QT
    rw [i3r] at hQ
    obtain ⟨g6, wg6⟩ : ∃ z : Int, m0.1 66 ((46 : Nat) : Int) = z := ⟨_, rfl⟩
    obtain ⟨g7, wg7⟩ : ∃ z : Int, m0.1 66 ((75 : Nat) : Int) = z := ⟨_, rfl⟩
    obtain ⟨g8, wg8⟩ : ∃ z : Int, m0.1 66 ((74 : Nat) : Int) = z := ⟨_, rfl⟩
    have H3 := hp4.2.2.2 hp5
    rw [← j2, ← j3] at H3
    have CN := zQI_cnt hp0.1 H3.1.1 (by have := hp4.2.1.1; rw [← j3] at this; exact this) H3.1.2.1 H3.2.1 H3.2.2.1
    have E66 := i1 66 (by decide)
    have T3 := hp4.2.1.1
    rw [← j3] at T3
    have ND3 := (hp0.1.1.2.1 v3 T3.1 T3.2)
    have ND2 := (hp0.1.1.2.1 v2 H3.1.1.1 H3.1.1.2)
    have E46 : m0.1 66 ((46 : Nat) : Int) = μ.1 66 ((46 : Nat) : Int) := by rw [E66]
    have E74 : m0.1 66 ((74 : Nat) : Int) = μ.1 66 ((74 : Nat) : Int) := by rw [E66]
    have E75 : m0.1 66 ((75 : Nat) : Int) = μ.1 66 ((75 : Nat) : Int) := by rw [E66]
    refine And.intro ⟨by omega, by omega⟩ ?_
    intro x9 hx9 kx9 lx9
    refine And.intro ⟨by omega, by omega⟩ ?_
    intro x10 hx10 kx10 lx10
    rw [show m0.1 69 = μ.1 69 from z0.1 69 (by decide) rfl] at hx10
    refine And.intro ⟨⟨by omega, by omega⟩, ⟨by omega, by omega⟩⟩ (And.intro (fun c11 => ?_) (fun c11 => ?_))
    · have PX := zP_ix hp0 hp3 hp4 hp5 (by omega) i1 i2 (by omega)
      have RS : rSt B u C Pn tt μ m0 v1 1 (qAs (qB B u (39 - v1).toNat) (qs.drop (m0.1 94 v1).toNat) ((qPa (yar B) t).drop (m0.1 94 v1).toNat) S) := rSt_01 (Or.inr rfl) (rQt_x hT hp0.1 PX.2.1.1 (fun j a b => i1 j (by omega))) (zUq_c hU (fun j a b => i1 j (by omega)) (congrFun E66 _)) (fun q a b j c e => by by_cases hj : j = 94 <;> first | (rw [hj]; exact i2 q (by omega)) | rw [i1 j hj]) (rVs_x hV hp0.1 PX.2.1 (by rw [E66]) (by rw [E66]) (by rw [E66])) (by rw [List.drop_eq_nil_of_le (show qs.length ≤ (m0.1 94 v1).toNat by omega), qAs_nil])
      exact And.intro trivial (And.intro ⟨by omega, by omega⟩ (hQ _ _ z0 (by omega) (by omega) PX.1 PX.2.1 (by (try rw [wg6]) <;> (try rw [wg7]) <;> (try rw [wg8]) <;> (try rw [wg1]) <;> (try rw [wg2]) <;> (try rw [wg3]) <;> omega) (zAp_01 (Or.inr rfl) (by rw [E66]; exact hp2) (by rw [E66]) (zFs_down PX.2.2 (by omega))) RS))
    · refine And.intro ⟨by omega, by omega⟩ ?_
      intro x12 hx12 kx12 lx12
      refine And.intro ⟨by omega, by omega⟩ ?_
      intro x13 hx13 kx13 lx13
      rw [show m0.1 70 = μ.1 70 from z0.1 70 (by decide) rfl] at hx13
      have TA := zTy_arg (i := x12) hp0.1 H3.1 ⟨by omega, by omega⟩ hx13
      refine And.intro ⟨by omega, by omega⟩ ?_
      intro x14 hx14 kx14 lx14
      refine And.intro ⟨by omega, by omega⟩ ?_
      intro x15 hx15 kx15 lx15
      rw [show m0.1 70 = μ.1 70 from z0.1 70 (by decide) rfl] at hx15
      have NB := ND3.2.1 x14 (by omega) (by omega)
      rw [show 4 * v3 + x14 = ((4 * v3) + x14) by omega, ← hx15] at NB
      refine And.intro ⟨by omega, by omega⟩ ?_
      intro x16 hx16 kx16 lx16
      refine And.intro ⟨by omega, by omega⟩ (And.intro ⟨by omega, by omega⟩ ?_)
      intro m17 em17
      have z18 := zfx_r z0 em17 rfl (by decide)
      have w19 : m17.1 66 ((46 : Nat) : Int) = g6 := by rw [em17]; exact (congrFun (zu_ne (by decide)) _).trans wg6
      have w20 : m17.1 66 ((75 : Nat) : Int) = g7 := by rw [em17]; exact (congrFun (zu_ne (by decide)) _).trans wg7
      have w21 : m17.1 66 ((74 : Nat) : Int) = g8 := by rw [em17]; exact (congrFun (zu_ne (by decide)) _).trans wg8
      have F1 : ∀ j : Nat, j ≠ 94 → m17.1 j = μ.1 j := fun j hj => by rw [em17, zu_ne hj]; exact i1 j hj
      have F2 : ∀ q : Int, q ≠ v1 → m17.1 94 q = μ.1 94 q := fun q hq => by rw [em17, zu_nk hq]; exact i2 q hq
      have F3 : m17.1 94 v1 = (x16 + 1) := by rw [em17, zu_at]
      have X17 := zP_ix hp0 hp3 hp4 hp5 (by omega) F1 F2 (by rw [F3]; omega)
      have T17 := rQt_x hT hp0.1 X17.2.1.1 (fun j a b => F1 j (by omega))
      have U17 : zUq m17 0 := zUq_c hU (fun j a b => F1 j (by omega)) (congrFun (F1 66 (by decide)) _)
      have V17 : rVs m17 S := rVs_x hV hp0.1 X17.2.1 (by rw [F1 66 (by decide)]) (by rw [F1 66 (by decide)]) (by rw [F1 66 (by decide)])
      have K17 : rKe μ m17 v1 := fun q a b j c e => by by_cases hj : j = 94 <;> first | (rw [hj]; exact F2 q (by omega)) | rw [F1 j hj]
      have l1 : x12.toNat < qs.length := by omega
      have l2 : x12.toNat < (qPa (yar B) t).length := by have := QT.1; omega
      have R1 : rEf μ x13 (qs.getD x12.toNat []) := by
        have q := hq2 x12.toNat l1
        rw [show ((x12.toNat : Nat) : Int) = x12 by omega] at q
        rw [hx13]; exact q
      have R2 : rEf μ x15 ((qPa (yar B) t).getD x12.toNat []) := by
        have q := QT.2.1 x12.toNat l2
        rw [show ((x12.toNat : Nat) : Int) = x14 by omega] at q
        rw [hx15]; exact q
      rw [show m0.1 94 v1 = x12 by omega, drop_g (by omega) l1, drop_g (by omega) l2] at hQ
      have L17 : rFk m17 B S v1 (3, s, t, qs.drop (x12 + 1).toNat, (qPa (yar B) t).drop (x12 + 1).toNat) := ⟨⟨by rw [F1 93 (by decide), hp5]; rfl, (show (1 : Nat) ≤ 3 by decide), (show (3 : Nat) ≤ 3 by decide)⟩, ⟨by rw [F1 91 (by decide)]; exact rEf_c (fun j a b => F1 j (by omega)) hs, by rw [F1 92 (by decide), ← j3]; exact rEf_c (fun j a b => F1 j (by omega)) ht⟩, fun h => absurd (show (3 : Nat) = 2 from h) (by decide), fun _ => ⟨qs, ⟨by rw [F1 95 (by decide), F1 69 (by decide), ← j2]; exact hq1, fun j hj => by rw [F1 95 (by decide), F1 70 (by decide), ← j2]; exact rEf_c (fun j a b => F1 j (by omega)) (hq2 j hj)⟩, by rw [F3, show x16 = x12 by omega], by rw [F3, show x16 = x12 by omega]⟩⟩
      have f17 : zFq m17 v1 := (X17.2.2 v1 (by omega) (by omega)).1
      refine And.intro ⟨by omega, by omega⟩ ?_
      intro x22 hx22 kx22 lx22
      rw [show m17.1 67 = μ.1 67 from z18.1 67 (by decide) rfl] at hx22
      refine And.intro ⟨⟨by omega, by omega⟩, ⟨by omega, by omega⟩⟩ (And.intro (fun c23 => ?_) (fun c23 => ?_))
      · refine And.intro ⟨by omega, by omega⟩ ?_
        intro x24 hx24 kx24 lx24
        rw [show m17.1 70 = μ.1 70 from z18.1 70 (by decide) rfl] at hx24
        refine And.intro ⟨by omega, by omega⟩ ?_
        intro x25 hx25 kx25 lx25
        rw [show m17.1 67 = μ.1 67 from z18.1 67 (by decide) rfl] at hx25
        refine And.intro ⟨⟨by omega, by omega⟩, ⟨by omega, by omega⟩⟩ (And.intro (fun c26 => ?_) (fun c26 => ?_))
        · exfalso; omega
        · have TU : zTy μ x24 := by rw [hx24]; exact zQI_wild hp0.1 ⟨NB.1, by omega⟩ (by omega)
          have PX := zP_ix hp0 hp3 hp4 hp5 (by omega) F1 F2 (by rw [F3]; omega)
          refine ⟨hk_X9_ask2, hm_X9_ask2 hg d (by omega), _, _, rfl, ⟨by omega, by omega⟩, ⟨by omega, by omega⟩, (by (try rw [w19]) <;> (try rw [w20]) <;> (try rw [w21]) <;> (try rw [wg6]) <;> (try rw [wg7]) <;> (try rw [wg8]) <;> (try rw [wg1]) <;> (try rw [wg2]) <;> (try rw [wg3]) <;> omega), ?_⟩
          intro x41 m42 qm42 kx41 lx41 p43 p44 p45 p46 p46a p46b
          have z47 := zfx_t z18 qm42 rfl rfl
          have w48 : m42.1 66 ((75 : Nat) : Int) = g7 := (qm42.2.1 75 rfl).trans w20
          obtain ⟨g49, wg49⟩ : ∃ z : Int, m42.1 66 ((46 : Nat) : Int) = z := ⟨_, rfl⟩
          obtain ⟨g50, wg50⟩ : ∃ z : Int, m42.1 66 ((74 : Nat) : Int) = z := ⟨_, rfl⟩
          clear w19 w20 w21
          have A51 := zAp_ask (μ := μ) (d := v1) PX.1.1 PX.2.2 (show m17.1 66 ((74 : Nat) : Int) = m17.1 66 ((74 : Nat) : Int) from rfl) (by rw [F1 66 (by decide)]; exact hp2) (by rw [F1 66 (by decide)]) (zTy_old TA PX.2.1.1 PX.2.1.2.1) (zTy_old TU PX.2.1.1 PX.2.1.2.1) (fun j a b c d => qm42.1 j a (zanyF (by simp <;> omega))) (qm42.2.1 8 rfl) (qm42.2.1 45 rfl) (qm42.2.1 48 rfl) (qm42.2.1 60 rfl) p44 p45 p46
          have ZS52 := zQS_ask PX.1 (fun j a b c d => qm42.1 j a (zanyF (by simp <;> omega))) (qm42.2.1 8 rfl) (qm42.2.1 45 rfl) (qm42.2.1 48 rfl) (qm42.2.1 60 rfl)
          have X53 := zQx_t PX.2.1 A51.1
          have KB : μ.1 67 x15 = 4 := by omega
          have RU : rEf μ x24 ((qPa (yar B) t).getD x12.toNat []).tail := by rw [hx24]; exact rEf_w1 R2 ((hp0.1.2.2.2.2.1 x15 NB.1 (by omega)).2.2.2.2.2 (by omega)).1
          have HB : ((qPa (yar B) t).getD x12.toNat []).headD 0 = 201 := by have q := rEf_hd R2; unfold rHf rHd at q; omega
          rw [qAs_up (B := B) (s := s) (t := t) HB] at hQ
          have RA := rSt_ask (μ := μ) (u := u) T17 X17.1.1 U17 V17 K17 ⟨by omega, by omega⟩ (by rw [F1 66 (by decide)]; exact hp2) L17 f17 (zTy_old TA PX.2.1.1 PX.2.1.2.1) (zTy_old TU PX.2.1.1 PX.2.1.2.1) (rEf_c (fun j a b => F1 j (by omega)) R1) (rEf_c (fun j a b => F1 j (by omega)) RU) (by rw [F1 66 (by decide)]; exact hu) (by rw [F1 66 (by decide)]; omega) qm42 p44 p45 p46 p46a p46b
          refine And.intro ⟨by omega, by omega⟩ (And.intro (fun c54 => ?_) (fun c54 => ?_))
          · exact And.intro trivial (And.intro ⟨by omega, by omega⟩ (hQ _ _ z47 (by omega) (by omega) ZS52 X53 p43 zAp_3 (RA.1 (by omega))))
          · exact And.intro trivial (And.intro ⟨by omega, by omega⟩ (hQ _ _ z47 (by omega) (by omega) ZS52 X53 p43 (A51.2 (by omega)) (RA.2 (by omega))))
      · refine And.intro ⟨by omega, by omega⟩ ?_
        intro x55 hx55 kx55 lx55
        rw [show m17.1 67 = μ.1 67 from z18.1 67 (by decide) rfl] at hx55
        refine And.intro ⟨⟨by omega, by omega⟩, ⟨by omega, by omega⟩⟩ (And.intro (fun c56 => ?_) (fun c56 => ?_))
        · refine And.intro ⟨by omega, by omega⟩ ?_
          intro x57 hx57 kx57 lx57
          rw [show m17.1 67 = μ.1 67 from z18.1 67 (by decide) rfl] at hx57
          refine And.intro ⟨⟨by omega, by omega⟩, ⟨by omega, by omega⟩⟩ (And.intro (fun c58 => ?_) (fun c58 => ?_))
          · refine Exists.intro (Int.toNat (10 - m17.1 94 v1)) (And.intro (by rw [F3]; omega) ?_)
            exact ⟨_, _, _, rfl, z18, ⟨by omega, by omega⟩, ⟨by omega, by omega⟩, ⟨by omega, by omega⟩, ⟨rfl, j2, j3⟩, F1, F2, (by rw [F3]; omega), (by rw [F3, show x16 = x12 by omega, i3r, show m0.1 94 v1 = x12 by omega, drop_g (by omega) l1, drop_g (by omega) l2, qAs_eq (Or.inl (by have q := rEf_hd R2; unfold rHf rHd at q; omega))]), rfl⟩
          · refine And.intro ⟨⟨by omega, by omega⟩, ⟨by omega, by omega⟩⟩ (And.intro (fun c59 => ?_) (fun c59 => ?_))
            · refine Exists.intro (Int.toNat (10 - m17.1 94 v1)) (And.intro (by rw [F3]; omega) ?_)
              exact ⟨_, _, _, rfl, z18, ⟨by omega, by omega⟩, ⟨by omega, by omega⟩, ⟨by omega, by omega⟩, ⟨rfl, j2, j3⟩, F1, F2, (by rw [F3]; omega), (by rw [F3, show x16 = x12 by omega, i3r, show m0.1 94 v1 = x12 by omega, drop_g (by omega) l1, drop_g (by omega) l2, qAs_eq (Or.inr ⟨fun z => by have := (rHf_w R2).mpr z; omega, by have e : x13 = x15 := (by omega); rw [← e] at R2; exact rEf_fn R1 R2⟩)]), rfl⟩
            · have NE : ¬ (qs.getD x12.toNat [] = (qPa (yar B) t).getD x12.toNat []) := fun z => by
                obtain ⟨wf, hA⟩ := rQt_A hT hp0.1
                rw [z] at R1
                obtain ⟨k1, E1⟩ := R1
                obtain ⟨k2, E2⟩ := R2
                have e := rCf_nd hU wf hA (k1 + k2) x13 x15 _ TA.1.1 TA.1.2 NB.1 (by omega) (rCf_le E1 (by omega)) (rCf_le E2 (by omega))
                omega
              rw [qAs_no ⟨fun z => by have := (rHf_w R2).mpr z; omega, NE⟩] at hQ
              clear c59 NE
              have PX := zP_ix hp0 hp3 hp4 hp5 (by omega) F1 F2 (by rw [F3]; omega)
              exact And.intro trivial (And.intro ⟨by omega, by omega⟩ (hQ _ _ z18 (by omega) (by omega) PX.1 PX.2.1 (by (try rw [w19]) <;> (try rw [w20]) <;> (try rw [w21]) <;> (try rw [wg6]) <;> (try rw [wg7]) <;> (try rw [wg8]) <;> (try rw [wg1]) <;> (try rw [wg2]) <;> (try rw [wg3]) <;> omega) (zAp_01 (Or.inl rfl) (by rw [F1 66 (by decide)]; exact hp2) (by rw [F1 66 (by decide)]) (zFs_down PX.2.2 (by omega))) (rSt_01 (Or.inl rfl) T17 U17 K17 V17 rfl)))
        · refine And.intro ⟨by omega, by omega⟩ ?_
          intro x60 hx60 kx60 lx60
          rw [show m17.1 70 = μ.1 70 from z18.1 70 (by decide) rfl] at hx60
          refine And.intro ⟨by omega, by omega⟩ ?_
          intro x61 hx61 kx61 lx61
          rw [show m17.1 67 = μ.1 67 from z18.1 67 (by decide) rfl] at hx61
          refine And.intro ⟨⟨by omega, by omega⟩, ⟨by omega, by omega⟩⟩ (And.intro (fun c62 => ?_) (fun c62 => ?_))
          · have TU : zTy μ x60 := by rw [hx60]; exact zQI_wild hp0.1 ⟨NB.1, by omega⟩ (by omega)
            have PX := zP_ix hp0 hp3 hp4 hp5 (by omega) F1 F2 (by rw [F3]; omega)
            refine ⟨hk_X9_ask2, hm_X9_ask2 hg d (by omega), _, _, rfl, ⟨by omega, by omega⟩, ⟨by omega, by omega⟩, (by (try rw [w19]) <;> (try rw [w20]) <;> (try rw [w21]) <;> (try rw [wg6]) <;> (try rw [wg7]) <;> (try rw [wg8]) <;> (try rw [wg1]) <;> (try rw [wg2]) <;> (try rw [wg3]) <;> omega), ?_⟩
            intro x63 m64 qm64 kx63 lx63 p65 p66 p67 p68 p68a p68b
            have z69 := zfx_t z18 qm64 rfl rfl
            have w70 : m64.1 66 ((75 : Nat) : Int) = g7 := (qm64.2.1 75 rfl).trans w20
            obtain ⟨g71, wg71⟩ : ∃ z : Int, m64.1 66 ((46 : Nat) : Int) = z := ⟨_, rfl⟩
            obtain ⟨g72, wg72⟩ : ∃ z : Int, m64.1 66 ((74 : Nat) : Int) = z := ⟨_, rfl⟩
            clear w19 w20 w21
            have A73 := zAp_ask (μ := μ) (d := v1) PX.1.1 PX.2.2 (show m17.1 66 ((74 : Nat) : Int) = m17.1 66 ((74 : Nat) : Int) from rfl) (by rw [F1 66 (by decide)]; exact hp2) (by rw [F1 66 (by decide)]) (zTy_old TU PX.2.1.1 PX.2.1.2.1) (zTy_old TA PX.2.1.1 PX.2.1.2.1) (fun j a b c d => qm64.1 j a (zanyF (by simp <;> omega))) (qm64.2.1 8 rfl) (qm64.2.1 45 rfl) (qm64.2.1 48 rfl) (qm64.2.1 60 rfl) p66 p67 p68
            have ZS74 := zQS_ask PX.1 (fun j a b c d => qm64.1 j a (zanyF (by simp <;> omega))) (qm64.2.1 8 rfl) (qm64.2.1 45 rfl) (qm64.2.1 48 rfl) (qm64.2.1 60 rfl)
            have X75 := zQx_t PX.2.1 A73.1
            have KB : μ.1 67 x15 = 5 := by omega
            have RU : rEf μ x60 ((qPa (yar B) t).getD x12.toNat []).tail := by rw [hx60]; exact rEf_w1 R2 ((hp0.1.2.2.2.2.1 x15 NB.1 (by omega)).2.2.2.2.2 (by omega)).1
            have HB : ((qPa (yar B) t).getD x12.toNat []).headD 0 = 202 := by have q := rEf_hd R2; unfold rHf rHd at q; omega
            rw [qAs_dn (B := B) (s := s) (t := t) HB] at hQ
            have RA := rSt_ask (μ := μ) (u := u) T17 X17.1.1 U17 V17 K17 ⟨by omega, by omega⟩ (by rw [F1 66 (by decide)]; exact hp2) L17 f17 (zTy_old TU PX.2.1.1 PX.2.1.2.1) (zTy_old TA PX.2.1.1 PX.2.1.2.1) (rEf_c (fun j a b => F1 j (by omega)) RU) (rEf_c (fun j a b => F1 j (by omega)) R1) (by rw [F1 66 (by decide)]; exact hu) (by rw [F1 66 (by decide)]; omega) qm64 p66 p67 p68 p68a p68b
            refine And.intro ⟨by omega, by omega⟩ (And.intro (fun c76 => ?_) (fun c76 => ?_))
            · exact And.intro trivial (And.intro ⟨by omega, by omega⟩ (hQ _ _ z69 (by omega) (by omega) ZS74 X75 p65 zAp_3 (RA.1 (by omega))))
            · exact And.intro trivial (And.intro ⟨by omega, by omega⟩ (hQ _ _ z69 (by omega) (by omega) ZS74 X75 p65 (A73.2 (by omega)) (RA.2 (by omega))))
          · exfalso; omega
