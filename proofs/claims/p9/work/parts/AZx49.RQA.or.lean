/-! ### opened, resumed, by rows -/
theorem qKr_1 {B : yB} {f : qF} {s t : qR} {r1 r2 : List qR} {S : qS} {v : Int} : qKr B f (1, s, t, r1, r2) (S, v) = if v = 0 then qRe B f S s t else (S, v) := by
  unfold qKr
  rw [if_pos rfl]
theorem qKr_2 {B : yB} {f : qF} {s t : qR} {r1 r2 : List qR} {S : qS} {v : Int} : qKr B f (2, s, t, r1, r2) (S, v) = if v = 0 then qBs f t r1 S else (S, v) := by
  unfold qKr
  rw [if_neg (show ¬ (2 : Nat) = 1 by decide), if_pos rfl]
theorem qKr_3 {B : yB} {f : qF} {s t : qR} {r1 r2 : List qR} {S : qS} {v : Int} : qKr B f (3, s, t, r1, r2) (S, v) = if v = 1 then qAs f r1 r2 S else (S, v) := by
  unfold qKr
  rw [if_neg (show ¬ (3 : Nat) = 1 by decide), if_neg (show ¬ (3 : Nat) = 2 by decide)]
def hk_X9_opened : zC := fun As μ Q => ∃ (a1 : Int) (C : Int) (Pn : Int) (tt : Int) (K : Int) (B : yB) (S : qS) (s t : qR), As = [.inr (.inr (66, 66)), .inl a1] ∧ (0 ≤ a1 ∧ a1 ≤ 39) ∧ (zQS μ C Pn tt K) ∧ (0 ≤ μ.1 66 ((46 : Nat) : Int) ∧ μ.1 66 ((46 : Nat) : Int) ≤ μ.1 66 ((75 : Nat) : Int) ∧ μ.1 66 ((75 : Nat) : Int) ≤ 3000 ∧ 0 ≤ μ.1 66 ((74 : Nat) : Int) ∧ μ.1 66 ((74 : Nat) : Int) ≤ 40) ∧ (μ.1 66 ((74 : Nat) : Int) = a1 + 1) ∧ (zFs μ a1) ∧ (zFw μ a1) ∧ (rQt μ B C Pn tt ∧ zUq μ 0 ∧ rVs μ S) ∧ (rEf μ (μ.1 91 a1) s ∧ rEf μ (μ.1 92 a1) t) ∧ (∀ (v : Int) (μ' : zM), zfx [67, 68, 69, 70, 71, 72, 73, 74, 88, 89, 90, 91, 92, 93, 94, 95, 97, 98, 99, 107] [8, 45, 46, 47, 48, 60, 74, 76] μ μ' → 0 ≤ v → v ≤ 3 → (zQS μ' C Pn tt K) → (zQx μ μ') → (0 ≤ μ'.1 66 ((46 : Nat) : Int) ∧ μ'.1 66 ((46 : Nat) : Int) ≤ μ'.1 66 ((75 : Nat) : Int) ∧ μ'.1 66 ((75 : Nat) : Int) ≤ 3000 ∧ 0 ≤ μ'.1 66 ((74 : Nat) : Int) ∧ μ'.1 66 ((74 : Nat) : Int) ≤ 40) → (zAp μ μ' a1 v) → (rSt B (μ.1 66 ((75 : Nat) : Int)) C Pn tt μ μ' a1 v (qIn B (μ.1 66 ((75 : Nat) : Int)) (39 - a1).toNat S s t)) → Q (some (.inl v)) μ')
set_option maxHeartbeats 4000000 in
theorem hm_X9_opened {g : zΓ} (hg : zg g) (d : Nat) (hd : 8 ≤ d) : zOk g d 168 hk_X9_opened := by
  obtain ⟨d, rfl⟩ : ∃ d', d = d' + 1 := ⟨d - 1, by omega⟩
  refine zOk_straight hg (show mt_tab[168]? = some mt_X9_opened from rfl) [] 64 rfl fun As μ Q hC => ?_
  obtain ⟨a1, C, Pn, tt, K, B, S, s, t, rfl, ha1, hp0, hp1, hp2, hp3, hp4, ⟨hT, hU, hV⟩, ⟨hs0, ht0⟩, hQ⟩ := hC
  obtain ⟨u, hu⟩ : ∃ u : Int, μ.1 66 ((75 : Nat) : Int) = u := ⟨_, rfl⟩
  rw [hu] at hQ
  obtain ⟨g1, wg1⟩ : ∃ z : Int, μ.1 66 ((46 : Nat) : Int) = z := ⟨_, rfl⟩
  obtain ⟨g2, wg2⟩ : ∃ z : Int, μ.1 66 ((75 : Nat) : Int) = z := ⟨_, rfl⟩
  obtain ⟨g3, wg3⟩ : ∃ z : Int, μ.1 66 ((74 : Nat) : Int) = z := ⟨_, rfl⟩
  refine ⟨rfl, ?_⟩
  have z0 : zfx [67, 68, 69, 70, 71, 72, 73, 74, 88, 89, 90, 91, 92, 93, 94, 95, 97, 98, 99, 107] [8, 45, 46, 47, 48, 60, 74, 76] μ μ := zfx_x μ
  refine And.intro ⟨by omega, by omega⟩ ?_
  intro x4 hx4 kx4 lx4
  refine And.intro ⟨by omega, by omega⟩ ?_
  intro x5 hx5 kx5 lx5
  have TF := hp4.1
  have TT := hp4.2
  rw [← hx4] at TF
  rw [← hx5] at TT
  have hs := hs0
  have ht := ht0
  rw [← hx4] at hs
  rw [← hx5] at ht
  have HT := rEf_hd ht
  refine And.intro ⟨⟨by omega, by omega⟩, ⟨by omega, by omega⟩⟩ (And.intro (fun c6 => ?_) (fun c6 => ?_))
  · have e : s = t := by have e0 : x4 = x5 := (by omega); rw [e0] at hs; exact rEf_fn hs ht
    exact And.intro trivial (And.intro ⟨by omega, by omega⟩ (hQ _ _ z0 (by omega) (by omega) hp0 (zQx_r _) (by (try rw [wg1]) <;> (try rw [wg2]) <;> (try rw [wg3]) <;> omega) (zAp_01 (Or.inr rfl) hp2 rfl hp3) (rSt_01 (Or.inr rfl) hT hU (rKe_r _ _) hV (by unfold qIn; rw [if_pos (Or.inl e)]))))
  · have N1 : ¬ s = t := fun z => by
      obtain ⟨wf, hA⟩ := rQt_A hT hp0.1
      rw [z] at hs
      obtain ⟨k1, E1⟩ := hs
      obtain ⟨k2, E2⟩ := ht
      have e := rCf_nd hU wf hA (k1 + k2) x4 x5 _ TF.1.1 TF.1.2 TT.1.1 TT.1.2 (rCf_le E1 (by omega)) (rCf_le E2 (by omega))
      omega
    clear c6
    refine And.intro ⟨by omega, by omega⟩ ?_
    intro x7 hx7 kx7 lx7
    refine And.intro ⟨⟨by omega, by omega⟩, ⟨by omega, by omega⟩⟩ (And.intro (fun c8 => ?_) (fun c8 => ?_))
    · have N2 : ¬ t = [0] := fun z => by
        obtain ⟨wf, hA⟩ := rQt_A hT hp0.1
        rw [z] at ht
        have E3 := rEf_of hT.2.2.2.1.2
        rw [← hx7] at E3
        obtain ⟨k1, E1⟩ := ht
        obtain ⟨k2, E2⟩ := E3
        have a0 := hT.2.2.2.1.1
        rw [← hx7] at a0
        have e := rCf_nd hU wf hA (k1 + k2) x5 x7 _ TT.1.1 TT.1.2 a0.1 (by have := hp0.1.2.2.1; omega) (rCf_le E1 (by omega)) (rCf_le E2 (by omega))
        omega
      have eN : qIn B u (39 - a1).toNat S s t = if qFl S t = [] then qRe B (qB B u (39 - a1).toNat) S s t else qKr B (qB B u (39 - a1).toNat) (1, s, t, [], []) (qB B u (39 - a1).toNat S s (qFl S t)) := by
        unfold qIn
        rw [if_neg (fun z => z.elim N1 N2)]
      rw [eN] at hQ
      clear c8
      refine And.intro ⟨by omega, by omega⟩ ?_
      intro x9 hx9 kx9 lx9
      refine And.intro ⟨⟨by omega, by omega⟩, ⟨by omega, by omega⟩⟩ (And.intro (fun c10 => ?_) (fun c10 => ?_))
      · have F0 : qFl S t = [] := by
          unfold qFl
          rw [if_neg (by unfold rHf rHd at HT; omega)]
        rw [if_pos F0] at hQ
        refine ⟨hk_X9_behindFloor, hm_X9_behindFloor hg d (by omega), _, _, _, _, _, B, S, s, t, rfl, ⟨by omega, by omega⟩, hp0, hp1, hp2, hp3, hp4, ⟨hT, hU, hV⟩, ⟨hs0, ht0⟩, ?_⟩
        intro x11 m12 qm12 kx11 lx11 p13 p14 p15 p16 p16r
        rw [hu] at p16r
        have z17 := zfx_t z0 qm12 rfl rfl
        have w18 : m12.1 66 ((75 : Nat) : Int) = g2 := (qm12.2.1 75 rfl).trans wg2
        obtain ⟨g19, wg19⟩ : ∃ z : Int, m12.1 66 ((46 : Nat) : Int) = z := ⟨_, rfl⟩
        obtain ⟨g20, wg20⟩ : ∃ z : Int, m12.1 66 ((74 : Nat) : Int) = z := ⟨_, rfl⟩
        exact And.intro trivial (And.intro ⟨by omega, by omega⟩ (hQ _ _ z17 (by omega) (by omega) p13 p14 p15 p16 p16r))
      · refine And.intro ⟨by omega, by omega⟩ ?_
        intro x21 hx21 kx21 lx21
        refine And.intro ⟨by omega, by omega⟩ ?_
        intro x22 hx22 kx22 lx22
        have PF := hx22
        have PV := hx21
        have FV0 := (hp0.1.2.2.2.2.1 x5 TT.1.1 TT.1.2).2.2.2.1 (by omega)
        have hH : t.headD 0 = 300 + μ.1 68 x5 ∧ 0 ≤ μ.1 68 x5 := by unfold rHf rHd at HT; omega
        have l45 := hV.1.2.2
        have V1 := (hV.2 (μ.1 68 x5).toNat (by omega)).1.2
        rw [show (((μ.1 68 x5).toNat : Nat) : Int) = μ.1 68 x5 by omega, ← PV, ← PF] at V1
        have eF : qFl S t = (S.2.2.getD (μ.1 68 x5).toNat ([], [])).2 := by
          unfold qFl
          rw [if_pos (by omega), hH.1, show 300 + μ.1 68 x5 - 300 = μ.1 68 x5 by omega]
        rw [← PV] at eF
        refine And.intro ⟨by omega, by omega⟩ (And.intro (fun c23 => ?_) (fun c23 => ?_))
        · have F0 : qFl S t = [] := by
            rw [eF]
            rcases V1 with q | q
            · exact q.1
            · exfalso; have := q.1; omega
          rw [if_pos F0] at hQ
          refine ⟨hk_X9_behindFloor, hm_X9_behindFloor hg d (by omega), _, _, _, _, _, B, S, s, t, rfl, ⟨by omega, by omega⟩, hp0, hp1, hp2, hp3, hp4, ⟨hT, hU, hV⟩, ⟨hs0, ht0⟩, ?_⟩
          intro x24 m25 qm25 kx24 lx24 p26 p27 p28 p29 p29r
          rw [hu] at p29r
          have z30 := zfx_t z0 qm25 rfl rfl
          have w31 : m25.1 66 ((75 : Nat) : Int) = g2 := (qm25.2.1 75 rfl).trans wg2
          obtain ⟨g32, wg32⟩ : ∃ z : Int, m25.1 66 ((46 : Nat) : Int) = z := ⟨_, rfl⟩
          obtain ⟨g33, wg33⟩ : ∃ z : Int, m25.1 66 ((74 : Nat) : Int) = z := ⟨_, rfl⟩
          exact And.intro trivial (And.intro ⟨by omega, by omega⟩ (hQ _ _ z30 (by omega) (by omega) p26 p27 p28 p29 p29r))
        · refine And.intro ⟨by omega, by omega⟩ (And.intro ⟨by omega, by omega⟩ ?_)
          intro m34 em34
          have z35 := zfx_r z0 em34 rfl (by decide)
          have w36 : m34.1 66 ((46 : Nat) : Int) = g1 := by rw [em34]; exact (congrFun (zu_ne (by decide)) _).trans wg1
          have w37 : m34.1 66 ((75 : Nat) : Int) = g2 := by rw [em34]; exact (congrFun (zu_ne (by decide)) _).trans wg2
          have w38 : m34.1 66 ((74 : Nat) : Int) = g3 := by rw [em34]; exact (congrFun (zu_ne (by decide)) _).trans wg3
          have W1 := zP_1 hp0 hp3 em34 rfl (Or.inl rfl)
          have E93 : m34.1 93 a1 = 1 := by rw [em34, zu_at]
          have FQ : zFq m34 a1 := by unfold zFq; rw [E93, W1.2.2.2.2 91 (by decide), W1.2.2.2.2 92 (by decide), ← hx4, ← hx5]; exact ⟨zTy_old TF W1.2.2.1.1 W1.2.2.1.2.1, zTy_old TT W1.2.2.1.1 W1.2.2.1.2.1, fun h => by omega, fun h => by omega⟩
          have FS1 := zFs_up W1.2.1 FQ (by omega)
          refine And.intro ⟨by omega, by omega⟩ ?_
          intro x39 hx39 kx39 lx39
          refine And.intro ⟨by omega, by omega⟩ ?_
          intro x40 hx40 kx40 lx40
          have VV : x39 = μ.1 68 x5 := by rw [hx39, W1.2.2.2.2 68 (by decide)]
          have FV := (hp0.1.2.2.2.2.1 x5 TT.1.1 TT.1.2).2.2.2.1 (by omega)
          have VF : x40 = μ.1 90 (μ.1 68 x5) := by rw [hx40, W1.2.2.2.2 90 (by decide), VV]
          have FLT : zTy μ x40 := by have hz : 0 ≤ x40 := (by rw [VF]; have h1 := PF; rw [PV] at h1; omega); rw [VF] at hz ⊢; exact (hp0.1.2.2.2.2.2.1 (μ.1 68 x5) (by omega) FV.1).2.2 hz
          have FL0 := FLT.1
          refine ⟨hk_X9_ask2, hm_X9_ask2 hg d (by omega), _, _, rfl, ⟨by omega, by omega⟩, ⟨by omega, by omega⟩, (by (try rw [w36]) <;> (try rw [w37]) <;> (try rw [w38]) <;> (try rw [wg1]) <;> (try rw [wg2]) <;> (try rw [wg3]) <;> omega), ?_⟩
          intro x41 m42 qm42 kx41 lx41 p43 p44 p45 p46 p46a p46b
          have RF : rEf μ x40 (qFl S t) := by
            rw [eF]
            rcases V1 with q | q
            · exfalso; have := q.2; omega
            · rw [show x40 = x22 by rw [VF, PF, PV]]; exact q.2
          have F0 : ¬ qFl S t = [] := fun z => by
            obtain ⟨hd, as, e1, -⟩ := rEf_h RF
            rw [z] at e1
            cases e1
          rw [if_neg F0] at hQ
          have c34 : ∀ j : Nat, j ≠ 93 → m34.1 j = μ.1 j := fun j hj => W1.2.2.2.2 j hj
          have E66 : m34.1 66 = μ.1 66 := W1.2.2.2.1
          have T34 := rQt_x hT hp0.1 W1.2.2.1.1 (fun j a b => c34 j (by omega))
          have U34 : zUq m34 0 := zUq_c hU (fun j a b => c34 j (by omega)) (congrFun E66 _)
          have V34 : rVs m34 S := rVs_x hV hp0.1 W1.2.2.1 (by rw [E66]) (by rw [E66]) (by rw [E66])
          have K34 : rKe μ m34 a1 := fun q a b j c e => by rw [em34]; by_cases h2 : j = 93 <;> first | (rw [h2, zu_nk (by omega)]) | (rw [zu_ne h2])
          have L34 : rFk m34 B S a1 (1, s, t, [], []) := ⟨⟨by rw [E93]; rfl, (show (1 : Nat) ≤ 1 by decide), (show (1 : Nat) ≤ 3 by decide)⟩, ⟨by rw [c34 91 (by decide), ← hx4]; exact rEf_c (fun j a b => c34 j (by omega)) hs, by rw [c34 92 (by decide), ← hx5]; exact rEf_c (fun j a b => c34 j (by omega)) ht⟩, fun h => absurd (show (1 : Nat) = 2 from h) (by decide), fun h => absurd (show (1 : Nat) = 3 from h) (by decide)⟩
          have RA := rSt_ask (μ := μ) (u := u) T34 W1.1.1 U34 V34 K34 ⟨by omega, by omega⟩ (by rw [E66]; exact hp2) L34 FQ (zTy_old TF W1.2.2.1.1 W1.2.2.1.2.1) (zTy_old FLT W1.2.2.1.1 W1.2.2.1.2.1) (rEf_c (fun j a b => c34 j (by omega)) hs) (rEf_c (fun j a b => c34 j (by omega)) RF) (by rw [E66]; exact hu) (by rw [E66]; omega) qm42 p44 p45 p46 p46a p46b
          have z47 := zfx_t z35 qm42 rfl rfl
          have w48 : m42.1 66 ((75 : Nat) : Int) = g2 := (qm42.2.1 75 rfl).trans w37
          obtain ⟨g49, wg49⟩ : ∃ z : Int, m42.1 66 ((46 : Nat) : Int) = z := ⟨_, rfl⟩
          obtain ⟨g50, wg50⟩ : ∃ z : Int, m42.1 66 ((74 : Nat) : Int) = z := ⟨_, rfl⟩
          clear w36 w37 w38
          have A51 := zAp_ask (μ := μ) (d := a1) W1.1.1 FS1 (show m34.1 66 ((74 : Nat) : Int) = m34.1 66 ((74 : Nat) : Int) from rfl) (by rw [W1.2.2.2.1]; exact hp2) (by rw [W1.2.2.2.1]) (zTy_old TF W1.2.2.1.1 W1.2.2.1.2.1) (zTy_old FLT W1.2.2.1.1 W1.2.2.1.2.1) (fun j a b c d => qm42.1 j a (zanyF (by simp <;> omega))) (qm42.2.1 8 rfl) (qm42.2.1 45 rfl) (qm42.2.1 48 rfl) (qm42.2.1 60 rfl) p44 p45 p46
          have ZS52 := zQS_ask W1.1 (fun j a b c d => qm42.1 j a (zanyF (by simp <;> omega))) (qm42.2.1 8 rfl) (qm42.2.1 45 rfl) (qm42.2.1 48 rfl) (qm42.2.1 60 rfl)
          have X53 := zQx_t W1.2.2.1 A51.1
          refine And.intro ⟨by omega, by omega⟩ (And.intro (fun c54 => ?_) (fun c54 => ?_))
          · exact And.intro trivial (And.intro ⟨by omega, by omega⟩ (hQ _ _ z47 (by omega) (by omega) ZS52 X53 p43 zAp_3 (RA.1 (by omega))))
          · exact And.intro trivial (And.intro ⟨by omega, by omega⟩ (hQ _ _ z47 (by omega) (by omega) ZS52 X53 p43 (A51.2 (by omega)) (RA.2 (by omega))))
    · have e : t = [0] := by
        have E3 := rEf_of hT.2.2.2.1.2
        rw [← hx7, show x7 = x5 by omega] at E3
        exact rEf_fn ht E3
      exact And.intro trivial (And.intro ⟨by omega, by omega⟩ (hQ _ _ z0 (by omega) (by omega) hp0 (zQx_r _) (by (try rw [wg1]) <;> (try rw [wg2]) <;> (try rw [wg3]) <;> omega) (zAp_01 (Or.inr rfl) hp2 rfl hp3) (rSt_01 (Or.inr rfl) hT hU (rKe_r _ _) hV (by unfold qIn; rw [if_pos (Or.inr e)]))))
def hk_X9_resumed : zC := fun As μ Q => ∃ (a1 : Int) (a2 : Int) (C : Int) (Pn : Int) (tt : Int) (K : Int) (B : yB) (S : qS) (k : qK), As = [.inr (.inr (66, 66)), .inl a1, .inl a2] ∧ (0 ≤ a1 ∧ a1 ≤ 39) ∧ (0 ≤ a2 ∧ a2 ≤ 1) ∧ (zQS μ C Pn tt K) ∧ (0 ≤ μ.1 66 ((46 : Nat) : Int) ∧ μ.1 66 ((46 : Nat) : Int) ≤ μ.1 66 ((75 : Nat) : Int) ∧ μ.1 66 ((75 : Nat) : Int) ≤ 3000 ∧ 0 ≤ μ.1 66 ((74 : Nat) : Int) ∧ μ.1 66 ((74 : Nat) : Int) ≤ 40) ∧ (μ.1 66 ((74 : Nat) : Int) = a1 + 1) ∧ (zFs μ a1) ∧ (zFq μ a1) ∧ (1 ≤ μ.1 93 a1) ∧ (rQt μ B C Pn tt ∧ zUq μ 0 ∧ rVs μ S) ∧ (rFk μ B S a1 k) ∧ (∀ (v : Int) (μ' : zM), zfx [67, 68, 69, 70, 71, 72, 73, 74, 88, 89, 90, 91, 92, 93, 94, 95, 97, 98, 99, 107] [8, 45, 46, 47, 48, 60, 74, 76] μ μ' → 0 ≤ v → v ≤ 3 → (zQS μ' C Pn tt K) → (zQx μ μ') → (0 ≤ μ'.1 66 ((46 : Nat) : Int) ∧ μ'.1 66 ((46 : Nat) : Int) ≤ μ'.1 66 ((75 : Nat) : Int) ∧ μ'.1 66 ((75 : Nat) : Int) ≤ 3000 ∧ 0 ≤ μ'.1 66 ((74 : Nat) : Int) ∧ μ'.1 66 ((74 : Nat) : Int) ≤ 40) → (zAp μ μ' a1 v) → (rSt B (μ.1 66 ((75 : Nat) : Int)) C Pn tt μ μ' a1 v (qKr B (qB B (μ.1 66 ((75 : Nat) : Int)) (39 - a1).toNat) k (S, a2))) → Q (some (.inl v)) μ')
set_option maxHeartbeats 4000000 in
theorem hm_X9_resumed {g : zΓ} (hg : zg g) (d : Nat) (hd : 8 ≤ d) : zOk g d 170 hk_X9_resumed := by
  obtain ⟨d, rfl⟩ : ∃ d', d = d' + 1 := ⟨d - 1, by omega⟩
  refine zOk_straight hg (show mt_tab[170]? = some mt_X9_resumed from rfl) [] 83 rfl fun As μ Q hC => ?_
  obtain ⟨a1, a2, C, Pn, tt, K, B, S, k, rfl, ha1, ha2, hp0, hp1, hp2, hp3, hp4, hp5, ⟨hT, hU, hV⟩, hF, hQ⟩ := hC
  obtain ⟨u, hu⟩ : ∃ u : Int, μ.1 66 ((75 : Nat) : Int) = u := ⟨_, rfl⟩
  rw [hu] at hQ
  obtain ⟨k1, s, t, r1, r2⟩ := k
  have f1 : ((k1 : Nat) : Int) = μ.1 93 a1 ∧ 1 ≤ k1 ∧ k1 ≤ 3 := hF.1
  have f4 : rEf μ (μ.1 91 a1) s ∧ rEf μ (μ.1 92 a1) t := hF.2.1
  have f6 : k1 = 2 → r1 = (qBo B S s).drop (μ.1 94 a1).toNat := hF.2.2.1
  have f7 : k1 = 3 → ∃ qs : List qR, ((qs.length : Int) = μ.1 69 (μ.1 95 a1) ∧ ∀ j : Nat, j < qs.length → rEf μ (μ.1 70 (4 * μ.1 95 a1 + j)) (qs.getD j [])) ∧ r1 = qs.drop (μ.1 94 a1).toNat ∧ r2 = (qPa (yar B) t).drop (μ.1 94 a1).toNat := hF.2.2.2
  obtain ⟨g1, wg1⟩ : ∃ z : Int, μ.1 66 ((46 : Nat) : Int) = z := ⟨_, rfl⟩
  obtain ⟨g2, wg2⟩ : ∃ z : Int, μ.1 66 ((75 : Nat) : Int) = z := ⟨_, rfl⟩
  obtain ⟨g3, wg3⟩ : ∃ z : Int, μ.1 66 ((74 : Nat) : Int) = z := ⟨_, rfl⟩
  refine ⟨rfl, ?_⟩
  have z0 : zfx [67, 68, 69, 70, 71, 72, 73, 74, 88, 89, 90, 91, 92, 93, 94, 95, 97, 98, 99, 107] [8, 45, 46, 47, 48, 60, 74, 76] μ μ := zfx_x μ
  refine And.intro ⟨by omega, by omega⟩ ?_
  intro x4 hx4 kx4 lx4
  refine And.intro ⟨⟨by omega, by omega⟩, ⟨by omega, by omega⟩⟩ (And.intro (fun c5 => ?_) (fun c5 => ?_))
  · refine And.intro ⟨by omega, by omega⟩ ?_
    intro x6 hx6 kx6 lx6
    refine And.intro ⟨⟨by omega, by omega⟩, ⟨by omega, by omega⟩⟩ (And.intro (fun c7 => ?_) (fun c7 => ?_))
    · refine And.intro ⟨by omega, by omega⟩ (And.intro (fun c8 => ?_) (fun c8 => ?_))
      · have e3 : k1 = 3 := by omega
        obtain ⟨qs, ⟨q1, q2⟩, q3, q4⟩ := f7 e3
        rw [e3, qKr_3, if_pos (by omega), q3, q4] at hQ
        refine ⟨hk_X9_pairs, hm_X9_pairs hg d (by omega), _, _, _, _, _, B, S, s, t, qs, rfl, ⟨by omega, by omega⟩, hp0, hp1, hp2, hp3, hp4, (by omega), ⟨hT, hU, hV⟩, f4, ⟨q1, q2⟩, ?_⟩
        intro x9 m10 qm10 kx9 lx9 p11 p12 p13 p14 p14r
        rw [hu] at p14r
        have z15 := zfx_t z0 qm10 rfl rfl
        have w16 : m10.1 66 ((75 : Nat) : Int) = g2 := (qm10.2.1 75 rfl).trans wg2
        obtain ⟨g17, wg17⟩ : ∃ z : Int, m10.1 66 ((46 : Nat) : Int) = z := ⟨_, rfl⟩
        obtain ⟨g18, wg18⟩ : ∃ z : Int, m10.1 66 ((74 : Nat) : Int) = z := ⟨_, rfl⟩
        exact And.intro trivial (And.intro ⟨by omega, by omega⟩ (hQ _ _ z15 (by omega) (by omega) p11 p12 p13 p14 p14r))
      · have e3 : k1 = 3 := by omega
        rw [e3, qKr_3, if_neg (by omega), show a2 = 0 by omega] at hQ
        exact And.intro trivial (And.intro ⟨by omega, by omega⟩ (hQ _ _ z0 (by omega) (by omega) hp0 (zQx_r _) (by (try rw [wg1]) <;> (try rw [wg2]) <;> (try rw [wg3]) <;> omega) (zAp_01 (Or.inl rfl) hp2 rfl hp3) (rSt_01 (Or.inl rfl) hT hU (rKe_r _ _) hV rfl)))
    · refine And.intro ⟨⟨by omega, by omega⟩, ⟨by omega, by omega⟩⟩ (And.intro (fun c19 => ?_) (fun c19 => ?_))
      · have H2 := hp4.2.2.1 (by omega)
        have e2 : k1 = 2 := by omega
        rw [e2, qKr_2, if_pos (show a2 = 0 by omega), f6 e2] at hQ
        have T0 := hp4.1.1
        refine And.intro ⟨by omega, by omega⟩ ?_
        intro x20 hx20 kx20 lx20
        refine And.intro ⟨by omega, by omega⟩ ?_
        intro x21 hx21 kx21 lx21
        refine ⟨zk_X9_boundsOf, zm_X9_boundsOf hg d (by omega), _, rfl, ⟨by omega, by omega⟩, (by have h1 := H2.1; rw [← hx21] at h1; have h2 := hp4.1.1; rw [← hx21] at h2; rcases h1 with h | h <;> first | exact Or.inl h | exact Or.inr ((hp0.1.1.2.1 x21 h2.1 h2.2).2.2.2.1 h)), ?_⟩
        intro x22 kx22 lx22 p23 p24
        try rw [wg1] at p23
        try rw [wg2] at p23
        try rw [wg3] at p23
        try rw [wg1] at p23
        try rw [wg2] at p23
        try rw [wg3] at p23
        try rw [wg1] at p24
        try rw [wg2] at p24
        try rw [wg3] at p24
        try rw [wg1] at p24
        try rw [wg2] at p24
        try rw [wg3] at p24
        refine And.intro ⟨⟨by omega, by omega⟩, ⟨by omega, by omega⟩⟩ (And.intro (fun c25 => ?_) (fun c25 => ?_))
        · rw [← hx21] at H2
          refine And.intro ⟨by omega, by omega⟩ ?_
          intro x26 hx26 kx26 lx26
          refine And.intro ⟨by omega, by omega⟩ (And.intro ⟨by omega, by omega⟩ ?_)
          intro m27 em27
          have z28 := zfx_r z0 em27 rfl (by decide)
          have w29 : m27.1 66 ((46 : Nat) : Int) = g1 := by rw [em27]; exact (congrFun (zu_ne (by decide)) _).trans wg1
          have w30 : m27.1 66 ((75 : Nat) : Int) = g2 := by rw [em27]; exact (congrFun (zu_ne (by decide)) _).trans wg2
          have w31 : m27.1 66 ((74 : Nat) : Int) = g3 := by rw [em27]; exact (congrFun (zu_ne (by decide)) _).trans wg3
          have W1 := zP_1 hp0 hp3 em27 rfl (Or.inr (Or.inl rfl))
          have BN : zbn m27 x21 = zbn μ x21 := zbn_same (fun j a b => W1.2.2.2.2 j (by omega))
          have E94 : m27.1 94 a1 = (x26 + 1) := by rw [em27, zu_at]
          have HX : zTy μ x21 := by rw [hx21]; exact hp4.1
          have FQ : zFq m27 a1 := by unfold zFq; rw [E94, W1.2.2.2.2 91 (by decide), W1.2.2.2.2 92 (by decide), W1.2.2.2.2 93 (by decide), W1.2.2.2.2 67 (by decide), W1.2.2.2.2 68 (by decide), ← hx21, BN]; exact ⟨zTy_old HX W1.2.2.1.1 W1.2.2.1.2.1, zTy_old hp4.2.1 W1.2.2.1.1 W1.2.2.1.2.1, fun _ => ⟨H2.1, H2.2.1, by omega, by omega⟩, fun h => by omega⟩
          have FS1 := zFs_up W1.2.1 FQ (by rw [W1.2.2.2.2 93 (by decide)]; omega)
          refine And.intro ⟨by omega, by omega⟩ ?_
          intro x32 hx32 kx32 lx32
          rw [W1.2.2.2.2 91 (by decide), ← hx21] at hx32
          refine And.intro ⟨by omega, by omega⟩ ?_
          intro x33 hx33 kx33 lx33
          rw [E94] at hx33
          refine ⟨zk_X9_boundOf2, zm_X9_boundOf2 hg d (by omega), _, _, rfl, ⟨by omega, by omega⟩, ⟨by omega, by omega⟩, (by rw [hx32, W1.2.2.2.2 67 (by decide), W1.2.2.2.2 68 (by decide)]; rcases H2.1 with h | h <;> first | exact Or.inl h | exact Or.inr ((hp0.1.1.2.1 x21 HX.1.1 HX.1.2).2.2.2.1 h)), (by rw [hx32, W1.2.2.2.2 67 (by decide)]; rcases H2.1 with h | h <;> first | exact Or.inl h | exact Or.inr (by have := p23 (by omega); omega)), ?_⟩
          intro x34 kx34 lx34 p35 p36 p37
          try rw [w29] at p35
          try rw [w30] at p35
          try rw [w31] at p35
          try rw [wg1] at p35
          try rw [wg2] at p35
          try rw [wg3] at p35
          try rw [w29] at p36
          try rw [w30] at p36
          try rw [w31] at p36
          try rw [wg1] at p36
          try rw [wg2] at p36
          try rw [wg3] at p36
          try rw [w29] at p37
          try rw [w30] at p37
          try rw [w31] at p37
          try rw [wg1] at p37
          try rw [wg2] at p37
          try rw [wg3] at p37
          have TB : zTy m27 x34 := by rw [p35, hx32]; exact zbo_ty W1.1.1 (zTy_old HX W1.2.2.1.1 W1.2.2.1.2.1) (by rw [W1.2.2.2.2 67 (by decide)]; exact H2.1) (by rw [W1.2.2.2.2 68 (by decide)]; exact H2.2.1) ⟨by omega, by omega⟩
          have TB0 := TB.1
          refine And.intro ⟨by omega, by omega⟩ ?_
          intro x38 hx38 kx38 lx38
          rw [W1.2.2.2.2 92 (by decide)] at hx38
          have TT : zTy μ x38 := by rw [hx38]; exact hp4.2.1
          refine ⟨hk_X9_ask2, hm_X9_ask2 hg d (by omega), _, _, rfl, ⟨by omega, by omega⟩, ⟨by omega, by omega⟩, (by (try rw [w29]) <;> (try rw [w30]) <;> (try rw [w31]) <;> (try rw [wg1]) <;> (try rw [wg2]) <;> (try rw [wg3]) <;> omega), ?_⟩
          intro x39 m40 qm40 kx39 lx39 p41 p42 p43 p44 p44a p44b
          have c27 : ∀ j : Nat, j ≠ 94 → m27.1 j = μ.1 j := fun j hj => W1.2.2.2.2 j hj
          have E66 : m27.1 66 = μ.1 66 := W1.2.2.2.1
          have T27 := rQt_x hT hp0.1 W1.2.2.1.1 (fun j a b => c27 j (by omega))
          have U27 : zUq m27 0 := zUq_c hU (fun j a b => c27 j (by omega)) (congrFun E66 _)
          have V27 : rVs m27 S := rVs_x hV hp0.1 W1.2.2.1 (by rw [E66]) (by rw [E66]) (by rw [E66])
          have K27 : rKe μ m27 a1 := fun q a b j c e => by rw [em27]; by_cases h2 : j = 94 <;> first | (rw [h2, zu_nk (by omega)]) | (rw [zu_ne h2])
          have s27 : rEf m27 x21 s := by rw [hx21]; exact rEf_c (fun j a b => c27 j (by omega)) f4.1
          have t27 : rEf m27 x38 t := by rw [hx38]; exact rEf_c (fun j a b => c27 j (by omega)) f4.2
          have BO := rBo T27 W1.1.1 V27 HX.1.1 (by have := W1.2.2.1.2.1; have := HX.1.2; omega) (by rw [c27 67 (by decide)]; exact H2.1) (by rw [BN]; omega) s27
          have B0 := BO.2 x26 (by omega) (by omega)
          rw [show zbo m27 x21 x26 = x34 by rw [p35, hx32]; exact congrArg (zbo m27 x21) (by omega)] at B0
          have l0 : x26.toNat < (qBo B S s).length := by have := BO.1; omega
          rw [show μ.1 94 a1 = x26 by omega, drop_g (by omega) l0, qBs_k (B := B) (s := s)] at hQ
          have L27 : rFk m27 B S a1 (2, s, t, (qBo B S s).drop (x26 + 1).toNat, []) := ⟨⟨by rw [c27 93 (by decide), ← f1.1, e2], (show (1 : Nat) ≤ 2 by decide), (show (2 : Nat) ≤ 3 by decide)⟩, ⟨by rw [c27 91 (by decide), ← hx21]; exact s27, by rw [c27 92 (by decide), ← hx38]; exact t27⟩, fun _ => by rw [E94], fun h => absurd (show (2 : Nat) = 3 from h) (by decide)⟩
          have RA := rSt_ask (μ := μ) (u := u) T27 W1.1.1 U27 V27 K27 ⟨by omega, by omega⟩ (by rw [E66]; exact hp2) L27 FQ TB (zTy_old TT W1.2.2.1.1 W1.2.2.1.2.1) B0 t27 (by rw [E66]; exact hu) (by rw [E66]; omega) qm40 p42 p43 p44 p44a p44b
          have z45 := zfx_t z28 qm40 rfl rfl
          have w46 : m40.1 66 ((75 : Nat) : Int) = g2 := (qm40.2.1 75 rfl).trans w30
          obtain ⟨g47, wg47⟩ : ∃ z : Int, m40.1 66 ((46 : Nat) : Int) = z := ⟨_, rfl⟩
          obtain ⟨g48, wg48⟩ : ∃ z : Int, m40.1 66 ((74 : Nat) : Int) = z := ⟨_, rfl⟩
          clear w29 w30 w31
          have A49 := zAp_ask (μ := μ) (d := a1) W1.1.1 FS1 (show m27.1 66 ((74 : Nat) : Int) = m27.1 66 ((74 : Nat) : Int) from rfl) (by rw [W1.2.2.2.1]; exact hp2) (by rw [W1.2.2.2.1]) TB (zTy_old TT W1.2.2.1.1 W1.2.2.1.2.1) (fun j a b c d => qm40.1 j a (zanyF (by simp <;> omega))) (qm40.2.1 8 rfl) (qm40.2.1 45 rfl) (qm40.2.1 48 rfl) (qm40.2.1 60 rfl) p42 p43 p44
          have ZS50 := zQS_ask W1.1 (fun j a b c d => qm40.1 j a (zanyF (by simp <;> omega))) (qm40.2.1 8 rfl) (qm40.2.1 45 rfl) (qm40.2.1 48 rfl) (qm40.2.1 60 rfl)
          have X51 := zQx_t W1.2.2.1 A49.1
          refine And.intro ⟨by omega, by omega⟩ (And.intro (fun c52 => ?_) (fun c52 => ?_))
          · exact And.intro trivial (And.intro ⟨by omega, by omega⟩ (hQ _ _ z45 (by omega) (by omega) ZS50 X51 p41 zAp_3 (RA.1 (by omega))))
          · exact And.intro trivial (And.intro ⟨by omega, by omega⟩ (hQ _ _ z45 (by omega) (by omega) ZS50 X51 p41 (A49.2 (by omega)) (RA.2 (by omega))))
        · have BO := rBo (s := s) hT hp0.1 hV (by omega) (by rw [hx21]; exact T0.2) (by rw [hx21]; exact H2.1) (by omega) (by rw [hx21]; exact f4.1)
          rw [List.drop_eq_nil_of_le (show (qBo B S s).length ≤ (μ.1 94 a1).toNat by have := BO.1; omega), qBs] at hQ
          exact And.intro trivial (And.intro ⟨by omega, by omega⟩ (hQ _ _ z0 (by omega) (by omega) hp0 (zQx_r _) (by (try rw [wg1]) <;> (try rw [wg2]) <;> (try rw [wg3]) <;> omega) (zAp_01 (Or.inl rfl) hp2 rfl hp3) (rSt_01 (Or.inl rfl) hT hU (rKe_r _ _) hV rfl)))
      · have e2 : k1 = 2 := by omega
        rw [e2, qKr_2, if_neg (show ¬ a2 = 0 by omega), show a2 = 1 by omega] at hQ
        exact And.intro trivial (And.intro ⟨by omega, by omega⟩ (hQ _ _ z0 (by omega) (by omega) hp0 (zQx_r _) (by (try rw [wg1]) <;> (try rw [wg2]) <;> (try rw [wg3]) <;> omega) (zAp_01 (Or.inr rfl) hp2 rfl hp3) (rSt_01 (Or.inr rfl) hT hU (rKe_r _ _) hV rfl)))
  · refine And.intro ⟨⟨by omega, by omega⟩, ⟨by omega, by omega⟩⟩ (And.intro (fun c53 => ?_) (fun c53 => ?_))
    · have e1 : k1 = 1 := by omega
      rw [e1, qKr_1, if_pos (show a2 = 0 by omega)] at hQ
      refine ⟨hk_X9_behindFloor, hm_X9_behindFloor hg d (by omega), _, _, _, _, _, B, S, s, t, rfl, ⟨by omega, by omega⟩, hp0, hp1, hp2, hp3, ⟨hp4.1, hp4.2.1⟩, ⟨hT, hU, hV⟩, f4, ?_⟩
      intro x54 m55 qm55 kx54 lx54 p56 p57 p58 p59 p59r
      rw [hu] at p59r
      have z60 := zfx_t z0 qm55 rfl rfl
      have w61 : m55.1 66 ((75 : Nat) : Int) = g2 := (qm55.2.1 75 rfl).trans wg2
      obtain ⟨g62, wg62⟩ : ∃ z : Int, m55.1 66 ((46 : Nat) : Int) = z := ⟨_, rfl⟩
      obtain ⟨g63, wg63⟩ : ∃ z : Int, m55.1 66 ((74 : Nat) : Int) = z := ⟨_, rfl⟩
      exact And.intro trivial (And.intro ⟨by omega, by omega⟩ (hQ _ _ z60 (by omega) (by omega) p56 p57 p58 p59 p59r))
    · have e1 : k1 = 1 := by omega
      rw [e1, qKr_1, if_neg (show ¬ a2 = 0 by omega), show a2 = 1 by omega] at hQ
      exact And.intro trivial (And.intro ⟨by omega, by omega⟩ (hQ _ _ z0 (by omega) (by omega) hp0 (zQx_r _) (by (try rw [wg1]) <;> (try rw [wg2]) <;> (try rw [wg3]) <;> omega) (zAp_01 (Or.inr rfl) hp2 rfl hp3) (rSt_01 (Or.inr rfl) hT hU (rKe_r _ _) hV rfl)))
