/-! ### questions, by rows -/
/-- a question stands at the top -/
def rQ2 (m : zM) (B : yB) (u : Int) (W : qS × Int) : Prop := ∃ (ks : List qK) (S : qS) (s t : qR), (ks.length : Int) = m.1 66 ((74 : Nat) : Int) - 1 ∧ rVs m S ∧ rPl m B S ks ∧ (rEf m (m.1 91 (m.1 66 ((74 : Nat) : Int) - 1)) s ∧ rEf m (m.1 92 (m.1 66 ((74 : Nat) : Int) - 1)) t) ∧ W = qKs B u ks (41 - m.1 66 ((74 : Nat) : Int)).toNat (qIn B u (40 - m.1 66 ((74 : Nat) : Int)).toNat S s t)
/-- one has been answered -/
def rQ1 (m : zM) (B : yB) (u v : Int) (W : qS × Int) : Prop := ∃ (ks : List qK) (S : qS), (ks.length : Int) = m.1 66 ((74 : Nat) : Int) ∧ rVs m S ∧ rPl m B S ks ∧ W = qKs B u ks (40 - m.1 66 ((74 : Nat) : Int)).toNat (S, v)
theorem rFk_c {μ m : zM} {B : yB} {S : qS} {q : Int} {k : qK} (h : rFk μ B S q k) (hc : ∀ j : Nat, j ≠ 66 → m.1 j = μ.1 j) : rFk m B S q k := by
  obtain ⟨h1, h2, h3, h4⟩ := h
  unfold rFk
  rw [hc 91 (by decide), hc 92 (by decide), hc 93 (by decide), hc 94 (by decide), hc 95 (by decide), hc 69 (by decide), hc 70 (by decide)]
  refine ⟨h1, ⟨rEf_c (fun j a b => hc j (by omega)) h2.1, rEf_c (fun j a b => hc j (by omega)) h2.2⟩, h3, fun e => ?_⟩
  obtain ⟨qs, ⟨g1, g2⟩, g3, g4⟩ := h4 e
  exact ⟨qs, ⟨g1, fun j hj => rEf_c (fun j a b => hc j (by omega)) (g2 j hj)⟩, g3, g4⟩
theorem rPl_c {μ m : zM} {B : yB} {S : qS} (hc : ∀ j : Nat, j ≠ 66 → m.1 j = μ.1 j) : ∀ ks : List qK, rPl μ B S ks → rPl m B S ks
  | [], _ => trivial
  | k :: ks, h => ⟨rFk_c h.1 hc, rPl_c hc ks h.2⟩
theorem rVs_c {μ m : zM} {S : qS} (h : rVs μ S) (hc : ∀ j : Nat, j ≠ 66 → m.1 j = μ.1 j) (f45 : m.1 66 ((45 : Nat) : Int) = μ.1 66 ((45 : Nat) : Int)) (f46 : m.1 66 ((46 : Nat) : Int) = μ.1 66 ((46 : Nat) : Int)) (f48 : m.1 66 ((48 : Nat) : Int) = μ.1 66 ((48 : Nat) : Int)) : rVs m S := by
  refine ⟨by rw [f45, f46, f48]; exact h.1, fun k hk => ⟨?_, (h.2 k hk).2⟩⟩
  obtain ⟨⟨h1, h2⟩, h3⟩ := (h.2 k hk).1
  unfold rV1
  rw [hc 88 (by decide), hc 89 (by decide), hc 90 (by decide)]
  refine ⟨⟨h1, fun i hi => rEf_c (fun j a b => hc j (by omega)) (h2 i hi)⟩, ?_⟩
  rcases h3 with q | ⟨q1, q2⟩
  · exact Or.inl q
  · exact Or.inr ⟨q1, rEf_c (fun j a b => hc j (by omega)) q2⟩
/-- what comes behind a step -/
theorem rQ_next {m m' : zM} {B : yB} {u C Pn tt d v : Int} {S : qS} {R W : qS × Int} {ks : List qK} (h : rSt B u C Pn tt m m' d v R) (hW : W = qKs B u ks (40 - d).toNat R) (hl : (ks.length : Int) = d) (hP : rPl m B S ks) (hV : rVs m S) (hF : zFs m d) (hQ : zQI m C Pn tt) (hx : zQx m m') : (v = 3 → W.2 = m'.1 66 ((76 : Nat) : Int)) ∧ (v = 2 → m'.1 66 ((74 : Nat) : Int) = d + 2 → rQ2 m' B u W) ∧ (v = 0 ∨ v = 1 → ∃ S', rVs m' S' ∧ rPl m' B S' ks ∧ W = qKs B u ks (40 - d).toNat (S', v)) := by
  obtain ⟨h0, h1, h3, h2⟩ := h
  rw [← hl] at hF
  refine ⟨fun e => ?_, fun e h74 => ?_, fun e => ?_⟩
  · obtain ⟨q1, q2⟩ := h3 e
    rw [hW, qKs_n ks _ R q2]
    exact q1
  · obtain ⟨k, S', s, t, g1, g2, g3, g4, g5⟩ := h2 e
    have hK := (h0 (by omega)).2.2
    rw [← hl] at hK
    refine ⟨k :: ks, S', s, t, by rw [List.length_cons, h74]; omega, g1, ⟨by rw [hl]; exact g2, rPl_x hV g1 hQ hx ks hF hK hP⟩, by rw [h74, show d + 2 - 1 = d + 1 by omega]; exact g3, ?_⟩
    rw [hW, g5, h74, show (40 - d).toNat = (39 - d).toNat + 1 by omega, show (41 - (d + 2)).toNat = (39 - d).toNat by omega, show (40 - (d + 2)).toNat = (38 - d).toNat by omega]
    rfl
  · obtain ⟨S', g1, g2⟩ := h1 e
    have hK := (h0 (by omega)).2.2
    rw [← hl] at hK
    exact ⟨S', g1, rPl_x hV g1 hQ hx ks hF hK hP, by rw [hW, g2]⟩
theorem rQ1_c {m m' : zM} {B : yB} {u d v : Int} {W : qS × Int} {ks : List qK} (h : ∃ S', rVs m S' ∧ rPl m B S' ks ∧ W = qKs B u ks (40 - d).toNat (S', v)) (hl : (ks.length : Int) = d) (e : m' = zu m 66 ((74 : Nat) : Int) d) : rQ1 m' B u v W := by
  obtain ⟨S', h1, h2, h3⟩ := h
  have hc : ∀ j : Nat, j ≠ 66 → m'.1 j = m.1 j := fun j hj => by rw [e, zu_ne hj]
  have h74 : m'.1 66 ((74 : Nat) : Int) = d := by rw [e, zu_at]
  exact ⟨ks, S', by rw [h74]; exact hl, rVs_c h1 hc (by rw [e, zu_nk (by decide)]) (by rw [e, zu_nk (by decide)]) (by rw [e, zu_nk (by decide)]), rPl_c hc ks h2, by rw [h74]; exact h3⟩
def hk_X9_questions : zC := fun As μ Q => ∃ (a1 : Int) (a2 : Int) (a3 : Int) (C : Int) (Pn : Int) (tt : Int) (K : Int) (B : yB) (s t : qR), As = [.inr (.inr (66, 66)), .inl a1, .inl a2, .inl a3] ∧ (0 ≤ a1 ∧ a1 ≤ 19999) ∧ (0 ≤ a2 ∧ a2 ≤ 19999) ∧ (0 ≤ a3 ∧ a3 ≤ 3000) ∧ (zQS μ C Pn tt K) ∧ (μ.1 66 ((46 : Nat) : Int) = 0) ∧ (zTy μ a1) ∧ (zTy μ a2) ∧ (rQt μ B C Pn tt ∧ zUq μ 0 ∧ rVs μ (0, 0, [])) ∧ (rEf μ a1 s ∧ rEf μ a2 t) ∧ (∀ (v : Int) (μ' : zM), zfx [67, 68, 69, 70, 71, 72, 73, 74, 88, 89, 90, 91, 92, 93, 94, 95, 97, 98, 99, 107] [8, 45, 46, 47, 48, 60, 74, 75, 76] μ μ' → (-4) ≤ v → v ≤ 2 → (zQS μ' C Pn tt K) → (zQx μ μ') → (v = (qB B a3 40 (0, 0, []) s t).2) → Q (some (.inl v)) μ')
set_option maxHeartbeats 4000000 in
theorem hm_X9_questions {g : zΓ} (hg : zg g) (d : Nat) (hd : 9 ≤ d) : zOk g d 171 hk_X9_questions := by
  obtain ⟨d, rfl⟩ : ∃ d', d = d' + 1 := ⟨d - 1, by omega⟩
  refine zOk_loop hg (show mt_tab[171]? = some mt_X9_questions from rfl) ([(32, [0, 4])], []) 59 rfl fun As μ Q hC => ?_
  obtain ⟨a1, a2, a3, C, Pn, tt, K, B, s, t, rfl, ha1, ha2, ha3, hp0, hp1, hp2, hp3, ⟨hT, hU, hV⟩, ⟨hs, ht⟩, hQ⟩ := hC
  obtain ⟨W0, hW0⟩ : ∃ W : qS × Int, qB B a3 40 (0, 0, []) s t = W := ⟨_, rfl⟩
  rw [hW0] at hQ
  obtain ⟨g1, wg1⟩ : ∃ z : Int, μ.1 66 ((46 : Nat) : Int) = z := ⟨_, rfl⟩
  obtain ⟨g2, wg2⟩ : ∃ z : Int, μ.1 66 ((75 : Nat) : Int) = z := ⟨_, rfl⟩
  obtain ⟨g3, wg3⟩ : ∃ z : Int, μ.1 66 ((74 : Nat) : Int) = z := ⟨_, rfl⟩
  have z0 : zfx [67, 68, 69, 70, 71, 72, 73, 74, 88, 89, 90, 91, 92, 93, 94, 95, 97, 98, 99, 107] [8, 45, 46, 47, 48, 60, 74, 75, 76] μ μ := zfx_x μ
  refine ⟨rfl, fun pc vs μ' n => ∃ (v4 : Int), vs = [.inr (.inr (66, 66)), .inl v4] ∧ zfx [67, 68, 69, 70, 71, 72, 73, 74, 88, 89, 90, 91, 92, 93, 94, 95, 97, 98, 99, 107] [8, 45, 46, 47, 48, 60, 74, 75, 76] μ μ' ∧ (0 ≤ v4 ∧ v4 ≤ 2) ∧ (zQS μ' C Pn tt K) ∧ (zQx μ μ') ∧ (0 ≤ μ'.1 66 ((46 : Nat) : Int) ∧ μ'.1 66 ((46 : Nat) : Int) ≤ μ'.1 66 ((75 : Nat) : Int) ∧ μ'.1 66 ((75 : Nat) : Int) ≤ 3000 ∧ 0 ≤ μ'.1 66 ((74 : Nat) : Int) ∧ μ'.1 66 ((74 : Nat) : Int) ≤ 40) ∧ (v4 = 2 → 1 ≤ μ'.1 66 ((74 : Nat) : Int) ∧ zFs μ' (μ'.1 66 ((74 : Nat) : Int) - 1) ∧ zFw μ' (μ'.1 66 ((74 : Nat) : Int) - 1)) ∧ (v4 ≠ 2 → zFs μ' (μ'.1 66 ((74 : Nat) : Int))) ∧ (rQt μ' B C Pn tt ∧ zUq μ' 0 ∧ μ'.1 66 ((75 : Nat) : Int) = a3) ∧ (v4 = 2 → rQ2 μ' B a3 W0) ∧ (v4 ≠ 2 → rQ1 μ' B a3 v4 W0) ∧ n = (Int.toNat (2 * (μ'.1 66 ((75 : Nat) : Int) - μ'.1 66 ((46 : Nat) : Int)) + μ'.1 66 ((74 : Nat) : Int))), ?_, ?_, trivial⟩
  · refine And.intro ⟨by omega, by omega⟩ ?_
    intro m4 em4
    have z5 := zfx_f z0 em4 rfl
    have w6 : m4.1 66 ((46 : Nat) : Int) = g1 := by rw [em4]; exact (zu_nk (by decide)).trans wg1
    have w7 : m4.1 66 ((75 : Nat) : Int) = g2 := by rw [em4]; exact (zu_nk (by decide)).trans wg2
    have w8 : m4.1 66 ((74 : Nat) : Int) = 0 := by rw [em4]; exact zu_at
    refine And.intro ⟨by omega, by omega⟩ ?_
    intro m9 em9
    have z10 := zfx_f z5 em9 rfl
    have w11 : m9.1 66 ((46 : Nat) : Int) = g1 := by rw [em9]; exact (zu_nk (by decide)).trans w6
    have w12 : m9.1 66 ((75 : Nat) : Int) = a3 := by rw [em9]; exact zu_at
    have w13 : m9.1 66 ((74 : Nat) : Int) = 0 := by rw [em9]; exact (zu_nk (by decide)).trans w8
    refine And.intro ⟨by omega, by omega⟩ ?_
    intro m14 em14
    have z15 := zfx_f z10 em14 rfl
    have w16 : m14.1 66 ((46 : Nat) : Int) = g1 := by rw [em14]; exact (zu_nk (by decide)).trans w11
    have w17 : m14.1 66 ((75 : Nat) : Int) = a3 := by rw [em14]; exact (zu_nk (by decide)).trans w12
    have w18 : m14.1 66 ((74 : Nat) : Int) = 0 := by rw [em14]; exact (zu_nk (by decide)).trans w13
    have C1 : ∀ j : Nat, j ≠ 66 → m14.1 j = μ.1 j := fun j hj => by rw [em14, zu_ne hj, em9, zu_ne hj, em4, zu_ne hj]
    have ZS := zQS_fr (m' := m14) hp0 (fun j a b => C1 j (by omega)) (fun j a b => C1 j (by omega)) (fun j a b => C1 j (by omega)) (C1 98 (by decide)) (by rw [em14, zu_nk (by decide), em9, zu_nk (by decide), em4, zu_nk (by decide)]) (by rw [em14, zu_nk (by decide), em9, zu_nk (by decide), em4, zu_nk (by decide)]) (by rw [em14, zu_nk (by decide), em9, zu_nk (by decide), em4, zu_nk (by decide)]) (by rw [em14, zu_nk (by decide), em9, zu_nk (by decide), em4, zu_nk (by decide)])
    have X1 := zQx_same (m := m14) (μ := μ) (fun j a b => C1 j (by omega)) (fun j a b => C1 j (by omega)) (by rw [em14, zu_nk (by decide), em9, zu_nk (by decide), em4, zu_nk (by decide)]) (by rw [em14, zu_nk (by decide), em9, zu_nk (by decide), em4, zu_nk (by decide)]) (by rw [em14, zu_nk (by decide), em9, zu_nk (by decide), em4, zu_nk (by decide)]) (by rw [em14, zu_nk (by decide), em9, zu_nk (by decide), em4, zu_nk (by decide)])
    have X8 : m14.1 66 ((8 : Nat) : Int) = μ.1 66 ((8 : Nat) : Int) := by rw [em14, zu_nk (by decide), em9, zu_nk (by decide), em4, zu_nk (by decide)]
    have W74 : m14.1 66 ((74 : Nat) : Int) = 0 := by rw [em14, zu_nk (by decide), em9, zu_nk (by decide), em4]; exact zu_at
    refine ⟨hk_X9_ask2, hm_X9_ask2 hg d (by omega), _, _, rfl, ⟨by omega, by omega⟩, ⟨by omega, by omega⟩, (by (try rw [w16]) <;> (try rw [w17]) <;> (try rw [w18]) <;> (try rw [wg1]) <;> (try rw [wg2]) <;> (try rw [wg3]) <;> omega), ?_⟩
    intro x19 m20 qm20 kx19 lx19 p21 p22 p23 p24 p24a p24b
    have T14 := rQt_x hT hp0.1 X1.1 (fun j a b => C1 j (by omega))
    have c20 : ∀ j : Nat, j ≠ 66 → j ≠ 91 → j ≠ 92 → j ≠ 93 → m20.1 j = m14.1 j := fun j a b c e => qm20.1 j a (zanyF (by simp <;> omega))
    have T20 : rQt m20 B C Pn tt := rQt_x T14 ZS.1 (zOld_same (fun j a b => c20 j (by omega) (by omega) (by omega) (by omega))) (fun j a b => c20 j (by omega) (by omega) (by omega) (by omega))
    have cc : ∀ j : Nat, 67 ≤ j → j ≤ 90 → m20.1 j = μ.1 j := fun j a b => (c20 j (by omega) (by omega) (by omega) (by omega)).trans (C1 j (by omega))
    have U20 : zUq m20 0 := zUq_c hU (fun j a b => cc j (by omega) (by omega)) (show m20.1 66 ((8 : Nat) : Int) = μ.1 66 ((8 : Nat) : Int) by rw [qm20.2.1 8 rfl]; exact X8)
    have z25 := zfx_t z15 qm20 rfl rfl
    have w26 : m20.1 66 ((75 : Nat) : Int) = a3 := (qm20.2.1 75 rfl).trans w17
    obtain ⟨g27, wg27⟩ : ∃ z : Int, m20.1 66 ((46 : Nat) : Int) = z := ⟨_, rfl⟩
    obtain ⟨g28, wg28⟩ : ∃ z : Int, m20.1 66 ((74 : Nat) : Int) = z := ⟨_, rfl⟩
    have QF : x19 = 1 → zFw m20 0 := fun h => by have h3 := p24 h; rw [W74] at h3; unfold zFw; rw [h3.1, h3.2.1]; exact ⟨zTy_same hp2 (by rw [qm20.1 67 (by decide) rfl, C1 67 (by decide)]) (by rw [qm20.2.1 8 rfl]; exact X8), zTy_same hp3 (by rw [qm20.1 67 (by decide) rfl, C1 67 (by decide)]) (by rw [qm20.2.1 8 rfl]; exact X8)⟩
    have ZA := zQS_ask ZS (fun j a b c d => qm20.1 j a (zanyF (by simp <;> omega))) (qm20.2.1 8 rfl) (qm20.2.1 45 rfl) (qm20.2.1 48 rfl) (qm20.2.1 60 rfl)
    have XA := zQx_t X1 (zQx_same (m := m20) (μ := m14) (fun j a b => qm20.1 j (by omega) (zanyF (by simp <;> omega))) (fun j a b => qm20.1 j (by omega) (zanyF (by simp <;> omega))) (qm20.2.1 8 rfl) (qm20.2.1 45 rfl) (qm20.2.1 48 rfl) (qm20.2.1 60 rfl))
    refine And.intro ⟨by omega, by omega⟩ (And.intro (fun c29 => ?_) (fun c29 => ?_))
    · refine Exists.intro (Int.toNat (2 * (m20.1 66 ((75 : Nat) : Int) - m20.1 66 ((46 : Nat) : Int)) + m20.1 66 ((74 : Nat) : Int))) ?_
      exact ⟨_, rfl, z25, ⟨by omega, by omega⟩, ZA, XA, p21, (fun _ => by have h1 : m20.1 66 ((74 : Nat) : Int) = 1 := (by have h2 := p22; have h3 := W74; omega); rw [h1]; exact ⟨by omega, fun q a b => by omega, QF (by omega)⟩), (fun h => absurd rfl h), ⟨T20, U20, w26⟩, (fun _ => by
        have h1 : m20.1 66 ((74 : Nat) : Int) = 1 := (by have h2 := p22; have h3 := W74; omega)
        have h46 : m20.1 66 ((46 : Nat) : Int) = 1 := (by have h2 := p22; omega)
        have ps := p24 (by omega)
        rw [W74] at ps
        have e45 : μ.1 66 ((45 : Nat) : Int) = 0 := by have := hV.1.2.2; exact this.symm
        have e48 : μ.1 66 ((48 : Nat) : Int) = 0 := by have := hV.1.2.1; exact this.symm
        refine ⟨[], (1, 0, []), s, t, by rw [h1]; rfl, ⟨⟨by rw [h46], by rw [qm20.2.1 48 rfl, em14, zu_nk (by decide), em9, zu_nk (by decide), em4, zu_nk (by decide), e48], by rw [qm20.2.1 45 rfl, em14, zu_nk (by decide), em9, zu_nk (by decide), em4, zu_nk (by decide), e45]; rfl⟩, fun k hk => absurd hk (by simp)⟩, trivial, ⟨by rw [h1, show ((1 : Int) - 1) = 0 from rfl, ps.1]; exact rEf_c (fun j a b => cc j a (by omega)) hs, by rw [h1, show ((1 : Int) - 1) = 0 from rfl, ps.2.1]; exact rEf_c (fun j a b => cc j a (by omega)) ht⟩, ?_⟩
        rw [h1, ← hW0]
        show qB B a3 (39 + 1) (0, 0, []) s t = qIn B a3 39 (1, 0, []) s t
        rw [qB_in, if_neg (by have q := (p24b (by omega)).1; show ¬ a3 ≤ 0; omega)]
        rfl), (fun h => absurd rfl h), rfl⟩
    · intro x30 hx30 kx30 lx30
      exact And.intro trivial (And.intro ⟨by omega, by omega⟩ (hQ _ _ z25 (by omega) (by omega) ZA XA (by
        have q := p24a (by omega)
        have q2 : a3 = 0 := by have h3 := W74; have := q.2; omega
        rw [hx30, q.1, if_pos (by omega), ← hW0]
        show (-3 : Int) = (qB B a3 (39 + 1) (0, 0, []) s t).2
        rw [qB_in, if_pos (show a3 ≤ 0 by omega)])))
  · intro vs m0 n hI
    clear z0
    obtain ⟨v4, rfl, z0, hv4, i0, i1, i2, i3, i4, ⟨t0, u0, f0⟩, b2, b1, rfl⟩ := hI
    obtain ⟨g31, wg31⟩ : ∃ z : Int, m0.1 66 ((46 : Nat) : Int) = z := ⟨_, rfl⟩
    obtain ⟨g32, wg32⟩ : ∃ z : Int, m0.1 66 ((75 : Nat) : Int) = z := ⟨_, rfl⟩
    obtain ⟨g33, wg33⟩ : ∃ z : Int, m0.1 66 ((74 : Nat) : Int) = z := ⟨_, rfl⟩
    intro x34 hx34 kx34 lx34
    rw [wg33] at hx34
    refine And.intro ⟨by omega, by omega⟩ (And.intro (fun c35 => ?_) (fun c35 => ?_))
    · exact And.intro trivial (And.intro ⟨by omega, by omega⟩ (hQ _ _ z0 (by omega) (by omega) i0 i1 (by
        have hne : v4 ≠ 2 := fun z => by have := (i3 z).1; omega
        obtain ⟨ks, S, k1, k2, k3, k4⟩ := b1 hne
        have e0 : ks = [] := List.eq_nil_of_length_eq_zero (by omega)
        rw [k4, e0]
        rfl)))
    · intro x36 hx36 kx36 lx36
      rw [wg33] at hx36
      have DD := i2
      refine And.intro ⟨⟨by omega, by omega⟩, ⟨by omega, by omega⟩⟩ (And.intro (fun c37 => ?_) (fun c37 => ?_))
      · obtain ⟨ks0, S, l0, v0, pl0, w0⟩ := b1 (by omega)
        obtain ⟨k, ks, e0⟩ : ∃ k ks, ks0 = k :: ks := by
          cases ks0 with
          | nil => exfalso; have : ((([] : List qK).length : Nat) : Int) = 0 := rfl; omega
          | cons k ks => exact ⟨k, ks, rfl⟩
        subst e0
        have ln : (ks.length : Int) = x36 - 1 := by rw [List.length_cons] at l0; omega
        have w1 : W0 = qKs B a3 ks (40 - (x36 - 1)).toNat (qKr B (qB B a3 (39 - (x36 - 1)).toNat) k (S, v4)) := by
          rw [w0, show (40 - (x36 - 1)).toNat = (40 - m0.1 66 ((74 : Nat) : Int)).toNat + 1 by omega, show (39 - (x36 - 1)).toNat = (40 - m0.1 66 ((74 : Nat) : Int)).toNat by omega]
          rfl
        refine ⟨hk_X9_resumed, hm_X9_resumed hg d (by omega), _, _, _, _, _, _, B, S, k, rfl, ⟨by omega, by omega⟩, ⟨by omega, by omega⟩, i0, i2, (by omega), (zFs_down (i4 (by omega)) (by omega)), ((i4 (by omega)) (x36 - 1) (by omega) (by omega)).1, ((i4 (by omega)) (x36 - 1) (by omega) (by omega)).2, ⟨t0, u0, v0⟩, (by have q := pl0.1; rw [ln] at q; exact q), ?_⟩
        intro x38 m39 qm39 kx38 lx38 p40 p41 p42 p43 p43r
        rw [f0] at p43r
        have NX := rQ_next p43r w1 ln pl0.2 v0 (zFs_down (i4 (by omega)) (by omega)) i0.1 p41
        have F39 : m39.1 66 ((75 : Nat) : Int) = a3 := (qm39.2.1 75 rfl).trans f0
        have z44 := zfx_t z0 qm39 rfl rfl
        have w45 : m39.1 66 ((75 : Nat) : Int) = g32 := (qm39.2.1 75 rfl).trans wg32
        obtain ⟨g46, wg46⟩ : ∃ z : Int, m39.1 66 ((46 : Nat) : Int) = z := ⟨_, rfl⟩
        obtain ⟨g47, wg47⟩ : ∃ z : Int, m39.1 66 ((74 : Nat) : Int) = z := ⟨_, rfl⟩
        refine And.intro ⟨⟨by omega, by omega⟩, ⟨by omega, by omega⟩⟩ (And.intro (fun c48 => ?_) (fun c48 => ?_))
        · refine And.intro ⟨⟨by omega, by omega⟩, ⟨by omega, by omega⟩⟩ (And.intro (fun c49 => ?_) (fun c49 => ?_))
          · refine Exists.intro (Int.toNat (2 * (m39.1 66 ((75 : Nat) : Int) - m39.1 66 ((46 : Nat) : Int)) + m39.1 66 ((74 : Nat) : Int))) (And.intro (by have h1 := p43.1 (by omega); have h2 := p42; (try rw [wg46]) <;> (try rw [w45]) <;> (try rw [wg47]) <;> (try rw [wg31]) <;> (try rw [wg32]) <;> (try rw [wg33]) <;> (try rw [wg1]) <;> (try rw [wg2]) <;> (try rw [wg3]) <;> omega) ?_)
            exact ⟨_, rfl, z44, ⟨by omega, by omega⟩, p40, (zQx_t i1 p41), p42, (fun _ => by have h := p43.1 (by omega); rw [show m39.1 66 ((74 : Nat) : Int) - 1 = (x36 - 1) + 1 by omega]; exact ⟨by omega, h.2.2.1, h.2.2.2⟩), (fun h => absurd (show x38 = 2 by omega) h), ⟨(p43r.1 (by omega)).1, (p43r.1 (by omega)).2.1, F39⟩, (fun _ => NX.2.1 (by omega) (by have := (p43.1 (by omega)).1; omega)), (fun h => absurd (show x38 = 2 by omega) h), rfl⟩
          · refine And.intro ⟨by omega, by omega⟩ ?_
            intro m50 em50
            have z51 := zfx_f z44 em50 rfl
            have w52 : m50.1 66 ((46 : Nat) : Int) = g46 := by rw [em50]; exact (zu_nk (by decide)).trans wg46
            have w53 : m50.1 66 ((75 : Nat) : Int) = g32 := by rw [em50]; exact (zu_nk (by decide)).trans w45
            have w54 : m50.1 66 ((74 : Nat) : Int) = (x36 - 1) := by rw [em50]; exact zu_at
            refine Exists.intro (Int.toNat (2 * (m50.1 66 ((75 : Nat) : Int) - m50.1 66 ((46 : Nat) : Int)) + m50.1 66 ((74 : Nat) : Int))) (And.intro (by have h1 := p43.2 (by omega); have h2 := p42; (try rw [w52]) <;> (try rw [w53]) <;> (try rw [w54]) <;> (try rw [wg31]) <;> (try rw [wg32]) <;> (try rw [wg33]) <;> (try rw [wg1]) <;> (try rw [wg2]) <;> (try rw [wg3]) <;> omega) ?_)
            exact ⟨_, rfl, z51, ⟨by omega, by omega⟩, (zQS_fr (m' := m50) p40 (fun j a b => by rw [em50, zu_ne (by omega)]) (fun j a b => by rw [em50, zu_ne (by omega)]) (fun j a b => by rw [em50, zu_ne (by omega)]) (by rw [em50, zu_ne (by decide)]) (by rw [em50]; exact zu_nk (by decide)) (by rw [em50]; exact zu_nk (by decide)) (by rw [em50]; exact zu_nk (by decide)) (by rw [em50]; exact zu_nk (by decide))), (zQx_fr (c := m50) (zQx_t i1 p41) (fun j a b => by rw [em50, zu_ne (by omega)]) (fun j a b => by rw [em50, zu_ne (by omega)]) (by rw [em50]; exact zu_nk (by decide)) (by rw [em50]; exact zu_nk (by decide)) (by rw [em50]; exact zu_nk (by decide)) (by rw [em50]; exact zu_nk (by decide))), (by (try rw [w52]) <;> (try rw [w53]) <;> (try rw [w54]) <;> (try rw [wg31]) <;> (try rw [wg32]) <;> (try rw [wg33]) <;> (try rw [wg1]) <;> (try rw [wg2]) <;> (try rw [wg3]) <;> omega), (fun h => by omega), (fun h => by rw [show m50.1 66 ((74 : Nat) : Int) = (x36 - 1) by rw [em50, zu_at]]; exact zFs_same (p43.2 (by omega)).2.2 (fun j hj => by rw [em50, zu_ne hj]) (by rw [em50]; exact zu_nk (by decide))), ⟨rQt_x (p43r.1 (by omega)).1 p40.1 (zOld_same (fun j a b => by rw [em50, zu_ne (by omega)])) (fun j a b => by rw [em50, zu_ne (by omega)]), zUq_c (p43r.1 (by omega)).2.1 (fun j a b => by rw [em50, zu_ne (by omega)]) (show m50.1 66 ((8 : Nat) : Int) = m39.1 66 ((8 : Nat) : Int) by rw [em50]; exact zu_nk (by decide)), by rw [em50]; exact (zu_nk (by decide)).trans F39⟩, (fun h => by exfalso; omega), (fun _ => rQ1_c (NX.2.2 (by omega)) ln em50), rfl⟩
        · intro x55 hx55 kx55 lx55
          exact And.intro trivial (And.intro ⟨by omega, by omega⟩ (hQ _ _ z44 (by omega) (by omega) p40 (zQx_t i1 p41) (by rw [hx55]; exact (NX.1 (by omega)).symm)))
      · obtain ⟨ks, S, s', t', l0, v0, pl0, rr0, w0⟩ := b2 (by omega)
        have ln : (ks.length : Int) = x36 - 1 := by omega
        rw [show m0.1 66 ((74 : Nat) : Int) - 1 = x36 - 1 by omega] at rr0
        have w1 : W0 = qKs B a3 ks (40 - (x36 - 1)).toNat (qIn B a3 (39 - (x36 - 1)).toNat S s' t') := by
          rw [w0, show (40 - (x36 - 1)).toNat = (41 - m0.1 66 ((74 : Nat) : Int)).toNat by omega, show (39 - (x36 - 1)).toNat = (40 - m0.1 66 ((74 : Nat) : Int)).toNat by omega]
        refine ⟨hk_X9_opened, hm_X9_opened hg d (by omega), _, _, _, _, _, B, S, s', t', rfl, ⟨by omega, by omega⟩, i0, i2, (by omega), (by have := (i3 (by omega)).2.1; rw [show (x36 - 1) = m0.1 66 ((74 : Nat) : Int) - 1 by omega]; exact this), (by have := (i3 (by omega)).2.2; rw [show (x36 - 1) = m0.1 66 ((74 : Nat) : Int) - 1 by omega]; exact this), ⟨t0, u0, v0⟩, rr0, ?_⟩
        intro x56 m57 qm57 kx56 lx56 p58 p59 p60 p61 p61r
        rw [f0] at p61r
        have NX := rQ_next p61r w1 ln pl0 v0 (by have := (i3 (by omega)).2.1; rw [show (x36 - 1) = m0.1 66 ((74 : Nat) : Int) - 1 by omega]; exact this) i0.1 p59
        have F57 : m57.1 66 ((75 : Nat) : Int) = a3 := (qm57.2.1 75 rfl).trans f0
        have z62 := zfx_t z0 qm57 rfl rfl
        have w63 : m57.1 66 ((75 : Nat) : Int) = g32 := (qm57.2.1 75 rfl).trans wg32
        obtain ⟨g64, wg64⟩ : ∃ z : Int, m57.1 66 ((46 : Nat) : Int) = z := ⟨_, rfl⟩
        obtain ⟨g65, wg65⟩ : ∃ z : Int, m57.1 66 ((74 : Nat) : Int) = z := ⟨_, rfl⟩
        refine And.intro ⟨⟨by omega, by omega⟩, ⟨by omega, by omega⟩⟩ (And.intro (fun c66 => ?_) (fun c66 => ?_))
        · refine And.intro ⟨⟨by omega, by omega⟩, ⟨by omega, by omega⟩⟩ (And.intro (fun c67 => ?_) (fun c67 => ?_))
          · refine Exists.intro (Int.toNat (2 * (m57.1 66 ((75 : Nat) : Int) - m57.1 66 ((46 : Nat) : Int)) + m57.1 66 ((74 : Nat) : Int))) (And.intro (by have h1 := p61.1 (by omega); have h2 := p60; (try rw [wg64]) <;> (try rw [w63]) <;> (try rw [wg65]) <;> (try rw [wg31]) <;> (try rw [wg32]) <;> (try rw [wg33]) <;> (try rw [wg1]) <;> (try rw [wg2]) <;> (try rw [wg3]) <;> omega) ?_)
            exact ⟨_, rfl, z62, ⟨by omega, by omega⟩, p58, (zQx_t i1 p59), p60, (fun _ => by have h := p61.1 (by omega); rw [show m57.1 66 ((74 : Nat) : Int) - 1 = (x36 - 1) + 1 by omega]; exact ⟨by omega, h.2.2.1, h.2.2.2⟩), (fun h => absurd (show x56 = 2 by omega) h), ⟨(p61r.1 (by omega)).1, (p61r.1 (by omega)).2.1, F57⟩, (fun _ => NX.2.1 (by omega) (by have := (p61.1 (by omega)).1; omega)), (fun h => absurd (show x56 = 2 by omega) h), rfl⟩
          · refine And.intro ⟨by omega, by omega⟩ ?_
            intro m68 em68
            have z69 := zfx_f z62 em68 rfl
            have w70 : m68.1 66 ((46 : Nat) : Int) = g64 := by rw [em68]; exact (zu_nk (by decide)).trans wg64
            have w71 : m68.1 66 ((75 : Nat) : Int) = g32 := by rw [em68]; exact (zu_nk (by decide)).trans w63
            have w72 : m68.1 66 ((74 : Nat) : Int) = (x36 - 1) := by rw [em68]; exact zu_at
            refine Exists.intro (Int.toNat (2 * (m68.1 66 ((75 : Nat) : Int) - m68.1 66 ((46 : Nat) : Int)) + m68.1 66 ((74 : Nat) : Int))) (And.intro (by have h1 := p61.2 (by omega); have h2 := p60; (try rw [w70]) <;> (try rw [w71]) <;> (try rw [w72]) <;> (try rw [wg31]) <;> (try rw [wg32]) <;> (try rw [wg33]) <;> (try rw [wg1]) <;> (try rw [wg2]) <;> (try rw [wg3]) <;> omega) ?_)
            exact ⟨_, rfl, z69, ⟨by omega, by omega⟩, (zQS_fr (m' := m68) p58 (fun j a b => by rw [em68, zu_ne (by omega)]) (fun j a b => by rw [em68, zu_ne (by omega)]) (fun j a b => by rw [em68, zu_ne (by omega)]) (by rw [em68, zu_ne (by decide)]) (by rw [em68]; exact zu_nk (by decide)) (by rw [em68]; exact zu_nk (by decide)) (by rw [em68]; exact zu_nk (by decide)) (by rw [em68]; exact zu_nk (by decide))), (zQx_fr (c := m68) (zQx_t i1 p59) (fun j a b => by rw [em68, zu_ne (by omega)]) (fun j a b => by rw [em68, zu_ne (by omega)]) (by rw [em68]; exact zu_nk (by decide)) (by rw [em68]; exact zu_nk (by decide)) (by rw [em68]; exact zu_nk (by decide)) (by rw [em68]; exact zu_nk (by decide))), (by (try rw [w70]) <;> (try rw [w71]) <;> (try rw [w72]) <;> (try rw [wg31]) <;> (try rw [wg32]) <;> (try rw [wg33]) <;> (try rw [wg1]) <;> (try rw [wg2]) <;> (try rw [wg3]) <;> omega), (fun h => by omega), (fun h => by rw [show m68.1 66 ((74 : Nat) : Int) = (x36 - 1) by rw [em68, zu_at]]; exact zFs_same (p61.2 (by omega)).2.2 (fun j hj => by rw [em68, zu_ne hj]) (by rw [em68]; exact zu_nk (by decide))), ⟨rQt_x (p61r.1 (by omega)).1 p58.1 (zOld_same (fun j a b => by rw [em68, zu_ne (by omega)])) (fun j a b => by rw [em68, zu_ne (by omega)]), zUq_c (p61r.1 (by omega)).2.1 (fun j a b => by rw [em68, zu_ne (by omega)]) (show m68.1 66 ((8 : Nat) : Int) = m57.1 66 ((8 : Nat) : Int) by rw [em68]; exact zu_nk (by decide)), by rw [em68]; exact (zu_nk (by decide)).trans F57⟩, (fun h => by exfalso; omega), (fun _ => rQ1_c (NX.2.2 (by omega)) ln em68), rfl⟩
        · intro x73 hx73 kx73 lx73
          exact And.intro trivial (And.intro ⟨by omega, by omega⟩ (hQ _ _ z62 (by omega) (by omega) p58 (zQx_t i1 p59) (by rw [hx73]; exact (NX.1 (by omega)).symm)))
