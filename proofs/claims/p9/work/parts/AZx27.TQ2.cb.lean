/-! ### a question of the class: two classes -/
theorem aNx_ap {m : zM} {B : yB} {b : Int} {N M : List (List qR × qR)} (h1 : aNx m B b N) (h2 : aNx m B (b + N.length) M) : aNx m B b (N ++ M) := fun k hk => by
  rw [List.length_append] at hk
  by_cases z : k < N.length
  · rw [List.getD_eq_getElem?_getD, List.getElem?_append_left z, ← List.getD_eq_getElem?_getD]
    exact h1 k z
  · have q := h2 (k - N.length) (by omega)
    rw [List.getD_eq_getElem?_getD, List.getElem?_append_right (by omega), ← List.getD_eq_getElem?_getD]
    rw [show b + (N.length : Int) + ((k - N.length : Nat) : Int) = b + (k : Int) by omega] at q
    exact q
theorem cQ_k {m m' : zM} {t : Nat} {B : yB} {o u : Int} {S S' : qS} (h : cQ m t B o u S) (z : zfK m m') (ok' : tOk m' t (yar B)) (od : tOd m m') (cn : aCn m') (e1 : S'.1 = S.1) (e14 : m'.1 52 ((14 : Nat) : Int) = S'.2.1) (e13 : m'.1 52 ((13 : Nat) : Int) = (S'.2.2.length : Int)) (nx : aNx m' B 0 S'.2.2) : cQ m' t B o u S' := by
  obtain ⟨⟨h1, h2, h3, h4⟩, h5, ⟨h6, h7⟩, h8, ⟨h9, hA⟩, ⟨hB, hC⟩, hD⟩ := h
  have w := h3.2.2.2.2
  have c5 : ∀ i : Nat, i < 13 → m'.1 52 ((i : Nat) : Int) = m.1 52 ((i : Nat) : Int) := fun i hi => z.2.2.1 _ (by omega)
  have e57 : m'.1 57 = m.1 57 := z.2.1 57 (by omega)
  refine ⟨⟨aT_f h1 (fun j hj => z.2.1 j (by omega)) z.1.2, aSz_f h2 z.1.2, ok', by rw [c5 7 (by omega)]; exact h4⟩, by rw [c5 9 (by omega)]; exact tE_old od w h5, ⟨aOw_f h6 w od (c5 8 (by omega)) (z.2.1 56 (by omega)), fun i i0 i1 => ?_⟩, cn, ⟨by rw [c5 10 (by omega)]; exact h9, by rw [c5 11 (by omega), e1]; exact hA⟩, ⟨e14, e13⟩, nx⟩
  have q := h7 i i0 i1
  exact ⟨fun b b0 b1 => by rw [e57]; exact tE_old od w (q.1 b b0 b1), fun y => by rw [e57]; exact tE_old od w (q.2.1 y), fun y => by rw [e57]; exact q.2.2 y⟩
theorem cQ_58 {m m' : zM} {t : Nat} {B : yB} {o u k x : Int} {S : qS} (h : cQ m t B o u S) (q : zl0 m m') (e : m' = zu m 58 k x) : cQ m' t B o u S ∧ tOd m m' ∧ zq0 m m' := by
  obtain ⟨o1, d1, n1⟩ := tOk_g h.1.2.2.1 (m' := m') (fun j hj => by rw [e, zu_ne (by omega)])
  have z : zfK m m' := zfK_u q e (by omega)
  have e52 : m'.1 52 = m.1 52 := by rw [e, zu_ne (by decide)]
  refine ⟨cQ_k h z o1 d1 ?_ rfl (by rw [e52]; exact h.2.2.2.2.2.1.1) (by rw [e52]; exact h.2.2.2.2.2.1.2) (aNx_o h.2.2.2.2.2.2 h.1.2.2.1.2.2.2.2 d1 (fun v _ _ => by rw [e, zu_ne (by decide), zu_ne (by decide)]; exact ⟨rfl, rfl⟩) (fun k _ _ => by rw [e, zu_ne (by decide)])), d1, zq0_Kq z⟩
  unfold aCn
  rw [e52, n1.1, n1.2]
  exact h.2.2.2.1
theorem gd_mem {qs : List qR} {i : Nat} (h : i < qs.length) : qs.getD i [] ∈ qs := by
  rw [List.getD_eq_getElem?_getD, List.getElem?_eq_getElem h]
  exact List.getElem_mem h
def gk_X0_classBelow (n : Nat) : zC := fun As μ Q => ∃ (a1 : Int) (a2 : Int) (a3 : Int) (t : Nat) (B : yB) (o u : Int) (S : qS) (l1 l2 : qR), As = [.inr (.inr (52, 52)), .inl a1, .inl a2, .inl a3] ∧ (a3 = 40 - (n : Int) ∧ n ≤ 39) ∧ cQ μ t B o u S ∧ cB B o S ∧ tE μ (yar B) a1 l1 ∧ qY (yar B) (qH B o S.2.2.length) l1 ∧ l1.headD 0 < 21 ∧ tE μ (yar B) a2 l2 ∧ qY (yar B) (qH B o S.2.2.length) l2 ∧ l2.headD 0 < 21 ∧ (0 ≤ u ∧ u ≤ 3000) ∧ 0 ≤ S.1 ∧ (∀ (v : Int) (μ' : zM), cZ t B o u (a3 * 4) μ μ' (qCl B (qB B u n) S l1 l2) v → Q (some (.inl v)) μ')
set_option maxHeartbeats 8000000 in
theorem gm_X0_classBelow {g : zΓ} (hg : zg g) (n : Nat) (hT : ∀ d, 9 + 3 * n ≤ d → zOk g d 5 (gk_X0_below n)) (d : Nat) (hd : 11 + 3 * n ≤ d) : zOk g d 7 (gk_X0_classBelow n) := by
  obtain ⟨d, rfl⟩ : ∃ d', d = d' + 1 := ⟨d - 1, by omega⟩
  refine zOk_loop hg (show mt_tab[7]? = some mt_X0_classBelow from rfl) ([(84, [0, 2, 3, 4, 7, 8]), (130, [0, 2, 3, 4, 7])], []) 100 rfl fun As μ Q hC => ?_
  obtain ⟨a1, a2, a3, t, B, o, u, S, l1, l2, rfl, ha3, hq, hcB, hE1, hY1, hc1, hE2, hY2, hc2, hu, hS, hQ⟩ := hC
  have ok := hq.1.2.2.1
  have hT0 := hq.1.1
  have w := ok.2.2.2.2
  have hB := hcB.1
  have hW := hcB.2.1
  have i1 := hB.1.1
  have fb := aFs_b hB hcB.2.2.1
  have h1 := qY_h hY1
  have h2 := qY_h hY2
  obtain ⟨as, ea, nd, oy⟩ := tE_nd w hE1
  obtain ⟨bs, eb, ndt, oyt⟩ := tE_nd w hE2
  have hc60 : μ.1 60 a1 = l1.headD 0 := tE_60 hE1
  have hd60 : μ.1 60 a2 = l2.headD 0 := tE_60 hE2
  obtain ⟨c, ec⟩ : ∃ c : Int, c = μ.1 60 a1 := ⟨_, rfl⟩
  obtain ⟨e, ee⟩ : ∃ e : Int, e = μ.1 60 a2 := ⟨_, rfl⟩
  rw [← ec] at ea nd hc60
  rw [← ee] at eb ndt hd60
  have hc : 0 ≤ c ∧ c < B.1 0 0 := by omega
  have he : 0 ≤ e ∧ e < B.1 0 0 := by omega
  have pa : qPa (yar B) l1 = as := by rw [ea]; exact qPa_e nd.2.2.1 oy
  have pb : qPa (yar B) l2 = bs := by rw [eb]; exact qPa_e ndt.2.2.1 oyt
  have yc : yar B c = B.1 3 c := by unfold yar; rw [if_pos hc]
  have ye : yar B e = B.1 3 e := by unfold yar; rw [if_pos he]
  have la : (as.length : Int) = B.1 3 c := by rw [← yc]; exact nd.2.2.1
  have lb : (bs.length : Int) = yar B e := ndt.2.2.1
  have b4 := (hB.1.2 e he.1 he.2).2.2.1
  have za := (qZ_as (by rw [← ea]; exact hY1.1) nd.2.2.1 oy).2.1
  have zb := (qZ_as (by rw [← eb]; exact hY2.1) ndt.2.2.1 oyt).2.1
  have b13 := hq.2.2.2.2.2.1.2
  have b14 := hq.2.2.2.2.2.1.1
  have eCl : qCl B (qB B u n) S l1 l2 = match qCp B S c as with
    | none => (S, -4)
    | some (S1, cs) => if B.2 2 c e = [] then (S1, 0) else match qRs B S1 c e cs with
      | none => (S1, -4)
      | some (S2, qs) => qAs (qB B u n) qs bs S2 := by
    unfold qCl
    rw [pa, pb, ← hc60, ← hd60]
    first
      | rfl
      | (cases qCp B S c as with
        | none => rfl
        | some x => rfl)
  obtain ⟨R, eR⟩ : ∃ R, R = qCl B (qB B u n) S l1 l2 := ⟨_, rfl⟩
  rw [← eR] at hQ eCl
  refine ⟨rfl, fun pc vs μ' n' => (pc = 84 → ∃ (v7 v8 : Int) (S2 : qS) (qs : List qR), vs = [.inr (.inr (52, 52)), .inl a2, .inl a3, .inl (a3 * 4), .inl v7, .inl v8] ∧ (0 ≤ v8 ∧ v8 ≤ qs.length) ∧ (cQ μ' t B o u S2 ∧ cB B o S2 ∧ cF (a3 * 4) μ μ' ∧ qLe S S2) ∧ ((qs.length : Int) = yar B e ∧ aNd μ' (yar B) v7 e qs ∧ (∀ q ∈ qs, qY (yar B) (qH B o S2.2.2.length) q) ∧ ∀ j : Nat, j < v8.toNat → tE μ' (yar B) (μ'.1 58 (a3 * 4 + j)) (qs.getD j [])) ∧ R = qAs (qB B u n) qs bs S2 ∧ n' = (Int.toNat (2147483648 - v8 + 8589934592))) ∧ (pc = 130 → ∃ (v7 : Int) (S2 : qS) (qs : List qR), vs = [.inr (.inr (52, 52)), .inl a2, .inl a3, .inl (a3 * 4), .inl v7] ∧ (0 ≤ v7 ∧ v7 ≤ qs.length) ∧ (cQ μ' t B o u S2 ∧ cB B o S2 ∧ cF (a3 * 4) μ μ' ∧ qLe S S2) ∧ ((qs.length : Int) = yar B e ∧ (∀ q ∈ qs, qY (yar B) (qH B o S2.2.2.length) q) ∧ ∀ j : Nat, j < qs.length → tE μ' (yar B) (μ'.1 58 (a3 * 4 + j)) (qs.getD j [])) ∧ R = qAs (qB B u n) (qs.drop v7.toNat) (bs.drop v7.toNat) S2 ∧ n' = (Int.toNat (2147483648 - v7))), ?_, ?_, ?_, trivial⟩
  · refine ⟨gk_X0_captureArgs, gm_X0_captureArgs hg d (by omega), a1, a3 * 4, t, B, c, as, rfl, ⟨by omega, by omega⟩, hT0, hB, hq.1.2.1, ok, hq.1.2.2.2, nd, hc, hq.2.2.2.1, hq.2.1, ?_, ?_⟩
    · intro m2 N z2 o2 d2 cn2 le2 e2 n2 nx2 f2 fr2
      rw [b13] at le2 e2 n2 nx2 fr2
      rw [b14] at e2
      obtain ⟨S1, eS1⟩ : ∃ S1 : qS, S1 = (S.1, m2.1 52 ((14 : Nat) : Int), S.2.2 ++ N) := ⟨_, rfl⟩
      have ecp : qCp B S c as = some (S1, ycap (S.2.2.length : Int) as) := by
        unfold qCp
        rw [if_neg (by omega), e2, eS1]
      have v1 := qCp_v hB hW hcB.2.2.2 hc la za ecp
      have x1 : aNx m2 B 0 (S.2.2 ++ N) := aNx_ap (aNx_o hq.2.2.2.2.2.2 w d2 (fun v a b => f2.2.1 v (by omega)) (fun k a b => f2.2.2 k (by omega))) (by rw [show (0 : Int) + (S.2.2.length : Int) = (S.2.2.length : Int) by omega]; exact nx2)
      have q1 : cQ m2 t B o u S1 := cQ_k hq z2 o2 d2 cn2 (by rw [eS1]) (by rw [eS1]) (by rw [eS1, n2, List.length_append]; push_cast; rfl) (by rw [eS1]; exact x1)
      have cb1 : cB B o S1 := ⟨hB, hW, hcB.2.2.1, v1.2.2.1⟩
      have F1 : cF (a3 * 4) μ m2 := ⟨zq0_Kq z2, d2, fun k hk => f2.1 k (by omega)⟩
      rw [ecp] at eCl
      simp only at eCl
      have W2 := o2.2.2.2.2
      have nn2 := W2.1
      have E1 := tE_o hE1 ok d2
      have E2 := tE_o hE2 ok d2
      have k1 := E1.1
      have k2 := E2.1
      have hT2 := q1.1.1
      refine And.intro ⟨by omega, by omega⟩ (And.intro (fun c4 => ?_) (fun c4 => by exfalso; omega))
      refine ⟨gk_X6_head, gm_X6_head hg d (by omega), _, rfl, ⟨by omega, by omega, by omega⟩, ?_⟩
      intro x5 kx5 lx5 hx5
      have X5 : x5 = c := by rw [hx5, tE_60 E1]; exact hc60.symm
      refine ⟨gk_X6_head, gm_X6_head hg d (by omega), _, rfl, ⟨by omega, by omega, by omega⟩, ?_⟩
      intro x6 kx6 lx6 hx6
      have X6 : x6 = e := by rw [hx6, tE_60 E2]; exact hd60.symm
      intro t7 et7 ht7
      have q7 : t7 = t := by have := q1.1.2.2.2; omega
      subst q7
      refine And.intro ht7.1 ⟨yk_X4_overLength, ym_X4_overLength hg d (by omega), _, _, _, rfl, ht7.1, ⟨by omega, by omega⟩, ⟨by omega, by omega⟩, ?_⟩
      intro x8 kx8 lx8 hx8
      have X8 : x8 = ((B.2 2 c e).flatten.length : Int) := by rw [hx8, X5, X6]; exact (hT2.2.2.2.1 c e hc.1 (by omega) he.1 (by omega)).1
      refine And.intro ⟨by omega, by omega⟩ (And.intro (fun c9 => ?_) (fun c9 => ?_))
      · have ne : B.2 2 c e ≠ [] := fun y => by rw [y] at X8; have : x8 = 0 := X8; omega
        rw [if_neg ne] at eCl
        refine And.intro ⟨⟨by omega, by omega⟩, ⟨by omega, by omega⟩⟩ (And.intro (fun c10 => ?_) (fun c10 => ?_))
        · have ece : c = e := by omega
          have ers : qRs B S1 c e (ycap (S.2.2.length : Int) as) = some (S1, ycap (S.2.2.length : Int) as) := by unfold qRs; rw [if_pos ece]
          have v2 := qRs_v hB hW v1.2.2.1 hc he ne (by rw [← v1.2.2.2.1]; exact v1.2.2.2.2.1) (by rw [← v1.2.2.2.1]; exact v1.2.2.2.2.2) ers
          rw [ers] at eCl
          refine Exists.intro (Int.toNat (2147483648 - 0)) ?_
          exact ⟨(fun h => absurd h (by decide)), (fun _ => ⟨0, S1, ycap (S.2.2.length : Int) as, rfl, ⟨by omega, by omega⟩, ⟨q1, cb1, F1, v1.1⟩, ⟨v2.2.2.2.2.1, v2.2.2.2.2.2, fun j hj => fr2 j (by rw [ycap_l] at hj; exact hj)⟩, eCl, rfl⟩)⟩
        · have nce : ¬ c = e := fun y => c10 (by omega)
          refine ⟨gk_X0_raise, gm_X0_raise hg d (by omega), x5, x6, a3 * 4, t7, B, ycap (S.2.2.length : Int) as, rfl, ⟨by omega, by omega⟩, ⟨by omega, by omega⟩, ⟨by omega, by omega⟩, hT2, hB, q1.1.2.1, o2, q1.1.2.2.2, by rw [X5, X6]; exact ne, ⟨by rw [ycap_l, X5]; exact la, fun j hj => fr2 j (by rw [ycap_l] at hj; exact hj)⟩, cn2, ?_, ?_⟩
          · intro x11 m12 fit z12 f12 o12 d12 cn12 g12 n12 e12
            rw [X5, X6] at fit g12 e12
            obtain ⟨S2, eS2⟩ : ∃ S2 : qS, S2 = (S1.1, S1.2.1 + ((B.2 2 c e).flatten.length : Int), S1.2.2) := ⟨_, rfl⟩
            have g1 : S1.2.1 = m2.1 52 ((14 : Nat) : Int) := by rw [eS1]
            have ers : qRs B S1 c e (ycap (S.2.2.length : Int) as) = some (S2, qPa (yar B) (ysub (B.1 2 c) (ycap (S.2.2.length : Int) as) (B.2 2 c e).flatten)) := by
              unfold qRs
              rw [if_neg nce, if_neg (by omega), eS2]
            have v2 := qRs_v hB hW v1.2.2.1 hc he ne (by rw [← v1.2.2.2.1]; exact v1.2.2.2.2.1) (by rw [← v1.2.2.2.1]; exact v1.2.2.2.2.2) ers
            rw [ers] at eCl
            simp only at eCl
            obtain ⟨qs, eqs⟩ : ∃ qs, qs = qPa (yar B) (ysub (B.1 2 c) (ycap (S.2.2.length : Int) as) (B.2 2 c e).flatten) := ⟨_, rfl⟩
            rw [← eqs] at eCl v2
            have w12 := o12.2.2.2.2
            obtain ⟨qs', eq', nd', oq'⟩ := tE_nd w12 e12
            have q'e : qs' = qs := by rw [eqs, eq', qPa_e nd'.2.2.1 oq']
            rw [q'e] at nd'
            have hd12 : m12.1 60 x11 = e := by
              rw [tE_60 e12]
              obtain ⟨ws, w1, -⟩ := hW.2.1 c e hc.1 hc.2 he.1 (by omega) ne
              rw [w1, ysub_c, if_neg (by omega)]
              rfl
            rw [hd12] at nd'
            have q2 : cQ m12 t7 B o u S2 := cQ_k q1 z12 o12 d12 cn12 (by rw [eS2]) (by rw [g12, eS2, g1]) (by rw [n12, eS2]; exact q1.2.2.2.2.2.1.2) (by rw [eS2]; exact aNx_o q1.2.2.2.2.2.2 W2 d12 (fun v _ _ => by rw [f12 53 (by decide) (by decide), f12 55 (by decide) (by decide)]; exact ⟨rfl, rfl⟩) (fun k _ _ => by rw [f12 54 (by decide) (by decide)]))
            have F2 : cF (a3 * 4) μ m12 := cF_t F1 ⟨zq0_Kq z12, d12, fun k _ => by rw [f12 58 (by decide) (by decide)]⟩
            have k12 := e12.1
            have n12' := w12.1
            refine And.intro ⟨by omega, by omega⟩ (And.intro (fun c14 => ?_) (fun c14 => by exfalso; omega))
            refine Exists.intro (Int.toNat (2147483648 - 0 + 8589934592)) ?_
            exact ⟨(fun _ => ⟨x11, 0, S2, qs, rfl, ⟨by omega, by omega⟩, ⟨q2, ⟨hB, hW, hcB.2.2.1, v2.2.2.2.1⟩, F2, qLe_t v1.1 v2.1⟩, ⟨v2.2.2.2.2.1, nd', v2.2.2.2.2.2, fun j hj => absurd hj (by simp)⟩, eCl, rfl⟩), (fun h => absurd h (by decide))⟩
          · intro ful
            rw [X5, X6] at ful
            have g1 : S1.2.1 = m2.1 52 ((14 : Nat) : Int) := by rw [eS1]
            have ers : qRs B S1 c e (ycap (S.2.2.length : Int) as) = none := by
              unfold qRs
              rw [if_neg nce, if_pos (by omega)]
            rw [ers] at eCl
            refine And.intro ⟨by omega, by omega⟩ (And.intro (fun c14 => by exfalso; omega) (fun c14 => ?_))
            exact And.intro trivial (And.intro ⟨by omega, by omega⟩ (hQ _ _ (by rw [eCl]; exact ⟨F1.1, rfl, fun y => by exfalso; omega, by omega⟩)))
      · have em : B.2 2 c e = [] := by
          by_cases y : B.2 2 c e = []
          · exact y
          · exfalso
            obtain ⟨ws, w1, -⟩ := hW.2.1 c e hc.1 hc.2 he.1 (by omega) y
            rw [w1, List.length_cons] at X8
            omega
        rw [if_pos em] at eCl
        exact And.intro trivial (And.intro ⟨by omega, by omega⟩ (hQ _ _ (by rw [eCl]; exact ⟨F1.1, rfl, fun _ => ⟨q1, F1⟩, by omega⟩)))
    · intro m2 z2 o2 d2 f2
      rw [b13] at f2
      rw [b14] at f2
      have ecp : qCp B S c as = none := by
        unfold qCp
        rcases f2 with f2 | f2
        · rw [if_pos f2]
        · split
          · rfl
          · rw [f2]
      rw [ecp] at eCl
      refine And.intro ⟨by omega, by omega⟩ (And.intro (fun c4 => by exfalso; omega) (fun c4 => ?_))
      exact And.intro trivial (And.intro ⟨by omega, by omega⟩ (hQ _ _ (by rw [eCl]; exact ⟨zq0_Kq z2, rfl, fun y => by exfalso; omega, by omega⟩)))
  · intro vs m0 n' hI
    replace hI := hI.1 rfl
    obtain ⟨v7, v8, S2, qs, rfl, hv8, ⟨q0, b0, f0, le0⟩, ⟨k1, k2, k3, k4⟩, er, rfl⟩ := hI
    have o0 := q0.1.2.2.1
    have w0 := o0.2.2.2.2
    have nn0 := w0.1
    have kk := k2.1
    refine ⟨gk_X6_partsOf, gm_X6_partsOf hg d (by omega), v7, t, yar B, rfl, k2.1, o0, ?_⟩
    intro x15 kx15 lx15 hx15
    have X15 : x15 = (qs.length : Int) := by rw [hx15, k2.2.1]; exact k1.symm
    refine And.intro ⟨⟨by omega, by omega⟩, ⟨by omega, by omega⟩⟩ (And.intro (fun c16 => ?_) (fun c16 => ?_))
    · refine Exists.intro (Int.toNat (2147483648 - 0)) (And.intro (by omega) ?_)
      exact ⟨(fun h => absurd h (by decide)), (fun _ => ⟨0, S2, qs, rfl, ⟨by omega, by omega⟩, ⟨q0, b0, f0, le0⟩, ⟨k1, k3, fun j hj => k4 j (by omega)⟩, er, rfl⟩)⟩
    · refine ⟨gk_X6_part, gm_X6_part hg d (by omega), v7, v8, yar B, rfl, k2.1, ⟨by omega, by rw [k2.2.1, ← k1]; omega⟩, w0, ?_⟩
      intro x17 kx17 hx17
      have E17 := k2.2.2.2 v8.toNat (by omega)
      rw [show ((v8.toNat : Nat) : Int) = v8 by omega, ← hx17] at E17
      refine ⟨yk_X8_set, ym_X8_set hg d (by omega), _, _, _, _, rfl, ⟨by omega, by omega⟩, ?_⟩
      refine And.intro ⟨by omega, by omega⟩ (And.intro ⟨by omega, by omega⟩ ?_)
      intro m18 qm18 em18
      obtain ⟨q18, d18, z18⟩ := cQ_58 q0 ⟨qm18, by rw [em18]; rfl⟩ em18
      refine Exists.intro (Int.toNat (2147483648 - (v8 + 1) + 8589934592)) (And.intro (by omega) ?_)
      exact ⟨(fun _ => ⟨v7, v8 + 1, S2, qs, rfl, ⟨by omega, by omega⟩, ⟨q18, b0, cF_t f0 ⟨z18, d18, fun k hk => by rw [em18, zu_nk (by omega)]⟩, le0⟩, ⟨k1, aNd_o k2 w0 d18, k3, fun j hj => by
        by_cases y : j = v8.toNat
        · rw [y, show a3 * 4 + ((v8.toNat : Nat) : Int) = a3 * 4 + v8 by omega, em18, zu_at, ← em18]
          exact tE_old d18 w0 E17
        · rw [em18, zu_nk (by omega), ← em18]
          exact tE_old d18 w0 (k4 j (by omega))⟩, er, rfl⟩), (fun h => absurd h (by decide))⟩
  · intro vs m0 n' hI
    replace hI := hI.2 rfl
    obtain ⟨v7, S2, qs, rfl, hv7, ⟨q0, b0, f0, le0⟩, ⟨k1, k3, k4⟩, er, rfl⟩ := hI
    have o0 := q0.1.2.2.1
    have w0 := o0.2.2.2.2
    have nn0 := w0.1
    have nd0 := aNd_o ndt w f0.2.1
    have kk := nd0.1
    have nn := qLe_n le0
    refine ⟨gk_X6_partsOf, gm_X6_partsOf hg d (by omega), a2, t, yar B, rfl, nd0.1, o0, ?_⟩
    intro x20 kx20 lx20 hx20
    have X20 : x20 = (bs.length : Int) := by rw [hx20, nd0.2.1]; exact nd0.2.2.1.symm
    refine And.intro ⟨⟨by omega, by omega⟩, ⟨by omega, by omega⟩⟩ (And.intro (fun c21 => ?_) (fun c21 => ?_))
    · rw [List.drop_eq_nil_of_le (show qs.length ≤ v7.toNat by omega)] at er
      exact And.intro trivial (And.intro ⟨by omega, by omega⟩ (hQ _ _ (by rw [er]; unfold qAs; exact ⟨f0.1, rfl, fun _ => ⟨q0, f0⟩, by omega⟩)))
    · refine ⟨zk_X8_at, zm_X8_at hg d (by omega), _, _, _, rfl, ⟨by omega, by omega⟩, ?_⟩
      intro x22 kx22 lx22 fx22 gx22
      have E22 := k4 v7.toNat (by omega)
      rw [show ((v7.toNat : Nat) : Int) = v7 by omega] at E22
      have X22 : x22 = m0.1 58 (a3 * 4 + v7) := (fx22 ⟨by omega, by omega⟩).1
      rw [← X22] at E22
      refine ⟨gk_X6_part, gm_X6_part hg d (by omega), a2, v7, yar B, rfl, nd0.1, ⟨by omega, by rw [nd0.2.1, ← nd0.2.2.1]; omega⟩, w0, ?_⟩
      intro x23 kx23 hx23
      have E23 := nd0.2.2.2 v7.toNat (by omega)
      rw [show ((v7.toNat : Nat) : Int) = v7 by omega, ← hx23] at E23
      have Yq := k3 _ (gd_mem (show v7.toNat < qs.length by omega))
      have Zb := qZ_m (qH_m nn) (zb _ (gd_mem (show v7.toNat < bs.length by omega)))
      rw [qCk_d (show v7.toNat < qs.length by omega), qCk_d (show v7.toNat < bs.length by omega), qAs] at er
      refine ⟨(gk_X0_argBelow n), gm_X0_argBelow hg n hT d (by omega), x22, x23, a3, t, B, o, u, S2, _, _, rfl, ha3, q0, b0, E22, Yq, E23, Zb, hu, (by have := le0.1; omega), ?_⟩
      intro x24 m25 p25
      obtain ⟨z25, v25, g25, b25⟩ := p25
      have vv := qArg_v (qB_v (u := u) hB hW hcB.2.2.1 n) (by omega) b0.2.2.2 Yq Zb
      refine And.intro ⟨⟨by omega, by omega⟩, ⟨by omega, by omega⟩⟩ (And.intro (fun c27 => ?_) (fun c27 => ?_))
      · have x1 : x24 = 1 := by omega
        rw [if_pos (by rw [← v25]; exact x1)] at er
        obtain ⟨g6, g7⟩ := g25 (by omega)
        have nq := qLe_n vv.1
        refine Exists.intro (Int.toNat (2147483648 - (v7 + 1))) (And.intro (by omega) ?_)
        refine ⟨(fun h => absurd h (by decide)), (fun _ => ⟨v7 + 1, _, qs, rfl, ⟨by omega, by omega⟩, ⟨g6, ⟨hB, hW, hcB.2.2.1, vv.2⟩, cF_t f0 (cF_m g7 (by omega)), qLe_t le0 vv.1⟩, ⟨k1, fun q hq => qY_m (qH_m nq) (k3 q hq), fun j hj => by rw [g7.2.2 _ (by omega)]; exact tE_old g7.2.1 w0 (k4 j hj)⟩, by rw [er, show (v7 + 1).toNat = v7.toNat + 1 by omega], rfl⟩)⟩
      · rw [if_neg (by rw [← v25]; omega)] at er
        refine And.intro trivial (And.intro ⟨by omega, by omega⟩ (hQ _ _ ?_))
        rw [er]
        exact ⟨zq0_t f0.1 z25, v25, fun y => ⟨(g25 y).1, cF_t f0 (cF_m (g25 y).2 (by omega))⟩, b25⟩
