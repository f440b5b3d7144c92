/-! ### one question of the class -/
set_option maxHeartbeats 8000000 in
theorem gm_X0_below {g : zΓ} (hg : zg g) (n : Nat) (hA : ∀ k, n = k + 1 → (∀ d, 10 + 3 * k ≤ d → zOk g d 6 (gk_X0_boundsBelow k)) ∧ (∀ d, 11 + 3 * k ≤ d → zOk g d 7 (gk_X0_classBelow k)) ∧ ∀ d, 9 + 3 * k ≤ d → zOk g d 5 (gk_X0_below k)) (d : Nat) (hd : 9 + 3 * n ≤ d) : zOk g d 5 (gk_X0_below n) := by
  obtain ⟨d, rfl⟩ : ∃ d', d = d' + 1 := ⟨d - 1, by omega⟩
  refine zOk_straight hg (show mt_tab[5]? = some mt_X0_below from rfl) [] 82 rfl fun As μ Q hC => ?_
  obtain ⟨a1, a2, a3, t, B, o, u, S, l1, l2, rfl, ha3, hq, hcB, hE1, hY1, hE2, hY2, hu, hS, hQ⟩ := hC
  have ok := hq.1.2.2.1
  have w := ok.2.2.2.2
  have hB := hcB.1
  have i1 := hB.1.1
  have fb := aFs_b hB hcB.2.2.1
  have k1 := hE1.1
  have k2 := hE2.1
  have nn := w.1
  refine ⟨rfl, ?_⟩
  intro x1 hx1 kx1 lx1
  have X1 : x1 = S.1 := hx1.trans hq.2.2.2.2.1.2
  intro x2 hx2 kx2 lx2
  have X2 : x2 = u := hx2.trans hq.2.2.2.2.1.1
  refine And.intro ⟨⟨by omega, by omega⟩, ⟨by omega, by omega⟩⟩ (And.intro (fun c3 => ?_) (fun c3 => ?_))
  · refine And.intro ⟨⟨by omega, by omega⟩, ⟨by omega, by omega⟩⟩ (And.intro (fun c4 => ?_) (fun c4 => ?_))
    · obtain ⟨k, rfl⟩ : ∃ k, n = k + 1 := ⟨n - 1, by omega⟩
      intro x5 hx5 kx5 lx5
      have X5 : x5 = S.1 := hx5.trans hq.2.2.2.2.1.2
      refine And.intro ⟨by omega, by omega⟩ ?_
      intro m6 em6
      have l6 : zl0 μ m6 := zl0_u em6 (Or.inl (by decide)) (Or.inl ⟨by decide, by decide⟩)
      obtain ⟨S1, eS1⟩ : ∃ S1 : qS, S1 = (S.1 + 1, S.2) := ⟨_, rfl⟩
      have q6 : cQ m6 t B o u S1 := cQ_52 (k := 11) hq l6 em6 (Or.inl rfl) (by rw [em6, zu_at, eS1]; show _ = S.1 + 1; omega) (by rw [eS1])
      intro x8 hx8 kx8 lx8
      refine ⟨zk_J9_max_7cf53, zm_J9_max_7cf53 hg d (by omega), _, _, rfl, ⟨by omega, by omega⟩, ⟨by omega, by omega⟩, ?_⟩
      intro x9 kx9 lx9 p10 p11 p12
      refine And.intro ⟨by omega, by omega⟩ ?_
      intro m13 em13
      have l13 : zl0 m6 m13 := zl0_u em13 (Or.inl (by decide)) (Or.inl ⟨by decide, by decide⟩)
      have q13 : cQ m13 t B o u S1 := cQ_52 (k := 12) q6 l13 em13 (Or.inr rfl) (by rw [em13, zu_nk (by decide)]; exact q6.2.2.2.2.1.2) rfl
      have c13 : ∀ j : Nat, j ≠ 52 → m13.1 j = μ.1 j := fun j hj => by rw [em13, zu_ne hj, em6, zu_ne hj]
      have D13 : tOd μ m13 := by
        have n13 : tn m13 = tn μ := by unfold tn; rw [c13 59 (by decide)]
        have p13 : tp m13 = tp μ := by unfold tp; rw [c13 59 (by decide)]
        exact ⟨⟨by omega, by omega⟩, fun x _ _ => ⟨by rw [c13 60 (by decide)], by rw [c13 61 (by decide)]⟩, fun q _ _ => by rw [c13 63 (by decide)]⟩
      have F13 : cF (a3 * 4) μ m13 := ⟨⟨zl0_t l6 l13, fun j hj => c13 j (by omega)⟩, D13, fun k _ => by rw [c13 58 (by decide)]⟩
      have cb1 : cB B o S1 := by rw [eS1]; exact hcB
      have E1 := tE_o hE1 ok D13
      have E2 := tE_o hE2 ok D13
      have hY1 : qY (yar B) (qH B o S1.2.2.length) l1 := by rw [eS1]; exact hY1
      have hY2 : qY (yar B) (qH B o S1.2.2.length) l2 := by rw [eS1]; exact hY2
      have S10 : 0 ≤ S1.1 := by rw [eS1]; show 0 ≤ S.1 + 1; omega
      have nlt : ¬ u ≤ S.1 := by omega
      have yes : (l1 = l2 ∨ l2 = [0]) → qB B u (k + 1) S l1 l2 = (S1, 1) := fun y => by
        rw [qB, if_neg nlt, if_pos y, eS1]
      refine And.intro ⟨⟨by omega, by omega⟩, ⟨by omega, by omega⟩⟩ (And.intro (fun c15 => ?_) (fun c15 => ?_))
      · have eq : l1 = l2 := by
          rw [show a1 = a2 by omega] at hE1
          exact tE_fn hE1 hE2
        exact And.intro trivial (And.intro ⟨by omega, by omega⟩ (hQ _ _ (by rw [yes (Or.inl eq)]; exact ⟨F13.1, rfl, fun _ => ⟨q13, F13⟩, by omega⟩)))
      · have ne1 : ¬ l1 = l2 := fun y => by
          rw [y] at hE1
          exact c15 (tE_1n w hE2 hE1)
        intro x16 hx16 kx16 lx16
        have E0 : tE m13 (yar B) x16 [0] := by rw [hx16]; exact q13.2.1
        refine And.intro ⟨⟨by omega, by omega⟩, ⟨by omega, by omega⟩⟩ (And.intro (fun c17 => ?_) (fun c17 => ?_))
        · have ne2 : ¬ l2 = [0] := fun y => by
            have E2' := E2
            rw [y] at E2'
            exact c17 (tE_1n q13.1.2.2.1.2.2.2.2 E0 E2')
          have nor : ¬ (l1 = l2 ∨ l2 = [0]) := fun y => y.elim ne1 ne2
          have efl : qFl S1 l2 = qFl S l2 := by rw [eS1]; rfl
          refine ⟨gk_X0_floorOf, gm_X0_floorOf hg d (by omega), a2, t, B, o, u, S1, l2, rfl, q13, cb1, E2, hY2, ?_⟩
          intro x18 p18 kx18 lx18
          rw [efl] at p18
          refine And.intro ⟨by omega, by omega⟩ (And.intro (fun c19 => ?_) (fun c19 => ?_))
          · have nof : qFl S l2 = [] := by
              rcases p18 with p | p
              · exfalso; omega
              · exact p.1
            have eNo : qB B u (k + 1) S l1 l2 = qRe B (qB B u k) S1 l1 l2 := by
              rw [qB, if_neg nlt, if_neg nor, if_pos nof, eS1]
            refine ⟨gk_X6_head, gm_X6_head hg d (by omega), _, rfl, ⟨by have := E1.1; omega, by have := E1.1; omega, by have := q13.1.2.2.1.2.2.2.2.1; omega⟩, ?_⟩
            intro y1 ky1 ly1 hy1
            have Z1 : y1 = l1.headD 0 := by rw [hy1]; exact tE_60 E1
            refine ⟨gk_X8_isClass, gm_X8_isClass hg d (by omega), _, rfl, ⟨by omega, by omega⟩, ?_⟩
            intro y2 ky2 ly2 p2
            refine And.intro ⟨by omega, by omega⟩ (And.intro (fun c22 => ?_) (fun c22 => ?_))
            · have hs : l1.headD 0 < 21 := by omega
              refine ⟨gk_X6_head, gm_X6_head hg d (by omega), _, rfl, ⟨by have := E2.1; omega, by have := E2.1; omega, by have := q13.1.2.2.1.2.2.2.2.1; omega⟩, ?_⟩
              intro y3 ky3 ly3 hy3
              have Z3 : y3 = l2.headD 0 := by rw [hy3]; exact tE_60 E2
              refine ⟨gk_X8_isClass, gm_X8_isClass hg d (by omega), _, rfl, ⟨by omega, by omega⟩, ?_⟩
              intro y4 ky4 ly4 p4
              refine And.intro ⟨by omega, by omega⟩ (And.intro (fun c25 => ?_) (fun c25 => ?_))
              · have ht : ¬ l2.headD 0 < 21 := by have h2 := qY_h hY2; omega
                have er : qRe B (qB B u k) S1 l1 l2 = (S1, 0) := by unfold qRe; rw [if_neg (fun y => y hs), if_neg ht]
                exact And.intro trivial (And.intro ⟨by omega, by omega⟩ (hQ _ _ (by rw [eNo, er]; exact ⟨F13.1, rfl, fun _ => ⟨q13, F13⟩, by omega⟩)))
              · have ht : l2.headD 0 < 21 := by omega
                have er : qRe B (qB B u k) S1 l1 l2 = qCl B (qB B u k) S1 l1 l2 := by unfold qRe; rw [if_neg (fun y => y hs), if_pos ht]
                refine ⟨(gk_X0_classBelow k), (hA k rfl).2.1 d (by omega), a1, a2, a3, t, B, o, u, S1, l1, l2, rfl, ⟨by omega, by omega⟩, q13, cb1, E1, hY1, hs, E2, hY2, ht, hu, S10, ?_⟩
                intro y5 m5 p5
                obtain ⟨z5, v5, g5, b5⟩ := p5
                exact And.intro trivial (And.intro ⟨by omega, by omega⟩ (hQ _ _ (by rw [eNo, er]; exact ⟨zq0_t F13.1 z5, v5, fun y => ⟨(g5 y).1, cF_t F13 (g5 y).2⟩, b5⟩)))
            · have hs : ¬ l1.headD 0 < 21 := by
                have h1 := qY_h hY1
                omega
              have er : qRe B (qB B u k) S1 l1 l2 = qBs (qB B u k) l2 (qBo B S1 l1) S1 := by unfold qRe; rw [if_pos hs]
              refine ⟨(gk_X0_boundsBelow k), (hA k rfl).1 d (by omega), a1, a2, a3, t, B, o, u, S1, l1, l2, rfl, ⟨by omega, by omega⟩, q13, cb1, E1, hY1, hs, E2, hY2, hu, S10, ?_⟩
              intro y6 m6b p6
              obtain ⟨z6, v6, g6, b6⟩ := p6
              exact And.intro trivial (And.intro ⟨by omega, by omega⟩ (hQ _ _ (by rw [eNo, er]; exact ⟨zq0_t F13.1 z6, v6, fun y => ⟨(g6 y).1, cF_t F13 (cF_m (g6 y).2 (by omega))⟩, b6⟩)))
          · obtain ⟨yf, -, Ef⟩ : qFl S l2 ≠ [] ∧ 0 ≤ x18 ∧ tE m13 (yar B) x18 (qFl S l2) := by
              rcases p18 with p | p
              · exact p
              · exfalso; omega
            have Yf : qY (yar B) (qH B o S1.2.2.length) (qFl S l2) := by rw [← efl]; exact qFl_v hB hcB.2.2.1 cb1.2.2.2 hY2 (by rw [efl]; exact yf)
            obtain ⟨r, er0⟩ : ∃ r, r = qB B u k S1 l1 (qFl S l2) := ⟨_, rfl⟩
            have eAll : qB B u (k + 1) S l1 l2 = if r.2 = 0 then qRe B (qB B u k) r.1 l1 l2 else r := by
              rw [qB, if_neg nlt, if_neg nor, if_neg yf, er0, eS1]
            refine ⟨(gk_X0_below k), (hA k rfl).2.2 d (by omega), a1, x18, a3 + 1, t, B, o, u, S1, l1, _, rfl, ⟨by omega, by omega⟩, q13, cb1, E1, hY1, Ef, Yf, hu, S10, ?_⟩
            intro x32 m33 p33
            rw [← er0] at p33
            obtain ⟨z33, v33, g33, b33⟩ := p33
            refine And.intro ⟨by omega, by omega⟩ (And.intro (fun c35 => ?_) (fun c35 => ?_))
            · have r0 : r.2 = 0 := by omega
              obtain ⟨q33, f33⟩ := g33 (by omega)
              have vv := qB_v (u := u) hB hcB.2.1 hcB.2.2.1 k S1 l1 _ cb1.2.2.2 hY1 Yf
              rw [← er0] at vv
              have nq := qLe_n vv.1
              obtain ⟨S3, eS3⟩ : ∃ S3, S3 = r.1 := ⟨_, rfl⟩
              rw [← eS3] at q33 vv nq
              have eYes : qB B u (k + 1) S l1 l2 = qRe B (qB B u k) S3 l1 l2 := by rw [eAll, if_pos r0, eS3]
              have cb3 : cB B o S3 := ⟨hB, hcB.2.1, hcB.2.2.1, vv.2⟩
              have F33 : cF (a3 * 4) μ m33 := cF_t F13 (cF_m f33 (by omega))
              have G1 := tE_o E1 q13.1.2.2.1 f33.2.1
              have G2 := tE_o E2 q13.1.2.2.1 f33.2.1
              have Y31 := qY_m (qH_m nq) hY1
              have Y32 := qY_m (qH_m nq) hY2
              have S30 : 0 ≤ S3.1 := by have := vv.1.1; omega
              refine ⟨gk_X6_head, gm_X6_head hg d (by omega), _, rfl, ⟨by have := G1.1; omega, by have := G1.1; omega, by have := q33.1.2.2.1.2.2.2.2.1; omega⟩, ?_⟩
              intro y1 ky1 ly1 hy1
              have Z1 : y1 = l1.headD 0 := by rw [hy1]; exact tE_60 G1
              refine ⟨gk_X8_isClass, gm_X8_isClass hg d (by omega), _, rfl, ⟨by omega, by omega⟩, ?_⟩
              intro y2 ky2 ly2 p2
              refine And.intro ⟨by omega, by omega⟩ (And.intro (fun c22 => ?_) (fun c22 => ?_))
              · have hs : l1.headD 0 < 21 := by omega
                refine ⟨gk_X6_head, gm_X6_head hg d (by omega), _, rfl, ⟨by have := G2.1; omega, by have := G2.1; omega, by have := q33.1.2.2.1.2.2.2.2.1; omega⟩, ?_⟩
                intro y3 ky3 ly3 hy3
                have Z3 : y3 = l2.headD 0 := by rw [hy3]; exact tE_60 G2
                refine ⟨gk_X8_isClass, gm_X8_isClass hg d (by omega), _, rfl, ⟨by omega, by omega⟩, ?_⟩
                intro y4 ky4 ly4 p4
                refine And.intro ⟨by omega, by omega⟩ (And.intro (fun c25 => ?_) (fun c25 => ?_))
                · have ht : ¬ l2.headD 0 < 21 := by have h2 := qY_h hY2; omega
                  have er : qRe B (qB B u k) S3 l1 l2 = (S3, 0) := by unfold qRe; rw [if_neg (fun y => y hs), if_neg ht]
                  exact And.intro trivial (And.intro ⟨by omega, by omega⟩ (hQ _ _ (by rw [eYes, er]; exact ⟨F33.1, rfl, fun _ => ⟨q33, F33⟩, by omega⟩)))
                · have ht : l2.headD 0 < 21 := by omega
                  have er : qRe B (qB B u k) S3 l1 l2 = qCl B (qB B u k) S3 l1 l2 := by unfold qRe; rw [if_neg (fun y => y hs), if_pos ht]
                  refine ⟨(gk_X0_classBelow k), (hA k rfl).2.1 d (by omega), a1, a2, a3, t, B, o, u, S3, l1, l2, rfl, ⟨by omega, by omega⟩, q33, cb3, G1, Y31, hs, G2, Y32, ht, hu, S30, ?_⟩
                  intro y5 m5 p5
                  obtain ⟨z5, v5, g5, b5⟩ := p5
                  exact And.intro trivial (And.intro ⟨by omega, by omega⟩ (hQ _ _ (by rw [eYes, er]; exact ⟨zq0_t F33.1 z5, v5, fun y => ⟨(g5 y).1, cF_t F33 (g5 y).2⟩, b5⟩)))
              · have hs : ¬ l1.headD 0 < 21 := by
                  have h1 := qY_h hY1
                  omega
                have er : qRe B (qB B u k) S3 l1 l2 = qBs (qB B u k) l2 (qBo B S3 l1) S3 := by unfold qRe; rw [if_pos hs]
                refine ⟨(gk_X0_boundsBelow k), (hA k rfl).1 d (by omega), a1, a2, a3, t, B, o, u, S3, l1, l2, rfl, ⟨by omega, by omega⟩, q33, cb3, G1, Y31, hs, G2, Y32, hu, S30, ?_⟩
                intro y6 m6b p6
                obtain ⟨z6, v6, g6, b6⟩ := p6
                exact And.intro trivial (And.intro ⟨by omega, by omega⟩ (hQ _ _ (by rw [eYes, er]; exact ⟨zq0_t F33.1 z6, v6, fun y => ⟨(g6 y).1, cF_t F33 (cF_m (g6 y).2 (by omega))⟩, b6⟩)))
            · refine And.intro trivial (And.intro ⟨by omega, by omega⟩ (hQ _ _ ?_))
              rw [eAll, if_neg (by omega)]
              exact ⟨zq0_t F13.1 z33, v33, fun y => ⟨(g33 y).1, cF_t F13 (cF_m (g33 y).2 (by omega))⟩, b33⟩
        · have eq : l2 = [0] := by
            rw [show a2 = x16 by omega] at E2
            exact tE_fn E2 E0
          exact And.intro trivial (And.intro ⟨by omega, by omega⟩ (hQ _ _ (by rw [yes (Or.inr eq)]; exact ⟨F13.1, rfl, fun _ => ⟨q13, F13⟩, by omega⟩)))
    · have n0 : n = 0 := by omega
      subst n0
      exact And.intro trivial (And.intro ⟨by omega, by omega⟩ (hQ _ _ (by rw [qB, if_neg (by omega)]; exact ⟨zq0_r μ, rfl, fun y => by exfalso; omega, by omega⟩)))
  · have er : (qB B u n S l1 l2).2 = -3 := by
      cases n with
      | zero => rw [qB, if_pos (by omega)]
      | succ k => rw [qB, if_pos (by omega)]
    exact And.intro trivial (And.intro ⟨by omega, by omega⟩ (hQ _ _ ⟨zq0_r μ, er.symm, fun y => by exfalso; omega, by omega⟩))
theorem gm_X0_belowN {g : zΓ} (hg : zg g) : ∀ (n d : Nat), 9 + 3 * n ≤ d → zOk g d 5 (gk_X0_below n)
  | 0, d, hd => gm_X0_below hg 0 (fun k hk => by omega) d hd
  | n + 1, d, hd => gm_X0_below hg (n + 1) (fun k hk => by
      have e : k = n := by omega
      subst e
      exact ⟨gm_X0_boundsBelow hg k (gm_X0_belowN hg k), gm_X0_classBelow hg k (gm_X0_belowN hg k), gm_X0_belowN hg k⟩) d hd
