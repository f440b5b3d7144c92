/-! ### a question of the class: one ARG, the BOUNDS -/
/-- how a question ends -/
def cZ (t : Nat) (B : yB) (o u : Int) (f : Int) (μ m : zM) (r : qS × Int) (v : Int) : Prop := zq0 μ m ∧ v = r.2 ∧ (0 ≤ v → cQ m t B o u r.1 ∧ cF f μ m) ∧ (-4 ≤ v ∧ v ≤ 1)
def gk_X0_below (n : Nat) : zC := fun As μ Q => ∃ (a1 : Int) (a2 : Int) (a3 : Int) (t : Nat) (B : yB) (o u : Int) (S : qS) (l1 l2 : qR), As = [.inr (.inr (52, 52)), .inl a1, .inl a2, .inl a3] ∧ (a3 = 41 - (n : Int) ∧ n ≤ 40) ∧ cQ μ t B o u S ∧ cB B o S ∧ tE μ (yar B) a1 l1 ∧ qY (yar B) (qH B o S.2.2.length) l1 ∧ tE μ (yar B) a2 l2 ∧ qY (yar B) (qH B o S.2.2.length) l2 ∧ (0 ≤ u ∧ u ≤ 3000) ∧ 0 ≤ S.1 ∧ (∀ (v : Int) (μ' : zM), cZ t B o u (a3 * 4) μ μ' (qB B u n S l1 l2) v → Q (some (.inl v)) μ')
def gk_X0_argBelow (n : Nat) : zC := fun As μ Q => ∃ (a1 : Int) (a2 : Int) (a3 : Int) (t : Nat) (B : yB) (o u : Int) (S : qS) (l1 l2 : qR), As = [.inr (.inr (52, 52)), .inl a1, .inl a2, .inl a3] ∧ (a3 = 40 - (n : Int) ∧ n ≤ 39) ∧ cQ μ t B o u S ∧ cB B o S ∧ tE μ (yar B) a1 l1 ∧ qY (yar B) (qH B o S.2.2.length) l1 ∧ tE μ (yar B) a2 l2 ∧ qZ (yar B) (qH B o S.2.2.length) l2 ∧ (0 ≤ u ∧ u ≤ 3000) ∧ 0 ≤ S.1 ∧ (∀ (v : Int) (μ' : zM), cZ t B o u ((a3 + 1) * 4) μ μ' (qArg (qB B u n) S l1 l2) v → Q (some (.inl v)) μ')
set_option maxHeartbeats 4000000 in
theorem gm_X0_argBelow {g : zΓ} (hg : zg g) (n : Nat) (hT : ∀ d, 9 + 3 * n ≤ d → zOk g d 5 (gk_X0_below n)) (d : Nat) (hd : 10 + 3 * n ≤ d) : zOk g d 8 (gk_X0_argBelow n) := by
  obtain ⟨d, rfl⟩ : ∃ d', d = d' + 1 := ⟨d - 1, by omega⟩
  refine zOk_straight hg (show mt_tab[8]? = some mt_X0_argBelow from rfl) [] 43 rfl fun As μ Q hC => ?_
  obtain ⟨a1, a2, a3, t, B, o, u, S, l1, l2, rfl, ha3, hq, hcB, hE1, hY1, hE2, hZ2, hu, hS, hQ⟩ := hC
  have ok := hq.1.2.2.1
  have w := ok.2.2.2.2
  have n1 := w.1
  have e1 := hE1.1
  have e2 := hE2.1
  have i21 := hcB.1.1.1.1
  refine ⟨rfl, ?_⟩
  refine ⟨gk_X6_head, gm_X6_head hg d (by omega), _, rfl, ⟨by omega, by omega, by omega⟩, ?_⟩
  intro x1 kx1 lx1 hx1
  have X1 : x1 = l2.headD 0 := by rw [hx1]; exact tE_60 hE2
  have here : ∀ (r : qS × Int) (v : Int), r.1 = S → v = r.2 → (0 ≤ v ∧ v ≤ 1) → cZ t B o u ((a3 + 1) * 4) μ μ r v := fun r v er ev bv => ⟨zq0_r μ, ev, fun _ => ⟨by rw [er]; exact hq, cF_r _ μ⟩, by omega⟩
  have part : (l2.headD 0 = 201 ∨ l2.headD 0 = 202) → tE μ (yar B) (μ.1 63 (μ.1 61 a2 + 0)) l2.tail := fun z => by
    have y := yar_w1 i21.2
    rcases z with z | z
    · exact tE_tl w hE2 z y.1
    · exact tE_tl w hE2 z y.2
  refine And.intro ⟨by omega, by omega⟩ (And.intro (fun c2 => ?_) (And.intro (fun c2 => ?_) (And.intro (fun c2 => ?_) (And.intro (fun c2 => ?_) trivial))))
  · have er : qArg (qB B u n) S l1 l2 = (S, if l1 = l2 then 1 else 0) := by unfold qArg; rw [if_neg (by omega), if_neg (by omega), if_neg (by omega)]
    refine And.intro ⟨⟨by omega, by omega⟩, ⟨by omega, by omega⟩⟩ (And.intro (fun c3 => ?_) (fun c3 => ?_))
    · have ne : ¬ l1 = l2 := fun e => by
        rw [e] at hE1
        exact c3 (tE_1n w hE2 hE1)
      exact And.intro trivial (And.intro ⟨by omega, by omega⟩ (hQ _ _ (by rw [er, if_neg ne]; exact here _ _ rfl rfl ⟨by omega, by omega⟩)))
    · have eq : l1 = l2 := by
        rw [show a1 = a2 by omega] at hE1
        exact tE_fn hE1 hE2
      exact And.intro trivial (And.intro ⟨by omega, by omega⟩ (hQ _ _ (by rw [er, if_pos eq]; exact here _ _ rfl rfl ⟨by omega, by omega⟩)))
  · have er : qArg (qB B u n) S l1 l2 = (S, 1) := by unfold qArg; rw [if_pos (by omega)]
    exact And.intro trivial (And.intro ⟨by omega, by omega⟩ (hQ _ _ (by rw [er]; exact here _ _ rfl rfl ⟨by omega, by omega⟩)))
  · have z : l2.headD 0 = 201 := by omega
    have er : qArg (qB B u n) S l1 l2 = qB B u n S l1 l2.tail := by unfold qArg; rw [if_neg (by omega), if_pos z]
    refine ⟨gk_X6_part, gm_X6_part hg d (by omega), a2, 0, yar B, rfl, hE2.1, ⟨by omega, by rw [← hx1, X1, z, (yar_w1 i21.2).1]; omega⟩, w, ?_⟩
    intro x4 kx4 hx4
    refine ⟨(gk_X0_below n), hT d (by omega), a1, x4, a3 + 1, t, B, o, u, S, l1, l2.tail, rfl, ⟨by omega, by omega⟩, hq, hcB, hE1, hY1, by rw [hx4]; exact part (Or.inl z), qZ_tl i21.2 hZ2 (Or.inl z), hu, hS, ?_⟩
    intro x5 m6 p6
    have b6 := p6.2.2.2
    exact And.intro trivial (And.intro ⟨by omega, by omega⟩ (hQ _ _ (by rw [er]; exact p6)))
  · have z : l2.headD 0 = 202 := by omega
    have er : qArg (qB B u n) S l1 l2 = qB B u n S l2.tail l1 := by unfold qArg; rw [if_neg (by omega), if_neg (by omega), if_pos z]
    refine ⟨gk_X6_part, gm_X6_part hg d (by omega), a2, 0, yar B, rfl, hE2.1, ⟨by omega, by rw [← hx1, X1, z, (yar_w1 i21.2).2]; omega⟩, w, ?_⟩
    intro x8 kx8 hx8
    refine ⟨(gk_X0_below n), hT d (by omega), x8, a1, a3 + 1, t, B, o, u, S, l2.tail, l1, rfl, ⟨by omega, by omega⟩, hq, hcB, by rw [hx8]; exact part (Or.inr z), qZ_tl i21.2 hZ2 (Or.inr z), hE1, hY1, hu, hS, ?_⟩
    intro x9 m10 p10
    have b10 := p10.2.2.2
    exact And.intro trivial (And.intro ⟨by omega, by omega⟩ (hQ _ _ (by rw [er]; exact p10)))
def gk_X0_boundsBelow (n : Nat) : zC := fun As μ Q => ∃ (a1 : Int) (a2 : Int) (a3 : Int) (t : Nat) (B : yB) (o u : Int) (S : qS) (l1 l2 : qR), As = [.inr (.inr (52, 52)), .inl a1, .inl a2, .inl a3] ∧ (a3 = 40 - (n : Int) ∧ n ≤ 39) ∧ cQ μ t B o u S ∧ cB B o S ∧ tE μ (yar B) a1 l1 ∧ qY (yar B) (qH B o S.2.2.length) l1 ∧ ¬ l1.headD 0 < 21 ∧ tE μ (yar B) a2 l2 ∧ qY (yar B) (qH B o S.2.2.length) l2 ∧ (0 ≤ u ∧ u ≤ 3000) ∧ 0 ≤ S.1 ∧ (∀ (v : Int) (μ' : zM), cZ t B o u ((a3 + 1) * 4) μ μ' (qBs (qB B u n) l2 (qBo B S l1) S) v → Q (some (.inl v)) μ')
theorem qBo_q {B : yB} {o : Int} {S S' : qS} {l : qR} (h : qLe S S') (hY : qY (yar B) (qH B o S.2.2.length) l) (f : 0 ≤ aFs B o ∧ aFs B o + aNs B o ≤ 80) (hC : B.1 0 0 ≤ 21) : qBo B S' l = qBo B S l := by
  have hh := qY_h hY
  have q := (qLe_f (t := l) h (by omega)).2
  unfold qBo
  split
  · rename_i z; rw [q z]
  · rfl
theorem qBo_3 {m : zM} {t : Nat} {B : yB} {o u : Int} {S : qS} {l : qR} (h : cQ m t B o u S) (hcB : cB B o S) (hY : qY (yar B) (qH B o S.2.2.length) l) (nc : ¬ l.headD 0 < 21) : (qBo B S l).length ≤ 3 := by
  have hh := qY_h hY
  have fb := aFs_b hcB.1 hcB.2.2.1
  have i1 := hcB.1.1.1
  unfold qBo
  split
  · rename_i z
    have vv := (h.2.2.2.2.2.2 (l.headD 0 - 300).toNat (by omega)).1
    exact vv.2.1
  · split
    · simp
    · have b2 : B.1 6 (l.headD 0 - 32) ≤ 2 := by
        have i1 := hcB.1.1.1
        have o0 : ¬ o < 0 := fun q => by
          have e1 : aNs B o = 0 := by unfold aNs; rw [if_pos q]
          omega
        have eF : aFs B o = B.1 2 o := by unfold aFs; rw [if_neg o0]
        have eN : aNs B o = B.1 3 o := by unfold aNs; rw [if_neg o0]
        have i2 := hcB.1.1.2 o (by omega) hcB.2.2.1.2
        exact (h.1.1.2.1.2.2 (l.headD 0 - 32) (by omega) (by omega)).2.2
      unfold qPb
      rw [List.length_map, List.length_range]
      omega
set_option maxHeartbeats 4000000 in
theorem gm_X0_boundsBelow {g : zΓ} (hg : zg g) (n : Nat) (hT : ∀ d, 9 + 3 * n ≤ d → zOk g d 5 (gk_X0_below n)) (d : Nat) (hd : 10 + 3 * n ≤ d) : zOk g d 6 (gk_X0_boundsBelow n) := by
  obtain ⟨d, rfl⟩ : ∃ d', d = d' + 1 := ⟨d - 1, by omega⟩
  refine zOk_loop hg (show mt_tab[6]? = some mt_X0_boundsBelow from rfl) ([(3, [0, 1, 2, 3, 4])], []) 35 rfl fun As μ Q hC => ?_
  obtain ⟨a1, a2, a3, t, B, o, u, S, l1, l2, rfl, ha3, hq, hcB, hE1, hY1, nc, hE2, hY2, hu, hS, hQ⟩ := hC
  have ok := hq.1.2.2.1
  have i21 := hcB.1.1.1.1
  have fb := aFs_b hcB.1 hcB.2.2.1
  have l3 := qBo_3 hq hcB hY1 nc
  refine ⟨rfl, fun pc vs μ' n' => ∃ (v4 : Int) (S' : qS), vs = [.inr (.inr (52, 52)), .inl a1, .inl a2, .inl a3, .inl v4] ∧ (0 ≤ v4 ∧ v4 ≤ 3) ∧ (cQ μ' t B o u S' ∧ cB B o S' ∧ cF ((a3 + 1) * 4) μ μ' ∧ qLe S S') ∧ qBs (qB B u n) l2 (qBo B S l1) S = qBs (qB B u n) l2 ((qBo B S l1).drop v4.toNat) S' ∧ n' = (Int.toNat (2147483648 - v4)), ?_, ?_, trivial⟩
  · refine Exists.intro (Int.toNat (2147483648 - 0)) ?_
    exact ⟨0, S, rfl, ⟨by omega, by omega⟩, ⟨hq, hcB, cF_r _ μ, qLe_r S⟩, rfl, rfl⟩
  · intro vs m0 n' hI
    obtain ⟨v4, S', rfl, hv4, ⟨q0, b0, f0, le0⟩, er, rfl⟩ := hI
    have nn := qLe_n le0
    have E1 := tE_o hE1 ok f0.2.1
    have E2 := tE_o hE2 ok f0.2.1
    have Y1 := qY_m (qH_m nn) hY1
    have Y2 := qY_m (qH_m nn) hY2
    have eb := qBo_q le0 hY1 ⟨fb.1, fb.2.2⟩ i21.2
    have S0 : 0 ≤ S'.1 := by have := le0.1; omega
    have w1 := (q0.1.2.2.1).2.2.2.2.1
    have e1 := E1.1
    have e2 := E2.1
    have done : (qBo B S l1).length ≤ v4.toNat → cZ t B o u ((a3 + 1) * 4) μ m0 (qBs (qB B u n) l2 (qBo B S l1) S) 0 := fun h => by
      rw [er, List.drop_eq_nil_of_le h]
      exact ⟨f0.1, rfl, fun _ => ⟨q0, f0⟩, by omega⟩
    refine And.intro ⟨⟨by omega, by omega⟩, ⟨by omega, by omega⟩⟩ (And.intro (fun c1 => ?_) (fun c1 => ?_))
    · exact And.intro trivial (And.intro ⟨by omega, by omega⟩ (hQ _ _ (done (by omega))))
    · refine ⟨gk_X0_boundOf, gm_X0_boundOf hg d (by omega), a1, v4, t, B, o, u, S', l1, rfl, ⟨by omega, by omega⟩, q0, b0, E1, Y1, nc, ?_⟩
      intro x2 p2 kx2 lx2
      rw [eb] at p2
      refine And.intro ⟨by omega, by omega⟩ (And.intro (fun c3 => ?_) (fun c3 => ?_))
      · obtain ⟨lt, E⟩ : v4 < (qBo B S l1).length ∧ tE m0 (yar B) x2 ((qBo B S l1).getD v4.toNat []) := by
          rcases p2 with p2 | p2
          · exact p2
          · exfalso; omega
        have hd1 : (qBo B S l1).drop v4.toNat = (qBo B S l1).getD v4.toNat [] :: (qBo B S l1).drop (v4.toNat + 1) := qCk_d (by omega)
        have mem : (qBo B S l1).getD v4.toNat [] ∈ qBo B S' l1 := by
          rw [eb, List.getD_eq_getElem?_getD, List.getElem?_eq_getElem (by omega)]
          exact List.getElem_mem _
        have Yb := qBo_v b0.1 b0.2.1 b0.2.2.1 b0.2.2.2 Y1 nc _ mem
        rw [hd1] at er
        refine ⟨(gk_X0_below n), hT d (by omega), x2, a2, a3 + 1, t, B, o, u, S', _, l2, rfl, ⟨by omega, by omega⟩, q0, b0, E, Yb, E2, Y2, hu, S0, ?_⟩
        intro x4 m5 p5
        obtain ⟨z5, v5, g5, k5⟩ := p5
        have vv := qB_v (u := u) b0.1 b0.2.1 b0.2.2.1 n S' _ l2 b0.2.2.2 Yb Y2
        refine And.intro ⟨by omega, by omega⟩ (And.intro (fun c7 => ?_) (fun c7 => ?_))
        · have x0 : x4 = 0 := by omega
          obtain ⟨g6, g7⟩ := g5 (by omega)
          refine Exists.intro (Int.toNat (2147483648 - (v4 + 1))) (And.intro (by omega) ?_)
          refine ⟨v4 + 1, _, rfl, ⟨by omega, by omega⟩, ⟨g6, ⟨b0.1, b0.2.1, b0.2.2.1, vv.2⟩, cF_t f0 g7, qLe_t le0 vv.1⟩, ?_, rfl⟩
          rw [er, show (v4 + 1).toNat = v4.toNat + 1 by omega, qBs, if_pos (by rw [← v5]; exact x0)]
        · refine And.intro trivial (And.intro ⟨by omega, by omega⟩ (hQ _ _ ?_))
          rw [er, qBs, if_neg (by rw [← v5]; omega)]
          exact ⟨zq0_t f0.1 z5, v5, fun q => ⟨(g5 q).1, cF_t f0 (g5 q).2⟩, k5⟩
      · refine And.intro trivial (And.intro ⟨by omega, by omega⟩ (hQ _ _ (done ?_)))
        rcases p2 with p2 | p2
        · exfalso; have := p2.2.1; omega
        · omega
