/-! ### what is found above a class: the steps -/
theorem zAe_c {m m' : zM} {lo c d a : Int} (h : zAe m lo c d a) (hc : ∀ j : Nat, 67 ≤ j → j ≤ 77 → m'.1 j = m.1 j) (ht : zTop m' = zTop m) : zAe m' lo c d a := by
  obtain ⟨h1, h2, h3, h4, h5, h6, h7⟩ := h
  refine ⟨by rw [ht]; exact h1, by rw [hc 67 (by omega) (by omega)]; exact h2, by rw [hc 68 (by omega) (by omega)]; exact h3, h4, ?_, ?_, ?_⟩
  · unfold zXn
    rw [hc 69 (by omega) (by omega), hc 77 (by omega) (by omega)]; exact h5
  · unfold zA2
    rw [hc 67 (by omega) (by omega), hc 69 (by omega) (by omega), hc 70 (by omega) (by omega)]; exact h6
  · unfold zXf zXn
    rw [hc 76 (by omega) (by omega), hc 77 (by omega) (by omega)]
    exact zPar_same h7 (hc 67 (by omega) (by omega)) (hc 68 (by omega) (by omega)) (hc 69 (by omega) (by omega)) (hc 70 (by omega) (by omega))
theorem zSR_c {m m' : zM} {f n w x y : Int} (h : zSR m f n w x y) (hc : ∀ j : Nat, 67 ≤ j → j ≤ 70 → m'.1 j = m.1 j) : zSR m' f n w x y := by
  unfold zSR zSt
  rw [hc 67 (by omega) (by omega), hc 68 (by omega) (by omega), hc 69 (by omega) (by omega), hc 70 (by omega) (by omega)]
  exact h
theorem zFA_0 {ν : zM} {lo c P : Int} (h : zBs ν lo c P) : zFA ν ν lo c P 0 0 1 0 := by
  obtain ⟨⟨h1, h2, h3⟩, h4, h5, h6, h7, h8, h9⟩ := h
  refine ⟨⟨h1, h2, zOld_r _ _, Int.le_refl _, h3⟩, ⟨fun _ _ _ => rfl, fun _ _ => rfl⟩, fun d a b => (h8 d a b).imp id (fun q => q.1), ⟨rfl, h7.2.2⟩, fun z a b => by omega, fun _ => ⟨fun d a b e => ?_, fun j f a b e g p => ?_, fun d a b e => ?_⟩⟩
  · rcases h8 d a b with q | q
    · omega
    · exact q.2
  · rcases p with p | p <;> omega
  · rcases h9 d a b e with q | q
    · exact Or.inl q
    · exact Or.inr (Or.inl q)
theorem zFA_skip {ν m : zM} {lo c P i d g J J' : Int} (h : zFA ν m lo c P i d g J) (hJ : J ≤ J') (ht : zXa ν (zXe ν c i) d < 0) : zFA ν m lo c P i (d + 1) g J' := by
  obtain ⟨h1, h2, h3, h4, h5, h6⟩ := h
  refine ⟨h1, h2, h3, h4, fun z a b => ?_, fun hg => ?_⟩
  · exact zLb_old h1.1.1.1 h1.1.2.1 (zOld_r _ _) (Int.le_refl _) hJ (h5 z a b)
  · obtain ⟨g1, g2, g3⟩ := h6 hg
    refine ⟨g1, fun j f a b c' e p q r => g2 j f a b c' e ?_ q r, fun d' a b e => ?_⟩
    · rcases p with p | ⟨p1, p2⟩
      · exact Or.inl p
      · refine Or.inr ⟨p1, ?_⟩
        rcases (show f < d ∨ f = d by omega) with z | z
        · exact z
        · subst z p1; omega
    · rcases g3 d' a b e with q | q | ⟨j, a1, a2, a3, a4, a5⟩
      · exact Or.inl q
      · exact Or.inr (Or.inl q)
      · refine Or.inr (Or.inr ⟨j, a1, a2, a3, a4, ?_⟩)
        rcases a5 with z | z
        · exact Or.inl z
        · exact Or.inr ⟨z.1, by omega⟩
theorem zFA_next {ν m : zM} {lo c P i d g J : Int} (hB : zBs ν lo c P) (h : zFA ν m lo c P i d g J) (i0 : 0 ≤ i) (i1 : i < ν.1 79 (21 + c)) (hd : c ≤ d) (hJ : J ≤ i + 1) : zFA ν m lo c P (i + 1) 0 g (i + 1) := by
  obtain ⟨h1, h2, h3, h4, h5, h6⟩ := h
  refine ⟨h1, h2, h3, h4, fun z a b => zLb_old h1.1.1.1 h1.1.2.1 (zOld_r _ _) (Int.le_refl _) hJ (h5 z a b), fun hg => ?_⟩
  obtain ⟨g1, g2, g3⟩ := h6 hg
  refine ⟨g1, fun j f a b c' e p q r => g2 j f a b c' e ?_ q r, fun d' a b e => ?_⟩
  · rcases p with p | ⟨p1, p2⟩
    · rcases (show j < i ∨ j = i by omega) with z | z
      · exact Or.inl z
      · have S := zBs_s hB a b
        have T := (zBs_t hB q S.2.1 c' e r).1.2.2.2.1
        have := S.2.1
        exact Or.inr ⟨z, by omega⟩
    · omega
  · rcases g3 d' a b e with q | q | ⟨j, a1, a2, a3, a4, a5⟩
    · exact Or.inl q
    · exact Or.inr (Or.inl q)
    · refine Or.inr (Or.inr ⟨j, a1, a2, a3, a4, Or.inl ?_⟩)
      rcases a5 with z | z <;> omega
theorem zFA_put {ν m m' m2 : zM} {lo c P i d g g' J st u k : Int} (hB : zBs ν lo c P) (hF : zFA ν m lo c P i d g J) (hJ1 : J ≤ i + 1) (i0 : 0 ≤ i) (i1 : i < ν.1 79 (21 + c)) (e0 : 0 ≤ zXe ν c i) (d0 : 0 ≤ d) (d1 : d ≤ 20) (t0 : 0 ≤ zXa ν (zXe ν c i) d)
    (hS : zSJ m m' lo st (zXf ν (zXe ν c i)) (zXn ν (zXe ν c i)) (zXs ν c i) (fun y => y ∈ zsb m 20000 (zXa ν (zXe ν c i) d))) (hu : zUq m' lo) (hst : m'.1 98 (zXa ν (zXe ν c i) d) = st) (hu2 : u = m'.1 97 (zXa ν (zXe ν c i) d)) (hfr : ∀ j : Nat, 75 ≤ j → j ≤ 96 → m'.1 j = m.1 j) (e80 : m2 = zu m' 80 k u) (hk : k = 21 * (21 + c) + d) (hg : g' = 1 → g = 1 ∧ m'.1 71 u ≤ 300 ∧ (zXa m c d < 0 ∨ zXa m c d = u)) : zFA ν m2 lo c P i (d + 1) g' (i + 1) := by
  obtain ⟨W, D, L⟩ := zFA_lab hB hF hJ1 i0 i1 e0 d0 d1 t0 hS hu
  obtain ⟨⟨l0, hw, ht⟩, hn, hwa, hsb, hlo, hpar, ⟨ts, tk, tv, tc, ta⟩, dc⟩ := zFA_pre hB hF i0 i1 e0 d0 d1 t0
  have S := zBs_s hB i0 i1
  have T := zBs_t hB e0 S.2.1 d0 d1 t0
  obtain ⟨⟨f1, f2, f3, f4, f5⟩, ⟨fa, fb⟩, fe, ⟨fo1, fo2⟩, fl, fg⟩ := hF
  have hB2 := hB.2.1
  have c2 : ∀ j : Nat, j ≠ 80 → m2.1 j = m'.1 j := fun j hj => by rw [e80, zu_ne hj]
  have tp2 : zTop m2 = zTop m' := congrFun (c2 66 (by decide)) _
  have tt := hS.2.2.1
  have ho' : zOld ν m' (zTop ν) := zOld_t f3 hS.2.1 f4
  have o2 : ∀ n : Int, zOld m' m2 n := fun n => zOld_same (fun j a b => c2 j (by omega))
  have ho2 : zOld ν m2 (zTop ν) := zOld_t ho' (o2 _) (Int.le_refl _)
  have hom : zOld m m2 (zTop m) := zOld_t hS.2.1 (o2 _) (Int.le_refl _)
  -- the row
  have row : ∀ d' : Int, zXa m2 c d' = if d' = d then u else zXa m c d' := fun d' => by
    unfold zXa
    rw [e80]
    by_cases q : d' = d
    · rw [if_pos q, q, ← hk, zu_at]
    · rw [if_neg q, zu_nk (by omega), hfr 80 (by omega) (by omega)]
  have SR := zSJ_SR hS f1.2.1 hpar ⟨t0, ht⟩ hst
  rw [← hu2] at SR
  have CL := zSJ_cls hS f1.2.1 hw (by omega) hwa t0 ht hst tk ta
  rw [← hu2] at CL
  have ulo : lo ≤ u := by rw [hu2]; exact zSJ_lo hS (fun x hx => (hlo x hx).1) hw (by have := (f1.2.1 _ hw.1 hw.2).1.2; omega) hwa t0 ht hst
  have x77 : ∀ q : Int, zXn m2 q = zXn ν q := fun q => by unfold zXn; rw [c2 77 (by decide), hfr 77 (by omega) (by omega), fa 77 (by omega) (by omega)]
  have x76 : ∀ q : Int, zXf m2 q = zXf ν q := fun q => by unfold zXf; rw [c2 76 (by decide), hfr 76 (by omega) (by omega), fa 76 (by omega) (by omega)]
  have SR2 := zSR_c SR (fun j a b => c2 j (by omega))
  have ent : zAe m2 lo c d u := by
    refine ⟨⟨ulo, by rw [tp2]; exact CL.1.2⟩, by rw [c2 67 (by decide)]; exact CL.2.1, by rw [c2 68 (by decide), CL.2.2.1]; exact tv, by omega, by rw [c2 69 (by decide), CL.2.2.2.1, tc, x77], ?_, ?_⟩
    · intro q a b
      rw [c2 67 (by decide), c2 70 (by decide)]
      rw [c2 69 (by decide)] at b
      exact CL.2.2.2.2 q a b
    · rw [x76, x77]
      refine zSR_par (fun j a b => ?_) SR2
      have os := ho2 _ hw.1 S.1.1.2
      have sc := S.2.2.2.2
      have h4 := (hB.1.1.2.1 _ hw.1 S.1.1.2).1.2
      exact zPar_a (zPar_old S.2.2.2.1 ho2 hB.1.1.2.1 hw.1 S.1.1.2) a (by rw [os.2.2.1]; omega)
  have tr : ∀ j f : Int, 0 ≤ j → j < ν.1 79 (21 + c) → 0 ≤ f → f ≤ 20 → 0 ≤ zXe ν c j → 0 ≤ zXa ν (zXe ν c j) f → ∀ y : Int, 0 ≤ y → y < zTop m → zSR m (zXf ν (zXe ν c j)) (zXn ν (zXe ν c j)) (zXs ν c j) (zXa ν (zXe ν c j) f) y → zSR m2 (zXf ν (zXe ν c j)) (zXn ν (zXe ν c j)) (zXs ν c j) (zXa ν (zXe ν c j) f) y := fun j f a b e h p q y y0 y1 r => by
    have S' := zBs_s hB a b
    have T' := (zBs_t hB p S'.2.1 e h q).1
    have sx : 0 ≤ zXs ν c j := by have := S'.1.1.1; omega
    have s1 := S'.1.1.2
    have t1 := T'.1.2
    exact zSR_old hom f1.2.1 r ⟨q, by omega⟩ ⟨y0, y1⟩ ⟨sx, by omega⟩ (by rw [(f3 _ sx s1).2.2.1, S'.2.2.2.2]; exact Int.le_refl _)
  refine ⟨⟨zND_t.2 (by rw [tp2]; exact zNDt_same (fun j a b => c2 j (by omega)) (zND_t.1 hS.1)), zUq_c hu (fun j a b => c2 j (by omega)) tp2, ho2, by omega, by rw [tp2]; exact zWf_same W (fun j a b => c2 j (by omega)) rfl⟩, ⟨fun j a b => by rw [c2 j (by omega), hfr j (by omega) (by omega), fa j a b], fun q hq => by rw [e80, zu_nk (by omega), hfr 80 (by omega) (by omega), fb q hq]⟩, fun d' a b => ?_, ⟨?_, ?_⟩, fun z a b => ?_, fun hg' => ?_⟩
  · rw [row]
    by_cases q : d' = d
    · rw [if_pos q, q]; exact Or.inr ent
    · rw [if_neg q]
      rcases fe d' a b with z | z
      · exact Or.inl z
      · refine Or.inr (zAe_c (zAe_old (n := c + 1) (Q := P) l0 f1.2.1 hS.2.1 tt (zEq_all (fun j a b => hfr j (by omega) (by omega))) ⟨by omega, by omega⟩ z) (fun j a b => c2 j (by omega)) tp2)
  · rw [row, if_neg (by omega)]; exact fo1
  · rw [row]
    split
    · omega
    · exact fo2
  · rw [tp2] at b
    exact zLb_old l0 hS.1.2.1 (o2 _) (by omega) (Int.le_refl _) (L z a b)
  · obtain ⟨q1, q2, q3⟩ := hg hg'
    obtain ⟨g1, g2, g3⟩ := fg q1
    have rng : ∀ d' : Int, 0 ≤ d' → d' ≤ 20 → 0 ≤ zXa m c d' → zXa m c d' < zTop m := fun d' a b e => by
      rcases fe d' a b with z | z
      · omega
      · exact z.1.2
    refine ⟨fun d' a b e => ?_, fun j f a b e h p q r => ?_, fun d' a b e => ?_⟩
    · rw [row] at e ⊢
      by_cases z : d' = d
      · rw [if_pos z, c2 71 (by decide)]; exact q2
      · rw [if_neg z] at e ⊢
        rw [(hom _ e (rng d' a b e)).2.2.2.1]
        exact g1 d' a b e
    · rw [row]
      by_cases z : f = d
      · rw [if_pos z]
        subst z
        rcases (show j < i ∨ j = i by rcases p with p | p <;> omega) with p1 | p1
        · obtain ⟨w1, w2⟩ := g2 j f a b e h (Or.inl p1) q r
          have w3 : zXa m c f = u := by rcases q3 with q3 | q3 <;> omega
          rw [w3] at w1 w2
          exact ⟨tr j f a b e h q r u w2 (by rw [← w3]; exact rng f e h (by omega)) w1, w2⟩
        · subst p1
          exact ⟨SR2, by omega⟩
      · rw [if_neg z]
        obtain ⟨w1, w2⟩ := g2 j f a b e h (by rcases p with p | p; exact Or.inl p; exact Or.inr ⟨p.1, by omega⟩) q r
        exact ⟨tr j f a b e h q r _ w2 (rng f e h w2) w1, w2⟩
    · rw [row] at e
      by_cases z : d' = d
      · subst z
        exact Or.inr (Or.inr ⟨i, i0, i1, e0, t0, Or.inr ⟨rfl, by omega⟩⟩)
      · rw [if_neg z] at e
        rcases g3 d' a b e with q | q | ⟨j, a1, a2, a3, a4, a5⟩
        · exact Or.inl q
        · exact Or.inr (Or.inl q)
        · refine Or.inr (Or.inr ⟨j, a1, a2, a3, a4, ?_⟩)
          rcases a5 with z | z
          · exact Or.inl z
          · exact Or.inr ⟨z.1, by omega⟩
