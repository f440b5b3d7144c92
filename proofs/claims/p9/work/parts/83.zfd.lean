/-! ### what is found above a class: the end -/
theorem zSR_cmp2 {m : zM} {lo f1 n1 w1 f2 n2 w2 w3 : Int} (hD : zDt m lo) (det : ∀ j : Int, 0 ≤ j → j < n1 → ∀ z : Int, lo ≤ z → z < zTop m → zSR m f2 n2 w2 (m.1 70 (4 * w1 + j)) z → z = m.1 70 (4 * w3 + j)) {x y z : Int} (h1 : zSR m f1 n1 w1 x y) (h2 : zSR m f2 n2 w2 y z) (hz : lo ≤ z ∧ z < zTop m) : zSR m f1 n1 w3 x z := by
  refine ⟨fun x z => ∃ y, zSR m f1 n1 w1 x y ∧ zSR m f2 n2 w2 y z ∧ lo ≤ z ∧ z < zTop m, ⟨y, h1, h2, hz⟩, fun x z hxz => ?_⟩
  obtain ⟨y, h1, h2, hz⟩ := hxz
  rcases zSR_st h1 with ⟨c1, c2, c3, c4⟩ | ⟨c1, c2, c3, c4, c5⟩
  · rw [c4] at h2
    exact Or.inl ⟨c1, c2, c3, det _ c2 c3 z hz.1 hz.2 h2⟩
  · rcases zSR_st h2 with ⟨d1, -, -, -⟩ | ⟨d1, d2, d3, d4, d5⟩
    · rw [c2] at d1; exact absurd d1 c1
    · refine Or.inr ⟨c1, by rw [d2, c2], by rw [d3, c3], by rw [d4, c4], fun i i0 i1 => ⟨_, c5 i i0 i1, d5 i i0 (by omega), ?_⟩⟩
      have l0 := hD.1.1.1
      have p := (hD.1.2.1 z (by omega) hz.2).2.1 i i0 (by omega)
      exact ⟨hD.2.2 z hz.1 hz.2 i i0 (by omega), by omega⟩
theorem zFA_dt {ν m : zM} {lo c P i d g J : Int} (h : zFA ν m lo c P i d g J) : zDt m lo := ⟨h.1.1, h.1.2.1, zWf_lo h.1.2.2.2.2⟩
/-- a label, of what is found in the end -/
theorem zFA_cmp {ν m : zM} {lo c P I x y z f j : Int} (hB : zBs ν lo c P) (hF : zFA ν m lo c P I 0 1 I) (j0 : 0 ≤ j) (j1 : j < I) (j2 : j < ν.1 79 (21 + c)) (e0 : 0 ≤ zXe ν c j) (f0 : 0 ≤ f) (f1 : f ≤ 20) (a0 : 0 ≤ zXa ν (zXe ν c j) f) (h1 : zSR m (zXf ν f) (zXn ν f) (zXa ν (zXe ν c j) f) x y) (h2 : zSR m (zXf ν (zXe ν c j)) (zXn ν (zXe ν c j)) (zXs ν c j) y z) (hz : lo ≤ z ∧ z < zTop m) : zSR m (zXf ν f) (zXn ν f) (zXa m c f) x z ∧ 0 ≤ zXa m c f := by
  have D := zFA_dt hF
  have l0 := D.1.1.1
  obtain ⟨g1, g2, g3⟩ := hF.2.2.2.2.2 rfl
  obtain ⟨w1, w2⟩ := g2 j f j0 j2 f0 f1 (Or.inl j1) e0 a0
  have S := zBs_s hB j0 j2
  have T := (zBs_t hB e0 S.2.1 f0 f1 a0).1
  have oa := hF.1.2.2.1 _ a0 T.1.2
  have t4 := hF.1.2.2.2.1
  have tT := T.1.2
  refine ⟨zSR_cmp2 D (fun k k0 k1 z' a b hz' => ?_) h1 h2 hz, w2⟩
  rcases hF.2.2.1 f f0 f1 with q | q
  · omega
  · rcases zSR_st w1 with ⟨c1, -, -, -⟩ | ⟨c1, c2, c3, c4, c5⟩
    · rw [oa.1, T.2.1] at c1; omega
    · have hk : k < m.1 69 (zXa ν (zXe ν c j) f) := by rw [oa.2.2.1, T.2.2.2.2.1]; exact k1
      have n1 := (hF.1.1.2.1 _ a0 (by omega)).2.1 k k0 hk
      have n2 := (hF.1.1.2.1 _ w2 q.1.2).2.1 k k0 (by omega)
      have qT := q.1.2
      exact zdet D ⟨n1.1, by omega⟩ hz' (c5 k k0 hk) ⟨a, b⟩ ⟨D.2.2 _ q.1.1 q.1.2 k k0 (by omega), by omega⟩
theorem zFA_cnt {ν m : zM} {lo c P I : Int} (hB : zBs ν lo c P) (hF : zFA ν m lo c P I 0 1 I) (i0 : 0 ≤ I) (hI : I ≤ ν.1 79 (21 + c)) : zTop m - zTop ν ≤ (if I = 0 then 0 else zWs ν c.toNat) := by
  have D := zFA_dt hF
  have l0 := D.1.1.1
  by_cases h : I = 0
  · rw [if_pos h]
    have := zLb_cnt (J := I) l0 hB.1.1.2.1 (fun f a b => (hB.2.2.1.1 f a b).1) (by have := hB.2.1.1; omega) i0 D hF.2.2.2.2.1
    rw [h] at this
    omega
  · rw [if_neg h]
    have h1 := zpigI (R := fun (q : Int × Int) z => (lo ≤ z ∧ z < zTop m) ∧ (0 ≤ q.2 ∧ q.2 < zTop m) ∧ zSR m (zXf ν q.1) (zXn ν q.1) (zXa m c q.1) q.2 z) (fun q z z' a b => zdet D a.2.1 a.2.2 b.2.2 a.1 b.1) (a := zTop ν) (b := zTop m) (L := zLa ν c.toNat) (fun z a b => by
      obtain ⟨q, q1, q2, q3, a1, a2, a3, a4, y, a5, a6, a7⟩ := hF.2.2.2.2.1 z a b
      have j2 : q.1 < ν.1 79 (21 + c) := by have := q1.1.2; omega
      have f20 : q.2.1 ≤ 20 := by have := q2.2; have := hB.2.1.2; omega
      exact ⟨q.2, zLa_mem (f := q.2.1) (x := q.2.2) q2.1 (by have := q2.2; omega) q3, a1, a2, (zFA_cmp hB hF q1.1.1 q1.1.2 j2 q1.2 q2.1 f20 a3.1.1 a6 a7 a1).1⟩)
    have h2 := zLa_len l0 hB.1.1.2.1 (n := c.toNat) (P := P) (fun f a b => (hB.2.2.1.1 f a (by omega)).1)
    omega
/-- a text's own parts -/
theorem zGl_c {ν m : zM} {lo c P I i : Int} (hB : zBs ν lo c P) (hF : zFA ν m lo c P I 0 1 I) (i0 : 0 ≤ i) (i1 : i < ν.1 79 (21 + c)) (hb : zTop m ≤ 20000) {σ : Int} (hσ : σ ∈ zsb m 20000 (zXs ν c i)) : zGl m c σ := by
  have D := zFA_dt hF
  have l0 := D.1.1.1
  have S := zBs_s hB i0 i1
  obtain ⟨⟨f1, f2, f3, f4, f5⟩, ⟨fa, fb⟩, fe, ⟨fo1, fo2⟩, fl, fg⟩ := hF
  have sx : 0 ≤ zXs ν c i := by have := S.1.1.1; omega
  have sT := S.1.1.2
  have x76 : ∀ q : Int, zXf m q = zXf ν q := fun q => by unfold zXf; rw [fa 76 (by omega) (by omega)]
  have x77 : ∀ q : Int, zXn m q = zXn ν q := fun q => by unfold zXn; rw [fa 77 (by omega) (by omega)]
  have x78 : ∀ q r : Int, zXs m q r = zXs ν q r := fun q r => by unfold zXs; rw [fa 78 (by omega) (by omega)]
  have own := hB.2.2.2.2.1
  have A : zAe ν lo c c (zXa ν c c) := by
    rcases hB.2.2.2.2.2.1 c (by have := hB.2.1.1; omega) hB.2.1.2 with q | q
    · have := own.1; omega
    · exact q.1
  have oa := f3 _ own.1 A.1.2
  have nA := hB.1.1.2.1 _ own.1 A.1.2
  have aT := A.1.2
  refine Or.inr (Or.inr (Or.inr ⟨c, σ, ⟨by have := hB.2.1.1; omega, Int.le_refl _⟩, by rw [fo1]; exact own.1, ⟨i, i0, by rw [fa 79 (by omega) (by omega)]; exact i1, by rw [x78]; exact hσ⟩, ?_⟩))
  rw [x76, x77, fo1]
  refine zSR_id f2 (fun y => y ∈ zsb m 20000 (zXs ν c i)) (fun y hy => ?_) (fun k k0 k1 => ?_) hσ
  · have r := zsb_lo f1.2.1 l0 (zWf_lo f5) 20000 _ y S.1.1.1 (by omega) hy
    refine ⟨r, fun hk => ?_, fun k k0 k1 => zsb_cl f1.2.1 20000 _ sx (by omega) (by omega) y hy k k0 k1⟩
    have pk := zPar_k (zPar_sb 20000 _ y (zPar_old S.2.2.2.1 f3 hB.1.1.2.1 sx sT) hy) hk
    exact ⟨((f5 y r.1 r.2).2.2.1 hk).2, pk.1, pk.2⟩
  · have hc := A.2.2.2.2.1
    have h4 := nA.1.2
    have p := nA.2.1 k k0 (by omega)
    have lo1 := (hB.1.2.2 _ A.1.1 A.1.2).1 k k0 (by omega)
    have oo := own.2.1 k k0 k1
    have op := f3 _ p.1 (by omega)
    rw [oa.2.2.2.2 k k0 (by omega), op.1, op.2.1, op.2.2.1]
    refine ⟨⟨lo1, by omega⟩, oo.1, oo.2, ((hB.1.2.2 _ lo1 (by omega)).2.2.1 oo.1).2⟩
theorem zFA_end {ν m : zM} {lo c P I : Int} (hB : zBs ν lo c P) (hF : zFA ν m lo c P I 0 1 I) (hI : I = ν.1 79 (21 + c)) (hb : zTop m ≤ 20000) : zAr m lo c := by
  have D := zFA_dt hF
  have l0 := D.1.1.1
  have GC := fun (i : Int) (i0 : 0 ≤ i) (i1 : i < ν.1 79 (21 + c)) (σ : Int) (hσ : σ ∈ zsb m 20000 (zXs ν c i)) => zGl_c hB hF i0 i1 hb hσ
  have CM := fun (x y z f j : Int) (j0 : 0 ≤ j) (j1 : j < ν.1 79 (21 + c)) => zFA_cmp (x := x) (y := y) (z := z) (f := f) (j := j) hB hF j0 (by omega) j1
  obtain ⟨⟨f1, f2, f3, f4, f5⟩, ⟨fa, fb⟩, fe, ⟨fo1, fo2⟩, fl, fg⟩ := hF
  obtain ⟨g1, g2, g3⟩ := fg rfl
  have hB2 := hB.2.1
  have x76 : ∀ q : Int, zXf m q = zXf ν q := fun q => by unfold zXf; rw [fa 76 (by omega) (by omega)]
  have x77 : ∀ q : Int, zXn m q = zXn ν q := fun q => by unfold zXn; rw [fa 77 (by omega) (by omega)]
  have z0n : zXn ν 0 = 0 := by unfold zXn; rw [show (21 + 0 : Int) = 21 by omega]; exact hB.2.2.1.2.2
  have own := hB.2.2.2.2.1
  have A : zAe ν lo c c (zXa ν c c) := by
    rcases hB.2.2.2.2.2.1 c (by omega) hB2.2 with q | q
    · have := own.1; omega
    · exact q.1
  have oa := f3 _ own.1 A.1.2
  have nA := hB.1.1.2.1 _ own.1 A.1.2
  have aT := A.1.2
  have ownm : ∀ k : Int, 0 ≤ k → k < zXn ν c → m.1 67 (m.1 70 (4 * zXa ν c c + k)) = 1 ∧ m.1 68 (m.1 70 (4 * zXa ν c c + k)) = zXf ν c + k ∧ m.1 69 (m.1 70 (4 * zXa ν c c + k)) = 0 := fun k k0 k1 => by
    have hc := A.2.2.2.2.1
    have h4 := nA.1.2
    have p := nA.2.1 k k0 (by omega)
    have lo1 := (hB.1.2.2 _ A.1.1 A.1.2).1 k k0 (by omega)
    have oo := own.2.1 k k0 k1
    have op := f3 _ p.1 (by omega)
    rw [oa.2.2.2.2 k k0 (by omega), op.1, op.2.1, op.2.2.1]
    exact ⟨oo.1, oo.2, ((hB.1.2.2 _ lo1 (by omega)).2.2.1 oo.1).2⟩
  refine ⟨fun d d0 d1 => ?_, ?_⟩
  · rcases fe d d0 d1 with q | q
    · exact Or.inl q
    · have a0 : 0 ≤ zXa m c d := by have := q.1.1; omega
      refine Or.inr ⟨q, g1 d d0 d1 a0, fun σ hσ => ?_⟩
      have sr := zsb_lo f1.2.1 l0 (zWf_lo f5) 20000 _ σ q.1.1 q.1.2 hσ
      rcases g3 d d0 d1 a0 with e | e | ⟨j, j0, j1, j2, j3, -⟩
      · rw [e, fo1] at hσ
        rcases zsb_mem (k := 19999) |>.mp hσ with h | ⟨k, k0, k1, k2⟩
        · exact Or.inl (by rw [fo1]; exact h)
        · rw [oa.2.2.1, A.2.2.2.2.1] at k1
          have o := ownm k k0 k1
          rcases zsb_mem (k := 19998) |>.mp k2 with h | ⟨k', k0', k1', -⟩
          · exact Or.inr (Or.inl (by rw [h]; exact o.1))
          · omega
      · rw [e] at hσ
        rcases zsb_mem (k := 19999) |>.mp hσ with h | ⟨k, k0, k1, k2⟩
        · exact Or.inr (Or.inr (Or.inl h))
        · exfalso
          rcases fe 0 (by omega) (by omega) with q0 | q0
          · omega
          · have := q0.2.2.2.2.1
            rw [x77, z0n] at this
            omega
      · have S := zBs_s hB j0 j1
        have T := zBs_t hB j2 S.2.1 d0 d1 j3
        have sx : 0 ≤ zXs ν c j := by have := S.1.1.1; omega
        have sT := S.1.1.2
        have os := f3 _ sx sT
        obtain ⟨w1, w2⟩ := g2 j d j0 j1 d0 d1 (Or.inl (by omega)) j2 j3
        have ins : ∀ k : Int, 0 ≤ k → k < zXn ν (zXe ν c j) → m.1 70 (4 * zXs ν c j + k) ∈ zsb m 20000 (zXs ν c j) := fun k k0 k1 => zsb_mem (k := 19999) |>.mpr (Or.inr ⟨k, k0, by rw [os.2.2.1, S.2.2.2.2]; exact k1, zsb_self _ _ _⟩)
        rcases zSR_sub 20000 _ _ σ w1 hσ with ⟨τ, t1, t2⟩ | ⟨k, k0, k1, k2⟩
        · rw [zsb_old f3 hB.1.1.2.1 20000 _ j3 T.1.1.2] at t1
          have tr := zsb_lo hB.1.1.2.1 l0 (zWf_lo hB.1.2.2) 20000 _ τ T.1.1.1 T.1.1.2 t1
          have ot := f3 τ (by omega) tr.2
          rcases T.2.2 τ t1 with h | h | h | ⟨f, x, y1, y2, y3, y4⟩
          · have owe := (hB.2.2.1.1 _ j2 S.2.1).2.2
            have Ae := (zBs_t hB j2 S.2.1 j2 (by have := S.2.1; omega) owe.1).1
            have oe := f3 _ owe.1 Ae.1.2
            have nE := hB.1.1.2.1 _ owe.1 Ae.1.2
            have eT := Ae.1.2
            have e := zdet D ⟨by omega, by omega⟩ t2 (y' := zXs ν c j) (by
              rw [h]
              refine zSR_own (by rw [oe.1]; exact Ae.2.1) (by rw [os.1]; exact S.1.2.2) (by rw [os.2.1, oe.2.1, Ae.2.2.1]; rfl) (by rw [os.2.2.1, oe.2.2.1, S.2.2.2.2, Ae.2.2.2.2.1]) (by rw [oe.2.2.1]; exact Ae.2.2.2.2.1) (fun k k0 k1 => ?_)
              have h4 := nE.1.2
              have hc := Ae.2.2.2.2.1
              have p := nE.2.1 k k0 (by omega)
              rw [oe.2.2.2.2 k k0 (by omega), (f3 _ p.1 (by omega)).1, (f3 _ p.1 (by omega)).2.1]
              exact owe.2.1 k k0 k1) sr ⟨S.1.1.1, by omega⟩
            rw [e]
            exact GC j j0 j1 _ (zsb_self _ _ _)
          · rcases zSR_st t2 with ⟨c1, c2, c3, c4⟩ | ⟨c1, -⟩
            · rw [c4]
              exact GC j j0 j1 _ (ins _ c2 c3)
            · rw [ot.1] at c1; exact absurd h c1
          · have owe := (hB.2.2.1.1 _ j2 S.2.1).2.2
            have A0 := (zBs_t hB j2 S.2.1 (d := 0) (by omega) (by omega) owe.2.2).1
            rw [← h] at A0
            rcases zSR_st t2 with ⟨c1, -, -, -⟩ | ⟨c1, c2, c3, c4, -⟩
            · rw [ot.1, A0.2.1] at c1; omega
            · rw [ot.1, A0.2.1] at c2
              rw [ot.2.1, A0.2.2.1] at c3
              rw [ot.2.2.1, A0.2.2.2.2.1, z0n] at c4
              rcases fe 0 (by omega) (by omega) with q0 | q0
              · omega
              · have k5 := q0.2.2.2.2.1
                rw [x77, z0n] at k5
                exact Or.inr (Or.inr (Or.inl (f2 σ _ sr.1 sr.2 q0.1.1 q0.1.2 ⟨by rw [q0.2.1, c2], by rw [q0.2.2.1, c3], by rw [k5, c4], fun k k0 k1 => by omega⟩)))
          · have hf20 : f ≤ 20 := by have := S.2.1; omega
            have Af := (zBs_t hB j2 S.2.1 (d := f) y1.1 hf20 y2).1
            have xr := zXm_rng l0 hB.1.1.2.1 (hB.2.2.1.1 f y1.1 (by have := S.2.1; omega)).1 y3
            have y4m := zSR_old f3 hB.1.1.2.1 y4 xr ⟨by omega, tr.2⟩ ⟨y2, Af.1.2⟩ (by rw [Af.2.2.2.2.1]; exact Int.le_refl _)
            obtain ⟨u1, u2⟩ := CM x τ σ f j j0 j1 j2 y1.1 hf20 y2 y4m t2 sr
            refine Or.inr (Or.inr (Or.inr ⟨f, x, ⟨y1.1, by have := S.2.1; omega⟩, u2, ?_, ?_⟩))
            · obtain ⟨i, i0, i1, i2⟩ := y3
              have hs := ((hB.2.2.1.1 f y1.1 (by have := S.2.1; omega)).1.2 i i0 i1).1.1
              refine ⟨i, i0, by rw [fa 79 (by omega) (by omega)]; exact i1, ?_⟩
              have e78 : zXs m f i = zXs ν f i := by unfold zXs; rw [fa 78 (by omega) (by omega)]
              rw [e78, zsb_old f3 hB.1.1.2.1 20000 _ (by omega) hs.2]
              exact i2
            · rw [x76, x77]; exact u1
        · refine GC j j0 j1 σ (zsb_sub (m := m) (S := fun y => y ∈ zsb m 20000 (zXs ν c j)) (fun y hy i i0 i1 => zsb_cl f1.2.1 20000 _ sx (by omega) (by omega) y hy i i0 i1) 20000 _ σ (ins k k0 k1) k2)
  · refine ⟨by rw [fo1]; exact own.1, fun k k0 k1 => ?_, fo2⟩
    rw [x77] at k1
    rw [fo1, x76]
    exact ⟨(ownm k k0 k1).1, (ownm k k0 k1).2.1⟩
