/-! ### a table is read: before and behind -/
theorem zTb_ot {μ m : zM} {C Pn tt n : Int} (h : zTb μ C Pn tt) (ho : zOld μ m n) (hn : tt ≤ n) (nd : ∀ x : Int, 0 ≤ x → x < n → zNd μ x) (hO : zOt μ m) (h84 : ∀ p : Int, 0 ≤ p → p < Pn → μ.1 84 p ≤ 2) : zTb m C Pn tt := by
  obtain ⟨h1, h2, h3, h4, h5, h6⟩ := h
  obtain ⟨o1, o2, o3, o4, o5⟩ := hO
  refine ⟨h1, fun c a b => ?_, fun c i a b d e => ?_, fun p i a b d e => ?_, fun c d a b e g => ?_, ?_⟩
  · have o := o1 c (by omega)
    rw [o.1, o.2.1, o.2.2]; exact h2 c a b
  · rw [(o1 c (by omega)).2.2] at e
    have k := h2 c a b
    rw [o2 _ (by omega)]
    exact zTs_old (h3 c i a b d e) ho hn
  · rw [o5 p (by omega)] at e
    have k := h84 p a b
    rw [o4 _ (by omega)]
    have g := h4 p i a b d e
    exact ⟨zTs_old g.1 ho hn, by rw [(ho _ g.1.1.1 (by have := g.1.1.2; omega)).1]; exact g.2⟩
  · rw [o3 _ (by omega)]
    rcases h5 c d a b e g with q | ⟨q1, q2, q3, q4⟩
    · exact Or.inl q
    · have hx := q1.1
      obtain ⟨p1, p2, p3, p4, p5⟩ := ho _ hx.1 (by omega)
      have nx := nd _ hx.1 (by omega)
      refine Or.inr ⟨zTs_old q1 ho hn, by rw [p1]; exact q2, by rw [p2]; exact q3, fun i i0 i1 => ?_⟩
      rw [p3] at i1
      have h4' := nx.1.2
      have p := nx.2.1 i i0 i1
      rw [p5 i i0 (by omega), (ho _ p.1 (by omega)).1]
      exact q4 i i0 i1
  · rw [o3 0 (by omega)]; exact h6
theorem zWf_ot {μ m : zM} {hi n C Pn F : Int} (h : zWf μ 0 hi C Pn F (μ.1 77)) (ho : zOld μ m n) (hn : hi ≤ n) (nd : ∀ x : Int, 0 ≤ x → x < n → zNd μ x) (hO : zOt μ m) (hC : C ≤ 21) : zWf m 0 hi C Pn F (m.1 77) := fun x a b => by
  obtain ⟨w1, w2, w3⟩ := zW1_old ho a (by omega) (nd x a (by omega)) (h x a b)
  refine ⟨w1, fun e => ⟨(w2 e).1, ?_⟩, w3⟩
  rw [(w2 e).2, (hO.1 _ (by have := (w2 e).1; omega)).2.1]
theorem zRI_ot {μ m : zM} {K K' : Int} (h : zRI μ K) (hn : zND m 0) (ht : zTop m = zTop μ) (ho : zOld μ m (zTop μ)) (hO : zOt μ m) (hv : ∀ j : Nat, 88 ≤ j → j ≤ 90 → m.1 j = μ.1 j) (h105 : m.1 105 = μ.1 105) (f : ∀ k : Nat, k = 20 ∨ k = 21 ∨ k = 23 ∨ k = 45 ∨ k = 48 ∨ k = 68 → m.1 66 ((k : Nat) : Int) = μ.1 66 ((k : Nat) : Int)) (h60 : μ.1 66 ((60 : Nat) : Int) ≤ m.1 66 ((60 : Nat) : Int) ∧ m.1 66 ((60 : Nat) : Int) ≤ μ.1 66 ((60 : Nat) : Int) + 100000) (h98 : ∀ x : Int, 0 ≤ x → x < 20000 → m.1 98 x ≤ m.1 66 ((60 : Nat) : Int)) (hk : K + 100000 ≤ K') (hK : K' ≤ 1999990000) : zRI m K' := by
  obtain ⟨⟨⟨q1, q2, q3, q4, q5, q6, q7⟩, r2, r3, r4, r5, r6⟩, s1, s2, s3, s4⟩ := h
  unfold zRI
  rw [f 20 (by decide), f 21 (by decide), f 23 (by decide), f 68 (by decide), h105]
  have C21 := q2.1
  refine ⟨⟨⟨hn, zTb_ot q2 ho q3 q1.2.1 hO s4, by omega, zWf_ot q4 ho q3 q1.2.1 hO (by omega), ?_, ?_, h98⟩, ?_, ?_, ?_, ?_, hK⟩, s1, s2, by omega, fun p a b => ?_⟩
  · rw [ht, f 45 (by decide)]; exact zWf_ot q5 ho (Int.le_refl _) q1.2.1 hO (by omega)
  · rw [f 45 (by decide)]; exact zNf_old q6 ho (by omega) (hv 88 (by omega) (by omega)) (hv 89 (by omega) (by omega)) (hv 90 (by omega) (by omega))
  · rw [ht, f 45 (by decide), f 48 (by decide)]; exact r2
  · rw [f 45 (by decide)]; exact r3
  · rw [f 48 (by decide)]; exact r4
  · rw [f 48 (by decide)]; omega
  · rw [hO.2.2.2.2 p (by omega)]; exact s4 p a b
/-- before the first declaration -/
def zRr (μ m : zM) (d : Int) : Prop := (∀ j : Nat, j ≠ 66 → j ≠ 73 → j ≠ 76 → j ≠ 77 → j ≠ 79 → j ≠ 80 → j ≠ 3000075 → m.1 j = μ.1 j) ∧ (∀ k : Nat, k ≠ 24 → k ≠ 25 → k ≠ 26 → k ≠ 27 → k ≠ 54 → m.1 66 ((k : Nat) : Int) = μ.1 66 ((k : Nat) : Int)) ∧ (m.1 66 ((24 : Nat) : Int) = 21 ∧ m.1 66 ((25 : Nat) : Int) = 80 ∧ m.1 66 ((26 : Nat) : Int) = 1 ∧ m.1 66 ((27 : Nat) : Int) = 0) ∧ (m.1 76 21 = 0 ∧ m.1 77 21 = 0 ∧ m.1 79 21 = 0) ∧ (∀ h : Int, 0 ≤ h → h < 2048 → m.1 73 h = -1) ∧ zOt μ m ∧ ∀ e : Int, 0 ≤ e → e < d → m.1 80 (441 + e) = -1
theorem zRr_0 {μ a0 a1 a2 a3 a4 a4b a5 a6 a7 m : zM} {xl : Int} (e0 : a0 = zu μ 66 ((54 : Nat) : Int) 0) (e1 : a1 = zu a0 66 ((24 : Nat) : Int) 21) (e2 : a2 = zu a1 66 ((25 : Nat) : Int) 80) (e3 : a3 = zu a2 66 ((26 : Nat) : Int) 1) (e4 : a4 = zu a3 66 ((27 : Nat) : Int) 0) (e4b : a4b = zu a4 3000075 21 xl) (e5 : a5 = zu a4b 76 21 0) (e6 : a6 = zu a5 77 21 0) (e7 : a7 = zu a6 79 21 0) (hc : ∀ j : Nat, j ≠ 66 → j ≠ 73 → m.1 j = a7.1 j) (hf : ∀ k : Nat, m.1 66 ((k : Nat) : Int) = a7.1 66 ((k : Nat) : Int)) (h73 : ∀ h : Int, 0 ≤ h → h < 2048 → m.1 73 h = -1) : zRr μ m 0 := by
  have b66 : ∀ k : Nat, a7.1 66 ((k : Nat) : Int) = a4.1 66 ((k : Nat) : Int) := fun k => by rw [e7, zu_ne (by decide), e6, zu_ne (by decide), e5, zu_ne (by decide), e4b, zu_ne (by decide)]
  have bc : ∀ j : Nat, j ≠ 66 → a4.1 j = μ.1 j := fun j hj => by rw [e4, zu_ne hj, e3, zu_ne hj, e2, zu_ne hj, e1, zu_ne hj, e0, zu_ne hj]
  refine ⟨fun j p q r s t _ w => by rw [hc j p q, e7, zu_ne t, e6, zu_ne s, e5, zu_ne r, e4b, zu_ne w, bc j p], fun k p q r s t => by rw [hf, b66, e4, zu_nk (by omega), e3, zu_nk (by omega), e2, zu_nk (by omega), e1, zu_nk (by omega), e0, zu_nk (by omega)], ⟨?_, ?_, ?_, ?_⟩, ⟨?_, ?_, ?_⟩, h73, ?_, fun e a b => by omega⟩
  · rw [hf, b66, e4, zu_nk (by decide), e3, zu_nk (by decide), e2, zu_nk (by decide), e1, zu_at]
  · rw [hf, b66, e4, zu_nk (by decide), e3, zu_nk (by decide), e2, zu_at]
  · rw [hf, b66, e4, zu_nk (by decide), e3, zu_at]
  · rw [hf, b66, e4, zu_at]
  · rw [hc 76 (by decide) (by decide), e7, zu_ne (by decide), e6, zu_ne (by decide), e5, zu_at]
  · rw [hc 77 (by decide) (by decide), e7, zu_ne (by decide), e6, zu_at]
  · rw [hc 79 (by decide) (by decide), e7, zu_at]
  · refine ⟨fun q hq => ?_, fun q _ => by rw [hc 78 (by decide) (by decide), e7, zu_ne (by decide), e6, zu_ne (by decide), e5, zu_ne (by decide), e4b, zu_ne (by decide), bc 78 (by decide)], fun q _ => by rw [hc 80 (by decide) (by decide), e7, zu_ne (by decide), e6, zu_ne (by decide), e5, zu_ne (by decide), e4b, zu_ne (by decide), bc 80 (by decide)], fun q _ => by rw [hc 83 (by decide) (by decide), e7, zu_ne (by decide), e6, zu_ne (by decide), e5, zu_ne (by decide), e4b, zu_ne (by decide), bc 83 (by decide)], fun q _ => by rw [hc 84 (by decide) (by decide), e7, zu_ne (by decide), e6, zu_ne (by decide), e5, zu_ne (by decide), e4b, zu_ne (by decide), bc 84 (by decide)]⟩
    refine ⟨?_, ?_, ?_⟩
    · rw [hc 76 (by decide) (by decide), e7, zu_ne (by decide), e6, zu_ne (by decide), e5, zu_nk (by omega), e4b, zu_ne (by decide), bc 76 (by decide)]
    · rw [hc 77 (by decide) (by decide), e7, zu_ne (by decide), e6, zu_nk (by omega), e5, zu_ne (by decide), e4b, zu_ne (by decide), bc 77 (by decide)]
    · rw [hc 79 (by decide) (by decide), e7, zu_nk (by omega), e6, zu_ne (by decide), e5, zu_ne (by decide), e4b, zu_ne (by decide), bc 79 (by decide)]
theorem zRr_s {μ m m' : zM} {d k : Int} (h : zRr μ m d) (d0 : 0 ≤ d) (e : m' = zu m 80 k (-1)) (hk : k = 441 + d) : zRr μ m' (d + 1) := by
  obtain ⟨h1, h2, h3, h4, h5, h6, h7⟩ := h
  have c : ∀ j : Nat, j ≠ 80 → m'.1 j = m.1 j := fun j hj => by rw [e, zu_ne hj]
  refine ⟨fun j p q r s t u w => by rw [c j u, h1 j p q r s t u w], by rw [c 66 (by decide)]; exact h2, by rw [c 66 (by decide)]; exact h3, by rw [c 76 (by decide), c 77 (by decide), c 79 (by decide)]; exact h4, by rw [c 73 (by decide)]; exact h5, zOt_w h6 e (by refine ⟨fun h => ?_, fun h => ?_, fun h => ?_, fun h => ?_, fun h => ?_⟩ <;> first | omega | (exfalso; revert h; decide)), fun q a b => ?_⟩
  by_cases z : q = d
  · rw [z, ← hk, e, zu_at]
  · rw [e, zu_nk (by omega)]
    exact h7 q a (by omega)
theorem zDS_0 {μ m m1 m2 m3 : zM} {x k K : Int} {p : Int → Int} (hR : zRI μ K) (h : zRr μ m 21) (hd : zMd m m1 (zTop μ) 0 0 0 p x) (hc1 : ∀ j : Nat, 74 ≤ j → m1.1 j = m.1 j) (hf1 : ∀ k : Nat, k ≠ 8 → m1.1 66 ((k : Nat) : Int) = m.1 66 ((k : Nat) : Int)) (e2 : m2 = zu m1 80 k x) (hk : k = 441) (hc3 : ∀ j : Nat, j ≠ 66 → m3.1 j = m2.1 j) (hf3 : ∀ k : Nat, k = 8 ∨ k = 24 ∨ k = 25 ∨ k = 26 ∨ k = 27 ∨ k = 60 → m3.1 66 ((k : Nat) : Int) = m2.1 66 ((k : Nat) : Int)) (h38 : m3.1 66 ((38 : Nat) : Int) = 0) : zDS m3 (zTop μ) 1 ∧ zOld μ m3 (zTop μ) ∧ zOt μ m3 := by
  have TM := zQS_top hR.1
  obtain ⟨⟨⟨q1, q2, q3, q4, q5, q6, q7⟩, r2, r3, r4, r5, r6⟩, s1, s2, s3, s4⟩ := hR
  obtain ⟨h1, h2, h3, h4, h5, h6, h7⟩ := h
  have T0 : zTop m = zTop μ := h2 8 (by decide) (by decide) (by decide) (by decide) (by decide)
  have l0 : 0 ≤ zTop μ := by have := q1.1; omega
  have hx : x = zTop μ ∧ zTop m1 = zTop μ + 1 := by rcases hd.2.2.1 with q | q <;> omega
  have c2 : ∀ j : Nat, j ≠ 80 → m2.1 j = m1.1 j := fun j hj => by rw [e2, zu_ne hj]
  have c3 : ∀ j : Nat, j ≠ 66 → j ≠ 80 → m3.1 j = m1.1 j := fun j a b => by rw [hc3 j a, c2 j b]
  have T3 : zTop m3 = zTop m1 := by rw [show zTop m3 = zTop m2 from hf3 8 (by decide)]; exact congrFun (c2 66 (by decide)) _
  have N3 : zND m3 (zTop μ) := zND_t.2 (by rw [T3]; exact zNDt_same (fun j a b => c3 j (by omega) (by omega)) (zND_t.1 hd.1))
  have f3 : ∀ k : Nat, k = 24 ∨ k = 25 ∨ k = 26 ∨ k = 27 ∨ k = 60 → m3.1 66 ((k : Nat) : Int) = m.1 66 ((k : Nat) : Int) := fun k hk => by rw [hf3 k (by omega), c2 66 (by decide), hf1 k (by omega)]
  have f27 : m3.1 66 ((27 : Nat) : Int) = 0 := by rw [f3 27 (by decide)]; exact h3.2.2.2
  have b76 : m3.1 76 = m.1 76 := by rw [c3 76 (by decide) (by decide), hc1 76 (by decide)]
  have b77 : m3.1 77 = m.1 77 := by rw [c3 77 (by decide) (by decide), hc1 77 (by decide)]
  have b78 : m3.1 78 = m.1 78 := by rw [c3 78 (by decide) (by decide), hc1 78 (by decide)]
  have b79 : m3.1 79 = m.1 79 := by rw [c3 79 (by decide) (by decide), hc1 79 (by decide)]
  have b83 : m3.1 83 = m.1 83 := by rw [c3 83 (by decide) (by decide), hc1 83 (by decide)]
  have b84 : m3.1 84 = m.1 84 := by rw [c3 84 (by decide) (by decide), hc1 84 (by decide)]
  have r80 : ∀ q : Int, m3.1 80 q = if q = 441 then x else m.1 80 q := fun q => by
    rw [hc3 80 (by decide), e2]
    by_cases z : q = 441
    · rw [if_pos z, z, ← hk, zu_at]
    · rw [if_neg z, zu_nk (by omega), hc1 80 (by decide)]
  have ox : m3.1 67 x = 0 ∧ m3.1 68 x = 0 ∧ m3.1 69 x = 0 := by
    rw [c3 67 (by decide) (by decide), c3 68 (by decide) (by decide), c3 69 (by decide) (by decide)]
    exact ⟨hd.2.1.1, hd.2.1.2.1, hd.2.1.2.2.1⟩
  have n0 : zXn m3 0 = 0 := by unfold zXn; rw [show (21 + 0 : Int) = 21 by omega, b77]; exact h4.2.1
  have z76 : zXf m3 0 = 0 := by unfold zXf; rw [show (21 + 0 : Int) = 21 by omega, b76]; exact h4.1
  have z79 : m3.1 79 (21 + 0) = 0 := by rw [show (21 + 0 : Int) = 21 by omega, b79]; exact h4.2.2
  have a00 : zXa m3 0 0 = x := by unfold zXa; rw [r80, if_pos (by omega)]
  have wf : zWf m3 (zTop μ) (zTop m3) 1 0 0 (zXn m3) := fun y a b => by
    have : y = x := by omega
    subst this
    exact ⟨fun i i0 i1 => by omega, fun _ => ⟨by omega, by rw [ox.2.1, ox.2.2, n0]⟩, fun e => by omega, fun e => by omega, fun e => by omega, fun e => by omega⟩
  have uq : zUq m3 (zTop μ) := fun a b p q r s _ => by omega
  have ho : zOld μ m3 (zTop μ) := by
    have o1 : zOld μ m (zTop μ) := zOld_same (fun j a b => h1 j (by omega) (by omega) (by omega) (by omega) (by omega) (by omega) (by omega))
    have o2 := hd.2.2.2
    rw [T0] at o2
    exact zOld_t (zOld_t o1 o2 (Int.le_refl _)) (zOld_same (fun j a b => c3 j (by omega) (by omega))) (Int.le_refl _)
  have ot : zOt μ m3 := by
    refine ⟨fun q hq => by rw [b76, b77, b79]; exact h6.1 q hq, fun q hq => by rw [b78]; exact h6.2.1 q hq, fun q hq => by rw [r80, if_neg (by omega)]; exact h6.2.2.1 q hq, fun q hq => by rw [b83]; exact h6.2.2.2.1 q hq, fun q hq => by rw [b84]; exact h6.2.2.2.2 q hq⟩
  refine ⟨⟨⟨by rw [f3 24 (by decide)]; exact h3.1, by rw [f3 25 (by decide)]; exact h3.2.1, by rw [f3 26 (by decide)]; exact h3.2.2.1, by omega, by omega, by omega, by omega, by omega, by omega, l0, by omega, by rw [b79]; exact h4.2.2⟩, ⟨N3, uq, by rw [f27]; exact wf⟩, ⟨fun c c0 c1 => ?_, fun q a b => by omega, by rw [b77]; exact h4.2.1⟩, ?_, ?_, fun y a b => ?_, ?_⟩, ho, ot⟩
  · rw [show c = 0 by omega]
    refine ⟨⟨by rw [z76, n0, z79]; omega, fun i a b => by rw [z79] at b; omega⟩, ⟨fun d d0 d1 => ?_, by rw [a00]; omega, fun i a b => by rw [n0] at b; omega, by rw [a00]; omega⟩⟩
    by_cases z : d = 0
    · rw [z, a00]
      refine Or.inr ⟨⟨⟨by omega, by omega⟩, ox.1, ox.2.1, by omega, by rw [ox.2.2, n0], fun i a b => by omega, ⟨fun y => y = x, rfl, fun y hy => ?_⟩⟩, ?_, fun σ hσ => ?_⟩
      · subst hy
        exact ⟨fun e => by omega, fun i a b => by omega⟩
      · rw [zsz_leaf (N3.2.1 x (by omega) (by omega)) ox.2.2]; omega
      · rcases zsb_mem (k := 19999) |>.mp hσ with e | ⟨i, i0, i1, -⟩
        · exact Or.inl (by rw [a00]; exact e)
        · omega
    · refine Or.inl ?_
      unfold zXa
      rw [r80, if_neg (by omega), show 21 * (21 + 0) + d = 441 + d by omega]
      exact h7 d d0 (by omega)
  · rw [h38]
    show (0 : Int) + zW1s m3 ((0 : Nat) : Int) ≤ 0
    unfold zW1s
    rw [show (21 + ((0 : Nat) : Int)) = 21 + 0 from rfl, z79]
    show (0 : Int) + (1 - 1) ≤ 0
    omega
  · rw [if_pos (by omega)]; omega
  · rw [f3 60 (by decide), h2 60 (by decide) (by decide) (by decide) (by decide) (by decide), c3 98 (by decide) (by decide), hc1 98 (by decide), h1 98 (by decide) (by decide) (by decide) (by decide) (by decide) (by decide) (by decide)]
    exact q7 y a b
  · rw [f3 60 (by decide), h2 60 (by decide) (by decide) (by decide) (by decide) (by decide)]
    exact r5.1
theorem zrm_b {m : zM} (h : 0 ≤ m.1 66 ((33 : Nat) : Int) ∧ 0 ≤ m.1 66 ((34 : Nat) : Int) ∧ m.1 66 ((33 : Nat) : Int) + m.1 66 ((34 : Nat) : Int) ≤ m.1 66 ((31 : Nat) : Int) ∧ m.1 66 ((31 : Nat) : Int) ≤ m.1 66 ((30 : Nat) : Int) ∧ m.1 66 ((30 : Nat) : Int) ≤ 800) : zrm m ≤ 1601 := by
  unfold zrm
  split <;> omega
