/-! ### what stands ABOVE a class, as nodes -/
def rAb (m : zM) (B : yB) (n lo : Int) : Prop := ∀ e d : Int, 0 ≤ e → e < n → 0 ≤ d → d ≤ 20 → (zXa m e d < 0 ∧ B.2 2 e d = []) ∨ ∃ l, B.2 2 e d = [l] ∧ (lo ≤ zXa m e d ∧ zXa m e d < zTop m) ∧ rE m (zXa m e d) l
theorem rAb_old {μ m : zM} {B B' : yB} {n lo : Int} (h : rAb μ B n lo) (l0 : 0 ≤ lo) (ho : zOld μ m (zTop μ)) (nd : ∀ x : Int, 0 ≤ x → x < zTop μ → zNd μ x) (h80 : ∀ q : Int, q < 21 * (21 + n) → m.1 80 q = μ.1 80 q) (ht : zTop μ ≤ zTop m) (e2 : ∀ e d : Int, 0 ≤ e → e < n → B'.2 2 e d = B.2 2 e d) : rAb m B' n lo := fun e d e0 e1 d0 d1 => by
  have hx : zXa m e d = zXa μ e d := by unfold zXa; exact h80 _ (by omega)
  rw [hx, e2 e d e0 e1]
  rcases h e d e0 e1 d0 d1 with q | ⟨l, q1, q2, q3⟩
  · exact Or.inl q
  · exact Or.inr ⟨l, q1, ⟨q2.1, by omega⟩, rE_old ho nd (by omega) q2.2 q3⟩
theorem rAb_c {μ m : zM} {B : yB} {n lo : Int} (h : rAb μ B n lo) (hc : ∀ j : Nat, 67 ≤ j → j ≤ 71 → m.1 j = μ.1 j) (h80 : m.1 80 = μ.1 80) (ht : zTop m = zTop μ) : rAb m B n lo := fun e d e0 e1 d0 d1 => by
  have hx : zXa m e d = zXa μ e d := by unfold zXa; rw [h80]
  rw [hx, ht]
  rcases h e d e0 e1 d0 d1 with q | ⟨l, q1, q2, q3⟩
  · exact Or.inl q
  · exact Or.inr ⟨l, q1, q2, rE_c (fun j a b => hc j a (by omega)) q3⟩
def rGA (τ : yT) (s : yS) (p c lo i d : Int) (m : zM) : Prop := ∃ Bq : yB, yR τ s (15, p, 0, [], Bq) ∧ (Bq.1 0 7 = i ∧ Bq.1 0 8 = d ∧ Bq.1 0 3 = c) ∧ rNu m Bq ∧ rAb m Bq (c + 1) lo ∧ rSu m Bq c lo
def rBA (τ : yT) (s : yS) (p : Int) : Prop := ∃ B' : yB, yR τ s (yflt τ B' p 8)
theorem rE_leaf {m : zM} {x h : Int} (hh : rHd m x h) (h9 : m.1 69 x = 0) : rE m x [h] := rE_mk (as := []) hh h9 rfl (fun i hi => by simp at hi)
theorem ym8_k {T : yT} {p : Int} {B : yB} (h : ykd T p = 59) : yms T (8, p, 0, [], B) = (15, p, 0, [], yN (yN (yon B) 0 7 0) 0 8 0) := by
  show (if ykd T p ≠ 59 then yflt T B p 2 else _) = _
  rw [if_neg (by omega)]
theorem rflat1 : ∀ l : List Int, (l.map (fun x => [x])).flatten = l
  | [] => rfl
  | x :: l => by rw [List.map_cons, List.flatten_cons, rflat1 l]; rfl
theorem rE_yown {ν : zM} {lo c P a : Int} {B : yB} (hB : zBs ν lo c P) (ha : zAe ν lo c c a) (ow : ∀ i : Int, 0 ≤ i → i < zXn ν c → ν.1 67 (ν.1 70 (4 * a + i)) = 1 ∧ ν.1 68 (ν.1 70 (4 * a + i)) = zXf ν c + i) (h3 : B.1 0 3 = c) (h76 : zXf ν c = B.1 2 c) (h77 : zXn ν c = B.1 3 c) : rE ν a (yown B) := by
  obtain ⟨⟨a0, a1⟩, k0, v0, -, n0, -, -⟩ := ha
  have hc := hB.2.1
  have hcl := hB.2.2.2.1.1
  have l0 := hB.1.1.1.1
  have W := hB.1.2.2
  have N := hB.1.1.2.1 a (by omega) a1
  have e : yown B = c :: (((List.range (B.1 3 c).toNat).map (fun (i : Nat) => 32 + B.1 2 c + (i : Int))).map (fun x => [x])).flatten := by
    rw [rflat1]; unfold yown; rw [h3]
  rw [e]
  refine rE_mk (n := zXn ν c) (Or.inl ⟨k0, v0, by omega, by omega⟩) n0 ?_ (fun i hi => ?_)
  · rw [List.length_map, List.length_map, List.length_range]; omega
  · rw [List.length_map, List.length_map, List.length_range] at hi
    have o := ow i (by omega) (by omega)
    have w := (W a a0 a1).1 i (by omega) (by omega)
    have u := N.2.1 i (by omega) (by omega)
    have wx := (W (ν.1 70 (4 * a + i)) w (by omega)).2.2.1 o.1
    have w9 := (hB.1.1.2.1 _ u.1 (by omega)).2.2.2.1 o.1
    have g : (((List.range (B.1 3 c).toNat).map (fun (i : Nat) => 32 + B.1 2 c + (i : Int))).map (fun x => [x])).getD i [] = [32 + B.1 2 c + (i : Int)] := by
      rw [List.getD_eq_getElem?_getD, List.getElem?_map, List.getElem?_map, List.getElem?_range (by omega)]
      rfl
    rw [g]
    refine rE_leaf (Or.inr (Or.inl ⟨o.1, by rw [o.2, h76]; omega, by omega, by omega⟩)) wx.2
theorem rGA_0 {μ ν : zM} {τ : yT} {p lo c P : Int} {B : yB} (HR : zRv μ ν lo c P) (h59 : ykd τ p = 59) (hN : rNu ν B) (h3 : B.1 0 3 = c) (h0 : B.1 0 0 = c + 1) (hA : rAb μ B c lo) (hS : rSu μ B c lo) (nd : ∀ x : Int, 0 ≤ x → x < zTop μ → zNd μ x) (h80 : ∀ q : Int, q < 21 * (21 + c) → ν.1 80 q = μ.1 80 q) : rGA τ (8, p, 0, [], B) p c lo 0 0 ν := by
  have hB := HR.1
  have l0 := hB.1.1.1.1
  have hc := hB.2.1
  have n1 := hN.2.1 c (by omega) (by omega)
  have A2 : ∀ e d : Int, e ≠ c → (yN (yN (yon B) 0 7 0) 0 8 0).2 2 e d = B.2 2 e d := fun e d he => by
    show (if (2 : Nat) = 2 ∧ e = B.1 0 3 then _ else B.2 2 e d) = _
    rw [if_neg (by omega)]
  refine ⟨_, yR_s (yR_r τ _) (ym8_k h59), ⟨?_, yN_at, ?_⟩, rNu_6 (rNu_6 (B := yon B) hN (by decide)) (by decide), fun e d e0 e1 d0 d1 => ?_, rSu_B (rSu_old hS l0 HR.2.1 nd (HR.2.2.2.1 78 (by decide) (by decide) (by decide)) HR.2.2.1.1) ?_ ?_⟩
  · rw [yN_ne (by omega), yN_at]
  · rw [yN_ne (by omega), yN_ne (by omega)]; exact h3
  · by_cases q : e = c
    · subst q
      have C2 : (yN (yN (yon B) 0 7 0) 0 8 0).2 2 e d = if d = e then [yown B] else if d = 0 then [[0]] else [] := by
        show (if (2 : Nat) = 2 ∧ e = B.1 0 3 then _ else B.2 2 e d) = _
        rw [if_pos (by omega)]
      rw [C2]
      have ow := hB.2.2.2.2.1
      by_cases qc : d = e
      · rw [if_pos qc]
        right
        rcases hB.2.2.2.2.2.1 d d0 d1 with w | w
        · exfalso; have := ow.1; rw [qc] at w; omega
        · rw [qc] at w ⊢
          exact ⟨_, rfl, w.1.1, rE_yown hB w.1 ow.2.1 h3 n1.2.1 n1.2.2.1⟩
      · rw [if_neg qc]
        by_cases qz : d = 0
        · rw [if_pos qz]
          right
          rcases hB.2.2.2.2.2.1 d d0 d1 with w | w
          · exfalso; have := ow.2.2; rw [qz] at w; omega
          · refine ⟨_, rfl, w.1.1, rE_leaf (Or.inl ⟨w.1.2.1, by rw [w.1.2.2.1]; exact qz, by omega, by omega⟩) ?_⟩
            rw [w.1.2.2.2.2.1, qz]
            exact hB.2.2.1.2.2
        · rw [if_neg qz]
          left
          refine ⟨?_, rfl⟩
          by_cases z : 0 ≤ zXa ν e d
          · rcases hB.2.2.2.2.2.2 d d0 d1 z with w | w
            · exact absurd w qc
            · exact absurd w qz
          · omega
    · rw [A2 e d q]
      exact rAb_old (B' := B) hA l0 HR.2.1 nd h80 HR.2.2.1.1 (fun _ _ _ _ => rfl) e d e0 (by omega) d0 d1
  · rw [yN_nk (by decide), yN_nk (by decide)]; rfl
  · funext i j
    show (if (1 : Nat) = 2 ∧ i = B.1 0 3 then (if j = i then [yown B] else if j = 0 then [[0]] else []) else B.2 1 i j) = B.2 1 i j
    exact if_neg (fun q => absurd q.1 (by decide))
/-- the head of what stands behind the colon -/
theorem rSu_h {ν m : zM} {B : yB} {lo c P i d g J : Int} (hS : rSu m B c lo) (hB : zBs ν lo c P) (hF : zFA ν m lo c P i d g J) (i0 : 0 ≤ i) (i1 : i < ν.1 79 (21 + c)) (h4 : B.1 4 c = m.1 79 (21 + c)) : ∃ as : List (List Int), B.2 1 c i = [zXe ν c i] :: as ∧ zXs m c i = zXs ν c i ∧ rE m (zXs ν c i) (zXe ν c i :: as.flatten) := by
  have e79 : m.1 79 = ν.1 79 := hF.2.1.1 79 (by decide) (by decide)
  have e78 : zXs m c i = zXs ν c i := by unfold zXs; rw [hF.2.1.1 78 (by decide) (by decide)]
  obtain ⟨h, as, q1, q2, q3⟩ := hS i i0 (by rw [h4, e79]; exact i1)
  have S := (zBs_s hB i0 i1).1
  have l0 := hB.1.1.1.1
  have o := hF.1.2.2.1 (zXs ν c i) (by have := S.1.1; omega) S.1.2
  rw [e78] at q3
  have hh : h = zXe ν c i := by
    obtain ⟨k, q3⟩ := q3
    cases k with
    | zero => exact q3.elim
    | succ k =>
      obtain ⟨h', as', f1, f2, -, -⟩ := q3
      have := (List.cons.inj f1).1
      subst this
      have k0 : m.1 67 (zXs ν c i) = 0 := by rw [o.1]; exact S.2.2
      have v0 : m.1 68 (zXs ν c i) = zXe ν c i := o.2.1
      unfold rHd at f2
      omega
  subst hh
  exact ⟨as, q1, e78, q3⟩
theorem rGA_d {τ : yT} {s : yS} {p c lo i d : Int} {m : zM} (h : rGA τ s p c lo i d m) (hc : 0 ≤ c) (hn : m.1 66 ((26 : Nat) : Int) = c + 1) (hi : i < m.1 79 (21 + c)) (hd : c + 1 ≤ d) : rGA τ s p c lo (i + 1) 0 m := by
  obtain ⟨Bq, R, ⟨e7, e8, e3⟩, N, A, S⟩ := h
  have n0 := N.1.2.2.1
  have n1 := N.2.1 c hc (by omega)
  refine ⟨_, yR_s R (ym15_d (by rw [e3, e7, ← n1.2.2.2]; exact hi) (by omega)), ⟨?_, yN_at, ?_⟩, rNu_6 (rNu_6 N (by decide)) (by decide), A, rSu_B S ?_ rfl⟩
  · rw [yN_ne (by omega), yN_at, e7]
  · rw [yN_ne (by omega), yN_ne (by omega)]; exact e3
  · rw [yN_nk (by decide), yN_nk (by decide)]
theorem rGA_s {τ : yT} {s : yS} {ν m : zM} {p c lo P i d g J : Int} (h : rGA τ s p c lo i d m) (hB : zBs ν lo c P) (hF : zFA ν m lo c P i d g J) (hn : m.1 66 ((26 : Nat) : Int) = c + 1) (i0 : 0 ≤ i) (i1 : i < ν.1 79 (21 + c)) (e0 : 0 ≤ zXe ν c i) (d0 : 0 ≤ d) (d1 : d ≤ c) (ht : zXa ν (zXe ν c i) d < 0) : rGA τ s p c lo i (d + 1) m := by
  obtain ⟨Bq, R, ⟨e7, e8, e3⟩, N, A, S⟩ := h
  have hc := hB.2.1
  have n0 := N.1.2.2.1
  have n1 := N.2.1 c (by omega) (by omega)
  have e79 : m.1 79 = ν.1 79 := hF.2.1.1 79 (by decide) (by decide)
  obtain ⟨as, q1, q2, q3⟩ := rSu_h S hB hF i0 i1 n1.2.2.2.symm
  have ec := (zBs_s hB i0 i1).2.1
  have ea : zXa m (zXe ν c i) d = zXa ν (zXe ν c i) d := hF.2.1.2 _ (by omega)
  have l0 := hB.1.1.1.1
  have hz : Bq.2 2 (zXe ν c i) d = [] := by
    rcases A (zXe ν c i) d e0 (by omega) d0 (by omega) with w | ⟨l, w1, w2, w3⟩
    · exact w.2
    · exfalso; omega
  refine ⟨_, yR_s R (ym15_s (by rw [e3, e7, ← n1.2.2.2, e79]; exact i1) (by omega) (by rw [e3, e7]; exact q1) (by rw [e8]; exact hz)), ⟨?_, ?_, ?_⟩, rNu_6 N (by decide), A, rSu_B S ?_ rfl⟩
  · rw [yN_ne (by omega)]; exact e7
  · rw [yN_at, e8]
  · rw [yN_ne (by omega)]; exact e3
  · rw [yN_nk (by decide)]
theorem rGA_e {τ : yT} {s : yS} {p c lo i d : Int} {m : zM} (h : rGA τ s p c lo i d m) (hc : 0 ≤ c) (hn : m.1 66 ((26 : Nat) : Int) = c + 1) (hi : m.1 79 (21 + c) ≤ i) : ∃ B', yR τ s (9, ynx τ p, 0, [], B') ∧ rNu m B' ∧ rAb m B' (c + 1) lo := by
  obtain ⟨Bq, R, ⟨e7, e8, e3⟩, N, A, S⟩ := h
  have n0 := N.1.2.2.1
  have n1 := N.2.1 c hc (by omega)
  exact ⟨Bq, yR_s R (ym15_e (by rw [e3, e7, ← n1.2.2.2]; exact hi)), N, A⟩
theorem ryar {m ν : zM} {B : yB} {c : Int} (N : rNu m B) (hc : c ≤ 20) (h0 : B.1 0 0 = c + 1) (e77 : m.1 77 = ν.1 77) : (∀ v : Int, 0 ≤ v → v < c + 1 → yar B v = zXn ν v) ∧ (∀ v : Int, 32 ≤ v → v < 112 → yar B v = 0) ∧ yar B 200 = 0 ∧ yar B 201 = 1 ∧ yar B 202 = 1 := by
  refine ⟨fun v a b => ?_, fun v a b => ?_, ?_, ?_, ?_⟩
  · unfold yar
    rw [if_pos ⟨a, by omega⟩, ← (N.2.1 v a (by omega)).2.2.1, e77]; rfl
  · unfold yar; rw [if_neg (by omega), if_neg (by omega)]
  · unfold yar; rw [if_neg (by omega), if_neg (by omega)]
  · unfold yar; rw [if_neg (by omega), if_pos (Or.inl rfl)]
  · unfold yar; rw [if_neg (by omega), if_pos (Or.inr rfl)]
/-- a TYPE above the one behind the colon -/
theorem rGA_p {τ : yT} {s : yS} {ν m m' m2 : zM} {p c lo P i d g J st u k : Int} (h : rGA τ s p c lo i d m) (hI : yInv s) (hB : zBs ν lo c P) (hF : zFA ν m lo c P i d g J) (hJ1 : J ≤ i + 1) (hn : m.1 66 ((26 : Nat) : Int) = c + 1) (i0 : 0 ≤ i) (i1 : i < ν.1 79 (21 + c)) (e0 : 0 ≤ zXe ν c i) (d0 : 0 ≤ d) (d1 : d ≤ c) (t0 : 0 ≤ zXa ν (zXe ν c i) d)
    (hS : zSJ m m' lo st (zXf ν (zXe ν c i)) (zXn ν (zXe ν c i)) (zXs ν c i) (fun y => y ∈ zsb m 20000 (zXa ν (zXe ν c i) d))) (hu : zUq m' lo) (hst : m'.1 98 (zXa ν (zXe ν c i) d) = st) (hu2 : u = m'.1 97 (zXa ν (zXe ν c i) d)) (hfr : ∀ j : Nat, 75 ≤ j → j ≤ 96 → m'.1 j = m.1 j) (e80 : m2 = zu m' 80 k u) (hk : k = 21 * (21 + c) + d) (hN2 : ∀ B : yB, rNu m B → rNu m2 B) :
    (m'.1 71 u ≤ 200 ∧ (zXa m c d < 0 ∨ zXa m c d = u) → rGA τ s p c lo i (d + 1) m2) ∧ (¬ (m'.1 71 u ≤ 200 ∧ (zXa m c d < 0 ∨ zXa m c d = u)) → rBA τ s p) := by
  obtain ⟨Bq, R, ⟨e7, e8, e3⟩, N, A, S⟩ := h
  have hc := hB.2.1
  obtain ⟨W, D, -⟩ := zFA_lab hB hF hJ1 i0 i1 e0 d0 (by omega) t0 hS hu
  obtain ⟨⟨l0, hw, ht⟩, hn', hwa, hsb, hlo, hpar, ⟨ts, tk, tv, tc, ta⟩, dc⟩ := zFA_pre hB hF i0 i1 e0 d0 (by omega) t0
  have n0 := N.1.2.2.1
  have n1 := N.2.1 c (by omega) (by omega)
  have SB := zBs_s hB i0 i1
  have ec := SB.2.1
  have ne := N.2.1 (zXe ν c i) e0 (by omega)
  obtain ⟨as, q1, q2, q3⟩ := rSu_h S hB hF i0 i1 n1.2.2.2.symm
  have ea : zXa m (zXe ν c i) d = zXa ν (zXe ν c i) d := hF.2.1.2 _ (by omega)
  obtain ⟨l, w1, w2, w3⟩ : ∃ l, Bq.2 2 (zXe ν c i) d = [l] ∧ (lo ≤ zXa m (zXe ν c i) d ∧ zXa m (zXe ν c i) d < zTop m) ∧ rE m (zXa m (zXe ν c i) d) l := by
    rcases A (zXe ν c i) d e0 (by omega) d0 (by omega) with w | w
    · exfalso; omega
    · exact w
  rw [ea] at w2 w3
  have f1 := hF.1.1
  have f5 := hF.1.2.2.2.2
  have fa := hF.2.1.1
  have e79 : m.1 79 = ν.1 79 := fa 79 (by decide) (by decide)
  have e77 : zXn ν (zXe ν c i) = Bq.1 3 (zXe ν c i) := by unfold zXn; rw [← fa 77 (by decide) (by decide)]; exact ne.2.2.1
  have e76 : zXf ν (zXe ν c i) = Bq.1 2 (zXe ν c i) := by unfold zXf; rw [← fa 76 (by decide) (by decide)]; exact ne.2.1
  have YA := ryar (ν := ν) N hc.2 (by omega) (fa 77 (by decide) (by decide))
  have A1 := rAr_W f5 YA
  have L1 := rLo_W f5 f1.2.1 l0
  have A' := rAr_W W YA
  have L' := rLo_W W hS.1.2.1 l0
  have hI' : yI 15 0 [] Bq := by
    rcases yInv_R hI R with q | q
    · exact absurd (show (15 : Nat) = 20 from q) (by decide)
    · exact q
  obtain ⟨e', as', g1, g2, g3, g4⟩ := (hI'.2.2.2.2.1 (Or.inr rfl)).2 i i0 (by rw [e3, ← n1.2.2.2, e79]; exact i1)
  rw [e3, q1] at g1
  obtain ⟨ge, ga⟩ := List.cons.inj g1
  have ge' := (List.cons.inj ge).1
  subst ga
  rw [← ge'] at g3
  have arg : ∀ j : Nat, j < as.length → rE m (m.1 70 (4 * zXs ν c i + j)) (as.getD j []) := by
    obtain ⟨K, q3⟩ := q3
    cases K with
    | zero => exact q3.elim
    | succ K =>
      obtain ⟨h', bs, b1, b2, b3, b5⟩ := q3
      have hb := List.cons.inj b1
      have eb : as = bs := yone_fe as bs (fun a ha => (g4 a ha).1) (rC_as L1 A1 SB.1.1.1 hw.2 b3 b5) (by omega) hb.2
      subst eb
      exact fun j hj => ⟨K, b5 j hj⟩
  have N4 := (f1.2.1 _ hw.1 hw.2)
  have arg' : ∀ j : Nat, j < as.length → rE m' (m'.1 70 (4 * zXs ν c i + j)) (as.getD j []) := fun j hj => by
    have o := hS.2.1 _ hw.1 hw.2
    have n4 := N4.1.2
    rw [o.2.2.2.2 j (by omega) (by omega)]
    have b := N4.2.1 j (by omega) (by omega)
    exact rE_old hS.2.1 f1.2.1 b.1 (by omega) (arg j hj)
  have SR := zSJ_SR hS f1.2.1 hpar ⟨t0, ht⟩ hst
  rw [← hu2] at SR
  have CL := zSJ_cls hS f1.2.1 hw (by omega) hwa t0 ht hst tk ta
  rw [← hu2] at CL
  have ulo : lo ≤ u := by rw [hu2]; exact zSJ_lo hS (fun x hx => (hlo x hx).1) hw (by have := N4.1.2; omega) hwa t0 ht hst
  have uT := CL.1.2
  have tt := hS.2.2.1
  have US : rE m' u (ysub (Bq.1 2 (zXe ν c i)) as l) := by
    obtain ⟨K, w3⟩ := w3
    rw [← e76]
    exact rC_sub L' (fun x a b q => ((W x a b).2.2.1 q).2) (by omega) arg' K _ u l w2.1 (by omega) (rC_old hS.2.1 f1.2.1 K _ l t0 ht w3) SR
  have Sz := rE_200 hS.1.2.1 (by omega) uT US
  have Cmp : (zXa m c d < 0 ∨ zXa m c d = u) ↔ (Bq.2 2 c d = [] ∨ Bq.2 2 c d = [ysub (Bq.1 2 (zXe ν c i)) as l]) := by
    rcases A c d (by omega) (by omega) d0 (by omega) with w | ⟨l0', z1, z2, z3⟩
    · exact ⟨fun _ => Or.inl w.2, fun _ => Or.inl w.1⟩
    · have z3' := rE_old hS.2.1 f1.2.1 (by omega) z2.2 z3
      rw [z1]
      constructor
      · rintro (q | q)
        · omega
        · rw [q] at z3'
          exact Or.inr (by rw [rE_fn z3' US])
      · rintro (q | q)
        · simp at q
        · rw [(List.cons.inj q).1] at z3'
          exact Or.inr (rE_nd hu L' A' z2.1 (by omega) ulo uT z3' US)
  have c2 : ∀ j : Nat, j ≠ 80 → m2.1 j = m'.1 j := fun j hj => by rw [e80, zu_ne hj]
  have tp2 : zTop m2 = zTop m' := congrFun (c2 66 (by decide)) _
  have lt : Bq.1 0 7 < Bq.1 4 (Bq.1 0 3) := by rw [e3, e7, ← n1.2.2.2, e79]; exact i1
  have hs : Bq.2 1 (Bq.1 0 3) (Bq.1 0 7) = [zXe ν c i] :: as := by rw [e3, e7]; exact q1
  have hz : Bq.2 2 (zXe ν c i) (Bq.1 0 8) = [l] := by rw [e8]; exact w1
  constructor
  · intro G
    have gl := Sz.mp G.1
    have go := Cmp.mp G.2
    refine ⟨_, yR_s R (ym15_p lt (by omega) hs hz (fun q => ?_)), ⟨?_, ?_, ?_⟩, rNu_6 (B := yL Bq 2 (Bq.1 0 3) (Bq.1 0 8) _) (hN2 Bq N) (by decide), fun e d' x0 x1 y0 y1 => ?_, ?_⟩
    · rw [e3, e8] at q
      rcases q with q | q
      · omega
      · rcases go with w | w
        · exact q.1 w
        · exact q.2 w
    · rw [yN_ne (by omega)]; exact e7
    · rw [yN_at, e8]
    · rw [yN_ne (by omega)]; exact e3
    · by_cases q : e = c ∧ d' = d
      · obtain ⟨rfl, rfl⟩ := q
        have hx : zXa m2 e d' = u := by unfold zXa; rw [e80, ← hk, zu_at]
        rw [hx, tp2]
        refine Or.inr ⟨ysub (Bq.1 2 (zXe ν e i)) as l, ?_, ⟨ulo, uT⟩, rE_c (fun j a b => c2 j (by omega)) US⟩
        show (if (2 : Nat) = 2 ∧ e = Bq.1 0 3 ∧ d' = Bq.1 0 8 then _ else _) = _
        rw [if_pos ⟨rfl, e3.symm, e8.symm⟩]
      · have hx : zXa m2 e d' = zXa m e d' := by unfold zXa; rw [e80, zu_nk (by omega), hfr 80 (by decide) (by decide)]
        have hb : (yN (yL Bq 2 (Bq.1 0 3) (Bq.1 0 8) [ysub (Bq.1 2 (zXe ν c i)) as l]) 0 8 (Bq.1 0 8 + 1)).2 2 e d' = Bq.2 2 e d' := by
          show (if (2 : Nat) = 2 ∧ e = Bq.1 0 3 ∧ d' = Bq.1 0 8 then _ else _) = _
          rw [if_neg (by omega)]
        rw [hx, tp2, hb]
        rcases A e d' x0 x1 y0 y1 with w | ⟨l1, z1, z2, z3⟩
        · exact Or.inl w
        · exact Or.inr ⟨l1, z1, ⟨z2.1, by omega⟩, rE_c (fun j a b => c2 j (by omega)) (rE_old hS.2.1 f1.2.1 (by omega) z2.2 z3)⟩
    · refine rSu_B (rSu_c (rSu_old S l0 hS.2.1 f1.2.1 (hfr 78 (by decide) (by decide)) tt) (fun j a b => c2 j (by omega)) (c2 78 (by decide)) tp2) ?_ ?_
      · rw [yN_nk (by decide)]; rfl
      · exact yL_k (B := Bq) (k' := 1) (k := 2) (i := Bq.1 0 3) (j := Bq.1 0 8) (l := [ysub (Bq.1 2 (zXe ν c i)) as l]) (by decide)
  · intro G
    refine ⟨Bq, yR_s R (ym15_f lt (by omega) hs hz ?_)⟩
    rw [e3, e8]
    by_cases q : m'.1 71 u ≤ 200
    · right
      have nc : ¬ (Bq.2 2 c d = [] ∨ Bq.2 2 c d = [ysub (Bq.1 2 (zXe ν c i)) as l]) := fun w => G ⟨q, Cmp.mpr w⟩
      exact ⟨fun w => nc (Or.inl w), fun w => nc (Or.inr w)⟩
    · left
      rcases Nat.lt_or_ge 200 (ysub (Bq.1 2 (zXe ν c i)) as l).length with w | w
      · exact w
      · exact absurd (Sz.mpr (by omega)) q
