/-! ### all TYPES told so far, as nodes of the reference -/
def rT1 (m : zM) (x : Int) (l : List (List Int)) : Prop := (0 ≤ x ∧ x < zTop m) ∧ rE m x l.flatten
def rTd (m : zM) (B : yB) : Prop := (∀ k i : Int, 0 ≤ k → k < B.1 0 0 → 0 ≤ i → i < B.1 4 k → rT1 m (zXs m k i) (B.2 1 k i)) ∧ (∀ p i : Int, 0 ≤ p → p < B.1 0 1 → 0 ≤ i → i < B.1 6 p → rT1 m (m.1 83 (2 * (80 + p) + i)) (B.2 0 p i)) ∧ (∀ k : Int, 0 ≤ k → k < B.1 0 0 → B.1 4 k ≤ 4) ∧ ∀ p : Int, 0 ≤ p → p < B.1 0 1 → B.1 6 p ≤ 2
theorem rT1_old {μ m : zM} {x : Int} {l : List (List Int)} (h : rT1 μ x l) (ho : zOld μ m (zTop μ)) (nd : ∀ x : Int, 0 ≤ x → x < zTop μ → zNd μ x) (ht : zTop μ ≤ zTop m) : rT1 m x l := ⟨⟨h.1.1, by have := h.1.2; omega⟩, rE_old ho nd h.1.1 h.1.2 h.2⟩
theorem rT1_c {μ m : zM} {x : Int} {l : List (List Int)} (h : rT1 μ x l) (hc : ∀ j : Nat, 67 ≤ j → j ≤ 71 → m.1 j = μ.1 j) (ht : zTop m = zTop μ) : rT1 m x l := ⟨by rw [ht]; exact h.1, rE_c (fun j a b => hc j a (by omega)) h.2⟩
theorem rTd_old {μ m : zM} {B : yB} (h : rTd μ B) (ho : zOld μ m (zTop μ)) (nd : ∀ x : Int, 0 ≤ x → x < zTop μ → zNd μ x) (h78 : m.1 78 = μ.1 78) (h83 : m.1 83 = μ.1 83) (ht : zTop μ ≤ zTop m) : rTd m B := by
  refine ⟨fun k i a b c d => ?_, fun p i a b c d => ?_, h.2.2⟩
  · have hx : zXs m k i = zXs μ k i := by unfold zXs; rw [h78]
    rw [hx]; exact rT1_old (h.1 k i a b c d) ho nd ht
  · rw [h83]; exact rT1_old (h.2.1 p i a b c d) ho nd ht
theorem rTd_c {μ m : zM} {B : yB} (h : rTd μ B) (hc : ∀ j : Nat, 67 ≤ j → j ≤ 71 → m.1 j = μ.1 j) (h78 : m.1 78 = μ.1 78) (h83 : m.1 83 = μ.1 83) (ht : zTop m = zTop μ) : rTd m B := by
  refine ⟨fun k i a b c d => ?_, fun p i a b c d => ?_, h.2.2⟩
  · have hx : zXs m k i = zXs μ k i := by unfold zXs; rw [h78]
    rw [hx]; exact rT1_c (h.1 k i a b c d) hc ht
  · rw [h83]; exact rT1_c (h.2.1 p i a b c d) hc ht
theorem rTd_B {m : zM} {B B' : yB} (h : rTd m B) (e0 : B'.1 0 0 = B.1 0 0) (e1 : B'.1 0 1 = B.1 0 1) (e4 : B'.1 4 = B.1 4) (e6 : B'.1 6 = B.1 6) (f0 : B'.2 0 = B.2 0) (f1 : B'.2 1 = B.2 1) : rTd m B' := by
  unfold rTd
  rw [e0, e1, e4, e6, f0, f1]
  exact h
theorem rWb_w (B : yB) (n : Int) (l : List (List Int)) : (rWb B n l).1 0 0 = B.1 0 0 ∧ (rWb B n l).1 4 = B.1 4 ∧ (∀ q : Int, (rWb B n l).1 6 q = if q = B.1 0 6 then B.1 6 (B.1 0 6) + 1 else B.1 6 q) ∧ ∀ q i : Int, (rWb B n l).2 0 q i = if q = B.1 0 6 ∧ i = B.1 6 (B.1 0 6) then l else B.2 0 q i := by
  have v := rB5_v B 0 (rq6 B)
  have e6 : (yN (rB5 B 0 (rq6 B)) 0 2 n).1 6 = B.1 6 := by rw [yN_nk (by decide), v.2.2.1 6 (by decide)]
  unfold rWb yBb
  rw [e6]
  refine ⟨?_, ?_, fun q => ?_, fun q i => ?_⟩
  · rw [yN_nk (by decide)]
    show (yN (rB5 B 0 (rq6 B)) 0 2 n).1 0 0 = _
    rw [yN_ne (by omega), v.1.1]
  · rw [yN_nk (by decide)]
    show (yN (rB5 B 0 (rq6 B)) 0 2 n).1 4 = _
    rw [yN_nk (by decide), v.2.2.1 4 (by decide)]
  · by_cases h : q = B.1 0 6
    · rw [if_pos h, h, yN_at]
    · rw [if_neg h, yN_ne (by omega)]
      show (yN (rB5 B 0 (rq6 B)) 0 2 n).1 6 q = _
      rw [e6]
  · show (if (0 : Nat) = 0 ∧ q = B.1 0 6 ∧ i = B.1 6 (B.1 0 6) then l else (rB5 B 0 (rq6 B)).2 0 q i) = _
    rw [v.2.2.2]
    by_cases h : q = B.1 0 6 ∧ i = B.1 6 (B.1 0 6)
    · rw [if_pos h, if_pos ⟨rfl, h⟩]
    · rw [if_neg h, if_neg (fun w => h w.2)]
theorem rWs_w (B : yB) (n : Int) (l : List (List Int)) : ((rWs B n l).1 0 0 = B.1 0 0 ∧ (rWs B n l).1 0 1 = B.1 0 1 ∧ (rWs B n l).1 6 = B.1 6 ∧ (rWs B n l).2 0 = B.2 0) ∧ (∀ q : Int, (rWs B n l).1 4 q = if q = B.1 0 3 then B.1 4 (B.1 0 3) + 1 else B.1 4 q) ∧ ∀ q i : Int, (rWs B n l).2 1 q i = if q = B.1 0 3 ∧ i = B.1 4 (B.1 0 3) then l else B.2 1 q i := by
  have v := rB5_v B 1 (rq7 B)
  have e4 : (yN (rB5 B 1 (rq7 B)) 0 2 n).1 4 = B.1 4 := by rw [yN_nk (by decide), v.2.2.1 4 (by decide)]
  unfold rWs yBs
  rw [e4]
  refine ⟨⟨?_, ?_, ?_, ?_⟩, fun q => ?_, fun q i => ?_⟩
  · rw [yN_nk (by decide)]
    show (yN (rB5 B 1 (rq7 B)) 0 2 n).1 0 0 = _
    rw [yN_ne (by omega), v.1.1]
  · rw [yN_nk (by decide)]
    show (yN (rB5 B 1 (rq7 B)) 0 2 n).1 0 1 = _
    rw [yN_ne (by omega), v.1.2.1]
  · rw [yN_nk (by decide)]
    show (yN (rB5 B 1 (rq7 B)) 0 2 n).1 6 = _
    rw [yN_nk (by decide), v.2.2.1 6 (by decide)]
  · show (yL (yN (rB5 B 1 (rq7 B)) 0 2 n) 1 (B.1 0 3) (B.1 4 (B.1 0 3)) l).2 0 = B.2 0
    rw [yL_k (by decide)]
    show (rB5 B 1 (rq7 B)).2 0 = _
    rw [v.2.2.2]
  · by_cases h : q = B.1 0 3
    · rw [if_pos h, h, yN_at]
    · rw [if_neg h, yN_ne (by omega)]
      show (yN (rB5 B 1 (rq7 B)) 0 2 n).1 4 q = _
      rw [e4]
  · show (if (1 : Nat) = 1 ∧ q = B.1 0 3 ∧ i = B.1 4 (B.1 0 3) then l else (rB5 B 1 (rq7 B)).2 1 q i) = _
    rw [v.2.2.2]
    by_cases h : q = B.1 0 3 ∧ i = B.1 4 (B.1 0 3)
    · rw [if_pos h, if_pos ⟨rfl, h⟩]
    · rw [if_neg h, if_neg (fun w => h w.2)]
/-- a BOUND more -/
theorem rTd_wb {μ m m1 : zM} {B : yB} {n x k h : Int} {as : List (List Int)} (S : rTd μ B) (e1 : m1 = zu μ 83 k x) (hk : k = 2 * (80 + B.1 0 6) + B.1 6 (B.1 0 6)) (h0 : 0 ≤ B.1 6 (B.1 0 6) ∧ B.1 6 (B.1 0 6) ≤ 1) (hm : ∀ j : Nat, j ≠ 84 → m.1 j = m1.1 j) (hx : 0 ≤ x ∧ x < zTop μ) (hE : rE μ x (h :: as.flatten)) : rTd m (rWb B n ([h] :: as)) := by
  have v := rWb_v B n ([h] :: as)
  have w := rWb_w B n ([h] :: as)
  have ht : zTop m = zTop μ := by unfold zTop; rw [hm 66 (by decide), e1, zu_ne (by decide)]
  have hc : ∀ j : Nat, 67 ≤ j → j ≤ 71 → m.1 j = μ.1 j := fun j a b => by rw [hm j (by omega), e1, zu_ne (by omega)]
  have h2 := S.2.2.2
  refine ⟨fun k' i a b c d => ?_, fun p i a b c d => ?_, fun k' a b => ?_, fun p a b => ?_⟩
  · rw [w.1] at b; rw [w.2.1] at d; rw [v.2.2.1]
    have hx : zXs m k' i = zXs μ k' i := by unfold zXs; rw [hm 78 (by decide), e1, zu_ne (by decide)]
    rw [hx]; exact rT1_c (S.1 k' i a b c d) hc ht
  · rw [v.2.2.2.2] at b; rw [w.2.2.1] at d; rw [w.2.2.2]
    by_cases q : p = B.1 0 6 ∧ i = B.1 6 (B.1 0 6)
    · rw [if_pos q, hm 83 (by decide), e1, show 2 * (80 + p) + i = k by rw [hk, q.1, q.2], zu_at]
      exact rT1_c (μ := μ) ⟨hx, hE⟩ hc ht
    · rw [if_neg q]
      have d' : i < B.1 6 p := by
        by_cases q' : p = B.1 0 6
        · rw [if_pos q'] at d
          have : i ≠ B.1 6 (B.1 0 6) := fun z => q ⟨q', z⟩
          rw [q']; omega
        · rw [if_neg q'] at d; exact d
      have h2p := h2 p a b
      have nk : 2 * (80 + p) + i ≠ k := by
        rw [hk]
        intro z
        by_cases q' : p = B.1 0 6
        · exact q ⟨q', by omega⟩
        · omega
      rw [hm 83 (by decide), e1, zu_nk nk]
      exact rT1_c (S.2.1 p i a b c d') hc ht
  · rw [w.1] at b; rw [w.2.1]; exact S.2.2.1 k' a b
  · rw [v.2.2.2.2] at b; rw [w.2.2.1]
    have := h2 p a b
    split <;> omega
/-- a TYPE behind the colon more -/
theorem rTd_ws {μ m m1 : zM} {B : yB} {n x k h : Int} {as : List (List Int)} (S : rTd μ B) (e1 : m1 = zu μ 78 k x) (hk : k = 4 * (21 + B.1 0 3) + B.1 4 (B.1 0 3)) (h0 : 0 ≤ B.1 4 (B.1 0 3) ∧ B.1 4 (B.1 0 3) ≤ 3) (hm : ∀ j : Nat, j ≠ 79 → m.1 j = m1.1 j) (hx : 0 ≤ x ∧ x < zTop μ) (hE : rE μ x (h :: as.flatten)) : rTd m (rWs B n ([h] :: as)) := by
  have w := rWs_w B n ([h] :: as)
  have ht : zTop m = zTop μ := by unfold zTop; rw [hm 66 (by decide), e1, zu_ne (by decide)]
  have hc : ∀ j : Nat, 67 ≤ j → j ≤ 71 → m.1 j = μ.1 j := fun j a b => by rw [hm j (by omega), e1, zu_ne (by omega)]
  have h2 := S.2.2.1
  refine ⟨fun p i a b c d => ?_, fun k' i a b c d => ?_, fun p a b => ?_, fun k' a b => ?_⟩
  · rw [w.1.1] at b; rw [w.2.1] at d; rw [w.2.2]
    by_cases q : p = B.1 0 3 ∧ i = B.1 4 (B.1 0 3)
    · have hs : zXs m p i = x := by unfold zXs; rw [hm 78 (by decide), e1, show 4 * (21 + p) + i = k by rw [hk, q.1, q.2], zu_at]
      rw [if_pos q, hs]
      exact rT1_c (μ := μ) ⟨hx, hE⟩ hc ht
    · rw [if_neg q]
      have d' : i < B.1 4 p := by
        by_cases q' : p = B.1 0 3
        · rw [if_pos q'] at d
          have : i ≠ B.1 4 (B.1 0 3) := fun z => q ⟨q', z⟩
          rw [q']; omega
        · rw [if_neg q'] at d; exact d
      have h2p := h2 p a b
      have nk : 4 * (21 + p) + i ≠ k := by
        rw [hk]
        intro z
        by_cases q' : p = B.1 0 3
        · exact q ⟨q', by omega⟩
        · omega
      have hs : zXs m p i = zXs μ p i := by unfold zXs; rw [hm 78 (by decide), e1, zu_nk nk]
      rw [hs]
      exact rT1_c (S.1 p i a b c d') hc ht
  · rw [w.1.2.1] at b; rw [w.1.2.2.1] at d; rw [w.1.2.2.2]
    rw [hm 83 (by decide), e1, zu_ne (by decide)]
    exact rT1_c (S.2.1 k' i a b c d) hc ht
  · rw [w.1.1] at b; rw [w.2.1]
    have := h2 p a b
    split <;> omega
  · rw [w.1.2.1] at b; rw [w.1.2.2.1]; exact S.2.2.2 k' a b
/-- a class's head more -/
theorem rTd_h {μ m : zM} {B B' : yB} {c : Int} (S : rTd μ B) (hN : rNu μ B) (hN' : rNu m B') (h : zHd μ m c) (h26 : μ.1 66 ((26 : Nat) : Int) = c) (eB : B'.2 = B.2) (hc : ∀ j : Nat, 67 ≤ j → j ≤ 71 → m.1 j = μ.1 j) (h78 : m.1 78 = μ.1 78) (h83 : m.1 83 = μ.1 83) (ht : zTop m = zTop μ) : rTd m B' := by
  have n0 : B.1 0 0 = c := hN.1.2.2.1.symm.trans h26
  have n0' : B'.1 0 0 = c + 1 := hN'.1.2.2.1.symm.trans h.1.2.2.2.2.2
  have p0 : B.1 0 1 = μ.1 66 ((27 : Nat) : Int) := hN.1.2.2.2.1.symm
  have p0' : B'.1 0 1 = m.1 66 ((27 : Nat) : Int) := hN'.1.2.2.2.1.symm
  refine ⟨fun k i a b e d => ?_, fun p i a b e d => ?_, fun k a b => ?_, fun p a b => ?_⟩
  · have c4 := (hN'.2.1 k a b).2.2.2
    by_cases q : k = c
    · exfalso
      rw [q] at c4 d
      have := h.1.2.1
      omega
    · have c5 := (hN.2.1 k a (by omega)).2.2.2
      have c6 := (h.2.1 (21 + k) (by omega)).2.2
      have hx : zXs m k i = zXs μ k i := by unfold zXs; rw [h78]
      rw [hx, eB]
      exact rT1_c (S.1 k i a (by omega) e (by omega)) hc ht
  · have c4 := (hN'.2.2 p a b).2
    by_cases q : p < B.1 0 1
    · have c5 := (hN.2.2 p a q).2
      have c6 := h.2.2.1 (80 + p) (by omega)
      rw [h83, eB]
      exact rT1_c (S.2.1 p i a q e (by omega)) hc ht
    · exfalso
      have := h.2.2.2 p (by omega) (by omega)
      omega
  · have c4 := (hN'.2.1 k a b).2.2.2
    by_cases q : k = c
    · rw [q] at c4 ⊢
      have := h.1.2.1
      omega
    · have c5 := (hN.2.1 k a (by omega)).2.2.2
      have c6 := (h.2.1 (21 + k) (by omega)).2.2
      have := S.2.2.1 k a (by omega)
      omega
  · have c4 := (hN'.2.2 p a b).2
    by_cases q : p < B.1 0 1
    · have c5 := (hN.2.2 p a q).2
      have c6 := h.2.2.1 (80 + p) (by omega)
      have := S.2.2.2 p a q
      omega
    · have := h.2.2.2 p (by omega) (by omega)
      omega
theorem rTd_0 {m : zM} : rTd m yB0 := by
  refine ⟨fun k i a b c d => ?_, fun p i a b c d => ?_, fun k a b => ?_, fun p a b => ?_⟩
  · exact absurd d (by show ¬ i < 0; omega)
  · exact absurd b (by show ¬ p < 0; omega)
  · show (0 : Int) ≤ 4; decide
  · show (0 : Int) ≤ 2; decide
