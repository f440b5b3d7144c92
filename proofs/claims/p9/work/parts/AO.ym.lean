/-! ### a table grows -/
theorem yL_at {B : yB} {k : Nat} {i j : Int} {l : List (List Int)} : (yL B k i j l).2 k i j = l := by simp [yL]
theorem yL_ne {B : yB} {k k' : Nat} {i j i' j' : Int} {l : List (List Int)} (h : k' ≠ k ∨ i' ≠ i ∨ j' ≠ j) : (yL B k i j l).2 k' i' j' = B.2 k' i' j' := by
  show (if k' = k ∧ i' = i ∧ j' = j then l else B.2 k' i' j') = _
  rw [if_neg (by omega)]
/-- the class that is told just now -/
def yCu (B : yB) : Prop := B.1 0 3 = B.1 0 0 - 1 ∧ 2 ≤ B.1 0 0 ∧ B.1 0 1 = B.1 2 (B.1 0 3) + B.1 3 (B.1 0 3) ∧ B.1 2 (B.1 0 3) ≤ 4 * (B.1 0 0 - 2)
def yZ (B : yB) : Prop := ∀ p : Int, B.1 2 (B.1 0 3) ≤ p → p < B.1 0 1 → B.1 6 p = 0
def yb1 (B : yB) (j : Int) : Int := if j < B.1 3 (B.1 0 3) then B.1 6 (B.1 2 (B.1 0 3) + j) else 0
def ybs (B : yB) : Int := yb1 B 0 + yb1 B 1 + (yb1 B 2 + yb1 B 3)
def yDI (T : yT) (μ : zM) (p : Int) (B : yB) (t : Nat) : Prop := yRC T μ p B t (Nat.add t 11) ∧ μ.1 50 ((10 : Nat) : Int) = 0 ∧ yCu B
def yB1 (B : yB) (x : Int) : yB := yN (yN (yN (yN (yN (yN B 1 (B.1 0 0) x) 2 (B.1 0 0) (B.1 0 1)) 3 (B.1 0 0) 0) 4 (B.1 0 0) 0) 0 3 (B.1 0 0)) 0 0 (B.1 0 0 + 1)
theorem yB1_v (B : yB) (x : Int) : ((yB1 B x).1 0 0 = B.1 0 0 + 1 ∧ (yB1 B x).1 0 1 = B.1 0 1 ∧ (yB1 B x).1 0 2 = B.1 0 2 ∧ (yB1 B x).1 0 3 = B.1 0 0) ∧ ((yB1 B x).1 1 (B.1 0 0) = x ∧ (yB1 B x).1 2 (B.1 0 0) = B.1 0 1 ∧ (yB1 B x).1 3 (B.1 0 0) = 0 ∧ (yB1 B x).1 4 (B.1 0 0) = 0) ∧ (∀ (k : Nat) (i : Int), k ≠ 0 → i ≠ B.1 0 0 → (yB1 B x).1 k i = B.1 k i) ∧ (∀ k : Nat, 5 ≤ k → (yB1 B x).1 k = B.1 k) ∧ (yB1 B x).2 = B.2 := by
  unfold yB1
  refine ⟨⟨yN_at, ?_, ?_, ?_⟩, ⟨?_, ?_, ?_, ?_⟩, fun k i hk hi => ?_, fun k hk => ?_, rfl⟩
  · rw [yN_ne (by decide), yN_ne (by decide), yN_nk (by decide), yN_nk (by decide), yN_nk (by decide), yN_nk (by decide)]
  · rw [yN_ne (by decide), yN_ne (by decide), yN_nk (by decide), yN_nk (by decide), yN_nk (by decide), yN_nk (by decide)]
  · rw [yN_ne (by decide), yN_at]
  · rw [yN_nk (by decide), yN_nk (by decide), yN_nk (by decide), yN_nk (by decide), yN_nk (by decide), yN_at]
  · rw [yN_nk (by decide), yN_nk (by decide), yN_nk (by decide), yN_nk (by decide), yN_at]
  · rw [yN_nk (by decide), yN_nk (by decide), yN_nk (by decide), yN_at]
  · rw [yN_nk (by decide), yN_nk (by decide), yN_at]
  · rw [yN_nk hk, yN_nk hk, yN_ne (Or.inr hi), yN_ne (Or.inr hi), yN_ne (Or.inr hi), yN_ne (Or.inr hi)]
  · rw [yN_nk (by omega), yN_nk (by omega), yN_nk (by omega), yN_nk (by omega), yN_nk (by omega), yN_nk (by omega)]
theorem yap_v (B : yB) (x : Int) : ((yap B x).1 0 0 = B.1 0 0 ∧ (yap B x).1 0 1 = B.1 0 1 + 1 ∧ (yap B x).1 0 2 = B.1 0 2 ∧ (yap B x).1 0 3 = B.1 0 3) ∧ ((yap B x).1 5 (B.1 0 1) = x ∧ (yap B x).1 7 (B.1 0 1) = B.1 0 3 ∧ (yap B x).1 6 (B.1 0 1) = 0 ∧ (yap B x).1 3 (B.1 0 3) = B.1 3 (B.1 0 3) + 1) ∧ (∀ i : Int, i ≠ B.1 0 1 → (yap B x).1 5 i = B.1 5 i ∧ (yap B x).1 6 i = B.1 6 i ∧ (yap B x).1 7 i = B.1 7 i) ∧ (∀ i : Int, i ≠ B.1 0 3 → (yap B x).1 3 i = B.1 3 i) ∧ ((yap B x).1 1 = B.1 1 ∧ (yap B x).1 2 = B.1 2 ∧ (yap B x).1 4 = B.1 4) ∧ (yap B x).2 = B.2 := by
  unfold yap
  refine ⟨⟨?_, yN_at, ?_, ?_⟩, ⟨?_, ?_, ?_, ?_⟩, fun i hi => ⟨?_, ?_, ?_⟩, fun i hi => ?_, ⟨?_, ?_, ?_⟩, rfl⟩
  · rw [yN_ne (by decide), yN_nk (by decide), yN_nk (by decide), yN_nk (by decide), yN_nk (by decide)]
  · rw [yN_ne (by decide), yN_nk (by decide), yN_nk (by decide), yN_nk (by decide), yN_nk (by decide)]
  · rw [yN_ne (by decide), yN_nk (by decide), yN_nk (by decide), yN_nk (by decide), yN_nk (by decide)]
  · rw [yN_nk (by decide), yN_nk (by decide), yN_nk (by decide), yN_nk (by decide), yN_at]
  · rw [yN_nk (by decide), yN_nk (by decide), yN_nk (by decide), yN_at]
  · rw [yN_nk (by decide), yN_nk (by decide), yN_at]
  · rw [yN_nk (by decide), yN_at]
  · rw [yN_nk (by decide), yN_nk (by decide), yN_nk (by decide), yN_nk (by decide), yN_ne (Or.inr hi)]
  · rw [yN_nk (by decide), yN_nk (by decide), yN_ne (Or.inr hi), yN_nk (by decide), yN_nk (by decide)]
  · rw [yN_nk (by decide), yN_nk (by decide), yN_nk (by decide), yN_ne (Or.inr hi), yN_nk (by decide)]
  · rw [yN_nk (by decide), yN_ne (Or.inr hi), yN_nk (by decide), yN_nk (by decide), yN_nk (by decide)]
  · rw [yN_nk (by decide), yN_nk (by decide), yN_nk (by decide), yN_nk (by decide), yN_nk (by decide)]
  · rw [yN_nk (by decide), yN_nk (by decide), yN_nk (by decide), yN_nk (by decide), yN_nk (by decide)]
  · rw [yN_nk (by decide), yN_nk (by decide), yN_nk (by decide), yN_nk (by decide), yN_nk (by decide)]
/-- cells of a table, of the tape and of the reader are apart -/
theorem yta {t a b : Nat} (ht : t = 14 ∨ t = 32) (h : a ≠ b) : Nat.add t a ≠ Nat.add t b := show t + a ≠ t + b by omega
theorem ytb {t a b : Nat} (ht : t = 14 ∨ t = 32) (ha : a ≤ 17) : Nat.add t a ≠ Nat.add 3000000 b := show t + a ≠ 3000000 + b by omega
theorem ytc {t a c : Nat} (ht : t = 14 ∨ t = 32) (ha : a ≤ 17) (hc : c = 50 ∨ c ≤ 13 ∨ 3000000 ≤ c) : Nat.add t a ≠ c := show t + a ≠ c by omega
theorem yte {t a b : Nat} (ht : t = 14 ∨ t = 32) (ha : a ≤ 17) (hb : b ≠ a) : Nat.add 3000000 (Nat.add t b) ≠ Nat.add 3000000 (Nat.add t a) := show 3000000 + (t + b) ≠ 3000000 + (t + a) by omega
theorem yRC_ac {T : yT} {μ m1 m2 : zM} {p x y : Int} {B : yB} {t : Nat} (h : yRC T μ p B t (Nat.add t 11)) (hn : B.1 0 0 ≤ 20) (e1 : m1 = yacM μ t x) (e2 : m2 = zu m1 50 ((5 : Nat) : Int) y) (hy : y = B.1 0 0) : yRC T m2 p (yB1 B x) t (Nat.add t 11) ∧ m2.1 50 ((10 : Nat) : Int) = μ.1 50 ((10 : Nat) : Int) := by
  obtain ⟨h1, ⟨⟨ht, hq⟩, h3, h4, h5, h6, h7⟩, ⟨⟨g1, g2, g3, g4⟩, g5, g6⟩, h9, h10, h12, h13⟩ := yRX_out h
  have hF8 := h.2.2.2.2.2
  obtain ⟨⟨v0, v1, v2, v3⟩, ⟨w1, w2, w3, w4⟩, w5, w6, w7⟩ := yB1_v B x
  subst e1
  subst hy
  unfold yacM at e2
  rw [g1, g2] at e2
  have nt : Nat.add t 0 = t := rfl
  have hc : ∀ j : Nat, j ≠ 50 → j ≠ t → j ≠ Nat.add t 2 → j ≠ Nat.add t 3 → j ≠ Nat.add t 4 → j ≠ Nat.add 3000000 (Nat.add t 1) → m2.1 j = μ.1 j := fun j a b c d e f => by rw [e2, zu_ne a, zu_ne b, zu_ne e, zu_ne d, zu_ne c, zu_ne f]
  have hk : ∀ a : Nat, a ≤ 17 → a ≠ 0 → a ≠ 2 → a ≠ 3 → a ≠ 4 → m2.1 (Nat.add t a) = μ.1 (Nat.add t a) := fun a ha a0 a2 a3 a4 => hc _ (ytc ht ha (by omega)) (show t + a ≠ t by omega) (yta ht a2) (yta ht a3) (yta ht a4) (ytb ht ha)
  have h50 : ∀ k : Int, k ≠ ((5 : Nat) : Int) → m2.1 50 k = μ.1 50 k := fun k kk => by
    have kk : ¬ k = 5 := kk
    rw [e2]; rcases ht with rfl | rfl <;> simp [zu] <;> (intro q; exact absurd q kk)
  have htt : ∀ k : Int, k ≠ ((12 : Nat) : Int) → m2.1 t k = μ.1 t k := fun k kk => by
    have kk : ¬ k = 12 := kk
    rw [e2]; rcases ht with rfl | rfl <;> simp [zu] <;> (intro q; exact absurd q kk)
  have c1 : ∀ k : Int, m2.1 (Nat.add 3000000 (Nat.add t 1)) k = if k = B.1 0 0 then x else μ.1 (Nat.add 3000000 (Nat.add t 1)) k := fun k => by rw [e2]; rcases ht with rfl | rfl <;> simp [zu]
  have c2 : ∀ k : Int, m2.1 (Nat.add t 2) k = if k = B.1 0 0 then B.1 0 1 else μ.1 (Nat.add t 2) k := fun k => by rw [e2]; rcases ht with rfl | rfl <;> simp [zu]
  have c3 : ∀ k : Int, m2.1 (Nat.add t 3) k = if k = B.1 0 0 then 0 else μ.1 (Nat.add t 3) k := fun k => by rw [e2]; rcases ht with rfl | rfl <;> simp [zu]
  have c4 : ∀ k : Int, m2.1 (Nat.add t 4) k = if k = B.1 0 0 then 0 else μ.1 (Nat.add t 4) k := fun k => by rw [e2]; rcases ht with rfl | rfl <;> simp [zu]
  have n6 : m2.1 (Nat.add 3000000 (Nat.add t 6)) = μ.1 (Nat.add 3000000 (Nat.add t 6)) := hc _ (show 3000000 + (t + 6) ≠ 50 by omega) (show 3000000 + (t + 6) ≠ t by omega) (Ne.symm (ytb ht (by decide))) (Ne.symm (ytb ht (by decide))) (Ne.symm (ytb ht (by decide))) (yte ht (by decide) (by decide))
  have sm : ∀ j : Nat, j ≤ 13 ∨ 3000000 ≤ j → j ≠ Nat.add 3000000 (Nat.add t 1) → m2.1 j = μ.1 j := fun j a b => hc j (by omega) (by omega) (Ne.symm (ytc ht (by decide) (by omega))) (Ne.symm (ytc ht (by decide) (by omega))) (Ne.symm (ytc ht (by decide) (by omega))) b
  refine ⟨yRX_in (by first | exact (h50 _ (by decide)).trans hF8 | (rw [h50]; exact hF8)) ⟨yRT_fr h1 (sm 1 (by decide) (show 1 ≠ 3000000 + (t + 1) by omega)) (sm 3 (by decide) (show 3 ≠ 3000000 + (t + 1) by omega)) (sm 4 (by decide) (show 4 ≠ 3000000 + (t + 1) by omega)) (sm 3000005 (by decide) (show 3000005 ≠ 3000000 + (t + 1) by omega)) (sm 5000001 (by decide) (show 5000001 ≠ 3000000 + (t + 1) by omega)), ⟨⟨ht, hq⟩, (h50 _ (by decide)).trans h3, (h50 _ (by decide)).trans h4, ?_, ?_, ?_⟩, ⟨⟨?_, ?_, ?_, ?_⟩, ?_, ?_⟩, ⟨?_, ?_⟩, ?_, ?_, ?_⟩, h50 _ (by decide)⟩
  · rw [h50 _ (by decide), v2]; exact h5
  · rw [e2, zu_at, v3]
  · rw [v2]; exact h7
  · rw [e2, zu_ne (by omega), zu_at, v0]
  · rw [htt _ (by decide), v1]; exact g2
  · rw [v0]; omega
  · rw [v0, v1]; omega
  · intro k k0 k1
    rw [v0] at k1
    rw [c1, c2, c3, c4, v1]
    by_cases q : k = B.1 0 0
    · subst q
      rw [if_pos rfl, if_pos rfl, if_pos rfl, if_pos rfl, w1, w2, w3, w4]
      exact ⟨⟨rfl, rfl, rfl, rfl⟩, ⟨by omega, by omega, by omega, by omega⟩, by omega, by omega⟩
    · rw [if_neg q, if_neg q, if_neg q, if_neg q, w5 1 k (by decide) q, w5 2 k (by decide) q, w5 3 k (by decide) q, w5 4 k (by decide) q]
      exact g5 k k0 (by omega)
  · rw [v1, n6, hk 7 (by decide) (by decide) (by decide) (by decide) (by decide), hk 8 (by decide) (by decide) (by decide) (by decide) (by decide), w6 5 (by decide), w6 6 (by decide), w6 7 (by decide)]
    exact g6
  · intro k i k0 k1 i0 i1
    rw [v0] at k1
    rw [hk 5 (by decide) (by decide) (by decide) (by decide) (by decide), w7]
    by_cases q : k = B.1 0 0
    · subst q; rw [w4] at i1; omega
    · rw [w5 4 k (by decide) q] at i1
      have z := h9.1 k i k0 (by omega) i0 i1
      unfold ynn at z ⊢
      rw [if_pos rfl] at z ⊢
      rw [v2]
      exact ⟨z.1, z.2.1, yRow_e z.2.2 (hk 11 (by decide) (by decide) (by decide) (by decide) (by decide))⟩
  · intro k i k0 k1 i0 i1
    rw [v1] at k1
    rw [w6 6 (by decide)] at i1
    rw [hk 9 (by decide) (by decide) (by decide) (by decide) (by decide), hk 10 (by decide) (by decide) (by decide) (by decide) (by decide), w7]
    have z := h9.2 k i k0 k1 i0 i1
    unfold ynn at z ⊢
    rw [if_pos rfl] at z ⊢
    rw [v2]
    exact ⟨z.1, z.2.1, z.2.2.1, yRow_e z.2.2.2 (hk 11 (by decide) (by decide) (by decide) (by decide) (by decide))⟩
  · rw [w7]
    refine yRO_fr h10 (hk 12 (by decide) (by decide) (by decide) (by decide) (by decide)) (hk 13 (by decide) (by decide) (by decide) (by decide) (by decide)) (hk 14 (by decide) (by decide) (by decide) (by decide) (by decide)) (hc _ ?_ ?_ ?_ ?_ ?_ ?_)
    · rcases h13 with q | q | q <;> omega
    · rcases h13 with q | q | q <;> omega
    · show _ ≠ t + 2; rcases h13 with q | q | q <;> omega
    · show _ ≠ t + 3; rcases h13 with q | q | q <;> omega
    · show _ ≠ t + 4; rcases h13 with q | q | q <;> omega
    · show _ ≠ 3000000 + (t + 1); rcases h13 with q | q | q <;> omega
  · rw [hk 12 (by decide) (by decide) (by decide) (by decide) (by decide), w7]
    have z2 : m2.2 = μ.2 := by rw [e2]; rfl
    rw [z2, sm 0 (by decide) (show 0 ≠ 3000000 + (t + 1) by omega)]; exact h12
  · unfold yCC; rw [hk 12 (by decide) (by decide) (by decide) (by decide) (by decide)]; exact h13
theorem yRC_ap {T : yT} {μ m1 : zM} {p x o : Int} {B : yB} {t : Nat} (h : yRC T μ p B t (Nat.add t 11)) (hu : yCu B) (hn : B.1 3 (B.1 0 3) ≤ 3) (ho : o = B.1 0 3) (e1 : m1 = yapM μ t o x) : yRC T m1 p (yap B x) t (Nat.add t 11) ∧ m1.1 50 = μ.1 50 ∧ yCu (yap B x) := by
  obtain ⟨h1, ⟨⟨ht, hq⟩, h3, h4, h5, h6, h7⟩, ⟨⟨g1, g2, g3, g4⟩, g5, g6⟩, h9, h10, h12, h13⟩ := yRX_out h
  have hF8 := h.2.2.2.2.2
  obtain ⟨⟨v0, v1, v2, v3⟩, ⟨w1, w2, w3, w4⟩, w5, w6, ⟨w7, w8, w9⟩, w10⟩ := yap_v B x
  obtain ⟨u1, u2, u3, u4⟩ := hu
  have go := g5 (B.1 0 3) (by omega) (by omega)
  subst ho
  unfold yapM at e1
  rw [g2, go.1.2.2.1] at e1
  have hc : ∀ j : Nat, j ≠ t → j ≠ Nat.add t 3 → j ≠ Nat.add t 7 → j ≠ Nat.add t 8 → j ≠ Nat.add 3000000 (Nat.add t 6) → m1.1 j = μ.1 j := fun j a b c d e => by rw [e1, zu_ne a, zu_ne b, zu_ne d, zu_ne c, zu_ne e]
  have hk : ∀ a : Nat, a ≤ 17 → a ≠ 0 → a ≠ 3 → a ≠ 7 → a ≠ 8 → m1.1 (Nat.add t a) = μ.1 (Nat.add t a) := fun a ha a0 a3 a7 a8 => hc _ (show t + a ≠ t by omega) (yta ht a3) (yta ht a7) (yta ht a8) (ytb ht ha)
  have h50 : m1.1 50 = μ.1 50 := hc _ (by omega) (show 50 ≠ t + 3 by omega) (show 50 ≠ t + 7 by omega) (show 50 ≠ t + 8 by omega) (show 50 ≠ 3000000 + (t + 6) by omega)
  have htt : ∀ k : Int, k ≠ ((13 : Nat) : Int) → m1.1 t k = μ.1 t k := fun k kk => by
    have kk : ¬ k = 13 := kk
    rw [e1]; rcases ht with rfl | rfl <;> simp [zu] <;> (intro q; exact absurd q kk)
  have ht13 : m1.1 t ((13 : Nat) : Int) = B.1 0 1 + 1 := by rw [e1, zu_at]
  have c3 : ∀ k : Int, m1.1 (Nat.add t 3) k = if k = B.1 0 3 then B.1 3 (B.1 0 3) + 1 else μ.1 (Nat.add t 3) k := fun k => by rw [e1]; rcases ht with rfl | rfl <;> simp [zu]
  have c6 : ∀ k : Int, m1.1 (Nat.add 3000000 (Nat.add t 6)) k = if k = B.1 0 1 then x else μ.1 (Nat.add 3000000 (Nat.add t 6)) k := fun k => by rw [e1]; rcases ht with rfl | rfl <;> simp [zu]
  have c7 : ∀ k : Int, m1.1 (Nat.add t 7) k = if k = B.1 0 1 then B.1 0 3 else μ.1 (Nat.add t 7) k := fun k => by rw [e1]; rcases ht with rfl | rfl <;> simp [zu]
  have c8 : ∀ k : Int, m1.1 (Nat.add t 8) k = if k = B.1 0 1 then 0 else μ.1 (Nat.add t 8) k := fun k => by rw [e1]; rcases ht with rfl | rfl <;> simp [zu]
  have n1 : m1.1 (Nat.add 3000000 (Nat.add t 1)) = μ.1 (Nat.add 3000000 (Nat.add t 1)) := hc _ (show 3000000 + (t + 1) ≠ t by omega) (Ne.symm (ytb ht (by decide))) (Ne.symm (ytb ht (by decide))) (Ne.symm (ytb ht (by decide))) (yte ht (by decide) (by decide))
  have sm : ∀ j : Nat, j ≤ 13 ∨ 3000000 ≤ j → j ≠ Nat.add 3000000 (Nat.add t 6) → m1.1 j = μ.1 j := fun j a b => hc j (by omega) (Ne.symm (ytc ht (by decide) (by omega))) (Ne.symm (ytc ht (by decide) (by omega))) (Ne.symm (ytc ht (by decide) (by omega))) b
  refine ⟨yRX_in (by first | exact (h50 _ (by decide)).trans hF8 | (rw [h50]; exact hF8)) ⟨yRT_fr h1 (sm 1 (by decide) (show 1 ≠ 3000000 + (t + 6) by omega)) (sm 3 (by decide) (show 3 ≠ 3000000 + (t + 6) by omega)) (sm 4 (by decide) (show 4 ≠ 3000000 + (t + 6) by omega)) (sm 3000005 (by decide) (show 3000005 ≠ 3000000 + (t + 6) by omega)) (sm 5000001 (by decide) (show 5000001 ≠ 3000000 + (t + 6) by omega)), ⟨⟨ht, hq⟩, by rw [h50]; exact h3, by rw [h50]; exact h4, by rw [h50, v2]; exact h5, by rw [h50, v3]; exact h6, by rw [v2]; exact h7⟩, ⟨⟨?_, ?_, ?_, ?_⟩, ?_, ?_⟩, ⟨?_, ?_⟩, ?_, ?_, ?_⟩, h50, ?_⟩
  · rw [htt _ (by decide), v0]; exact g1
  · rw [ht13, v1]
  · rw [v0]; exact g3
  · rw [v0, v1]; omega
  · intro k k0 k1
    rw [v0] at k1
    rw [n1, hk 2 (by decide) (by decide) (by decide) (by decide) (by decide), c3, hk 4 (by decide) (by decide) (by decide) (by decide) (by decide), v1, w7, w8, w9]
    have z := g5 k k0 k1
    by_cases q : k = B.1 0 3
    · rw [if_pos q, q, w4, ← q]
      rw [q] at z
      rw [q]
      exact ⟨⟨z.1.1, z.1.2.1, rfl, z.1.2.2.2⟩, ⟨by omega, by omega, by omega, by omega⟩, z.2.2⟩
    · rw [if_neg q, w6 k q]
      exact ⟨z.1, ⟨by omega, by omega, by omega, by omega⟩, z.2.2⟩
  · intro k k0 k1
    rw [v1] at k1
    rw [c6, c7, c8]
    by_cases q : k = B.1 0 1
    · rw [if_pos q, if_pos q, if_pos q, q, w1, w2, w3]
      exact ⟨⟨rfl, rfl, rfl⟩, by omega, by omega⟩
    · rw [if_neg q, if_neg q, if_neg q, (w5 k q).1, (w5 k q).2.1, (w5 k q).2.2]
      exact g6 k k0 (by omega)
  · intro k i k0 k1 i0 i1
    rw [v0] at k1
    rw [w9] at i1
    rw [hk 5 (by decide) (by decide) (by decide) (by decide) (by decide), w10]
    have z := h9.1 k i k0 k1 i0 i1
    unfold ynn at z ⊢
    rw [if_pos rfl] at z ⊢
    rw [v2]
    exact ⟨z.1, z.2.1, yRow_e z.2.2 (hk 11 (by decide) (by decide) (by decide) (by decide) (by decide))⟩
  · intro k i k0 k1 i0 i1
    rw [v1] at k1
    rw [hk 9 (by decide) (by decide) (by decide) (by decide) (by decide), hk 10 (by decide) (by decide) (by decide) (by decide) (by decide), w10]
    by_cases q : k = B.1 0 1
    · rw [q, w3] at i1; omega
    · rw [(w5 k q).2.1] at i1
      have z := h9.2 k i k0 (by omega) i0 i1
      unfold ynn at z ⊢
      rw [if_pos rfl] at z ⊢
      rw [v2]
      exact ⟨z.1, z.2.1, z.2.2.1, yRow_e z.2.2.2 (hk 11 (by decide) (by decide) (by decide) (by decide) (by decide))⟩
  · rw [w10]
    refine yRO_fr h10 (hk 12 (by decide) (by decide) (by decide) (by decide) (by decide)) (hk 13 (by decide) (by decide) (by decide) (by decide) (by decide)) (hk 14 (by decide) (by decide) (by decide) (by decide) (by decide)) (hc _ ?_ ?_ ?_ ?_ ?_)
    · rcases h13 with q | q | q <;> omega
    · show _ ≠ t + 3; rcases h13 with q | q | q <;> omega
    · show _ ≠ t + 7; rcases h13 with q | q | q <;> omega
    · show _ ≠ t + 8; rcases h13 with q | q | q <;> omega
    · show _ ≠ 3000000 + (t + 6); rcases h13 with q | q | q <;> omega
  · rw [hk 12 (by decide) (by decide) (by decide) (by decide) (by decide)]
    have z2 : m1.2 = μ.2 := by rw [e1]; rfl
    rw [w10]
    rw [z2, sm 0 (by decide) (show 0 ≠ 3000000 + (t + 6) by omega)]; exact h12
  · unfold yCC; rw [hk 12 (by decide) (by decide) (by decide) (by decide) (by decide)]; exact h13
  · unfold yCu; rw [v0, v1, v3, w8, w4]; omega
def yBb (B : yB) (r : Int) (l : List (List Int)) : yB := yN (yL B 0 r (B.1 6 r) l) 6 r (B.1 6 r + 1)
theorem yRC_ab {T : yT} {μ m1 : zM} {p r a b : Int} {B : yB} {t : Nat} {l : List (List Int)} (h : yRC T μ p B t (Nat.add t 11)) (hr : 0 ≤ r ∧ r < B.1 0 1) (hn : B.1 6 r ≤ 1) (e1 : m1 = yabM μ t r a b) (hl : yTo μ (Nat.add t 11) a (B.1 0 2) l.flatten) (hb : b = (l.flatten.length : Int)) : yRC T m1 p (yBb B r l) t (Nat.add t 11) ∧ m1.1 50 = μ.1 50 := by
  obtain ⟨h1, ⟨⟨ht, hq⟩, h3, h4, h5, h6, h7⟩, ⟨⟨g1, g2, g3, g4⟩, g5, g6⟩, h9, h10, h12, h13⟩ := yRX_out h
  have hF8 := h.2.2.2.2.2
  have gr := g6 r hr.1 hr.2
  unfold yabM at e1
  rw [gr.1.2.2] at e1
  have hc : ∀ j : Nat, j ≠ Nat.add t 8 → j ≠ Nat.add t 9 → j ≠ Nat.add t 10 → m1.1 j = μ.1 j := fun j a b c => by rw [e1, zu_ne a, zu_ne c, zu_ne b]
  have hk : ∀ a : Nat, a ≤ 17 → a ≠ 8 → a ≠ 9 → a ≠ 10 → m1.1 (Nat.add t a) = μ.1 (Nat.add t a) := fun a ha a0 a3 a7 => hc _ (yta ht a0) (yta ht a3) (yta ht a7)
  have sm : ∀ j : Nat, j = 50 ∨ j ≤ 13 ∨ 3000000 ≤ j → m1.1 j = μ.1 j := fun j a => hc j (Ne.symm (ytc ht (by decide) a)) (Ne.symm (ytc ht (by decide) a)) (Ne.symm (ytc ht (by decide) a))
  have h50 : m1.1 50 = μ.1 50 := sm 50 (by decide)
  have c8 : ∀ k : Int, m1.1 (Nat.add t 8) k = if k = r then B.1 6 r + 1 else μ.1 (Nat.add t 8) k := fun k => by rw [e1]; rcases ht with rfl | rfl <;> simp [zu]
  have c9 : ∀ k : Int, m1.1 (Nat.add t 9) k = if k = r * 2 + B.1 6 r then a else μ.1 (Nat.add t 9) k := fun k => by rw [e1]; rcases ht with rfl | rfl <;> simp [zu]
  have c10 : ∀ k : Int, m1.1 (Nat.add t 10) k = if k = r * 2 + B.1 6 r then b else μ.1 (Nat.add t 10) k := fun k => by rw [e1]; rcases ht with rfl | rfl <;> simp [zu]
  have n0 : ∀ i : Int, (yBb B r l).1 0 i = B.1 0 i := fun i => by unfold yBb; rw [yN_nk (by decide)]; rfl
  have nk : ∀ k : Nat, k ≠ 6 → (yBb B r l).1 k = B.1 k := fun k hk => by unfold yBb; rw [yN_nk hk]; rfl
  have n6 : ∀ i : Int, (yBb B r l).1 6 i = if i = r then B.1 6 r + 1 else B.1 6 i := fun i => by
    unfold yBb
    by_cases q : i = r
    · rw [if_pos q, q, yN_at]
    · rw [if_neg q, yN_ne (Or.inr q)]; rfl
  have l0 : ∀ i j : Int, (yBb B r l).2 0 i j = if i = r ∧ j = B.1 6 r then l else B.2 0 i j := fun i j => by
    by_cases q : i = r ∧ j = B.1 6 r
    · rw [if_pos q, q.1, q.2]; exact yL_at
    · rw [if_neg q]; exact yL_ne (by omega)
  have l2 : ∀ k : Nat, k ≠ 0 → (yBb B r l).2 k = B.2 k := fun k hk => by funext i j; exact yL_ne (Or.inl hk)
  refine ⟨yRX_in (by first | exact (h50 _ (by decide)).trans hF8 | (rw [h50]; exact hF8)) ⟨yRT_fr h1 (sm 1 (by decide)) (sm 3 (by decide)) (sm 4 (by decide)) (sm 3000005 (by decide)) (sm 5000001 (by decide)), ⟨⟨ht, hq⟩, by rw [h50]; exact h3, by rw [h50]; exact h4, by rw [h50, n0]; exact h5, by rw [h50, n0]; exact h6, by rw [n0]; exact h7⟩, ⟨⟨?_, ?_, ?_, ?_⟩, ?_, ?_⟩, ⟨?_, ?_⟩, ?_, ?_, ?_⟩, h50⟩
  · rw [n0]; have := hk 0 (by decide) (by decide) (by decide) (by decide); rw [show m1.1 t = μ.1 t from this]; exact g1
  · rw [n0]; have := hk 0 (by decide) (by decide) (by decide) (by decide); rw [show m1.1 t = μ.1 t from this]; exact g2
  · rw [n0]; exact g3
  · rw [n0, n0]; exact g4
  · intro k k0 k1
    rw [n0] at k1
    rw [sm (Nat.add 3000000 (Nat.add t 1)) (Or.inr (Or.inr (show 3000000 ≤ 3000000 + (t + 1) by omega))), hk 2 (by decide) (by decide) (by decide) (by decide), hk 3 (by decide) (by decide) (by decide) (by decide), hk 4 (by decide) (by decide) (by decide) (by decide), n0, nk 1 (by decide), nk 2 (by decide), nk 3 (by decide), nk 4 (by decide)]
    exact g5 k k0 k1
  · intro k k0 k1
    rw [n0] at k1
    rw [sm (Nat.add 3000000 (Nat.add t 6)) (Or.inr (Or.inr (show 3000000 ≤ 3000000 + (t + 6) by omega))), hk 7 (by decide) (by decide) (by decide) (by decide), c8, n6, nk 5 (by decide), nk 7 (by decide)]
    have z := g6 k k0 k1
    by_cases q : k = r
    · rw [if_pos q, if_pos q]; exact ⟨⟨z.1.1, z.1.2.1, rfl⟩, by omega, by omega⟩
    · rw [if_neg q, if_neg q]; exact z
  · intro k i k0 k1 i0 i1
    rw [n0] at k1
    rw [nk 4 (by decide)] at i1
    rw [hk 5 (by decide) (by decide) (by decide) (by decide), l2 1 (by decide)]
    have z := h9.1 k i k0 k1 i0 i1
    unfold ynn at z ⊢
    rw [if_pos rfl] at z ⊢
    rw [n0]
    exact ⟨z.1, z.2.1, yRow_e z.2.2 (hk 11 (by decide) (by decide) (by decide) (by decide))⟩
  · intro k i k0 k1 i0 i1
    rw [n0] at k1
    rw [n6] at i1
    rw [c9, c10, l0]
    unfold ynn
    rw [if_pos rfl, n0]
    by_cases q : k = r ∧ i = B.1 6 r
    · rw [if_pos q, if_pos (by omega), if_pos (by omega)]
      exact ⟨hb, hl.1, hl.2.1, yRow_e hl.2.2 (hk 11 (by decide) (by decide) (by decide) (by decide))⟩
    · have zz : i < B.1 6 k := by split at i1 <;> (first | (rename_i c; subst c; omega) | omega)
      have g := g6 k k0 k1
      have z := h9.2 k i k0 k1 i0 zz
      unfold ynn at z
      rw [if_pos rfl] at z
      rw [if_neg q, if_neg (by omega), if_neg (by omega)]
      exact ⟨z.1, z.2.1, z.2.2.1, yRow_e z.2.2.2 (hk 11 (by decide) (by decide) (by decide) (by decide))⟩
  · rw [l2 2 (by decide)]
    refine yRO_fr h10 (hk 12 (by decide) (by decide) (by decide) (by decide)) (hk 13 (by decide) (by decide) (by decide) (by decide)) (hk 14 (by decide) (by decide) (by decide) (by decide)) (hc _ ?_ ?_ ?_)
    · show _ ≠ t + 8; rcases h13 with q | q | q <;> omega
    · show _ ≠ t + 9; rcases h13 with q | q | q <;> omega
    · show _ ≠ t + 10; rcases h13 with q | q | q <;> omega
  · rw [hk 12 (by decide) (by decide) (by decide) (by decide)]
    have z2 : m1.2 = μ.2 := by rw [e1]; rfl
    rw [l2 2 (by decide)]
    rw [z2, sm 0 (by decide)]; exact h12
  · unfold yCC; rw [hk 12 (by decide) (by decide) (by decide) (by decide)]; exact h13
def yBs (B : yB) (c : Int) (l : List (List Int)) : yB := yN (yL B 1 c (B.1 4 c) l) 4 c (B.1 4 c + 1)
theorem yRC_as {T : yT} {μ m1 : zM} {p r a : Int} {B : yB} {t : Nat} {l : List (List Int)} (h : yRC T μ p B t (Nat.add t 11)) (hr : 0 ≤ r ∧ r < B.1 0 0) (hn : B.1 4 r ≤ 3) (e1 : m1 = yasM μ t r a) (hl : yTo μ (Nat.add t 11) a (B.1 0 2) l.flatten) : yRC T m1 p (yBs B r l) t (Nat.add t 11) ∧ m1.1 50 = μ.1 50 := by
  obtain ⟨h1, ⟨⟨ht, hq⟩, h3, h4, h5, h6, h7⟩, ⟨⟨g1, g2, g3, g4⟩, g5, g6⟩, h9, h10, h12, h13⟩ := yRX_out h
  have hF8 := h.2.2.2.2.2
  have gr := g5 r hr.1 hr.2
  unfold yasM at e1
  rw [gr.1.2.2.2] at e1
  have hc : ∀ j : Nat, j ≠ Nat.add t 4 → j ≠ Nat.add t 5 → m1.1 j = μ.1 j := fun j a b => by rw [e1, zu_ne a, zu_ne b]
  have hk : ∀ a : Nat, a ≤ 17 → a ≠ 4 → a ≠ 5 → m1.1 (Nat.add t a) = μ.1 (Nat.add t a) := fun a ha a0 a3 => hc _ (yta ht a0) (yta ht a3)
  have sm : ∀ j : Nat, j = 50 ∨ j ≤ 13 ∨ 3000000 ≤ j → m1.1 j = μ.1 j := fun j a => hc j (Ne.symm (ytc ht (by decide) a)) (Ne.symm (ytc ht (by decide) a))
  have h50 : m1.1 50 = μ.1 50 := sm 50 (by decide)
  have c4 : ∀ k : Int, m1.1 (Nat.add t 4) k = if k = r then B.1 4 r + 1 else μ.1 (Nat.add t 4) k := fun k => by rw [e1]; rcases ht with rfl | rfl <;> simp [zu]
  have c5 : ∀ k : Int, m1.1 (Nat.add t 5) k = if k = r * 4 + B.1 4 r then a else μ.1 (Nat.add t 5) k := fun k => by rw [e1]; rcases ht with rfl | rfl <;> simp [zu]
  have n0 : ∀ i : Int, (yBs B r l).1 0 i = B.1 0 i := fun i => by unfold yBs; rw [yN_nk (by decide)]; rfl
  have nk : ∀ k : Nat, k ≠ 4 → (yBs B r l).1 k = B.1 k := fun k hk => by unfold yBs; rw [yN_nk hk]; rfl
  have n4 : ∀ i : Int, (yBs B r l).1 4 i = if i = r then B.1 4 r + 1 else B.1 4 i := fun i => by
    unfold yBs
    by_cases q : i = r
    · rw [if_pos q, q, yN_at]
    · rw [if_neg q, yN_ne (Or.inr q)]; rfl
  have l1 : ∀ i j : Int, (yBs B r l).2 1 i j = if i = r ∧ j = B.1 4 r then l else B.2 1 i j := fun i j => by
    by_cases q : i = r ∧ j = B.1 4 r
    · rw [if_pos q, q.1, q.2]; exact yL_at
    · rw [if_neg q]; exact yL_ne (by omega)
  have l2 : ∀ k : Nat, k ≠ 1 → (yBs B r l).2 k = B.2 k := fun k hk => by funext i j; exact yL_ne (Or.inl hk)
  refine ⟨yRX_in (by first | exact (h50 _ (by decide)).trans hF8 | (rw [h50]; exact hF8)) ⟨yRT_fr h1 (sm 1 (by decide)) (sm 3 (by decide)) (sm 4 (by decide)) (sm 3000005 (by decide)) (sm 5000001 (by decide)), ⟨⟨ht, hq⟩, by rw [h50]; exact h3, by rw [h50]; exact h4, by rw [h50, n0]; exact h5, by rw [h50, n0]; exact h6, by rw [n0]; exact h7⟩, ⟨⟨?_, ?_, ?_, ?_⟩, ?_, ?_⟩, ⟨?_, ?_⟩, ?_, ?_, ?_⟩, h50⟩
  · rw [n0]; have := hk 0 (by decide) (by decide) (by decide); rw [show m1.1 t = μ.1 t from this]; exact g1
  · rw [n0]; have := hk 0 (by decide) (by decide) (by decide); rw [show m1.1 t = μ.1 t from this]; exact g2
  · rw [n0]; exact g3
  · rw [n0, n0]; exact g4
  · intro k k0 k1
    rw [n0] at k1
    rw [sm (Nat.add 3000000 (Nat.add t 1)) (Or.inr (Or.inr (show 3000000 ≤ 3000000 + (t + 1) by omega))), hk 2 (by decide) (by decide) (by decide), hk 3 (by decide) (by decide) (by decide), c4, n4, n0, nk 1 (by decide), nk 2 (by decide), nk 3 (by decide)]
    have z := g5 k k0 k1
    by_cases q : k = r
    · rw [if_pos q, if_pos q]; exact ⟨⟨z.1.1, z.1.2.1, z.1.2.2.1, rfl⟩, z.2.1, by omega, by omega⟩
    · rw [if_neg q, if_neg q]; exact z
  · intro k k0 k1
    rw [n0] at k1
    rw [sm (Nat.add 3000000 (Nat.add t 6)) (Or.inr (Or.inr (show 3000000 ≤ 3000000 + (t + 6) by omega))), hk 7 (by decide) (by decide) (by decide), hk 8 (by decide) (by decide) (by decide), nk 5 (by decide), nk 6 (by decide), nk 7 (by decide)]
    exact g6 k k0 k1
  · intro k i k0 k1 i0 i1
    rw [n0] at k1
    rw [n4] at i1
    rw [c5, l1]
    unfold ynn
    rw [if_pos rfl, n0]
    by_cases q : k = r ∧ i = B.1 4 r
    · rw [if_pos q, if_pos (by omega)]
      exact ⟨hl.1, hl.2.1, yRow_e hl.2.2 (hk 11 (by decide) (by decide) (by decide))⟩
    · have zz : i < B.1 4 k := by split at i1 <;> (first | (rename_i c; subst c; omega) | omega)
      have g := g5 k k0 k1
      have z := h9.1 k i k0 k1 i0 zz
      unfold ynn at z
      rw [if_pos rfl] at z
      rw [if_neg q, if_neg (by omega)]
      exact ⟨z.1, z.2.1, yRow_e z.2.2 (hk 11 (by decide) (by decide) (by decide))⟩
  · intro k i k0 k1 i0 i1
    rw [n0] at k1
    rw [nk 6 (by decide)] at i1
    rw [hk 9 (by decide) (by decide) (by decide), hk 10 (by decide) (by decide) (by decide), l2 0 (by decide)]
    have z := h9.2 k i k0 k1 i0 i1
    unfold ynn at z ⊢
    rw [if_pos rfl] at z ⊢
    rw [n0]
    exact ⟨z.1, z.2.1, z.2.2.1, yRow_e z.2.2.2 (hk 11 (by decide) (by decide) (by decide))⟩
  · rw [l2 2 (by decide)]
    refine yRO_fr h10 (hk 12 (by decide) (by decide) (by decide)) (hk 13 (by decide) (by decide) (by decide)) (hk 14 (by decide) (by decide) (by decide)) (hc _ ?_ ?_)
    · show _ ≠ t + 4; rcases h13 with q | q | q <;> omega
    · show _ ≠ t + 5; rcases h13 with q | q | q <;> omega
  · rw [hk 12 (by decide) (by decide) (by decide)]
    have z2 : m1.2 = μ.2 := by rw [e1]; rfl
    rw [l2 2 (by decide)]
    rw [z2, sm 0 (by decide)]; exact h12
  · unfold yCC; rw [hk 12 (by decide) (by decide) (by decide)]; exact h13
