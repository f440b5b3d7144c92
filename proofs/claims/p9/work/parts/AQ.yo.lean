theorem yZ_ap {B : yB} {x : Int} (h : yZ B) : yZ (yap B x) := by
  obtain ⟨⟨v0, v1, v2, v3⟩, ⟨w1, w2, w3, w4⟩, w5, w6, ⟨w7, w8, w9⟩, w10⟩ := yap_v B x
  intro p a b
  rw [v3, w8] at a
  rw [v1] at b
  by_cases q : p = B.1 0 1
  · rw [q]; exact w3
  · rw [(w5 p q).2.1]; exact h p a (by omega)
/-- how many classes there were -/
def yNs (s : yS) : Int := s.2.2.2.2.1 0 0
theorem yDI_B {T : yT} {μ : zM} {p : Int} {B : yB} {t : Nat} (h : yDI T μ p B t) : (0 ≤ B.1 0 3 ∧ B.1 0 3 < B.1 0 0 ∧ B.1 0 3 ≤ 20) ∧ (0 ≤ B.1 2 (B.1 0 3) ∧ 0 ≤ B.1 3 (B.1 0 3) ∧ B.1 3 (B.1 0 3) ≤ 4) ∧ (0 ≤ B.1 4 (B.1 0 3) ∧ B.1 4 (B.1 0 3) ≤ 4) ∧ B.1 0 1 ≤ 80 ∧ (B.1 3 (B.1 0 3) ≤ 3 → B.1 0 1 ≤ 79) := by
  have hu := h.2.2
  unfold yCu at hu
  obtain ⟨⟨g1, g2, g3, g4⟩, g5, g6⟩ := h.1.2.2.1
  have := g5 (B.1 0 3) (by omega) (by omega)
  omega
theorem ybs_8 {T : yT} {μ : zM} {p : Int} {B : yB} {t : Nat} (h : yDI T μ p B t) : 0 ≤ ybs B ∧ ybs B ≤ 8 := by
  have b := yDI_B h
  have hu := h.2.2
  unfold yCu at hu
  have g6 := h.1.2.2.1.2.2
  have k : ∀ j : Int, 0 ≤ j → 0 ≤ yb1 B j ∧ yb1 B j ≤ 2 := fun j hj => by
    unfold yb1
    split
    · have := (g6 (B.1 2 (B.1 0 3) + j) (by omega) (by omega)).2
      omega
    · omega
  have k0 := k 0 (by decide)
  have k1 := k 1 (by decide)
  have k2 := k 2 (by decide)
  have k3 := k 3 (by decide)
  unfold ybs
  omega
theorem yBb_v (B : yB) (r : Int) (l : List (List Int)) : (∀ k : Nat, k ≠ 6 → (yBb B r l).1 k = B.1 k) ∧ (∀ i : Int, (yBb B r l).1 6 i = if i = r then B.1 6 r + 1 else B.1 6 i) := by
  refine ⟨fun k hk => by unfold yBb; rw [yN_nk hk]; rfl, fun i => ?_⟩
  unfold yBb
  by_cases q : i = r
  · rw [if_pos q, q, yN_at]
  · rw [if_neg q, yN_ne (Or.inr q)]; rfl
theorem yBs_v (B : yB) (r : Int) (l : List (List Int)) : (∀ k : Nat, k ≠ 4 → (yBs B r l).1 k = B.1 k) ∧ (∀ i : Int, (yBs B r l).1 4 i = if i = r then B.1 4 r + 1 else B.1 4 i) := by
  refine ⟨fun k hk => by unfold yBs; rw [yN_nk hk]; rfl, fun i => ?_⟩
  unfold yBs
  by_cases q : i = r
  · rw [if_pos q, q, yN_at]
  · rw [if_neg q, yN_ne (Or.inr q)]; rfl
theorem yCu_6 {B B' : yB} (h : yCu B) (h0 : B'.1 0 = B.1 0) (h2 : B'.1 2 = B.1 2) (h3 : B'.1 3 = B.1 3) : yCu B' := by
  unfold yCu at h ⊢
  rw [h0, h2, h3]
  exact h
theorem ybs_b {B : yB} {r : Int} {l : List (List Int)} (h1 : B.1 2 (B.1 0 3) ≤ r) (h2 : r < B.1 2 (B.1 0 3) + B.1 3 (B.1 0 3)) (h3 : B.1 3 (B.1 0 3) ≤ 4) : ybs (yBb B r l) = ybs B + 1 := by
  have v := yBb_v B r l
  have k : ∀ j : Int, yb1 (yBb B r l) j = yb1 B j + if B.1 2 (B.1 0 3) + j = r then 1 else 0 := fun j => by
    unfold yb1
    rw [v.1 0 (by decide), v.1 2 (by decide), v.1 3 (by decide), v.2]
    by_cases q : B.1 2 (B.1 0 3) + j = r
    · rw [if_pos q, if_pos q, if_pos (by omega), if_pos (by omega), q]
    · rw [if_neg q, if_neg q]; omega
  unfold ybs
  rw [k 0, k 1, k 2, k 3]
  have : r = B.1 2 (B.1 0 3) ∨ r = B.1 2 (B.1 0 3) + 1 ∨ r = B.1 2 (B.1 0 3) + 2 ∨ r = B.1 2 (B.1 0 3) + 3 := by omega
  rcases this with e | e | e | e
  · rw [if_pos (by omega), if_neg (by omega), if_neg (by omega), if_neg (by omega)]; omega
  · rw [if_neg (by omega), if_pos (by omega), if_neg (by omega), if_neg (by omega)]; omega
  · rw [if_neg (by omega), if_neg (by omega), if_pos (by omega), if_neg (by omega)]; omega
  · rw [if_neg (by omega), if_neg (by omega), if_neg (by omega), if_pos (by omega)]; omega
theorem ybs_0 {T : yT} {μ : zM} {p : Int} {B : yB} {t : Nat} (h : yDI T μ p B t) (hz : yZ B) : 0 = ybs B := by
  have hu := h.2.2.2.2.1
  have k : ∀ j : Int, 0 ≤ j → yb1 B j = 0 := fun j hj => by
    unfold yb1
    split
    · exact hz _ (by omega) (by omega)
    · rfl
  unfold ybs
  rw [k 0 (by decide), k 1 (by decide), k 2 (by decide), k 3 (by decide)]
  rfl
