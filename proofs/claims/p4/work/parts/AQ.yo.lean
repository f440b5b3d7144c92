theorem yZ_ap {B : yB} {x : Int} (h : yZ B) : yZ (yap B x) := by
  obtain ⟨⟨v0, v1, v2, v3⟩, ⟨w1, w2, w3, w4⟩, w5, w6, ⟨w7, w8, w9⟩, w10⟩ := yap_v B x
  intro p a b
  rw [v3, w8] at a
  rw [v1] at b
  by_cases q : p = B.1 0 1
  · rw [q]; exact w3
  · rw [(w5 p q).2.1]; exact h p a (by omega)
/-- how many classes there were -/
def yNs (s : yS) : Int := s.2.2.2.2.1 0 0
def yPO (T : yT) (s : yS) (t : Nat) (μ : zM) : Prop := ∃ (p : Int) (B : yB), yR T s (3, p, 0, [], B) ∧ yDI T μ p B t ∧ yZ B ∧ B.1 4 (B.1 0 3) = 0 ∧ B.1 0 0 = yNs s
def yPI (T : yT) (s : yS) (t : Nat) (v : Int) (μ : zM) : Prop := ∃ (p : Int) (B : yB), (yR T s (2, p, 0, [], B) ∧ ykd T p ≠ 0) ∧ yDI T μ p B t ∧ v = B.1 3 (B.1 0 3) ∧ yZ B ∧ B.1 4 (B.1 0 3) = 0 ∧ B.1 0 0 = yNs s
def yNO (T : yT) (s : yS) (B : yB) (t : Nat) (v : Int) (μ : zM) : Prop := ∃ p : Int, (yR T s (5, p, 0, [], yN B 0 6 v) ∧ ykd T p ≠ 0) ∧ yDI T μ p (yN B 0 6 v) t ∧ (B.1 2 (B.1 0 3) ≤ v ∧ v < B.1 0 1) ∧ B.1 6 v = 0
def yS6 (T : yT) (s : yS) (t : Nat) (μ : zM) : Prop := ∃ (p : Int) (B : yB), yR T s (6, p, 0, [], B) ∧ yDI T μ p B t ∧ B.1 4 (B.1 0 3) = 0 ∧ B.1 0 0 = yNs s
def yS8 (T : yT) (s : yS) (t : Nat) (μ : zM) : Prop := ∃ (p : Int) (B : yB), yR T s (8, p, 0, [], B) ∧ yDI T μ p B t ∧ B.1 0 0 = yNs s
def yBI (T : yT) (s : yS) (t : Nat) (v1 v2 : Int) (μ : zM) : Prop := ∃ (p : Int) (B : yB), ((ykd T p ≠ 38 ∧ yR T s (4, p, 0, [], B)) ∨ (ykd T p = 38 ∧ yR T s (5, p, 0, [], B) ∧ B.1 0 6 = v1 ∧ B.1 2 (B.1 0 3) ≤ v1 ∧ v1 < B.1 0 1)) ∧ yDI T μ p B t ∧ v2 = ybs B ∧ B.1 4 (B.1 0 3) = 0 ∧ ykd T p ≠ 0 ∧ B.1 0 0 = yNs s
/-- at a TYPE of a PARAMETER -/
def yB5 (T : yT) (s : yS) (t : Nat) (v1 v2 : Int) (μ : zM) (p : Int) (B : yB) : Prop := (yR T s (5, p, 0, [], B) ∧ ykd T p ≠ 0) ∧ yDI T μ p B t ∧ (B.1 0 6 = v1 ∧ B.1 2 (B.1 0 3) ≤ v1 ∧ v1 < B.1 0 1) ∧ v2 = ybs B ∧ B.1 4 (B.1 0 3) = 0 ∧ B.1 0 0 = yNs s
theorem yB5_n {T : yT} {s : yS} {t : Nat} {v1 v2 p : Int} {B : yB} {μ : zM} (hr : yR T s (4, p, 0, [], B)) (h : yNO T (4, p, 0, [], B) B t v1 μ) (h2 : v2 = ybs B) (h4 : B.1 4 (B.1 0 3) = 0) (hN : B.1 0 0 = yNs s) : ∃ p' B', yB5 T s t v1 v2 μ p' B' := by
  obtain ⟨p', ⟨a1, a2⟩, a3, a4, a5⟩ := h
  refine ⟨p', yN B 0 6 v1, ⟨yR_t hr a1, a2⟩, a3, ⟨yN_at, ?_, ?_⟩, ?_, ?_, by rw [yN_ne (by decide)]; exact hN⟩
  · rw [yN_nk (k' := 2) (by decide), yN_ne (by decide)]; exact a4.1
  · rw [yN_ne (by decide)]; exact a4.2
  · rw [ybs_N (by decide)]; exact h2
  · rw [yN_nk (k' := 4) (by decide), yN_ne (by decide)]; exact h4
theorem yDI_B {T : yT} {μ : zM} {p : Int} {B : yB} {t : Nat} (h : yDI T μ p B t) : (0 ≤ B.1 0 3 ∧ B.1 0 3 < B.1 0 0 ∧ B.1 0 3 ≤ 20) ∧ (0 ≤ B.1 2 (B.1 0 3) ∧ 0 ≤ B.1 3 (B.1 0 3) ∧ B.1 3 (B.1 0 3) ≤ 4) ∧ (0 ≤ B.1 4 (B.1 0 3) ∧ B.1 4 (B.1 0 3) ≤ 4) ∧ B.1 0 1 ≤ 80 ∧ (B.1 3 (B.1 0 3) ≤ 3 → B.1 0 1 ≤ 79) := by
  have hu := h.2.2
  unfold yCu at hu
  obtain ⟨⟨g1, g2, g3, g4⟩, g5, g6⟩ := h.1.2.2.1
  have := g5 (B.1 0 3) (by omega) (by omega)
  omega
theorem ybs_8 {T : yT} {μ : zM} {p : Int} {B : yB} {t : Nat} (h : yDI T μ p B t) : 0 ≤ ybs B ∧ ybs B ≤ 8 := by
  have b := yDI_B h
  have hu := h.2.2
  unfold yCu at hu
  have g6 := h.1.2.2.1.2.2
  have k : ∀ j : Int, 0 ≤ j → 0 ≤ yb1 B j ∧ yb1 B j ≤ 2 := fun j hj => by
    unfold yb1
    split
    · have := (g6 (B.1 2 (B.1 0 3) + j) (by omega) (by omega)).2
      omega
    · omega
  have k0 := k 0 (by decide)
  have k1 := k 1 (by decide)
  have k2 := k 2 (by decide)
  have k3 := k 3 (by decide)
  unfold ybs
  omega
theorem yBb_v (B : yB) (r : Int) (l : List (List Int)) : (∀ k : Nat, k ≠ 6 → (yBb B r l).1 k = B.1 k) ∧ (∀ i : Int, (yBb B r l).1 6 i = if i = r then B.1 6 r + 1 else B.1 6 i) := by
  refine ⟨fun k hk => by unfold yBb; rw [yN_nk hk]; rfl, fun i => ?_⟩
  unfold yBb
  by_cases q : i = r
  · rw [if_pos q, q, yN_at]
  · rw [if_neg q, yN_ne (Or.inr q)]; rfl
theorem yBs_v (B : yB) (r : Int) (l : List (List Int)) : (∀ k : Nat, k ≠ 4 → (yBs B r l).1 k = B.1 k) ∧ (∀ i : Int, (yBs B r l).1 4 i = if i = r then B.1 4 r + 1 else B.1 4 i) := by
  refine ⟨fun k hk => by unfold yBs; rw [yN_nk hk]; rfl, fun i => ?_⟩
  unfold yBs
  by_cases q : i = r
  · rw [if_pos q, q, yN_at]
  · rw [if_neg q, yN_ne (Or.inr q)]; rfl
theorem yCu_6 {B B' : yB} (h : yCu B) (h0 : B'.1 0 = B.1 0) (h2 : B'.1 2 = B.1 2) (h3 : B'.1 3 = B.1 3) : yCu B' := by
  unfold yCu at h ⊢
  rw [h0, h2, h3]
  exact h
theorem ybs_b {B : yB} {r : Int} {l : List (List Int)} (h1 : B.1 2 (B.1 0 3) ≤ r) (h2 : r < B.1 2 (B.1 0 3) + B.1 3 (B.1 0 3)) (h3 : B.1 3 (B.1 0 3) ≤ 4) : ybs (yBb B r l) = ybs B + 1 := by
  have v := yBb_v B r l
  have k : ∀ j : Int, yb1 (yBb B r l) j = yb1 B j + if B.1 2 (B.1 0 3) + j = r then 1 else 0 := fun j => by
    unfold yb1
    rw [v.1 0 (by decide), v.1 2 (by decide), v.1 3 (by decide), v.2]
    by_cases q : B.1 2 (B.1 0 3) + j = r
    · rw [if_pos q, if_pos q, if_pos (by omega), if_pos (by omega), q]
    · rw [if_neg q, if_neg q]; omega
  unfold ybs
  rw [k 0, k 1, k 2, k 3]
  have : r = B.1 2 (B.1 0 3) ∨ r = B.1 2 (B.1 0 3) + 1 ∨ r = B.1 2 (B.1 0 3) + 2 ∨ r = B.1 2 (B.1 0 3) + 3 := by omega
  rcases this with e | e | e | e
  · rw [if_pos (by omega), if_neg (by omega), if_neg (by omega), if_neg (by omega)]; omega
  · rw [if_neg (by omega), if_pos (by omega), if_neg (by omega), if_neg (by omega)]; omega
  · rw [if_neg (by omega), if_neg (by omega), if_pos (by omega), if_neg (by omega)]; omega
  · rw [if_neg (by omega), if_neg (by omega), if_neg (by omega), if_pos (by omega)]; omega
/-- a TYPE of a PARAMETER has been read -/
theorem yB5_e {T : yT} {s : yS} {t : Nat} {v1 v2 p p6 n x st sx len : Int} {B : yB} {μ0 μ m1 : zM} {as : List (List Int)} (h : yB5 T s t v1 v2 μ0 p B) (hr : yR T (10, ynx T p, 0, [], yBt B 0 sx) (14, p6, 0, [(0, x, as)], yN (yBt B 0 sx) 0 2 n)) (hsx : sx = if 2 ≤ B.1 6 (B.1 0 6) then 1 else 0) (h0 : sx = 0) (hi : yTI T μ p6 (yN (yBt B 0 sx) 0 2 n) t (Nat.add t 11) st (([x] :: as).flatten)) (hm : μ.1 50 ((10 : Nat) : Int) = 0) (hl : len = n - st) (hs : st = B.1 0 2) (e : m1 = yabM μ t v1 st len) (hk : ymay (yBt B 0 sx) 0 (ykd T p6) = true) : (ykd T p6 = 38 ∨ ykd T p6 = 44 ∨ ykd T p6 = 58 ∨ ykd T p6 = 59) ∧ m1.1 1 = μ.1 1 ∧ (ykd T p6 = 58 ∨ ykd T p6 = 59 → yS6 T s t m1) ∧ (ykd T p6 = 38 ∨ ykd T p6 = 44 → yBI T s t v1 (v2 + 1) m1) := by
  obtain ⟨⟨r5, k5⟩, D5, ⟨V1, V2, V3⟩, I5, S5, M5⟩ := h
  have v := yBt_v B 0 sx
  have hk := (ymay_0 v.1).mp hk
  have hb := yDI_B D5
  have hu := D5.2.2
  obtain ⟨W, hW⟩ : ∃ W, W = yN (yBt B 0 sx) 0 2 n := ⟨_, rfl⟩
  have w0 : ∀ i : Int, i ≠ 2 → i ≠ 4 → i ≠ 5 → W.1 0 i = B.1 0 i := fun i a b c => by rw [hW, yN_ne (Or.inr a)]; exact v.2.2.1 i b c
  have wk : ∀ k : Nat, k ≠ 0 → W.1 k = B.1 k := fun k hk => by rw [hW, yN_nk hk]; exact v.2.2.2 k hk
  have w2 : W.1 0 2 = n := by rw [hW]; exact yN_at
  have w4 : W.1 0 4 = 0 := by rw [hW, yN_ne (by decide)]; exact v.1
  rw [← hW] at hi hr
  have ht := hi.1.2.1.1.1
  have hn : W.1 6 v1 ≤ 1 := by
    rw [wk 6 (by decide)]
    rw [hsx, V1] at h0
    split at h0 <;> omega
  have A := yRC_ab (l := [x] :: as) hi.1 (r := v1) ⟨by omega, by rw [w0 1 (by decide) (by decide) (by decide)]; exact V3⟩ hn e ⟨by rw [hs]; exact D5.1.2.1.2.2.2.2.2.1, by rw [← hi.2.2.1.1]; omega, hi.2.1⟩ (by have := hi.2.2.1.1; rw [w2] at this; omega)
  have vb := yBb_v W v1 ([x] :: as)
  have hcu : yCu W := by
    unfold yCu at hu ⊢
    rw [w0 0 (by decide) (by decide) (by decide), w0 1 (by decide) (by decide) (by decide), w0 3 (by decide) (by decide) (by decide), wk 2 (by decide), wk 3 (by decide)]
    exact hu
  have D : yDI T m1 p6 (yBb W v1 ([x] :: as)) t := ⟨A.1, by rw [A.2]; exact hm, yCu_6 hcu (vb.1 0 (by decide)) (vb.1 2 (by decide)) (vb.1 3 (by decide))⟩
  have S : (yBb W v1 ([x] :: as)).1 4 ((yBb W v1 ([x] :: as)).1 0 3) = 0 := by
    rw [vb.1 0 (by decide), vb.1 4 (by decide), w0 3 (by decide) (by decide) (by decide), wk 4 (by decide)]; exact S5
  have MN : (yBb W v1 ([x] :: as)).1 0 0 = yNs s := by rw [vb.1 0 (by decide), w0 0 (by decide) (by decide) (by decide)]; exact M5
  have I : v2 + 1 = ybs (yBb W v1 ([x] :: as)) := by
    rw [ybs_b (by rw [w0 3 (by decide) (by decide) (by decide), wk 2 (by decide)]; exact V2) (by rw [w0 3 (by decide) (by decide) (by decide), wk 2 (by decide), wk 3 (by decide)]; have := hu.2.2.1; omega) (by rw [w0 3 (by decide) (by decide) (by decide), wk 3 (by decide)]; omega), I5]
    unfold ybs yb1
    rw [w0 3 (by decide) (by decide) (by decide), wk 2 (by decide), wk 3 (by decide), wk 6 (by decide)]
  have w6 : W.1 0 6 = v1 := by rw [w0 6 (by decide) (by decide) (by decide)]; exact V1
  have R14 := yR_t (yR_s r5 ym5) (by rw [← hsx]; exact hr)
  have R := yR_s R14 (ym14_b w4)
  rw [w6] at R
  dsimp only at R
  refine ⟨hk, ?_, fun q => ?_, fun q => ?_⟩
  · rw [e]; unfold yabM; rw [zu_ne (show 1 ≠ t + 8 by omega), zu_ne (show 1 ≠ t + 10 by omega), zu_ne (show 1 ≠ t + 9 by omega)]
  · rw [if_neg (by omega), if_neg (by omega)] at R
    exact ⟨_, _, R, D, S, MN⟩
  · by_cases q8 : ykd T p6 = 38
    · rw [if_pos q8] at R
      refine ⟨_, _, Or.inr ⟨q8, R, ?_, ?_, ?_⟩, D, I, S, by omega, MN⟩
      · rw [vb.1 0 (by decide)]; exact w6
      · rw [vb.1 0 (by decide), vb.1 2 (by decide), w0 3 (by decide) (by decide) (by decide), wk 2 (by decide)]; exact V2
      · rw [vb.1 0 (by decide), w0 1 (by decide) (by decide) (by decide)]; exact V3
    · rw [if_neg q8, if_pos (by omega)] at R
      exact ⟨_, _, Or.inl ⟨q8, R⟩, D, I, S, by omega, MN⟩
def yUI (T : yT) (s : yS) (t : Nat) (v1 : Int) (μ : zM) (p : Int) (B : yB) : Prop := (yR T s (7, p, 0, [], B) ∧ ykd T p ≠ 0) ∧ yDI T μ p B t ∧ v1 = B.1 4 (B.1 0 3) ∧ B.1 0 0 = yNs s
/-- a TYPE behind the colon has been read -/
theorem yUI_e {T : yT} {s : yS} {t : Nat} {v1 p p6 n x st sx o : Int} {B : yB} {μ0 μ m1 : zM} {as : List (List Int)} (h : yUI T s t v1 μ0 p B) (hr : yR T (10, ynx T p, 0, [], yBt B 1 sx) (14, p6, 0, [(0, x, as)], yN (yBt B 1 sx) 0 2 n)) (hsx : sx = if 4 ≤ B.1 4 (B.1 0 3) then 1 else 0) (h0 : sx = 0) (hi : yTI T μ p6 (yN (yBt B 1 sx) 0 2 n) t (Nat.add t 11) st (([x] :: as).flatten)) (hm : μ.1 50 ((10 : Nat) : Int) = 0) (hs : st = B.1 0 2) (ho : o = B.1 0 3) (e : m1 = yasM μ t o st) (hk : ymay (yBt B 1 sx) 0 (ykd T p6) = true) : (ykd T p6 = 44 ∨ ykd T p6 = 59) ∧ m1.1 1 = μ.1 1 ∧ (ykd T p6 = 59 → yS8 T s t m1) ∧ (ykd T p6 = 44 → ∃ p' B', yUI T s t (v1 + 1) m1 p' B') := by
  obtain ⟨⟨r5, k5⟩, D5, I5, M5⟩ := h
  have v := yBt_v B 1 sx
  have hk := (ymay_1 v.1).mp hk
  have hb := yDI_B D5
  have hu := D5.2.2
  obtain ⟨W, hW⟩ : ∃ W, W = yN (yBt B 1 sx) 0 2 n := ⟨_, rfl⟩
  have w0 : ∀ i : Int, i ≠ 2 → i ≠ 4 → i ≠ 5 → W.1 0 i = B.1 0 i := fun i a b c => by rw [hW, yN_ne (Or.inr a)]; exact v.2.2.1 i b c
  have wk : ∀ k : Nat, k ≠ 0 → W.1 k = B.1 k := fun k hk => by rw [hW, yN_nk hk]; exact v.2.2.2 k hk
  have w2 : W.1 0 2 = n := by rw [hW]; exact yN_at
  have w4 : W.1 0 4 = 1 := by rw [hW, yN_ne (by decide)]; exact v.1
  have w3 : W.1 0 3 = B.1 0 3 := w0 3 (by decide) (by decide) (by decide)
  rw [← hW] at hi hr
  have ht := hi.1.2.1.1.1
  have hn : W.1 4 o ≤ 3 := by
    rw [wk 4 (by decide), ho]
    rw [hsx] at h0
    split at h0 <;> omega
  have A := yRC_as (l := [x] :: as) hi.1 (r := o) ⟨by omega, by rw [w0 0 (by decide) (by decide) (by decide)]; omega⟩ hn e ⟨by rw [hs]; exact D5.1.2.1.2.2.2.2.2.1, by rw [← hi.2.2.1.1]; omega, hi.2.1⟩
  have vb := yBs_v W o ([x] :: as)
  have hcu : yCu W := by
    unfold yCu at hu ⊢
    rw [w0 0 (by decide) (by decide) (by decide), w0 1 (by decide) (by decide) (by decide), w3, wk 2 (by decide), wk 3 (by decide)]
    exact hu
  have D : yDI T m1 p6 (yBs W o ([x] :: as)) t := ⟨A.1, by rw [A.2]; exact hm, yCu_6 hcu (vb.1 0 (by decide)) (vb.1 2 (by decide)) (vb.1 3 (by decide))⟩
  have MN : (yBs W o ([x] :: as)).1 0 0 = yNs s := by rw [vb.1 0 (by decide), w0 0 (by decide) (by decide) (by decide)]; exact M5
  have R14 := yR_t (yR_s r5 ym7) (by rw [← hsx]; exact hr)
  have R := yR_s R14 (ym14_s w4)
  rw [w3, ← ho] at R
  dsimp only at R
  refine ⟨hk, ?_, fun q => ?_, fun q => ?_⟩
  · rw [e]; unfold yasM; rw [zu_ne (show 1 ≠ t + 4 by omega), zu_ne (show 1 ≠ t + 5 by omega)]
  · rw [if_neg (by omega)] at R
    exact ⟨_, _, R, D, MN⟩
  · rw [if_pos q] at R
    refine ⟨_, _, ⟨R, by omega⟩, D, ?_, MN⟩
    rw [vb.1 0 (by decide), w3, ← ho, vb.2, if_pos rfl, wk 4 (by decide), I5, ho]
theorem ybs_0 {T : yT} {μ : zM} {p : Int} {B : yB} {t : Nat} (h : yDI T μ p B t) (hz : yZ B) : 0 = ybs B := by
  have hu := h.2.2.2.2.1
  have k : ∀ j : Int, 0 ≤ j → yb1 B j = 0 := fun j hj => by
    unfold yb1
    split
    · exact hz _ (by omega) (by omega)
    · rfl
  unfold ybs
  rw [k 0 (by decide), k 1 (by decide), k 2 (by decide), k 3 (by decide)]
  rfl
