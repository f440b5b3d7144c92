/-! ### every place of the row belongs to a TYPE told -/
def yCv (μ : zM) (t : Nat) (n : Int) (B : yB) : Prop := ∀ x : Int, 0 ≤ x → x < n → (∃ k i : Int, (0 ≤ k ∧ k < B.1 0 0) ∧ (0 ≤ i ∧ i < B.1 4 k) ∧ μ.1 (Nat.add t 5) (k * 4 + i) ≤ x ∧ x < μ.1 (Nat.add t 5) (k * 4 + i) + ((B.2 1 k i).flatten.length : Int)) ∨ ∃ p i : Int, (0 ≤ p ∧ p < B.1 0 1) ∧ (0 ≤ i ∧ i < B.1 6 p) ∧ μ.1 (Nat.add t 9) (p * 2 + i) ≤ x ∧ x < μ.1 (Nat.add t 9) (p * 2 + i) + ((B.2 0 p i).flatten.length : Int)
theorem yCv_m {μ m : zM} {t : Nat} {n : Int} {B B' : yB} (h : yCv μ t n B) (e1 : ∀ k i : Int, 0 ≤ k → k < B.1 0 0 → 0 ≤ i → i < B.1 4 k → k < B'.1 0 0 ∧ i < B'.1 4 k ∧ B'.2 1 k i = B.2 1 k i ∧ m.1 (Nat.add t 5) (k * 4 + i) = μ.1 (Nat.add t 5) (k * 4 + i)) (e2 : ∀ p i : Int, 0 ≤ p → p < B.1 0 1 → 0 ≤ i → i < B.1 6 p → p < B'.1 0 1 ∧ i < B'.1 6 p ∧ B'.2 0 p i = B.2 0 p i ∧ m.1 (Nat.add t 9) (p * 2 + i) = μ.1 (Nat.add t 9) (p * 2 + i)) : yCv m t n B' := fun x x0 x1 => by
  rcases h x x0 x1 with ⟨k, i, k0, i0, a, b⟩ | ⟨k, i, k0, i0, a, b⟩
  · obtain ⟨f1, f2, f3, f4⟩ := e1 k i k0.1 k0.2 i0.1 i0.2
    exact Or.inl ⟨k, i, ⟨k0.1, f1⟩, ⟨i0.1, f2⟩, by rw [f4]; exact a, by rw [f4, f3]; exact b⟩
  · obtain ⟨f1, f2, f3, f4⟩ := e2 k i k0.1 k0.2 i0.1 i0.2
    exact Or.inr ⟨k, i, ⟨k0.1, f1⟩, ⟨i0.1, f2⟩, by rw [f4]; exact a, by rw [f4, f3]; exact b⟩
theorem yCv_f {μ m : zM} {t : Nat} {n : Int} {B : yB} (h : yCv μ t n B) (e5 : m.1 (Nat.add t 5) = μ.1 (Nat.add t 5)) (e9 : m.1 (Nat.add t 9) = μ.1 (Nat.add t 9)) : yCv m t n B :=
  yCv_m h (fun k i a b c d => ⟨b, d, rfl, by rw [e5]⟩) (fun k i a b c d => ⟨b, d, rfl, by rw [e9]⟩)
theorem yCv_e {μ : zM} {t : Nat} {n n' : Int} {B B' : yB} (h : yCv μ t n B) (hn : n' = n) (h0 : B'.1 0 0 = B.1 0 0) (h1 : B'.1 0 1 = B.1 0 1) (h4 : B'.1 4 = B.1 4) (h6 : B'.1 6 = B.1 6) (f0 : B'.2 0 = B.2 0) (f1 : B'.2 1 = B.2 1) : yCv μ t n' B' := by
  rw [hn]
  exact yCv_m h (fun k i a b c d => ⟨by rw [h0]; exact b, by rw [h4]; exact d, by rw [f1], rfl⟩) (fun k i a b c d => ⟨by rw [h1]; exact b, by rw [h6]; exact d, by rw [f0], rfl⟩)
theorem yCv_0 {μ : zM} {t : Nat} : yCv μ t (yB0.1 0 2) yB0 := fun x x0 x1 => by
  have x1 : x < 0 := x1
  omega
theorem yCv_ab {μ m1 : zM} {t : Nat} {W : yB} {r st len n : Int} {l : List (List Int)} (h : yCv μ t st W) (hB : yRB μ t W) (ht : t = 14 ∨ t = 32) (hr : 0 ≤ r ∧ r < W.1 0 1) (hn : W.1 6 r ≤ 1) (e : m1 = yabM μ t r st len) (hl : n ≤ st + (l.flatten.length : Int)) : yCv m1 t n (yBb W r l) := by
  have vb := yBb_v W r l
  have v0 : ∀ p i : Int, (yBb W r l).2 0 p i = if p = r ∧ i = W.1 6 r then l else W.2 0 p i := fun p i => by
    show (if (0 : Nat) = 0 ∧ p = r ∧ i = W.1 6 r then l else W.2 0 p i) = _
    by_cases c : p = r ∧ i = W.1 6 r
    · rw [if_pos c, if_pos ⟨rfl, c⟩]
    · rw [if_neg c, if_neg (fun w => c w.2)]
  have v1 : (yBb W r l).2 1 = W.2 1 := by
    show (yL W 0 r (W.1 6 r) l).2 1 = _
    exact yL_k (by decide)
  have c5 : m1.1 (Nat.add t 5) = μ.1 (Nat.add t 5) := by
    rw [e]; unfold yabM; rw [zu_ne (show t + 5 ≠ t + 8 by omega), zu_ne (show t + 5 ≠ t + 10 by omega), zu_ne (show t + 5 ≠ t + 9 by omega)]
  have b8 := hB.2.2 r hr.1 hr.2
  have c9 : ∀ z : Int, m1.1 (Nat.add t 9) z = if z = r * 2 + W.1 6 r then st else μ.1 (Nat.add t 9) z := fun z => by
    rw [e]; unfold yabM; rw [zu_ne (show t + 9 ≠ t + 8 by omega), zu_ne (show t + 9 ≠ t + 10 by omega), zu_if, b8.1.2.2]
  intro x x0 x1
  by_cases q : x < st
  · refine yCv_m (n := st) (B' := yBb W r l) h (fun k i a b c d => ⟨by rw [vb.1 0 (by decide)]; exact b, by rw [vb.1 4 (by decide)]; exact d, by rw [v1], by rw [c5]⟩) (fun p i a b c d => ?_) x x0 q
    have b6 := (hB.2.2 p a b).2
    have ne : ¬ (p = r ∧ i = W.1 6 r) := fun w => by rw [w.1] at d; omega
    refine ⟨by rw [vb.1 0 (by decide)]; exact b, (by rw [vb.2]; split; (rename_i w; rw [w] at d; omega); exact d), by rw [v0, if_neg ne], ?_⟩
    rw [c9, if_neg (fun w => ?_)]
    by_cases w' : p = r
    · exact ne ⟨w', by omega⟩
    · omega
  · refine Or.inr ⟨r, W.1 6 r, ⟨hr.1, by rw [vb.1 0 (by decide)]; exact hr.2⟩, ⟨b8.2.1, by rw [vb.2, if_pos rfl]; omega⟩, ?_, ?_⟩
    · rw [c9, if_pos rfl]; omega
    · rw [c9, if_pos rfl, v0, if_pos ⟨rfl, rfl⟩]; omega
theorem yCv_as {μ m1 : zM} {t : Nat} {W : yB} {r st n : Int} {l : List (List Int)} (h : yCv μ t st W) (hB : yRB μ t W) (ht : t = 14 ∨ t = 32) (hr : 0 ≤ r ∧ r < W.1 0 0) (hn : W.1 4 r ≤ 3) (e : m1 = yasM μ t r st) (hl : n ≤ st + (l.flatten.length : Int)) : yCv m1 t n (yBs W r l) := by
  have vb := yBs_v W r l
  have v1 : ∀ p i : Int, (yBs W r l).2 1 p i = if p = r ∧ i = W.1 4 r then l else W.2 1 p i := fun p i => by
    show (if (1 : Nat) = 1 ∧ p = r ∧ i = W.1 4 r then l else W.2 1 p i) = _
    by_cases c : p = r ∧ i = W.1 4 r
    · rw [if_pos c, if_pos ⟨rfl, c⟩]
    · rw [if_neg c, if_neg (fun w => c w.2)]
  have v0 : (yBs W r l).2 0 = W.2 0 := by
    show (yL W 1 r (W.1 4 r) l).2 0 = _
    exact yL_k (by decide)
  have c9 : m1.1 (Nat.add t 9) = μ.1 (Nat.add t 9) := by
    rw [e]; unfold yasM; rw [zu_ne (show t + 9 ≠ t + 4 by omega), zu_ne (show t + 9 ≠ t + 5 by omega)]
  have b8 := hB.2.1 r hr.1 hr.2
  have c5 : ∀ z : Int, m1.1 (Nat.add t 5) z = if z = r * 4 + W.1 4 r then st else μ.1 (Nat.add t 5) z := fun z => by
    rw [e]; unfold yasM; rw [zu_ne (show t + 5 ≠ t + 4 by omega), zu_if, b8.1.2.2.2]
  intro x x0 x1
  by_cases q : x < st
  · refine yCv_m (n := st) (B' := yBs W r l) h (fun p i a b c d => ?_) (fun k i a b c d => ⟨by rw [vb.1 0 (by decide)]; exact b, by rw [vb.1 6 (by decide)]; exact d, by rw [v0], by rw [c9]⟩) x x0 q
    have b6 := (hB.2.1 p a b).2.2
    have ne : ¬ (p = r ∧ i = W.1 4 r) := fun w => by rw [w.1] at d; omega
    refine ⟨by rw [vb.1 0 (by decide)]; exact b, (by rw [vb.2]; split; (rename_i w; rw [w] at d; omega); exact d), by rw [v1, if_neg ne], ?_⟩
    rw [c5, if_neg (fun w => ?_)]
    by_cases w' : p = r
    · exact ne ⟨w', by omega⟩
    · omega
  · refine Or.inl ⟨r, W.1 4 r, ⟨hr.1, by rw [vb.1 0 (by decide)]; exact hr.2⟩, ⟨b8.2.2.1, by rw [vb.2, if_pos rfl]; omega⟩, ?_, ?_⟩
    · rw [c5, if_pos rfl]; omega
    · rw [c5, if_pos rfl, v1, if_pos ⟨rfl, rfl⟩]; omega
def yDJ (T : yT) (μ : zM) (p : Int) (B : yB) (t : Nat) : Prop := yRC T μ p B t (Nat.add t 11) ∧ μ.1 50 ((10 : Nat) : Int) = 0 ∧ yCu B ∧ yCv μ t (B.1 0 2) B
theorem yDJ_i {T : yT} {μ : zM} {p : Int} {B : yB} {t : Nat} (h : yDJ T μ p B t) : yDI T μ p B t := ⟨h.1, h.2.1, h.2.2.1⟩
theorem yDJ_N {T : yT} {μ : zM} {p i x : Int} {B : yB} {t : Nat} (h : yDJ T μ p B t) (hi : 4 ≤ i) : yDJ T μ p (yN B 0 i x) t := ⟨yRC_N h.1 hi, h.2.1, yCu_N h.2.2.1 (Or.inr hi), yCv_e h.2.2.2 (yN_ne (by omega)) (yN_ne (by omega)) (yN_ne (by omega)) (yN_nk (by decide)) (yN_nk (by decide)) rfl rfl⟩
theorem yCv_st {μ m1 : zM} {t : Nat} {n : Int} {B : yB} (ht : t = 14 ∨ t = 32) (h : yCv μ t n B) (e : m1 = ystM μ) : yCv m1 t n B :=
  yCv_f h (by rw [e]; exact ystM_ne _ _ (show t + 5 ≠ 1 by omega) (show t + 5 ≠ 5000001 by omega)) (by rw [e]; exact ystM_ne _ _ (show t + 9 ≠ 1 by omega) (show t + 9 ≠ 5000001 by omega))
theorem yDJ_st {T : yT} {μ m1 : zM} {p : Int} {B : yB} {t : Nat} (h : yDJ T μ p B t) (hk : ykd T p ≠ 0) (e : ¬ μ.1 1 ((6 : Nat) : Int) = 0 ∧ μ.1 1 ((5 : Nat) : Int) + 1 ≤ 800 → m1 = ystM μ) : yDJ T m1 (ynx T p) B t ∧ m1.1 50 = μ.1 50 := by
  have q1 := yRC_st h.1 hk e
  have h5 : m1.1 50 = μ.1 50 := by rw [q1.2]; exact ystM_ne _ _ (by decide) (by decide)
  exact ⟨⟨q1.1, by rw [h5]; exact h.2.1, h.2.2.1, yCv_st h.1.2.1.1.1 h.2.2.2 q1.2⟩, h5⟩
theorem yCv_ap {μ m1 : zM} {t : Nat} {B : yB} {o x : Int} (ht : t = 14 ∨ t = 32) (h : yCv μ t (B.1 0 2) B) (e : m1 = yapM μ t o x) : yCv m1 t ((yap B x).1 0 2) (yap B x) := by
  have v := yap_v B x
  have c : ∀ a : Nat, a = 5 ∨ a = 9 → m1.1 (Nat.add t a) = μ.1 (Nat.add t a) := fun a ha => by
    rw [e]; unfold yapM; rw [zu_ne (show Nat.add t a ≠ t by simp only [Nat.add_eq]; omega), zu_ne (show Nat.add t a ≠ Nat.add t 3 by simp only [Nat.add_eq]; omega), zu_ne (show Nat.add t a ≠ Nat.add t 8 by simp only [Nat.add_eq]; omega), zu_ne (show Nat.add t a ≠ Nat.add t 7 by simp only [Nat.add_eq]; omega), zu_ne (show Nat.add t a ≠ Nat.add 3000000 (Nat.add t 6) by simp only [Nat.add_eq]; omega)]
  have v4 : (yap B x).1 4 = B.1 4 := by
    unfold yap
    rw [yN_nk (by decide), yN_nk (by decide), yN_nk (by decide), yN_nk (by decide), yN_nk (by decide)]
  rw [v.1.2.2.1]
  exact yCv_m h (fun k i a b d f => ⟨by rw [v.1.1]; exact b, by rw [v4]; exact f, rfl, by rw [c 5 (by decide)]⟩) (fun p i a b d f => ⟨by rw [v.1.2.1]; omega, by rw [(v.2.2.1 p (by omega)).2.1]; exact f, rfl, by rw [c 9 (by decide)]⟩)
theorem yCv_ac {μ m1 m2 : zM} {t : Nat} {B : yB} {x y : Int} (ht : t = 14 ∨ t = 32) (h : yCv μ t (B.1 0 2) B) (e1 : m1 = yacM μ t x) (e2 : m2 = zu m1 50 ((5 : Nat) : Int) y) : yCv m2 t ((yB1 B x).1 0 2) (yB1 B x) := by
  have v := yB1_v B x
  have c : ∀ a : Nat, a = 5 ∨ a = 9 → m2.1 (Nat.add t a) = μ.1 (Nat.add t a) := fun a ha => by
    rw [e2, zu_ne (show Nat.add t a ≠ 50 by simp only [Nat.add_eq]; omega), e1]; unfold yacM; rw [zu_ne (show Nat.add t a ≠ t by simp only [Nat.add_eq]; omega), zu_ne (show Nat.add t a ≠ Nat.add t 4 by simp only [Nat.add_eq]; omega), zu_ne (show Nat.add t a ≠ Nat.add t 3 by simp only [Nat.add_eq]; omega), zu_ne (show Nat.add t a ≠ Nat.add t 2 by simp only [Nat.add_eq]; omega), zu_ne (show Nat.add t a ≠ Nat.add 3000000 (Nat.add t 1) by simp only [Nat.add_eq]; omega)]
  have v6 : (yB1 B x).1 6 = B.1 6 := by
    unfold yB1
    rw [yN_nk (by decide), yN_nk (by decide), yN_nk (by decide), yN_nk (by decide), yN_nk (by decide), yN_nk (by decide)]
  rw [v.1.2.2.1]
  exact yCv_m h (fun k i a b d f => ⟨by rw [v.1.1]; omega, by rw [v.2.2.1 4 k (by decide) (by omega)]; exact f, rfl, by rw [c 5 (by decide)]⟩) (fun p i a b d f => ⟨by rw [v.1.2.1]; exact b, by rw [v6]; exact f, rfl, by rw [c 9 (by decide)]⟩)
/-- cells that stay while a TYPE is read -/
theorem yfr5 {T : yT} {μ0 μ : zM} {p : Int} {B : yB} {t : Nat} (h : yRC T μ0 p B t (Nat.add t 11)) (z : zfr (t + 100) μ0 μ) : ∀ a : Nat, a = 0 ∨ a = 5 ∨ a = 9 → μ.1 (Nat.add t a) = μ0.1 (Nat.add t a) := fun a ha => by
  have ht := h.2.1.1.1
  have h3 := h.2.1.2.2.1
  have q := z.2 (by unfold zoq zob; rw [h3]; simp only [Nat.add_eq]; omega)
  exact q.2.1 _ (by unfold zob; simp only [Nat.add_eq]; omega)
theorem yfR5 {T : yT} {μ0 μ : zM} {p : Int} {B : yB} {t : Nat} (h : yRC T μ0 p B t (Nat.add t 11)) (z : zfR (t + 100) μ0 μ) : ∀ a : Nat, a = 0 ∨ a = 5 ∨ a = 9 → μ.1 (Nat.add t a) = μ0.1 (Nat.add t a) := fun a ha => by
  have ht := h.2.1.1.1
  have h3 := h.2.1.2.2.1
  have q := z.2 (by unfold zoq zob; rw [h3]; simp only [Nat.add_eq]; omega)
  exact q.2.1 _ (by unfold zob; simp only [Nat.add_eq]; omega)
theorem yDJ_B {T : yT} {μ : zM} {p : Int} {B : yB} {t : Nat} (h : yDJ T μ p B t) : (0 ≤ B.1 0 3 ∧ B.1 0 3 < B.1 0 0 ∧ B.1 0 3 ≤ 20) ∧ (0 ≤ B.1 2 (B.1 0 3) ∧ 0 ≤ B.1 3 (B.1 0 3) ∧ B.1 3 (B.1 0 3) ≤ 4) ∧ (0 ≤ B.1 4 (B.1 0 3) ∧ B.1 4 (B.1 0 3) ≤ 4) ∧ B.1 0 1 ≤ 80 ∧ (B.1 3 (B.1 0 3) ≤ 3 → B.1 0 1 ≤ 79) := yDI_B (yDJ_i h)
def yPOj (T : yT) (s : yS) (t : Nat) (μ : zM) : Prop := ∃ (p : Int) (B : yB), yR T s (3, p, 0, [], B) ∧ yDJ T μ p B t ∧ yZ B ∧ B.1 4 (B.1 0 3) = 0 ∧ B.1 0 0 = yNs s
def yPIj (T : yT) (s : yS) (t : Nat) (v : Int) (μ : zM) : Prop := ∃ (p : Int) (B : yB), (yR T s (2, p, 0, [], B) ∧ ykd T p ≠ 0) ∧ yDJ T μ p B t ∧ v = B.1 3 (B.1 0 3) ∧ yZ B ∧ B.1 4 (B.1 0 3) = 0 ∧ B.1 0 0 = yNs s
def yNOj (T : yT) (s : yS) (B : yB) (t : Nat) (v : Int) (μ : zM) : Prop := ∃ p : Int, (yR T s (5, p, 0, [], yN B 0 6 v) ∧ ykd T p ≠ 0) ∧ yDJ T μ p (yN B 0 6 v) t ∧ (B.1 2 (B.1 0 3) ≤ v ∧ v < B.1 0 1) ∧ B.1 6 v = 0
def yS6j (T : yT) (s : yS) (t : Nat) (μ : zM) : Prop := ∃ (p : Int) (B : yB), yR T s (6, p, 0, [], B) ∧ yDJ T μ p B t ∧ B.1 4 (B.1 0 3) = 0 ∧ B.1 0 0 = yNs s
def yS8j (T : yT) (s : yS) (t : Nat) (μ : zM) : Prop := ∃ (p : Int) (B : yB), yR T s (8, p, 0, [], B) ∧ yDJ T μ p B t ∧ B.1 0 0 = yNs s
def yBIj (T : yT) (s : yS) (t : Nat) (v1 v2 : Int) (μ : zM) : Prop := ∃ (p : Int) (B : yB), ((ykd T p ≠ 38 ∧ yR T s (4, p, 0, [], B)) ∨ (ykd T p = 38 ∧ yR T s (5, p, 0, [], B) ∧ B.1 0 6 = v1 ∧ B.1 2 (B.1 0 3) ≤ v1 ∧ v1 < B.1 0 1)) ∧ yDJ T μ p B t ∧ v2 = ybs B ∧ B.1 4 (B.1 0 3) = 0 ∧ ykd T p ≠ 0 ∧ B.1 0 0 = yNs s
def yB5j (T : yT) (s : yS) (t : Nat) (v1 v2 : Int) (μ : zM) (p : Int) (B : yB) : Prop := (yR T s (5, p, 0, [], B) ∧ ykd T p ≠ 0) ∧ yDJ T μ p B t ∧ (B.1 0 6 = v1 ∧ B.1 2 (B.1 0 3) ≤ v1 ∧ v1 < B.1 0 1) ∧ v2 = ybs B ∧ B.1 4 (B.1 0 3) = 0 ∧ B.1 0 0 = yNs s
theorem yB5_nj {T : yT} {s : yS} {t : Nat} {v1 v2 p : Int} {B : yB} {μ : zM} (hr : yR T s (4, p, 0, [], B)) (h : yNOj T (4, p, 0, [], B) B t v1 μ) (h2 : v2 = ybs B) (h4 : B.1 4 (B.1 0 3) = 0) (hN : B.1 0 0 = yNs s) : ∃ p' B', yB5j T s t v1 v2 μ p' B' := by
  obtain ⟨p', ⟨a1, a2⟩, a3, a4, a5⟩ := h
  refine ⟨p', yN B 0 6 v1, ⟨yR_t hr a1, a2⟩, a3, ⟨yN_at, ?_, ?_⟩, ?_, ?_, by rw [yN_ne (by decide)]; exact hN⟩
  · rw [yN_nk (k' := 2) (by decide), yN_ne (by decide)]; exact a4.1
  · rw [yN_ne (by decide)]; exact a4.2
  · rw [ybs_N (by decide)]; exact h2
  · rw [yN_nk (k' := 4) (by decide), yN_ne (by decide)]; exact h4
theorem yB5_ej {T : yT} {s : yS} {t : Nat} {v1 v2 p p6 n x st sx len : Int} {B : yB} {μ0 μ m1 : zM} {as : List (List Int)} (hz : zfr (t + 100) μ0 μ) (h : yB5j T s t v1 v2 μ0 p B) (hr : yR T (10, ynx T p, 0, [], yBt B 0 sx) (14, p6, 0, [(0, x, as)], yN (yBt B 0 sx) 0 2 n)) (hsx : sx = if 2 ≤ B.1 6 (B.1 0 6) then 1 else 0) (h0 : sx = 0) (hi : yTI T μ p6 (yN (yBt B 0 sx) 0 2 n) t (Nat.add t 11) st (([x] :: as).flatten)) (hm : μ.1 50 ((10 : Nat) : Int) = 0) (hl : len = n - st) (hs : st = B.1 0 2) (e : m1 = yabM μ t v1 st len) (hk : ymay (yBt B 0 sx) 0 (ykd T p6) = true) : (ykd T p6 = 38 ∨ ykd T p6 = 44 ∨ ykd T p6 = 58 ∨ ykd T p6 = 59) ∧ m1.1 1 = μ.1 1 ∧ (ykd T p6 = 58 ∨ ykd T p6 = 59 → yS6j T s t m1) ∧ (ykd T p6 = 38 ∨ ykd T p6 = 44 → yBIj T s t v1 (v2 + 1) m1) := by
  obtain ⟨⟨r5, k5⟩, D5, ⟨V1, V2, V3⟩, I5, S5, M5⟩ := h
  have v := yBt_v B 0 sx
  have hk := (ymay_0 v.1).mp hk
  have hb := yDJ_B D5
  have hu := D5.2.2.1
  obtain ⟨W, hW⟩ : ∃ W, W = yN (yBt B 0 sx) 0 2 n := ⟨_, rfl⟩
  have w0 : ∀ i : Int, i ≠ 2 → i ≠ 4 → i ≠ 5 → W.1 0 i = B.1 0 i := fun i a b c => by rw [hW, yN_ne (Or.inr a)]; exact v.2.2.1 i b c
  have wk : ∀ k : Nat, k ≠ 0 → W.1 k = B.1 k := fun k hk => by rw [hW, yN_nk hk]; exact v.2.2.2 k hk
  have w2 : W.1 0 2 = n := by rw [hW]; exact yN_at
  have w4 : W.1 0 4 = 0 := by rw [hW, yN_ne (by decide)]; exact v.1
  rw [← hW] at hi hr
  have ht := hi.1.2.1.1.1
  have hn : W.1 6 v1 ≤ 1 := by
    rw [wk 6 (by decide)]
    rw [hsx, V1] at h0
    split at h0 <;> omega
  have A := yRC_ab (l := [x] :: as) hi.1 (r := v1) ⟨by omega, by rw [w0 1 (by decide) (by decide) (by decide)]; exact V3⟩ hn e ⟨by rw [hs]; exact D5.1.2.1.2.2.2.2.2.1, by rw [← hi.2.2.1.1]; omega, hi.2.1⟩ (by have := hi.2.2.1.1; rw [w2] at this; omega)
  have vb := yBb_v W v1 ([x] :: as)
  have hcu : yCu W := by
    unfold yCu at hu ⊢
    rw [w0 0 (by decide) (by decide) (by decide), w0 1 (by decide) (by decide) (by decide), w0 3 (by decide) (by decide) (by decide), wk 2 (by decide), wk 3 (by decide)]
    exact hu
  have F5 := yfr5 D5.1 hz
  have CW : yCv μ t st W := yCv_e (yCv_f D5.2.2.2 (F5 5 (by decide)) (F5 9 (by decide))) hs (w0 0 (by decide) (by decide) (by decide)) (w0 1 (by decide) (by decide) (by decide)) (wk 4 (by decide)) (wk 6 (by decide)) (by rw [hW]; rfl) (by rw [hW]; rfl)
  have CV : yCv m1 t ((yBb W v1 ([x] :: as)).1 0 2) (yBb W v1 ([x] :: as)) := yCv_ab CW hi.1.2.2.1 ht ⟨by omega, by rw [w0 1 (by decide) (by decide) (by decide)]; exact V3⟩ hn e (by rw [vb.1 0 (by decide)]; have := hi.2.2.1.1; omega)
  have D : yDJ T m1 p6 (yBb W v1 ([x] :: as)) t := ⟨A.1, by rw [A.2]; exact hm, yCu_6 hcu (vb.1 0 (by decide)) (vb.1 2 (by decide)) (vb.1 3 (by decide)), CV⟩
  have S : (yBb W v1 ([x] :: as)).1 4 ((yBb W v1 ([x] :: as)).1 0 3) = 0 := by
    rw [vb.1 0 (by decide), vb.1 4 (by decide), w0 3 (by decide) (by decide) (by decide), wk 4 (by decide)]; exact S5
  have MN : (yBb W v1 ([x] :: as)).1 0 0 = yNs s := by rw [vb.1 0 (by decide), w0 0 (by decide) (by decide) (by decide)]; exact M5
  have I : v2 + 1 = ybs (yBb W v1 ([x] :: as)) := by
    rw [ybs_b (by rw [w0 3 (by decide) (by decide) (by decide), wk 2 (by decide)]; exact V2) (by rw [w0 3 (by decide) (by decide) (by decide), wk 2 (by decide), wk 3 (by decide)]; have := hu.2.2.1; omega) (by rw [w0 3 (by decide) (by decide) (by decide), wk 3 (by decide)]; omega), I5]
    unfold ybs yb1
    rw [w0 3 (by decide) (by decide) (by decide), wk 2 (by decide), wk 3 (by decide), wk 6 (by decide)]
  have w6 : W.1 0 6 = v1 := by rw [w0 6 (by decide) (by decide) (by decide)]; exact V1
  have R14 := yR_t (yR_s r5 ym5) (by rw [← hsx]; exact hr)
  have R := yR_s R14 (ym14_b w4)
  rw [w6] at R
  dsimp only at R
  refine ⟨hk, ?_, fun q => ?_, fun q => ?_⟩
  · rw [e]; unfold yabM; rw [zu_ne (show 1 ≠ t + 8 by omega), zu_ne (show 1 ≠ t + 10 by omega), zu_ne (show 1 ≠ t + 9 by omega)]
  · rw [if_neg (by omega), if_neg (by omega)] at R
    exact ⟨_, _, R, D, S, MN⟩
  · by_cases q8 : ykd T p6 = 38
    · rw [if_pos q8] at R
      refine ⟨_, _, Or.inr ⟨q8, R, ?_, ?_, ?_⟩, D, I, S, by omega, MN⟩
      · rw [vb.1 0 (by decide)]; exact w6
      · rw [vb.1 0 (by decide), vb.1 2 (by decide), w0 3 (by decide) (by decide) (by decide), wk 2 (by decide)]; exact V2
      · rw [vb.1 0 (by decide), w0 1 (by decide) (by decide) (by decide)]; exact V3
    · rw [if_neg q8, if_pos (by omega)] at R
      exact ⟨_, _, Or.inl ⟨q8, R⟩, D, I, S, by omega, MN⟩
def yUIj (T : yT) (s : yS) (t : Nat) (v1 : Int) (μ : zM) (p : Int) (B : yB) : Prop := (yR T s (7, p, 0, [], B) ∧ ykd T p ≠ 0) ∧ yDJ T μ p B t ∧ v1 = B.1 4 (B.1 0 3) ∧ B.1 0 0 = yNs s
theorem yUI_ej {T : yT} {s : yS} {t : Nat} {v1 p p6 n x st sx o : Int} {B : yB} {μ0 μ m1 : zM} {as : List (List Int)} (hz : zfr (t + 100) μ0 μ) (h : yUIj T s t v1 μ0 p B) (hr : yR T (10, ynx T p, 0, [], yBt B 1 sx) (14, p6, 0, [(0, x, as)], yN (yBt B 1 sx) 0 2 n)) (hsx : sx = if 4 ≤ B.1 4 (B.1 0 3) then 1 else 0) (h0 : sx = 0) (hi : yTI T μ p6 (yN (yBt B 1 sx) 0 2 n) t (Nat.add t 11) st (([x] :: as).flatten)) (hm : μ.1 50 ((10 : Nat) : Int) = 0) (hs : st = B.1 0 2) (ho : o = B.1 0 3) (e : m1 = yasM μ t o st) (hk : ymay (yBt B 1 sx) 0 (ykd T p6) = true) : (ykd T p6 = 44 ∨ ykd T p6 = 59) ∧ m1.1 1 = μ.1 1 ∧ (ykd T p6 = 59 → yS8j T s t m1) ∧ (ykd T p6 = 44 → ∃ p' B', yUIj T s t (v1 + 1) m1 p' B') := by
  obtain ⟨⟨r5, k5⟩, D5, I5, M5⟩ := h
  have v := yBt_v B 1 sx
  have hk := (ymay_1 v.1).mp hk
  have hb := yDJ_B D5
  have hu := D5.2.2.1
  obtain ⟨W, hW⟩ : ∃ W, W = yN (yBt B 1 sx) 0 2 n := ⟨_, rfl⟩
  have w0 : ∀ i : Int, i ≠ 2 → i ≠ 4 → i ≠ 5 → W.1 0 i = B.1 0 i := fun i a b c => by rw [hW, yN_ne (Or.inr a)]; exact v.2.2.1 i b c
  have wk : ∀ k : Nat, k ≠ 0 → W.1 k = B.1 k := fun k hk => by rw [hW, yN_nk hk]; exact v.2.2.2 k hk
  have w2 : W.1 0 2 = n := by rw [hW]; exact yN_at
  have w4 : W.1 0 4 = 1 := by rw [hW, yN_ne (by decide)]; exact v.1
  have w3 : W.1 0 3 = B.1 0 3 := w0 3 (by decide) (by decide) (by decide)
  rw [← hW] at hi hr
  have ht := hi.1.2.1.1.1
  have hn : W.1 4 o ≤ 3 := by
    rw [wk 4 (by decide), ho]
    rw [hsx] at h0
    split at h0 <;> omega
  have A := yRC_as (l := [x] :: as) hi.1 (r := o) ⟨by omega, by rw [w0 0 (by decide) (by decide) (by decide)]; omega⟩ hn e ⟨by rw [hs]; exact D5.1.2.1.2.2.2.2.2.1, by rw [← hi.2.2.1.1]; omega, hi.2.1⟩
  have vb := yBs_v W o ([x] :: as)
  have hcu : yCu W := by
    unfold yCu at hu ⊢
    rw [w0 0 (by decide) (by decide) (by decide), w0 1 (by decide) (by decide) (by decide), w3, wk 2 (by decide), wk 3 (by decide)]
    exact hu
  have F5 := yfr5 D5.1 hz
  have CW : yCv μ t st W := yCv_e (yCv_f D5.2.2.2 (F5 5 (by decide)) (F5 9 (by decide))) hs (w0 0 (by decide) (by decide) (by decide)) (w0 1 (by decide) (by decide) (by decide)) (wk 4 (by decide)) (wk 6 (by decide)) (by rw [hW]; rfl) (by rw [hW]; rfl)
  have CV : yCv m1 t ((yBs W o ([x] :: as)).1 0 2) (yBs W o ([x] :: as)) := yCv_as CW hi.1.2.2.1 ht ⟨by omega, by rw [w0 0 (by decide) (by decide) (by decide)]; omega⟩ hn e (by rw [vb.1 0 (by decide)]; have := hi.2.2.1.1; omega)
  have D : yDJ T m1 p6 (yBs W o ([x] :: as)) t := ⟨A.1, by rw [A.2]; exact hm, yCu_6 hcu (vb.1 0 (by decide)) (vb.1 2 (by decide)) (vb.1 3 (by decide)), CV⟩
  have MN : (yBs W o ([x] :: as)).1 0 0 = yNs s := by rw [vb.1 0 (by decide), w0 0 (by decide) (by decide) (by decide)]; exact M5
  have R14 := yR_t (yR_s r5 ym7) (by rw [← hsx]; exact hr)
  have R := yR_s R14 (ym14_s w4)
  rw [w3, ← ho] at R
  dsimp only at R
  refine ⟨hk, ?_, fun q => ?_, fun q => ?_⟩
  · rw [e]; unfold yasM; rw [zu_ne (show 1 ≠ t + 4 by omega), zu_ne (show 1 ≠ t + 5 by omega)]
  · rw [if_neg (by omega)] at R
    exact ⟨_, _, R, D, MN⟩
  · rw [if_pos q] at R
    refine ⟨_, _, ⟨R, by omega⟩, D, ?_, MN⟩
    rw [vb.1 0 (by decide), w3, ← ho, vb.2, if_pos rfl, wk 4 (by decide), I5, ho]
