/-! ### a table that was read takes the old one's place -/
def zCp (μ m : zM) (lo n : Int) : Prop := ∀ y : Int, 0 ≤ y → y < n → m.1 67 y = μ.1 67 (lo + y) ∧ m.1 68 y = μ.1 68 (lo + y) ∧ m.1 69 y = μ.1 69 (lo + y) ∧ m.1 71 y = μ.1 71 (lo + y) ∧ ∀ i : Int, 0 ≤ i → i < μ.1 69 (lo + y) → m.1 70 (4 * y + i) = μ.1 70 (4 * (lo + y) + i) - lo
def zK1 (μ m : zM) (lo x : Int) : Prop := (∀ j : Nat, j < 67 ∨ 71 < j → m.1 j = μ.1 j) ∧ zCp μ m lo x ∧ (∀ z : Int, x ≤ z → m.1 67 z = μ.1 67 z ∧ m.1 68 z = μ.1 68 z ∧ m.1 69 z = μ.1 69 z ∧ m.1 71 z = μ.1 71 z) ∧ (∀ q : Int, 4 * x ≤ q → m.1 70 q = μ.1 70 q) ∧ ∀ y : Int, 0 ≤ y → y < x → 0 ≤ μ.1 68 (lo + y)
def zK2 (μ m : zM) (lo x i : Int) : Prop := (∀ j : Nat, j < 67 ∨ 71 < j → m.1 j = μ.1 j) ∧ zCp μ m lo x ∧ (∀ z : Int, x + 1 ≤ z → m.1 67 z = μ.1 67 z ∧ m.1 68 z = μ.1 68 z ∧ m.1 69 z = μ.1 69 z ∧ m.1 71 z = μ.1 71 z) ∧ (∀ q : Int, 4 * x + 4 ≤ q → m.1 70 q = μ.1 70 q) ∧ (m.1 67 x = μ.1 67 (lo + x) ∧ m.1 68 x = μ.1 68 (lo + x) ∧ m.1 69 x = μ.1 69 (lo + x) ∧ m.1 71 x = μ.1 71 (lo + x)) ∧ (∀ k : Int, 0 ≤ k → k < i → m.1 70 (4 * x + k) = μ.1 70 (4 * (lo + x) + k) - lo) ∧ ∀ y : Int, 0 ≤ y → y ≤ x → 0 ≤ μ.1 68 (lo + y)
theorem zK1_0 (μ : zM) (lo : Int) : zK1 μ μ lo 0 := ⟨fun _ _ => rfl, fun y a b => by omega, fun _ _ => ⟨rfl, rfl, rfl, rfl⟩, fun _ _ => rfl, fun y a b => by omega⟩
theorem zK2_0 {μ m m1 m2 m3 m4 : zM} {lo x a b c d : Int} (h : zK1 μ m lo x) (l1 : 1 ≤ lo) (h4 : ∀ y : Int, 0 ≤ y → y < x → μ.1 69 (lo + y) ≤ 4) (e1 : m1 = zu m 67 x a) (e2 : m2 = zu m1 68 x b) (e3 : m3 = zu m2 69 x c) (e4 : m4 = zu m3 71 x d) (ha : a = m.1 67 (lo + x)) (hb : b = m.1 68 (lo + x)) (hc : c = m.1 69 (lo + x)) (hd : d = m.1 71 (lo + x)) (hb0 : 0 ≤ b) : zK2 μ m4 lo x 0 := by
  obtain ⟨k1, k2, k3, k4, k7⟩ := h
  have c67 : ∀ z : Int, m4.1 67 z = if z = x then a else m.1 67 z := fun z => by
    rw [e4, zu_ne (by decide), e3, zu_ne (by decide), e2, zu_ne (by decide), e1]
    by_cases q : z = x
    · rw [if_pos q, q, zu_at]
    · rw [if_neg q, zu_nk q]
  have c68 : ∀ z : Int, m4.1 68 z = if z = x then b else m.1 68 z := fun z => by
    rw [e4, zu_ne (by decide), e3, zu_ne (by decide), e2]
    by_cases q : z = x
    · rw [if_pos q, q, zu_at]
    · rw [if_neg q, zu_nk q, e1, zu_ne (by decide)]
  have c69 : ∀ z : Int, m4.1 69 z = if z = x then c else m.1 69 z := fun z => by
    rw [e4, zu_ne (by decide), e3]
    by_cases q : z = x
    · rw [if_pos q, q, zu_at]
    · rw [if_neg q, zu_nk q, e2, zu_ne (by decide), e1, zu_ne (by decide)]
  have c71 : ∀ z : Int, m4.1 71 z = if z = x then d else m.1 71 z := fun z => by
    rw [e4]
    by_cases q : z = x
    · rw [if_pos q, q, zu_at]
    · rw [if_neg q, zu_nk q, e3, zu_ne (by decide), e2, zu_ne (by decide), e1, zu_ne (by decide)]
  have c70 : m4.1 70 = m.1 70 := by rw [e4, zu_ne (by decide), e3, zu_ne (by decide), e2, zu_ne (by decide), e1, zu_ne (by decide)]
  have s := k3 (lo + x) (by omega)
  refine ⟨fun j hj => by rw [e4, zu_ne (by omega), e3, zu_ne (by omega), e2, zu_ne (by omega), e1, zu_ne (by omega), k1 j hj], fun y p q => ?_, fun z hz => ?_, fun q hq => by rw [c70]; exact k4 q (by omega), ?_, fun k p q => by omega, fun y p q => ?_⟩
  · rw [c67, c68, c69, c71, c70, if_neg (by omega), if_neg (by omega), if_neg (by omega), if_neg (by omega)]
    exact k2 y p q
  · rw [c67, c68, c69, c71, if_neg (by omega), if_neg (by omega), if_neg (by omega), if_neg (by omega)]
    exact k3 z (by omega)
  · rw [c67, c68, c69, c71, if_pos rfl, if_pos rfl, if_pos rfl, if_pos rfl, ha, hb, hc, hd]
    exact s
  · by_cases z : y = x
    · rw [z, ← s.2.1, ← hb]; exact hb0
    · exact k7 y p (by omega)
theorem zK2_s {μ m m' : zM} {lo x i k v : Int} (h : zK2 μ m lo x i) (l1 : 1 ≤ lo) (i0 : 0 ≤ i) (i4 : i ≤ 3) (h4 : ∀ y : Int, 0 ≤ y → y < x → μ.1 69 (lo + y) ≤ 4) (e : m' = zu m 70 k v) (hk : k = 4 * x + i) (hv : v = m.1 70 (4 * (lo + x) + i) - lo) : zK2 μ m' lo x (i + 1) := by
  obtain ⟨k1, k2, k3, k4, k5, k6, k7⟩ := h
  have c : ∀ j : Nat, j ≠ 70 → m'.1 j = m.1 j := fun j hj => by rw [e, zu_ne hj]
  refine ⟨fun j hj => by rw [c j (by omega), k1 j hj], fun y p q => ?_, ?_, fun q hq => by rw [e, zu_nk (by omega)]; exact k4 q hq, ?_, fun q p r => ?_, k7⟩
  · obtain ⟨a1, a2, a3, a4, a5⟩ := k2 y p q
    rw [c 67 (by decide), c 68 (by decide), c 69 (by decide), c 71 (by decide)]
    refine ⟨a1, a2, a3, a4, fun l l0 l1 => ?_⟩
    have := h4 y p q
    rw [e, zu_nk (by omega)]
    exact a5 l l0 l1
  · rw [c 67 (by decide), c 68 (by decide), c 69 (by decide), c 71 (by decide)]; exact k3
  · rw [c 67 (by decide), c 68 (by decide), c 69 (by decide), c 71 (by decide)]; exact k5
  · by_cases z : q = i
    · rw [z, e, ← hk, zu_at, hv, k4 _ (by omega)]
    · rw [e, zu_nk (by omega)]
      exact k6 q p (by omega)
theorem zK1_n {μ m : zM} {lo x i : Int} (h : zK2 μ m lo x i) (hi : μ.1 69 (lo + x) ≤ i) : zK1 μ m lo (x + 1) := by
  obtain ⟨k1, k2, k3, k4, k5, k6, k7⟩ := h
  refine ⟨k1, fun y p q => ?_, k3, fun q hq => k4 q (by omega), fun y p q => k7 y p (by omega)⟩
  by_cases z : y = x
  · rw [z]
    exact ⟨k5.1, k5.2.1, k5.2.2.1, k5.2.2.2, fun l l0 l1 => k6 l l0 (by omega)⟩
  · exact k2 y p (by omega)
/-- classes below k, parameters below p have been taken over -/
def zKc (μ m : zM) (lo c I D : Int) : Prop := (m.1 76 c = μ.1 76 (21 + c) ∧ m.1 77 c = μ.1 77 (21 + c) ∧ m.1 79 c = μ.1 79 (21 + c)) ∧ (∀ i : Int, 0 ≤ i → i < I → m.1 78 (4 * c + i) = μ.1 78 (4 * (21 + c) + i) - lo) ∧ ∀ d : Int, 0 ≤ d → d < D → m.1 80 (21 * c + d) = (if zXa μ c d < 0 then zXa μ c d else zXa μ c d - lo)
def zKp (μ m : zM) (lo p I : Int) : Prop := m.1 84 p = μ.1 84 (80 + p) ∧ ∀ i : Int, 0 ≤ i → i < I → m.1 83 (2 * p + i) = μ.1 83 (2 * (80 + p) + i) - lo
def zKK (μ m : zM) (lo n k p : Int) : Prop := (zCp μ m lo n ∧ m.1 98 = μ.1 98 ∧ m.1 105 = μ.1 105 ∧ ∀ y : Int, 0 ≤ y → y < n → 0 ≤ μ.1 68 (lo + y)) ∧ (m.1 66 ((60 : Nat) : Int) = μ.1 66 ((60 : Nat) : Int) ∧ m.1 66 ((68 : Nat) : Int) = μ.1 66 ((68 : Nat) : Int) ∧ m.1 66 ((20 : Nat) : Int) = μ.1 66 ((26 : Nat) : Int) ∧ m.1 66 ((21 : Nat) : Int) = μ.1 66 ((27 : Nat) : Int)) ∧
  (∀ c : Int, 0 ≤ c → c < k → zKc μ m lo c (μ.1 79 (21 + c)) 21) ∧ (∀ q : Int, 0 ≤ q → q < p → zKp μ m lo q (μ.1 84 (80 + q))) ∧ (∀ q : Int, 21 ≤ q → m.1 76 q = μ.1 76 q ∧ m.1 77 q = μ.1 77 q ∧ m.1 79 q = μ.1 79 q) ∧ (∀ q : Int, 84 ≤ q → m.1 78 q = μ.1 78 q) ∧ (∀ q : Int, 441 ≤ q → m.1 80 q = μ.1 80 q) ∧ (∀ q : Int, 160 ≤ q → m.1 83 q = μ.1 83 q) ∧ ∀ q : Int, 80 ≤ q → m.1 84 q = μ.1 84 q
theorem zKK_0 {μ m m1 m2 m3 : zM} {lo n x1 x2 x3 : Int} (h : zK1 μ m lo n) (e1 : m1 = zu m 66 ((20 : Nat) : Int) x1) (h1 : x1 = μ.1 66 ((26 : Nat) : Int)) (e2 : m2 = zu m1 66 ((21 : Nat) : Int) x2) (h2 : x2 = μ.1 66 ((27 : Nat) : Int)) (e3 : m3 = zu m2 66 ((22 : Nat) : Int) x3) : zKK μ m3 lo n 0 0 := by
  obtain ⟨k1, k2, k3, k4, k7⟩ := h
  have c : ∀ j : Nat, j ≠ 66 → m3.1 j = m.1 j := fun j hj => by rw [e3, zu_ne hj, e2, zu_ne hj, e1, zu_ne hj]
  have f : ∀ k : Nat, k ≠ 20 → k ≠ 21 → k ≠ 22 → m3.1 66 ((k : Nat) : Int) = μ.1 66 ((k : Nat) : Int) := fun k a b d => by rw [e3, zu_nk (by omega), e2, zu_nk (by omega), e1, zu_nk (by omega), k1 66 (by decide)]
  unfold zKK zCp
  rw [c 67 (by decide), c 68 (by decide), c 69 (by decide), c 70 (by decide), c 71 (by decide), c 98 (by decide), c 105 (by decide), c 76 (by decide), c 77 (by decide), c 78 (by decide), c 79 (by decide), c 80 (by decide), c 83 (by decide), c 84 (by decide)]
  refine ⟨⟨k2, k1 98 (by decide), k1 105 (by decide), k7⟩, ⟨f 60 (by decide) (by decide) (by decide), f 68 (by decide) (by decide) (by decide), by rw [e3, zu_nk (by decide), e2, zu_nk (by decide), e1, zu_at, h1], by rw [e3, zu_nk (by decide), e2, zu_at, h2]⟩, fun c a b => by omega, fun q a b => by omega, fun q _ => by rw [k1 76 (by decide), k1 77 (by decide), k1 79 (by decide)]; exact ⟨rfl, rfl, rfl⟩, fun q _ => by rw [k1 78 (by decide)], fun q _ => by rw [k1 80 (by decide)], fun q _ => by rw [k1 83 (by decide)], fun q _ => by rw [k1 84 (by decide)]⟩
/-- one write among the rows of classes, at class k's places -/
theorem zKK_w {μ m m' : zM} {lo n k p i x : Int} {j : Nat} (h : zKK μ m lo n k p) (e : m' = zu m j i x) (k0 : 0 ≤ k ∧ k ≤ 20) (h4 : ∀ c : Int, 0 ≤ c → c < k → μ.1 79 (21 + c) ≤ 4) (hj : ((j = 76 ∨ j = 77 ∨ j = 79) ∧ i = k) ∨ (j = 78 ∧ 4 * k ≤ i ∧ i < 4 * k + 4) ∨ (j = 80 ∧ 21 * k ≤ i ∧ i < 21 * k + 21)) : zKK μ m' lo n k p := by
  have c : ∀ q : Nat, q ≠ j → m'.1 q = m.1 q := fun q hq => by rw [e, zu_ne hq]
  have nk : ∀ q : Int, q ≠ i → m'.1 j q = m.1 j q := fun q hq => by rw [e, zu_nk hq]
  have g : ∀ (r : Nat) (q : Int), r = j → q ≠ i → m'.1 r q = m.1 r q := fun r q hr hq => by rw [hr]; exact nk q hq
  have ev : ∀ (r : Nat) (q : Int), (r = j → q ≠ i) → m'.1 r q = m.1 r q := fun r q hq => by
    by_cases z : r = j
    · exact g r q z (hq z)
    · rw [c r z]
  obtain ⟨⟨a1, a2, a3⟩, b, d, f, g1, g2, g3, g4, g5⟩ := h
  unfold zKK zCp
  rw [c 66 (by omega), c 67 (by omega), c 68 (by omega), c 69 (by omega), c 70 (by omega), c 71 (by omega), c 98 (by omega), c 105 (by omega), c 83 (by omega), c 84 (by omega)]
  refine ⟨⟨a1, a2, a3⟩, b, fun q q0 q1 => ?_, fun q q0 q1 => ?_, fun q hq => ?_, fun q hq => by rw [ev 78 q (by omega)]; exact g2 q hq, fun q hq => by rw [ev 80 q (by omega)]; exact g3 q hq, g4, g5⟩
  · obtain ⟨⟨u1, u2, u3⟩, v, w⟩ := d q q0 q1
    have := h4 q q0 q1
    refine ⟨by rw [ev 76 q (by omega), ev 77 q (by omega), ev 79 q (by omega)]; exact ⟨u1, u2, u3⟩, fun l l0 l1 => by rw [ev 78 _ (by omega)]; exact v l l0 l1, fun l l0 l1 => by rw [ev 80 _ (by omega)]; exact w l l0 l1⟩
  · unfold zKp
    rw [c 83 (by omega), c 84 (by omega)]; exact f q q0 q1
  · rw [ev 76 q (by omega), ev 77 q (by omega), ev 79 q (by omega)]; exact g1 q hq
theorem zKK_wp {μ m m' : zM} {lo n k p i x : Int} {j : Nat} (h : zKK μ m lo n k p) (e : m' = zu m j i x) (p0 : 0 ≤ p ∧ p ≤ 79) (h4 : ∀ c : Int, 0 ≤ c → c < p → μ.1 84 (80 + c) ≤ 2) (hj : (j = 82) ∨ (j = 84 ∧ i = p) ∨ (j = 83 ∧ 2 * p ≤ i ∧ i < 2 * p + 2)) : zKK μ m' lo n k p := by
  have c : ∀ q : Nat, q ≠ j → m'.1 q = m.1 q := fun q hq => by rw [e, zu_ne hq]
  have ev : ∀ (r : Nat) (q : Int), (r = j → q ≠ i) → m'.1 r q = m.1 r q := fun r q hq => by
    by_cases z : r = j
    · rw [z, e, zu_nk (hq z)]
    · rw [c r z]
  obtain ⟨⟨a1, a2, a3⟩, b, d, f, g1, g2, g3, g4, g5⟩ := h
  unfold zKK zCp zKc
  rw [c 66 (by omega), c 67 (by omega), c 68 (by omega), c 69 (by omega), c 70 (by omega), c 71 (by omega), c 98 (by omega), c 105 (by omega), c 76 (by omega), c 77 (by omega), c 78 (by omega), c 79 (by omega), c 80 (by omega)]
  refine ⟨⟨a1, a2, a3⟩, b, d, fun q q0 q1 => ?_, g1, g2, g3, fun q hq => by rw [ev 83 q (by omega)]; exact g4 q hq, fun q hq => by rw [ev 84 q (by omega)]; exact g5 q hq⟩
  obtain ⟨u, v⟩ := f q q0 q1
  have := h4 q q0 q1
  exact ⟨by rw [ev 84 q (by omega)]; exact u, fun l l0 l1 => by rw [ev 83 _ (by omega)]; exact v l l0 l1⟩
theorem zKK_up {μ m : zM} {lo n k p : Int} (h : zKK μ m lo n k p) (hc : zKc μ m lo k (μ.1 79 (21 + k)) 21) : zKK μ m lo n (k + 1) p := by
  obtain ⟨a, b, d, f, g⟩ := h
  refine ⟨a, b, fun q q0 q1 => ?_, f, g⟩
  by_cases z : q = k
  · rw [z]; exact hc
  · exact d q q0 (by omega)
theorem zKK_upp {μ m : zM} {lo n k p : Int} (h : zKK μ m lo n k p) (hc : zKp μ m lo p (μ.1 84 (80 + p))) : zKK μ m lo n k (p + 1) := by
  obtain ⟨a, b, d, f, g⟩ := h
  refine ⟨a, b, d, fun q q0 q1 => ?_, g⟩
  by_cases z : q = p
  · rw [z]; exact hc
  · exact f q q0 (by omega)
/-- what it is, once all has been taken over -/
theorem zNd_cp {μ m : zM} {lo n x C P : Int} {cf : Int → Int} (h : zCp μ m lo n) (l0 : 0 ≤ lo) (hn : zTop μ = lo + n) (nd : ∀ x : Int, 0 ≤ x → x < zTop μ → zNd μ x) (wf : zWf μ lo (zTop μ) C P 0 cf) (x0 : 0 ≤ x) (x1 : x < n) : zNd m x ∧ zW1 m 0 C P 0 cf x := by
  obtain ⟨a1, a2, a3, a4, a5⟩ := h x x0 x1
  have N := nd (lo + x) (by omega) (by omega)
  obtain ⟨n1, n2, n3, n4, n5⟩ := N
  obtain ⟨w1, w2, w3, w4, w5, w6⟩ := wf (lo + x) (by omega) (by omega)
  have part : ∀ i : Int, 0 ≤ i → i < μ.1 69 (lo + x) → 0 ≤ m.1 70 (4 * x + i) ∧ m.1 70 (4 * x + i) < x ∧ lo + m.1 70 (4 * x + i) = μ.1 70 (4 * (lo + x) + i) := fun i i0 i1 => by
    have p := n2 i i0 i1
    have l := w1 i i0 i1
    rw [a5 i i0 i1]
    omega
  refine ⟨⟨by rw [a3]; exact n1, fun i i0 i1 => ?_, by rw [a1, a2]; exact n3, by rw [a1, a2]; exact n4, ?_⟩, fun i i0 i1 => ?_, by rw [a1, a2, a3]; exact w2, by rw [a1, a2, a3]; exact w3, by rw [a1, a2, a3]; exact w4, by rw [a1, a3]; exact w5, ?_⟩
  · rw [a3] at i1
    have p := part i i0 i1
    exact ⟨p.1, p.2.1⟩
  · rw [a4, n5, a3]
    congr 1
    refine zsm_eq (fun i i0 i1 => ?_)
    have p := part i i0 (by omega)
    show μ.1 71 (μ.1 70 (4 * (lo + x) + i)) = m.1 71 (m.1 70 (4 * x + i))
    rw [(h _ p.1 (by omega)).2.2.2.1, p.2.2]
  · rw [a3] at i1
    exact (part i i0 i1).1
  · rw [a1, a3]
    intro q
    have q6 := w6 q
    have p := part 0 (by omega) (by omega)
    refine ⟨q6.1, ?_⟩
    rw [(h _ p.1 (by omega)).1, p.2.2]
    exact q6.2
theorem zTb_cp {μ m : zM} {lo n : Int} {C : Int} (hD : zDS μ lo C) (h : zKK μ m lo n C (μ.1 66 ((27 : Nat) : Int))) (hn : zTop μ = lo + n) : zTb m C (μ.1 66 ((27 : Nat) : Int)) n ∧ (∀ x : Int, 0 ≤ x → x < n → zNd m x) ∧ zWf m 0 n C (μ.1 66 ((27 : Nat) : Int)) 0 (m.1 77) := by
  obtain ⟨⟨p1, p2, p3, p4, p5, p6, p7, p8, p9, p10, p11, p12⟩, ⟨b1, b2, b3⟩, tp, q2, q3, q4, q5⟩ := hD
  obtain ⟨⟨a1, a2, a3⟩, b, d, f, g1, g2, g3, g4, g5⟩ := h
  have ts : ∀ x : Int, zTx μ lo x → zTs m n (x - lo) ∧ m.1 67 (x - lo) = 0 := fun x hx => by
    have r := hx.1
    have q := a1 (x - lo) (by omega) (by omega)
    rw [show lo + (x - lo) = x by omega] at q
    exact ⟨⟨⟨by omega, by omega⟩, by rw [q.2.2.2.1]; exact hx.2.1⟩, by rw [q.1]; exact hx.2.2⟩
  have nw := fun (x : Int) (x0 : 0 ≤ x) (x1 : x < n) => zNd_cp a1 p10 hn b1.2.1 b3 x0 x1
  have n0 : 1 ≤ n := by
    have A := (tp.1 0 (by omega) (by omega)).2
    rcases A.1 0 (by omega) (by omega) with z | z
    · have := A.2.2.2; omega
    · have := z.1.1; omega
  refine ⟨⟨⟨p4, p5, p6, by omega, n0, ?_⟩, fun c c0 c1 => ?_, fun c i c0 c1 i0 i1 => ?_, fun q i q0 q1 i0 i1 => ?_, fun c e c0 c1 e0 e1 => ?_, ?_⟩, fun x x0 x1 => (nw x x0 x1).1, fun x x0 x1 => ?_⟩
  · split at q3 <;> omega
  · have D := (d c c0 c1).1
    have C := (tp.1 c c0 c1).1.1
    rw [D.1, D.2.1, D.2.2]
    have e1 : zXf μ c = μ.1 76 (21 + c) := rfl
    have e2 : zXn μ c = μ.1 77 (21 + c) := rfl
    omega
  · rw [(d c c0 c1).1.2.2] at i1
    rw [(d c c0 c1).2.1 i i0 i1]
    exact (ts _ ((tp.1 c c0 c1).1.2 i i0 i1).1).1
  · rw [(f q q0 q1).1] at i1
    rw [(f q q0 q1).2 i i0 i1]
    exact ts _ ((tp.2.1 q q0 q1).2 i i0 i1)
  · rw [(d c c0 c1).2.2 e e0 (by omega)]
    rcases (tp.1 c c0 c1).2.1 e e0 e1 with z | ⟨z1, z2, z3⟩
    · rw [z, if_pos (by omega)]; exact Or.inl rfl
    · have r := z1.1
      rw [if_neg (by omega)]
      have T := ts (zXa μ c e) ⟨r, z2, z1.2.1⟩
      have q := a1 (zXa μ c e - lo) (by omega) (by omega)
      rw [show lo + (zXa μ c e - lo) = zXa μ c e by omega] at q
      refine Or.inr ⟨T.1, T.2, by rw [q.2.1]; exact z1.2.2.1, fun i i0 i1 => ?_⟩
      rw [q.2.2.1] at i1
      have k := b1.2.1 (zXa μ c e) (by omega) r.2
      have p := k.2.1 i i0 i1
      have l := (b3 _ r.1 r.2).1 i i0 i1
      rw [q.2.2.2.2 i i0 i1]
      have q' := a1 (μ.1 70 (4 * zXa μ c e + i) - lo) (by omega) (by omega)
      rw [show lo + (μ.1 70 (4 * zXa μ c e + i) - lo) = μ.1 70 (4 * zXa μ c e + i) by omega] at q'
      rw [q'.1]
      exact z1.2.2.2.2.2.1 i i0 i1
  · have A := (tp.1 0 (by omega) (by omega)).2
    have e := (d 0 (by omega) (by omega)).2.2 0 (by omega) (by omega)
    rw [show (21 * 0 + 0 : Int) = 0 by omega] at e
    have a0 := A.2.2.2
    rw [e, if_neg (by omega)]
    rcases A.1 0 (by omega) (by omega) with z | z
    · omega
    · have := z.1.1; omega
  · obtain ⟨w1, w2, w3⟩ := (nw x x0 x1).2
    refine ⟨w1, fun e => ?_, w3⟩
    have w := w2 e
    refine ⟨w.1, ?_⟩
    have v0 : 0 ≤ m.1 68 x := by rw [(a1 x x0 x1).2.1]; exact a3.2 x x0 x1
    rw [w.2, (d _ v0 w.1).1.2.1]
    rfl
