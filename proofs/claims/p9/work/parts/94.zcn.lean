theorem zKc_0 {μ m m1 m2 m3 : zM} {lo n c p k1 k2 k3 x1 x2 x3 : Int} (h : zKK μ m lo n c p) (c0 : 0 ≤ c ∧ c ≤ 20) (h4 : ∀ q : Int, 0 ≤ q → q < c → μ.1 79 (21 + q) ≤ 4) (e1 : m1 = zu m 76 k1 x1) (e2 : m2 = zu m1 77 k2 x2) (e3 : m3 = zu m2 79 k3 x3) (h1 : k1 = c) (h2 : k2 = c) (h3 : k3 = c) (g1 : x1 = m.1 76 (21 + c)) (g2 : x2 = m1.1 77 (21 + c)) (g3 : x3 = m2.1 79 (21 + c)) : zKK μ m3 lo n c p ∧ zKc μ m3 lo c 0 0 := by
  rw [h1] at e1; rw [h2] at e2; rw [h3] at e3
  have K1 := zKK_w h e1 c0 h4 (Or.inl ⟨Or.inl rfl, rfl⟩)
  have K2 := zKK_w K1 e2 c0 h4 (Or.inl ⟨Or.inr (Or.inl rfl), rfl⟩)
  have K3 := zKK_w K2 e3 c0 h4 (Or.inl ⟨Or.inr (Or.inr rfl), rfl⟩)
  have s := h.2.2.2.2.1 (21 + c) (by omega)
  refine ⟨K3, ⟨?_, ?_, ?_⟩, fun i a b => by omega, fun d a b => by omega⟩
  · rw [e3, zu_ne (by decide), e2, zu_ne (by decide), e1, zu_at, g1]; exact s.1
  · rw [e3, zu_ne (by decide), e2, zu_at, g2, e1, zu_ne (by decide)]; exact s.2.1
  · rw [e3, zu_at, g3, e2, zu_ne (by decide), e1, zu_ne (by decide)]; exact s.2.2
theorem zKc_s {μ m m' : zM} {lo n c p i k v : Int} (h : zKK μ m lo n c p) (hc : zKc μ m lo c i 0) (c0 : 0 ≤ c ∧ c ≤ 20) (h4 : ∀ q : Int, 0 ≤ q → q < c → μ.1 79 (21 + q) ≤ 4) (i0 : 0 ≤ i ∧ i ≤ 3) (e : m' = zu m 78 k v) (hk : k = 4 * c + i) (hv : v = m.1 78 (4 * (21 + c) + i) - lo) : zKK μ m' lo n c p ∧ zKc μ m' lo c (i + 1) 0 := by
  have K := zKK_w h e c0 h4 (Or.inr (Or.inl ⟨rfl, by omega, by omega⟩))
  refine ⟨K, by rw [e, zu_ne (by decide), zu_ne (by decide), zu_ne (by decide)]; exact hc.1, fun q a b => ?_, fun d a b => by omega⟩
  by_cases z : q = i
  · rw [z, ← hk, e, zu_at, hv, h.2.2.2.2.2.1 _ (by omega)]
  · rw [e, zu_nk (by omega)]
    exact hc.2.1 q a (by omega)
theorem zKc_d {μ m m' : zM} {lo n c p I d k v : Int} (h : zKK μ m lo n c p) (hc : zKc μ m lo c I d) (c0 : 0 ≤ c ∧ c ≤ 20) (h4 : ∀ q : Int, 0 ≤ q → q < c → μ.1 79 (21 + q) ≤ 4) (d0 : 0 ≤ d ∧ d ≤ 20) (e : m' = zu m 80 k v) (hk : k = 21 * c + d) (hv : v = (if zXa μ c d < 0 then zXa μ c d else zXa μ c d - lo)) : zKK μ m' lo n c p ∧ zKc μ m' lo c I (d + 1) := by
  have K := zKK_w h e c0 h4 (Or.inr (Or.inr ⟨rfl, by omega, by omega⟩))
  refine ⟨K, by rw [e, zu_ne (by decide), zu_ne (by decide), zu_ne (by decide)]; exact hc.1, by rw [e, zu_ne (by decide)]; exact hc.2.1, fun q a b => ?_⟩
  by_cases z : q = d
  · rw [z, ← hk, e, zu_at, hv]
  · rw [e, zu_nk (by omega)]
    exact hc.2.2 q a (by omega)
theorem zKp_0 {μ m m1 m2 : zM} {lo n k p k1 k2 x1 x2 : Int} (h : zKK μ m lo n k p) (p0 : 0 ≤ p ∧ p ≤ 79) (h4 : ∀ c : Int, 0 ≤ c → c < p → μ.1 84 (80 + c) ≤ 2) (e1 : m1 = zu m 82 k1 x1) (e2 : m2 = zu m1 84 k2 x2) (h2 : k2 = p) (g2 : x2 = m1.1 84 (80 + p)) : zKK μ m2 lo n k p ∧ zKp μ m2 lo p 0 := by
  have K1 := zKK_wp h e1 p0 h4 (Or.inl rfl)
  have K2 := zKK_wp K1 e2 p0 h4 (Or.inr (Or.inl ⟨rfl, h2⟩))
  refine ⟨K2, ?_, fun i a b => by omega⟩
  rw [e2, ← h2, zu_at, g2]
  exact (K1.2.2.2.2.2.2.2.2 (80 + p) (by omega)).trans (by rw [h2])
theorem zKp_s {μ m m' : zM} {lo n k p i q v : Int} (h : zKK μ m lo n k p) (hc : zKp μ m lo p i) (p0 : 0 ≤ p ∧ p ≤ 79) (h4 : ∀ c : Int, 0 ≤ c → c < p → μ.1 84 (80 + c) ≤ 2) (i0 : 0 ≤ i ∧ i ≤ 1) (e : m' = zu m 83 q v) (hk : q = 2 * p + i) (hv : v = m.1 83 (2 * (80 + p) + i) - lo) : zKK μ m' lo n k p ∧ zKp μ m' lo p (i + 1) := by
  have K := zKK_wp h e p0 h4 (Or.inr (Or.inr ⟨rfl, by omega, by omega⟩))
  refine ⟨K, by rw [e, zu_ne (by decide)]; exact hc.1, fun l a b => ?_⟩
  by_cases z : l = i
  · rw [z, ← hk, e, zu_at, hv, h.2.2.2.2.2.2.2.1 _ (by omega)]
  · rw [e, zu_nk (by omega)]
    exact hc.2 l a (by omega)
theorem zRI_tab {m : zM} {C P n K : Int} (nd : zND m 0) (tp : zTop m = n) (tb : zTb m C P n) (wf : zWf m 0 n C P 0 (m.1 77)) (f20 : m.1 66 ((20 : Nat) : Int) = C) (f21 : m.1 66 ((21 : Nat) : Int) = P) (f23 : m.1 66 ((23 : Nat) : Int) = n) (f45 : m.1 66 ((45 : Nat) : Int) = 0) (f48 : m.1 66 ((48 : Nat) : Int) = 0) (h60 : 0 ≤ m.1 66 ((60 : Nat) : Int) ∧ m.1 66 ((60 : Nat) : Int) ≤ K) (hK : K ≤ 1999990000) (h98 : ∀ x : Int, 0 ≤ x → x < 20000 → m.1 98 x ≤ m.1 66 ((60 : Nat) : Int)) (h105 : ∀ x : Int, 0 ≤ x → x < 20000 → m.1 105 x ≤ m.1 66 ((68 : Nat) : Int)) (h68 : 0 ≤ m.1 66 ((68 : Nat) : Int) ∧ m.1 66 ((68 : Nat) : Int) ≤ K) (h84 : ∀ p : Int, 0 ≤ p → p < P → m.1 84 p ≤ 2) : zRI m K := by
  unfold zRI
  rw [f20, f21, f23]
  refine ⟨⟨⟨nd, tb, by omega, wf, by rw [tp, f45]; exact wf, by rw [f45]; exact fun v a b => by omega, h98⟩, by rw [tp, f45, f48]; omega, by rw [f45]; omega, by rw [f48]; omega, by rw [f48]; omega, hK⟩, h105, h68.1, h68.2, h84⟩
theorem zKK_L {μ m m' : zM} {lo n c p k x : Int} {j : Nat} (h : zKK μ m lo n c p) (e : m' = zu m j k x) (hj : 109 ≤ j) : zKK μ m' lo n c p := by
  have hz : ∀ i : Nat, i < 109 → m'.1 i = m.1 i := fun i hi => by rw [e]; exact zu_ne (by omega)
  unfold zKK zKc zKp zCp at h ⊢
  simp (disch := decide) only [hz]
  exact h
