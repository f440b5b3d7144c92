/-! ### waysOf: what is seen, what is heaped -/
def sIn (m : zM) (S n c : Int) : Prop := m.1 105 c = S ∨ ∃ j : Int, (0 ≤ j ∧ j < n) ∧ m.1 106 j = c
def sJ (μ m : zM) (T a S n x i : Int) : Prop := (∀ y : Int, 0 ≤ y → y < T → m.1 105 y = S → (∃ k, rRe μ k a y) ∧ ∀ l : Int, 0 ≤ l → l < μ.1 69 y → (y = x → l < i) → sIn m S n (μ.1 70 (4 * y + l))) ∧ (∀ j : Int, 0 ≤ j → j < n → ∃ k, rRe μ k a (m.1 106 j)) ∧ sIn m S n a
theorem sJ_0 {μ m : zM} {T a S : Int} (hS : ∀ y : Int, 0 ≤ y → y < T → m.1 105 y ≠ S) (h0 : m.1 106 0 = a) : sJ μ m T a S 1 (-1) 0 := by
  refine ⟨fun y y0 y1 e => absurd e (hS y y0 y1), fun j j0 j1 => ⟨0, ?_⟩, Or.inr ⟨0, by omega, h0⟩⟩
  rw [show j = 0 by omega, h0]
  exact rRe_0
/-- the top of the pile was seen -/
theorem sJ_pop {μ m : zM} {T a S n : Int} (h : sJ μ m T a S n (-1) 0) (hs : m.1 105 (m.1 106 (n - 1)) = S) : sJ μ m T a S (n - 1) (-1) 0 := by
  have down : ∀ c : Int, sIn m S n c → sIn m S (n - 1) c := fun c hc => by
    rcases hc with hc | ⟨j, hj, e⟩
    · exact Or.inl hc
    · by_cases q : j = n - 1
      · subst q; exact Or.inl (by rw [← e]; exact hs)
      · exact Or.inr ⟨j, by omega, e⟩
  exact ⟨fun y y0 y1 e => ⟨(h.1 y y0 y1 e).1, fun l l0 l1 hl => down _ ((h.1 y y0 y1 e).2 l l0 l1 hl)⟩, fun j j0 j1 => h.2.1 j j0 (by omega), down _ h.2.2⟩
/-- it was not: it is stamped now -/
theorem sJ_new {μ m m' : zM} {T a S n y : Int} (h : sJ μ m T a S n (-1) 0) (hn : 1 ≤ n) (hy : y = m.1 106 (n - 1)) (y0 : 0 ≤ y) (y1 : y < T) (e5 : ∀ k : Int, m'.1 105 k = if k = y then S else m.1 105 k) (e6 : m'.1 106 = m.1 106) : sJ μ m' T a S (n - 1) y 0 := by
  have down : ∀ c : Int, sIn m S n c → sIn m' S (n - 1) c := fun c hc => by
    rcases hc with hc | ⟨j, hj, e⟩
    · refine Or.inl ?_
      rw [e5]
      split
      · rfl
      · exact hc
    · by_cases q : j = n - 1
      · subst q; exact Or.inl (by rw [e5, if_pos (by rw [hy, e])])
      · exact Or.inr ⟨j, by omega, by rw [e6]; exact e⟩
  refine ⟨fun z z0 z1 e => ?_, fun j j0 j1 => by rw [e6]; exact h.2.1 j j0 (by omega), down _ h.2.2⟩
  rw [e5] at e
  by_cases q : z = y
  · subst q
    refine ⟨by rw [hy]; exact h.2.1 (n - 1) (by omega) (by omega), fun l l0 l1 hl => ?_⟩
    have := hl rfl
    omega
  · rw [if_neg q] at e
    exact ⟨(h.1 z z0 z1 e).1, fun l l0 l1 hl => down _ ((h.1 z z0 z1 e).2 l l0 l1 (fun w => by omega))⟩
/-- one of its parts is piled -/
theorem sJ_push {μ m m' : zM} {T a S n x i : Int} (h : sJ μ m T a S n x i) (hn : 0 ≤ n) (i0 : 0 ≤ i) (i1 : i < μ.1 69 x) (x0 : 0 ≤ x) (x1 : x < T) (hx : m.1 105 x = S) (e5 : m'.1 105 = m.1 105) (e6 : ∀ k : Int, m'.1 106 k = if k = n then μ.1 70 (4 * x + i) else m.1 106 k) : sJ μ m' T a S (n + 1) x (i + 1) := by
  have up : ∀ c : Int, sIn m S n c → sIn m' S (n + 1) c := fun c hc => by
    rcases hc with hc | ⟨j, hj, e⟩
    · exact Or.inl (by rw [e5]; exact hc)
    · exact Or.inr ⟨j, by omega, by rw [e6, if_neg (by omega)]; exact e⟩
  refine ⟨fun y y0 y1 e => ?_, fun j j0 j1 => ?_, up _ h.2.2⟩
  · rw [e5] at e
    have w := h.1 y y0 y1 e
    refine ⟨w.1, fun l l0 l1 hl => ?_⟩
    by_cases q : y = x ∧ l = i
    · refine Or.inr ⟨n, by omega, ?_⟩
      rw [e6, if_pos rfl, q.1, q.2]
    · exact up _ (w.2 l l0 l1 (fun hy => by have := hl hy; omega))
  · rw [e6]
    by_cases q : j = n
    · rw [if_pos q]
      obtain ⟨k, hk⟩ := (h.1 x x0 x1 hx).1
      exact rRe_c hk i0 i1
    · rw [if_neg q]
      exact h.2.1 j j0 (by omega)
theorem sJ_end {μ m : zM} {T a S n x i : Int} (h : sJ μ m T a S n x i) (hi : μ.1 69 x ≤ i) : sJ μ m T a S n (-1) 0 :=
  ⟨fun y y0 y1 e => ⟨(h.1 y y0 y1 e).1, fun l l0 l1 _ => (h.1 y y0 y1 e).2 l l0 l1 (fun w => by rw [w] at l1; omega)⟩, h.2.1, h.2.2⟩
theorem sJ_f {μ m m' : zM} {T a S n x i : Int} (h : sJ μ m T a S n x i) (e5 : m'.1 105 = m.1 105) (e6 : m'.1 106 = m.1 106) : sJ μ m' T a S n x i := by
  unfold sJ sIn at h ⊢
  rw [e5, e6]
  exact h
/-- nothing is piled: all parts are stamped -/
theorem sJ_all {μ m : zM} {T lo a S : Int} (h : sJ μ m T a S 0 (-1) 0) (wf : rLo μ lo T) (l0 : 0 ≤ lo) (a0 : lo ≤ a) (a1 : a < T) : ∀ (k : Nat) (x y : Int), lo ≤ x → x < T → m.1 105 x = S → rRe μ k x y → m.1 105 y = S
  | 0, x, y, x0, x1, hx, r => by
    have r : x = y := r
    rw [← r]; exact hx
  | k + 1, x, y, x0, x1, hx, r => by
    rcases r with r | ⟨i, i0, i1, r⟩
    · rw [← r]; exact hx
    · have w := wf x x0 x1 i i0 i1
      have c := (h.1 x (by omega) x1 hx).2 i i0 i1 (fun q => by omega)
      rcases c with c | ⟨j, hj, -⟩
      · exact sJ_all h wf l0 a0 a1 k _ y w.1 w.2 c r
      · omega
theorem sJ_fin {μ m : zM} {T lo a S : Int} (h : sJ μ m T a S 0 (-1) 0) (wf : rLo μ lo T) (l0 : 0 ≤ lo) (a0 : lo ≤ a) (a1 : a < T) (y : Int) : (lo ≤ y ∧ y < T ∧ m.1 105 y = S) ↔ (∃ k, rRe μ k a y) := by
  have ha : m.1 105 a = S := by
    rcases h.2.2 with c | ⟨j, hj, -⟩
    · exact c
    · omega
  constructor
  · rintro ⟨y0, y1, e⟩
    exact (h.1 y (by omega) y1 e).1
  · rintro ⟨k, r⟩
    have := rRe_lo wf k a y a0 a1 r
    exact ⟨this.1, this.2, sJ_all h wf l0 a0 a1 k a y a0 a1 ha r⟩
theorem rRe_m {μ m : zM} (h69 : m.1 69 = μ.1 69) (h70 : m.1 70 = μ.1 70) : ∀ (k : Nat) (x y : Int), rRe m k x y ↔ rRe μ k x y
  | 0, x, y => Iff.rfl
  | k + 1, x, y => by
    show (x = y ∨ ∃ i : Int, 0 ≤ i ∧ i < m.1 69 x ∧ rRe m k (m.1 70 (4 * x + i)) y) ↔ (x = y ∨ ∃ i : Int, 0 ≤ i ∧ i < μ.1 69 x ∧ rRe μ k (μ.1 70 (4 * x + i)) y)
    rw [h69, h70]
    exact or_congr Iff.rfl ⟨fun ⟨i, a, b, c⟩ => ⟨i, a, b, (rRe_m h69 h70 k _ y).mp c⟩, fun ⟨i, a, b, c⟩ => ⟨i, a, b, (rRe_m h69 h70 k _ y).mpr c⟩⟩
/-- a way by an ARG of a class node that is seen -/
def sQ (μ m : zM) (T S x i p q : Int) (g : Prop) : Prop := ∃ (y l : Int) (k : Nat) (z : Int), (0 ≤ y ∧ y < T) ∧ m.1 105 y = S ∧ μ.1 67 y = 0 ∧ (0 ≤ l ∧ l < μ.1 69 y) ∧ (y = x → l < i) ∧ q = μ.1 76 (μ.1 68 y) + l ∧ rRe μ k (μ.1 70 (4 * y + l)) z ∧ μ.1 67 z = 1 ∧ μ.1 68 z = p ∧ (g → z ≠ μ.1 70 (4 * y + l))
def sWz (μ m : zM) (T S x i : Int) : Prop := ∀ p q : Int, 0 ≤ p → p < 80 → 0 ≤ q → q < 80 → (m.1 86 (80 * p + q) = 2 ↔ μ.1 86 (80 * p + q) = 2 ∨ sQ μ m T S x i p q True) ∧ (1 ≤ m.1 86 (80 * p + q) ↔ 1 ≤ μ.1 86 (80 * p + q) ∨ sQ μ m T S x i p q False) ∧ 0 ≤ m.1 86 (80 * p + q) ∧ m.1 86 (80 * p + q) ≤ 2
theorem sWz_0 {μ m : zM} {T S : Int} (hS : ∀ y : Int, 0 ≤ y → y < T → m.1 105 y ≠ S) (e86 : m.1 86 = μ.1 86) (hr : ∀ p q : Int, 0 ≤ p → p < 80 → 0 ≤ q → q < 80 → 0 ≤ μ.1 86 (80 * p + q) ∧ μ.1 86 (80 * p + q) ≤ 2) : sWz μ m T S (-1) 0 := fun p q p0 p1 q0 q1 => by
  rw [e86]
  exact ⟨⟨Or.inl, fun h => by rcases h with h | ⟨y, l, k, z, hy, e, -⟩; exact h; exact absurd e (hS y hy.1 hy.2)⟩, ⟨Or.inl, fun h => by rcases h with h | ⟨y, l, k, z, hy, e, -⟩; exact h; exact absurd e (hS y hy.1 hy.2)⟩, hr p q p0 p1 q0 q1⟩
theorem sQ_u {μ m m' : zM} {T S y p q : Int} {g : Prop} (y0 : 0 ≤ y) (hn : m.1 105 y ≠ S) (e5 : ∀ k : Int, m'.1 105 k = if k = y then S else m.1 105 k) : sQ μ m' T S y 0 p q g ↔ sQ μ m T S (-1) 0 p q g := by
  constructor
  · rintro ⟨w, l, k, z, hw, e, k0, hl, hx, r⟩
    rw [e5] at e
    by_cases c : w = y
    · have := hx c; omega
    · rw [if_neg c] at e
      exact ⟨w, l, k, z, hw, e, k0, hl, fun f => by omega, r⟩
  · rintro ⟨w, l, k, z, hw, e, k0, hl, hx, r⟩
    have c : w ≠ y := fun f => hn (by rw [← f]; exact e)
    exact ⟨w, l, k, z, hw, by rw [e5, if_neg c]; exact e, k0, hl, fun f => absurd f c, r⟩
theorem sWz_new {μ m m' : zM} {T S y : Int} (h : sWz μ m T S (-1) 0) (y0 : 0 ≤ y) (hn : m.1 105 y ≠ S) (e5 : ∀ k : Int, m'.1 105 k = if k = y then S else m.1 105 k) (e86 : m'.1 86 = m.1 86) : sWz μ m' T S y 0 := fun p q p0 p1 q0 q1 => by
  rw [e86, sQ_u y0 hn e5, sQ_u y0 hn e5]
  exact h p q p0 p1 q0 q1
theorem sQ_n {μ m m' : zM} {T S x i p q : Int} {g : Prop} (hk : μ.1 67 x ≠ 0) (e5 : m'.1 105 = m.1 105) : sQ μ m' T S x (i + 1) p q g ↔ sQ μ m T S x i p q g := by
  unfold sQ
  rw [e5]
  constructor
  · rintro ⟨w, l, k, z, hw, e, k0, hl, hx, r⟩
    exact ⟨w, l, k, z, hw, e, k0, hl, fun f => absurd (by rw [← f]; exact k0) hk, r⟩
  · rintro ⟨w, l, k, z, hw, e, k0, hl, hx, r⟩
    exact ⟨w, l, k, z, hw, e, k0, hl, fun f => absurd (by rw [← f]; exact k0) hk, r⟩
theorem sWz_n {μ m m' : zM} {T S x i : Int} (h : sWz μ m T S x i) (hk : μ.1 67 x ≠ 0) (e5 : m'.1 105 = m.1 105) (e86 : m'.1 86 = m.1 86) : sWz μ m' T S x (i + 1) := fun p q p0 p1 q0 q1 => by
  rw [e86, sQ_n hk e5, sQ_n hk e5]
  exact h p q p0 p1 q0 q1
theorem sQ_s {μ m m' : zM} {T S x i p q : Int} {g : Prop} (x0 : 0 ≤ x) (x1 : x < T) (hx : m.1 105 x = S) (hk : μ.1 67 x = 0) (i0 : 0 ≤ i) (i1 : i < μ.1 69 x) (e5 : m'.1 105 = m.1 105) : sQ μ m' T S x (i + 1) p q g ↔ sQ μ m T S x i p q g ∨ (q = μ.1 76 (μ.1 68 x) + i ∧ ∃ k z, rRe μ k (μ.1 70 (4 * x + i)) z ∧ μ.1 67 z = 1 ∧ μ.1 68 z = p ∧ (g → z ≠ μ.1 70 (4 * x + i))) := by
  constructor
  · rintro ⟨w, l, k, z, hw, e, k0, hl, hx', eq, r⟩
    rw [e5] at e
    by_cases c : w = x ∧ l = i
    · obtain ⟨rfl, rfl⟩ := c
      exact Or.inr ⟨eq, k, z, r⟩
    · exact Or.inl ⟨w, l, k, z, hw, e, k0, hl, fun f => by have := hx' f; omega, eq, r⟩
  · rintro (⟨w, l, k, z, hw, e, k0, hl, hx', eq, r⟩ | ⟨eq, k, z, r⟩)
    · exact ⟨w, l, k, z, hw, by rw [e5]; exact e, k0, hl, fun f => by have := hx' f; omega, eq, r⟩
    · exact ⟨x, i, k, z, ⟨x0, x1⟩, by rw [e5]; exact hx, hk, ⟨i0, i1⟩, fun _ => by omega, eq, r⟩
/-- an ARG of a class node: its ways are told -/
theorem sWz_s {μ m m' : zM} {T S x i a b : Int} (h : sWz μ m T S x i) (x0 : 0 ≤ x) (x1 : x < T) (hx : m.1 105 x = S) (hk : μ.1 67 x = 0) (i0 : 0 ≤ i) (i1 : i < μ.1 69 x) (ha : a = μ.1 70 (4 * x + i)) (hb : b = μ.1 76 (μ.1 68 x) + i) (hm : ∀ j : Nat, 67 ≤ j → j ≤ 70 → m.1 j = μ.1 j) (e5 : m'.1 105 = m.1 105)
    (aw : (∀ p : Int, 0 ≤ p → p < 80 → (m'.1 86 (80 * p + b) = 2 ↔ m.1 86 (80 * p + b) = 2 ∨ ∃ k x, rRe m k a x ∧ m.1 67 x = 1 ∧ m.1 68 x = p ∧ x ≠ a) ∧ (1 ≤ m'.1 86 (80 * p + b) ↔ 1 ≤ m.1 86 (80 * p + b) ∨ ∃ k x, rRe m k a x ∧ m.1 67 x = 1 ∧ m.1 68 x = p)) ∧ ∀ p q : Int, 0 ≤ p → p < 80 → 0 ≤ q → q < 80 → (0 ≤ m'.1 86 (80 * p + q) ∧ m'.1 86 (80 * p + q) ≤ 2) ∧ (q ≠ b → m'.1 86 (80 * p + q) = m.1 86 (80 * p + q))) : sWz μ m' T S x (i + 1) := fun p q p0 p1 q0 q1 => by
  have w := h p q p0 p1 q0 q1
  have g2 := aw.2 p q p0 p1 q0 q1
  rw [sQ_s x0 x1 hx hk i0 i1 e5, sQ_s x0 x1 hx hk i0 i1 e5]
  by_cases c : q = b
  · subst c
    have g1 := aw.1 p p0 p1
    rw [hm 67 (by decide) (by decide), hm 68 (by decide) (by decide)] at g1
    have rr : ∀ (k : Nat) (z : Int), rRe m k a z ↔ rRe μ k (μ.1 70 (4 * x + i)) z := fun k z => by rw [rRe_m (hm 69 (by decide) (by decide)) (hm 70 (by decide) (by decide)), ha]
    refine ⟨g1.1.trans ?_, g1.2.trans ?_, g2.1⟩
    · rw [w.1, or_assoc]
      refine or_congr Iff.rfl (or_congr Iff.rfl ⟨fun ⟨k, z, r1, r2, r3, r4⟩ => ⟨hb, k, z, (rr k z).mp r1, r2, r3, fun _ => by rw [← ha]; exact r4⟩, fun ⟨_, k, z, r1, r2, r3, r4⟩ => ⟨k, z, (rr k z).mpr r1, r2, r3, by rw [ha]; exact r4 trivial⟩⟩)
    · rw [w.2.1, or_assoc]
      refine or_congr Iff.rfl (or_congr Iff.rfl ⟨fun ⟨k, z, r1, r2, r3⟩ => ⟨hb, k, z, (rr k z).mp r1, r2, r3, fun f => f.elim⟩, fun ⟨_, k, z, r1, r2, r3, r4⟩ => ⟨k, z, (rr k z).mpr r1, r2, r3⟩⟩)
  · rw [g2.2 c]
    have no : ∀ g : Prop, ¬ (q = μ.1 76 (μ.1 68 x) + i ∧ ∃ k z, rRe μ k (μ.1 70 (4 * x + i)) z ∧ μ.1 67 z = 1 ∧ μ.1 68 z = p ∧ (g → z ≠ μ.1 70 (4 * x + i))) := fun g f => c (by rw [hb]; exact f.1)
    exact ⟨w.1.trans (or_congr Iff.rfl ⟨Or.inl, fun f => f.resolve_right (no _)⟩), w.2.1.trans (or_congr Iff.rfl ⟨Or.inl, fun f => f.resolve_right (no _)⟩), w.2.2⟩
theorem sWz_f {μ m m' : zM} {T S x i : Int} (h : sWz μ m T S x i) (e5 : m'.1 105 = m.1 105) (e86 : m'.1 86 = m.1 86) : sWz μ m' T S x i := by
  unfold sWz sQ at h ⊢
  rw [e5, e86]
  exact h
theorem sWz_e {μ m : zM} {T S x i : Int} (h : sWz μ m T S x i) (hi : μ.1 69 x ≤ i) : sWz μ m T S (-1) 0 := fun p q p0 p1 q0 q1 => by
  have w := h p q p0 p1 q0 q1
  have e : ∀ g : Prop, sQ μ m T S x i p q g ↔ sQ μ m T S (-1) 0 p q g := fun g => ⟨fun ⟨y, l, k, z, hy, e, k0, hl, hx, r⟩ => ⟨y, l, k, z, hy, e, k0, hl, fun f => by omega, r⟩, fun ⟨y, l, k, z, hy, e, k0, hl, hx, r⟩ => ⟨y, l, k, z, hy, e, k0, hl, fun f => by have := hl.2; rw [f] at this; omega, r⟩⟩
  rw [← e, ← e]
  exact w
/-- nothing is heaped: all ways of the TYPE are told -/
theorem sWz_fin {μ m : zM} {T S a : Int} (hJ : sJ μ m T a S 0 (-1) 0) (h : sWz μ m T S (-1) 0) (wf : rLo μ 0 T) (a0 : 0 ≤ a) (a1 : a < T) : ∀ p q : Int, 0 ≤ p → p < 80 → 0 ≤ q → q < 80 → (m.1 86 (80 * p + q) = 2 ↔ μ.1 86 (80 * p + q) = 2 ∨ rWy μ (μ.1 76) a p q True) ∧ (1 ≤ m.1 86 (80 * p + q) ↔ 1 ≤ μ.1 86 (80 * p + q) ∨ rWy μ (μ.1 76) a p q False) ∧ 0 ≤ m.1 86 (80 * p + q) ∧ m.1 86 (80 * p + q) ≤ 2 := fun p q p0 p1 q0 q1 => by
  have w := h p q p0 p1 q0 q1
  have F := sJ_fin hJ wf (Int.le_refl _) a0 a1
  have e : ∀ g : Prop, sQ μ m T S (-1) 0 p q g ↔ rWy μ (μ.1 76) a p q g := fun g => by
    constructor
    · rintro ⟨y, l, k, z, hy, e, k0, hl, hx, eq, r1, r2, r3, r4⟩
      obtain ⟨K, hK⟩ := (F y).mp ⟨hy.1, hy.2, e⟩
      exact ⟨K, y, l, k, z, hK, k0, hl, eq, r1, r2, r3, r4⟩
    · rintro ⟨K, y, l, k, z, hK, k0, hl, eq, r1, r2, r3, r4⟩
      have f := (F y).mpr ⟨K, hK⟩
      exact ⟨y, l, k, z, ⟨f.1, f.2.1⟩, f.2.2, k0, hl, fun c => by omega, eq, r1, r2, r3, r4⟩
  rw [← e, ← e]
  exact w
