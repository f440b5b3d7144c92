/-! ### addWays: what is stamped, what is piled -/
def rIn (m : zM) (S n c : Int) : Prop := m.1 98 c = S ∨ ∃ j : Int, (0 ≤ j ∧ j < n) ∧ m.1 99 j = c
/-- ways to q: from p, by a PARAMETER node that is stamped -/
def rP1 (μ m : zM) (T S p : Int) : Prop := ∃ y : Int, (0 ≤ y ∧ y < T) ∧ m.1 98 y = S ∧ μ.1 67 y = 1 ∧ μ.1 68 y = p
def rP2 (μ m : zM) (T S a p : Int) : Prop := ∃ y : Int, (0 ≤ y ∧ y < T) ∧ m.1 98 y = S ∧ μ.1 67 y = 1 ∧ μ.1 68 y = p ∧ y ≠ a
def rWz (μ m : zM) (T S a b : Int) : Prop := (∀ p : Int, 0 ≤ p → p < 80 → (m.1 86 (80 * p + b) = 2 ↔ μ.1 86 (80 * p + b) = 2 ∨ rP2 μ m T S a p) ∧ (1 ≤ m.1 86 (80 * p + b) ↔ 1 ≤ μ.1 86 (80 * p + b) ∨ rP1 μ m T S p)) ∧ (∀ p q : Int, 0 ≤ p → p < 80 → 0 ≤ q → q < 80 → (0 ≤ m.1 86 (80 * p + q) ∧ m.1 86 (80 * p + q) ≤ 2) ∧ (q ≠ b → m.1 86 (80 * p + q) = μ.1 86 (80 * p + q)))
def rJ (μ m : zM) (T a S n x i : Int) : Prop := (∀ y : Int, 0 ≤ y → y < T → m.1 98 y = S → (∃ k, rRe μ k a y) ∧ ∀ l : Int, 0 ≤ l → l < μ.1 69 y → (y = x → l < i) → rIn m S n (μ.1 70 (4 * y + l))) ∧ (∀ j : Int, 0 ≤ j → j < n → ∃ k, rRe μ k a (m.1 99 j)) ∧ rIn m S n a
theorem rRe_c {m : zM} {k : Nat} {x y i : Int} (h : rRe m k x y) (i0 : 0 ≤ i) (i1 : i < m.1 69 y) : ∃ k', rRe m k' x (m.1 70 (4 * y + i)) :=
  ⟨k + 1, rRe_t k 1 x y _ h (Or.inr ⟨i, i0, i1, rfl⟩)⟩
theorem rJ_0 {μ m : zM} {T a S : Int} (hS : ∀ y : Int, 0 ≤ y → y < T → m.1 98 y ≠ S) (h0 : m.1 99 0 = a) : rJ μ m T a S 1 (-1) 0 := by
  refine ⟨fun y y0 y1 e => absurd e (hS y y0 y1), fun j j0 j1 => ⟨0, ?_⟩, Or.inr ⟨0, by omega, h0⟩⟩
  rw [show j = 0 by omega, h0]
  exact rRe_0
/-- the top of the pile was seen -/
theorem rJ_pop {μ m : zM} {T a S n : Int} (h : rJ μ m T a S n (-1) 0) (hs : m.1 98 (m.1 99 (n - 1)) = S) : rJ μ m T a S (n - 1) (-1) 0 := by
  have down : ∀ c : Int, rIn m S n c → rIn m S (n - 1) c := fun c hc => by
    rcases hc with hc | ⟨j, hj, e⟩
    · exact Or.inl hc
    · by_cases q : j = n - 1
      · subst q; exact Or.inl (by rw [← e]; exact hs)
      · exact Or.inr ⟨j, by omega, e⟩
  exact ⟨fun y y0 y1 e => ⟨(h.1 y y0 y1 e).1, fun l l0 l1 hl => down _ ((h.1 y y0 y1 e).2 l l0 l1 hl)⟩, fun j j0 j1 => h.2.1 j j0 (by omega), down _ h.2.2⟩
/-- it was not: it is stamped now -/
theorem rJ_new {μ m m' : zM} {T a S n y : Int} (h : rJ μ m T a S n (-1) 0) (hn : 1 ≤ n) (hy : y = m.1 99 (n - 1)) (y0 : 0 ≤ y) (y1 : y < T) (e98 : ∀ k : Int, m'.1 98 k = if k = y then S else m.1 98 k) (e99 : m'.1 99 = m.1 99) : rJ μ m' T a S (n - 1) y 0 := by
  have down : ∀ c : Int, rIn m S n c → rIn m' S (n - 1) c := fun c hc => by
    rcases hc with hc | ⟨j, hj, e⟩
    · refine Or.inl ?_
      rw [e98]
      split
      · rfl
      · exact hc
    · by_cases q : j = n - 1
      · subst q; exact Or.inl (by rw [e98, if_pos (by rw [hy, e])])
      · exact Or.inr ⟨j, by omega, by rw [e99]; exact e⟩
  refine ⟨fun z z0 z1 e => ?_, fun j j0 j1 => by rw [e99]; exact h.2.1 j j0 (by omega), down _ h.2.2⟩
  rw [e98] at e
  by_cases q : z = y
  · subst q
    refine ⟨by rw [hy]; exact h.2.1 (n - 1) (by omega) (by omega), fun l l0 l1 hl => ?_⟩
    have := hl rfl
    omega
  · rw [if_neg q] at e
    exact ⟨(h.1 z z0 z1 e).1, fun l l0 l1 hl => down _ ((h.1 z z0 z1 e).2 l l0 l1 (fun w => by omega))⟩
/-- one of its parts is piled -/
theorem rJ_push {μ m m' : zM} {T a S n x i : Int} (h : rJ μ m T a S n x i) (hn : 0 ≤ n) (i0 : 0 ≤ i) (i1 : i < μ.1 69 x) (x0 : 0 ≤ x) (x1 : x < T) (hx : m.1 98 x = S) (e98 : m'.1 98 = m.1 98) (e99 : ∀ k : Int, m'.1 99 k = if k = n then μ.1 70 (4 * x + i) else m.1 99 k) : rJ μ m' T a S (n + 1) x (i + 1) := by
  have up : ∀ c : Int, rIn m S n c → rIn m' S (n + 1) c := fun c hc => by
    rcases hc with hc | ⟨j, hj, e⟩
    · exact Or.inl (by rw [e98]; exact hc)
    · exact Or.inr ⟨j, by omega, by rw [e99, if_neg (by omega)]; exact e⟩
  refine ⟨fun y y0 y1 e => ?_, fun j j0 j1 => ?_, up _ h.2.2⟩
  · rw [e98] at e
    have w := h.1 y y0 y1 e
    refine ⟨w.1, fun l l0 l1 hl => ?_⟩
    by_cases q : y = x ∧ l = i
    · refine Or.inr ⟨n, by omega, ?_⟩
      rw [e99, if_pos rfl, q.1, q.2]
    · exact up _ (w.2 l l0 l1 (fun hy => by have := hl hy; omega))
  · rw [e99]
    by_cases q : j = n
    · rw [if_pos q]
      obtain ⟨k, hk⟩ := (h.1 x x0 x1 hx).1
      exact rRe_c hk i0 i1
    · rw [if_neg q]
      exact h.2.1 j j0 (by omega)
theorem rJ_end {μ m : zM} {T a S n x i : Int} (h : rJ μ m T a S n x i) (hi : μ.1 69 x ≤ i) : rJ μ m T a S n (-1) 0 :=
  ⟨fun y y0 y1 e => ⟨(h.1 y y0 y1 e).1, fun l l0 l1 _ => (h.1 y y0 y1 e).2 l l0 l1 (fun w => by rw [w] at l1; omega)⟩, h.2.1, h.2.2⟩
/-- nothing is piled: all parts are stamped -/
theorem rJ_all {μ m : zM} {T lo a S : Int} (h : rJ μ m T a S 0 (-1) 0) (wf : rLo μ lo T) (l0 : 0 ≤ lo) (a0 : lo ≤ a) (a1 : a < T) : ∀ (k : Nat) (x y : Int), lo ≤ x → x < T → m.1 98 x = S → rRe μ k x y → m.1 98 y = S
  | 0, x, y, x0, x1, hx, r => by
    have r : x = y := r
    rw [← r]; exact hx
  | k + 1, x, y, x0, x1, hx, r => by
    rcases r with r | ⟨i, i0, i1, r⟩
    · rw [← r]; exact hx
    · have w := wf x x0 x1 i i0 i1
      have c := (h.1 x (by omega) x1 hx).2 i i0 i1 (fun q => by omega)
      rcases c with c | ⟨j, hj, -⟩
      · exact rJ_all h wf l0 a0 a1 k _ y w.1 w.2 c r
      · omega
theorem rJ_fin {μ m : zM} {T lo a S : Int} (h : rJ μ m T a S 0 (-1) 0) (wf : rLo μ lo T) (l0 : 0 ≤ lo) (a0 : lo ≤ a) (a1 : a < T) (y : Int) : (lo ≤ y ∧ y < T ∧ m.1 98 y = S) ↔ (∃ k, rRe μ k a y) := by
  have ha : m.1 98 a = S := by
    rcases h.2.2 with c | ⟨j, hj, -⟩
    · exact c
    · omega
  constructor
  · rintro ⟨y0, y1, e⟩
    exact (h.1 y (by omega) y1 e).1
  · rintro ⟨k, r⟩
    have := rRe_lo wf k a y a0 a1 r
    exact ⟨this.1, this.2, rJ_all h wf l0 a0 a1 k a y a0 a1 ha r⟩
theorem rP1_u {μ m m' : zM} {T S y p : Int} (y0 : 0 ≤ y) (y1 : y < T) (e98 : ∀ k : Int, m'.1 98 k = if k = y then S else m.1 98 k) : rP1 μ m' T S p ↔ rP1 μ m T S p ∨ (μ.1 67 y = 1 ∧ μ.1 68 y = p) := by
  constructor
  · rintro ⟨z, hz, e, k1, v1⟩
    rw [e98] at e
    by_cases q : z = y
    · subst q; exact Or.inr ⟨k1, v1⟩
    · rw [if_neg q] at e; exact Or.inl ⟨z, hz, e, k1, v1⟩
  · rintro (⟨z, hz, e, k1, v1⟩ | ⟨k1, v1⟩)
    · exact ⟨z, hz, by rw [e98]; split; rfl; exact e, k1, v1⟩
    · exact ⟨y, ⟨y0, y1⟩, by rw [e98, if_pos rfl], k1, v1⟩
theorem rP2_u {μ m m' : zM} {T S y a p : Int} (y0 : 0 ≤ y) (y1 : y < T) (e98 : ∀ k : Int, m'.1 98 k = if k = y then S else m.1 98 k) : rP2 μ m' T S a p ↔ rP2 μ m T S a p ∨ (μ.1 67 y = 1 ∧ μ.1 68 y = p ∧ y ≠ a) := by
  constructor
  · rintro ⟨z, hz, e, k1, v1, ne⟩
    rw [e98] at e
    by_cases q : z = y
    · subst q; exact Or.inr ⟨k1, v1, ne⟩
    · rw [if_neg q] at e; exact Or.inl ⟨z, hz, e, k1, v1, ne⟩
  · rintro (⟨z, hz, e, k1, v1, ne⟩ | ⟨k1, v1, ne⟩)
    · exact ⟨z, hz, by rw [e98]; split; rfl; exact e, k1, v1, ne⟩
    · exact ⟨y, ⟨y0, y1⟩, by rw [e98, if_pos rfl], k1, v1, ne⟩
theorem rWz_new {μ m m' : zM} {T S a b y : Int} (h : rWz μ m T S a b) (y0 : 0 ≤ y) (y1 : y < T) (hk : μ.1 67 y ≠ 1) (e98 : ∀ k : Int, m'.1 98 k = if k = y then S else m.1 98 k) (e86 : m'.1 86 = m.1 86) : rWz μ m' T S a b := by
  refine ⟨fun p p0 p1 => ?_, fun p q p0 p1 q0 q1 => by rw [e86]; exact h.2 p q p0 p1 q0 q1⟩
  have w := h.1 p p0 p1
  rw [e86, rP1_u y0 y1 e98, rP2_u y0 y1 e98]
  exact ⟨w.1.trans (or_congr Iff.rfl ⟨Or.inl, fun q => by rcases q with q | q; exact q; exact absurd q.1 hk⟩), w.2.trans (or_congr Iff.rfl ⟨Or.inl, fun q => by rcases q with q | q; exact q; exact absurd q.1 hk⟩)⟩
/-- a PARAMETER is stamped, and its way told -/
theorem rWz_par {μ m m' : zM} {T S a b y v : Int} (h : rWz μ m T S a b) (y0 : 0 ≤ y) (y1 : y < T) (hk : μ.1 67 y = 1) (hv : 0 ≤ μ.1 68 y ∧ μ.1 68 y < 80) (hb : 0 ≤ b ∧ b < 80) (e98 : ∀ k : Int, m'.1 98 k = if k = y then S else m.1 98 k) (e86 : ∀ k : Int, m'.1 86 k = if k = 80 * μ.1 68 y + b then v else m.1 86 k)
    (ev : (v = 2 ∧ (y ≠ a ∨ m.1 86 (80 * μ.1 68 y + b) = 2)) ∨ (v = 1 ∧ y = a ∧ m.1 86 (80 * μ.1 68 y + b) ≠ 2)) : rWz μ m' T S a b := by
  refine ⟨fun p p0 p1 => ?_, fun p q p0 p1 q0 q1 => ?_⟩
  · have w := h.1 p p0 p1
    rw [rP1_u y0 y1 e98, rP2_u y0 y1 e98, e86]
    by_cases c : p = μ.1 68 y
    · subst c
      rw [if_pos rfl]
      refine ⟨⟨fun e => ?_, fun e => ?_⟩, ⟨fun _ => Or.inr (Or.inr ⟨hk, rfl⟩), fun _ => by omega⟩⟩
      · rcases ev with ⟨-, f | f⟩ | ⟨f, -⟩
        · exact Or.inr (Or.inr ⟨hk, rfl, f⟩)
        · rcases w.1.mp f with q | q
          · exact Or.inl q
          · exact Or.inr (Or.inl q)
        · omega
      · rcases ev with ⟨f, -⟩ | ⟨f, g, n2⟩
        · exact f
        · exfalso
          rcases e with q | q | q
          · exact n2 (w.1.mpr (Or.inl q))
          · exact n2 (w.1.mpr (Or.inr q))
          · exact q.2.2 g
    · rw [if_neg (by omega)]
      exact ⟨w.1.trans (or_congr Iff.rfl ⟨Or.inl, fun q => by rcases q with q | q; exact q; exact absurd q.2.1.symm c⟩), w.2.trans (or_congr Iff.rfl ⟨Or.inl, fun q => by rcases q with q | q; exact q; exact absurd q.2.symm c⟩)⟩
  · have w := h.2 p q p0 p1 q0 q1
    rw [e86]
    by_cases c : 80 * p + q = 80 * μ.1 68 y + b
    · rw [if_pos c]
      exact ⟨by omega, fun n => by omega⟩
    · rw [if_neg c]; exact w
theorem rWz_0 {μ m : zM} {T S a b : Int} (hS : ∀ y : Int, 0 ≤ y → y < T → m.1 98 y ≠ S) (e86 : m.1 86 = μ.1 86) (hr : ∀ p q : Int, 0 ≤ p → p < 80 → 0 ≤ q → q < 80 → 0 ≤ μ.1 86 (80 * p + q) ∧ μ.1 86 (80 * p + q) ≤ 2) : rWz μ m T S a b := by
  refine ⟨fun p p0 p1 => ?_, fun p q p0 p1 q0 q1 => by rw [e86]; exact ⟨hr p q p0 p1 q0 q1, fun _ => rfl⟩⟩
  rw [e86]
  exact ⟨⟨Or.inl, fun h => by rcases h with h | ⟨y, hy, e, -⟩; exact h; exact absurd e (hS y hy.1 hy.2)⟩, ⟨Or.inl, fun h => by rcases h with h | ⟨y, hy, e, -⟩; exact h; exact absurd e (hS y hy.1 hy.2)⟩⟩
theorem rWz_f {μ m m' : zM} {T S a b : Int} (h : rWz μ m T S a b) (e98 : m'.1 98 = m.1 98) (e86 : m'.1 86 = m.1 86) : rWz μ m' T S a b := by
  unfold rWz rP1 rP2 at h ⊢
  rw [e98, e86]
  exact h
theorem rLo_nd {μ : zM} {T : Int} (h : ∀ x : Int, 0 ≤ x → x < T → zNd μ x) : rLo μ 0 T := fun x x0 x1 i i0 i1 => by
  have w := (h x x0 x1).2.1 i i0 i1
  exact ⟨w.1, by omega⟩
theorem rWz_fin {μ m : zM} {T S a b : Int} (hJ : rJ μ m T a S 0 (-1) 0) (h : rWz μ m T S a b) (wf : rLo μ 0 T) (a0 : 0 ≤ a) (a1 : a < T) : (∀ p : Int, 0 ≤ p → p < 80 → (m.1 86 (80 * p + b) = 2 ↔ μ.1 86 (80 * p + b) = 2 ∨ ∃ k x, rRe μ k a x ∧ μ.1 67 x = 1 ∧ μ.1 68 x = p ∧ x ≠ a) ∧ (1 ≤ m.1 86 (80 * p + b) ↔ 1 ≤ μ.1 86 (80 * p + b) ∨ ∃ k x, rRe μ k a x ∧ μ.1 67 x = 1 ∧ μ.1 68 x = p)) ∧ ∀ p q : Int, 0 ≤ p → p < 80 → 0 ≤ q → q < 80 → (0 ≤ m.1 86 (80 * p + q) ∧ m.1 86 (80 * p + q) ≤ 2) ∧ (q ≠ b → m.1 86 (80 * p + q) = μ.1 86 (80 * p + q)) := by
  refine ⟨fun p p0 p1 => ?_, h.2⟩
  have w := h.1 p p0 p1
  have F := rJ_fin hJ wf (Int.le_refl _) a0 a1
  refine ⟨w.1.trans (or_congr Iff.rfl ?_), w.2.trans (or_congr Iff.rfl ?_)⟩
  · constructor
    · rintro ⟨y, hy, e, k1, v1, ne⟩
      obtain ⟨k, r⟩ := (F y).mp ⟨hy.1, hy.2, e⟩
      exact ⟨k, y, r, k1, v1, ne⟩
    · rintro ⟨k, y, r, k1, v1, ne⟩
      have q := (F y).mpr ⟨k, r⟩
      exact ⟨y, ⟨q.1, q.2.1⟩, q.2.2, k1, v1, ne⟩
  · constructor
    · rintro ⟨y, hy, e, k1, v1⟩
      obtain ⟨k, r⟩ := (F y).mp ⟨hy.1, hy.2, e⟩
      exact ⟨k, y, r, k1, v1⟩
    · rintro ⟨k, y, r, k1, v1⟩
      have q := (F y).mpr ⟨k, r⟩
      exact ⟨y, ⟨q.1, q.2.1⟩, q.2.2, k1, v1⟩
