/-! ### findWays: all TYPES told -/
theorem rWy_m {μ m : zM} {x p q : Int} {g : Prop} (h67 : m.1 67 = μ.1 67) (h68 : m.1 68 = μ.1 68) (h69 : m.1 69 = μ.1 69) (h70 : m.1 70 = μ.1 70) (h76 : m.1 76 = μ.1 76) : rWy m (m.1 76) x p q g ↔ rWy μ (μ.1 76) x p q g := by
  unfold rWy
  rw [h67, h68, h69, h70, h76]
  constructor
  · rintro ⟨k, y, i, j, z, r1, a, b, c, r2, d⟩
    exact ⟨k, y, i, j, z, (rRe_m h69 h70 k x y).mp r1, a, b, c, (rRe_m h69 h70 j _ z).mp r2, d⟩
  · rintro ⟨k, y, i, j, z, r1, a, b, c, r2, d⟩
    exact ⟨k, y, i, j, z, (rRe_m h69 h70 k x y).mpr r1, a, b, c, (rRe_m h69 h70 j _ z).mpr r2, d⟩
def fG (μ m : zM) (D : Int → Prop) : Prop := ∀ p q : Int, 0 ≤ p → p < 80 → 0 ≤ q → q < 80 → (m.1 86 (80 * p + q) = 2 ↔ ∃ x, D x ∧ rWy μ (μ.1 76) x p q True) ∧ (1 ≤ m.1 86 (80 * p + q) ↔ ∃ x, D x ∧ rWy μ (μ.1 76) x p q False) ∧ 0 ≤ m.1 86 (80 * p + q) ∧ m.1 86 (80 * p + q) ≤ 2
theorem fG_eq {μ m : zM} {D D' : Int → Prop} (h : fG μ m D) (e : ∀ x, D' x ↔ D x) : fG μ m D' := by
  have : D' = D := funext fun x => propext (e x)
  rw [this]; exact h
theorem fG_f {μ m m' : zM} {D : Int → Prop} (h : fG μ m D) (e86 : m'.1 86 = m.1 86) : fG μ m' D := fun p q p0 p1 q0 q1 => by rw [e86]; exact h p q p0 p1 q0 q1
theorem fG_r {μ m : zM} {D : Int → Prop} (h : fG μ m D) : ∀ p q : Int, 0 ≤ p → p < 80 → 0 ≤ q → q < 80 → 0 ≤ m.1 86 (80 * p + q) ∧ m.1 86 (80 * p + q) ≤ 2 := fun p q p0 p1 q0 q1 => (h p q p0 p1 q0 q1).2.2
theorem fG_0 {μ m : zM} (h : ∀ w : Int, 0 ≤ w → w < 6400 → m.1 86 w = 0) : fG μ m (fun _ => False) := fun p q p0 p1 q0 q1 => by
  rw [h (80 * p + q) (by omega) (by omega)]
  exact ⟨⟨fun e => by omega, fun ⟨x, d, _⟩ => d.elim⟩, ⟨fun e => by omega, fun ⟨x, d, _⟩ => d.elim⟩, by omega, by omega⟩
theorem fG_add {μ m m' : zM} {D D' : Int → Prop} {x : Int} (h : fG μ m D) (hm : ∀ j : Nat, (67 ≤ j ∧ j ≤ 70) ∨ j = 76 → m.1 j = μ.1 j) (w : ∀ p q : Int, 0 ≤ p → p < 80 → 0 ≤ q → q < 80 → (m'.1 86 (80 * p + q) = 2 ↔ m.1 86 (80 * p + q) = 2 ∨ rWy m (m.1 76) x p q True) ∧ (1 ≤ m'.1 86 (80 * p + q) ↔ 1 ≤ m.1 86 (80 * p + q) ∨ rWy m (m.1 76) x p q False) ∧ 0 ≤ m'.1 86 (80 * p + q) ∧ m'.1 86 (80 * p + q) ≤ 2) (e : ∀ y, D' y ↔ D y ∨ y = x) : fG μ m' D' := fun p q p0 p1 q0 q1 => by
  have a := h p q p0 p1 q0 q1
  have b := w p q p0 p1 q0 q1
  have ex : ∀ g : Prop, (∃ y, D' y ∧ rWy μ (μ.1 76) y p q g) ↔ (∃ y, D y ∧ rWy μ (μ.1 76) y p q g) ∨ rWy m (m.1 76) x p q g := fun g => by
    rw [rWy_m (hm 67 (by omega)) (hm 68 (by omega)) (hm 69 (by omega)) (hm 70 (by omega)) (hm 76 (by omega))]
    constructor
    · rintro ⟨y, d, r⟩
      rcases (e y).mp d with d | rfl
      · exact Or.inl ⟨y, d, r⟩
      · exact Or.inr r
    · rintro (⟨y, d, r⟩ | r)
      · exact ⟨y, (e y).mpr (Or.inl d), r⟩
      · exact ⟨x, (e x).mpr (Or.inr rfl), r⟩
  rw [ex, ex]
  exact ⟨b.1.trans (or_congr a.1 Iff.rfl), b.2.1.trans (or_congr a.2.1 Iff.rfl), b.2.2⟩
/-- the TYPES told by the classes before c, by c up to i; by the PARAMETERS before b, by b up to j -/
def fT (μ : zM) (c i b j x : Int) : Prop := (∃ c' i' : Int, 0 ≤ c' ∧ (0 ≤ i' ∧ i' < μ.1 79 c') ∧ (c' < c ∨ (c' = c ∧ i' < i)) ∧ x = μ.1 78 (4 * c' + i')) ∨ ∃ p j' : Int, 0 ≤ p ∧ (0 ≤ j' ∧ j' < μ.1 84 p) ∧ (p < b ∨ (p = b ∧ j' < j)) ∧ x = μ.1 83 (2 * p + j')
theorem fT_0 {μ : zM} {x : Int} : fT μ 0 0 0 0 x ↔ False := by
  constructor
  · rintro (⟨c, i, a, b, d, -⟩ | ⟨p, j, a, b, d, -⟩) <;> omega
  · exact False.elim
theorem fT_s {μ : zM} {c i x : Int} (c0 : 0 ≤ c) (i0 : 0 ≤ i) (i1 : i < μ.1 79 c) : fT μ c (i + 1) 0 0 x ↔ fT μ c i 0 0 x ∨ x = μ.1 78 (4 * c + i) := by
  constructor
  · rintro (⟨c', i', a, b, d, e⟩ | ⟨p, j, a, b, d, -⟩)
    · by_cases q : c' = c ∧ i' = i
      · right; rw [e, q.1, q.2]
      · exact Or.inl (Or.inl ⟨c', i', a, b, by omega, e⟩)
    · omega
  · rintro ((⟨c', i', a, b, d, e⟩ | ⟨p, j, a, b, d, -⟩) | e)
    · exact Or.inl ⟨c', i', a, b, by omega, e⟩
    · omega
    · exact Or.inl ⟨c, i, c0, ⟨i0, i1⟩, by omega, e⟩
theorem fT_c {μ : zM} {c i x : Int} (hi : μ.1 79 c ≤ i) : fT μ (c + 1) 0 0 0 x ↔ fT μ c i 0 0 x := by
  constructor
  · rintro (⟨c', i', a, b, d, e⟩ | ⟨p, j, a, b, d, -⟩)
    · refine Or.inl ⟨c', i', a, b, ?_, e⟩
      by_cases q : c' = c
      · subst q; right; omega
      · omega
    · omega
  · rintro (⟨c', i', a, b, d, e⟩ | ⟨p, j, a, b, d, -⟩)
    · exact Or.inl ⟨c', i', a, b, by omega, e⟩
    · omega
theorem fT_b {μ : zM} {c b j x : Int} (b0 : 0 ≤ b) (j0 : 0 ≤ j) (j1 : j < μ.1 84 b) : fT μ c 0 b (j + 1) x ↔ fT μ c 0 b j x ∨ x = μ.1 83 (2 * b + j) := by
  constructor
  · rintro (⟨c', i', a, b', d, e⟩ | ⟨p, j', a, b', d, e⟩)
    · exact Or.inl (Or.inl ⟨c', i', a, b', d, e⟩)
    · by_cases q : p = b ∧ j' = j
      · right; rw [e, q.1, q.2]
      · exact Or.inl (Or.inr ⟨p, j', a, b', by omega, e⟩)
  · rintro ((⟨c', i', a, b', d, e⟩ | ⟨p, j', a, b', d, e⟩) | e)
    · exact Or.inl ⟨c', i', a, b', d, e⟩
    · exact Or.inr ⟨p, j', a, b', by omega, e⟩
    · exact Or.inr ⟨b, j, b0, ⟨j0, j1⟩, by omega, e⟩
theorem fT_d {μ : zM} {c b j x : Int} (hj : μ.1 84 b ≤ j) : fT μ c 0 (b + 1) 0 x ↔ fT μ c 0 b j x := by
  constructor
  · rintro (⟨c', i', a, b', d, e⟩ | ⟨p, j', a, b', d, e⟩)
    · exact Or.inl ⟨c', i', a, b', d, e⟩
    · refine Or.inr ⟨p, j', a, b', ?_, e⟩
      by_cases q : p = b
      · subst q; right; omega
      · omega
  · rintro (⟨c', i', a, b', d, e⟩ | ⟨p, j', a, b', d, e⟩)
    · exact Or.inl ⟨c', i', a, b', d, e⟩
    · exact Or.inr ⟨p, j', a, b', by omega, e⟩
