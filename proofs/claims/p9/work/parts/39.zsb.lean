/-! ### one node is put anew -/
theorem zOld_l {μ m m' : zM} {n : Int} (h : ∀ j : Nat, 67 ≤ j → j ≤ 71 → m.1 j = μ.1 j) (ho : zOld m m' n) : zOld μ m' n := by
  intro x a b
  have := ho x a b
  rw [h 67 (by omega) (by omega), h 68 (by omega) (by omega), h 69 (by omega) (by omega), h 70 (by omega) (by omega), h 71 (by omega) (by omega)] at this
  exact this
theorem zlike_l {μ m : zM} {y k v n : Int} {p q : Int → Int} (h : ∀ j : Nat, 67 ≤ j → j ≤ 71 → m.1 j = μ.1 j) (hp : ∀ i : Int, 0 ≤ i → i < n → p i = q i) (hl : zlike m y k v n p) : zlike μ y k v n q := by
  unfold zlike at hl
  rw [h 67 (by omega) (by omega), h 68 (by omega) (by omega), h 69 (by omega) (by omega), h 70 (by omega) (by omega)] at hl
  exact ⟨hl.1, hl.2.1, hl.2.2.1, fun i a b => (hl.2.2.2 i a b).trans (hp i a b)⟩
theorem zlike_r {m : zM} {y k v n : Int} {p q : Int → Int} (hp : ∀ i : Int, 0 ≤ i → i < n → p i = q i) (hl : zlike m y k v n p) : zlike m y k v n q := ⟨hl.1, hl.2.1, hl.2.2.1, fun i a b => (hl.2.2.2 i a b).trans (hp i a b)⟩
/-- what becomes of node x -/
def zSo (μ μ' : zM) (lo x f n w v : Int) : Prop :=
  (μ.1 67 x = 1 ∧ ((0 ≤ μ.1 68 x - f ∧ μ.1 68 x - f < n ∧ v = μ.1 70 (4 * w + (μ.1 68 x - f))) ∨ ((μ.1 68 x - f < 0 ∨ n ≤ μ.1 68 x - f) ∧ v = x))) ∨
  (μ.1 67 x ≠ 1 ∧ μ.1 69 x = 0 ∧ v = x) ∨
  (μ.1 67 x ≠ 1 ∧ 0 < μ.1 69 x ∧ lo ≤ v ∧ zlike μ' v (μ.1 67 x) (μ.1 68 x) (μ.1 69 x) (fun i => μ.1 97 (μ.1 70 (4 * x + i))))
/-- whether a node was made for it -/
def zSn (μ μ' : zM) (lo x v : Int) : Prop :=
  zTop μ' = zTop μ ∨ (zTop μ' = zTop μ + 1 ∧ v = zTop μ ∧ μ.1 67 x ≠ 1 ∧ 0 < μ.1 69 x ∧ ∀ y : Int, lo ≤ y → y < zTop μ → ¬ zlike μ y (μ.1 67 x) (μ.1 68 x) (μ.1 69 x) (fun i => μ.1 97 (μ.1 70 (4 * x + i))))
