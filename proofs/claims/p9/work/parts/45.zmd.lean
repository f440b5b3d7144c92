/-! ### a node is there -/
def zMd (μ μ' : zM) (lo k v n : Int) (p : Int → Int) (x : Int) : Prop := zND μ' lo ∧ zlike μ' x k v n p ∧ ((zTop μ' = zTop μ ∧ lo ≤ x ∧ x < zTop μ) ∨ (zTop μ' = zTop μ + 1 ∧ x = zTop μ ∧ ∀ y : Int, lo ≤ y → y < zTop μ → ¬ zlike μ y k v n p)) ∧ zOld μ μ' (zTop μ)
theorem zMd_l {μ m m' : zM} {lo k v n x : Int} {p q : Int → Int} (h : ∀ j : Nat, j ≠ 74 → m.1 j = μ.1 j) (hp : ∀ i : Int, 0 ≤ i → i < n → p i = q i) (h0 : zND m' lo) (h1 : zlike m' x k v n p) (h2 : (zTop m' = zTop m ∧ lo ≤ x ∧ x < zTop m) ∨ (zTop m' = zTop m + 1 ∧ x = zTop m ∧ ∀ y : Int, lo ≤ y → y < zTop m → ¬ zlike m y k v n p)) (h3 : zOld m m' (zTop m)) : zMd μ m' lo k v n q x := by
  have ht : zTop m = zTop μ := congrFun (h 66 (by decide)) _
  refine ⟨h0, zlike_r hp h1, ?_, zOld_l (fun j a b => h j (by omega)) (by rw [← ht]; exact h3)⟩
  rw [ht] at h2
  rcases h2 with c | ⟨c1, c2, c3⟩
  · exact Or.inl c
  · refine Or.inr ⟨c1, c2, fun y a b hl => c3 y a b ?_⟩
    exact zlike_l (fun j a b => (h j (by omega)).symm) (fun i a b => (hp i a b).symm) hl
