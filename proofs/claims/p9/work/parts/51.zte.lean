/-! ### types read one behind the other -/
theorem zTE_t {a b c : zM} {lo C Pn F : Int} {cf : Int → Int} (h1 : zTE a b lo C Pn F cf) (h2 : zTE b c lo C Pn F cf) : zTE a c lo C Pn F cf := by
  obtain ⟨⟨a1, a2, a3, a4, a5⟩, a6, a7⟩ := h1
  obtain ⟨⟨b1, b2, b3, b4, b5⟩, b6, b7⟩ := h2
  have e : zTn a c = zTn a b + zTn b c := by unfold zTn; omega
  exact ⟨⟨b1, b2, zOld_t a3 b3 a4, by omega, fun q => b5 (a5 q)⟩, by omega, by omega⟩
theorem zTE_r {μ : zM} {lo C Pn F : Int} {cf : Int → Int} (h : zND μ lo) (hw : zWf μ lo (zTop μ) C Pn F cf) : zTE μ μ lo C Pn F cf :=
  ⟨⟨h, hw, zOld_r _ _, Int.le_refl _, id⟩, by unfold zTn; omega, by unfold zTn; omega⟩
theorem zTE_pre {μ m : zM} {lo C Pn F : Int} {cf : Int → Int} {a b c d : Int} (h : zTE μ m lo C Pn F cf) (e1 : m.1 66 ((8 : Nat) : Int) = a) (e2 : m.1 66 ((38 : Nat) : Int) = b) (e3 : μ.1 66 ((8 : Nat) : Int) = c) (e4 : μ.1 66 ((38 : Nat) : Int) = d) (h1 : c - d ≤ 19699) : a - b ≤ 19699 := by
  have h3 := h.2.1
  unfold zTn zTop at h3
  omega
/-- a type: a node that is no '?' -/
def zTy (m : zM) (x : Int) : Prop := (0 ≤ x ∧ x < zTop m) ∧ m.1 67 x ≤ 2
theorem zTy_old {μ m : zM} {x : Int} (h : zTy μ x) (ho : zOld μ m (zTop μ)) (ht : zTop μ ≤ zTop m) : zTy m x :=
  ⟨⟨h.1.1, by have := h.1.2; omega⟩, by rw [(ho x h.1.1 h.1.2).1]; exact h.2⟩
theorem zTy_same {m m' : zM} {x : Int} (h : zTy m x) (h67 : m'.1 67 = m.1 67) (ht : m'.1 66 ((8 : Nat) : Int) = m.1 66 ((8 : Nat) : Int)) : zTy m' x := by
  have ht' : zTop m' = zTop m := ht
  unfold zTy
  rw [h67, ht']
  exact h
