/-! ### the law's loop: where it stands between calls -/
def lqv (i : Int32) : List (Nat × Value) := [(4, .int i), (3, .ref 108), (2, .ref 66), (1, .ref 0), (0, .ref 1048576)]
/-- the tapes are alike, byte by byte -/
def lT (μ : zM) : Prop := ∀ i : Int, 0 ≤ i → i < μ.1 1 ((4 : Nat) : Int) → μ.1 2 i = μ.1 85 i ∧ 0 ≤ μ.1 2 i ∧ μ.1 2 i ≤ 255
theorem lT_0 {μ : zM} (h : μ.1 1 ((4 : Nat) : Int) = 0) : lT μ := fun i a b => by omega
theorem lT_k {μ μ1 μ2 : zM} (h : lT μ) (hk : lK μ μ1) (h2 : μ1.1 2 = μ.1 2) (hF : lF μ1 μ2) (h85 : μ2.1 85 = μ1.1 85) (hl : μ1.1 1 ((4 : Nat) : Int) = μ.1 1 ((4 : Nat) : Int)) : lT μ2 := fun i a b => by
  rw [hF.2.2.2.2.2.1, h2, h85, hk.1 85 (by decide) (by decide)]
  exact h i a (by rw [hF.1, hl] at b; exact b)
def lI (k : Nat) (μ : zM) (w : mW) : Prop := zRep μ w ∧ zRI μ (1000000 * ((k : Int) + 1)) ∧ μ.1 66 ((29 : Nat) : Int) = μ.1 1 ((4 : Nat) : Int) ∧ (0 ≤ μ.1 1 ((4 : Nat) : Int) ∧ μ.1 1 ((4 : Nat) : Int) ≤ 800) ∧ μ.1 2000000 0 - zL μ ≤ 109 + k ∧ μ.1 2000000 1 - zS μ ≤ 400000 + 6 * k ∧ lT μ ∧ lB μ
theorem lI_len {k : Nat} {μ : zM} {w : mW} (h : lI k μ w) (hk : k ≤ 600) : w.1.length < 1000000 := by
  have h1 := h.1.2.1.1
  have h2 := (zL_le h.1).1
  have h3 := h.2.2.2.2.1
  omega
theorem zS_le {μ : zM} {w : mW} (hw : zRep μ w) : zS μ ≤ 707200 := by
  have key : ∀ t : Nat, (t = 26 ∨ t = 44) → 1024 ≤ μ.2 (μ.1 t 5).toNat ∧ μ.2 (μ.1 t 5).toNat ≤ 88400 := by
    intro t ht
    obtain ⟨c, q, fs, rfl, fl, f1, f2, f3⟩ := hw.2.2.1 t (.inl 1) (by rcases ht with rfl | rfl <;> rfl)
    cases (show some zfl1 = some fl from f1)
    have len : fs.length = 7 := f2
    obtain ⟨v5, hv5⟩ : ∃ v, fs[5]? = some v := ⟨fs[5], by simp [len]⟩
    obtain ⟨j, -, -, e3, e4⟩ := f3 5 (.inr (.inr (.inr 1000))) v5 rfl hv5
    have e3 : (j : Int) = μ.1 t 5 := e3
    have e4 : zDyn μ j := e4.1
    rw [← e3]
    exact e4.2
  have k1 := key 26 (Or.inl rfl)
  have k2 := key 44 (Or.inr rfl)
  have f : ∀ n : Int, zFl n ≤ 88400 := fun n => by unfold zFl; split <;> omega
  have f1 := f (μ.2 (μ.1 26 5).toNat)
  have f2 := f (μ.2 (μ.1 44 5).toNat)
  unfold zS
  omega
/-- a call of the class, then one of the reference -/
theorem lI_next {k : Nat} {μ μ1 μ2 : zM} {w w2 : mW} {K' : Int} (h : lI k μ w) (hk : k ≤ 600) (h1 : lK μ μ1) (h2 : lF μ1 μ2) (hw2 : zRep μ2 w2) (hr : zRI μ2 K') (hK' : K' ≤ 1000000 * ((k : Int) + 2)) (h29 : μ2.1 66 ((29 : Nat) : Int) = μ2.1 1 ((4 : Nat) : Int)) (hl : 0 ≤ μ2.1 1 ((4 : Nat) : Int) ∧ μ2.1 1 ((4 : Nat) : Int) ≤ 800) (hT : lT μ2) (hB : lB μ2) : lI (k + 1) μ2 w2 := by
  obtain ⟨f1, f2, f3, f4, f5, -⟩ := h2
  have e1 : zL μ2 = zL μ1 := by unfold zL; rw [f2, f3, f5]
  have e2 : zS μ2 = zS μ1 := by unfold zS; rw [f2, f3, f5]
  refine ⟨hw2, zRI_K hr (by push_cast; omega) (by push_cast; omega), h29, hl, ?_, ?_, hT, hB⟩
  · rw [e1, f4]
    have := h1.2.1
    have := h.2.2.2.2.1
    push_cast
    omega
  · rw [e2, f4]
    have := h1.2.2.1
    have := h.2.2.2.2.2.1
    push_cast
    omega
section LAWS
variable {g : zΓ} {d L : Nat} {xs : Nat → Int32}
theorem l_ix {i c L : Nat} (hi : i + c < L) (hL : L ≤ 2048) : mx_in (Int32.ofNat i + Int32.ofInt (c : Int)) L = true ∧ (Int32.ofNat i + Int32.ofInt (c : Int)).toNatClampNeg = i + c := by
  have e : Int32.ofNat i + Int32.ofInt (c : Int) = Int32.ofNat (i + c) := by
    show Int32.ofInt (i : Int) + Int32.ofInt (c : Int) = Int32.ofInt ((i + c : Nat) : Int)
    rw [z_add]
    push_cast
    rfl
  rw [e]
  have h1 : (Int32.ofNat (i + c)).toNatClampNeg = i + c := nI_clamp (by omega)
  refine ⟨?_, h1⟩
  have h4 : (Int32.ofNat (i + c)).toInt = ((i + c : Nat) : Int) := nI_toInt (by omega)
  unfold mx_in
  rw [h4]
  simp only [Bool.and_eq_true, decide_eq_true_eq]
  omega
/-- a number of the script is put on the stack -/
theorem zl_arg {i c pc : Nat} {lv : List (Nat × Value)} {st : List Value} {w : mW} (hg : zg g) (hxs : ∀ q, q < L → g.2.2.2.2.2.1 (mx_E + 1 + q) = .int (xs q)) (hL : L ≤ 2048) (hi : i + c < L) (v0 : lv.lookup 0 = some (.ref 1048576)) (v4 : lv.lookup 4 = some (.int (Int32.ofNat i)))
    (l0 : mt_L_law.2.2.2.2.1.lookup pc = some (.aload_n 0)) (l1 : mt_L_law.2.2.2.2.1.lookup (pc + 1) = some (.iload 4)) (l3 : mt_L_law.2.2.2.2.1.lookup (pc + 3) = some (.iconst (c : Int))) (l4 : mt_L_law.2.2.2.2.1.lookup (pc + 4) = some .iadd) (l5 : mt_L_law.2.2.2.2.1.lookup (pc + 5) = some .iaload) :
    zG g d mt_L_law (some L) (pc, lv, st, w) (pc + 6, lv, .int (xs (i + c)) :: st, w) := by
  have hW := mw_L_law
  have s0 : zG g d mt_L_law (some L) (pc, lv, st, w) (pc + 1, lv, .ref 1048576 :: st, w) := zl_loc (i := .aload_n 0) hg hW l0 rfl (by show (match lv.lookup 0 with | some v => if mx_isA v then some (lv, v :: st) else none | none => none) = _; rw [v0]; rfl)
  have s1 : zG g d mt_L_law (some L) (pc + 1, lv, .ref 1048576 :: st, w) (pc + 1 + 2, lv, .int (Int32.ofNat i) :: .ref 1048576 :: st, w) := zl_loc (i := .iload 4) hg hW l1 rfl (by show (match lv.lookup 4 with | some v => if mx_isI v then some (lv, v :: .ref 1048576 :: st) else none | none => none) = _; rw [v4]; rfl)
  have s2 : zG g d mt_L_law (some L) (pc + 3, lv, .int (Int32.ofNat i) :: .ref 1048576 :: st, w) (pc + 3 + 1, lv, .int (Int32.ofInt (c : Int)) :: .int (Int32.ofNat i) :: .ref 1048576 :: st, w) := zl_pure (i := .iconst (c : Int)) hg hW l3 rfl
  have s3 : zG g d mt_L_law (some L) (pc + 4, lv, .int (Int32.ofInt (c : Int)) :: .int (Int32.ofNat i) :: .ref 1048576 :: st, w) (pc + 4 + 1, lv, .int (Int32.ofNat i + Int32.ofInt (c : Int)) :: .ref 1048576 :: st, w) := zl_pure (i := .iadd) hg hW l4 rfl
  obtain ⟨h1, h2⟩ := l_ix hi hL
  have s4 : zG g d mt_L_law (some L) (pc + 5, lv, .int (Int32.ofNat i + Int32.ofInt (c : Int)) :: .ref 1048576 :: st, w) (pc + 5 + 1, lv, .int (xs (i + c)) :: st, w) := zl_script hg hW l5 h1 (by rw [h2]; exact hxs _ hi)
  exact zG_trans s0 (zG_trans s1 (zG_trans s2 (zG_trans s3 s4)))
end LAWS
