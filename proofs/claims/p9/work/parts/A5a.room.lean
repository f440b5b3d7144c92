/-! ### makeRoom: a longer row -/
section ZRM
variable {g : zΓ} {d : Nat} {M : mM} {sc : Option Nat} {pc : Nat} {i : Instr} {lv lv' : List (Nat × Value)} {st st' : List Value} {w w' : mW}
theorem zl_pure (hg : zg g) (hW : mx_wok (fun a => mt_tab[a]?.map (fun M => M.1)) M) (hl : M.2.2.2.2.1.lookup pc = some i) (h : mx_pure i st = some st') : zG g d M sc (pc, lv, st, w) (pc + mx_len i, lv, st', w) :=
  zl_step (call := fun _ _ _ => none) hg hW (fun _ _ _ _ _ q => by cases q) (by unfold mx_step; dsimp only; rw [hl]; dsimp only; rw [h])
theorem zl_loc (hg : zg g) (hW : mx_wok (fun a => mt_tab[a]?.map (fun M => M.1)) M) (hl : M.2.2.2.2.1.lookup pc = some i) (h1 : mx_pure i st = none) (h : mx_loc M.2.2.1.1 i lv st = some (lv', st')) : zG g d M sc (pc, lv, st, w) (pc + mx_len i, lv', st', w) :=
  zl_step (call := fun _ _ _ => none) hg hW (fun _ _ _ _ _ q => by cases q) (by unfold mx_step; dsimp only; rw [hl]; dsimp only; rw [h1]; dsimp only; rw [h])
theorem zl_br {pc' : Nat} (hg : zg g) (hW : mx_wok (fun a => mt_tab[a]?.map (fun M => M.1)) M) (hl : M.2.2.2.2.1.lookup pc = some i) (h1 : mx_pure i st = none) (h2 : mx_loc M.2.2.1.1 i lv st = none) (h : mx_br g.1 pc i st = some (pc', st')) : zG g d M sc (pc, lv, st, w) (pc', lv, st', w) :=
  zl_step (call := fun _ _ _ => none) hg hW (fun _ _ _ _ _ q => by cases q) (by unfold mx_step; dsimp only; rw [hl]; dsimp only; rw [h1]; dsimp only; rw [h2]; dsimp only; rw [h])
theorem zl_mem (hg : zg g) (hW : mx_wok (fun a => mt_tab[a]?.map (fun M => M.1)) M) (hl : M.2.2.2.2.1.lookup pc = some i) (h1 : mx_pure i st = none) (h2 : mx_loc M.2.2.1.1 i lv st = none) (h3 : mx_br g.1 pc i st = none) (h : mx_mem g.1 sc M.2.2.2.2.2.2 M.2.2.2.2.2.1 i st w = some (st', w')) : zG g d M sc (pc, lv, st, w) (pc + mx_len i, lv, st', w') :=
  zl_step (call := fun _ _ _ => none) hg hW (fun _ _ _ _ _ q => by cases q) (by unfold mx_step; dsimp only; rw [hl]; dsimp only; rw [h1]; dsimp only; rw [h2]; dsimp only; rw [h3]; dsimp only; rw [h])
theorem zl_ivk {call : Nat → List Value → mW → Option (Option Value × mW)} (hg : zg g) (hW : mx_wok (fun a => mt_tab[a]?.map (fun M => M.1)) M) (hcall : ∀ a As w v w', call a As w = some (v, w') → zMet g d a As w v w') (hl : M.2.2.2.2.1.lookup pc = some i) (h1 : mx_pure i st = none) (h2 : mx_loc M.2.2.1.1 i lv st = none) (h3 : mx_br g.1 pc i st = none) (h4 : mx_mem g.1 sc M.2.2.2.2.2.2 M.2.2.2.2.2.1 i st w = none) (h : mx_ivk mt_tab call M.2.2.2.2.2.1 i st w = some (st', w')) : zG g d M sc (pc, lv, st, w) (pc + 3, lv, st', w') :=
  zl_step hg hW hcall (by unfold mx_step; dsimp only; rw [hl]; dsimp only; rw [h1]; dsimp only; rw [h2]; dsimp only; rw [h3]; dsimp only; rw [h4]; dsimp only; rw [h])
end ZRM
def mt_J7_copyOf : mM := (yJ7_copyOf_59c91, cJ7_copyOf_59c91, (3, (some (.array .int)), 2, 0, 1), (333, 332, 0, 151),
  [(0, .iload_n 1), (1, .aload_n 0), (2, .arraylength), (3, .if_icmp .ne 11), (14, .iload_n 1), (15, .newarray .int), (17, .astore_n 2), (18, .aload_n 0), (19, .iconst 0), (20, .aload_n 2), (21, .iconst 0), (22, .aload_n 0), (23, .arraylength), (24, .iload_n 1), (25, .invokestatic 304), (28, .invokestatic 150), (31, .aload_n 2), (32, .areturn)],
  [(304, 4, 194, 2, 341)], none)
set_option maxRecDepth 100000 in
theorem mk_J7_copyOf : (mt_J7_copyOf.2.2.2.2.1.all (mx_rowok cJ7_copyOf_59c91) && mt_J7_copyOf.2.2.2.2.2.1.all (mx_lkok (fun a => mt_nm[a]?) RJ7)) = true := by decide +kernel
theorem mw_J7_copyOf : mx_wok (fun a => mt_tab[a]?.map (fun M => M.1)) mt_J7_copyOf := by
  rw [mt_names]
  have h := mk_J7_copyOf
  simp only [Bool.and_eq_true, List.all_eq_true] at h
  exact ⟨h.1, h.2, fun ci q => by cases q⟩
theorem dJ7_copyOf_28 : decode cJ7_copyOf_59c91 28 = .ok (.invokestatic 150, 3) := by decide +kernel
theorem dJ7_copyOf_32 : decode cJ7_copyOf_59c91 32 = .ok (.areturn, 1) := by decide +kernel
/-- a row's first numbers, then noughts -/
def zmkr (a : mI) (n : Nat) : mI := match n with
  | 0 => (0, [])
  | k + 1 => mx_s (zmkr a k) k (mx_g a k)
theorem zmkr_g (a : mI) (n q : Nat) : mx_g (zmkr a n) q = if q < n then mx_g a q else 0 := by
  induction n with
  | zero => simp [zmkr, mx_g]
  | succ k ih =>
    unfold zmkr
    rw [mx_g_s, ih]
    by_cases h : q = k
    · subst h; simp
    · rw [if_neg h]
      by_cases h2 : q < k
      · rw [if_pos h2, if_pos (by omega)]
      · rw [if_neg h2, if_neg (by omega)]
set_option maxHeartbeats 4000000 in
/-- System.arraycopy of the whole first row into the second -/
theorem zcpa {g : zΓ} {d : Nat} {lv : List (Nat × Value)} {w : mW} {j J n1 n2 : Nat} {a : mI} (hj : w.1[j]? = some (.inr ((0, n1), .inl a))) (hJ : w.1[J]? = some (.inr ((0, n2), .inl (0, [])))) (h12 : n1 ≤ n2) (h2 : n2 ≤ 1000000) :
    zG g d mt_J7_copyOf none (28, lv, [.int (Int32.ofNat n1), .int 0, .ref J, .int 0, .ref j], w) (31, lv, [], (w.1.set J (.inr ((0, n2), .inl (zmkr a n1))), w.2)) := by
  refine ⟨⟨by simp, Nat.le_refl _⟩, ?_⟩
  intro p e R s m args below meth c H0 X
  obtain ⟨hx, hb, hml, hown, hE, hK, hr, hsc, hnm, hfr, hlo, hkb⟩ := X
  intro Q n0 z0 k0 k1 H ls locs hl hR hS hn0 hz0 hrc hrs kk
  intro T hT XX
  have hc0 : H[g.2.2.2.2.2.2 + j]? = some (vp_cell (g.2.2.2.2.1 0) (n1, .inl (mx_g a))) := hR.2.2 _ _ hj rfl
  have hc1 : H[g.2.2.2.2.2.2 + J]? = some (vp_cell (g.2.2.2.2.1 0) (n2, .inl (mx_g (0, [])))) := hR.2.2 _ _ hJ rfl
  obtain ⟨-, q0, hk0, cm0, hkk0⟩ := (hK.2 0 _ rfl).1 n1 (fun q => .int (mx_g a q))
  obtain ⟨-, q1, hk1, cm1, hkk1⟩ := (hK.2 0 _ rfl).1 n2 (fun q => .int (mx_g (0, []) q))
  have hcl : (Int32.ofNat n1).toNatClampNeg = n1 := nI_clamp (by omega)
  have hti : (Int32.ofNat n1).toInt = (n1 : Int) := nI_toInt (by omega)
  have z0c : (0 : Int32).toNatClampNeg = 0 := by decide
  have hnw : nativeFrameWords "java/lang/System" "arraycopy" 5 + 11 ≤ 40 := by decide +kernel
  obtain ⟨vm', X', step⟩ := XX.arraycopy hx hown (mx_at_use (q := 342) (w := .methodLink RJ7 150 arraycopyName) (by decide +kernel) hE) (mx_at_use (q := 344) (by decide +kernel) hE) (mx_at_use (q := 343) (by decide +kernel) hE) (mx_at_use (q := 153) (by decide +kernel) hE) (src := g.2.2.2.2.2.2 + j) (dst := g.2.2.2.2.2.2 + J) (cs := vp_cell (g.2.2.2.2.1 0) (n1, .inl (mx_g a))) (cd := vp_cell (g.2.2.2.2.1 0) (n2, .inl (mx_g (0, [])))) (srcPos := 0) (destPos := 0) (n := Int32.ofNat n1) (by rw [hT]; exact hc0) (by rw [hT]; exact hc1)
    (fun _ h => by cases h) (fun _ h => by cases h) (fun h => by cases h) (fun h => by cases h) hk0 hk1 hkk0 hkk1 (by show (refKind FieldType.int != refKind FieldType.int || !refKind FieldType.int && FieldType.int != FieldType.int) = false; decide) (by decide) (by decide) (nI_pos (by omega))
    (by rw [hti]; show ¬ _ > ((arrV (g.2.2.2.2.1 0) n1 (fun q => .int (mx_g a q))).slots.size : Int); rw [arrV_size]; show ¬ ((0 : Int32).toInt + (n1 : Int) > (n1 : Int)); rw [show (0 : Int32).toInt = 0 from by decide]; omega)
    (by rw [hti]; show ¬ _ > ((arrV (g.2.2.2.2.1 0) n2 (fun q => .int (mx_g (0, []) q))).slots.size : Int); rw [arrV_size]; show ¬ ((0 : Int32).toInt + (n1 : Int) > (n2 : Int)); rw [show (0 : Int32).toInt = 0 from by decide]; omega)
    (fun vm₁ _ i hi => by
      have e : (vp_cell (g.2.2.2.2.1 0) (n1, .inl (mx_g a))).slots.getD ((0 : Int32).toNatClampNeg + i) .null = .int (mx_g a ((0 : Int32).toNatClampNeg + i)) := by
        show (arrV (g.2.2.2.2.1 0) n1 (fun q => .int (mx_g a q))).slots.getD _ _ = _
        rw [Array.getD_eq_getD_getElem?, arrV_read _ _ (by rw [z0c]; omega)]
        rfl
      refine ⟨?_, ?_⟩
      · rw [e]; rfl
      · rw [e]; exact trivial)
    (g := F0 m 28 ls (([.int (Int32.ofNat n1), .int 0, .ref J, .int 0, .ref j] : List Value).map (mx_v g.2.2.2.2.2.1))) rfl (by rw [hml]; exact hl.1) (rest := []) (by show [Value.int _, .int 0, g.2.2.2.2.2.1 J, .int 0, g.2.2.2.2.2.1 j] = _; rw [hR.ref hr hj, hR.ref hr hJ]) (by rw [hb]; exact dJ7_copyOf_28) (by omega) (by show 2 * 0 + 0 + (nativeFrameWords "java/lang/System" "arraycopy" 5 + 11) ≤ _; omega)
  have e1 : copied (vp_cell (g.2.2.2.2.1 0) (n1, .inl (mx_g a))) (vp_cell (g.2.2.2.2.1 0) (n2, .inl (mx_g (0, [])))) 0 0 (Int32.ofNat n1) = vp_cell (g.2.2.2.2.1 0) (n2, .inl (va_cpy (mx_g a) (mx_g (0, [])) (0 : Int32).toNatClampNeg (0 : Int32).toNatClampNeg (Int32.ofNat n1).toNatClampNeg)) := va_copied (fun z => .int z) (g.2.2.2.2.1 0) (g.2.2.2.2.1 0) (mx_g a) (mx_g (0, [])) (by rw [z0c, hcl]; omega)
  have e2 : vp_cell (g.2.2.2.2.1 0) (n2, .inl (va_cpy (mx_g a) (mx_g (0, [])) (0 : Int32).toNatClampNeg (0 : Int32).toNatClampNeg (Int32.ofNat n1).toNatClampNeg)) = vp_cell (g.2.2.2.2.1 0) (n2, .inl (mx_g (zmkr a n1))) := by
    rw [vp_cell_i, vp_cell_i]
    unfold arrV
    congr 2
    funext q
    dsimp only
    rw [zmkr_g, z0c, hcl]
    simp [va_cpy, mx_g]
  rw [e1, e2] at X' step
  have hl1 : g.2.2.2.2.2.2 + J < H.size := (Array.getElem?_eq_some_iff.mp hc1).1
  have hheap : ((T.setVm vm').setCell (g.2.2.2.2.2.2 + J) (vp_cell (g.2.2.2.2.1 0) (n2, .inl (mx_g (zmkr a n1))))).heap = H.setIfInBounds (g.2.2.2.2.2.2 + J) (vp_cell (g.2.2.2.2.1 0) (n2, .inl (mx_g (zmkr a n1)))) := by rw [← hT]; rfl
  have oq : ∀ q : Nat, q ≠ g.2.2.2.2.2.2 + J → (H.setIfInBounds (g.2.2.2.2.2.2 + J) (vp_cell (g.2.2.2.2.1 0) (n2, .inl (mx_g (zmkr a n1)))))[q]? = H[q]? := fun q hq => by simp [Array.getElem?_setIfInBounds, Ne.symm hq]
  simp only [List.length_set] at kk
  obtain ⟨t, a1, b1⟩ := kk ls _ _ hl (hR.set hJ (by simp) oq (c' := .inr ((0, n2), .inl (zmkr a n1))) (show (H.setIfInBounds (g.2.2.2.2.2.2 + J) _)[g.2.2.2.2.2.2 + J]? = some _ by simp [Array.getElem?_setIfInBounds, hl1])) ⟨by simp; exact hS.1, fun q g1 g2 => by
      rw [oq q (fun e => g2 (by rw [e]; exact Nat.le_add_right _ J))]
      exact hS.2.1 q g1 g2, fun q hq => by
      rcases List.mem_append.mp hq with h | h
      · exact hS.2.2 q h
      · obtain ⟨z, -, hz⟩ := List.mem_map.mp h
        rw [← hz]
        exact Nat.le_add_right _ J⟩ _ hheap X'
  exact ⟨t, step t a1, b1⟩
theorem zmx_E {w : mW} {j : Nat} {c : mE} (h : w.1[j]? = some c) (hl : w.1.length < 1000000) : Nat.ble j mx_E = true ∧ Nat.beq j mx_E = false := by
  have := (List.getElem?_eq_some_iff.mp h).1
  refine ⟨Nat.ble_eq_true_of_le (by unfold mx_E; omega), ?_⟩
  cases hb : Nat.beq j mx_E with
  | false => rfl
  | true => have := Nat.eq_of_beq_eq_true hb; unfold mx_E at this; omega
set_option maxHeartbeats 4000000 in
/-- Arrays.copyOf to a longer row -/
theorem zcpo {g : zΓ} (hg : zg g) {w : mW} {j n1 n2 : Nat} {a : mI} (hj : w.1[j]? = some (.inr ((0, n1), .inl a))) (h1 : n1 < n2) (h2 : n2 ≤ 88400) (hwl : w.1.length < 1000000) :
    Met g.2.2.1 yJ7_copyOf_59c91 [Cond.code yJ7_copyOf_59c91 cJ7_copyOf_59c91 3 (some (.array .int))] { frames := 2, cells := 1, slots := n2, locals := 80 } (mx_Pc g.2.2.2.1 g.2.2.2.2.1 g.2.2.2.2.2.1 g.2.2.2.2.2.2 [.ref j, .int (Int32.ofNat n2)] w) (mx_Qc g.2.2.2.1 g.2.2.2.2.1 g.2.2.2.2.2.1 g.2.2.2.2.2.2 (some (.ref w.1.length)) (w.1 ++ [.inr ((0, n2), .inl (zmkr a n1))], w.2 + n2)) 1 n2 (fun q => g.2.2.2.2.2.2 ≤ q) := by
  have hW := mw_J7_copyOf
  obtain ⟨jA, jE⟩ := zmx_E hj hwl
  have hcl2 : (Int32.ofNat n2).toNatClampNeg = n2 := nI_clamp (by omega)
  have hp2 : ¬ (Int32.ofNat n2) < 0 := nI_pos (by omega)
  have hjl := (List.getElem?_eq_some_iff.mp hj).1
  obtain ⟨J, eJ⟩ : ∃ J, J = w.1.length := ⟨_, rfl⟩
  have JA : Nat.ble J mx_E = true := Nat.ble_eq_true_of_le (by unfold mx_E; omega)
  obtain ⟨n, en⟩ : ∃ n : Int32, n = Int32.ofNat n2 := ⟨_, rfl⟩
  obtain ⟨L, eL⟩ : ∃ L : Int32, L = Int32.ofNat n1 := ⟨_, rfl⟩
  have lN : (n : Int32).toInt = n2 := by rw [en]; exact nI_toInt (by omega)
  have lL : (L : Int32).toInt = n1 := by rw [eL]; exact nI_toInt (by omega)
  rw [← en] at hcl2 hp2 ⊢
  have s0 : zG g 1 mt_J7_copyOf none (0, [(0, .ref j), (1, .int n)], [], w) (0 + 1, [(0, .ref j), (1, .int n)], [.int n], w) := zl_loc (i := .iload_n 1) hg hW rfl rfl rfl
  have ld0 : ∀ st : List Value, mx_loc 3 (.aload_n 0) [(0, .ref j), (1, .int n)] st = some ([(0, .ref j), (1, .int n)], .ref j :: st) := fun st => by simp [mx_loc, List.lookup, mx_isA, jA]
  have s1 : zG g 1 mt_J7_copyOf none (1, [(0, .ref j), (1, .int n)], [.int n], w) (1 + 1, [(0, .ref j), (1, .int n)], [.ref j, .int n], w) := zl_loc (i := .aload_n 0) hg hW rfl rfl (ld0 _)
  have al : ∀ (w' : mW) (st : List Value), w'.1[j]? = some (.inr ((0, n1), .inl a)) → mx_mem g.1 none mt_J7_copyOf.2.2.2.2.2.2 mt_J7_copyOf.2.2.2.2.2.1 .arraylength (.ref j :: st) w' = some (.int L :: st, w') := fun w' st h => by
    rw [eL]
    simp only [mx_mem, jE, h]
    rfl
  have s2 : zG g 1 mt_J7_copyOf none (2, [(0, .ref j), (1, .int n)], [.ref j, .int n], w) (2 + 1, [(0, .ref j), (1, .int n)], [.int L, .int n], w) := zl_mem (i := .arraylength) hg hW rfl rfl rfl rfl (al w _ hj)
  have hne : mx_cmp .ne n L = true := by
    have : n ≠ L := fun q => by rw [q, lL] at lN; omega
    simp [mx_cmp, this]
  have s3 : zG g 1 mt_J7_copyOf none (3, [(0, .ref j), (1, .int n)], [.int L, .int n], w) (14, [(0, .ref j), (1, .int n)], [], w) := zl_br (i := .if_icmp .ne 11) hg hW rfl rfl rfl (by
    show (match mx_dec g.1 .ne (.int n) (.int L) with | some true => some (14, []) | some false => some (6, []) | none => none) = _
    simp [mx_dec, hne])
  have s14 : zG g 1 mt_J7_copyOf none (14, [(0, .ref j), (1, .int n)], [], w) (14 + 1, [(0, .ref j), (1, .int n)], [.int n], w) := zl_loc (i := .iload_n 1) hg hW rfl rfl rfl
  have hjw : (w.1 ++ [(.inr ((0, n2), .inl (0, [])) : mE)])[j]? = some (.inr ((0, n1), .inl a)) := by rw [List.getElem?_append_left hjl]; exact hj
  have hJw : (w.1 ++ [(.inr ((0, n2), .inl (0, [])) : mE)])[J]? = some (.inr ((0, n2), .inl (0, []))) := by rw [eJ]; simp
  obtain ⟨w1, ew1⟩ : ∃ w1 : mW, w1 = (w.1 ++ [(.inr ((0, n2), .inl (0, [])) : mE)], w.2 + n2) := ⟨_, rfl⟩
  have s15 : zG g 1 mt_J7_copyOf none (15, [(0, .ref j), (1, .int n)], [.int n], w) (15 + 2, [(0, .ref j), (1, .int n)], [.ref J], w1) := zl_mem (i := .newarray .int) hg hW rfl rfl rfl rfl (by
    have hal := hg.2.2.2
    have q1 : Nat.ble n2 1000000 = true := Nat.ble_eq_true_of_le (by omega)
    have q2 : Nat.blt w.1.length mx_E = true := Nat.ble_eq_true_of_le (by show _ + 1 ≤ _; unfold mx_E; omega)
    rw [ew1, eJ]
    simp only [mx_mem, mx_kind, hcl2, hal, q1, q2, hp2, not_false_eq_true, decide_true, Bool.and_self, if_true]
    rfl)
  have s17 : zG g 1 mt_J7_copyOf none (17, [(0, .ref j), (1, .int n)], [.ref J], w1) (17 + 1, [(2, .ref J), (0, .ref j), (1, .int n)], [], w1) := zl_loc (i := .astore_n 2) hg hW rfl rfl (by
    show (if mx_isA (.ref J) && Nat.blt 2 3 then some (([(2, .ref J), (0, .ref j), (1, .int n)] : List (Nat × Value)), ([] : List Value)) else none) = _
    simp [mx_isA, JA])
  have ld0' : ∀ st : List Value, mx_loc 3 (.aload_n 0) [(2, .ref J), (0, .ref j), (1, .int n)] st = some ([(2, .ref J), (0, .ref j), (1, .int n)], .ref j :: st) := fun st => by simp [mx_loc, List.lookup, mx_isA, jA]
  have ld2' : ∀ st : List Value, mx_loc 3 (.aload_n 2) [(2, .ref J), (0, .ref j), (1, .int n)] st = some ([(2, .ref J), (0, .ref j), (1, .int n)], .ref J :: st) := fun st => by simp [mx_loc, List.lookup, mx_isA, JA]
  have s18 : zG g 1 mt_J7_copyOf none (18, [(2, .ref J), (0, .ref j), (1, .int n)], [], w1) (18 + 1, [(2, .ref J), (0, .ref j), (1, .int n)], [.ref j], w1) := zl_loc (i := .aload_n 0) hg hW rfl rfl (ld0' _)
  have s19 : zG g 1 mt_J7_copyOf none (19, [(2, .ref J), (0, .ref j), (1, .int n)], [.ref j], w1) (19 + 1, [(2, .ref J), (0, .ref j), (1, .int n)], [.int 0, .ref j], w1) := zl_pure (i := .iconst 0) hg hW rfl rfl
  have s20 : zG g 1 mt_J7_copyOf none (20, [(2, .ref J), (0, .ref j), (1, .int n)], [.int 0, .ref j], w1) (20 + 1, [(2, .ref J), (0, .ref j), (1, .int n)], [.ref J, .int 0, .ref j], w1) := zl_loc (i := .aload_n 2) hg hW rfl rfl (ld2' _)
  have s21 : zG g 1 mt_J7_copyOf none (21, [(2, .ref J), (0, .ref j), (1, .int n)], [.ref J, .int 0, .ref j], w1) (21 + 1, [(2, .ref J), (0, .ref j), (1, .int n)], [.int 0, .ref J, .int 0, .ref j], w1) := zl_pure (i := .iconst 0) hg hW rfl rfl
  have s22 : zG g 1 mt_J7_copyOf none (22, [(2, .ref J), (0, .ref j), (1, .int n)], [.int 0, .ref J, .int 0, .ref j], w1) (22 + 1, [(2, .ref J), (0, .ref j), (1, .int n)], [.ref j, .int 0, .ref J, .int 0, .ref j], w1) := zl_loc (i := .aload_n 0) hg hW rfl rfl (ld0' _)
  have s23 : zG g 1 mt_J7_copyOf none (23, [(2, .ref J), (0, .ref j), (1, .int n)], [.ref j, .int 0, .ref J, .int 0, .ref j], w1) (23 + 1, [(2, .ref J), (0, .ref j), (1, .int n)], [.int L, .int 0, .ref J, .int 0, .ref j], w1) := zl_mem (i := .arraylength) hg hW rfl rfl rfl rfl (al w1 _ (by rw [ew1]; exact hjw))
  have s24 : zG g 1 mt_J7_copyOf none (24, [(2, .ref J), (0, .ref j), (1, .int n)], [.int L, .int 0, .ref J, .int 0, .ref j], w1) (24 + 1, [(2, .ref J), (0, .ref j), (1, .int n)], [.int n, .int L, .int 0, .ref J, .int 0, .ref j], w1) := zl_loc (i := .iload_n 1) hg hW rfl rfl rfl
  have hmin := zmin2 hg (d := 0) (x := L) (y := n) (w := w1)
  rw [if_neg (by rw [Int32.lt_iff_toInt_lt, lN, lL]; omega)] at hmin
  obtain ⟨call, cc1, cc2⟩ := zpt_ex hmin
  have s25 : zG g 1 mt_J7_copyOf none (25, [(2, .ref J), (0, .ref j), (1, .int n)], [.int n, .int L, .int 0, .ref J, .int 0, .ref j], w1) (25 + 3, [(2, .ref J), (0, .ref j), (1, .int n)], [.int L, .int 0, .ref J, .int 0, .ref j], w1) := zl_ivk (i := .invokestatic 304) hg hW cc2 rfl rfl rfl rfl rfl (by
    unfold mx_ivk
    show (match call 194 [.int L, .int n] w1 with | some (v, w') => if Nat.ble w1.1.length w'.1.length && Nat.ble w1.2 w'.2 then some (v.toList ++ [Value.int 0, .ref J, .int 0, .ref j], w') else none | none => none) = _
    rw [cc1]
    have q1 : Nat.ble w1.1.length w1.1.length = true := Nat.ble_eq_true_of_le (Nat.le_refl _)
    have q2 : Nat.ble w1.2 w1.2 = true := Nat.ble_eq_true_of_le (Nat.le_refl _)
    simp [q1, q2])
  have s28 := zcpa (g := g) (d := 1) (lv := [(2, .ref J), (0, .ref j), (1, .int n)]) (w := w1) (j := j) (J := J) (n1 := n1) (n2 := n2) (a := a) (by rw [ew1]; exact hjw) (by rw [ew1]; exact hJw) (by omega) (by omega)
  rw [← eL] at s28
  obtain ⟨w2, ew2⟩ : ∃ w2 : mW, w2 = (w1.1.set J (.inr ((0, n2), .inl (zmkr a n1))), w1.2) := ⟨_, rfl⟩
  rw [← ew2] at s28
  have s31 : zG g 1 mt_J7_copyOf none (31, [(2, .ref J), (0, .ref j), (1, .int n)], [], w2) (31 + 1, [(2, .ref J), (0, .ref j), (1, .int n)], [.ref J], w2) := zl_loc (i := .aload_n 2) hg hW rfl rfl (ld2' _)
  have ew3 : w2 = (w.1 ++ [.inr ((0, n2), .inl (zmkr a n1))], w.2 + n2) := by
    rw [ew2, ew1, eJ]
    simp
  rw [ew3] at s28 s31
  have all := zG_trans s0 (zG_trans s1 (zG_trans s2 (zG_trans s3 (zG_trans s14 (zG_trans s15 (zG_trans s17 (zG_trans s18 (zG_trans s19 (zG_trans s20 (zG_trans s21 (zG_trans s22 (zG_trans s23 (zG_trans s24 (zG_trans s25 (zG_trans s28 s31)))))))))))))))
  have hrr := hg.2.1
  refine Met.ofW (cc := cJ7_copyOf_59c91) (maxL := 3) (ret := some (.array .int)) (ws' := []) (by decide +kernel) rfl ?_
  intro p e s m args below meth c s₁ Bd hml hv
  obtain ⟨rfl, hE, hK, hR, hLS⟩ := hv
  have hown : s.vm.findClass RJ7 = some m.cls := findClass_of_methodNamed Bd.named
  have hnm : meth.name = yJ7_copyOf_59c91.name := (name_of_methodNamed Bd.named Bd.method).1
  have X : mx_X g.1 p { frames := 2, cells := 1, slots := n2, locals := 80 } s m meth c g.2.2.2.1 g.2.2.2.2.1 g.2.2.2.2.2.1 g.2.2.2.2.2.2 mt_J7_copyOf none s.heap 1 := ⟨Bd.exec, Bd.bytes, hml, hown, hE, hK, hrr, ⟨fun L q => (by cases q), hLS⟩, hnm, Nat.le_refl _, Nat.le_refl _, hg.2.2.1⟩
  have hle : (lg_sl (([.ref j, .int n] : List Value).map (mx_v g.2.2.2.2.2.1))).length ≤ 3 := by rw [mx_sl hrr]; simp [Value.category]
  have hl := lv_entry (([.ref j, .int n] : List Value).map (mx_v g.2.2.2.2.2.1)) (n := 3) hle
  rw [mx_args hrr] at hl
  rw [lg_entry_eq]
  refine W.cs (cells' := w.1.length + 0 - w.1.length) (slots' := w.2 + 0 - w.2) (by omega) (by omega) ?_
  refine all.2 p e _ s m _ below meth c s.heap X _ w.1.length w.2 0 0 s.heap _ [] hl hR va_S.rf (Nat.le_refl _) (Nat.le_refl _) (by show (w.1 ++ [_]).length + 0 - w.1.length ≤ 1; simp) (by show w.2 + n2 + 0 - w.2 ≤ n2; omega) (fun ls' H' locs' hl' hR' hS' => ?_)
  refine W.cs (cells' := 1) (slots' := n2) (by show (w.1 ++ [_]).length + 0 - w.1.length = 1; simp) (by show w.2 + n2 + 0 - w.2 = n2; omega) ?_
  have hrJ : g.2.2.2.2.2.1 J = .ref (g.2.2.2.2.2.2 + J) := hR'.ref hrr (j := J) (c := .inr ((0, n2), .inl (zmkr a n1))) (show (w.1 ++ [(.inr ((0, n2), .inl (zmkr a n1)) : mE)])[J]? = some _ by rw [eJ]; simp)
  show W _ _ _ _ _ _ _ _ _ _ H' locs' 1 n2 _ (F0 m 32 ls' [g.2.2.2.2.2.1 J])
  rw [← eJ]
  exact W.aret Bd.exec Bd.bytes Bd.returns (Or.inr ⟨_, rfl⟩) (Or.inr ⟨_, hrJ⟩) (fun t ht hW => ⟨rfl, by rw [ht]; exact hR', hS'.F ht⟩) hS'.2.2 dJ7_copyOf_32 Bd.notSynchronized
/-- the memory's picture with a longer row behind the others -/
def zrn (μ : zM) (J j : Nat) (n1 n2 : Int) : zM := (fun i k => if i = J then (if k < n1 then μ.1 j k else 0) else if i = 2000000 then (if k = 0 then μ.1 i k + 1 else if k = 1 then μ.1 i k + n2 else μ.1 i k) else μ.1 i k, fun t => if t = J then n2 else μ.2 t)
theorem zrn_n {μ : zM} {J j i : Nat} {n1 n2 : Int} (h : i ≠ J) (h2 : i ≠ 2000000) : (zrn μ J j n1 n2).1 i = μ.1 i := by
  funext k
  simp [zrn, h, h2]
theorem zrn_2 {μ : zM} {J j t : Nat} {n1 n2 : Int} (h : t ≠ J) : (zrn μ J j n1 n2).2 t = μ.2 t := by simp [zrn, h]
theorem zrn_J {μ : zM} {J j : Nat} {n1 n2 : Int} : (zrn μ J j n1 n2).2 J = n2 := by simp [zrn]
theorem zrn_c {μ : zM} {J j : Nat} {n1 n2 : Int} (h : J ≠ 2000000) : (zrn μ J j n1 n2).1 2000000 0 = μ.1 2000000 0 + 1 ∧ (zrn μ J j n1 n2).1 2000000 1 = μ.1 2000000 1 + n2 := by simp [zrn, Ne.symm h]
theorem zchk_rn {μ : zM} {J jj y j : Nat} {n1 n2 : Int} (hl : ∀ t, zDyn μ t → t ≠ J) (h : zchk μ y j True) : zchk (zrn μ J jj n1 n2) y j True := by
  unfold zchk at h ⊢
  split
  · rename_i e
    rw [e] at h
    exact h
  · rename_i e
    rw [e] at h
    refine ⟨?_, trivial⟩
    have h := h.1
    unfold zIn at h ⊢
    split at h
    · unfold zDyn
      rw [zrn_2 (hl _ h)]
      exact h
    · exact h
    · cases h
theorem zRep_row {μ : zM} {w : mW} {j n1 n2 : Nat} {a : mI} (h : zRep μ w) (hl : w.1.length < 1000000) (h109 : 109 ≤ w.1.length) (hn : 1024 ≤ n2 ∧ n2 ≤ 88400) (hj : zRw μ j n1 (-2147483648) 2147483647 a) (h12 : n1 ≤ n2) : zRep (zrn μ w.1.length j n1 n2) (w.1 ++ [.inr ((0, n2), .inl (zmkr a n1))], w.2 + n2) := by
  obtain ⟨g1, ⟨g2, g2'⟩, g3, g4⟩ := h
  have hd : ∀ t, zDyn μ t → t ≠ w.1.length := fun t ht q => by
    obtain ⟨n, a, e1, -⟩ := g4 t ht
    have := (List.getElem?_eq_some_iff.mp e1).1
    omega
  have hc := zrn_c (μ := μ) (J := w.1.length) (j := j) (n1 := n1) (n2 := n2) (by omega)
  refine ⟨⟨by simp; omega, fun t n a8 ha q hq => by
    have ha : (w.1 ++ [(.inr ((0, n2), .inl (zmkr a n1)) : mE)])[t]? = _ := ha
    rw [zrn_n (by omega) (by omega)]
    by_cases e : t < w.1.length
    · rw [List.getElem?_append_left e] at ha
      exact g1.2.1 t n a8 ha q hq
    · rw [List.getElem?_append_right (by omega)] at ha
      have hz : t - w.1.length < 1 := by simpa using (List.getElem?_eq_some_iff.mp ha).1
      rw [show t - w.1.length = 0 by omega] at ha
      exact (by cases ha), fun t ci fs ha k v hv => by
    have ha : (w.1 ++ [(.inr ((0, n2), .inl (zmkr a n1)) : mE)])[t]? = _ := ha
    rw [zrn_n (by omega) (by omega)]
    by_cases e : t < w.1.length
    · rw [List.getElem?_append_left e] at ha
      exact g1.2.2 t ci fs ha k v hv
    · rw [List.getElem?_append_right (by omega)] at ha
      have hz : t - w.1.length < 1 := by simpa using (List.getElem?_eq_some_iff.mp ha).1
      rw [show t - w.1.length = 0 by omega] at ha
      exact (by cases ha)⟩, ?_, fun t d hdd => ?_, fun t hdd => ?_⟩
  · rw [hc.1, hc.2]
    simp
    omega
  · obtain ⟨c, e1, e2⟩ := g3 t d hdd
    have ht := (List.getElem?_eq_some_iff.mp e1).1
    have hn : t ≠ w.1.length := by omega
    have h2 : t ≠ 2000000 := by omega
    refine ⟨c, by show (w.1 ++ _)[t]? = _; rw [List.getElem?_append_left ht]; exact e1, ?_⟩
    unfold zCe at e2 ⊢
    split
    · obtain ⟨fs, h1, fl, h3, h4, h5⟩ := e2
      refine ⟨fs, h1, fl, h3, h4, fun kf f v q1 q2 => ?_⟩
      have h6 := h5 kf f v q1 q2
      unfold zFt at h6 ⊢
      split
      · rw [zrn_n hn h2]; exact h6
      · exact h6
      · exact h6
      · obtain ⟨j, k1, k2, k3, k4⟩ := h6
        exact ⟨j, k1, k2, by rw [zrn_n hn h2]; exact k3, zchk_rn hd k4⟩
    · refine ⟨by rw [zrn_2 hn]; exact e2.1, ?_⟩
      have h3 := e2.2
      split at h3
      · exact h3
      · obtain ⟨a, h4, h5⟩ := h3
        refine ⟨a, h4, ?_⟩
        unfold zRw at h5 ⊢
        rw [zrn_n hn h2]
        exact h5
  · by_cases htJ : t = w.1.length
    · subst htJ
      refine ⟨n2, zmkr a n1, by simp, by rw [zrn_J], fun q hq => ?_⟩
      rw [zmkr_g]
      simp only [zrn, if_true]
      by_cases hq1 : q < n1
      · rw [if_pos hq1, if_pos (by omega)]
        exact hj q hq1
      · rw [if_neg hq1, if_neg (by omega)]
        exact ⟨rfl, by omega, by omega⟩
    · have hdy : zDyn μ t := by
        unfold zDyn at hdd ⊢
        rw [zrn_2 htJ] at hdd
        exact hdd
      obtain ⟨n, a, e1, e2, e3⟩ := g4 t hdy
      have ht := (List.getElem?_eq_some_iff.mp e1).1
      refine ⟨n, a, by show (w.1 ++ _)[t]? = _; rw [List.getElem?_append_left ht]; exact e1, by rw [zrn_2 htJ]; exact e2, ?_⟩
      unfold zRw at e3 ⊢
      rw [zrn_n htJ (by omega)]
      exact e3
theorem dX1_makeRoom_43 : decode cX1_makeRoom 43 = .ok (.invokestatic 80, 3) := by decide +kernel
set_option maxHeartbeats 4000000 in
/-- makeRoom's call of copyOf -/
theorem zmr_call {g : zΓ} (hg : zg g) {d : Nat} (hd : 2 ≤ d) {lv : List (Nat × Value)} {w : mW} {t j n1 n2 : Nat} {a : mI} (hj : w.1[j]? = some (.inr ((0, n1), .inl a))) (h1 : n1 < n2) (h2 : n2 ≤ 88400) (hwl : w.1.length < 1000000) :
    zG g d mt_X1_makeRoom none (43, lv, [.int (Int32.ofNat n2), .ref j, .ref t], w) (46, lv, [.ref w.1.length, .ref t], (w.1 ++ [.inr ((0, n2), .inl (zmkr a n1))], w.2 + n2)) := by
  have hMet := zcpo hg hj h1 h2 hwl
  refine ⟨⟨by show w.1.length ≤ (w.1 ++ [_]).length; simp, by show w.2 ≤ w.2 + n2; omega⟩, fun p e R s m args below meth c H0 X => ?_⟩
  obtain ⟨hx, hb, hml, hown, hE, hK, hr, hsc, hnm, hfr, hlo, hkb⟩ := X
  intro Q n0 z0 k0 k1 H ls locs hl hR hS hn0 hz0 hrc hrs k
  have hn0 : n0 ≤ w.1.length := hn0
  have hz0 : z0 ≤ w.2 := hz0
  have hrc : (w.1 ++ [(.inr ((0, n2), .inl (zmkr a n1)) : mE)]).length + k0 - n0 ≤ R.cells := hrc
  have hrs : w.2 + n2 + k1 - z0 ≤ R.slots := hrs
  simp only [List.length_append, List.length_cons, List.length_nil] at hrc
  have CF : CallFix p m c cX1_makeRoom 3 s args [] RX1 := ⟨hx, hb, hml, hown, fun w hw => by cases hw⟩
  have hws : ∀ w ∈ [Cond.code yJ7_copyOf_59c91 cJ7_copyOf_59c91 3 (some (.array .int))], ∀ (a' : Array Value) (U : State), s.WarmedH U.vm → w.before a' U = true := by
    intro w hw a' U hW
    rw [List.mem_singleton.mp hw]
    exact mx_at_use (q := 333) (by decide +kernel) (mx_Env.warm hW hE)
  have hlen : ∀ sig, parseMethodDescriptor yJ7_copyOf_59c91.desc = some sig → 2 = sig.parameters.length := fun sig hs => by
    have h9 : (parseMethodDescriptor yJ7_copyOf_59c91.desc).map (fun d => d.parameters.length) = some 2 := by decide +kernel
    rw [hs] at h9
    exact (Option.some.inj h9).symm
  have hp : PreS s H (mx_Pc g.2.2.2.1 g.2.2.2.2.1 g.2.2.2.2.2.1 g.2.2.2.2.2.2 [.ref j, .int (Int32.ofNat n2)] w) (([.ref j, .int (Int32.ofNat n2)] : List Value).map (mx_v g.2.2.2.2.2.1)) := ⟨mx_blind, fun U hU hW => ⟨rfl, mx_Env.warm hW hE, va_K.moved hW.alike hK, by rw [hU]; exact hR, by rw [hU]; exact hsc.2.go hS hW⟩⟩
  have hsum : (([.ref t] : List Value).map (fun v => v.category)).sum ≤ 8 := by simp [Value.category]
  rw [← mx_cats hr] at hsum
  refine mx_run (D := g.2.2.2.1) (cy := g.2.2.2.2.1) (r := g.2.2.2.2.2.1) (mc := 1) (ms := n2) (v := some (.ref w.1.length)) (w' := (w.1 ++ [.inr ((0, n2), .inl (zmkr a n1))], w.2 + n2)) (rest := ([.ref t] : List Value).map (mx_v g.2.2.2.2.2.1)) (a := (([.ref j, .int (Int32.ofNat n2)] : List Value).map (mx_v g.2.2.2.2.2.1)).toArray)
    (va_runS CF hMet ⟨⟨rfl, rfl, (by show 2 + 1 ≤ R.frames; omega), (by show 8 + (3 + 11) + 80 ≤ R.locals; omega), hws, List.mem_singleton.mpr rfl, mx_at_use (q := 333) (by decide +kernel) hE, mx_at_use (q := 151) (by decide +kernel) hE, ⟨by decide +kernel, by decide +kernel⟩, hlen, mx_at_use (q := 331) (by decide +kernel) hE⟩, mx_at_use (q := 332) (by decide +kernel) hE⟩ hp rfl (by simp) hl.1 rfl (lv_room hsum) dX1_makeRoom_43 ⟨by show w.1.length + k0 - n0 + 1 ≤ R.cells; omega, by show w.2 + k1 - z0 + n2 ≤ R.slots; omega⟩) hS (fun H' locs' hR' hS' => ?_)
  have kk := k ls H' locs' hl hR' hS'
  refine W.cs (cells' := (w.1 ++ [(.inr ((0, n2), .inl (zmkr a n1)) : mE)]).length + k0 - n0) (slots' := w.2 + n2 + k1 - z0) (by show w.1.length + k0 - n0 + 1 = _; simp; omega) (by show w.2 + k1 - z0 + n2 = _; omega) ?_
  exact kk
theorem zL_le {μ : zM} {w : mW} (hw : zRep μ w) : zL μ ≤ 176800 ∧ 0 ≤ zL μ := by
  have key : ∀ t : Nat, (t = 26 ∨ t = 44) → 1024 ≤ μ.2 (μ.1 t 5).toNat ∧ μ.2 (μ.1 t 5).toNat ≤ 88400 := by
    intro t ht
    obtain ⟨c, q, fs, rfl, fl, f1, f2, f3⟩ := hw.2.2.1 t (.inl 1) (by rcases ht with rfl | rfl <;> rfl)
    cases (show some zfl1 = some fl from f1)
    have len : fs.length = 7 := f2
    obtain ⟨v5, hv5⟩ : ∃ v, fs[5]? = some v := ⟨fs[5], by simp [len]⟩
    obtain ⟨j, -, -, e3, e4⟩ := f3 5 (.inr (.inr (.inr 1000))) v5 rfl hv5
    have e3 : (j : Int) = μ.1 t 5 := e3
    have e4 : zDyn μ j := e4.1
    rw [← e3]
    exact e4.2
  have k1 := key 26 (Or.inl rfl)
  have k2 := key 44 (Or.inr rfl)
  unfold zL
  omega
set_option maxHeartbeats 4000000 in
theorem zle_rn {μ : zM} {t j J : Nat} {n1 n2 : Int} (ht : t = 26 ∨ t = 44) (hj : (j : Int) = μ.1 t 5) (hn1 : μ.2 j = n1) (h1 : n1 < n2) (h2 : n2 = 88400 ∨ (2 * n1 ≤ n2 ∧ n2 < 88400)) (h0 : 1024 ≤ n1) (hJ : 109 ≤ J ∧ J < 1000000) (ho : ∀ s : Nat, (s = 26 ∨ s = 44) → (μ.1 s 5).toNat ≠ J) : zle μ (zu (zrn μ J j n1 n2) t 5 J) := by
  have hc := zrn_c (μ := μ) (J := J) (j := j) (n1 := n1) (n2 := n2) (by omega)
  have e2 : ∀ q, (zu (zrn μ J j n1 n2) t 5 J).2 q = (zrn μ J j n1 n2).2 q := fun _ => rfl
  have eo : ∀ s : Nat, (s = 26 ∨ s = 44) → s ≠ t → (zu (zrn μ J j n1 n2) t 5 J).1 s 5 = μ.1 s 5 := fun s hs hst => by
    rw [zu_ne hst, zrn_n (by omega) (by omega)]
  have et : (zu (zrn μ J j n1 n2) t 5 J).1 t 5 = J := zu_at
  have hjt : μ.2 (μ.1 t 5).toNat = n1 := by rw [← hj]; exact hn1
  have f0 : ∀ n : Int, zFl n = if n = 88400 then 88400 else 0 := fun n => rfl
  refine ⟨fun i a b => by rw [zu_ne (by omega), zrn_n (by omega) (by omega)], ?_, ?_, Or.inl ?_, fun i a b => ⟨by rw [zu_ne (by omega), zrn_n (by omega) (by omega)], by rw [zu_ne (by omega), zrn_n (by omega) (by omega)]⟩⟩
  · rw [zu_ne (by omega), hc.1]
    unfold zL
    rcases ht with rfl | rfl
    · rw [et, eo 44 (Or.inr rfl) (by decide), e2, e2, Int.toNat_natCast, zrn_J, zrn_2 (ho 44 (Or.inr rfl)), hjt]
      omega
    · rw [et, eo 26 (Or.inl rfl) (by decide), e2, e2, Int.toNat_natCast, zrn_J, zrn_2 (ho 26 (Or.inl rfl)), hjt]
      omega
  · rw [zu_ne (by omega), hc.2]
    unfold zS
    rcases ht with rfl | rfl
    · rw [et, eo 44 (Or.inr rfl) (by decide), e2, e2, Int.toNat_natCast, zrn_J, zrn_2 (ho 44 (Or.inr rfl)), hjt, f0 n2, f0 n1, if_neg (show ¬ n1 = 88400 by omega)]
      split <;> omega
    · rw [et, eo 26 (Or.inl rfl) (by decide), e2, e2, Int.toNat_natCast, zrn_J, zrn_2 (ho 26 (Or.inl rfl)), hjt, f0 n2, f0 n1, if_neg (show ¬ n1 = 88400 by omega)]
      split <;> omega
  · rw [zu_ne (by omega), zrn_n (by omega) (by omega)]
