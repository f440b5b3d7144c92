/-! ### the law, case by case -/
theorem kb_nil {r : Nat → Value} : mx_kb [] r := fun e he => by cases he
theorem kb_cons {kb : mK} {r : Nat → Value} {cn : ClassFile.Cond} {j : Nat} {x y : Int32} {b : Bool} (hx : r j = .int x) (h : mx_cmp cn x y = b) (t : mx_kb kb r) : mx_kb (((cn, .ref j, .int y), b) :: kb) r := by
  intro e he x' y' h1 h2
  rcases List.mem_cons.mp he with rfl | he
  · have e1 : r j = .int x' := h1
    rw [hx] at e1
    cases e1
    cases h2
    exact h
  · exact t e he x' y' h1 h2
theorem i32_pos {x : Int32} (h0 : ¬ x < 0) (h1 : ¬ x = 0) : 1 ≤ x := by
  have a := Int32.not_lt.mp h0
  rw [Int32.le_iff_toInt_le] at a ⊢
  have b : x.toInt ≠ 0 := fun q => h1 (Int32.toInt_inj.mp (by rw [q]; decide))
  have e0 : (0 : Int32).toInt = 0 := by decide
  have e1 : (1 : Int32).toInt = 1 := by decide
  rw [e0] at a
  rw [e1]
  omega
section MJ
variable {p : Program} {l : Launch} {e : Env} {s : State} {m : MethodId} {below : List Frame} {meth : Method} {c : Code} {b : Nat} {r : Nat → Value} {D : va_G} {cy : Nat → ClassId} {H : Heap} {ls : Array Slot} {locs : List Loc} {xs : Nat → Int32}
set_option maxRecDepth 1000000 in
theorem ke_read : mq3 (mx_runN [] mt_tab (ml_call []) (some 4) (fun _ => none) mt_L_law 14 (204, ml_lv, [], ml_w1)) = true := by decide +kernel
set_option maxRecDepth 1000000 in
theorem ke_fault : mq3 (mx_runN [] mt_tab (ml_call []) (some 4) (fun _ => none) mt_L_law 14 (217, ml_lv, [], ml_w1)) = true := by decide +kernel
set_option maxRecDepth 1000000 in
theorem ke_above : mq3 (mx_runN [] mt_tab (ml_call []) (some 4) (fun _ => none) mt_L_law 14 (612, ml_lv, [], ml_w1)) = true := by decide +kernel
set_option maxRecDepth 1000000 in
theorem ke_clear : mq3 (mx_runN [] mt_tab (ml_call []) (some 4) (fun _ => none) mt_L_law 14 (749, ml_lv, [], ml_w1)) = true := by decide +kernel
set_option maxRecDepth 1000000 in
theorem ke_none : mq3 (mx_runN [] mt_tab (ml_call []) (some 4) (fun _ => none) mt_L_law 9 (760, ml_lv, [], ml_w1)) = true := by decide +kernel
set_option maxRecDepth 1000000 in
theorem ke_L0 : mq3 (mx_runN [] mt_tab (ml_call []) (some 0) (fun _ => none) mt_L_law 7 (23, ml_lv, [], ml_w1)) = true := by decide +kernel
set_option maxRecDepth 1000000 in
theorem ke_L1 : mq3 (mx_runN [] mt_tab (ml_call []) (some 1) (fun _ => none) mt_L_law 7 (23, ml_lv, [], ml_w1)) = true := by decide +kernel
set_option maxRecDepth 1000000 in
theorem ke_L2 : mq3 (mx_runN [] mt_tab (ml_call []) (some 2) (fun _ => none) mt_L_law 7 (23, ml_lv, [], ml_w1)) = true := by decide +kernel
set_option maxRecDepth 1000000 in
theorem ke_L3 : mq3 (mx_runN [] mt_tab (ml_call []) (some 3) (fun _ => none) mt_L_law 7 (23, ml_lv, [], ml_w1)) = true := by decide +kernel
set_option maxRecDepth 1000000 in
theorem ke_L4 : mx_runN [] mt_tab (ml_call []) (some 4) (fun _ => none) mt_L_law 10 (23, ml_lv, [], ml_w1) = some (38, ml_lv, [.int 15, .ref 1048577], ml_w1) := mq_eq (by decide +kernel)
theorem cj_parameter (hl : l.stackTraces = false) (hfz : r mx_F ≠ .int 0) (mkC : ∀ kb, mx_kb kb r → ml_C kb p s m meth c r D cy (some 4)) (hx1 : r 1048578 = .int (xs 1)) (hx2 : r 1048579 = .int (xs 2)) (hEX : mx_EX s.heap.size s s.heap) (hv : lv_has ls 8 (mx_lv r ml_lv)) (hR : mx_R D cy r s.heap.size ml_w1 H) (hS : va_S (fun q => s.heap.size ≤ q) s.heap H locs) :
    W p l e room_1 s m #[Value.ref b] below meth c H locs 109 357940 (lw_Z below #[Value.ref b] s) (F0 m 365 ls []) := by
  by_cases hN1 : xs 1 < 0
  · exact ct_parameter_a hl hfz (mkC _ (kb_cons hx1 (decide_eq_true hN1) (kb_cons hx1 (decide_eq_false (Int32.not_le.mpr hN1)) (kb_nil)))) hEX hv hR hS
  · have hP1 := hN1
    exact ct_parameter_b hl hfz (mkC _ (kb_cons hx1 (decide_eq_false hP1) (kb_cons hx1 (decide_eq_true (Int32.not_lt.mp hP1)) (kb_nil)))) hEX hv hR hS
theorem cj_way (hl : l.stackTraces = false) (hfz : r mx_F ≠ .int 0) (mkC : ∀ kb, mx_kb kb r → ml_C kb p s m meth c r D cy (some 4)) (hx1 : r 1048578 = .int (xs 1)) (hx2 : r 1048579 = .int (xs 2)) (hEX : mx_EX s.heap.size s s.heap) (hv : lv_has ls 8 (mx_lv r ml_lv)) (hR : mx_R D cy r s.heap.size ml_w1 H) (hS : va_S (fun q => s.heap.size ≤ q) s.heap H locs) :
    W p l e room_1 s m #[Value.ref b] below meth c H locs 109 357940 (lw_Z below #[Value.ref b] s) (F0 m 432 ls []) := by
  by_cases hN1 : xs 1 < 0
  · exact ct_way_a hl hfz (mkC _ (kb_cons hx1 (decide_eq_true hN1) (kb_cons hx1 (decide_eq_false (Int32.not_le.mpr hN1)) (kb_nil)))) hEX hv hR hS
  · have hP1 := hN1
    exact ct_way_b hl hfz (mkC _ (kb_cons hx1 (decide_eq_false hP1) (kb_cons hx1 (decide_eq_true (Int32.not_lt.mp hP1)) (kb_nil)))) hEX hv hR hS
theorem cj_variable (hl : l.stackTraces = false) (hfz : r mx_F ≠ .int 0) (mkC : ∀ kb, mx_kb kb r → ml_C kb p s m meth c r D cy (some 4)) (hx1 : r 1048578 = .int (xs 1)) (hx2 : r 1048579 = .int (xs 2)) (hEX : mx_EX s.heap.size s s.heap) (hv : lv_has ls 8 (mx_lv r ml_lv)) (hR : mx_R D cy r s.heap.size ml_w1 H) (hS : va_S (fun q => s.heap.size ≤ q) s.heap H locs) :
    W p l e room_1 s m #[Value.ref b] below meth c H locs 109 357940 (lw_Z below #[Value.ref b] s) (F0 m 625 ls []) := by
  by_cases hN1 : xs 1 < 0
  · exact ct_variable_a hl hfz (mkC _ (kb_cons hx1 (decide_eq_true hN1) (kb_cons hx1 (decide_eq_false (Int32.not_le.mpr hN1)) (kb_nil)))) hEX hv hR hS
  · have hP1 := hN1
    exact ct_variable_b hl hfz (mkC _ (kb_cons hx1 (decide_eq_false hP1) (kb_cons hx1 (decide_eq_true (Int32.not_lt.mp hP1)) (kb_nil)))) hEX hv hR hS
theorem cj_written (hl : l.stackTraces = false) (hfz : r mx_F ≠ .int 0) (mkC : ∀ kb, mx_kb kb r → ml_C kb p s m meth c r D cy (some 4)) (hx1 : r 1048578 = .int (xs 1)) (hx2 : r 1048579 = .int (xs 2)) (hEX : mx_EX s.heap.size s s.heap) (hv : lv_has ls 8 (mx_lv r ml_lv)) (hR : mx_R D cy r s.heap.size ml_w1 H) (hS : va_S (fun q => s.heap.size ≤ q) s.heap H locs) :
    W p l e room_1 s m #[Value.ref b] below meth c H locs 109 357940 (lw_Z below #[Value.ref b] s) (F0 m 693 ls []) := by
  by_cases hN1 : xs 1 < 0
  · exact ct_written_a hl hfz (mkC _ (kb_cons hx1 (decide_eq_true hN1) (kb_cons hx1 (decide_eq_false (Int32.not_le.mpr hN1)) (kb_nil)))) hEX hv hR hS
  · have hP1 := hN1
    exact ct_written_b hl hfz (mkC _ (kb_cons hx1 (decide_eq_false hP1) (kb_cons hx1 (decide_eq_true (Int32.not_lt.mp hP1)) (kb_nil)))) hEX hv hR hS
theorem cj_ask (hl : l.stackTraces = false) (hfz : r mx_F ≠ .int 0) (mkC : ∀ kb, mx_kb kb r → ml_C kb p s m meth c r D cy (some 4)) (hx1 : r 1048578 = .int (xs 1)) (hx2 : r 1048579 = .int (xs 2)) (hEX : mx_EX s.heap.size s s.heap) (hv : lv_has ls 8 (mx_lv r ml_lv)) (hR : mx_R D cy r s.heap.size ml_w1 H) (hS : va_S (fun q => s.heap.size ≤ q) s.heap H locs) :
    W p l e room_1 s m #[Value.ref b] below meth c H locs 109 357940 (lw_Z below #[Value.ref b] s) (F0 m 500 ls []) := by
  by_cases hN1 : xs 1 < 0
  · exact ct_ask_a hl hfz (mkC _ (kb_cons hx1 (decide_eq_true hN1) (kb_cons hx1 (decide_eq_false (Int32.not_le.mpr hN1)) (kb_nil)))) hEX hv hR hS
  · have hP1 := hN1
    by_cases hG1 : 3000 < xs 1
    · exact ct_ask_b hl hfz (mkC _ (kb_cons hx1 (decide_eq_false hP1) (kb_cons hx1 (decide_eq_true (Int32.not_lt.mp hP1)) (kb_cons hx1 (decide_eq_true hG1) (kb_cons hx1 (decide_eq_false (Int32.not_le.mpr hG1)) (kb_nil)))))) hEX hv hR hS
    · exact ct_ask_r hl hfz (mkC _ (kb_cons hx1 (decide_eq_false hP1) (kb_cons hx1 (decide_eq_true (Int32.not_lt.mp hP1)) (kb_cons hx1 (decide_eq_false hG1) (kb_cons hx1 (decide_eq_true (Int32.not_lt.mp hG1)) (kb_nil)))))) hEX hv hR hS
theorem cj_told (hl : l.stackTraces = false) (hfz : r mx_F ≠ .int 0) (mkC : ∀ kb, mx_kb kb r → ml_C kb p s m meth c r D cy (some 4)) (hx1 : r 1048578 = .int (xs 1)) (hx2 : r 1048579 = .int (xs 2)) (hEX : mx_EX s.heap.size s s.heap) (hv : lv_has ls 8 (mx_lv r ml_lv)) (hR : mx_R D cy r s.heap.size ml_w1 H) (hS : va_S (fun q => s.heap.size ≤ q) s.heap H locs) :
    W p l e room_1 s m #[Value.ref b] below meth c H locs 109 357940 (lw_Z below #[Value.ref b] s) (F0 m 556 ls []) := by
  by_cases hN1 : xs 1 < 0
  · exact ct_told_a hl hfz (mkC _ (kb_cons hx1 (decide_eq_true hN1) (kb_cons hx1 (decide_eq_false (Int32.not_le.mpr hN1)) (kb_nil)))) hEX hv hR hS
  · have hP1 := hN1
    by_cases hG1 : 9 < xs 1
    · exact ct_told_b hl hfz (mkC _ (kb_cons hx1 (decide_eq_false hP1) (kb_cons hx1 (decide_eq_true (Int32.not_lt.mp hP1)) (kb_cons hx1 (decide_eq_true hG1) (kb_cons hx1 (decide_eq_false (Int32.not_le.mpr hG1)) (kb_nil)))))) hEX hv hR hS
    · skip
      obtain ⟨j, hj, ej⟩ := nI_of2 (M := 9) (n := 9) (by decide) hP1 (Int32.not_lt.mp hG1)
      rcases (show j = 0 ∨ j = 1 ∨ j = 2 ∨ j = 3 ∨ j = 4 ∨ j = 5 ∨ j = 6 ∨ j = 7 ∨ j = 8 ∨ j = 9 by omega) with rfl | rfl | rfl | rfl | rfl | rfl | rfl | rfl | rfl | rfl
      · have hQ1 : xs 1 = 0 := ej.trans (by decide)
        exact ct_told_r0 hl hfz (mkC _ (kb_cons hx1 (decide_eq_true hQ1) (kb_nil))) hEX hv hR hS
      · have hQ1 : xs 1 = 1 := ej.trans (by decide)
        exact ct_told_r1 hl hfz (mkC _ (kb_cons hx1 (decide_eq_true hQ1) (kb_nil))) hEX hv hR hS
      · have hQ1 : xs 1 = 2 := ej.trans (by decide)
        exact ct_told_r2 hl hfz (mkC _ (kb_cons hx1 (decide_eq_true hQ1) (kb_nil))) hEX hv hR hS
      · have hQ1 : xs 1 = 3 := ej.trans (by decide)
        exact ct_told_r3 hl hfz (mkC _ (kb_cons hx1 (decide_eq_true hQ1) (kb_nil))) hEX hv hR hS
      · have hQ1 : xs 1 = 4 := ej.trans (by decide)
        exact ct_told_r4 hl hfz (mkC _ (kb_cons hx1 (decide_eq_true hQ1) (kb_nil))) hEX hv hR hS
      · have hQ1 : xs 1 = 5 := ej.trans (by decide)
        exact ct_told_r5 hl hfz (mkC _ (kb_cons hx1 (decide_eq_true hQ1) (kb_nil))) hEX hv hR hS
      · have hQ1 : xs 1 = 6 := ej.trans (by decide)
        exact ct_told_r6 hl hfz (mkC _ (kb_cons hx1 (decide_eq_true hQ1) (kb_nil))) hEX hv hR hS
      · have hQ1 : xs 1 = 7 := ej.trans (by decide)
        exact ct_told_r7 hl hfz (mkC _ (kb_cons hx1 (decide_eq_true hQ1) (kb_nil))) hEX hv hR hS
      · have hQ1 : xs 1 = 8 := ej.trans (by decide)
        exact ct_told_r8 hl hfz (mkC _ (kb_cons hx1 (decide_eq_true hQ1) (kb_nil))) hEX hv hR hS
      · have hQ1 : xs 1 = 9 := ej.trans (by decide)
        exact ct_told_r9 hl hfz (mkC _ (kb_cons hx1 (decide_eq_true hQ1) (kb_nil))) hEX hv hR hS

theorem cj_cls (hl : l.stackTraces = false) (hfz : r mx_F ≠ .int 0) (mkC : ∀ kb, mx_kb kb r → ml_C kb p s m meth c r D cy (some 4)) (hx1 : r 1048578 = .int (xs 1)) (hx2 : r 1048579 = .int (xs 2)) (hEX : mx_EX s.heap.size s s.heap) (hv : lv_has ls 8 (mx_lv r ml_lv)) (hR : mx_R D cy r s.heap.size ml_w1 H) (hS : va_S (fun q => s.heap.size ≤ q) s.heap H locs) :
    W p l e room_1 s m #[Value.ref b] below meth c H locs 109 357940 (lw_Z below #[Value.ref b] s) (F0 m 230 ls []) := by
  by_cases hN1 : xs 1 < 0
  · exact ct_cls_a hl hfz (mkC _ (kb_cons hx1 (decide_eq_true hN1) (kb_cons hx1 (decide_eq_false (Int32.not_le.mpr hN1)) (kb_nil)))) hEX hv hR hS
  · have hP1 := hN1
    by_cases hZ1 : xs 1 = 0
    · have hQ1 := hZ1
      by_cases hN2 : xs 2 < 0
      · exact ct_cls_c hl hfz (mkC _ (kb_cons hx1 (decide_eq_true hQ1) (kb_cons hx2 (decide_eq_true hN2) (kb_cons hx2 (decide_eq_false (Int32.not_le.mpr hN2)) (kb_nil))))) hEX hv hR hS
      · have hP2 := hN2
        by_cases hG2 : 4 < xs 2
        · exact ct_cls_d hl hfz (mkC _ (kb_cons hx1 (decide_eq_true hQ1) (kb_cons hx2 (decide_eq_false hP2) (kb_cons hx2 (decide_eq_true (Int32.not_lt.mp hP2)) (kb_cons hx2 (decide_eq_true hG2) (kb_cons hx2 (decide_eq_false (Int32.not_le.mpr hG2)) (kb_nil))))))) hEX hv hR hS
        · skip
          obtain ⟨j, hj, ej⟩ := nI_of2 (M := 4) (n := 4) (by decide) hP2 (Int32.not_lt.mp hG2)
          rcases (show j = 0 ∨ j = 1 ∨ j = 2 ∨ j = 3 ∨ j = 4 by omega) with rfl | rfl | rfl | rfl | rfl
          · have hQ2 : xs 2 = 0 := ej.trans (by decide)
            exact ct_cls_r0 hl hfz (mkC _ (kb_cons hx1 (decide_eq_true hQ1) (kb_cons hx2 (decide_eq_true hQ2) (kb_nil)))) hEX hv hR hS
          · have hQ2 : xs 2 = 1 := ej.trans (by decide)
            exact ct_cls_r1 hl hfz (mkC _ (kb_cons hx1 (decide_eq_true hQ1) (kb_cons hx2 (decide_eq_true hQ2) (kb_nil)))) hEX hv hR hS
          · have hQ2 : xs 2 = 2 := ej.trans (by decide)
            exact ct_cls_r2 hl hfz (mkC _ (kb_cons hx1 (decide_eq_true hQ1) (kb_cons hx2 (decide_eq_true hQ2) (kb_nil)))) hEX hv hR hS
          · have hQ2 : xs 2 = 3 := ej.trans (by decide)
            exact ct_cls_r3 hl hfz (mkC _ (kb_cons hx1 (decide_eq_true hQ1) (kb_cons hx2 (decide_eq_true hQ2) (kb_nil)))) hEX hv hR hS
          · have hQ2 : xs 2 = 4 := ej.trans (by decide)
            exact ct_cls_r4 hl hfz (mkC _ (kb_cons hx1 (decide_eq_true hQ1) (kb_cons hx2 (decide_eq_true hQ2) (kb_nil)))) hEX hv hR hS
    · exact ct_cls_b hl hfz (mkC _ (kb_cons hx1 (decide_eq_false hP1) (kb_cons hx1 (decide_eq_true (Int32.not_lt.mp hP1)) (kb_cons hx1 (decide_eq_true (i32_pos hP1 hZ1)) (kb_cons hx1 (decide_eq_false (Int32.not_lt.mpr (i32_pos hP1 hZ1))) (kb_nil)))))) hEX hv hR hS
theorem cj_isAbove (hl : l.stackTraces = false) (hfz : r mx_F ≠ .int 0) (mkC : ∀ kb, mx_kb kb r → ml_C kb p s m meth c r D cy (some 4)) (hx1 : r 1048578 = .int (xs 1)) (hx2 : r 1048579 = .int (xs 2)) (hEX : mx_EX s.heap.size s s.heap) (hv : lv_has ls 8 (mx_lv r ml_lv)) (hR : mx_R D cy r s.heap.size ml_w1 H) (hS : va_S (fun q => s.heap.size ≤ q) s.heap H locs) :
    W p l e room_1 s m #[Value.ref b] below meth c H locs 109 357940 (lw_Z below #[Value.ref b] s) (F0 m 297 ls []) := by
  by_cases hN1 : xs 1 < 0
  · exact ct_isAbove_a hl hfz (mkC _ (kb_cons hx1 (decide_eq_true hN1) (kb_cons hx1 (decide_eq_false (Int32.not_le.mpr hN1)) (kb_nil)))) hEX hv hR hS
  · have hP1 := hN1
    by_cases hZ1 : xs 1 = 0
    · have hQ1 := hZ1
      by_cases hN2 : xs 2 < 0
      · exact ct_isAbove_c hl hfz (mkC _ (kb_cons hx1 (decide_eq_true hQ1) (kb_cons hx2 (decide_eq_true hN2) (kb_cons hx2 (decide_eq_false (Int32.not_le.mpr hN2)) (kb_nil))))) hEX hv hR hS
      · have hP2 := hN2
        by_cases hZ2 : xs 2 = 0
        · have hQ2 := hZ2
          exact ct_isAbove_r hl hfz (mkC _ (kb_cons hx1 (decide_eq_true hQ1) (kb_cons hx2 (decide_eq_true hQ2) (kb_nil)))) hEX hv hR hS
        · exact ct_isAbove_d hl hfz (mkC _ (kb_cons hx1 (decide_eq_true hQ1) (kb_cons hx2 (decide_eq_false hP2) (kb_cons hx2 (decide_eq_true (Int32.not_lt.mp hP2)) (kb_cons hx2 (decide_eq_true (i32_pos hP2 hZ2)) (kb_cons hx2 (decide_eq_false (Int32.not_lt.mpr (i32_pos hP2 hZ2))) (kb_nil))))))) hEX hv hR hS
    · exact ct_isAbove_b hl hfz (mkC _ (kb_cons hx1 (decide_eq_false hP1) (kb_cons hx1 (decide_eq_true (Int32.not_lt.mp hP1)) (kb_cons hx1 (decide_eq_true (i32_pos hP1 hZ1)) (kb_cons hx1 (decide_eq_false (Int32.not_lt.mpr (i32_pos hP1 hZ1))) (kb_nil)))))) hEX hv hR hS
end MJ
