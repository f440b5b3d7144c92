/-! ### cases of the law, 2 -/
section MC1
variable {p : Program} {l : Launch} {e : Env} {s : State} {m : MethodId} {below : List Frame} {meth : Method} {c : Code} {b : Nat} {r : Nat → Value} {D : va_G} {cy : Nat → ClassId} {H : Heap} {ls : Array Slot} {locs : List Loc}
def kb_parameter_a : mK := [((.lt, .ref 1048578, .int 0), true), ((.ge, .ref 1048578, .int 0), false)]
set_option maxRecDepth 1000000 in
theorem k1_parameter_a : mx_runN kb_parameter_a mt_tab (ml_call kb_parameter_a) (some 4) (fun _ => none) mt_L_law 12 (365, ml_lv, [], ml_w1) = some (379, ml_lv, ([.ref 0, .ref 1048578, .ref 1048579, .ref 108] : List Value).reverse, ml_w1) := mq_eq (by decide +kernel)
set_option maxRecDepth 1000000 in
theorem k4_parameter_a : mq3 (mx_runN kb_parameter_a mt_tab (ml_call kb_parameter_a) (some 4) (fun _ => none) mt_L_law 30 (382, ml_lv, [.int 1], ml_w1)) = true := by decide +kernel
set_option maxRecDepth 1000000 in
theorem k2_parameter_a : mx_runN kb_parameter_a mt_tab (mx_call kb_parameter_a mt_tab mo_ovr mo_jmp 0) none (fun _ => none) mt_L_parameter 5 (0, lv_args 0 [.ref 0, .ref 1048578, .ref 1048579, .ref 108], [], ml_w1) = some (5, lv_args 0 [.ref 0, .ref 1048578, .ref 1048579, .ref 108], ([.ref 1048578, .ref 1048579] : List Value).reverse ++ .ref 0 :: [.int 0, .ref 108], ml_w1) := mq_eq (by decide +kernel)
set_option maxRecDepth 1000000 in
theorem k3_parameter_a : mx_runN kb_parameter_a mt_tab (mx_call kb_parameter_a mt_tab mo_ovr mo_jmp 6) none (mo_jmp 103) mt_X8_parameter 2 (0, lv_args 0 (.ref 0 :: [.ref 1048578, .ref 1048579]), [], ml_w1) = some (15, lv_args 0 (.ref 0 :: [.ref 1048578, .ref 1048579]), [], ml_w1) := mq_eq (by decide +kernel)
set_option maxHeartbeats 4000000 in
set_option maxRecDepth 100000 in
theorem ct_parameter_a (hl : l.stackTraces = false) (hfz : r mx_F ≠ .int 0) (C : ml_C kb_parameter_a p s m meth c r D cy (some 4)) (hEX : mx_EX s.heap.size s s.heap) (hv : lv_has ls 8 (mx_lv r ml_lv)) (hR : mx_R D cy r s.heap.size ml_w1 H) (hS : va_S (fun q => s.heap.size ≤ q) s.heap H locs) :
    W p l e room_1 s m #[Value.ref b] below meth c H locs 109 357940 (lw_Z below #[Value.ref b] s) (F0 m 365 ls []) := by
  obtain ⟨hx, hb, hml, hown, hE, hK, hr, hsc, hnm, hfr, hloc, hkb⟩ := C.1
  exact lt_wr (K1 := 12) (pcP := 379) (ixL := 77) (K4 := 30) (mc := 1) (ms := 6) (f := 8) (lo := 320) (MW := mt_L_parameter) (hh := hh_parameter) (a := [.ref 0, .ref 1048578, .ref 1048579, .ref 108]) (w2 := ml_w1) (kv := 1) C hEX k1_parameter_a (mw_thr (d := 6) (K := 5) (pcv := 5) (ixv := 27) (h1 := 14) (y := 103) (n0 := 1178) (MW := mt_L_parameter) (M := mt_X8_parameter) (hh := hh_parameter) (a := [.ref 0, .ref 1048578, .ref 1048579, .ref 108]) (As := [.ref 1048578, .ref 1048579]) (w := ml_w1) (lv := lv_args 0 [.ref 0, .ref 1048578, .ref 1048579, .ref 108]) (rest := [.int 0, .ref 108]) (E := ms_IOB) (kq := 1) (kv := 1) (pw := 1177) hr hkb mw_L_parameter rfl rfl (by decide +kernel) rfl rfl rfl rfl (mv_thr (d := 6) (y := 103) (K := 2) (pcn := 15) (ik := 101) (is := 143) (ic := 105) (pk := 1142) (pn := 168) (M := mt_X8_parameter) (a := .ref 0 :: [.ref 1048578, .ref 1048579]) (w := ml_w1) (lv := lv_args 0 (.ref 0 :: [.ref 1048578, .ref 1048579])) (E := ms_IOB) (tx := "no such parameter") hl hr hkb hfz rfl (by decide) rfl (by decide +kernel) k3_parameter_a (by decide +kernel) (by decide +kernel) (by decide +kernel) (by decide) ms_atB ms_goB (show decode cX8_parameter 15 = .ok (.new 101, 3) by decide +kernel) (show decode cX8_parameter 18 = .ok (.dup, 1) by decide +kernel) (show decode cX8_parameter 19 = .ok (.ldc 143, 2) by decide +kernel) (show decode cX8_parameter 21 = .ok (.invokespecial 105, 3) by decide +kernel) (show decode cX8_parameter 24 = .ok (.athrow, 1) by decide +kernel)) (by decide +kernel) k2_parameter_a rfl (by decide +kernel) ⟨_, rfl⟩ (by decide +kernel) (show decode cL_parameter 5 = .ok (.invokevirtual 27, 3) by decide +kernel) [] (⟨0, 9, 12, 21⟩ : ExceptionTableEntry) [(⟨0, 9, 16, 13⟩ : ExceptionTableEntry)] rfl (fun z hz => by cases hz) (by decide) (by decide) (pc2 := 1137) (by decide +kernel) (pc3 := 1144) (by decide +kernel) (Or.inl ⟨4, by decide +kernel, by decide, rfl⟩) (show decode cL_parameter 14 = .ok (.iconst 1, 1) by decide +kernel) (by decide) (show decode cL_parameter 15 = .ok (.ireturn, 1) by decide +kernel)) hw_parameter ⟨by decide +kernel, by decide +kernel, by decide +kernel⟩ (by decide) (by decide) (by decide) (by decide) ml_len ml_sz (show decode code 379 = .ok (.invokestatic 77, 3) by decide +kernel) k4_parameter_a hv hR hS
def kb_parameter_b : mK := [((.lt, .ref 1048578, .int 0), false), ((.ge, .ref 1048578, .int 0), true)]
set_option maxRecDepth 1000000 in
theorem k1_parameter_b : mx_runN kb_parameter_b mt_tab (ml_call kb_parameter_b) (some 4) (fun _ => none) mt_L_law 12 (365, ml_lv, [], ml_w1) = some (379, ml_lv, ([.ref 0, .ref 1048578, .ref 1048579, .ref 108] : List Value).reverse, ml_w1) := mq_eq (by decide +kernel)
set_option maxRecDepth 1000000 in
theorem k4_parameter_b : mq3 (mx_runN kb_parameter_b mt_tab (ml_call kb_parameter_b) (some 4) (fun _ => none) mt_L_law 30 (382, ml_lv, [.int 1], ml_w1)) = true := by decide +kernel
set_option maxRecDepth 1000000 in
theorem k2_parameter_b : mx_runN kb_parameter_b mt_tab (mx_call kb_parameter_b mt_tab mo_ovr mo_jmp 0) none (fun _ => none) mt_L_parameter 5 (0, lv_args 0 [.ref 0, .ref 1048578, .ref 1048579, .ref 108], [], ml_w1) = some (5, lv_args 0 [.ref 0, .ref 1048578, .ref 1048579, .ref 108], ([.ref 1048578, .ref 1048579] : List Value).reverse ++ .ref 0 :: [.int 0, .ref 108], ml_w1) := mq_eq (by decide +kernel)
set_option maxRecDepth 1000000 in
theorem k3_parameter_b : mx_runN kb_parameter_b mt_tab (mx_call kb_parameter_b mt_tab mo_ovr mo_jmp 6) none (mo_jmp 103) mt_X8_parameter 7 (0, lv_args 0 (.ref 0 :: [.ref 1048578, .ref 1048579]), [], ml_w1) = some (15, lv_args 0 (.ref 0 :: [.ref 1048578, .ref 1048579]), [], ml_w1) := mq_eq (by decide +kernel)
set_option maxHeartbeats 4000000 in
set_option maxRecDepth 100000 in
theorem ct_parameter_b (hl : l.stackTraces = false) (hfz : r mx_F ≠ .int 0) (C : ml_C kb_parameter_b p s m meth c r D cy (some 4)) (hEX : mx_EX s.heap.size s s.heap) (hv : lv_has ls 8 (mx_lv r ml_lv)) (hR : mx_R D cy r s.heap.size ml_w1 H) (hS : va_S (fun q => s.heap.size ≤ q) s.heap H locs) :
    W p l e room_1 s m #[Value.ref b] below meth c H locs 109 357940 (lw_Z below #[Value.ref b] s) (F0 m 365 ls []) := by
  obtain ⟨hx, hb, hml, hown, hE, hK, hr, hsc, hnm, hfr, hloc, hkb⟩ := C.1
  exact lt_wr (K1 := 12) (pcP := 379) (ixL := 77) (K4 := 30) (mc := 1) (ms := 6) (f := 8) (lo := 320) (MW := mt_L_parameter) (hh := hh_parameter) (a := [.ref 0, .ref 1048578, .ref 1048579, .ref 108]) (w2 := ml_w1) (kv := 1) C hEX k1_parameter_b (mw_thr (d := 6) (K := 5) (pcv := 5) (ixv := 27) (h1 := 14) (y := 103) (n0 := 1178) (MW := mt_L_parameter) (M := mt_X8_parameter) (hh := hh_parameter) (a := [.ref 0, .ref 1048578, .ref 1048579, .ref 108]) (As := [.ref 1048578, .ref 1048579]) (w := ml_w1) (lv := lv_args 0 [.ref 0, .ref 1048578, .ref 1048579, .ref 108]) (rest := [.int 0, .ref 108]) (E := ms_IOB) (kq := 1) (kv := 1) (pw := 1177) hr hkb mw_L_parameter rfl rfl (by decide +kernel) rfl rfl rfl rfl (mv_thr (d := 6) (y := 103) (K := 7) (pcn := 15) (ik := 101) (is := 143) (ic := 105) (pk := 1142) (pn := 168) (M := mt_X8_parameter) (a := .ref 0 :: [.ref 1048578, .ref 1048579]) (w := ml_w1) (lv := lv_args 0 (.ref 0 :: [.ref 1048578, .ref 1048579])) (E := ms_IOB) (tx := "no such parameter") hl hr hkb hfz rfl (by decide) rfl (by decide +kernel) k3_parameter_b (by decide +kernel) (by decide +kernel) (by decide +kernel) (by decide) ms_atB ms_goB (show decode cX8_parameter 15 = .ok (.new 101, 3) by decide +kernel) (show decode cX8_parameter 18 = .ok (.dup, 1) by decide +kernel) (show decode cX8_parameter 19 = .ok (.ldc 143, 2) by decide +kernel) (show decode cX8_parameter 21 = .ok (.invokespecial 105, 3) by decide +kernel) (show decode cX8_parameter 24 = .ok (.athrow, 1) by decide +kernel)) (by decide +kernel) k2_parameter_b rfl (by decide +kernel) ⟨_, rfl⟩ (by decide +kernel) (show decode cL_parameter 5 = .ok (.invokevirtual 27, 3) by decide +kernel) [] (⟨0, 9, 12, 21⟩ : ExceptionTableEntry) [(⟨0, 9, 16, 13⟩ : ExceptionTableEntry)] rfl (fun z hz => by cases hz) (by decide) (by decide) (pc2 := 1137) (by decide +kernel) (pc3 := 1144) (by decide +kernel) (Or.inl ⟨4, by decide +kernel, by decide, rfl⟩) (show decode cL_parameter 14 = .ok (.iconst 1, 1) by decide +kernel) (by decide) (show decode cL_parameter 15 = .ok (.ireturn, 1) by decide +kernel)) hw_parameter ⟨by decide +kernel, by decide +kernel, by decide +kernel⟩ (by decide) (by decide) (by decide) (by decide) ml_len ml_sz (show decode code 379 = .ok (.invokestatic 77, 3) by decide +kernel) k4_parameter_b hv hR hS
def kb_way_a : mK := [((.lt, .ref 1048578, .int 0), true), ((.ge, .ref 1048578, .int 0), false)]
set_option maxRecDepth 1000000 in
theorem k1_way_a : mx_runN kb_way_a mt_tab (ml_call kb_way_a) (some 4) (fun _ => none) mt_L_law 12 (432, ml_lv, [], ml_w1) = some (446, ml_lv, ([.ref 0, .ref 1048578, .ref 1048579, .ref 108] : List Value).reverse, ml_w1) := mq_eq (by decide +kernel)
set_option maxRecDepth 1000000 in
theorem k4_way_a : mq3 (mx_runN kb_way_a mt_tab (ml_call kb_way_a) (some 4) (fun _ => none) mt_L_law 30 (449, ml_lv, [.int 1], ml_w1)) = true := by decide +kernel
set_option maxRecDepth 1000000 in
theorem k2_way_a : mx_runN kb_way_a mt_tab (mx_call kb_way_a mt_tab mo_ovr mo_jmp 0) none (fun _ => none) mt_L_way 5 (0, lv_args 0 [.ref 0, .ref 1048578, .ref 1048579, .ref 108], [], ml_w1) = some (5, lv_args 0 [.ref 0, .ref 1048578, .ref 1048579, .ref 108], ([.ref 1048578, .ref 1048579] : List Value).reverse ++ .ref 0 :: [.int 0, .ref 108], ml_w1) := mq_eq (by decide +kernel)
set_option maxRecDepth 1000000 in
theorem k3_way_a : mx_runN kb_way_a mt_tab (mx_call kb_way_a mt_tab mo_ovr mo_jmp 6) none (mo_jmp 104) mt_X8_way 2 (0, lv_args 0 (.ref 0 :: [.ref 1048578, .ref 1048579]), [], ml_w1) = some (30, lv_args 0 (.ref 0 :: [.ref 1048578, .ref 1048579]), [], ml_w1) := mq_eq (by decide +kernel)
set_option maxHeartbeats 4000000 in
set_option maxRecDepth 100000 in
theorem ct_way_a (hl : l.stackTraces = false) (hfz : r mx_F ≠ .int 0) (C : ml_C kb_way_a p s m meth c r D cy (some 4)) (hEX : mx_EX s.heap.size s s.heap) (hv : lv_has ls 8 (mx_lv r ml_lv)) (hR : mx_R D cy r s.heap.size ml_w1 H) (hS : va_S (fun q => s.heap.size ≤ q) s.heap H locs) :
    W p l e room_1 s m #[Value.ref b] below meth c H locs 109 357940 (lw_Z below #[Value.ref b] s) (F0 m 432 ls []) := by
  obtain ⟨hx, hb, hml, hown, hE, hK, hr, hsc, hnm, hfr, hloc, hkb⟩ := C.1
  exact lt_wr (K1 := 12) (pcP := 446) (ixL := 80) (K4 := 30) (mc := 1) (ms := 6) (f := 8) (lo := 320) (MW := mt_L_way) (hh := hh_way) (a := [.ref 0, .ref 1048578, .ref 1048579, .ref 108]) (w2 := ml_w1) (kv := 1) C hEX k1_way_a (mw_thr (d := 6) (K := 5) (pcv := 5) (ixv := 30) (h1 := 15) (y := 104) (n0 := 1187) (MW := mt_L_way) (M := mt_X8_way) (hh := hh_way) (a := [.ref 0, .ref 1048578, .ref 1048579, .ref 108]) (As := [.ref 1048578, .ref 1048579]) (w := ml_w1) (lv := lv_args 0 [.ref 0, .ref 1048578, .ref 1048579, .ref 108]) (rest := [.int 0, .ref 108]) (E := ms_IOB) (kq := 1) (kv := 1) (pw := 1186) hr hkb mw_L_way rfl rfl (by decide +kernel) rfl rfl rfl rfl (mv_thr (d := 6) (y := 104) (K := 2) (pcn := 30) (ik := 101) (is := 143) (ic := 105) (pk := 1142) (pn := 168) (M := mt_X8_way) (a := .ref 0 :: [.ref 1048578, .ref 1048579]) (w := ml_w1) (lv := lv_args 0 (.ref 0 :: [.ref 1048578, .ref 1048579])) (E := ms_IOB) (tx := "no such parameter") hl hr hkb hfz rfl (by decide) rfl (by decide +kernel) k3_way_a (by decide +kernel) (by decide +kernel) (by decide +kernel) (by decide) ms_atB ms_goB (show decode cX8_way 30 = .ok (.new 101, 3) by decide +kernel) (show decode cX8_way 33 = .ok (.dup, 1) by decide +kernel) (show decode cX8_way 34 = .ok (.ldc 143, 2) by decide +kernel) (show decode cX8_way 36 = .ok (.invokespecial 105, 3) by decide +kernel) (show decode cX8_way 39 = .ok (.athrow, 1) by decide +kernel)) (by decide +kernel) k2_way_a rfl (by decide +kernel) ⟨_, rfl⟩ (by decide +kernel) (show decode cL_way 5 = .ok (.invokevirtual 30, 3) by decide +kernel) [] (⟨0, 10, 13, 21⟩ : ExceptionTableEntry) [] rfl (fun z hz => by cases hz) (by decide) (by decide) (pc2 := 1137) (by decide +kernel) (pc3 := 1144) (by decide +kernel) (Or.inl ⟨4, by decide +kernel, by decide, rfl⟩) (show decode cL_way 15 = .ok (.iconst 1, 1) by decide +kernel) (by decide) (show decode cL_way 16 = .ok (.ireturn, 1) by decide +kernel)) hw_way ⟨by decide +kernel, by decide +kernel, by decide +kernel⟩ (by decide) (by decide) (by decide) (by decide) ml_len ml_sz (show decode code 446 = .ok (.invokestatic 80, 3) by decide +kernel) k4_way_a hv hR hS
def kb_way_b : mK := [((.lt, .ref 1048578, .int 0), false), ((.ge, .ref 1048578, .int 0), true)]
set_option maxRecDepth 1000000 in
theorem k1_way_b : mx_runN kb_way_b mt_tab (ml_call kb_way_b) (some 4) (fun _ => none) mt_L_law 12 (432, ml_lv, [], ml_w1) = some (446, ml_lv, ([.ref 0, .ref 1048578, .ref 1048579, .ref 108] : List Value).reverse, ml_w1) := mq_eq (by decide +kernel)
set_option maxRecDepth 1000000 in
theorem k4_way_b : mq3 (mx_runN kb_way_b mt_tab (ml_call kb_way_b) (some 4) (fun _ => none) mt_L_law 30 (449, ml_lv, [.int 1], ml_w1)) = true := by decide +kernel
set_option maxRecDepth 1000000 in
theorem k2_way_b : mx_runN kb_way_b mt_tab (mx_call kb_way_b mt_tab mo_ovr mo_jmp 0) none (fun _ => none) mt_L_way 5 (0, lv_args 0 [.ref 0, .ref 1048578, .ref 1048579, .ref 108], [], ml_w1) = some (5, lv_args 0 [.ref 0, .ref 1048578, .ref 1048579, .ref 108], ([.ref 1048578, .ref 1048579] : List Value).reverse ++ .ref 0 :: [.int 0, .ref 108], ml_w1) := mq_eq (by decide +kernel)
set_option maxRecDepth 1000000 in
theorem k3_way_b : mx_runN kb_way_b mt_tab (mx_call kb_way_b mt_tab mo_ovr mo_jmp 6) none (mo_jmp 104) mt_X8_way 7 (0, lv_args 0 (.ref 0 :: [.ref 1048578, .ref 1048579]), [], ml_w1) = some (30, lv_args 0 (.ref 0 :: [.ref 1048578, .ref 1048579]), [], ml_w1) := mq_eq (by decide +kernel)
set_option maxHeartbeats 4000000 in
set_option maxRecDepth 100000 in
theorem ct_way_b (hl : l.stackTraces = false) (hfz : r mx_F ≠ .int 0) (C : ml_C kb_way_b p s m meth c r D cy (some 4)) (hEX : mx_EX s.heap.size s s.heap) (hv : lv_has ls 8 (mx_lv r ml_lv)) (hR : mx_R D cy r s.heap.size ml_w1 H) (hS : va_S (fun q => s.heap.size ≤ q) s.heap H locs) :
    W p l e room_1 s m #[Value.ref b] below meth c H locs 109 357940 (lw_Z below #[Value.ref b] s) (F0 m 432 ls []) := by
  obtain ⟨hx, hb, hml, hown, hE, hK, hr, hsc, hnm, hfr, hloc, hkb⟩ := C.1
  exact lt_wr (K1 := 12) (pcP := 446) (ixL := 80) (K4 := 30) (mc := 1) (ms := 6) (f := 8) (lo := 320) (MW := mt_L_way) (hh := hh_way) (a := [.ref 0, .ref 1048578, .ref 1048579, .ref 108]) (w2 := ml_w1) (kv := 1) C hEX k1_way_b (mw_thr (d := 6) (K := 5) (pcv := 5) (ixv := 30) (h1 := 15) (y := 104) (n0 := 1187) (MW := mt_L_way) (M := mt_X8_way) (hh := hh_way) (a := [.ref 0, .ref 1048578, .ref 1048579, .ref 108]) (As := [.ref 1048578, .ref 1048579]) (w := ml_w1) (lv := lv_args 0 [.ref 0, .ref 1048578, .ref 1048579, .ref 108]) (rest := [.int 0, .ref 108]) (E := ms_IOB) (kq := 1) (kv := 1) (pw := 1186) hr hkb mw_L_way rfl rfl (by decide +kernel) rfl rfl rfl rfl (mv_thr (d := 6) (y := 104) (K := 7) (pcn := 30) (ik := 101) (is := 143) (ic := 105) (pk := 1142) (pn := 168) (M := mt_X8_way) (a := .ref 0 :: [.ref 1048578, .ref 1048579]) (w := ml_w1) (lv := lv_args 0 (.ref 0 :: [.ref 1048578, .ref 1048579])) (E := ms_IOB) (tx := "no such parameter") hl hr hkb hfz rfl (by decide) rfl (by decide +kernel) k3_way_b (by decide +kernel) (by decide +kernel) (by decide +kernel) (by decide) ms_atB ms_goB (show decode cX8_way 30 = .ok (.new 101, 3) by decide +kernel) (show decode cX8_way 33 = .ok (.dup, 1) by decide +kernel) (show decode cX8_way 34 = .ok (.ldc 143, 2) by decide +kernel) (show decode cX8_way 36 = .ok (.invokespecial 105, 3) by decide +kernel) (show decode cX8_way 39 = .ok (.athrow, 1) by decide +kernel)) (by decide +kernel) k2_way_b rfl (by decide +kernel) ⟨_, rfl⟩ (by decide +kernel) (show decode cL_way 5 = .ok (.invokevirtual 30, 3) by decide +kernel) [] (⟨0, 10, 13, 21⟩ : ExceptionTableEntry) [] rfl (fun z hz => by cases hz) (by decide) (by decide) (pc2 := 1137) (by decide +kernel) (pc3 := 1144) (by decide +kernel) (Or.inl ⟨4, by decide +kernel, by decide, rfl⟩) (show decode cL_way 15 = .ok (.iconst 1, 1) by decide +kernel) (by decide) (show decode cL_way 16 = .ok (.ireturn, 1) by decide +kernel)) hw_way ⟨by decide +kernel, by decide +kernel, by decide +kernel⟩ (by decide) (by decide) (by decide) (by decide) ml_len ml_sz (show decode code 446 = .ok (.invokestatic 80, 3) by decide +kernel) k4_way_b hv hR hS
def kb_variable_a : mK := [((.lt, .ref 1048578, .int 0), true), ((.ge, .ref 1048578, .int 0), false)]
set_option maxRecDepth 1000000 in
theorem k1_variable_a : mx_runN kb_variable_a mt_tab (ml_call kb_variable_a) (some 4) (fun _ => none) mt_L_law 12 (625, ml_lv, [], ml_w1) = some (639, ml_lv, ([.ref 0, .ref 1048578, .ref 1048579, .ref 108] : List Value).reverse, ml_w1) := mq_eq (by decide +kernel)
set_option maxRecDepth 1000000 in
theorem k4_variable_a : mq3 (mx_runN kb_variable_a mt_tab (ml_call kb_variable_a) (some 4) (fun _ => none) mt_L_law 30 (642, ml_lv, [.int 1], ml_w1)) = true := by decide +kernel
set_option maxRecDepth 1000000 in
theorem k2_variable_a : mx_runN kb_variable_a mt_tab (mx_call kb_variable_a mt_tab mo_ovr mo_jmp 0) none (fun _ => none) mt_L_variable 5 (0, lv_args 0 [.ref 0, .ref 1048578, .ref 1048579, .ref 108], [], ml_w1) = some (5, lv_args 0 [.ref 0, .ref 1048578, .ref 1048579, .ref 108], ([.ref 1048578, .ref 1048579] : List Value).reverse ++ .ref 0 :: [.int 0, .ref 108], ml_w1) := mq_eq (by decide +kernel)
set_option maxRecDepth 1000000 in
theorem k3_variable_a : mx_runN kb_variable_a mt_tab (mx_call kb_variable_a mt_tab mo_ovr mo_jmp 6) none (mo_jmp 108) mt_X8_variable 2 (0, lv_args 0 (.ref 0 :: [.ref 1048578, .ref 1048579]), [], ml_w1) = some (15, lv_args 0 (.ref 0 :: [.ref 1048578, .ref 1048579]), [], ml_w1) := mq_eq (by decide +kernel)
set_option maxHeartbeats 4000000 in
set_option maxRecDepth 100000 in
theorem ct_variable_a (hl : l.stackTraces = false) (hfz : r mx_F ≠ .int 0) (C : ml_C kb_variable_a p s m meth c r D cy (some 4)) (hEX : mx_EX s.heap.size s s.heap) (hv : lv_has ls 8 (mx_lv r ml_lv)) (hR : mx_R D cy r s.heap.size ml_w1 H) (hS : va_S (fun q => s.heap.size ≤ q) s.heap H locs) :
    W p l e room_1 s m #[Value.ref b] below meth c H locs 109 357940 (lw_Z below #[Value.ref b] s) (F0 m 625 ls []) := by
  obtain ⟨hx, hb, hml, hown, hE, hK, hr, hsc, hnm, hfr, hloc, hkb⟩ := C.1
  exact lt_wr (K1 := 12) (pcP := 639) (ixL := 94) (K4 := 30) (mc := 1) (ms := 6) (f := 8) (lo := 320) (MW := mt_L_variable) (hh := hh_variable) (a := [.ref 0, .ref 1048578, .ref 1048579, .ref 108]) (w2 := ml_w1) (kv := 1) C hEX k1_variable_a (mw_thr (d := 6) (K := 5) (pcv := 5) (ixv := 40) (h1 := 15) (y := 108) (n0 := 1245) (MW := mt_L_variable) (M := mt_X8_variable) (hh := hh_variable) (a := [.ref 0, .ref 1048578, .ref 1048579, .ref 108]) (As := [.ref 1048578, .ref 1048579]) (w := ml_w1) (lv := lv_args 0 [.ref 0, .ref 1048578, .ref 1048579, .ref 108]) (rest := [.int 0, .ref 108]) (E := ms_IOB) (kq := 1) (kv := 1) (pw := 1244) hr hkb mw_L_variable rfl rfl (by decide +kernel) rfl rfl rfl rfl (mv_thr (d := 6) (y := 108) (K := 2) (pcn := 15) (ik := 101) (is := 229) (ic := 105) (pk := 1142) (pn := 168) (M := mt_X8_variable) (a := .ref 0 :: [.ref 1048578, .ref 1048579]) (w := ml_w1) (lv := lv_args 0 (.ref 0 :: [.ref 1048578, .ref 1048579])) (E := ms_IOB) (tx := "no such variable") hl hr hkb hfz rfl (by decide) rfl (by decide +kernel) k3_variable_a (by decide +kernel) (by decide +kernel) (by decide +kernel) (by decide) ms_atB ms_goB (show decode cX8_variable 15 = .ok (.new 101, 3) by decide +kernel) (show decode cX8_variable 18 = .ok (.dup, 1) by decide +kernel) (show decode cX8_variable 19 = .ok (.ldc 229, 2) by decide +kernel) (show decode cX8_variable 21 = .ok (.invokespecial 105, 3) by decide +kernel) (show decode cX8_variable 24 = .ok (.athrow, 1) by decide +kernel)) (by decide +kernel) k2_variable_a rfl (by decide +kernel) ⟨_, rfl⟩ (by decide +kernel) (show decode cL_variable 5 = .ok (.invokevirtual 40, 3) by decide +kernel) [] (⟨0, 10, 13, 21⟩ : ExceptionTableEntry) [] rfl (fun z hz => by cases hz) (by decide) (by decide) (pc2 := 1137) (by decide +kernel) (pc3 := 1144) (by decide +kernel) (Or.inl ⟨4, by decide +kernel, by decide, rfl⟩) (show decode cL_variable 15 = .ok (.iconst 1, 1) by decide +kernel) (by decide) (show decode cL_variable 16 = .ok (.ireturn, 1) by decide +kernel)) hw_variable ⟨by decide +kernel, by decide +kernel, by decide +kernel⟩ (by decide) (by decide) (by decide) (by decide) ml_len ml_sz (show decode code 639 = .ok (.invokestatic 94, 3) by decide +kernel) k4_variable_a hv hR hS
def kb_variable_b : mK := [((.lt, .ref 1048578, .int 0), false), ((.ge, .ref 1048578, .int 0), true)]
set_option maxRecDepth 1000000 in
theorem k1_variable_b : mx_runN kb_variable_b mt_tab (ml_call kb_variable_b) (some 4) (fun _ => none) mt_L_law 12 (625, ml_lv, [], ml_w1) = some (639, ml_lv, ([.ref 0, .ref 1048578, .ref 1048579, .ref 108] : List Value).reverse, ml_w1) := mq_eq (by decide +kernel)
set_option maxRecDepth 1000000 in
theorem k4_variable_b : mq3 (mx_runN kb_variable_b mt_tab (ml_call kb_variable_b) (some 4) (fun _ => none) mt_L_law 30 (642, ml_lv, [.int 1], ml_w1)) = true := by decide +kernel
set_option maxRecDepth 1000000 in
theorem k2_variable_b : mx_runN kb_variable_b mt_tab (mx_call kb_variable_b mt_tab mo_ovr mo_jmp 0) none (fun _ => none) mt_L_variable 5 (0, lv_args 0 [.ref 0, .ref 1048578, .ref 1048579, .ref 108], [], ml_w1) = some (5, lv_args 0 [.ref 0, .ref 1048578, .ref 1048579, .ref 108], ([.ref 1048578, .ref 1048579] : List Value).reverse ++ .ref 0 :: [.int 0, .ref 108], ml_w1) := mq_eq (by decide +kernel)
set_option maxRecDepth 1000000 in
theorem k3_variable_b : mx_runN kb_variable_b mt_tab (mx_call kb_variable_b mt_tab mo_ovr mo_jmp 6) none (mo_jmp 108) mt_X8_variable 7 (0, lv_args 0 (.ref 0 :: [.ref 1048578, .ref 1048579]), [], ml_w1) = some (15, lv_args 0 (.ref 0 :: [.ref 1048578, .ref 1048579]), [], ml_w1) := mq_eq (by decide +kernel)
set_option maxHeartbeats 4000000 in
set_option maxRecDepth 100000 in
theorem ct_variable_b (hl : l.stackTraces = false) (hfz : r mx_F ≠ .int 0) (C : ml_C kb_variable_b p s m meth c r D cy (some 4)) (hEX : mx_EX s.heap.size s s.heap) (hv : lv_has ls 8 (mx_lv r ml_lv)) (hR : mx_R D cy r s.heap.size ml_w1 H) (hS : va_S (fun q => s.heap.size ≤ q) s.heap H locs) :
    W p l e room_1 s m #[Value.ref b] below meth c H locs 109 357940 (lw_Z below #[Value.ref b] s) (F0 m 625 ls []) := by
  obtain ⟨hx, hb, hml, hown, hE, hK, hr, hsc, hnm, hfr, hloc, hkb⟩ := C.1
  exact lt_wr (K1 := 12) (pcP := 639) (ixL := 94) (K4 := 30) (mc := 1) (ms := 6) (f := 8) (lo := 320) (MW := mt_L_variable) (hh := hh_variable) (a := [.ref 0, .ref 1048578, .ref 1048579, .ref 108]) (w2 := ml_w1) (kv := 1) C hEX k1_variable_b (mw_thr (d := 6) (K := 5) (pcv := 5) (ixv := 40) (h1 := 15) (y := 108) (n0 := 1245) (MW := mt_L_variable) (M := mt_X8_variable) (hh := hh_variable) (a := [.ref 0, .ref 1048578, .ref 1048579, .ref 108]) (As := [.ref 1048578, .ref 1048579]) (w := ml_w1) (lv := lv_args 0 [.ref 0, .ref 1048578, .ref 1048579, .ref 108]) (rest := [.int 0, .ref 108]) (E := ms_IOB) (kq := 1) (kv := 1) (pw := 1244) hr hkb mw_L_variable rfl rfl (by decide +kernel) rfl rfl rfl rfl (mv_thr (d := 6) (y := 108) (K := 7) (pcn := 15) (ik := 101) (is := 229) (ic := 105) (pk := 1142) (pn := 168) (M := mt_X8_variable) (a := .ref 0 :: [.ref 1048578, .ref 1048579]) (w := ml_w1) (lv := lv_args 0 (.ref 0 :: [.ref 1048578, .ref 1048579])) (E := ms_IOB) (tx := "no such variable") hl hr hkb hfz rfl (by decide) rfl (by decide +kernel) k3_variable_b (by decide +kernel) (by decide +kernel) (by decide +kernel) (by decide) ms_atB ms_goB (show decode cX8_variable 15 = .ok (.new 101, 3) by decide +kernel) (show decode cX8_variable 18 = .ok (.dup, 1) by decide +kernel) (show decode cX8_variable 19 = .ok (.ldc 229, 2) by decide +kernel) (show decode cX8_variable 21 = .ok (.invokespecial 105, 3) by decide +kernel) (show decode cX8_variable 24 = .ok (.athrow, 1) by decide +kernel)) (by decide +kernel) k2_variable_b rfl (by decide +kernel) ⟨_, rfl⟩ (by decide +kernel) (show decode cL_variable 5 = .ok (.invokevirtual 40, 3) by decide +kernel) [] (⟨0, 10, 13, 21⟩ : ExceptionTableEntry) [] rfl (fun z hz => by cases hz) (by decide) (by decide) (pc2 := 1137) (by decide +kernel) (pc3 := 1144) (by decide +kernel) (Or.inl ⟨4, by decide +kernel, by decide, rfl⟩) (show decode cL_variable 15 = .ok (.iconst 1, 1) by decide +kernel) (by decide) (show decode cL_variable 16 = .ok (.ireturn, 1) by decide +kernel)) hw_variable ⟨by decide +kernel, by decide +kernel, by decide +kernel⟩ (by decide) (by decide) (by decide) (by decide) ml_len ml_sz (show decode code 639 = .ok (.invokestatic 94, 3) by decide +kernel) k4_variable_b hv hR hS
def kb_written_a : mK := [((.lt, .ref 1048578, .int 0), true), ((.ge, .ref 1048578, .int 0), false)]
set_option maxRecDepth 1000000 in
theorem k1_written_a : mx_runN kb_written_a mt_tab (ml_call kb_written_a) (some 4) (fun _ => none) mt_L_law 7 (693, ml_lv, [], ml_w1) = some (701, ml_lv, ([.ref 0, .ref 1048578, .ref 108] : List Value).reverse, ml_w1) := mq_eq (by decide +kernel)
set_option maxRecDepth 1000000 in
theorem k4_written_a : mq3 (mx_runN kb_written_a mt_tab (ml_call kb_written_a) (some 4) (fun _ => none) mt_L_law 25 (704, ml_lv, [.int 1], ml_w1)) = true := by decide +kernel
set_option maxRecDepth 1000000 in
theorem k2_written_a : mx_runN kb_written_a mt_tab (mx_call kb_written_a mt_tab mo_ovr mo_jmp 0) none (fun _ => none) mt_L_written 4 (0, lv_args 0 [.ref 0, .ref 1048578, .ref 108], [], ml_w1) = some (4, lv_args 0 [.ref 0, .ref 1048578, .ref 108], ([.ref 1048578] : List Value).reverse ++ .ref 0 :: [.int 0, .ref 108], ml_w1) := mq_eq (by decide +kernel)
set_option maxRecDepth 1000000 in
theorem k3_written_a : mx_runN kb_written_a mt_tab (mx_call kb_written_a mt_tab mo_ovr mo_jmp 6) none (mo_jmp 109) mt_X8_written 2 (0, lv_args 0 (.ref 0 :: [.ref 1048578]), [], ml_w1) = some (15, lv_args 0 (.ref 0 :: [.ref 1048578]), [], ml_w1) := mq_eq (by decide +kernel)
set_option maxHeartbeats 4000000 in
set_option maxRecDepth 100000 in
theorem ct_written_a (hl : l.stackTraces = false) (hfz : r mx_F ≠ .int 0) (C : ml_C kb_written_a p s m meth c r D cy (some 4)) (hEX : mx_EX s.heap.size s s.heap) (hv : lv_has ls 8 (mx_lv r ml_lv)) (hR : mx_R D cy r s.heap.size ml_w1 H) (hS : va_S (fun q => s.heap.size ≤ q) s.heap H locs) :
    W p l e room_1 s m #[Value.ref b] below meth c H locs 109 357940 (lw_Z below #[Value.ref b] s) (F0 m 693 ls []) := by
  obtain ⟨hx, hb, hml, hown, hE, hK, hr, hsc, hnm, hfr, hloc, hkb⟩ := C.1
  exact lt_wr (K1 := 7) (pcP := 701) (ixL := 97) (K4 := 25) (mc := 1) (ms := 6) (f := 8) (lo := 320) (MW := mt_L_written) (hh := hh_written) (a := [.ref 0, .ref 1048578, .ref 108]) (w2 := ml_w1) (kv := 1) C hEX k1_written_a (mw_thr (d := 6) (K := 4) (pcv := 4) (ixv := 43) (h1 := 13) (y := 109) (n0 := 1254) (MW := mt_L_written) (M := mt_X8_written) (hh := hh_written) (a := [.ref 0, .ref 1048578, .ref 108]) (As := [.ref 1048578]) (w := ml_w1) (lv := lv_args 0 [.ref 0, .ref 1048578, .ref 108]) (rest := [.int 0, .ref 108]) (E := ms_IOB) (kq := 1) (kv := 1) (pw := 1253) hr hkb mw_L_written rfl rfl (by decide +kernel) rfl rfl rfl rfl (mv_thr (d := 6) (y := 109) (K := 2) (pcn := 15) (ik := 101) (is := 237) (ic := 105) (pk := 1142) (pn := 168) (M := mt_X8_written) (a := .ref 0 :: [.ref 1048578]) (w := ml_w1) (lv := lv_args 0 (.ref 0 :: [.ref 1048578])) (E := ms_IOB) (tx := "no such byte") hl hr hkb hfz rfl (by decide) rfl (by decide +kernel) k3_written_a (by decide +kernel) (by decide +kernel) (by decide +kernel) (by decide) ms_atB ms_goB (show decode cX8_written 15 = .ok (.new 101, 3) by decide +kernel) (show decode cX8_written 18 = .ok (.dup, 1) by decide +kernel) (show decode cX8_written 19 = .ok (.ldc 237, 2) by decide +kernel) (show decode cX8_written 21 = .ok (.invokespecial 105, 3) by decide +kernel) (show decode cX8_written 24 = .ok (.athrow, 1) by decide +kernel)) (by decide +kernel) k2_written_a rfl (by decide +kernel) ⟨_, rfl⟩ (by decide +kernel) (show decode cL_written 4 = .ok (.invokevirtual 43, 3) by decide +kernel) [] (⟨0, 9, 12, 21⟩ : ExceptionTableEntry) [] rfl (fun z hz => by cases hz) (by decide) (by decide) (pc2 := 1137) (by decide +kernel) (pc3 := 1144) (by decide +kernel) (Or.inr ⟨3, by decide +kernel, by decide, rfl⟩) (show decode cL_written 13 = .ok (.iconst 1, 1) by decide +kernel) (by decide) (show decode cL_written 14 = .ok (.ireturn, 1) by decide +kernel)) hw_written ⟨by decide +kernel, by decide +kernel, by decide +kernel⟩ (by decide) (by decide) (by decide) (by decide) ml_len ml_sz (show decode code 701 = .ok (.invokestatic 97, 3) by decide +kernel) k4_written_a hv hR hS
def kb_written_b : mK := [((.lt, .ref 1048578, .int 0), false), ((.ge, .ref 1048578, .int 0), true)]
set_option maxRecDepth 1000000 in
theorem k1_written_b : mx_runN kb_written_b mt_tab (ml_call kb_written_b) (some 4) (fun _ => none) mt_L_law 7 (693, ml_lv, [], ml_w1) = some (701, ml_lv, ([.ref 0, .ref 1048578, .ref 108] : List Value).reverse, ml_w1) := mq_eq (by decide +kernel)
set_option maxRecDepth 1000000 in
theorem k4_written_b : mq3 (mx_runN kb_written_b mt_tab (ml_call kb_written_b) (some 4) (fun _ => none) mt_L_law 25 (704, ml_lv, [.int 1], ml_w1)) = true := by decide +kernel
set_option maxRecDepth 1000000 in
theorem k2_written_b : mx_runN kb_written_b mt_tab (mx_call kb_written_b mt_tab mo_ovr mo_jmp 0) none (fun _ => none) mt_L_written 4 (0, lv_args 0 [.ref 0, .ref 1048578, .ref 108], [], ml_w1) = some (4, lv_args 0 [.ref 0, .ref 1048578, .ref 108], ([.ref 1048578] : List Value).reverse ++ .ref 0 :: [.int 0, .ref 108], ml_w1) := mq_eq (by decide +kernel)
set_option maxRecDepth 1000000 in
theorem k3_written_b : mx_runN kb_written_b mt_tab (mx_call kb_written_b mt_tab mo_ovr mo_jmp 6) none (mo_jmp 109) mt_X8_written 7 (0, lv_args 0 (.ref 0 :: [.ref 1048578]), [], ml_w1) = some (15, lv_args 0 (.ref 0 :: [.ref 1048578]), [], ml_w1) := mq_eq (by decide +kernel)
set_option maxHeartbeats 4000000 in
set_option maxRecDepth 100000 in
theorem ct_written_b (hl : l.stackTraces = false) (hfz : r mx_F ≠ .int 0) (C : ml_C kb_written_b p s m meth c r D cy (some 4)) (hEX : mx_EX s.heap.size s s.heap) (hv : lv_has ls 8 (mx_lv r ml_lv)) (hR : mx_R D cy r s.heap.size ml_w1 H) (hS : va_S (fun q => s.heap.size ≤ q) s.heap H locs) :
    W p l e room_1 s m #[Value.ref b] below meth c H locs 109 357940 (lw_Z below #[Value.ref b] s) (F0 m 693 ls []) := by
  obtain ⟨hx, hb, hml, hown, hE, hK, hr, hsc, hnm, hfr, hloc, hkb⟩ := C.1
  exact lt_wr (K1 := 7) (pcP := 701) (ixL := 97) (K4 := 25) (mc := 1) (ms := 6) (f := 8) (lo := 320) (MW := mt_L_written) (hh := hh_written) (a := [.ref 0, .ref 1048578, .ref 108]) (w2 := ml_w1) (kv := 1) C hEX k1_written_b (mw_thr (d := 6) (K := 4) (pcv := 4) (ixv := 43) (h1 := 13) (y := 109) (n0 := 1254) (MW := mt_L_written) (M := mt_X8_written) (hh := hh_written) (a := [.ref 0, .ref 1048578, .ref 108]) (As := [.ref 1048578]) (w := ml_w1) (lv := lv_args 0 [.ref 0, .ref 1048578, .ref 108]) (rest := [.int 0, .ref 108]) (E := ms_IOB) (kq := 1) (kv := 1) (pw := 1253) hr hkb mw_L_written rfl rfl (by decide +kernel) rfl rfl rfl rfl (mv_thr (d := 6) (y := 109) (K := 7) (pcn := 15) (ik := 101) (is := 237) (ic := 105) (pk := 1142) (pn := 168) (M := mt_X8_written) (a := .ref 0 :: [.ref 1048578]) (w := ml_w1) (lv := lv_args 0 (.ref 0 :: [.ref 1048578])) (E := ms_IOB) (tx := "no such byte") hl hr hkb hfz rfl (by decide) rfl (by decide +kernel) k3_written_b (by decide +kernel) (by decide +kernel) (by decide +kernel) (by decide) ms_atB ms_goB (show decode cX8_written 15 = .ok (.new 101, 3) by decide +kernel) (show decode cX8_written 18 = .ok (.dup, 1) by decide +kernel) (show decode cX8_written 19 = .ok (.ldc 237, 2) by decide +kernel) (show decode cX8_written 21 = .ok (.invokespecial 105, 3) by decide +kernel) (show decode cX8_written 24 = .ok (.athrow, 1) by decide +kernel)) (by decide +kernel) k2_written_b rfl (by decide +kernel) ⟨_, rfl⟩ (by decide +kernel) (show decode cL_written 4 = .ok (.invokevirtual 43, 3) by decide +kernel) [] (⟨0, 9, 12, 21⟩ : ExceptionTableEntry) [] rfl (fun z hz => by cases hz) (by decide) (by decide) (pc2 := 1137) (by decide +kernel) (pc3 := 1144) (by decide +kernel) (Or.inr ⟨3, by decide +kernel, by decide, rfl⟩) (show decode cL_written 13 = .ok (.iconst 1, 1) by decide +kernel) (by decide) (show decode cL_written 14 = .ok (.ireturn, 1) by decide +kernel)) hw_written ⟨by decide +kernel, by decide +kernel, by decide +kernel⟩ (by decide) (by decide) (by decide) (by decide) ml_len ml_sz (show decode code 701 = .ok (.invokestatic 97, 3) by decide +kernel) k4_written_b hv hR hS
def kb_ask_a : mK := [((.lt, .ref 1048578, .int 0), true), ((.ge, .ref 1048578, .int 0), false)]
set_option maxRecDepth 1000000 in
theorem k1_ask_a : mx_runN kb_ask_a mt_tab (ml_call kb_ask_a) (some 4) (fun _ => none) mt_L_law 7 (500, ml_lv, [], ml_w1) = some (508, ml_lv, ([.ref 0, .ref 1048578, .ref 108] : List Value).reverse, ml_w1) := mq_eq (by decide +kernel)
set_option maxRecDepth 1000000 in
theorem k4_ask_a : mq3 (mx_runN kb_ask_a mt_tab (ml_call kb_ask_a) (some 4) (fun _ => none) mt_L_law 25 (511, ml_lv, [.int 1], ml_w1)) = true := by decide +kernel
set_option maxRecDepth 1000000 in
theorem k2_ask_a : mx_runN kb_ask_a mt_tab (mx_call kb_ask_a mt_tab mo_ovr mo_jmp 0) none (fun _ => none) mt_L_ask 4 (0, lv_args 0 [.ref 0, .ref 1048578, .ref 108], [], ml_w1) = some (4, lv_args 0 [.ref 0, .ref 1048578, .ref 108], ([.ref 1048578] : List Value).reverse ++ .ref 0 :: [.int 0, .ref 108], ml_w1) := mq_eq (by decide +kernel)
set_option maxRecDepth 1000000 in
theorem k3_ask_a : mx_runN kb_ask_a mt_tab (mx_call kb_ask_a mt_tab mo_ovr mo_jmp 6) none (mo_jmp 105) mt_X8_ask 2 (0, lv_args 0 (.ref 0 :: [.ref 1048578]), [], ml_w1) = some (11, lv_args 0 (.ref 0 :: [.ref 1048578]), [], ml_w1) := mq_eq (by decide +kernel)
set_option maxHeartbeats 4000000 in
set_option maxRecDepth 100000 in
theorem ct_ask_a (hl : l.stackTraces = false) (hfz : r mx_F ≠ .int 0) (C : ml_C kb_ask_a p s m meth c r D cy (some 4)) (hEX : mx_EX s.heap.size s s.heap) (hv : lv_has ls 8 (mx_lv r ml_lv)) (hR : mx_R D cy r s.heap.size ml_w1 H) (hS : va_S (fun q => s.heap.size ≤ q) s.heap H locs) :
    W p l e room_1 s m #[Value.ref b] below meth c H locs 109 357940 (lw_Z below #[Value.ref b] s) (F0 m 500 ls []) := by
  obtain ⟨hx, hb, hml, hown, hE, hK, hr, hsc, hnm, hfr, hloc, hkb⟩ := C.1
  exact lt_wr (K1 := 7) (pcP := 508) (ixL := 83) (K4 := 25) (mc := 1) (ms := 6) (f := 8) (lo := 320) (MW := mt_L_ask) (hh := hh_ask) (a := [.ref 0, .ref 1048578, .ref 108]) (w2 := ml_w1) (kv := 1) C hEX k1_ask_a (mw_thr (d := 6) (K := 4) (pcv := 4) (ixv := 33) (h1 := 13) (y := 105) (n0 := 1194) (MW := mt_L_ask) (M := mt_X8_ask) (hh := hh_ask) (a := [.ref 0, .ref 1048578, .ref 108]) (As := [.ref 1048578]) (w := ml_w1) (lv := lv_args 0 [.ref 0, .ref 1048578, .ref 108]) (rest := [.int 0, .ref 108]) (E := ms_IAE) (kq := 1) (kv := 1) (pw := 1193) hr hkb mw_L_ask rfl rfl (by decide +kernel) rfl rfl rfl rfl (mv_thr (d := 6) (y := 105) (K := 2) (pcn := 11) (ik := 62) (is := 162) (ic := 66) (pk := 1046) (pn := 161) (M := mt_X8_ask) (a := .ref 0 :: [.ref 1048578]) (w := ml_w1) (lv := lv_args 0 (.ref 0 :: [.ref 1048578])) (E := ms_IAE) (tx := "fuel is 0 to 3000") hl hr hkb hfz rfl (by decide) rfl (by decide +kernel) k3_ask_a (by decide +kernel) (by decide +kernel) (by decide +kernel) (by decide) ms_atA ms_goA (show decode cX8_ask 11 = .ok (.new 62, 3) by decide +kernel) (show decode cX8_ask 14 = .ok (.dup, 1) by decide +kernel) (show decode cX8_ask 15 = .ok (.ldc 162, 2) by decide +kernel) (show decode cX8_ask 17 = .ok (.invokespecial 66, 3) by decide +kernel) (show decode cX8_ask 20 = .ok (.athrow, 1) by decide +kernel)) (by decide +kernel) k2_ask_a rfl (by decide +kernel) ⟨_, rfl⟩ (by decide +kernel) (show decode cL_ask 4 = .ok (.invokevirtual 33, 3) by decide +kernel) [] (⟨0, 9, 12, 13⟩ : ExceptionTableEntry) [] rfl (fun z hz => by cases hz) (by decide) (by decide) (pc2 := 1040) (by decide +kernel) (pc3 := 1048) (by decide +kernel) (Or.inr ⟨3, by decide +kernel, by decide, rfl⟩) (show decode cL_ask 13 = .ok (.iconst 1, 1) by decide +kernel) (by decide) (show decode cL_ask 14 = .ok (.ireturn, 1) by decide +kernel)) hw_ask ⟨by decide +kernel, by decide +kernel, by decide +kernel⟩ (by decide) (by decide) (by decide) (by decide) ml_len ml_sz (show decode code 508 = .ok (.invokestatic 83, 3) by decide +kernel) k4_ask_a hv hR hS
def kb_ask_b : mK := [((.lt, .ref 1048578, .int 0), false), ((.ge, .ref 1048578, .int 0), true), ((.gt, .ref 1048578, .int 3000), true), ((.le, .ref 1048578, .int 3000), false)]
set_option maxRecDepth 1000000 in
theorem k1_ask_b : mx_runN kb_ask_b mt_tab (ml_call kb_ask_b) (some 4) (fun _ => none) mt_L_law 7 (500, ml_lv, [], ml_w1) = some (508, ml_lv, ([.ref 0, .ref 1048578, .ref 108] : List Value).reverse, ml_w1) := mq_eq (by decide +kernel)
set_option maxRecDepth 1000000 in
theorem k4_ask_b : mq3 (mx_runN kb_ask_b mt_tab (ml_call kb_ask_b) (some 4) (fun _ => none) mt_L_law 25 (511, ml_lv, [.int 1], ml_w1)) = true := by decide +kernel
set_option maxRecDepth 1000000 in
theorem k2_ask_b : mx_runN kb_ask_b mt_tab (mx_call kb_ask_b mt_tab mo_ovr mo_jmp 0) none (fun _ => none) mt_L_ask 4 (0, lv_args 0 [.ref 0, .ref 1048578, .ref 108], [], ml_w1) = some (4, lv_args 0 [.ref 0, .ref 1048578, .ref 108], ([.ref 1048578] : List Value).reverse ++ .ref 0 :: [.int 0, .ref 108], ml_w1) := mq_eq (by decide +kernel)
set_option maxRecDepth 1000000 in
theorem k3_ask_b : mx_runN kb_ask_b mt_tab (mx_call kb_ask_b mt_tab mo_ovr mo_jmp 6) none (mo_jmp 105) mt_X8_ask 5 (0, lv_args 0 (.ref 0 :: [.ref 1048578]), [], ml_w1) = some (11, lv_args 0 (.ref 0 :: [.ref 1048578]), [], ml_w1) := mq_eq (by decide +kernel)
set_option maxHeartbeats 4000000 in
set_option maxRecDepth 100000 in
theorem ct_ask_b (hl : l.stackTraces = false) (hfz : r mx_F ≠ .int 0) (C : ml_C kb_ask_b p s m meth c r D cy (some 4)) (hEX : mx_EX s.heap.size s s.heap) (hv : lv_has ls 8 (mx_lv r ml_lv)) (hR : mx_R D cy r s.heap.size ml_w1 H) (hS : va_S (fun q => s.heap.size ≤ q) s.heap H locs) :
    W p l e room_1 s m #[Value.ref b] below meth c H locs 109 357940 (lw_Z below #[Value.ref b] s) (F0 m 500 ls []) := by
  obtain ⟨hx, hb, hml, hown, hE, hK, hr, hsc, hnm, hfr, hloc, hkb⟩ := C.1
  exact lt_wr (K1 := 7) (pcP := 508) (ixL := 83) (K4 := 25) (mc := 1) (ms := 6) (f := 8) (lo := 320) (MW := mt_L_ask) (hh := hh_ask) (a := [.ref 0, .ref 1048578, .ref 108]) (w2 := ml_w1) (kv := 1) C hEX k1_ask_b (mw_thr (d := 6) (K := 4) (pcv := 4) (ixv := 33) (h1 := 13) (y := 105) (n0 := 1194) (MW := mt_L_ask) (M := mt_X8_ask) (hh := hh_ask) (a := [.ref 0, .ref 1048578, .ref 108]) (As := [.ref 1048578]) (w := ml_w1) (lv := lv_args 0 [.ref 0, .ref 1048578, .ref 108]) (rest := [.int 0, .ref 108]) (E := ms_IAE) (kq := 1) (kv := 1) (pw := 1193) hr hkb mw_L_ask rfl rfl (by decide +kernel) rfl rfl rfl rfl (mv_thr (d := 6) (y := 105) (K := 5) (pcn := 11) (ik := 62) (is := 162) (ic := 66) (pk := 1046) (pn := 161) (M := mt_X8_ask) (a := .ref 0 :: [.ref 1048578]) (w := ml_w1) (lv := lv_args 0 (.ref 0 :: [.ref 1048578])) (E := ms_IAE) (tx := "fuel is 0 to 3000") hl hr hkb hfz rfl (by decide) rfl (by decide +kernel) k3_ask_b (by decide +kernel) (by decide +kernel) (by decide +kernel) (by decide) ms_atA ms_goA (show decode cX8_ask 11 = .ok (.new 62, 3) by decide +kernel) (show decode cX8_ask 14 = .ok (.dup, 1) by decide +kernel) (show decode cX8_ask 15 = .ok (.ldc 162, 2) by decide +kernel) (show decode cX8_ask 17 = .ok (.invokespecial 66, 3) by decide +kernel) (show decode cX8_ask 20 = .ok (.athrow, 1) by decide +kernel)) (by decide +kernel) k2_ask_b rfl (by decide +kernel) ⟨_, rfl⟩ (by decide +kernel) (show decode cL_ask 4 = .ok (.invokevirtual 33, 3) by decide +kernel) [] (⟨0, 9, 12, 13⟩ : ExceptionTableEntry) [] rfl (fun z hz => by cases hz) (by decide) (by decide) (pc2 := 1040) (by decide +kernel) (pc3 := 1048) (by decide +kernel) (Or.inr ⟨3, by decide +kernel, by decide, rfl⟩) (show decode cL_ask 13 = .ok (.iconst 1, 1) by decide +kernel) (by decide) (show decode cL_ask 14 = .ok (.ireturn, 1) by decide +kernel)) hw_ask ⟨by decide +kernel, by decide +kernel, by decide +kernel⟩ (by decide) (by decide) (by decide) (by decide) ml_len ml_sz (show decode code 508 = .ok (.invokestatic 83, 3) by decide +kernel) k4_ask_b hv hR hS
def kb_ask_r : mK := [((.lt, .ref 1048578, .int 0), false), ((.ge, .ref 1048578, .int 0), true), ((.gt, .ref 1048578, .int 3000), false), ((.le, .ref 1048578, .int 3000), true)]
def w2_ask_r : mW := ([.inl (8, [.ref 1, .ref 6, .ref 10, .ref 14, .ref 32, .ref 50, .ref 52, .int 2]),
  .inl (5, [.ref 2, .ref 3, .ref 4, .ref 5, .int 0, .int 0, .int 0, .int 0, .long 0]),
  .inr ((0, 800), .inl (0, [])),
  .inr ((0, 801), .inl (0, [(0, 0)])),
  .inr ((0, 801), .inl (0, [(0, 0)])),
  .inr ((1, 801), .inr (0, [(0, 0)])),
  .inl (7, [.ref 7, .ref 8, .ref 9, .int 0]),
  .inr ((0, 6400), .inl (0, [])),
  .inr ((0, 6400), .inl (0, [])),
  .inr ((0, 80), .inl (0, [])),
  .inl (2, [.ref 11, .ref 12, .ref 13, .int 0, .int 0]),
  .inr ((0, 1000), .inl (0, [])),
  .inr ((0, 1001), .inl (0, [])),
  .inr ((0, 1001), .inl (0, [])),
  .inl (4, [.ref 15, .ref 16, .ref 17, .ref 18, .ref 19, .ref 20, .ref 21, .ref 22, .ref 23, .ref 24, .ref 25, .ref 26, .int 1, .int 0, .int 0]),
  .inr ((1, 21), .inr (0, [(0, 4288121)])),
  .inr ((0, 21), .inl (0, [(0, 0)])),
  .inr ((0, 21), .inl (0, [(0, 0)])),
  .inr ((0, 21), .inl (0, [(0, 0)])),
  .inr ((0, 84), .inl (0, [])),
  .inr ((1, 80), .inr (0, [])),
  .inr ((0, 80), .inl (0, [])),
  .inr ((0, 80), .inl (0, [])),
  .inr ((0, 160), .inl (0, [])),
  .inr ((0, 160), .inl (0, [])),
  .inr ((0, 300), .inl (0, [])),
  .inl (1, [.ref 27, .ref 28, .ref 29, .ref 30, .int 0, .ref 31, .int 1]),
  .inr ((0, 441), .inl (0, [(0, 0)])),
  .inr ((0, 441), .inl (0, [(0, 1)])),
  .inr ((0, 4), .inl (0, [])),
  .inr ((0, 4), .inl (0, [])),
  .inr ((0, 1024), .inl (0, [(0, 0)])),
  .inl (4, [.ref 33, .ref 34, .ref 35, .ref 36, .ref 37, .ref 38, .ref 39, .ref 40, .ref 41, .ref 42, .ref 43, .ref 44, .int 1, .int 0, .int 0]),
  .inr ((1, 21), .inr (0, [(0, 4288121)])),
  .inr ((0, 21), .inl (0, [(0, 0)])),
  .inr ((0, 21), .inl (0, [(0, 0)])),
  .inr ((0, 21), .inl (0, [(0, 0)])),
  .inr ((0, 84), .inl (0, [])),
  .inr ((1, 80), .inr (0, [])),
  .inr ((0, 80), .inl (0, [])),
  .inr ((0, 80), .inl (0, [])),
  .inr ((0, 160), .inl (0, [])),
  .inr ((0, 160), .inl (0, [])),
  .inr ((0, 300), .inl (0, [])),
  .inl (1, [.ref 45, .ref 46, .ref 47, .ref 48, .int 0, .ref 49, .int 1]),
  .inr ((0, 441), .inl (0, [(0, 0)])),
  .inr ((0, 441), .inl (0, [(0, 1)])),
  .inr ((0, 4), .inl (0, [])),
  .inr ((0, 4), .inl (0, [])),
  .inr ((0, 1024), .inl (0, [(0, 0)])),
  .inl (3, [.ref 1, .ref 51, .ref 14, .ref 51, .int 0, .int (-1), .int 0, .int (-1), .int 2, .int 0, .int 0]),
  .inr ((0, 300), .inl (0, [])),
  .inl (0, [.ref 59, .ref 53, .ref 54, .ref 55, .ref 56, .ref 57, .ref 58, .ref 14, .int 0, .int 0, .int 0, .int 0, .int 0, .int 0, .int 0]),
  .inr ((0, 300), .inl (0, [])),
  .inr ((0, 900), .inl (0, [])),
  .inr ((0, 300), .inl (0, [])),
  .inr ((0, 4), .inl (0, [])),
  .inr ((0, 8), .inl (0, [])),
  .inr ((0, 164), .inl (0, [])),
  .inl (6, [.ref 60, .ref 61, .ref 62, .ref 63, .ref 64, .ref 65, .ref 14, .int 1, .int 0]),
  .inr ((0, 7000), .inl (0, [(0, 0)])),
  .inr ((0, 7000), .inl (0, [(0, 0)])),
  .inr ((0, 7000), .inl (0, [(0, (-1))])),
  .inr ((0, 7000), .inl (0, [])),
  .inr ((0, 2048), .inl ((-1), [(0, 0)])),
  .inr ((0, 300), .inl (0, [])),
  .inl (9, [.ref 67, .ref 68, .ref 69, .ref 70, .ref 71, .ref 72, .ref 73, .int 0, .int 1, .ref 74, .ref 75, .ref 76, .ref 77, .ref 78, .ref 79, .ref 80, .ref 81, .ref 82, .ref 83, .ref 84, .int 1, .int 0, .int 0, .int 1, .int 0, .int 0, .int 0, .int 0, .ref 85, .int 0, .int 0, .int 0, .int 0, .int 0, .int 0, .int 0, .int 0, .int 0, .int 0, .ref 86, .ref 87, .int 0, .ref 88, .ref 89, .ref 90, .int 0, .int 0, .int 0, .int 0, .ref 91, .ref 92, .ref 93, .ref 94, .ref 95, .int 0, .ref 96, .int 0, .int 0, .ref 97, .ref 98, .int 0, .ref 99, .ref 100, .ref 101, .ref 102, .ref 103, .ref 104, .ref 105, .int 0, .ref 106, .int 0, .int 0, .int 0, .ref 107, .int 0, .int 0, .int 0]),
  .inr ((0, 20000), .inl (0, [(0, 0)])),
  .inr ((0, 20000), .inl (0, [(0, 0)])),
  .inr ((0, 20000), .inl (0, [(0, 0)])),
  .inr ((0, 80000), .inl (0, [])),
  .inr ((0, 20000), .inl (0, [(0, 1)])),
  .inr ((0, 20000), .inl (0, [(0, (-1))])),
  .inr ((0, 2048), .inl ((-1), [(0, 0)])),
  .inr ((0, 4), .inl (0, [])),
  .inr ((1, 42), .inr (0, [(0, 4288121)])),
  .inr ((0, 42), .inl (0, [(0, 0)])),
  .inr ((0, 42), .inl (0, [(0, 0)])),
  .inr ((0, 168), .inl (0, [])),
  .inr ((0, 42), .inl (0, [(0, 0)])),
  .inr ((0, 882), .inl (0, [(0, 0), (20, (-1)), (19, (-1)), (18, (-1)), (17, (-1)), (16, (-1)), (15, (-1)), (14, (-1)), (13, (-1)), (12, (-1)), (11, (-1)), (10, (-1)), (9, (-1)), (8, (-1)), (7, (-1)), (6, (-1)), (5, (-1)), (4, (-1)), (3, (-1)), (2, (-1)), (1, (-1)), (0, (-1))])),
  .inr ((1, 160), .inr (0, [])),
  .inr ((0, 160), .inl (0, [])),
  .inr ((0, 320), .inl (0, [])),
  .inr ((0, 160), .inl (0, [])),
  .inr ((0, 800), .inl (0, [])),
  .inr ((0, 6400), .inl (0, [])),
  .inr ((2, 6400), .inl (0, [])),
  .inr ((0, 900), .inl (0, [])),
  .inr ((0, 300), .inl (0, [])),
  .inr ((0, 300), .inl (0, [])),
  .inr ((0, 42), .inl (0, [])),
  .inr ((0, 42), .inl (0, [])),
  .inr ((0, 42), .inl (0, [])),
  .inr ((0, 42), .inl (0, [])),
  .inr ((0, 42), .inl (0, [])),
  .inr ((3, 1000), .inl (0, [])),
  .inr ((0, 20000), .inl (0, [])),
  .inr ((0, 20000), .inl (0, [])),
  .inr ((0, 20000), .inl (0, [])),
  .inr ((2, 10), .inl (0, [])),
  .inr ((0, 10), .inl (0, [])),
  .inr ((0, 10), .inl (0, [])),
  .inr ((0, 40), .inl (0, [])),
  .inr ((0, 10), .inl (0, [])),
  .inr ((0, 20000), .inl (0, [])),
  .inr ((0, 20000), .inl (0, [])),
  .inr ((0, 4), .inl (0, [])),
  .inr ((1, 1), .inr (0, [(0, (-10))]))], 357940)
set_option maxRecDepth 1000000 in
theorem k1_ask_r : mx_runN kb_ask_r mt_tab (ml_call kb_ask_r) (some 4) (fun _ => none) mt_L_law 7 (500, ml_lv, [], ml_w1) = some (508, ml_lv, ([.ref 0, .ref 1048578, .ref 108] : List Value).reverse, ml_w1) := mq_eq (by decide +kernel)
set_option maxRecDepth 1000000 in
theorem k4_ask_r : mq3 (mx_runN kb_ask_r mt_tab (ml_call kb_ask_r) (some 4) (fun _ => none) mt_L_law 32 (511, ml_lv, [.int 0], w2_ask_r)) = true := by decide +kernel
set_option maxRecDepth 1000000 in
theorem k2_ask_r : mx_loop kb_ask_r mt_tab (mx_call kb_ask_r mt_tab mo_ovr mo_jmp 38) (fun _ => none) mt_L_ask 1000 (0, lv_args 0 [.ref 0, .ref 1048578, .ref 108], [], ml_w1) = some (some (.int 0), w2_ask_r) := mq2_eq (by decide +kernel)
theorem k3_ask_r : w2_ask_r.1.length = 109 ∧ w2_ask_r.2 = 357940 := by decide +kernel
set_option maxHeartbeats 4000000 in
set_option maxRecDepth 100000 in
theorem ct_ask_r (hl : l.stackTraces = false) (hfz : r mx_F ≠ .int 0) (C : ml_C kb_ask_r p s m meth c r D cy (some 4)) (hEX : mx_EX s.heap.size s s.heap) (hv : lv_has ls 8 (mx_lv r ml_lv)) (hR : mx_R D cy r s.heap.size ml_w1 H) (hS : va_S (fun q => s.heap.size ≤ q) s.heap H locs) :
    W p l e room_1 s m #[Value.ref b] below meth c H locs 109 357940 (lw_Z below #[Value.ref b] s) (F0 m 500 ls []) := by
  obtain ⟨hx, hb, hml, hown, hE, hK, hr, hsc, hnm, hfr, hloc, hkb⟩ := C.1
  exact lt_wr (K1 := 7) (pcP := 508) (ixL := 83) (K4 := 32) (mc := w2_ask_r.1.length - ml_w1.1.length) (ms := w2_ask_r.2 - ml_w1.2) (f := 39) (lo := 40 * 39) (MW := mt_L_ask) (hh := hh_ask) (a := [.ref 0, .ref 1048578, .ref 108]) (w2 := w2_ask_r) (kv := 0) C hEX k1_ask_r (mw_ret (d := 38) (MW := mt_L_ask) (hh := hh_ask) (a := [.ref 0, .ref 1048578, .ref 108]) (w := ml_w1) (w' := w2_ask_r) (v := some (.int 0)) hr hkb mw_L_ask rfl rfl (by decide +kernel) k2_ask_r) hw_ask ⟨by decide +kernel, by decide +kernel, by decide +kernel⟩ (by decide) (by decide) (by rw [k3_ask_r.1, ml_len]; decide) (by rw [k3_ask_r.2, ml_sz]; decide) k3_ask_r.1 k3_ask_r.2 (show decode code 508 = .ok (.invokestatic 83, 3) by decide +kernel) k4_ask_r hv hR hS
end MC1
