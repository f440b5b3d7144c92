/-! ### cases of the law, 1 -/
section MC0
variable {p : Program} {l : Launch} {e : Env} {s : State} {m : MethodId} {below : List Frame} {meth : Method} {c : Code} {b : Nat} {r : Nat → Value} {D : va_G} {cy : Nat → ClassId} {H : Heap} {ls : Array Slot} {locs : List Loc}
def kb_cls_a : mK := [((.lt, .ref 1048578, .int 0), true), ((.ge, .ref 1048578, .int 0), false)]
set_option maxRecDepth 1000000 in
theorem k1_cls_a : mx_runN kb_cls_a mt_tab (ml_call kb_cls_a) (some 4) (fun _ => none) mt_L_law 12 (230, ml_lv, [], ml_w1) = some (244, ml_lv, ([.ref 0, .ref 1048578, .ref 1048579, .ref 108] : List Value).reverse, ml_w1) := mq_eq (by decide +kernel)
set_option maxRecDepth 1000000 in
theorem k4_cls_a : mq3 (mx_runN kb_cls_a mt_tab (ml_call kb_cls_a) (some 4) (fun _ => none) mt_L_law 30 (247, ml_lv, [.int 1], ml_w1)) = true := by decide +kernel
set_option maxRecDepth 1000000 in
theorem k2_cls_a : mx_runN kb_cls_a mt_tab (mx_call kb_cls_a mt_tab mo_ovr mo_jmp 0) none (fun _ => none) mt_L_cls 5 (0, lv_args 0 [.ref 0, .ref 1048578, .ref 1048579, .ref 108], [], ml_w1) = some (5, lv_args 0 [.ref 0, .ref 1048578, .ref 1048579, .ref 108], ([.ref 1048578, .ref 1048579] : List Value).reverse ++ .ref 0 :: [.int 0, .ref 108], ml_w1) := mq_eq (by decide +kernel)
set_option maxRecDepth 1000000 in
theorem k3_cls_a : mx_runN kb_cls_a mt_tab (mx_call kb_cls_a mt_tab mo_ovr mo_jmp 6) none (mo_jmp 101) mt_X8_cls 2 (0, lv_args 0 (.ref 0 :: [.ref 1048578, .ref 1048579]), [], ml_w1) = some (15, lv_args 0 (.ref 0 :: [.ref 1048578, .ref 1048579]), [], ml_w1) := mq_eq (by decide +kernel)
set_option maxHeartbeats 4000000 in
set_option maxRecDepth 100000 in
theorem ct_cls_a (hl : l.stackTraces = false) (hfz : r mx_F ≠ .int 0) (C : ml_C kb_cls_a p s m meth c r D cy (some 4)) (hEX : mx_EX s.heap.size s s.heap) (hv : lv_has ls 8 (mx_lv r ml_lv)) (hR : mx_R D cy r s.heap.size ml_w1 H) (hS : va_S (fun q => s.heap.size ≤ q) s.heap H locs) :
    W p l e room_1 s m #[Value.ref b] below meth c H locs 109 357940 (lw_Z below #[Value.ref b] s) (F0 m 230 ls []) := by
  obtain ⟨hx, hb, hml, hown, hE, hK, hr, hsc, hnm, hfr, hloc, hkb⟩ := C.1
  exact lt_wr (K1 := 12) (pcP := 244) (ixL := 70) (K4 := 30) (mc := 1) (ms := 6) (f := 8) (lo := 320) (MW := mt_L_cls) (hh := hh_cls) (a := [.ref 0, .ref 1048578, .ref 1048579, .ref 108]) (w2 := ml_w1) (kv := 1) C hEX k1_cls_a (mw_thr (d := 6) (K := 5) (pcv := 5) (ixv := 17) (h1 := 14) (y := 101) (n0 := 1138) (MW := mt_L_cls) (M := mt_X8_cls) (hh := hh_cls) (a := [.ref 0, .ref 1048578, .ref 1048579, .ref 108]) (As := [.ref 1048578, .ref 1048579]) (w := ml_w1) (lv := lv_args 0 [.ref 0, .ref 1048578, .ref 1048579, .ref 108]) (rest := [.int 0, .ref 108]) (E := ms_IOB) (kq := 1) (kv := 1) (pw := 1136) hr hkb mw_L_cls rfl rfl (by decide +kernel) rfl rfl rfl rfl (mv_thr (d := 6) (y := 101) (K := 2) (pcn := 15) (ik := 101) (is := 103) (ic := 105) (pk := 1142) (pn := 168) (M := mt_X8_cls) (a := .ref 0 :: [.ref 1048578, .ref 1048579]) (w := ml_w1) (lv := lv_args 0 (.ref 0 :: [.ref 1048578, .ref 1048579])) (E := ms_IOB) (tx := "no such class") hl hr hkb hfz rfl (by decide) rfl (by decide +kernel) k3_cls_a (by decide +kernel) (by decide +kernel) (by decide +kernel) (by decide) ms_atB ms_goB (show decode cX8_cls 15 = .ok (.new 101, 3) by decide +kernel) (show decode cX8_cls 18 = .ok (.dup, 1) by decide +kernel) (show decode cX8_cls 19 = .ok (.ldc 103, 2) by decide +kernel) (show decode cX8_cls 21 = .ok (.invokespecial 105, 3) by decide +kernel) (show decode cX8_cls 24 = .ok (.athrow, 1) by decide +kernel)) (by decide +kernel) k2_cls_a rfl (by decide +kernel) ⟨_, rfl⟩ (by decide +kernel) (show decode cL_cls 5 = .ok (.invokevirtual 17, 3) by decide +kernel) [] (⟨0, 9, 12, 21⟩ : ExceptionTableEntry) [(⟨0, 9, 16, 13⟩ : ExceptionTableEntry)] rfl (fun z hz => by cases hz) (by decide) (by decide) (pc2 := 1137) (by decide +kernel) (pc3 := 1144) (by decide +kernel) (Or.inl ⟨4, by decide +kernel, by decide, rfl⟩) (show decode cL_cls 14 = .ok (.iconst 1, 1) by decide +kernel) (by decide) (show decode cL_cls 15 = .ok (.ireturn, 1) by decide +kernel)) hw_cls ⟨by decide +kernel, by decide +kernel, by decide +kernel⟩ (by decide) (by decide) (by decide) (by decide) ml_len ml_sz (show decode code 244 = .ok (.invokestatic 70, 3) by decide +kernel) k4_cls_a hv hR hS
def kb_cls_b : mK := [((.lt, .ref 1048578, .int 0), false), ((.ge, .ref 1048578, .int 0), true), ((.ge, .ref 1048578, .int 1), true), ((.lt, .ref 1048578, .int 1), false)]
set_option maxRecDepth 1000000 in
theorem k1_cls_b : mx_runN kb_cls_b mt_tab (ml_call kb_cls_b) (some 4) (fun _ => none) mt_L_law 12 (230, ml_lv, [], ml_w1) = some (244, ml_lv, ([.ref 0, .ref 1048578, .ref 1048579, .ref 108] : List Value).reverse, ml_w1) := mq_eq (by decide +kernel)
set_option maxRecDepth 1000000 in
theorem k4_cls_b : mq3 (mx_runN kb_cls_b mt_tab (ml_call kb_cls_b) (some 4) (fun _ => none) mt_L_law 30 (247, ml_lv, [.int 1], ml_w1)) = true := by decide +kernel
set_option maxRecDepth 1000000 in
theorem k2_cls_b : mx_runN kb_cls_b mt_tab (mx_call kb_cls_b mt_tab mo_ovr mo_jmp 0) none (fun _ => none) mt_L_cls 5 (0, lv_args 0 [.ref 0, .ref 1048578, .ref 1048579, .ref 108], [], ml_w1) = some (5, lv_args 0 [.ref 0, .ref 1048578, .ref 1048579, .ref 108], ([.ref 1048578, .ref 1048579] : List Value).reverse ++ .ref 0 :: [.int 0, .ref 108], ml_w1) := mq_eq (by decide +kernel)
set_option maxRecDepth 1000000 in
theorem k3_cls_b : mx_runN kb_cls_b mt_tab (mx_call kb_cls_b mt_tab mo_ovr mo_jmp 6) none (mo_jmp 101) mt_X8_cls 7 (0, lv_args 0 (.ref 0 :: [.ref 1048578, .ref 1048579]), [], ml_w1) = some (15, lv_args 0 (.ref 0 :: [.ref 1048578, .ref 1048579]), [], ml_w1) := mq_eq (by decide +kernel)
set_option maxHeartbeats 4000000 in
set_option maxRecDepth 100000 in
theorem ct_cls_b (hl : l.stackTraces = false) (hfz : r mx_F ≠ .int 0) (C : ml_C kb_cls_b p s m meth c r D cy (some 4)) (hEX : mx_EX s.heap.size s s.heap) (hv : lv_has ls 8 (mx_lv r ml_lv)) (hR : mx_R D cy r s.heap.size ml_w1 H) (hS : va_S (fun q => s.heap.size ≤ q) s.heap H locs) :
    W p l e room_1 s m #[Value.ref b] below meth c H locs 109 357940 (lw_Z below #[Value.ref b] s) (F0 m 230 ls []) := by
  obtain ⟨hx, hb, hml, hown, hE, hK, hr, hsc, hnm, hfr, hloc, hkb⟩ := C.1
  exact lt_wr (K1 := 12) (pcP := 244) (ixL := 70) (K4 := 30) (mc := 1) (ms := 6) (f := 8) (lo := 320) (MW := mt_L_cls) (hh := hh_cls) (a := [.ref 0, .ref 1048578, .ref 1048579, .ref 108]) (w2 := ml_w1) (kv := 1) C hEX k1_cls_b (mw_thr (d := 6) (K := 5) (pcv := 5) (ixv := 17) (h1 := 14) (y := 101) (n0 := 1138) (MW := mt_L_cls) (M := mt_X8_cls) (hh := hh_cls) (a := [.ref 0, .ref 1048578, .ref 1048579, .ref 108]) (As := [.ref 1048578, .ref 1048579]) (w := ml_w1) (lv := lv_args 0 [.ref 0, .ref 1048578, .ref 1048579, .ref 108]) (rest := [.int 0, .ref 108]) (E := ms_IOB) (kq := 1) (kv := 1) (pw := 1136) hr hkb mw_L_cls rfl rfl (by decide +kernel) rfl rfl rfl rfl (mv_thr (d := 6) (y := 101) (K := 7) (pcn := 15) (ik := 101) (is := 103) (ic := 105) (pk := 1142) (pn := 168) (M := mt_X8_cls) (a := .ref 0 :: [.ref 1048578, .ref 1048579]) (w := ml_w1) (lv := lv_args 0 (.ref 0 :: [.ref 1048578, .ref 1048579])) (E := ms_IOB) (tx := "no such class") hl hr hkb hfz rfl (by decide) rfl (by decide +kernel) k3_cls_b (by decide +kernel) (by decide +kernel) (by decide +kernel) (by decide) ms_atB ms_goB (show decode cX8_cls 15 = .ok (.new 101, 3) by decide +kernel) (show decode cX8_cls 18 = .ok (.dup, 1) by decide +kernel) (show decode cX8_cls 19 = .ok (.ldc 103, 2) by decide +kernel) (show decode cX8_cls 21 = .ok (.invokespecial 105, 3) by decide +kernel) (show decode cX8_cls 24 = .ok (.athrow, 1) by decide +kernel)) (by decide +kernel) k2_cls_b rfl (by decide +kernel) ⟨_, rfl⟩ (by decide +kernel) (show decode cL_cls 5 = .ok (.invokevirtual 17, 3) by decide +kernel) [] (⟨0, 9, 12, 21⟩ : ExceptionTableEntry) [(⟨0, 9, 16, 13⟩ : ExceptionTableEntry)] rfl (fun z hz => by cases hz) (by decide) (by decide) (pc2 := 1137) (by decide +kernel) (pc3 := 1144) (by decide +kernel) (Or.inl ⟨4, by decide +kernel, by decide, rfl⟩) (show decode cL_cls 14 = .ok (.iconst 1, 1) by decide +kernel) (by decide) (show decode cL_cls 15 = .ok (.ireturn, 1) by decide +kernel)) hw_cls ⟨by decide +kernel, by decide +kernel, by decide +kernel⟩ (by decide) (by decide) (by decide) (by decide) ml_len ml_sz (show decode code 244 = .ok (.invokestatic 70, 3) by decide +kernel) k4_cls_b hv hR hS
def kb_cls_c : mK := [((.eq, .ref 1048578, .int 0), true), ((.lt, .ref 1048579, .int 0), true), ((.ge, .ref 1048579, .int 0), false)]
set_option maxRecDepth 1000000 in
theorem k1_cls_c : mx_runN kb_cls_c mt_tab (ml_call kb_cls_c) (some 4) (fun _ => none) mt_L_law 12 (230, ml_lv, [], ml_w1) = some (244, ml_lv, ([.ref 0, .int 0, .ref 1048579, .ref 108] : List Value).reverse, ml_w1) := mq_eq (by decide +kernel)
set_option maxRecDepth 1000000 in
theorem k4_cls_c : mq3 (mx_runN kb_cls_c mt_tab (ml_call kb_cls_c) (some 4) (fun _ => none) mt_L_law 30 (247, ml_lv, [.int 2], ml_w1)) = true := by decide +kernel
set_option maxRecDepth 1000000 in
theorem k2_cls_c : mx_runN kb_cls_c mt_tab (mx_call kb_cls_c mt_tab mo_ovr mo_jmp 0) none (fun _ => none) mt_L_cls 5 (0, lv_args 0 [.ref 0, .int 0, .ref 1048579, .ref 108], [], ml_w1) = some (5, lv_args 0 [.ref 0, .int 0, .ref 1048579, .ref 108], ([.int 0, .ref 1048579] : List Value).reverse ++ .ref 0 :: [.int 0, .ref 108], ml_w1) := mq_eq (by decide +kernel)
set_option maxRecDepth 1000000 in
theorem k3_cls_c : mx_runN kb_cls_c mt_tab (mx_call kb_cls_c mt_tab mo_ovr mo_jmp 6) none (mo_jmp 101) mt_X8_cls 9 (0, lv_args 0 (.ref 0 :: [.int 0, .ref 1048579]), [], ml_w1) = some (135, lv_args 0 (.ref 0 :: [.int 0, .ref 1048579]), [], ml_w1) := mq_eq (by decide +kernel)
set_option maxHeartbeats 4000000 in
set_option maxRecDepth 100000 in
theorem ct_cls_c (hl : l.stackTraces = false) (hfz : r mx_F ≠ .int 0) (C : ml_C kb_cls_c p s m meth c r D cy (some 4)) (hEX : mx_EX s.heap.size s s.heap) (hv : lv_has ls 8 (mx_lv r ml_lv)) (hR : mx_R D cy r s.heap.size ml_w1 H) (hS : va_S (fun q => s.heap.size ≤ q) s.heap H locs) :
    W p l e room_1 s m #[Value.ref b] below meth c H locs 109 357940 (lw_Z below #[Value.ref b] s) (F0 m 230 ls []) := by
  obtain ⟨hx, hb, hml, hown, hE, hK, hr, hsc, hnm, hfr, hloc, hkb⟩ := C.1
  exact lt_wr (K1 := 12) (pcP := 244) (ixL := 70) (K4 := 30) (mc := 1) (ms := 6) (f := 8) (lo := 320) (MW := mt_L_cls) (hh := hh_cls) (a := [.ref 0, .int 0, .ref 1048579, .ref 108]) (w2 := ml_w1) (kv := 2) C hEX k1_cls_c (mw_thr (d := 6) (K := 5) (pcv := 5) (ixv := 17) (h1 := 18) (y := 101) (n0 := 1138) (MW := mt_L_cls) (M := mt_X8_cls) (hh := hh_cls) (a := [.ref 0, .int 0, .ref 1048579, .ref 108]) (As := [.int 0, .ref 1048579]) (w := ml_w1) (lv := lv_args 0 [.ref 0, .int 0, .ref 1048579, .ref 108]) (rest := [.int 0, .ref 108]) (E := ms_IAE) (kq := 2) (kv := 2) (pw := 1136) hr hkb mw_L_cls rfl rfl (by decide +kernel) rfl rfl rfl rfl (mv_thr (d := 6) (y := 101) (K := 9) (pcn := 135) (ik := 62) (is := 134) (ic := 66) (pk := 1046) (pn := 161) (M := mt_X8_cls) (a := .ref 0 :: [.int 0, .ref 1048579]) (w := ml_w1) (lv := lv_args 0 (.ref 0 :: [.int 0, .ref 1048579])) (E := ms_IAE) (tx := "what is 0 to 4") hl hr hkb hfz rfl (by decide) rfl (by decide +kernel) k3_cls_c (by decide +kernel) (by decide +kernel) (by decide +kernel) (by decide) ms_atA ms_goA (show decode cX8_cls 135 = .ok (.new 62, 3) by decide +kernel) (show decode cX8_cls 138 = .ok (.dup, 1) by decide +kernel) (show decode cX8_cls 139 = .ok (.ldc 134, 2) by decide +kernel) (show decode cX8_cls 141 = .ok (.invokespecial 66, 3) by decide +kernel) (show decode cX8_cls 144 = .ok (.athrow, 1) by decide +kernel)) (by decide +kernel) k2_cls_c rfl (by decide +kernel) ⟨_, rfl⟩ (by decide +kernel) (show decode cL_cls 5 = .ok (.invokevirtual 17, 3) by decide +kernel) [(⟨0, 9, 12, 21⟩ : ExceptionTableEntry)] (⟨0, 9, 16, 13⟩ : ExceptionTableEntry) [] rfl (fun z hz => by rw [List.mem_singleton.mp hz]; exact ⟨rfl, by decide, rfl, 1137, by decide +kernel⟩) (by decide) (by decide) (pc2 := 1040) (by decide +kernel) (pc3 := 1048) (by decide +kernel) (Or.inl ⟨4, by decide +kernel, by decide, rfl⟩) (show decode cL_cls 18 = .ok (.iconst 2, 1) by decide +kernel) (by decide) (show decode cL_cls 19 = .ok (.ireturn, 1) by decide +kernel)) hw_cls ⟨by decide +kernel, by decide +kernel, by decide +kernel⟩ (by decide) (by decide) (by decide) (by decide) ml_len ml_sz (show decode code 244 = .ok (.invokestatic 70, 3) by decide +kernel) k4_cls_c hv hR hS
def kb_cls_d : mK := [((.eq, .ref 1048578, .int 0), true), ((.lt, .ref 1048579, .int 0), false), ((.ge, .ref 1048579, .int 0), true), ((.gt, .ref 1048579, .int 4), true), ((.le, .ref 1048579, .int 4), false)]
set_option maxRecDepth 1000000 in
theorem k1_cls_d : mx_runN kb_cls_d mt_tab (ml_call kb_cls_d) (some 4) (fun _ => none) mt_L_law 12 (230, ml_lv, [], ml_w1) = some (244, ml_lv, ([.ref 0, .int 0, .ref 1048579, .ref 108] : List Value).reverse, ml_w1) := mq_eq (by decide +kernel)
set_option maxRecDepth 1000000 in
theorem k4_cls_d : mq3 (mx_runN kb_cls_d mt_tab (ml_call kb_cls_d) (some 4) (fun _ => none) mt_L_law 30 (247, ml_lv, [.int 2], ml_w1)) = true := by decide +kernel
set_option maxRecDepth 1000000 in
theorem k2_cls_d : mx_runN kb_cls_d mt_tab (mx_call kb_cls_d mt_tab mo_ovr mo_jmp 0) none (fun _ => none) mt_L_cls 5 (0, lv_args 0 [.ref 0, .int 0, .ref 1048579, .ref 108], [], ml_w1) = some (5, lv_args 0 [.ref 0, .int 0, .ref 1048579, .ref 108], ([.int 0, .ref 1048579] : List Value).reverse ++ .ref 0 :: [.int 0, .ref 108], ml_w1) := mq_eq (by decide +kernel)
set_option maxRecDepth 1000000 in
theorem k3_cls_d : mx_runN kb_cls_d mt_tab (mx_call kb_cls_d mt_tab mo_ovr mo_jmp 6) none (mo_jmp 101) mt_X8_cls 9 (0, lv_args 0 (.ref 0 :: [.int 0, .ref 1048579]), [], ml_w1) = some (135, lv_args 0 (.ref 0 :: [.int 0, .ref 1048579]), [], ml_w1) := mq_eq (by decide +kernel)
set_option maxHeartbeats 4000000 in
set_option maxRecDepth 100000 in
theorem ct_cls_d (hl : l.stackTraces = false) (hfz : r mx_F ≠ .int 0) (C : ml_C kb_cls_d p s m meth c r D cy (some 4)) (hEX : mx_EX s.heap.size s s.heap) (hv : lv_has ls 8 (mx_lv r ml_lv)) (hR : mx_R D cy r s.heap.size ml_w1 H) (hS : va_S (fun q => s.heap.size ≤ q) s.heap H locs) :
    W p l e room_1 s m #[Value.ref b] below meth c H locs 109 357940 (lw_Z below #[Value.ref b] s) (F0 m 230 ls []) := by
  obtain ⟨hx, hb, hml, hown, hE, hK, hr, hsc, hnm, hfr, hloc, hkb⟩ := C.1
  exact lt_wr (K1 := 12) (pcP := 244) (ixL := 70) (K4 := 30) (mc := 1) (ms := 6) (f := 8) (lo := 320) (MW := mt_L_cls) (hh := hh_cls) (a := [.ref 0, .int 0, .ref 1048579, .ref 108]) (w2 := ml_w1) (kv := 2) C hEX k1_cls_d (mw_thr (d := 6) (K := 5) (pcv := 5) (ixv := 17) (h1 := 18) (y := 101) (n0 := 1138) (MW := mt_L_cls) (M := mt_X8_cls) (hh := hh_cls) (a := [.ref 0, .int 0, .ref 1048579, .ref 108]) (As := [.int 0, .ref 1048579]) (w := ml_w1) (lv := lv_args 0 [.ref 0, .int 0, .ref 1048579, .ref 108]) (rest := [.int 0, .ref 108]) (E := ms_IAE) (kq := 2) (kv := 2) (pw := 1136) hr hkb mw_L_cls rfl rfl (by decide +kernel) rfl rfl rfl rfl (mv_thr (d := 6) (y := 101) (K := 9) (pcn := 135) (ik := 62) (is := 134) (ic := 66) (pk := 1046) (pn := 161) (M := mt_X8_cls) (a := .ref 0 :: [.int 0, .ref 1048579]) (w := ml_w1) (lv := lv_args 0 (.ref 0 :: [.int 0, .ref 1048579])) (E := ms_IAE) (tx := "what is 0 to 4") hl hr hkb hfz rfl (by decide) rfl (by decide +kernel) k3_cls_d (by decide +kernel) (by decide +kernel) (by decide +kernel) (by decide) ms_atA ms_goA (show decode cX8_cls 135 = .ok (.new 62, 3) by decide +kernel) (show decode cX8_cls 138 = .ok (.dup, 1) by decide +kernel) (show decode cX8_cls 139 = .ok (.ldc 134, 2) by decide +kernel) (show decode cX8_cls 141 = .ok (.invokespecial 66, 3) by decide +kernel) (show decode cX8_cls 144 = .ok (.athrow, 1) by decide +kernel)) (by decide +kernel) k2_cls_d rfl (by decide +kernel) ⟨_, rfl⟩ (by decide +kernel) (show decode cL_cls 5 = .ok (.invokevirtual 17, 3) by decide +kernel) [(⟨0, 9, 12, 21⟩ : ExceptionTableEntry)] (⟨0, 9, 16, 13⟩ : ExceptionTableEntry) [] rfl (fun z hz => by rw [List.mem_singleton.mp hz]; exact ⟨rfl, by decide, rfl, 1137, by decide +kernel⟩) (by decide) (by decide) (pc2 := 1040) (by decide +kernel) (pc3 := 1048) (by decide +kernel) (Or.inl ⟨4, by decide +kernel, by decide, rfl⟩) (show decode cL_cls 18 = .ok (.iconst 2, 1) by decide +kernel) (by decide) (show decode cL_cls 19 = .ok (.ireturn, 1) by decide +kernel)) hw_cls ⟨by decide +kernel, by decide +kernel, by decide +kernel⟩ (by decide) (by decide) (by decide) (by decide) ml_len ml_sz (show decode code 244 = .ok (.invokestatic 70, 3) by decide +kernel) k4_cls_d hv hR hS
def kb_cls_r0 : mK := [((.eq, .ref 1048578, .int 0), true), ((.eq, .ref 1048579, .int 0), true)]
def w2_cls_r0 : mW := ([.inl (8, [.ref 1, .ref 6, .ref 10, .ref 14, .ref 32, .ref 50, .ref 52, .int 0]),
  .inl (5, [.ref 2, .ref 3, .ref 4, .ref 5, .int 0, .int 0, .int 0, .int 0, .long 0]),
  .inr ((0, 800), .inl (0, [])),
  .inr ((0, 801), .inl (0, [])),
  .inr ((0, 801), .inl (0, [])),
  .inr ((1, 801), .inr (0, [])),
  .inl (7, [.ref 7, .ref 8, .ref 9, .int 0]),
  .inr ((0, 6400), .inl (0, [])),
  .inr ((0, 6400), .inl (0, [])),
  .inr ((0, 80), .inl (0, [])),
  .inl (2, [.ref 11, .ref 12, .ref 13, .int 0, .int 0]),
  .inr ((0, 1000), .inl (0, [])),
  .inr ((0, 1001), .inl (0, [])),
  .inr ((0, 1001), .inl (0, [])),
  .inl (4, [.ref 15, .ref 16, .ref 17, .ref 18, .ref 19, .ref 20, .ref 21, .ref 22, .ref 23, .ref 24, .ref 25, .ref 26, .int 1, .int 0, .int 0]),
  .inr ((1, 21), .inr (0, [(0, 4288121)])),
  .inr ((0, 21), .inl (0, [(0, 0)])),
  .inr ((0, 21), .inl (0, [(0, 0)])),
  .inr ((0, 21), .inl (0, [(0, 0)])),
  .inr ((0, 84), .inl (0, [])),
  .inr ((1, 80), .inr (0, [])),
  .inr ((0, 80), .inl (0, [])),
  .inr ((0, 80), .inl (0, [])),
  .inr ((0, 160), .inl (0, [])),
  .inr ((0, 160), .inl (0, [])),
  .inr ((0, 300), .inl (0, [])),
  .inl (1, [.ref 27, .ref 28, .ref 29, .ref 30, .int 0, .ref 31, .int 1]),
  .inr ((0, 441), .inl (0, [(0, 0)])),
  .inr ((0, 441), .inl (0, [(0, 1)])),
  .inr ((0, 4), .inl (0, [])),
  .inr ((0, 4), .inl (0, [])),
  .inr ((0, 1024), .inl (0, [(0, 0)])),
  .inl (4, [.ref 33, .ref 34, .ref 35, .ref 36, .ref 37, .ref 38, .ref 39, .ref 40, .ref 41, .ref 42, .ref 43, .ref 44, .int 1, .int 0, .int 0]),
  .inr ((1, 21), .inr (0, [(0, 4288121)])),
  .inr ((0, 21), .inl (0, [(0, 0)])),
  .inr ((0, 21), .inl (0, [(0, 0)])),
  .inr ((0, 21), .inl (0, [(0, 0)])),
  .inr ((0, 84), .inl (0, [])),
  .inr ((1, 80), .inr (0, [])),
  .inr ((0, 80), .inl (0, [])),
  .inr ((0, 80), .inl (0, [])),
  .inr ((0, 160), .inl (0, [])),
  .inr ((0, 160), .inl (0, [])),
  .inr ((0, 300), .inl (0, [])),
  .inl (1, [.ref 45, .ref 46, .ref 47, .ref 48, .int 0, .ref 49, .int 1]),
  .inr ((0, 441), .inl (0, [(0, 0)])),
  .inr ((0, 441), .inl (0, [(0, 1)])),
  .inr ((0, 4), .inl (0, [])),
  .inr ((0, 4), .inl (0, [])),
  .inr ((0, 1024), .inl (0, [(0, 0)])),
  .inl (3, [.ref 1, .ref 51, .ref 14, .ref 51, .int 0, .int 0, .int 0, .int 0, .int 0, .int 0, .int 0]),
  .inr ((0, 300), .inl (0, [])),
  .inl (0, [.ref 59, .ref 53, .ref 54, .ref 55, .ref 56, .ref 57, .ref 58, .ref 14, .int 0, .int 0, .int 0, .int 0, .int 0, .int 0, .int 0]),
  .inr ((0, 300), .inl (0, [])),
  .inr ((0, 900), .inl (0, [])),
  .inr ((0, 300), .inl (0, [])),
  .inr ((0, 4), .inl (0, [])),
  .inr ((0, 8), .inl (0, [])),
  .inr ((0, 164), .inl (0, [])),
  .inl (6, [.ref 60, .ref 61, .ref 62, .ref 63, .ref 64, .ref 65, .ref 14, .int 1, .int 0]),
  .inr ((0, 7000), .inl (0, [(0, 0)])),
  .inr ((0, 7000), .inl (0, [(0, 0)])),
  .inr ((0, 7000), .inl (0, [(0, (-1))])),
  .inr ((0, 7000), .inl (0, [])),
  .inr ((0, 2048), .inl ((-1), [(0, 0)])),
  .inr ((0, 300), .inl (0, [])),
  .inl (9, [.ref 67, .ref 68, .ref 69, .ref 70, .ref 71, .ref 72, .ref 73, .int 0, .int 1, .ref 74, .ref 75, .ref 76, .ref 77, .ref 78, .ref 79, .ref 80, .ref 81, .ref 82, .ref 83, .ref 84, .int 1, .int 0, .int 0, .int 1, .int 0, .int 0, .int 0, .int 0, .ref 85, .int 0, .int 0, .int 0, .int 0, .int 0, .int 0, .int 0, .int 0, .int 0, .int 0, .ref 86, .ref 87, .int 0, .ref 88, .ref 89, .ref 90, .int 0, .int 0, .int 0, .int 0, .ref 91, .ref 92, .ref 93, .ref 94, .ref 95, .int 0, .ref 96, .int 0, .int 0, .ref 97, .ref 98, .int 0, .ref 99, .ref 100, .ref 101, .ref 102, .ref 103, .ref 104, .ref 105, .int 0, .ref 106, .int 0, .int 0, .int 0, .ref 107, .int 0, .int 0, .int 0]),
  .inr ((0, 20000), .inl (0, [(0, 0)])),
  .inr ((0, 20000), .inl (0, [(0, 0)])),
  .inr ((0, 20000), .inl (0, [(0, 0)])),
  .inr ((0, 80000), .inl (0, [])),
  .inr ((0, 20000), .inl (0, [(0, 1)])),
  .inr ((0, 20000), .inl (0, [(0, (-1))])),
  .inr ((0, 2048), .inl ((-1), [(0, 0)])),
  .inr ((0, 4), .inl (0, [])),
  .inr ((1, 42), .inr (0, [(0, 4288121)])),
  .inr ((0, 42), .inl (0, [(0, 0)])),
  .inr ((0, 42), .inl (0, [(0, 0)])),
  .inr ((0, 168), .inl (0, [])),
  .inr ((0, 42), .inl (0, [(0, 0)])),
  .inr ((0, 882), .inl (0, [(0, 0), (20, (-1)), (19, (-1)), (18, (-1)), (17, (-1)), (16, (-1)), (15, (-1)), (14, (-1)), (13, (-1)), (12, (-1)), (11, (-1)), (10, (-1)), (9, (-1)), (8, (-1)), (7, (-1)), (6, (-1)), (5, (-1)), (4, (-1)), (3, (-1)), (2, (-1)), (1, (-1)), (0, (-1))])),
  .inr ((1, 160), .inr (0, [])),
  .inr ((0, 160), .inl (0, [])),
  .inr ((0, 320), .inl (0, [])),
  .inr ((0, 160), .inl (0, [])),
  .inr ((0, 800), .inl (0, [])),
  .inr ((0, 6400), .inl (0, [])),
  .inr ((2, 6400), .inl (0, [])),
  .inr ((0, 900), .inl (0, [])),
  .inr ((0, 300), .inl (0, [])),
  .inr ((0, 300), .inl (0, [])),
  .inr ((0, 42), .inl (0, [])),
  .inr ((0, 42), .inl (0, [])),
  .inr ((0, 42), .inl (0, [])),
  .inr ((0, 42), .inl (0, [])),
  .inr ((0, 42), .inl (0, [])),
  .inr ((3, 1000), .inl (0, [])),
  .inr ((0, 20000), .inl (0, [])),
  .inr ((0, 20000), .inl (0, [])),
  .inr ((0, 20000), .inl (0, [])),
  .inr ((2, 10), .inl (0, [])),
  .inr ((0, 10), .inl (0, [])),
  .inr ((0, 10), .inl (0, [])),
  .inr ((0, 40), .inl (0, [])),
  .inr ((0, 10), .inl (0, [])),
  .inr ((0, 20000), .inl (0, [])),
  .inr ((0, 20000), .inl (0, [])),
  .inr ((0, 4), .inl (0, [])),
  .inr ((1, 1), .inr (0, [(0, 0)]))], 357940)
set_option maxRecDepth 1000000 in
theorem k1_cls_r0 : mx_runN kb_cls_r0 mt_tab (ml_call kb_cls_r0) (some 4) (fun _ => none) mt_L_law 12 (230, ml_lv, [], ml_w1) = some (244, ml_lv, ([.ref 0, .int 0, .int 0, .ref 108] : List Value).reverse, ml_w1) := mq_eq (by decide +kernel)
set_option maxRecDepth 1000000 in
theorem k4_cls_r0 : mq3 (mx_runN kb_cls_r0 mt_tab (ml_call kb_cls_r0) (some 4) (fun _ => none) mt_L_law 36 (247, ml_lv, [.int 0], w2_cls_r0)) = true := by decide +kernel
set_option maxRecDepth 1000000 in
theorem k2_cls_r0 : mx_loop kb_cls_r0 mt_tab (mx_call kb_cls_r0 mt_tab mo_ovr mo_jmp 38) (fun _ => none) mt_L_cls 1000 (0, lv_args 0 [.ref 0, .int 0, .int 0, .ref 108], [], ml_w1) = some (some (.int 0), w2_cls_r0) := mq2_eq (by decide +kernel)
theorem k3_cls_r0 : w2_cls_r0.1.length = 109 ∧ w2_cls_r0.2 = 357940 := by decide +kernel
set_option maxHeartbeats 4000000 in
set_option maxRecDepth 100000 in
theorem ct_cls_r0 (hl : l.stackTraces = false) (hfz : r mx_F ≠ .int 0) (C : ml_C kb_cls_r0 p s m meth c r D cy (some 4)) (hEX : mx_EX s.heap.size s s.heap) (hv : lv_has ls 8 (mx_lv r ml_lv)) (hR : mx_R D cy r s.heap.size ml_w1 H) (hS : va_S (fun q => s.heap.size ≤ q) s.heap H locs) :
    W p l e room_1 s m #[Value.ref b] below meth c H locs 109 357940 (lw_Z below #[Value.ref b] s) (F0 m 230 ls []) := by
  obtain ⟨hx, hb, hml, hown, hE, hK, hr, hsc, hnm, hfr, hloc, hkb⟩ := C.1
  exact lt_wr (K1 := 12) (pcP := 244) (ixL := 70) (K4 := 36) (mc := w2_cls_r0.1.length - ml_w1.1.length) (ms := w2_cls_r0.2 - ml_w1.2) (f := 39) (lo := 40 * 39) (MW := mt_L_cls) (hh := hh_cls) (a := [.ref 0, .int 0, .int 0, .ref 108]) (w2 := w2_cls_r0) (kv := 0) C hEX k1_cls_r0 (mw_ret (d := 38) (MW := mt_L_cls) (hh := hh_cls) (a := [.ref 0, .int 0, .int 0, .ref 108]) (w := ml_w1) (w' := w2_cls_r0) (v := some (.int 0)) hr hkb mw_L_cls rfl rfl (by decide +kernel) k2_cls_r0) hw_cls ⟨by decide +kernel, by decide +kernel, by decide +kernel⟩ (by decide) (by decide) (by rw [k3_cls_r0.1, ml_len]; decide) (by rw [k3_cls_r0.2, ml_sz]; decide) k3_cls_r0.1 k3_cls_r0.2 (show decode code 244 = .ok (.invokestatic 70, 3) by decide +kernel) k4_cls_r0 hv hR hS
def kb_cls_r1 : mK := [((.eq, .ref 1048578, .int 0), true), ((.eq, .ref 1048579, .int 1), true)]
def w2_cls_r1 : mW := ([.inl (8, [.ref 1, .ref 6, .ref 10, .ref 14, .ref 32, .ref 50, .ref 52, .int 0]),
  .inl (5, [.ref 2, .ref 3, .ref 4, .ref 5, .int 0, .int 0, .int 0, .int 0, .long 0]),
  .inr ((0, 800), .inl (0, [])),
  .inr ((0, 801), .inl (0, [])),
  .inr ((0, 801), .inl (0, [])),
  .inr ((1, 801), .inr (0, [])),
  .inl (7, [.ref 7, .ref 8, .ref 9, .int 0]),
  .inr ((0, 6400), .inl (0, [])),
  .inr ((0, 6400), .inl (0, [])),
  .inr ((0, 80), .inl (0, [])),
  .inl (2, [.ref 11, .ref 12, .ref 13, .int 0, .int 0]),
  .inr ((0, 1000), .inl (0, [])),
  .inr ((0, 1001), .inl (0, [])),
  .inr ((0, 1001), .inl (0, [])),
  .inl (4, [.ref 15, .ref 16, .ref 17, .ref 18, .ref 19, .ref 20, .ref 21, .ref 22, .ref 23, .ref 24, .ref 25, .ref 26, .int 1, .int 0, .int 0]),
  .inr ((1, 21), .inr (0, [(0, 4288121)])),
  .inr ((0, 21), .inl (0, [(0, 0)])),
  .inr ((0, 21), .inl (0, [(0, 0)])),
  .inr ((0, 21), .inl (0, [(0, 0)])),
  .inr ((0, 84), .inl (0, [])),
  .inr ((1, 80), .inr (0, [])),
  .inr ((0, 80), .inl (0, [])),
  .inr ((0, 80), .inl (0, [])),
  .inr ((0, 160), .inl (0, [])),
  .inr ((0, 160), .inl (0, [])),
  .inr ((0, 300), .inl (0, [])),
  .inl (1, [.ref 27, .ref 28, .ref 29, .ref 30, .int 0, .ref 31, .int 1]),
  .inr ((0, 441), .inl (0, [(0, 0)])),
  .inr ((0, 441), .inl (0, [(0, 1)])),
  .inr ((0, 4), .inl (0, [])),
  .inr ((0, 4), .inl (0, [])),
  .inr ((0, 1024), .inl (0, [(0, 0)])),
  .inl (4, [.ref 33, .ref 34, .ref 35, .ref 36, .ref 37, .ref 38, .ref 39, .ref 40, .ref 41, .ref 42, .ref 43, .ref 44, .int 1, .int 0, .int 0]),
  .inr ((1, 21), .inr (0, [(0, 4288121)])),
  .inr ((0, 21), .inl (0, [(0, 0)])),
  .inr ((0, 21), .inl (0, [(0, 0)])),
  .inr ((0, 21), .inl (0, [(0, 0)])),
  .inr ((0, 84), .inl (0, [])),
  .inr ((1, 80), .inr (0, [])),
  .inr ((0, 80), .inl (0, [])),
  .inr ((0, 80), .inl (0, [])),
  .inr ((0, 160), .inl (0, [])),
  .inr ((0, 160), .inl (0, [])),
  .inr ((0, 300), .inl (0, [])),
  .inl (1, [.ref 45, .ref 46, .ref 47, .ref 48, .int 0, .ref 49, .int 1]),
  .inr ((0, 441), .inl (0, [(0, 0)])),
  .inr ((0, 441), .inl (0, [(0, 1)])),
  .inr ((0, 4), .inl (0, [])),
  .inr ((0, 4), .inl (0, [])),
  .inr ((0, 1024), .inl (0, [(0, 0)])),
  .inl (3, [.ref 1, .ref 51, .ref 14, .ref 51, .int 0, .int 0, .int 0, .int 0, .int 0, .int 0, .int 0]),
  .inr ((0, 300), .inl (0, [])),
  .inl (0, [.ref 59, .ref 53, .ref 54, .ref 55, .ref 56, .ref 57, .ref 58, .ref 14, .int 0, .int 0, .int 0, .int 0, .int 0, .int 0, .int 0]),
  .inr ((0, 300), .inl (0, [])),
  .inr ((0, 900), .inl (0, [])),
  .inr ((0, 300), .inl (0, [])),
  .inr ((0, 4), .inl (0, [])),
  .inr ((0, 8), .inl (0, [])),
  .inr ((0, 164), .inl (0, [])),
  .inl (6, [.ref 60, .ref 61, .ref 62, .ref 63, .ref 64, .ref 65, .ref 14, .int 1, .int 0]),
  .inr ((0, 7000), .inl (0, [(0, 0)])),
  .inr ((0, 7000), .inl (0, [(0, 0)])),
  .inr ((0, 7000), .inl (0, [(0, (-1))])),
  .inr ((0, 7000), .inl (0, [])),
  .inr ((0, 2048), .inl ((-1), [(0, 0)])),
  .inr ((0, 300), .inl (0, [])),
  .inl (9, [.ref 67, .ref 68, .ref 69, .ref 70, .ref 71, .ref 72, .ref 73, .int 0, .int 1, .ref 74, .ref 75, .ref 76, .ref 77, .ref 78, .ref 79, .ref 80, .ref 81, .ref 82, .ref 83, .ref 84, .int 1, .int 0, .int 0, .int 1, .int 0, .int 0, .int 0, .int 0, .ref 85, .int 0, .int 0, .int 0, .int 0, .int 0, .int 0, .int 0, .int 0, .int 0, .int 0, .ref 86, .ref 87, .int 0, .ref 88, .ref 89, .ref 90, .int 0, .int 0, .int 0, .int 0, .ref 91, .ref 92, .ref 93, .ref 94, .ref 95, .int 0, .ref 96, .int 0, .int 0, .ref 97, .ref 98, .int 0, .ref 99, .ref 100, .ref 101, .ref 102, .ref 103, .ref 104, .ref 105, .int 0, .ref 106, .int 0, .int 0, .int 0, .ref 107, .int 0, .int 0, .int 0]),
  .inr ((0, 20000), .inl (0, [(0, 0)])),
  .inr ((0, 20000), .inl (0, [(0, 0)])),
  .inr ((0, 20000), .inl (0, [(0, 0)])),
  .inr ((0, 80000), .inl (0, [])),
  .inr ((0, 20000), .inl (0, [(0, 1)])),
  .inr ((0, 20000), .inl (0, [(0, (-1))])),
  .inr ((0, 2048), .inl ((-1), [(0, 0)])),
  .inr ((0, 4), .inl (0, [])),
  .inr ((1, 42), .inr (0, [(0, 4288121)])),
  .inr ((0, 42), .inl (0, [(0, 0)])),
  .inr ((0, 42), .inl (0, [(0, 0)])),
  .inr ((0, 168), .inl (0, [])),
  .inr ((0, 42), .inl (0, [(0, 0)])),
  .inr ((0, 882), .inl (0, [(0, 0), (20, (-1)), (19, (-1)), (18, (-1)), (17, (-1)), (16, (-1)), (15, (-1)), (14, (-1)), (13, (-1)), (12, (-1)), (11, (-1)), (10, (-1)), (9, (-1)), (8, (-1)), (7, (-1)), (6, (-1)), (5, (-1)), (4, (-1)), (3, (-1)), (2, (-1)), (1, (-1)), (0, (-1))])),
  .inr ((1, 160), .inr (0, [])),
  .inr ((0, 160), .inl (0, [])),
  .inr ((0, 320), .inl (0, [])),
  .inr ((0, 160), .inl (0, [])),
  .inr ((0, 800), .inl (0, [])),
  .inr ((0, 6400), .inl (0, [])),
  .inr ((2, 6400), .inl (0, [])),
  .inr ((0, 900), .inl (0, [])),
  .inr ((0, 300), .inl (0, [])),
  .inr ((0, 300), .inl (0, [])),
  .inr ((0, 42), .inl (0, [])),
  .inr ((0, 42), .inl (0, [])),
  .inr ((0, 42), .inl (0, [])),
  .inr ((0, 42), .inl (0, [])),
  .inr ((0, 42), .inl (0, [])),
  .inr ((3, 1000), .inl (0, [])),
  .inr ((0, 20000), .inl (0, [])),
  .inr ((0, 20000), .inl (0, [])),
  .inr ((0, 20000), .inl (0, [])),
  .inr ((2, 10), .inl (0, [])),
  .inr ((0, 10), .inl (0, [])),
  .inr ((0, 10), .inl (0, [])),
  .inr ((0, 40), .inl (0, [])),
  .inr ((0, 10), .inl (0, [])),
  .inr ((0, 20000), .inl (0, [])),
  .inr ((0, 20000), .inl (0, [])),
  .inr ((0, 4), .inl (0, [])),
  .inr ((1, 1), .inr (0, [(0, 0)]))], 357940)
set_option maxRecDepth 1000000 in
theorem k1_cls_r1 : mx_runN kb_cls_r1 mt_tab (ml_call kb_cls_r1) (some 4) (fun _ => none) mt_L_law 12 (230, ml_lv, [], ml_w1) = some (244, ml_lv, ([.ref 0, .int 0, .int 1, .ref 108] : List Value).reverse, ml_w1) := mq_eq (by decide +kernel)
set_option maxRecDepth 1000000 in
theorem k4_cls_r1 : mq3 (mx_runN kb_cls_r1 mt_tab (ml_call kb_cls_r1) (some 4) (fun _ => none) mt_L_law 36 (247, ml_lv, [.int 0], w2_cls_r1)) = true := by decide +kernel
set_option maxRecDepth 1000000 in
theorem k2_cls_r1 : mx_loop kb_cls_r1 mt_tab (mx_call kb_cls_r1 mt_tab mo_ovr mo_jmp 38) (fun _ => none) mt_L_cls 1000 (0, lv_args 0 [.ref 0, .int 0, .int 1, .ref 108], [], ml_w1) = some (some (.int 0), w2_cls_r1) := mq2_eq (by decide +kernel)
theorem k3_cls_r1 : w2_cls_r1.1.length = 109 ∧ w2_cls_r1.2 = 357940 := by decide +kernel
set_option maxHeartbeats 4000000 in
set_option maxRecDepth 100000 in
theorem ct_cls_r1 (hl : l.stackTraces = false) (hfz : r mx_F ≠ .int 0) (C : ml_C kb_cls_r1 p s m meth c r D cy (some 4)) (hEX : mx_EX s.heap.size s s.heap) (hv : lv_has ls 8 (mx_lv r ml_lv)) (hR : mx_R D cy r s.heap.size ml_w1 H) (hS : va_S (fun q => s.heap.size ≤ q) s.heap H locs) :
    W p l e room_1 s m #[Value.ref b] below meth c H locs 109 357940 (lw_Z below #[Value.ref b] s) (F0 m 230 ls []) := by
  obtain ⟨hx, hb, hml, hown, hE, hK, hr, hsc, hnm, hfr, hloc, hkb⟩ := C.1
  exact lt_wr (K1 := 12) (pcP := 244) (ixL := 70) (K4 := 36) (mc := w2_cls_r1.1.length - ml_w1.1.length) (ms := w2_cls_r1.2 - ml_w1.2) (f := 39) (lo := 40 * 39) (MW := mt_L_cls) (hh := hh_cls) (a := [.ref 0, .int 0, .int 1, .ref 108]) (w2 := w2_cls_r1) (kv := 0) C hEX k1_cls_r1 (mw_ret (d := 38) (MW := mt_L_cls) (hh := hh_cls) (a := [.ref 0, .int 0, .int 1, .ref 108]) (w := ml_w1) (w' := w2_cls_r1) (v := some (.int 0)) hr hkb mw_L_cls rfl rfl (by decide +kernel) k2_cls_r1) hw_cls ⟨by decide +kernel, by decide +kernel, by decide +kernel⟩ (by decide) (by decide) (by rw [k3_cls_r1.1, ml_len]; decide) (by rw [k3_cls_r1.2, ml_sz]; decide) k3_cls_r1.1 k3_cls_r1.2 (show decode code 244 = .ok (.invokestatic 70, 3) by decide +kernel) k4_cls_r1 hv hR hS
def kb_cls_r2 : mK := [((.eq, .ref 1048578, .int 0), true), ((.eq, .ref 1048579, .int 2), true)]
def w2_cls_r2 : mW := ([.inl (8, [.ref 1, .ref 6, .ref 10, .ref 14, .ref 32, .ref 50, .ref 52, .int 0]),
  .inl (5, [.ref 2, .ref 3, .ref 4, .ref 5, .int 0, .int 0, .int 0, .int 0, .long 0]),
  .inr ((0, 800), .inl (0, [])),
  .inr ((0, 801), .inl (0, [])),
  .inr ((0, 801), .inl (0, [])),
  .inr ((1, 801), .inr (0, [])),
  .inl (7, [.ref 7, .ref 8, .ref 9, .int 0]),
  .inr ((0, 6400), .inl (0, [])),
  .inr ((0, 6400), .inl (0, [])),
  .inr ((0, 80), .inl (0, [])),
  .inl (2, [.ref 11, .ref 12, .ref 13, .int 0, .int 0]),
  .inr ((0, 1000), .inl (0, [])),
  .inr ((0, 1001), .inl (0, [])),
  .inr ((0, 1001), .inl (0, [])),
  .inl (4, [.ref 15, .ref 16, .ref 17, .ref 18, .ref 19, .ref 20, .ref 21, .ref 22, .ref 23, .ref 24, .ref 25, .ref 26, .int 1, .int 0, .int 0]),
  .inr ((1, 21), .inr (0, [(0, 4288121)])),
  .inr ((0, 21), .inl (0, [(0, 0)])),
  .inr ((0, 21), .inl (0, [(0, 0)])),
  .inr ((0, 21), .inl (0, [(0, 0)])),
  .inr ((0, 84), .inl (0, [])),
  .inr ((1, 80), .inr (0, [])),
  .inr ((0, 80), .inl (0, [])),
  .inr ((0, 80), .inl (0, [])),
  .inr ((0, 160), .inl (0, [])),
  .inr ((0, 160), .inl (0, [])),
  .inr ((0, 300), .inl (0, [])),
  .inl (1, [.ref 27, .ref 28, .ref 29, .ref 30, .int 0, .ref 31, .int 1]),
  .inr ((0, 441), .inl (0, [(0, 0)])),
  .inr ((0, 441), .inl (0, [(0, 1)])),
  .inr ((0, 4), .inl (0, [])),
  .inr ((0, 4), .inl (0, [])),
  .inr ((0, 1024), .inl (0, [(0, 0)])),
  .inl (4, [.ref 33, .ref 34, .ref 35, .ref 36, .ref 37, .ref 38, .ref 39, .ref 40, .ref 41, .ref 42, .ref 43, .ref 44, .int 1, .int 0, .int 0]),
  .inr ((1, 21), .inr (0, [(0, 4288121)])),
  .inr ((0, 21), .inl (0, [(0, 0)])),
  .inr ((0, 21), .inl (0, [(0, 0)])),
  .inr ((0, 21), .inl (0, [(0, 0)])),
  .inr ((0, 84), .inl (0, [])),
  .inr ((1, 80), .inr (0, [])),
  .inr ((0, 80), .inl (0, [])),
  .inr ((0, 80), .inl (0, [])),
  .inr ((0, 160), .inl (0, [])),
  .inr ((0, 160), .inl (0, [])),
  .inr ((0, 300), .inl (0, [])),
  .inl (1, [.ref 45, .ref 46, .ref 47, .ref 48, .int 0, .ref 49, .int 1]),
  .inr ((0, 441), .inl (0, [(0, 0)])),
  .inr ((0, 441), .inl (0, [(0, 1)])),
  .inr ((0, 4), .inl (0, [])),
  .inr ((0, 4), .inl (0, [])),
  .inr ((0, 1024), .inl (0, [(0, 0)])),
  .inl (3, [.ref 1, .ref 51, .ref 14, .ref 51, .int 0, .int 0, .int 0, .int 0, .int 0, .int 0, .int 0]),
  .inr ((0, 300), .inl (0, [])),
  .inl (0, [.ref 59, .ref 53, .ref 54, .ref 55, .ref 56, .ref 57, .ref 58, .ref 14, .int 0, .int 0, .int 0, .int 0, .int 0, .int 0, .int 0]),
  .inr ((0, 300), .inl (0, [])),
  .inr ((0, 900), .inl (0, [])),
  .inr ((0, 300), .inl (0, [])),
  .inr ((0, 4), .inl (0, [])),
  .inr ((0, 8), .inl (0, [])),
  .inr ((0, 164), .inl (0, [])),
  .inl (6, [.ref 60, .ref 61, .ref 62, .ref 63, .ref 64, .ref 65, .ref 14, .int 1, .int 0]),
  .inr ((0, 7000), .inl (0, [(0, 0)])),
  .inr ((0, 7000), .inl (0, [(0, 0)])),
  .inr ((0, 7000), .inl (0, [(0, (-1))])),
  .inr ((0, 7000), .inl (0, [])),
  .inr ((0, 2048), .inl ((-1), [(0, 0)])),
  .inr ((0, 300), .inl (0, [])),
  .inl (9, [.ref 67, .ref 68, .ref 69, .ref 70, .ref 71, .ref 72, .ref 73, .int 0, .int 1, .ref 74, .ref 75, .ref 76, .ref 77, .ref 78, .ref 79, .ref 80, .ref 81, .ref 82, .ref 83, .ref 84, .int 1, .int 0, .int 0, .int 1, .int 0, .int 0, .int 0, .int 0, .ref 85, .int 0, .int 0, .int 0, .int 0, .int 0, .int 0, .int 0, .int 0, .int 0, .int 0, .ref 86, .ref 87, .int 0, .ref 88, .ref 89, .ref 90, .int 0, .int 0, .int 0, .int 0, .ref 91, .ref 92, .ref 93, .ref 94, .ref 95, .int 0, .ref 96, .int 0, .int 0, .ref 97, .ref 98, .int 0, .ref 99, .ref 100, .ref 101, .ref 102, .ref 103, .ref 104, .ref 105, .int 0, .ref 106, .int 0, .int 0, .int 0, .ref 107, .int 0, .int 0, .int 0]),
  .inr ((0, 20000), .inl (0, [(0, 0)])),
  .inr ((0, 20000), .inl (0, [(0, 0)])),
  .inr ((0, 20000), .inl (0, [(0, 0)])),
  .inr ((0, 80000), .inl (0, [])),
  .inr ((0, 20000), .inl (0, [(0, 1)])),
  .inr ((0, 20000), .inl (0, [(0, (-1))])),
  .inr ((0, 2048), .inl ((-1), [(0, 0)])),
  .inr ((0, 4), .inl (0, [])),
  .inr ((1, 42), .inr (0, [(0, 4288121)])),
  .inr ((0, 42), .inl (0, [(0, 0)])),
  .inr ((0, 42), .inl (0, [(0, 0)])),
  .inr ((0, 168), .inl (0, [])),
  .inr ((0, 42), .inl (0, [(0, 0)])),
  .inr ((0, 882), .inl (0, [(0, 0), (20, (-1)), (19, (-1)), (18, (-1)), (17, (-1)), (16, (-1)), (15, (-1)), (14, (-1)), (13, (-1)), (12, (-1)), (11, (-1)), (10, (-1)), (9, (-1)), (8, (-1)), (7, (-1)), (6, (-1)), (5, (-1)), (4, (-1)), (3, (-1)), (2, (-1)), (1, (-1)), (0, (-1))])),
  .inr ((1, 160), .inr (0, [])),
  .inr ((0, 160), .inl (0, [])),
  .inr ((0, 320), .inl (0, [])),
  .inr ((0, 160), .inl (0, [])),
  .inr ((0, 800), .inl (0, [])),
  .inr ((0, 6400), .inl (0, [])),
  .inr ((2, 6400), .inl (0, [])),
  .inr ((0, 900), .inl (0, [])),
  .inr ((0, 300), .inl (0, [])),
  .inr ((0, 300), .inl (0, [])),
  .inr ((0, 42), .inl (0, [])),
  .inr ((0, 42), .inl (0, [])),
  .inr ((0, 42), .inl (0, [])),
  .inr ((0, 42), .inl (0, [])),
  .inr ((0, 42), .inl (0, [])),
  .inr ((3, 1000), .inl (0, [])),
  .inr ((0, 20000), .inl (0, [])),
  .inr ((0, 20000), .inl (0, [])),
  .inr ((0, 20000), .inl (0, [])),
  .inr ((2, 10), .inl (0, [])),
  .inr ((0, 10), .inl (0, [])),
  .inr ((0, 10), .inl (0, [])),
  .inr ((0, 40), .inl (0, [])),
  .inr ((0, 10), .inl (0, [])),
  .inr ((0, 20000), .inl (0, [])),
  .inr ((0, 20000), .inl (0, [])),
  .inr ((0, 4), .inl (0, [])),
  .inr ((1, 1), .inr (0, [(0, 1)]))], 357940)
set_option maxRecDepth 1000000 in
theorem k1_cls_r2 : mx_runN kb_cls_r2 mt_tab (ml_call kb_cls_r2) (some 4) (fun _ => none) mt_L_law 12 (230, ml_lv, [], ml_w1) = some (244, ml_lv, ([.ref 0, .int 0, .int 2, .ref 108] : List Value).reverse, ml_w1) := mq_eq (by decide +kernel)
set_option maxRecDepth 1000000 in
theorem k4_cls_r2 : mq3 (mx_runN kb_cls_r2 mt_tab (ml_call kb_cls_r2) (some 4) (fun _ => none) mt_L_law 36 (247, ml_lv, [.int 0], w2_cls_r2)) = true := by decide +kernel
set_option maxRecDepth 1000000 in
theorem k2_cls_r2 : mx_loop kb_cls_r2 mt_tab (mx_call kb_cls_r2 mt_tab mo_ovr mo_jmp 38) (fun _ => none) mt_L_cls 1000 (0, lv_args 0 [.ref 0, .int 0, .int 2, .ref 108], [], ml_w1) = some (some (.int 0), w2_cls_r2) := mq2_eq (by decide +kernel)
theorem k3_cls_r2 : w2_cls_r2.1.length = 109 ∧ w2_cls_r2.2 = 357940 := by decide +kernel
set_option maxHeartbeats 4000000 in
set_option maxRecDepth 100000 in
theorem ct_cls_r2 (hl : l.stackTraces = false) (hfz : r mx_F ≠ .int 0) (C : ml_C kb_cls_r2 p s m meth c r D cy (some 4)) (hEX : mx_EX s.heap.size s s.heap) (hv : lv_has ls 8 (mx_lv r ml_lv)) (hR : mx_R D cy r s.heap.size ml_w1 H) (hS : va_S (fun q => s.heap.size ≤ q) s.heap H locs) :
    W p l e room_1 s m #[Value.ref b] below meth c H locs 109 357940 (lw_Z below #[Value.ref b] s) (F0 m 230 ls []) := by
  obtain ⟨hx, hb, hml, hown, hE, hK, hr, hsc, hnm, hfr, hloc, hkb⟩ := C.1
  exact lt_wr (K1 := 12) (pcP := 244) (ixL := 70) (K4 := 36) (mc := w2_cls_r2.1.length - ml_w1.1.length) (ms := w2_cls_r2.2 - ml_w1.2) (f := 39) (lo := 40 * 39) (MW := mt_L_cls) (hh := hh_cls) (a := [.ref 0, .int 0, .int 2, .ref 108]) (w2 := w2_cls_r2) (kv := 0) C hEX k1_cls_r2 (mw_ret (d := 38) (MW := mt_L_cls) (hh := hh_cls) (a := [.ref 0, .int 0, .int 2, .ref 108]) (w := ml_w1) (w' := w2_cls_r2) (v := some (.int 0)) hr hkb mw_L_cls rfl rfl (by decide +kernel) k2_cls_r2) hw_cls ⟨by decide +kernel, by decide +kernel, by decide +kernel⟩ (by decide) (by decide) (by rw [k3_cls_r2.1, ml_len]; decide) (by rw [k3_cls_r2.2, ml_sz]; decide) k3_cls_r2.1 k3_cls_r2.2 (show decode code 244 = .ok (.invokestatic 70, 3) by decide +kernel) k4_cls_r2 hv hR hS
def kb_cls_r3 : mK := [((.eq, .ref 1048578, .int 0), true), ((.eq, .ref 1048579, .int 3), true)]
def w2_cls_r3 : mW := ([.inl (8, [.ref 1, .ref 6, .ref 10, .ref 14, .ref 32, .ref 50, .ref 52, .int 0]),
  .inl (5, [.ref 2, .ref 3, .ref 4, .ref 5, .int 0, .int 0, .int 0, .int 0, .long 0]),
  .inr ((0, 800), .inl (0, [])),
  .inr ((0, 801), .inl (0, [])),
  .inr ((0, 801), .inl (0, [])),
  .inr ((1, 801), .inr (0, [])),
  .inl (7, [.ref 7, .ref 8, .ref 9, .int 0]),
  .inr ((0, 6400), .inl (0, [])),
  .inr ((0, 6400), .inl (0, [])),
  .inr ((0, 80), .inl (0, [])),
  .inl (2, [.ref 11, .ref 12, .ref 13, .int 0, .int 0]),
  .inr ((0, 1000), .inl (0, [])),
  .inr ((0, 1001), .inl (0, [])),
  .inr ((0, 1001), .inl (0, [])),
  .inl (4, [.ref 15, .ref 16, .ref 17, .ref 18, .ref 19, .ref 20, .ref 21, .ref 22, .ref 23, .ref 24, .ref 25, .ref 26, .int 1, .int 0, .int 0]),
  .inr ((1, 21), .inr (0, [(0, 4288121)])),
  .inr ((0, 21), .inl (0, [(0, 0)])),
  .inr ((0, 21), .inl (0, [(0, 0)])),
  .inr ((0, 21), .inl (0, [(0, 0)])),
  .inr ((0, 84), .inl (0, [])),
  .inr ((1, 80), .inr (0, [])),
  .inr ((0, 80), .inl (0, [])),
  .inr ((0, 80), .inl (0, [])),
  .inr ((0, 160), .inl (0, [])),
  .inr ((0, 160), .inl (0, [])),
  .inr ((0, 300), .inl (0, [])),
  .inl (1, [.ref 27, .ref 28, .ref 29, .ref 30, .int 0, .ref 31, .int 1]),
  .inr ((0, 441), .inl (0, [(0, 0)])),
  .inr ((0, 441), .inl (0, [(0, 1)])),
  .inr ((0, 4), .inl (0, [])),
  .inr ((0, 4), .inl (0, [])),
  .inr ((0, 1024), .inl (0, [(0, 0)])),
  .inl (4, [.ref 33, .ref 34, .ref 35, .ref 36, .ref 37, .ref 38, .ref 39, .ref 40, .ref 41, .ref 42, .ref 43, .ref 44, .int 1, .int 0, .int 0]),
  .inr ((1, 21), .inr (0, [(0, 4288121)])),
  .inr ((0, 21), .inl (0, [(0, 0)])),
  .inr ((0, 21), .inl (0, [(0, 0)])),
  .inr ((0, 21), .inl (0, [(0, 0)])),
  .inr ((0, 84), .inl (0, [])),
  .inr ((1, 80), .inr (0, [])),
  .inr ((0, 80), .inl (0, [])),
  .inr ((0, 80), .inl (0, [])),
  .inr ((0, 160), .inl (0, [])),
  .inr ((0, 160), .inl (0, [])),
  .inr ((0, 300), .inl (0, [])),
  .inl (1, [.ref 45, .ref 46, .ref 47, .ref 48, .int 0, .ref 49, .int 1]),
  .inr ((0, 441), .inl (0, [(0, 0)])),
  .inr ((0, 441), .inl (0, [(0, 1)])),
  .inr ((0, 4), .inl (0, [])),
  .inr ((0, 4), .inl (0, [])),
  .inr ((0, 1024), .inl (0, [(0, 0)])),
  .inl (3, [.ref 1, .ref 51, .ref 14, .ref 51, .int 0, .int 0, .int 0, .int 0, .int 0, .int 0, .int 0]),
  .inr ((0, 300), .inl (0, [])),
  .inl (0, [.ref 59, .ref 53, .ref 54, .ref 55, .ref 56, .ref 57, .ref 58, .ref 14, .int 0, .int 0, .int 0, .int 0, .int 0, .int 0, .int 0]),
  .inr ((0, 300), .inl (0, [])),
  .inr ((0, 900), .inl (0, [])),
  .inr ((0, 300), .inl (0, [])),
  .inr ((0, 4), .inl (0, [])),
  .inr ((0, 8), .inl (0, [])),
  .inr ((0, 164), .inl (0, [])),
  .inl (6, [.ref 60, .ref 61, .ref 62, .ref 63, .ref 64, .ref 65, .ref 14, .int 1, .int 0]),
  .inr ((0, 7000), .inl (0, [(0, 0)])),
  .inr ((0, 7000), .inl (0, [(0, 0)])),
  .inr ((0, 7000), .inl (0, [(0, (-1))])),
  .inr ((0, 7000), .inl (0, [])),
  .inr ((0, 2048), .inl ((-1), [(0, 0)])),
  .inr ((0, 300), .inl (0, [])),
  .inl (9, [.ref 67, .ref 68, .ref 69, .ref 70, .ref 71, .ref 72, .ref 73, .int 0, .int 1, .ref 74, .ref 75, .ref 76, .ref 77, .ref 78, .ref 79, .ref 80, .ref 81, .ref 82, .ref 83, .ref 84, .int 1, .int 0, .int 0, .int 1, .int 0, .int 0, .int 0, .int 0, .ref 85, .int 0, .int 0, .int 0, .int 0, .int 0, .int 0, .int 0, .int 0, .int 0, .int 0, .ref 86, .ref 87, .int 0, .ref 88, .ref 89, .ref 90, .int 0, .int 0, .int 0, .int 0, .ref 91, .ref 92, .ref 93, .ref 94, .ref 95, .int 0, .ref 96, .int 0, .int 0, .ref 97, .ref 98, .int 0, .ref 99, .ref 100, .ref 101, .ref 102, .ref 103, .ref 104, .ref 105, .int 0, .ref 106, .int 0, .int 0, .int 0, .ref 107, .int 0, .int 0, .int 0]),
  .inr ((0, 20000), .inl (0, [(0, 0)])),
  .inr ((0, 20000), .inl (0, [(0, 0)])),
  .inr ((0, 20000), .inl (0, [(0, 0)])),
  .inr ((0, 80000), .inl (0, [])),
  .inr ((0, 20000), .inl (0, [(0, 1)])),
  .inr ((0, 20000), .inl (0, [(0, (-1))])),
  .inr ((0, 2048), .inl ((-1), [(0, 0)])),
  .inr ((0, 4), .inl (0, [])),
  .inr ((1, 42), .inr (0, [(0, 4288121)])),
  .inr ((0, 42), .inl (0, [(0, 0)])),
  .inr ((0, 42), .inl (0, [(0, 0)])),
  .inr ((0, 168), .inl (0, [])),
  .inr ((0, 42), .inl (0, [(0, 0)])),
  .inr ((0, 882), .inl (0, [(0, 0), (20, (-1)), (19, (-1)), (18, (-1)), (17, (-1)), (16, (-1)), (15, (-1)), (14, (-1)), (13, (-1)), (12, (-1)), (11, (-1)), (10, (-1)), (9, (-1)), (8, (-1)), (7, (-1)), (6, (-1)), (5, (-1)), (4, (-1)), (3, (-1)), (2, (-1)), (1, (-1)), (0, (-1))])),
  .inr ((1, 160), .inr (0, [])),
  .inr ((0, 160), .inl (0, [])),
  .inr ((0, 320), .inl (0, [])),
  .inr ((0, 160), .inl (0, [])),
  .inr ((0, 800), .inl (0, [])),
  .inr ((0, 6400), .inl (0, [])),
  .inr ((2, 6400), .inl (0, [])),
  .inr ((0, 900), .inl (0, [])),
  .inr ((0, 300), .inl (0, [])),
  .inr ((0, 300), .inl (0, [])),
  .inr ((0, 42), .inl (0, [])),
  .inr ((0, 42), .inl (0, [])),
  .inr ((0, 42), .inl (0, [])),
  .inr ((0, 42), .inl (0, [])),
  .inr ((0, 42), .inl (0, [])),
  .inr ((3, 1000), .inl (0, [])),
  .inr ((0, 20000), .inl (0, [])),
  .inr ((0, 20000), .inl (0, [])),
  .inr ((0, 20000), .inl (0, [])),
  .inr ((2, 10), .inl (0, [])),
  .inr ((0, 10), .inl (0, [])),
  .inr ((0, 10), .inl (0, [])),
  .inr ((0, 40), .inl (0, [])),
  .inr ((0, 10), .inl (0, [])),
  .inr ((0, 20000), .inl (0, [])),
  .inr ((0, 20000), .inl (0, [])),
  .inr ((0, 4), .inl (0, [])),
  .inr ((1, 1), .inr (0, [(0, 4288121)]))], 357940)
set_option maxRecDepth 1000000 in
theorem k1_cls_r3 : mx_runN kb_cls_r3 mt_tab (ml_call kb_cls_r3) (some 4) (fun _ => none) mt_L_law 12 (230, ml_lv, [], ml_w1) = some (244, ml_lv, ([.ref 0, .int 0, .int 3, .ref 108] : List Value).reverse, ml_w1) := mq_eq (by decide +kernel)
set_option maxRecDepth 1000000 in
theorem k4_cls_r3 : mq3 (mx_runN kb_cls_r3 mt_tab (ml_call kb_cls_r3) (some 4) (fun _ => none) mt_L_law 36 (247, ml_lv, [.int 0], w2_cls_r3)) = true := by decide +kernel
set_option maxRecDepth 1000000 in
theorem k2_cls_r3 : mx_loop kb_cls_r3 mt_tab (mx_call kb_cls_r3 mt_tab mo_ovr mo_jmp 38) (fun _ => none) mt_L_cls 1000 (0, lv_args 0 [.ref 0, .int 0, .int 3, .ref 108], [], ml_w1) = some (some (.int 0), w2_cls_r3) := mq2_eq (by decide +kernel)
theorem k3_cls_r3 : w2_cls_r3.1.length = 109 ∧ w2_cls_r3.2 = 357940 := by decide +kernel
set_option maxHeartbeats 4000000 in
set_option maxRecDepth 100000 in
theorem ct_cls_r3 (hl : l.stackTraces = false) (hfz : r mx_F ≠ .int 0) (C : ml_C kb_cls_r3 p s m meth c r D cy (some 4)) (hEX : mx_EX s.heap.size s s.heap) (hv : lv_has ls 8 (mx_lv r ml_lv)) (hR : mx_R D cy r s.heap.size ml_w1 H) (hS : va_S (fun q => s.heap.size ≤ q) s.heap H locs) :
    W p l e room_1 s m #[Value.ref b] below meth c H locs 109 357940 (lw_Z below #[Value.ref b] s) (F0 m 230 ls []) := by
  obtain ⟨hx, hb, hml, hown, hE, hK, hr, hsc, hnm, hfr, hloc, hkb⟩ := C.1
  exact lt_wr (K1 := 12) (pcP := 244) (ixL := 70) (K4 := 36) (mc := w2_cls_r3.1.length - ml_w1.1.length) (ms := w2_cls_r3.2 - ml_w1.2) (f := 39) (lo := 40 * 39) (MW := mt_L_cls) (hh := hh_cls) (a := [.ref 0, .int 0, .int 3, .ref 108]) (w2 := w2_cls_r3) (kv := 0) C hEX k1_cls_r3 (mw_ret (d := 38) (MW := mt_L_cls) (hh := hh_cls) (a := [.ref 0, .int 0, .int 3, .ref 108]) (w := ml_w1) (w' := w2_cls_r3) (v := some (.int 0)) hr hkb mw_L_cls rfl rfl (by decide +kernel) k2_cls_r3) hw_cls ⟨by decide +kernel, by decide +kernel, by decide +kernel⟩ (by decide) (by decide) (by rw [k3_cls_r3.1, ml_len]; decide) (by rw [k3_cls_r3.2, ml_sz]; decide) k3_cls_r3.1 k3_cls_r3.2 (show decode code 244 = .ok (.invokestatic 70, 3) by decide +kernel) k4_cls_r3 hv hR hS
def kb_cls_r4 : mK := [((.eq, .ref 1048578, .int 0), true), ((.eq, .ref 1048579, .int 4), true)]
def w2_cls_r4 : mW := ([.inl (8, [.ref 1, .ref 6, .ref 10, .ref 14, .ref 32, .ref 50, .ref 52, .int 0]),
  .inl (5, [.ref 2, .ref 3, .ref 4, .ref 5, .int 0, .int 0, .int 0, .int 0, .long 0]),
  .inr ((0, 800), .inl (0, [])),
  .inr ((0, 801), .inl (0, [])),
  .inr ((0, 801), .inl (0, [])),
  .inr ((1, 801), .inr (0, [])),
  .inl (7, [.ref 7, .ref 8, .ref 9, .int 0]),
  .inr ((0, 6400), .inl (0, [])),
  .inr ((0, 6400), .inl (0, [])),
  .inr ((0, 80), .inl (0, [])),
  .inl (2, [.ref 11, .ref 12, .ref 13, .int 0, .int 0]),
  .inr ((0, 1000), .inl (0, [])),
  .inr ((0, 1001), .inl (0, [])),
  .inr ((0, 1001), .inl (0, [])),
  .inl (4, [.ref 15, .ref 16, .ref 17, .ref 18, .ref 19, .ref 20, .ref 21, .ref 22, .ref 23, .ref 24, .ref 25, .ref 26, .int 1, .int 0, .int 0]),
  .inr ((1, 21), .inr (0, [(0, 4288121)])),
  .inr ((0, 21), .inl (0, [(0, 0)])),
  .inr ((0, 21), .inl (0, [(0, 0)])),
  .inr ((0, 21), .inl (0, [(0, 0)])),
  .inr ((0, 84), .inl (0, [])),
  .inr ((1, 80), .inr (0, [])),
  .inr ((0, 80), .inl (0, [])),
  .inr ((0, 80), .inl (0, [])),
  .inr ((0, 160), .inl (0, [])),
  .inr ((0, 160), .inl (0, [])),
  .inr ((0, 300), .inl (0, [])),
  .inl (1, [.ref 27, .ref 28, .ref 29, .ref 30, .int 0, .ref 31, .int 1]),
  .inr ((0, 441), .inl (0, [(0, 0)])),
  .inr ((0, 441), .inl (0, [(0, 1)])),
  .inr ((0, 4), .inl (0, [])),
  .inr ((0, 4), .inl (0, [])),
  .inr ((0, 1024), .inl (0, [(0, 0)])),
  .inl (4, [.ref 33, .ref 34, .ref 35, .ref 36, .ref 37, .ref 38, .ref 39, .ref 40, .ref 41, .ref 42, .ref 43, .ref 44, .int 1, .int 0, .int 0]),
  .inr ((1, 21), .inr (0, [(0, 4288121)])),
  .inr ((0, 21), .inl (0, [(0, 0)])),
  .inr ((0, 21), .inl (0, [(0, 0)])),
  .inr ((0, 21), .inl (0, [(0, 0)])),
  .inr ((0, 84), .inl (0, [])),
  .inr ((1, 80), .inr (0, [])),
  .inr ((0, 80), .inl (0, [])),
  .inr ((0, 80), .inl (0, [])),
  .inr ((0, 160), .inl (0, [])),
  .inr ((0, 160), .inl (0, [])),
  .inr ((0, 300), .inl (0, [])),
  .inl (1, [.ref 45, .ref 46, .ref 47, .ref 48, .int 0, .ref 49, .int 1]),
  .inr ((0, 441), .inl (0, [(0, 0)])),
  .inr ((0, 441), .inl (0, [(0, 1)])),
  .inr ((0, 4), .inl (0, [])),
  .inr ((0, 4), .inl (0, [])),
  .inr ((0, 1024), .inl (0, [(0, 0)])),
  .inl (3, [.ref 1, .ref 51, .ref 14, .ref 51, .int 0, .int 0, .int 0, .int 0, .int 0, .int 0, .int 0]),
  .inr ((0, 300), .inl (0, [])),
  .inl (0, [.ref 59, .ref 53, .ref 54, .ref 55, .ref 56, .ref 57, .ref 58, .ref 14, .int 0, .int 0, .int 0, .int 0, .int 0, .int 0, .int 0]),
  .inr ((0, 300), .inl (0, [])),
  .inr ((0, 900), .inl (0, [])),
  .inr ((0, 300), .inl (0, [])),
  .inr ((0, 4), .inl (0, [])),
  .inr ((0, 8), .inl (0, [])),
  .inr ((0, 164), .inl (0, [])),
  .inl (6, [.ref 60, .ref 61, .ref 62, .ref 63, .ref 64, .ref 65, .ref 14, .int 1, .int 0]),
  .inr ((0, 7000), .inl (0, [(0, 0)])),
  .inr ((0, 7000), .inl (0, [(0, 0)])),
  .inr ((0, 7000), .inl (0, [(0, (-1))])),
  .inr ((0, 7000), .inl (0, [])),
  .inr ((0, 2048), .inl ((-1), [(0, 0)])),
  .inr ((0, 300), .inl (0, [])),
  .inl (9, [.ref 67, .ref 68, .ref 69, .ref 70, .ref 71, .ref 72, .ref 73, .int 0, .int 1, .ref 74, .ref 75, .ref 76, .ref 77, .ref 78, .ref 79, .ref 80, .ref 81, .ref 82, .ref 83, .ref 84, .int 1, .int 0, .int 0, .int 1, .int 0, .int 0, .int 0, .int 0, .ref 85, .int 0, .int 0, .int 0, .int 0, .int 0, .int 0, .int 0, .int 0, .int 0, .int 0, .ref 86, .ref 87, .int 0, .ref 88, .ref 89, .ref 90, .int 0, .int 0, .int 0, .int 0, .ref 91, .ref 92, .ref 93, .ref 94, .ref 95, .int 0, .ref 96, .int 0, .int 0, .ref 97, .ref 98, .int 0, .ref 99, .ref 100, .ref 101, .ref 102, .ref 103, .ref 104, .ref 105, .int 0, .ref 106, .int 0, .int 0, .int 0, .ref 107, .int 0, .int 0, .int 0]),
  .inr ((0, 20000), .inl (0, [(0, 0)])),
  .inr ((0, 20000), .inl (0, [(0, 0)])),
  .inr ((0, 20000), .inl (0, [(0, 0)])),
  .inr ((0, 80000), .inl (0, [])),
  .inr ((0, 20000), .inl (0, [(0, 1)])),
  .inr ((0, 20000), .inl (0, [(0, (-1))])),
  .inr ((0, 2048), .inl ((-1), [(0, 0)])),
  .inr ((0, 4), .inl (0, [])),
  .inr ((1, 42), .inr (0, [(0, 4288121)])),
  .inr ((0, 42), .inl (0, [(0, 0)])),
  .inr ((0, 42), .inl (0, [(0, 0)])),
  .inr ((0, 168), .inl (0, [])),
  .inr ((0, 42), .inl (0, [(0, 0)])),
  .inr ((0, 882), .inl (0, [(0, 0), (20, (-1)), (19, (-1)), (18, (-1)), (17, (-1)), (16, (-1)), (15, (-1)), (14, (-1)), (13, (-1)), (12, (-1)), (11, (-1)), (10, (-1)), (9, (-1)), (8, (-1)), (7, (-1)), (6, (-1)), (5, (-1)), (4, (-1)), (3, (-1)), (2, (-1)), (1, (-1)), (0, (-1))])),
  .inr ((1, 160), .inr (0, [])),
  .inr ((0, 160), .inl (0, [])),
  .inr ((0, 320), .inl (0, [])),
  .inr ((0, 160), .inl (0, [])),
  .inr ((0, 800), .inl (0, [])),
  .inr ((0, 6400), .inl (0, [])),
  .inr ((2, 6400), .inl (0, [])),
  .inr ((0, 900), .inl (0, [])),
  .inr ((0, 300), .inl (0, [])),
  .inr ((0, 300), .inl (0, [])),
  .inr ((0, 42), .inl (0, [])),
  .inr ((0, 42), .inl (0, [])),
  .inr ((0, 42), .inl (0, [])),
  .inr ((0, 42), .inl (0, [])),
  .inr ((0, 42), .inl (0, [])),
  .inr ((3, 1000), .inl (0, [])),
  .inr ((0, 20000), .inl (0, [])),
  .inr ((0, 20000), .inl (0, [])),
  .inr ((0, 20000), .inl (0, [])),
  .inr ((2, 10), .inl (0, [])),
  .inr ((0, 10), .inl (0, [])),
  .inr ((0, 10), .inl (0, [])),
  .inr ((0, 40), .inl (0, [])),
  .inr ((0, 10), .inl (0, [])),
  .inr ((0, 20000), .inl (0, [])),
  .inr ((0, 20000), .inl (0, [])),
  .inr ((0, 4), .inl (0, [])),
  .inr ((1, 1), .inr (0, [(0, (-1))]))], 357940)
set_option maxRecDepth 1000000 in
theorem k1_cls_r4 : mx_runN kb_cls_r4 mt_tab (ml_call kb_cls_r4) (some 4) (fun _ => none) mt_L_law 12 (230, ml_lv, [], ml_w1) = some (244, ml_lv, ([.ref 0, .int 0, .int 4, .ref 108] : List Value).reverse, ml_w1) := mq_eq (by decide +kernel)
set_option maxRecDepth 1000000 in
theorem k4_cls_r4 : mq3 (mx_runN kb_cls_r4 mt_tab (ml_call kb_cls_r4) (some 4) (fun _ => none) mt_L_law 36 (247, ml_lv, [.int 0], w2_cls_r4)) = true := by decide +kernel
set_option maxRecDepth 1000000 in
theorem k2_cls_r4 : mx_loop kb_cls_r4 mt_tab (mx_call kb_cls_r4 mt_tab mo_ovr mo_jmp 38) (fun _ => none) mt_L_cls 1000 (0, lv_args 0 [.ref 0, .int 0, .int 4, .ref 108], [], ml_w1) = some (some (.int 0), w2_cls_r4) := mq2_eq (by decide +kernel)
theorem k3_cls_r4 : w2_cls_r4.1.length = 109 ∧ w2_cls_r4.2 = 357940 := by decide +kernel
set_option maxHeartbeats 4000000 in
set_option maxRecDepth 100000 in
theorem ct_cls_r4 (hl : l.stackTraces = false) (hfz : r mx_F ≠ .int 0) (C : ml_C kb_cls_r4 p s m meth c r D cy (some 4)) (hEX : mx_EX s.heap.size s s.heap) (hv : lv_has ls 8 (mx_lv r ml_lv)) (hR : mx_R D cy r s.heap.size ml_w1 H) (hS : va_S (fun q => s.heap.size ≤ q) s.heap H locs) :
    W p l e room_1 s m #[Value.ref b] below meth c H locs 109 357940 (lw_Z below #[Value.ref b] s) (F0 m 230 ls []) := by
  obtain ⟨hx, hb, hml, hown, hE, hK, hr, hsc, hnm, hfr, hloc, hkb⟩ := C.1
  exact lt_wr (K1 := 12) (pcP := 244) (ixL := 70) (K4 := 36) (mc := w2_cls_r4.1.length - ml_w1.1.length) (ms := w2_cls_r4.2 - ml_w1.2) (f := 39) (lo := 40 * 39) (MW := mt_L_cls) (hh := hh_cls) (a := [.ref 0, .int 0, .int 4, .ref 108]) (w2 := w2_cls_r4) (kv := 0) C hEX k1_cls_r4 (mw_ret (d := 38) (MW := mt_L_cls) (hh := hh_cls) (a := [.ref 0, .int 0, .int 4, .ref 108]) (w := ml_w1) (w' := w2_cls_r4) (v := some (.int 0)) hr hkb mw_L_cls rfl rfl (by decide +kernel) k2_cls_r4) hw_cls ⟨by decide +kernel, by decide +kernel, by decide +kernel⟩ (by decide) (by decide) (by rw [k3_cls_r4.1, ml_len]; decide) (by rw [k3_cls_r4.2, ml_sz]; decide) k3_cls_r4.1 k3_cls_r4.2 (show decode code 244 = .ok (.invokestatic 70, 3) by decide +kernel) k4_cls_r4 hv hR hS
def kb_isAbove_a : mK := [((.lt, .ref 1048578, .int 0), true), ((.ge, .ref 1048578, .int 0), false)]
set_option maxRecDepth 1000000 in
theorem k1_isAbove_a : mx_runN kb_isAbove_a mt_tab (ml_call kb_isAbove_a) (some 4) (fun _ => none) mt_L_law 12 (297, ml_lv, [], ml_w1) = some (311, ml_lv, ([.ref 0, .ref 1048578, .ref 1048579, .ref 108] : List Value).reverse, ml_w1) := mq_eq (by decide +kernel)
set_option maxRecDepth 1000000 in
theorem k4_isAbove_a : mq3 (mx_runN kb_isAbove_a mt_tab (ml_call kb_isAbove_a) (some 4) (fun _ => none) mt_L_law 30 (314, ml_lv, [.int 1], ml_w1)) = true := by decide +kernel
set_option maxRecDepth 1000000 in
theorem k2_isAbove_a : mx_runN kb_isAbove_a mt_tab (mx_call kb_isAbove_a mt_tab mo_ovr mo_jmp 0) none (fun _ => none) mt_L_isAbove 5 (0, lv_args 0 [.ref 0, .ref 1048578, .ref 1048579, .ref 108], [], ml_w1) = some (5, lv_args 0 [.ref 0, .ref 1048578, .ref 1048579, .ref 108], ([.ref 1048578, .ref 1048579] : List Value).reverse ++ .ref 0 :: [.int 0, .ref 108], ml_w1) := mq_eq (by decide +kernel)
set_option maxRecDepth 1000000 in
theorem k3_isAbove_a : mx_runN kb_isAbove_a mt_tab (mx_call kb_isAbove_a mt_tab mo_ovr mo_jmp 6) none (mo_jmp 102) mt_X8_isAbove 2 (0, lv_args 0 (.ref 0 :: [.ref 1048578, .ref 1048579]), [], ml_w1) = some (30, lv_args 0 (.ref 0 :: [.ref 1048578, .ref 1048579]), [], ml_w1) := mq_eq (by decide +kernel)
set_option maxHeartbeats 4000000 in
set_option maxRecDepth 100000 in
theorem ct_isAbove_a (hl : l.stackTraces = false) (hfz : r mx_F ≠ .int 0) (C : ml_C kb_isAbove_a p s m meth c r D cy (some 4)) (hEX : mx_EX s.heap.size s s.heap) (hv : lv_has ls 8 (mx_lv r ml_lv)) (hR : mx_R D cy r s.heap.size ml_w1 H) (hS : va_S (fun q => s.heap.size ≤ q) s.heap H locs) :
    W p l e room_1 s m #[Value.ref b] below meth c H locs 109 357940 (lw_Z below #[Value.ref b] s) (F0 m 297 ls []) := by
  obtain ⟨hx, hb, hml, hown, hE, hK, hr, hsc, hnm, hfr, hloc, hkb⟩ := C.1
  exact lt_wr (K1 := 12) (pcP := 311) (ixL := 74) (K4 := 30) (mc := 1) (ms := 6) (f := 8) (lo := 320) (MW := mt_L_isAbove) (hh := hh_isAbove) (a := [.ref 0, .ref 1048578, .ref 1048579, .ref 108]) (w2 := ml_w1) (kv := 1) C hEX k1_isAbove_a (mw_thr (d := 6) (K := 5) (pcv := 5) (ixv := 23) (h1 := 15) (y := 102) (n0 := 1170) (MW := mt_L_isAbove) (M := mt_X8_isAbove) (hh := hh_isAbove) (a := [.ref 0, .ref 1048578, .ref 1048579, .ref 108]) (As := [.ref 1048578, .ref 1048579]) (w := ml_w1) (lv := lv_args 0 [.ref 0, .ref 1048578, .ref 1048579, .ref 108]) (rest := [.int 0, .ref 108]) (E := ms_IOB) (kq := 1) (kv := 1) (pw := 1169) hr hkb mw_L_isAbove rfl rfl (by decide +kernel) rfl rfl rfl rfl (mv_thr (d := 6) (y := 102) (K := 2) (pcn := 30) (ik := 101) (is := 103) (ic := 105) (pk := 1142) (pn := 168) (M := mt_X8_isAbove) (a := .ref 0 :: [.ref 1048578, .ref 1048579]) (w := ml_w1) (lv := lv_args 0 (.ref 0 :: [.ref 1048578, .ref 1048579])) (E := ms_IOB) (tx := "no such class") hl hr hkb hfz rfl (by decide) rfl (by decide +kernel) k3_isAbove_a (by decide +kernel) (by decide +kernel) (by decide +kernel) (by decide) ms_atB ms_goB (show decode cX8_isAbove 30 = .ok (.new 101, 3) by decide +kernel) (show decode cX8_isAbove 33 = .ok (.dup, 1) by decide +kernel) (show decode cX8_isAbove 34 = .ok (.ldc 103, 2) by decide +kernel) (show decode cX8_isAbove 36 = .ok (.invokespecial 105, 3) by decide +kernel) (show decode cX8_isAbove 39 = .ok (.athrow, 1) by decide +kernel)) (by decide +kernel) k2_isAbove_a rfl (by decide +kernel) ⟨_, rfl⟩ (by decide +kernel) (show decode cL_isAbove 5 = .ok (.invokevirtual 23, 3) by decide +kernel) [] (⟨0, 10, 13, 21⟩ : ExceptionTableEntry) [] rfl (fun z hz => by cases hz) (by decide) (by decide) (pc2 := 1137) (by decide +kernel) (pc3 := 1144) (by decide +kernel) (Or.inl ⟨4, by decide +kernel, by decide, rfl⟩) (show decode cL_isAbove 15 = .ok (.iconst 1, 1) by decide +kernel) (by decide) (show decode cL_isAbove 16 = .ok (.ireturn, 1) by decide +kernel)) hw_isAbove ⟨by decide +kernel, by decide +kernel, by decide +kernel⟩ (by decide) (by decide) (by decide) (by decide) ml_len ml_sz (show decode code 311 = .ok (.invokestatic 74, 3) by decide +kernel) k4_isAbove_a hv hR hS
def kb_isAbove_b : mK := [((.lt, .ref 1048578, .int 0), false), ((.ge, .ref 1048578, .int 0), true), ((.ge, .ref 1048578, .int 1), true), ((.lt, .ref 1048578, .int 1), false)]
set_option maxRecDepth 1000000 in
theorem k1_isAbove_b : mx_runN kb_isAbove_b mt_tab (ml_call kb_isAbove_b) (some 4) (fun _ => none) mt_L_law 12 (297, ml_lv, [], ml_w1) = some (311, ml_lv, ([.ref 0, .ref 1048578, .ref 1048579, .ref 108] : List Value).reverse, ml_w1) := mq_eq (by decide +kernel)
set_option maxRecDepth 1000000 in
theorem k4_isAbove_b : mq3 (mx_runN kb_isAbove_b mt_tab (ml_call kb_isAbove_b) (some 4) (fun _ => none) mt_L_law 30 (314, ml_lv, [.int 1], ml_w1)) = true := by decide +kernel
set_option maxRecDepth 1000000 in
theorem k2_isAbove_b : mx_runN kb_isAbove_b mt_tab (mx_call kb_isAbove_b mt_tab mo_ovr mo_jmp 0) none (fun _ => none) mt_L_isAbove 5 (0, lv_args 0 [.ref 0, .ref 1048578, .ref 1048579, .ref 108], [], ml_w1) = some (5, lv_args 0 [.ref 0, .ref 1048578, .ref 1048579, .ref 108], ([.ref 1048578, .ref 1048579] : List Value).reverse ++ .ref 0 :: [.int 0, .ref 108], ml_w1) := mq_eq (by decide +kernel)
set_option maxRecDepth 1000000 in
theorem k3_isAbove_b : mx_runN kb_isAbove_b mt_tab (mx_call kb_isAbove_b mt_tab mo_ovr mo_jmp 6) none (mo_jmp 102) mt_X8_isAbove 7 (0, lv_args 0 (.ref 0 :: [.ref 1048578, .ref 1048579]), [], ml_w1) = some (30, lv_args 0 (.ref 0 :: [.ref 1048578, .ref 1048579]), [], ml_w1) := mq_eq (by decide +kernel)
set_option maxHeartbeats 4000000 in
set_option maxRecDepth 100000 in
theorem ct_isAbove_b (hl : l.stackTraces = false) (hfz : r mx_F ≠ .int 0) (C : ml_C kb_isAbove_b p s m meth c r D cy (some 4)) (hEX : mx_EX s.heap.size s s.heap) (hv : lv_has ls 8 (mx_lv r ml_lv)) (hR : mx_R D cy r s.heap.size ml_w1 H) (hS : va_S (fun q => s.heap.size ≤ q) s.heap H locs) :
    W p l e room_1 s m #[Value.ref b] below meth c H locs 109 357940 (lw_Z below #[Value.ref b] s) (F0 m 297 ls []) := by
  obtain ⟨hx, hb, hml, hown, hE, hK, hr, hsc, hnm, hfr, hloc, hkb⟩ := C.1
  exact lt_wr (K1 := 12) (pcP := 311) (ixL := 74) (K4 := 30) (mc := 1) (ms := 6) (f := 8) (lo := 320) (MW := mt_L_isAbove) (hh := hh_isAbove) (a := [.ref 0, .ref 1048578, .ref 1048579, .ref 108]) (w2 := ml_w1) (kv := 1) C hEX k1_isAbove_b (mw_thr (d := 6) (K := 5) (pcv := 5) (ixv := 23) (h1 := 15) (y := 102) (n0 := 1170) (MW := mt_L_isAbove) (M := mt_X8_isAbove) (hh := hh_isAbove) (a := [.ref 0, .ref 1048578, .ref 1048579, .ref 108]) (As := [.ref 1048578, .ref 1048579]) (w := ml_w1) (lv := lv_args 0 [.ref 0, .ref 1048578, .ref 1048579, .ref 108]) (rest := [.int 0, .ref 108]) (E := ms_IOB) (kq := 1) (kv := 1) (pw := 1169) hr hkb mw_L_isAbove rfl rfl (by decide +kernel) rfl rfl rfl rfl (mv_thr (d := 6) (y := 102) (K := 7) (pcn := 30) (ik := 101) (is := 103) (ic := 105) (pk := 1142) (pn := 168) (M := mt_X8_isAbove) (a := .ref 0 :: [.ref 1048578, .ref 1048579]) (w := ml_w1) (lv := lv_args 0 (.ref 0 :: [.ref 1048578, .ref 1048579])) (E := ms_IOB) (tx := "no such class") hl hr hkb hfz rfl (by decide) rfl (by decide +kernel) k3_isAbove_b (by decide +kernel) (by decide +kernel) (by decide +kernel) (by decide) ms_atB ms_goB (show decode cX8_isAbove 30 = .ok (.new 101, 3) by decide +kernel) (show decode cX8_isAbove 33 = .ok (.dup, 1) by decide +kernel) (show decode cX8_isAbove 34 = .ok (.ldc 103, 2) by decide +kernel) (show decode cX8_isAbove 36 = .ok (.invokespecial 105, 3) by decide +kernel) (show decode cX8_isAbove 39 = .ok (.athrow, 1) by decide +kernel)) (by decide +kernel) k2_isAbove_b rfl (by decide +kernel) ⟨_, rfl⟩ (by decide +kernel) (show decode cL_isAbove 5 = .ok (.invokevirtual 23, 3) by decide +kernel) [] (⟨0, 10, 13, 21⟩ : ExceptionTableEntry) [] rfl (fun z hz => by cases hz) (by decide) (by decide) (pc2 := 1137) (by decide +kernel) (pc3 := 1144) (by decide +kernel) (Or.inl ⟨4, by decide +kernel, by decide, rfl⟩) (show decode cL_isAbove 15 = .ok (.iconst 1, 1) by decide +kernel) (by decide) (show decode cL_isAbove 16 = .ok (.ireturn, 1) by decide +kernel)) hw_isAbove ⟨by decide +kernel, by decide +kernel, by decide +kernel⟩ (by decide) (by decide) (by decide) (by decide) ml_len ml_sz (show decode code 311 = .ok (.invokestatic 74, 3) by decide +kernel) k4_isAbove_b hv hR hS
def kb_isAbove_c : mK := [((.eq, .ref 1048578, .int 0), true), ((.lt, .ref 1048579, .int 0), true), ((.ge, .ref 1048579, .int 0), false)]
set_option maxRecDepth 1000000 in
theorem k1_isAbove_c : mx_runN kb_isAbove_c mt_tab (ml_call kb_isAbove_c) (some 4) (fun _ => none) mt_L_law 12 (297, ml_lv, [], ml_w1) = some (311, ml_lv, ([.ref 0, .int 0, .ref 1048579, .ref 108] : List Value).reverse, ml_w1) := mq_eq (by decide +kernel)
set_option maxRecDepth 1000000 in
theorem k4_isAbove_c : mq3 (mx_runN kb_isAbove_c mt_tab (ml_call kb_isAbove_c) (some 4) (fun _ => none) mt_L_law 30 (314, ml_lv, [.int 1], ml_w1)) = true := by decide +kernel
set_option maxRecDepth 1000000 in
theorem k2_isAbove_c : mx_runN kb_isAbove_c mt_tab (mx_call kb_isAbove_c mt_tab mo_ovr mo_jmp 0) none (fun _ => none) mt_L_isAbove 5 (0, lv_args 0 [.ref 0, .int 0, .ref 1048579, .ref 108], [], ml_w1) = some (5, lv_args 0 [.ref 0, .int 0, .ref 1048579, .ref 108], ([.int 0, .ref 1048579] : List Value).reverse ++ .ref 0 :: [.int 0, .ref 108], ml_w1) := mq_eq (by decide +kernel)
set_option maxRecDepth 1000000 in
theorem k3_isAbove_c : mx_runN kb_isAbove_c mt_tab (mx_call kb_isAbove_c mt_tab mo_ovr mo_jmp 6) none (mo_jmp 102) mt_X8_isAbove 9 (0, lv_args 0 (.ref 0 :: [.int 0, .ref 1048579]), [], ml_w1) = some (30, lv_args 0 (.ref 0 :: [.int 0, .ref 1048579]), [], ml_w1) := mq_eq (by decide +kernel)
set_option maxHeartbeats 4000000 in
set_option maxRecDepth 100000 in
theorem ct_isAbove_c (hl : l.stackTraces = false) (hfz : r mx_F ≠ .int 0) (C : ml_C kb_isAbove_c p s m meth c r D cy (some 4)) (hEX : mx_EX s.heap.size s s.heap) (hv : lv_has ls 8 (mx_lv r ml_lv)) (hR : mx_R D cy r s.heap.size ml_w1 H) (hS : va_S (fun q => s.heap.size ≤ q) s.heap H locs) :
    W p l e room_1 s m #[Value.ref b] below meth c H locs 109 357940 (lw_Z below #[Value.ref b] s) (F0 m 297 ls []) := by
  obtain ⟨hx, hb, hml, hown, hE, hK, hr, hsc, hnm, hfr, hloc, hkb⟩ := C.1
  exact lt_wr (K1 := 12) (pcP := 311) (ixL := 74) (K4 := 30) (mc := 1) (ms := 6) (f := 8) (lo := 320) (MW := mt_L_isAbove) (hh := hh_isAbove) (a := [.ref 0, .int 0, .ref 1048579, .ref 108]) (w2 := ml_w1) (kv := 1) C hEX k1_isAbove_c (mw_thr (d := 6) (K := 5) (pcv := 5) (ixv := 23) (h1 := 15) (y := 102) (n0 := 1170) (MW := mt_L_isAbove) (M := mt_X8_isAbove) (hh := hh_isAbove) (a := [.ref 0, .int 0, .ref 1048579, .ref 108]) (As := [.int 0, .ref 1048579]) (w := ml_w1) (lv := lv_args 0 [.ref 0, .int 0, .ref 1048579, .ref 108]) (rest := [.int 0, .ref 108]) (E := ms_IOB) (kq := 1) (kv := 1) (pw := 1169) hr hkb mw_L_isAbove rfl rfl (by decide +kernel) rfl rfl rfl rfl (mv_thr (d := 6) (y := 102) (K := 9) (pcn := 30) (ik := 101) (is := 103) (ic := 105) (pk := 1142) (pn := 168) (M := mt_X8_isAbove) (a := .ref 0 :: [.int 0, .ref 1048579]) (w := ml_w1) (lv := lv_args 0 (.ref 0 :: [.int 0, .ref 1048579])) (E := ms_IOB) (tx := "no such class") hl hr hkb hfz rfl (by decide) rfl (by decide +kernel) k3_isAbove_c (by decide +kernel) (by decide +kernel) (by decide +kernel) (by decide) ms_atB ms_goB (show decode cX8_isAbove 30 = .ok (.new 101, 3) by decide +kernel) (show decode cX8_isAbove 33 = .ok (.dup, 1) by decide +kernel) (show decode cX8_isAbove 34 = .ok (.ldc 103, 2) by decide +kernel) (show decode cX8_isAbove 36 = .ok (.invokespecial 105, 3) by decide +kernel) (show decode cX8_isAbove 39 = .ok (.athrow, 1) by decide +kernel)) (by decide +kernel) k2_isAbove_c rfl (by decide +kernel) ⟨_, rfl⟩ (by decide +kernel) (show decode cL_isAbove 5 = .ok (.invokevirtual 23, 3) by decide +kernel) [] (⟨0, 10, 13, 21⟩ : ExceptionTableEntry) [] rfl (fun z hz => by cases hz) (by decide) (by decide) (pc2 := 1137) (by decide +kernel) (pc3 := 1144) (by decide +kernel) (Or.inl ⟨4, by decide +kernel, by decide, rfl⟩) (show decode cL_isAbove 15 = .ok (.iconst 1, 1) by decide +kernel) (by decide) (show decode cL_isAbove 16 = .ok (.ireturn, 1) by decide +kernel)) hw_isAbove ⟨by decide +kernel, by decide +kernel, by decide +kernel⟩ (by decide) (by decide) (by decide) (by decide) ml_len ml_sz (show decode code 311 = .ok (.invokestatic 74, 3) by decide +kernel) k4_isAbove_c hv hR hS
def kb_isAbove_d : mK := [((.eq, .ref 1048578, .int 0), true), ((.lt, .ref 1048579, .int 0), false), ((.ge, .ref 1048579, .int 0), true), ((.ge, .ref 1048579, .int 1), true), ((.lt, .ref 1048579, .int 1), false)]
set_option maxRecDepth 1000000 in
theorem k1_isAbove_d : mx_runN kb_isAbove_d mt_tab (ml_call kb_isAbove_d) (some 4) (fun _ => none) mt_L_law 12 (297, ml_lv, [], ml_w1) = some (311, ml_lv, ([.ref 0, .int 0, .ref 1048579, .ref 108] : List Value).reverse, ml_w1) := mq_eq (by decide +kernel)
set_option maxRecDepth 1000000 in
theorem k4_isAbove_d : mq3 (mx_runN kb_isAbove_d mt_tab (ml_call kb_isAbove_d) (some 4) (fun _ => none) mt_L_law 30 (314, ml_lv, [.int 1], ml_w1)) = true := by decide +kernel
set_option maxRecDepth 1000000 in
theorem k2_isAbove_d : mx_runN kb_isAbove_d mt_tab (mx_call kb_isAbove_d mt_tab mo_ovr mo_jmp 0) none (fun _ => none) mt_L_isAbove 5 (0, lv_args 0 [.ref 0, .int 0, .ref 1048579, .ref 108], [], ml_w1) = some (5, lv_args 0 [.ref 0, .int 0, .ref 1048579, .ref 108], ([.int 0, .ref 1048579] : List Value).reverse ++ .ref 0 :: [.int 0, .ref 108], ml_w1) := mq_eq (by decide +kernel)
set_option maxRecDepth 1000000 in
theorem k3_isAbove_d : mx_runN kb_isAbove_d mt_tab (mx_call kb_isAbove_d mt_tab mo_ovr mo_jmp 6) none (mo_jmp 102) mt_X8_isAbove 14 (0, lv_args 0 (.ref 0 :: [.int 0, .ref 1048579]), [], ml_w1) = some (30, lv_args 0 (.ref 0 :: [.int 0, .ref 1048579]), [], ml_w1) := mq_eq (by decide +kernel)
set_option maxHeartbeats 4000000 in
set_option maxRecDepth 100000 in
theorem ct_isAbove_d (hl : l.stackTraces = false) (hfz : r mx_F ≠ .int 0) (C : ml_C kb_isAbove_d p s m meth c r D cy (some 4)) (hEX : mx_EX s.heap.size s s.heap) (hv : lv_has ls 8 (mx_lv r ml_lv)) (hR : mx_R D cy r s.heap.size ml_w1 H) (hS : va_S (fun q => s.heap.size ≤ q) s.heap H locs) :
    W p l e room_1 s m #[Value.ref b] below meth c H locs 109 357940 (lw_Z below #[Value.ref b] s) (F0 m 297 ls []) := by
  obtain ⟨hx, hb, hml, hown, hE, hK, hr, hsc, hnm, hfr, hloc, hkb⟩ := C.1
  exact lt_wr (K1 := 12) (pcP := 311) (ixL := 74) (K4 := 30) (mc := 1) (ms := 6) (f := 8) (lo := 320) (MW := mt_L_isAbove) (hh := hh_isAbove) (a := [.ref 0, .int 0, .ref 1048579, .ref 108]) (w2 := ml_w1) (kv := 1) C hEX k1_isAbove_d (mw_thr (d := 6) (K := 5) (pcv := 5) (ixv := 23) (h1 := 15) (y := 102) (n0 := 1170) (MW := mt_L_isAbove) (M := mt_X8_isAbove) (hh := hh_isAbove) (a := [.ref 0, .int 0, .ref 1048579, .ref 108]) (As := [.int 0, .ref 1048579]) (w := ml_w1) (lv := lv_args 0 [.ref 0, .int 0, .ref 1048579, .ref 108]) (rest := [.int 0, .ref 108]) (E := ms_IOB) (kq := 1) (kv := 1) (pw := 1169) hr hkb mw_L_isAbove rfl rfl (by decide +kernel) rfl rfl rfl rfl (mv_thr (d := 6) (y := 102) (K := 14) (pcn := 30) (ik := 101) (is := 103) (ic := 105) (pk := 1142) (pn := 168) (M := mt_X8_isAbove) (a := .ref 0 :: [.int 0, .ref 1048579]) (w := ml_w1) (lv := lv_args 0 (.ref 0 :: [.int 0, .ref 1048579])) (E := ms_IOB) (tx := "no such class") hl hr hkb hfz rfl (by decide) rfl (by decide +kernel) k3_isAbove_d (by decide +kernel) (by decide +kernel) (by decide +kernel) (by decide) ms_atB ms_goB (show decode cX8_isAbove 30 = .ok (.new 101, 3) by decide +kernel) (show decode cX8_isAbove 33 = .ok (.dup, 1) by decide +kernel) (show decode cX8_isAbove 34 = .ok (.ldc 103, 2) by decide +kernel) (show decode cX8_isAbove 36 = .ok (.invokespecial 105, 3) by decide +kernel) (show decode cX8_isAbove 39 = .ok (.athrow, 1) by decide +kernel)) (by decide +kernel) k2_isAbove_d rfl (by decide +kernel) ⟨_, rfl⟩ (by decide +kernel) (show decode cL_isAbove 5 = .ok (.invokevirtual 23, 3) by decide +kernel) [] (⟨0, 10, 13, 21⟩ : ExceptionTableEntry) [] rfl (fun z hz => by cases hz) (by decide) (by decide) (pc2 := 1137) (by decide +kernel) (pc3 := 1144) (by decide +kernel) (Or.inl ⟨4, by decide +kernel, by decide, rfl⟩) (show decode cL_isAbove 15 = .ok (.iconst 1, 1) by decide +kernel) (by decide) (show decode cL_isAbove 16 = .ok (.ireturn, 1) by decide +kernel)) hw_isAbove ⟨by decide +kernel, by decide +kernel, by decide +kernel⟩ (by decide) (by decide) (by decide) (by decide) ml_len ml_sz (show decode code 311 = .ok (.invokestatic 74, 3) by decide +kernel) k4_isAbove_d hv hR hS
def kb_isAbove_r : mK := [((.eq, .ref 1048578, .int 0), true), ((.eq, .ref 1048579, .int 0), true)]
def w2_isAbove_r : mW := ([.inl (8, [.ref 1, .ref 6, .ref 10, .ref 14, .ref 32, .ref 50, .ref 52, .int 0]),
  .inl (5, [.ref 2, .ref 3, .ref 4, .ref 5, .int 0, .int 0, .int 0, .int 0, .long 0]),
  .inr ((0, 800), .inl (0, [])),
  .inr ((0, 801), .inl (0, [])),
  .inr ((0, 801), .inl (0, [])),
  .inr ((1, 801), .inr (0, [])),
  .inl (7, [.ref 7, .ref 8, .ref 9, .int 0]),
  .inr ((0, 6400), .inl (0, [])),
  .inr ((0, 6400), .inl (0, [])),
  .inr ((0, 80), .inl (0, [])),
  .inl (2, [.ref 11, .ref 12, .ref 13, .int 0, .int 0]),
  .inr ((0, 1000), .inl (0, [])),
  .inr ((0, 1001), .inl (0, [])),
  .inr ((0, 1001), .inl (0, [])),
  .inl (4, [.ref 15, .ref 16, .ref 17, .ref 18, .ref 19, .ref 20, .ref 21, .ref 22, .ref 23, .ref 24, .ref 25, .ref 26, .int 1, .int 0, .int 0]),
  .inr ((1, 21), .inr (0, [(0, 4288121)])),
  .inr ((0, 21), .inl (0, [(0, 0)])),
  .inr ((0, 21), .inl (0, [(0, 0)])),
  .inr ((0, 21), .inl (0, [(0, 0)])),
  .inr ((0, 84), .inl (0, [])),
  .inr ((1, 80), .inr (0, [])),
  .inr ((0, 80), .inl (0, [])),
  .inr ((0, 80), .inl (0, [])),
  .inr ((0, 160), .inl (0, [])),
  .inr ((0, 160), .inl (0, [])),
  .inr ((0, 300), .inl (0, [])),
  .inl (1, [.ref 27, .ref 28, .ref 29, .ref 30, .int 0, .ref 31, .int 1]),
  .inr ((0, 441), .inl (0, [(0, 0)])),
  .inr ((0, 441), .inl (0, [(0, 1)])),
  .inr ((0, 4), .inl (0, [])),
  .inr ((0, 4), .inl (0, [])),
  .inr ((0, 1024), .inl (0, [(0, 0)])),
  .inl (4, [.ref 33, .ref 34, .ref 35, .ref 36, .ref 37, .ref 38, .ref 39, .ref 40, .ref 41, .ref 42, .ref 43, .ref 44, .int 1, .int 0, .int 0]),
  .inr ((1, 21), .inr (0, [(0, 4288121)])),
  .inr ((0, 21), .inl (0, [(0, 0)])),
  .inr ((0, 21), .inl (0, [(0, 0)])),
  .inr ((0, 21), .inl (0, [(0, 0)])),
  .inr ((0, 84), .inl (0, [])),
  .inr ((1, 80), .inr (0, [])),
  .inr ((0, 80), .inl (0, [])),
  .inr ((0, 80), .inl (0, [])),
  .inr ((0, 160), .inl (0, [])),
  .inr ((0, 160), .inl (0, [])),
  .inr ((0, 300), .inl (0, [])),
  .inl (1, [.ref 45, .ref 46, .ref 47, .ref 48, .int 0, .ref 49, .int 1]),
  .inr ((0, 441), .inl (0, [(0, 0)])),
  .inr ((0, 441), .inl (0, [(0, 1)])),
  .inr ((0, 4), .inl (0, [])),
  .inr ((0, 4), .inl (0, [])),
  .inr ((0, 1024), .inl (0, [(0, 0)])),
  .inl (3, [.ref 1, .ref 51, .ref 14, .ref 51, .int 0, .int 0, .int 0, .int 0, .int 0, .int 0, .int 0]),
  .inr ((0, 300), .inl (0, [])),
  .inl (0, [.ref 59, .ref 53, .ref 54, .ref 55, .ref 56, .ref 57, .ref 58, .ref 14, .int 0, .int 0, .int 0, .int 0, .int 0, .int 0, .int 0]),
  .inr ((0, 300), .inl (0, [])),
  .inr ((0, 900), .inl (0, [])),
  .inr ((0, 300), .inl (0, [])),
  .inr ((0, 4), .inl (0, [])),
  .inr ((0, 8), .inl (0, [])),
  .inr ((0, 164), .inl (0, [])),
  .inl (6, [.ref 60, .ref 61, .ref 62, .ref 63, .ref 64, .ref 65, .ref 14, .int 1, .int 0]),
  .inr ((0, 7000), .inl (0, [(0, 0)])),
  .inr ((0, 7000), .inl (0, [(0, 0)])),
  .inr ((0, 7000), .inl (0, [(0, (-1))])),
  .inr ((0, 7000), .inl (0, [])),
  .inr ((0, 2048), .inl ((-1), [(0, 0)])),
  .inr ((0, 300), .inl (0, [])),
  .inl (9, [.ref 67, .ref 68, .ref 69, .ref 70, .ref 71, .ref 72, .ref 73, .int 0, .int 1, .ref 74, .ref 75, .ref 76, .ref 77, .ref 78, .ref 79, .ref 80, .ref 81, .ref 82, .ref 83, .ref 84, .int 1, .int 0, .int 0, .int 1, .int 0, .int 0, .int 0, .int 0, .ref 85, .int 0, .int 0, .int 0, .int 0, .int 0, .int 0, .int 0, .int 0, .int 0, .int 0, .ref 86, .ref 87, .int 0, .ref 88, .ref 89, .ref 90, .int 0, .int 0, .int 0, .int 0, .ref 91, .ref 92, .ref 93, .ref 94, .ref 95, .int 0, .ref 96, .int 0, .int 0, .ref 97, .ref 98, .int 0, .ref 99, .ref 100, .ref 101, .ref 102, .ref 103, .ref 104, .ref 105, .int 0, .ref 106, .int 0, .int 0, .int 0, .ref 107, .int 0, .int 0, .int 0]),
  .inr ((0, 20000), .inl (0, [(0, 0)])),
  .inr ((0, 20000), .inl (0, [(0, 0)])),
  .inr ((0, 20000), .inl (0, [(0, 0)])),
  .inr ((0, 80000), .inl (0, [])),
  .inr ((0, 20000), .inl (0, [(0, 1)])),
  .inr ((0, 20000), .inl (0, [(0, (-1))])),
  .inr ((0, 2048), .inl ((-1), [(0, 0)])),
  .inr ((0, 4), .inl (0, [])),
  .inr ((1, 42), .inr (0, [(0, 4288121)])),
  .inr ((0, 42), .inl (0, [(0, 0)])),
  .inr ((0, 42), .inl (0, [(0, 0)])),
  .inr ((0, 168), .inl (0, [])),
  .inr ((0, 42), .inl (0, [(0, 0)])),
  .inr ((0, 882), .inl (0, [(0, 0), (20, (-1)), (19, (-1)), (18, (-1)), (17, (-1)), (16, (-1)), (15, (-1)), (14, (-1)), (13, (-1)), (12, (-1)), (11, (-1)), (10, (-1)), (9, (-1)), (8, (-1)), (7, (-1)), (6, (-1)), (5, (-1)), (4, (-1)), (3, (-1)), (2, (-1)), (1, (-1)), (0, (-1))])),
  .inr ((1, 160), .inr (0, [])),
  .inr ((0, 160), .inl (0, [])),
  .inr ((0, 320), .inl (0, [])),
  .inr ((0, 160), .inl (0, [])),
  .inr ((0, 800), .inl (0, [])),
  .inr ((0, 6400), .inl (0, [])),
  .inr ((2, 6400), .inl (0, [])),
  .inr ((0, 900), .inl (0, [])),
  .inr ((0, 300), .inl (0, [])),
  .inr ((0, 300), .inl (0, [])),
  .inr ((0, 42), .inl (0, [])),
  .inr ((0, 42), .inl (0, [])),
  .inr ((0, 42), .inl (0, [])),
  .inr ((0, 42), .inl (0, [])),
  .inr ((0, 42), .inl (0, [])),
  .inr ((3, 1000), .inl (0, [])),
  .inr ((0, 20000), .inl (0, [])),
  .inr ((0, 20000), .inl (0, [])),
  .inr ((0, 20000), .inl (0, [])),
  .inr ((2, 10), .inl (0, [])),
  .inr ((0, 10), .inl (0, [])),
  .inr ((0, 10), .inl (0, [])),
  .inr ((0, 40), .inl (0, [])),
  .inr ((0, 10), .inl (0, [])),
  .inr ((0, 20000), .inl (0, [])),
  .inr ((0, 20000), .inl (0, [])),
  .inr ((0, 4), .inl (0, [])),
  .inr ((1, 1), .inr (0, [(0, 1)]))], 357940)
set_option maxRecDepth 1000000 in
theorem k1_isAbove_r : mx_runN kb_isAbove_r mt_tab (ml_call kb_isAbove_r) (some 4) (fun _ => none) mt_L_law 12 (297, ml_lv, [], ml_w1) = some (311, ml_lv, ([.ref 0, .int 0, .int 0, .ref 108] : List Value).reverse, ml_w1) := mq_eq (by decide +kernel)
set_option maxRecDepth 1000000 in
theorem k4_isAbove_r : mq3 (mx_runN kb_isAbove_r mt_tab (ml_call kb_isAbove_r) (some 4) (fun _ => none) mt_L_law 37 (314, ml_lv, [.int 0], w2_isAbove_r)) = true := by decide +kernel
set_option maxRecDepth 1000000 in
theorem k2_isAbove_r : mx_loop kb_isAbove_r mt_tab (mx_call kb_isAbove_r mt_tab mo_ovr mo_jmp 38) (fun _ => none) mt_L_isAbove 1000 (0, lv_args 0 [.ref 0, .int 0, .int 0, .ref 108], [], ml_w1) = some (some (.int 0), w2_isAbove_r) := mq2_eq (by decide +kernel)
theorem k3_isAbove_r : w2_isAbove_r.1.length = 109 ∧ w2_isAbove_r.2 = 357940 := by decide +kernel
set_option maxHeartbeats 4000000 in
set_option maxRecDepth 100000 in
theorem ct_isAbove_r (hl : l.stackTraces = false) (hfz : r mx_F ≠ .int 0) (C : ml_C kb_isAbove_r p s m meth c r D cy (some 4)) (hEX : mx_EX s.heap.size s s.heap) (hv : lv_has ls 8 (mx_lv r ml_lv)) (hR : mx_R D cy r s.heap.size ml_w1 H) (hS : va_S (fun q => s.heap.size ≤ q) s.heap H locs) :
    W p l e room_1 s m #[Value.ref b] below meth c H locs 109 357940 (lw_Z below #[Value.ref b] s) (F0 m 297 ls []) := by
  obtain ⟨hx, hb, hml, hown, hE, hK, hr, hsc, hnm, hfr, hloc, hkb⟩ := C.1
  exact lt_wr (K1 := 12) (pcP := 311) (ixL := 74) (K4 := 37) (mc := w2_isAbove_r.1.length - ml_w1.1.length) (ms := w2_isAbove_r.2 - ml_w1.2) (f := 39) (lo := 40 * 39) (MW := mt_L_isAbove) (hh := hh_isAbove) (a := [.ref 0, .int 0, .int 0, .ref 108]) (w2 := w2_isAbove_r) (kv := 0) C hEX k1_isAbove_r (mw_ret (d := 38) (MW := mt_L_isAbove) (hh := hh_isAbove) (a := [.ref 0, .int 0, .int 0, .ref 108]) (w := ml_w1) (w' := w2_isAbove_r) (v := some (.int 0)) hr hkb mw_L_isAbove rfl rfl (by decide +kernel) k2_isAbove_r) hw_isAbove ⟨by decide +kernel, by decide +kernel, by decide +kernel⟩ (by decide) (by decide) (by rw [k3_isAbove_r.1, ml_len]; decide) (by rw [k3_isAbove_r.2, ml_sz]; decide) k3_isAbove_r.1 k3_isAbove_r.2 (show decode code 311 = .ok (.invokestatic 74, 3) by decide +kernel) k4_isAbove_r hv hR hS
end MC0
