/-! ### the classes that are made: their words among the tables' -/
theorem mx_ws_of {ws : List Cond} (ps : List Nat) (hp : ws = ps.filterMap (fun i => lw_tbl[i]?)) (h : ws.all mx_ok = true) : ∀ w ∈ ws, w ∈ lw_tbl ∧ mx_ok w = true := by
  intro w hw
  have h1 := List.all_eq_true.mp h w hw
  rw [hp] at hw
  obtain ⟨i, -, hi⟩ := List.mem_filterMap.mp hw
  exact ⟨List.mem_of_getElem? hi, h1⟩
set_option maxRecDepth 100000 in
theorem mx_ws0 : ∀ w ∈ u_ws RX0 TX0 15, w ∈ lw_tbl ∧ mx_ok w = true := mx_ws_of [532, 534, 536, 538, 540, 542, 544, 546, 548, 550, 552, 554, 556, 558, 560] (by decide +kernel) (by decide +kernel)
theorem mx_in0 : mx_at 471 (.instantiable RX0 15) = true ∧ mx_at 155 (.initialized RX0) = true := by decide +kernel
theorem mx_dc0 : ∀ k, k < 15 → (TX0 k).1 = RX0 := by decide +kernel
set_option maxRecDepth 100000 in
theorem mx_ws1 : ∀ w ∈ u_ws RX1 TX1 7, w ∈ lw_tbl ∧ mx_ok w = true := mx_ws_of [285, 287, 289, 291, 293, 295, 297] (by decide +kernel) (by decide +kernel)
theorem mx_in1 : mx_at 270 (.instantiable RX1 7) = true ∧ mx_at 150 (.initialized RX1) = true := by decide +kernel
theorem mx_dc1 : ∀ k, k < 7 → (TX1 k).1 = RX1 := by decide +kernel
set_option maxRecDepth 100000 in
theorem mx_ws2 : ∀ w ∈ u_ws RX2 TX2 5, w ∈ lw_tbl ∧ mx_ok w = true := mx_ws_of [252, 254, 256, 258, 260] (by decide +kernel) (by decide +kernel)
theorem mx_in2 : mx_at 240 (.instantiable RX2 5) = true ∧ mx_at 148 (.initialized RX2) = true := by decide +kernel
theorem mx_dc2 : ∀ k, k < 5 → (TX2 k).1 = RX2 := by decide +kernel
set_option maxRecDepth 100000 in
theorem mx_ws3 : ∀ w ∈ u_ws RX3 TX3 11, w ∈ lw_tbl ∧ mx_ok w = true := mx_ws_of [447, 449, 451, 453, 455, 457, 459, 461, 463, 465, 467] (by decide +kernel) (by decide +kernel)
theorem mx_in3 : mx_at 424 (.instantiable RX3 11) = true ∧ mx_at 154 (.initialized RX3) = true := by decide +kernel
theorem mx_dc3 : ∀ k, k < 11 → (TX3 k).1 = RX3 := by decide +kernel
set_option maxRecDepth 100000 in
theorem mx_ws4 : ∀ w ∈ u_ws RX4 TX4 15, w ∈ lw_tbl ∧ mx_ok w = true := mx_ws_of [392, 394, 396, 398, 400, 402, 404, 406, 408, 410, 412, 414, 416, 418, 420] (by decide +kernel) (by decide +kernel)
theorem mx_in4 : mx_at 264 (.instantiable RX4 15) = true ∧ mx_at 149 (.initialized RX4) = true := by decide +kernel
theorem mx_dc4 : ∀ k, k < 15 → (TX4 k).1 = RX4 := by decide +kernel
set_option maxRecDepth 100000 in
theorem mx_ws5 : ∀ w ∈ u_ws RX5 TX5 9, w ∈ lw_tbl ∧ mx_ok w = true := mx_ws_of [196, 198, 200, 202, 204, 206, 208, 210, 212] (by decide +kernel) (by decide +kernel)
theorem mx_in5 : mx_at 178 (.instantiable RX5 9) = true ∧ mx_at 146 (.initialized RX5) = true := by decide +kernel
theorem mx_dc5 : ∀ k, k < 9 → (TX5 k).1 = RX5 := by decide +kernel
set_option maxRecDepth 100000 in
theorem mx_ws6 : ∀ w ∈ u_ws RX6 TX6 9, w ∈ lw_tbl ∧ mx_ok w = true := mx_ws_of [491, 493, 495, 497, 499, 501, 503, 505, 507] (by decide +kernel) (by decide +kernel)
theorem mx_in6 : mx_at 477 (.instantiable RX6 9) = true ∧ mx_at 156 (.initialized RX6) = true := by decide +kernel
theorem mx_dc6 : ∀ k, k < 9 → (TX6 k).1 = RX6 := by decide +kernel
set_option maxRecDepth 100000 in
theorem mx_ws7 : ∀ w ∈ u_ws RX7 TX7 4, w ∈ lw_tbl ∧ mx_ok w = true := mx_ws_of [230, 232, 234, 236] (by decide +kernel) (by decide +kernel)
theorem mx_in7 : mx_at 218 (.instantiable RX7 4) = true ∧ mx_at 147 (.initialized RX7) = true := by decide +kernel
theorem mx_dc7 : ∀ k, k < 4 → (TX7 k).1 = RX7 := by decide +kernel
set_option maxRecDepth 100000 in
theorem mx_ws8 : ∀ w ∈ u_ws RX8 TX8 8, w ∈ lw_tbl ∧ mx_ok w = true := mx_ws_of [618, 620, 622, 624, 626, 628, 630, 632] (by decide +kernel) (by decide +kernel)
theorem mx_in8 : mx_at 170 (.instantiable RX8 8) = true ∧ mx_at 145 (.initialized RX8) = true := by decide +kernel
theorem mx_dc8 : ∀ k, k < 8 → (TX8 k).1 = RX8 := by decide +kernel
set_option maxRecDepth 100000 in
theorem mx_ws9 : ∀ w ∈ u_ws RX9 TX9 77, w ∈ lw_tbl ∧ mx_ok w = true := mx_ws_of [1370, 1372, 1374, 1376, 1378, 1380, 1382, 1384, 1386, 1388, 1390, 1392, 1394, 1396, 1398, 1400, 1402, 1404, 1406, 1408, 1410, 1412, 1414, 1416, 1418, 1420, 1422, 1424, 1426, 1428, 1430, 1432, 1434, 1436, 1438, 1440, 1442, 1444, 1446, 1448, 1450, 1452, 1454, 1456, 1458, 1460, 1462, 1464, 1466, 1468, 1470, 1472, 1474, 1476, 1478, 1480, 1482, 1484, 1486, 1488, 1490, 1492, 1494, 1496, 1498, 1500, 1502, 1504, 1506, 1508, 1510, 1512, 1514, 1516, 1518, 1520, 1522] (by decide +kernel) (by decide +kernel)
theorem mx_in9 : mx_at 1260 (.instantiable RX9 77) = true ∧ mx_at 157 (.initialized RX9) = true := by decide +kernel
theorem mx_dc9 : ∀ k, k < 77 → (TX9 k).1 = RX9 := by decide +kernel
/-- what is known of a class by its number -/
def mx_C (ci : Nat) (q : vw_C) : Prop := (∀ w ∈ u_ws q.1 q.2.1 q.2.2, w ∈ lw_tbl ∧ mx_ok w = true) ∧ (∀ k, k < q.2.2 → parseFieldDescriptor (q.2.1 k).2.2.1 = some (mx_ty ci k)) ∧ (∀ a, a < q.2.2 → ∀ b, b < q.2.2 → a ≠ b → (q.2.1 a).2.1 ≠ (q.2.1 b).2.1) ∧ (∀ k, k < q.2.2 → (q.2.1 k).1 = q.1) ∧ ∃ i j, mx_at i (.instantiable q.1 q.2.2) = true ∧ mx_at j (.initialized q.1) = true
theorem mx_C_of {ci : Nat} {q : vw_C} (h : mx_cl[ci]? = some q) : mx_C ci q := by
  match ci, h with
  | 0, h => cases h; exact ⟨mx_ws0, tyX0_ok, nmX0, mx_dc0, _, _, mx_in0⟩
  | 1, h => cases h; exact ⟨mx_ws1, tyX1_ok, nmX1, mx_dc1, _, _, mx_in1⟩
  | 2, h => cases h; exact ⟨mx_ws2, tyX2_ok, nmX2, mx_dc2, _, _, mx_in2⟩
  | 3, h => cases h; exact ⟨mx_ws3, tyX3_ok, nmX3, mx_dc3, _, _, mx_in3⟩
  | 4, h => cases h; exact ⟨mx_ws4, tyX4_ok, nmX4, mx_dc4, _, _, mx_in4⟩
  | 5, h => cases h; exact ⟨mx_ws5, tyX5_ok, nmX5, mx_dc5, _, _, mx_in5⟩
  | 6, h => cases h; exact ⟨mx_ws6, tyX6_ok, nmX6, mx_dc6, _, _, mx_in6⟩
  | 7, h => cases h; exact ⟨mx_ws7, tyX7_ok, nmX7, mx_dc7, _, _, mx_in7⟩
  | 8, h => cases h; exact ⟨mx_ws8, tyX8_ok, nmX8, mx_dc8, _, _, mx_in8⟩
  | 9, h => cases h; exact ⟨mx_ws9, tyX9_ok, nmX9, mx_dc9, _, _, mx_in9⟩
  | n + 10, h => simp [mx_cl] at h
theorem mx_ar_int : mx_at 215 (.arrayClass .int) = true := by decide +kernel
theorem mx_ar_long : mx_at 216 (.arrayClass .long) = true := by decide +kernel
theorem mx_ar_boolean : mx_at 1525 (.arrayClass .boolean) = true := by decide +kernel
theorem mx_ar_byte : mx_at 935 (.arrayClass .byte) = true := by decide +kernel
theorem mx_oi : mx_at 175 (.instanceMethod objectInit) = true ∧ mx_at 176 (.code objectInit ⟨#[0xb1]⟩ 1 none) = true := by decide +kernel
