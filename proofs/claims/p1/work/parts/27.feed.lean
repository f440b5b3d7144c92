/-! ### feed -/
theorem dL_law_111 : decode cL_law 111 = .ok (.i2l, 1) := by decide +kernel
theorem dL_law_112 : decode cL_law 112 = .ok (.bipush 32, 2) := by decide +kernel
theorem dL_law_114 : decode cL_law 114 = .ok (.lshl, 1) := by decide +kernel
theorem dL_law_115 : decode cL_law 115 = .ok (.aload_n 0, 1) := by decide +kernel
theorem dL_law_116 : decode cL_law 116 = .ok (.iload 4, 2) := by decide +kernel
theorem dL_law_118 : decode cL_law 118 = .ok (.iconst 2, 1) := by decide +kernel
theorem dL_law_119 : decode cL_law 119 = .ok (.iadd, 1) := by decide +kernel
theorem dL_law_120 : decode cL_law 120 = .ok (.iaload, 1) := by decide +kernel
theorem dL_law_121 : decode cL_law 121 = .ok (.i2l, 1) := by decide +kernel
theorem dL_law_122 : decode cL_law 122 = .ok (.ldc2_w 50, 3) := by decide +kernel
theorem dL_law_125 : decode cL_law 125 = .ok (.land, 1) := by decide +kernel
theorem dL_law_126 : decode cL_law 126 = .ok (.lor, 1) := by decide +kernel
theorem dL_law_146 : decode cL_law 146 = .ok (.i2l, 1) := by decide +kernel
theorem dL_law_147 : decode cL_law 147 = .ok (.bipush 32, 2) := by decide +kernel
theorem dL_law_149 : decode cL_law 149 = .ok (.lshl, 1) := by decide +kernel
theorem dL_law_150 : decode cL_law 150 = .ok (.aload_n 0, 1) := by decide +kernel
theorem dL_law_151 : decode cL_law 151 = .ok (.iload 4, 2) := by decide +kernel
theorem dL_law_153 : decode cL_law 153 = .ok (.iconst 2, 1) := by decide +kernel
theorem dL_law_154 : decode cL_law 154 = .ok (.iadd, 1) := by decide +kernel
theorem dL_law_155 : decode cL_law 155 = .ok (.iaload, 1) := by decide +kernel
theorem dL_law_156 : decode cL_law 156 = .ok (.i2l, 1) := by decide +kernel
theorem dL_law_157 : decode cL_law 157 = .ok (.ldc2_w 50, 3) := by decide +kernel
theorem dL_law_160 : decode cL_law 160 = .ok (.land, 1) := by decide +kernel
theorem dL_law_161 : decode cL_law 161 = .ok (.lor, 1) := by decide +kernel
section MFE
variable {p : Program} {l : Launch} {e : Env} {s : State} {m : MethodId} {below : List Frame} {meth : Method} {c : Code} {b : Nat} {r : Nat → Value} {D : va_G} {cy : Nat → ClassId} {H : Heap} {ls : Array Slot} {locs : List Loc} {xs : Nat → Int32}
theorem ml_long_111 {kb : mK} (X : mx_X kb p room_1 s m meth c D cy r s.heap.size mt_L_law (some 4) s.heap 40) (hx1 : r 1048578 = .int (xs 1)) (hx2 : r 1048579 = .int (xs 2)) {lv : List (Nat × Value)} {v : Value} {w : mW} (h0 : lv.lookup 0 = some (.ref 1048576)) (h4 : lv.lookup 4 = some (.int 0)) : mx_St p l e room_1 s m #[Value.ref b] below meth c D cy r s.heap.size s.heap 8 (111, lv, [.ref 1048578, v], w) (127, lv, [.double 77, v], w) := by
  obtain ⟨hx, hb, hml, hown, hE, hK, hr, hsc, hnm, hfr, hlo, hkb⟩ := X
  obtain ⟨b2, ys, g1, g2, g3, g4, g5⟩ := hsc 4 rfl
  have y2 : ys 2 = xs 2 := by
    have h := g5 2 (by decide)
    rw [show mx_E + 1 + 2 = 1048579 from rfl, hx2] at h
    exact (Value.int.inj h).symm
  intro Q n0 z0 k0 k1 H ls locs hl hR hS hn0 hz0 hrc hrs kk
  have a0 := mx_lv_at hl h0
  have a4 := mx_lv_at hl h4
  have a0 : ls[0]? = some (.val (.ref b2)) := by
    rw [a0]
    show some (Slot.val (r mx_E)) = _
    rw [g1]
  show W p l e room_1 s m #[Value.ref b] below meth c H locs _ _ Q (F0 m 111 ls [r 1048578, mx_v r v])
  rw [hx1]
  refine lv_i2l hx hb dL_law_111 rfl ?_
  refine lv_bipush (v := 32) hx hb dL_law_112 (by decide) ?_
  refine lv_lshl hx hb dL_law_114 rfl ?_
  refine lv_aload_n hx hb dL_law_115 rfl a0 ?_
  refine lv_iload hx hb dL_law_116 a4 ?_
  refine lv_iconst (v := 2) hx hb dL_law_118 (by decide) ?_
  refine lv_iadd hx hb dL_law_119 ?_
  rw [show (0 : Int32) + 2 = nI 2 from by decide]
  refine va_sld hx hb g2 g3 g4 hS (i := nI 2) (vp_in_nI (by decide) (by decide)) dL_law_120 ?_
  rw [nI_clamp (by decide), y2]
  refine lv_i2l hx hb dL_law_121 rfl ?_
  refine lv_ldc2 (v := 4294967295) hx hb hown (mx_at_use (q := 1800) (w := .constantLong RL 50 4294967295) (by decide +kernel) hE) dL_law_122 ?_
  refine lv_land hx hb dL_law_125 ?_
  refine lv_lor hx hb dL_law_126 ?_
  have k := kk ls H locs hl hR hS
  have e1 : mx_v r (.double 77) = .long (((xs 1).toInt64 <<< ((32 : Int32).toInt64 &&& 63)) ||| ((xs 2).toInt64 &&& 4294967295)) := by
    simp only [mx_v, mx_lg, hx1, hx2, if_true]
  have e2 : ([Value.double 77, v].map (mx_v r)) = [Value.long (((xs 1).toInt64 <<< ((32 : Int32).toInt64 &&& 63)) ||| ((xs 2).toInt64 &&& 4294967295)), mx_v r v] := by
    simp only [List.map_cons, List.map_nil, e1]
  dsimp only at k
  rw [e2] at k
  exact k
theorem ml_long_146 {kb : mK} (X : mx_X kb p room_1 s m meth c D cy r s.heap.size mt_L_law (some 4) s.heap 40) (hx1 : r 1048578 = .int (xs 1)) (hx2 : r 1048579 = .int (xs 2)) {lv : List (Nat × Value)} {v : Value} {w : mW} (h0 : lv.lookup 0 = some (.ref 1048576)) (h4 : lv.lookup 4 = some (.int 0)) : mx_St p l e room_1 s m #[Value.ref b] below meth c D cy r s.heap.size s.heap 8 (146, lv, [.ref 1048578, v], w) (162, lv, [.double 77, v], w) := by
  obtain ⟨hx, hb, hml, hown, hE, hK, hr, hsc, hnm, hfr, hlo, hkb⟩ := X
  obtain ⟨b2, ys, g1, g2, g3, g4, g5⟩ := hsc 4 rfl
  have y2 : ys 2 = xs 2 := by
    have h := g5 2 (by decide)
    rw [show mx_E + 1 + 2 = 1048579 from rfl, hx2] at h
    exact (Value.int.inj h).symm
  intro Q n0 z0 k0 k1 H ls locs hl hR hS hn0 hz0 hrc hrs kk
  have a0 := mx_lv_at hl h0
  have a4 := mx_lv_at hl h4
  have a0 : ls[0]? = some (.val (.ref b2)) := by
    rw [a0]
    show some (Slot.val (r mx_E)) = _
    rw [g1]
  show W p l e room_1 s m #[Value.ref b] below meth c H locs _ _ Q (F0 m 146 ls [r 1048578, mx_v r v])
  rw [hx1]
  refine lv_i2l hx hb dL_law_146 rfl ?_
  refine lv_bipush (v := 32) hx hb dL_law_147 (by decide) ?_
  refine lv_lshl hx hb dL_law_149 rfl ?_
  refine lv_aload_n hx hb dL_law_150 rfl a0 ?_
  refine lv_iload hx hb dL_law_151 a4 ?_
  refine lv_iconst (v := 2) hx hb dL_law_153 (by decide) ?_
  refine lv_iadd hx hb dL_law_154 ?_
  rw [show (0 : Int32) + 2 = nI 2 from by decide]
  refine va_sld hx hb g2 g3 g4 hS (i := nI 2) (vp_in_nI (by decide) (by decide)) dL_law_155 ?_
  rw [nI_clamp (by decide), y2]
  refine lv_i2l hx hb dL_law_156 rfl ?_
  refine lv_ldc2 (v := 4294967295) hx hb hown (mx_at_use (q := 1800) (w := .constantLong RL 50 4294967295) (by decide +kernel) hE) dL_law_157 ?_
  refine lv_land hx hb dL_law_160 ?_
  refine lv_lor hx hb dL_law_161 ?_
  have k := kk ls H locs hl hR hS
  have e1 : mx_v r (.double 77) = .long (((xs 1).toInt64 <<< ((32 : Int32).toInt64 &&& 63)) ||| ((xs 2).toInt64 &&& 4294967295)) := by
    simp only [mx_v, mx_lg, hx1, hx2, if_true]
  have e2 : ([Value.double 77, v].map (mx_v r)) = [Value.long (((xs 1).toInt64 <<< ((32 : Int32).toInt64 &&& 63)) ||| ((xs 2).toInt64 &&& 4294967295)), mx_v r v] := by
    simp only [List.map_cons, List.map_nil, e1]
  dsimp only at k
  rw [e2] at k
  exact k
/-- the law's case of feed -/
theorem lt_feed {kb : mK} {K4 K5 mc ms f lo : Nat} {a : List Value} {w2 : mW} {kv : Int32} (C : ml_C kb p s m meth c r D cy (some 4)) (hEX : mx_EX s.heap.size s s.heap) (hx1 : r 1048578 = .int (xs 1)) (hx2 : r 1048579 = .int (xs 2))
    (ka : mx_runN kb mt_tab (ml_call kb) (some 4) (fun _ => none) mt_L_law 6 (104, ml_lv, [], ml_w1) = some (111, ml_lv, [.ref 1048578, .ref 0], ml_w1))
    (k1 : mx_runN kb mt_tab (ml_call kb) (some 4) (fun _ => none) mt_L_law 6 (127, ml_lv, [.double 77, .ref 0], ml_w1) = some (134, ml_lv, a.reverse, ml_w1))
    (hMet : Met l yL_feed [Cond.codeWith yL_feed cL_feed 6 (some .int) hh_feed] { frames := f, cells := mc, slots := ms, locals := lo } (mx_PcX D cy r s.heap.size a ml_w1) (mx_Qc D cy r s.heap.size (some (.int kv)) w2) mc ms (fun q => s.heap.size ≤ q))
    (ha : a.length = 4) (hf : f + 1 ≤ 2048) (hlo : 8 + (6 + 11) + lo ≤ 84000) (hmc : mc ≤ 1) (hms : ms ≤ 6) (hlen2 : w2.1.length = 109) (hz2 : w2.2 = 357940)
    (kc : mx_runN kb mt_tab (ml_call kb) (some 4) (fun _ => none) mt_L_law K5 (137, ml_lv, [.int kv], w2) = some (146, mx_st1 ml_lv 5 (.int kv), [.ref 1048578, .ref 66], w2))
    (k4 : mq3 (mx_runN kb mt_tab (ml_call kb) (some 4) (fun _ => none) mt_L_law K4 (162, mx_st1 ml_lv 5 (.int kv), [.double 77, .ref 66], w2)) = true)
    (hl : lv_has ls 8 (mx_lv r ml_lv)) (hR : mx_R D cy r s.heap.size ml_w1 H) (hS : va_S (fun q => s.heap.size ≤ q) s.heap H locs) :
    W p l e room_1 s m #[Value.ref b] below meth c H locs 109 357940 (lw_Z below #[Value.ref b] s) (F0 m 104 ls []) := by
  have C' := C
  obtain ⟨X, hret, hlocks⟩ := C'
  have X' := X
  obtain ⟨hx, hb, hml, hown, hE, hK, hr, hsc, hnm, hfr, hloc, hkb⟩ := X'
  have z1 : ml_w1.1.length + 0 - 0 ≤ room_1.cells := by rw [ml_len]; decide
  have z2 : ml_w1.2 + 0 - 0 ≤ room_1.slots := by rw [ml_sz]; decide
  refine W.cs (cells' := ml_w1.1.length + 0 - 0) (slots' := ml_w1.2 + 0 - 0) (by rw [ml_len]) (by rw [ml_sz]) ?_
  refine mx_runN_St (l := l) (e := e) (args := #[Value.ref b]) (below := below) mt_ok mw_L_law X (mo_met hr hkb 40) (fun σ σ' q => by cases q) 6 ka _ 0 0 0 0 H ls locs hl hR hS (Nat.zero_le _) (Nat.zero_le _) z1 z2 (fun ls H locs hl hR hS => ?_)
  refine ml_long_111 (l := l) (e := e) (below := below) (b := b) (xs := xs) X hx1 hx2 rfl rfl _ 0 0 0 0 H ls locs hl hR hS (Nat.zero_le _) (Nat.zero_le _) z1 z2 (fun ls H locs hl hR hS => ?_)
  refine mx_runN_St (l := l) (e := e) (args := #[Value.ref b]) (below := below) mt_ok mw_L_law X (mo_met hr hkb 40) (fun σ σ' q => by cases q) 6 k1 _ 0 0 0 0 H ls locs hl hR hS (Nat.zero_le _) (Nat.zero_le _) z1 z2 (fun ls' H' locs' hl' hR' hS' => ?_)
  show W _ _ _ _ _ _ _ _ _ _ H' locs' (ml_w1.1.length + 0 - 0) (ml_w1.2 + 0 - 0) _ (F0 m 134 ls' (a.reverse.map (mx_v r)))
  rw [ml_len, ml_sz]
  have hw := hw_feed
  simp only [Bool.and_eq_true] at hw
  obtain ⟨⟨⟨w1, w2'⟩, w3⟩, w4⟩ := hw
  have CF : CallFix p m c code 8 s #[Value.ref b] [] RL := ⟨hx, hb, hml, hown, fun w hw => by cases hw⟩
  have hws : ∀ w ∈ [Cond.codeWith yL_feed cL_feed 6 (some .int) hh_feed], ∀ (a' : Array Value) (U : State), s.WarmedH U.vm → w.before a' U = true := by
    intro w hw a' U hW
    rw [List.mem_singleton.mp hw]
    exact mx_at_use w1 (mx_Env.warm hW hE)
  have hdc : (parseMethodDescriptor yL_feed.desc).map (fun d => d.parameters.length) = some 4 := by decide +kernel
  have hlen : ∀ sig, parseMethodDescriptor yL_feed.desc = some sig → a.length = sig.parameters.length := fun sig hs => by
    have := hdc
    rw [hs] at this
    rw [ha]
    exact (Option.some.inj this).symm
  have hp : PreS s H' (mx_PcX D cy r s.heap.size a ml_w1) (a.map (mx_v r)) := ⟨mx_blindX, fun U hU hW => ⟨⟨rfl, mx_Env.warm hW hE, va_K.moved hW.alike hK, by rw [hU]; exact hR'⟩, by rw [hU]; exact hEX.go hS' hW⟩⟩
  refine mx_run (D := D) (cy := cy) (r := r) (mc := mc) (ms := ms) (v := some (.int kv)) (w' := w2) (rest := []) (a := (a.map (mx_v r)).toArray) (vx_runSW (hh := hh_feed) (As := a.map (mx_v r)) (n := a.length) CF hMet ⟨⟨rfl, rfl, hf, hlo, hws, List.mem_singleton.mpr rfl⟩, mx_at_use w1 hE, mx_at_use w3 hE, ⟨by decide +kernel, by decide +kernel⟩, hlen, mx_at_use w4 hE, mx_at_use w2' hE⟩ hp rfl (by simp) hl'.1 (by show a.reverse.map (mx_v r) = _; simp) (lv_room (Nat.zero_le _)) dL_law_134 ⟨by show 109 + 0 - 0 + mc ≤ 600002; omega, by show 357940 + 0 - 0 + ms ≤ 7302232; omega⟩) hS' (fun H2 locs2 hR2 hS2 => ?_)
  refine W.cs (cells' := w2.1.length + mc - 0) (slots' := w2.2 + ms - 0) (by rw [hlen2]; omega) (by rw [hz2]; omega) ?_
  have z3 : w2.1.length + mc - 0 ≤ room_1.cells := by rw [hlen2]; show 109 + mc - 0 ≤ 600002; omega
  have z4 : w2.2 + ms - 0 ≤ room_1.slots := by rw [hz2]; show 357940 + ms - 0 ≤ 7302232; omega
  refine mx_runN_St (l := l) (e := e) (args := #[Value.ref b]) (below := below) mt_ok mw_L_law X (mo_met hr hkb 40) (fun σ σ' q => by cases q) K5 kc _ 0 0 mc ms H2 ls' locs2 hl' hR2 hS2 (Nat.zero_le _) (Nat.zero_le _) z3 z4 (fun ls3 H3 locs3 hl3 hR3 hS3 => ?_)
  refine ml_long_146 (l := l) (e := e) (below := below) (b := b) (xs := xs) X hx1 hx2 rfl rfl _ 0 0 mc ms H3 ls3 locs3 hl3 hR3 hS3 (Nat.zero_le _) (Nat.zero_le _) z3 z4 (fun ls4 H4 locs4 hl4 hR4 hS4 => ?_)
  exact ml_end (p := p) (l := l) (e := e) (b := b) (below := below) (k0 := mc) (k1 := ms) (σ := (162, mx_st1 ml_lv 5 (.int kv), [.double 77, .ref 66], w2)) C k4 (by omega) (by omega) hl4 hR4 hS4
def kb_feed_a : mK := [((.lt, .ref 1048580, .int 1), true)]
set_option maxRecDepth 1000000 in
theorem k2_feed_a : mx_runN kb_feed_a mt_tab (mx_call kb_feed_a mt_tab mo_ovr mo_jmp 0) none (fun _ => none) mt_L_feed 5 (0, lv_args 0 [.ref 0, .double 77, .ref 1048580, .ref 108], [], ml_w1) = some (6, lv_args 0 [.ref 0, .double 77, .ref 1048580, .ref 108], ([.double 77, .ref 1048580] : List Value).reverse ++ .ref 0 :: [.int 0, .ref 108], ml_w1) := mq_eq (by decide +kernel)
set_option maxRecDepth 1000000 in
theorem k3_feed_a : mx_runN kb_feed_a mt_tab (mx_call kb_feed_a mt_tab mo_ovr mo_jmp 6) none (mo_jmp 98) mt_X8_feed 3 (0, lv_args 0 (.ref 0 :: [.double 77, .ref 1048580]), [], ml_w1) = some (11, lv_args 0 (.ref 0 :: [.double 77, .ref 1048580]), [], ml_w1) := mq_eq (by decide +kernel)
set_option maxRecDepth 1000000 in
theorem ka_feed_a : mx_runN kb_feed_a mt_tab (ml_call kb_feed_a) (some 4) (fun _ => none) mt_L_law 6 (104, ml_lv, [], ml_w1) = some (111, ml_lv, [.ref 1048578, .ref 0], ml_w1) := mq_eq (by decide +kernel)
set_option maxRecDepth 1000000 in
theorem k1_feed_a : mx_runN kb_feed_a mt_tab (ml_call kb_feed_a) (some 4) (fun _ => none) mt_L_law 6 (127, ml_lv, [.double 77, .ref 0], ml_w1) = some (134, ml_lv, ([.ref 0, .double 77, .ref 1048580, .ref 108] : List Value).reverse, ml_w1) := mq_eq (by decide +kernel)
set_option maxRecDepth 1000000 in
theorem kc_feed_a : mx_runN kb_feed_a mt_tab (ml_call kb_feed_a) (some 4) (fun _ => none) mt_L_law 7 (137, ml_lv, [.int 1], ml_w1) = some (146, mx_st1 ml_lv 5 (.int 1), [.ref 1048578, .ref 66], ml_w1) := mq_eq (by decide +kernel)
set_option maxRecDepth 1000000 in
theorem k4_feed_a : mq3 (mx_runN kb_feed_a mt_tab (ml_call kb_feed_a) (some 4) (fun _ => none) mt_L_law 23 (162, mx_st1 ml_lv 5 (.int 1), [.double 77, .ref 66], ml_w1)) = true := by decide +kernel
set_option maxHeartbeats 4000000 in
set_option maxRecDepth 100000 in
theorem ct_feed_a (hl : l.stackTraces = false) (hfz : r mx_F ≠ .int 0) (C : ml_C kb_feed_a p s m meth c r D cy (some 4)) (hx1 : r 1048578 = .int (xs 1)) (hx2 : r 1048579 = .int (xs 2)) (hEX : mx_EX s.heap.size s s.heap) (hv : lv_has ls 8 (mx_lv r ml_lv)) (hR : mx_R D cy r s.heap.size ml_w1 H) (hS : va_S (fun q => s.heap.size ≤ q) s.heap H locs) :
    W p l e room_1 s m #[Value.ref b] below meth c H locs 109 357940 (lw_Z below #[Value.ref b] s) (F0 m 104 ls []) := by
  obtain ⟨hx, hb, hml, hown, hE, hK, hr, hsc, hnm, hfr, hloc, hkb⟩ := C.1
  exact lt_feed (K4 := 23) (K5 := 7) (mc := 1) (ms := 6) (f := 8) (lo := 320) (a := [.ref 0, .double 77, .ref 1048580, .ref 108]) (w2 := ml_w1) (kv := 1) C hEX hx1 hx2 ka_feed_a k1_feed_a (mw_thr (d := 6) (K := 5) (pcv := 6) (ixv := 7) (h1 := 16) (y := 98) (n0 := 1042) (MW := mt_L_feed) (M := mt_X8_feed) (hh := hh_feed) (a := [.ref 0, .double 77, .ref 1048580, .ref 108]) (As := [.double 77, .ref 1048580]) (w := ml_w1) (lv := lv_args 0 [.ref 0, .double 77, .ref 1048580, .ref 108]) (rest := [.int 0, .ref 108]) (E := ms_IAE) (kq := 1) (kv := 1) (pw := 1039) hr hkb mw_L_feed rfl rfl (by decide +kernel) rfl rfl rfl rfl (mv_thr (d := 6) (y := 98) (K := 3) (pcn := 11) (ik := 62) (is := 64) (ic := 66) (pk := 1046) (pn := 161) (M := mt_X8_feed) (a := .ref 0 :: [.double 77, .ref 1048580]) (w := ml_w1) (lv := lv_args 0 (.ref 0 :: [.double 77, .ref 1048580])) (E := ms_IAE) (tx := "a number has 1 to 8 bytes") hl hr hkb hfz rfl (by decide) rfl (by decide +kernel) k3_feed_a (by decide +kernel) (by decide +kernel) (by decide +kernel) (by decide) ms_atA ms_goA (show decode cX8_feed 11 = .ok (.new 62, 3) by decide +kernel) (show decode cX8_feed 14 = .ok (.dup, 1) by decide +kernel) (show decode cX8_feed 15 = .ok (.ldc 64, 2) by decide +kernel) (show decode cX8_feed 17 = .ok (.invokespecial 66, 3) by decide +kernel) (show decode cX8_feed 20 = .ok (.athrow, 1) by decide +kernel)) (by decide +kernel) k2_feed_a rfl (by decide +kernel) ⟨_, rfl⟩ (by decide +kernel) (show decode cL_feed 6 = .ok (.invokevirtual 7, 3) by decide +kernel) [] (⟨0, 11, 14, 13⟩ : ExceptionTableEntry) [(⟨0, 11, 18, 15⟩ : ExceptionTableEntry)] rfl (fun z hz => by cases hz) (by decide) (by decide) (pc2 := 1040) (by decide +kernel) (pc3 := 1048) (by decide +kernel) (Or.inl ⟨5, by decide +kernel, by decide, rfl⟩) (show decode cL_feed 16 = .ok (.iconst 1, 1) by decide +kernel) (by decide) (show decode cL_feed 17 = .ok (.ireturn, 1) by decide +kernel)) rfl (by decide) (by decide) (by decide) (by decide) ml_len ml_sz kc_feed_a k4_feed_a hv hR hS
def kb_feed_b : mK := [((.lt, .ref 1048580, .int 1), false), ((.le, .ref 1048580, .int 8), false)]
set_option maxRecDepth 1000000 in
theorem k2_feed_b : mx_runN kb_feed_b mt_tab (mx_call kb_feed_b mt_tab mo_ovr mo_jmp 0) none (fun _ => none) mt_L_feed 5 (0, lv_args 0 [.ref 0, .double 77, .ref 1048580, .ref 108], [], ml_w1) = some (6, lv_args 0 [.ref 0, .double 77, .ref 1048580, .ref 108], ([.double 77, .ref 1048580] : List Value).reverse ++ .ref 0 :: [.int 0, .ref 108], ml_w1) := mq_eq (by decide +kernel)
set_option maxRecDepth 1000000 in
theorem k3_feed_b : mx_runN kb_feed_b mt_tab (mx_call kb_feed_b mt_tab mo_ovr mo_jmp 6) none (mo_jmp 98) mt_X8_feed 6 (0, lv_args 0 (.ref 0 :: [.double 77, .ref 1048580]), [], ml_w1) = some (11, lv_args 0 (.ref 0 :: [.double 77, .ref 1048580]), [], ml_w1) := mq_eq (by decide +kernel)
set_option maxRecDepth 1000000 in
theorem ka_feed_b : mx_runN kb_feed_b mt_tab (ml_call kb_feed_b) (some 4) (fun _ => none) mt_L_law 6 (104, ml_lv, [], ml_w1) = some (111, ml_lv, [.ref 1048578, .ref 0], ml_w1) := mq_eq (by decide +kernel)
set_option maxRecDepth 1000000 in
theorem k1_feed_b : mx_runN kb_feed_b mt_tab (ml_call kb_feed_b) (some 4) (fun _ => none) mt_L_law 6 (127, ml_lv, [.double 77, .ref 0], ml_w1) = some (134, ml_lv, ([.ref 0, .double 77, .ref 1048580, .ref 108] : List Value).reverse, ml_w1) := mq_eq (by decide +kernel)
set_option maxRecDepth 1000000 in
theorem kc_feed_b : mx_runN kb_feed_b mt_tab (ml_call kb_feed_b) (some 4) (fun _ => none) mt_L_law 7 (137, ml_lv, [.int 1], ml_w1) = some (146, mx_st1 ml_lv 5 (.int 1), [.ref 1048578, .ref 66], ml_w1) := mq_eq (by decide +kernel)
set_option maxRecDepth 1000000 in
theorem k4_feed_b : mq3 (mx_runN kb_feed_b mt_tab (ml_call kb_feed_b) (some 4) (fun _ => none) mt_L_law 23 (162, mx_st1 ml_lv 5 (.int 1), [.double 77, .ref 66], ml_w1)) = true := by decide +kernel
set_option maxHeartbeats 4000000 in
set_option maxRecDepth 100000 in
theorem ct_feed_b (hl : l.stackTraces = false) (hfz : r mx_F ≠ .int 0) (C : ml_C kb_feed_b p s m meth c r D cy (some 4)) (hx1 : r 1048578 = .int (xs 1)) (hx2 : r 1048579 = .int (xs 2)) (hEX : mx_EX s.heap.size s s.heap) (hv : lv_has ls 8 (mx_lv r ml_lv)) (hR : mx_R D cy r s.heap.size ml_w1 H) (hS : va_S (fun q => s.heap.size ≤ q) s.heap H locs) :
    W p l e room_1 s m #[Value.ref b] below meth c H locs 109 357940 (lw_Z below #[Value.ref b] s) (F0 m 104 ls []) := by
  obtain ⟨hx, hb, hml, hown, hE, hK, hr, hsc, hnm, hfr, hloc, hkb⟩ := C.1
  exact lt_feed (K4 := 23) (K5 := 7) (mc := 1) (ms := 6) (f := 8) (lo := 320) (a := [.ref 0, .double 77, .ref 1048580, .ref 108]) (w2 := ml_w1) (kv := 1) C hEX hx1 hx2 ka_feed_b k1_feed_b (mw_thr (d := 6) (K := 5) (pcv := 6) (ixv := 7) (h1 := 16) (y := 98) (n0 := 1042) (MW := mt_L_feed) (M := mt_X8_feed) (hh := hh_feed) (a := [.ref 0, .double 77, .ref 1048580, .ref 108]) (As := [.double 77, .ref 1048580]) (w := ml_w1) (lv := lv_args 0 [.ref 0, .double 77, .ref 1048580, .ref 108]) (rest := [.int 0, .ref 108]) (E := ms_IAE) (kq := 1) (kv := 1) (pw := 1039) hr hkb mw_L_feed rfl rfl (by decide +kernel) rfl rfl rfl rfl (mv_thr (d := 6) (y := 98) (K := 6) (pcn := 11) (ik := 62) (is := 64) (ic := 66) (pk := 1046) (pn := 161) (M := mt_X8_feed) (a := .ref 0 :: [.double 77, .ref 1048580]) (w := ml_w1) (lv := lv_args 0 (.ref 0 :: [.double 77, .ref 1048580])) (E := ms_IAE) (tx := "a number has 1 to 8 bytes") hl hr hkb hfz rfl (by decide) rfl (by decide +kernel) k3_feed_b (by decide +kernel) (by decide +kernel) (by decide +kernel) (by decide) ms_atA ms_goA (show decode cX8_feed 11 = .ok (.new 62, 3) by decide +kernel) (show decode cX8_feed 14 = .ok (.dup, 1) by decide +kernel) (show decode cX8_feed 15 = .ok (.ldc 64, 2) by decide +kernel) (show decode cX8_feed 17 = .ok (.invokespecial 66, 3) by decide +kernel) (show decode cX8_feed 20 = .ok (.athrow, 1) by decide +kernel)) (by decide +kernel) k2_feed_b rfl (by decide +kernel) ⟨_, rfl⟩ (by decide +kernel) (show decode cL_feed 6 = .ok (.invokevirtual 7, 3) by decide +kernel) [] (⟨0, 11, 14, 13⟩ : ExceptionTableEntry) [(⟨0, 11, 18, 15⟩ : ExceptionTableEntry)] rfl (fun z hz => by cases hz) (by decide) (by decide) (pc2 := 1040) (by decide +kernel) (pc3 := 1048) (by decide +kernel) (Or.inl ⟨5, by decide +kernel, by decide, rfl⟩) (show decode cL_feed 16 = .ok (.iconst 1, 1) by decide +kernel) (by decide) (show decode cL_feed 17 = .ok (.ireturn, 1) by decide +kernel)) rfl (by decide) (by decide) (by decide) (by decide) ml_len ml_sz kc_feed_b k4_feed_b hv hR hS
def kb_feed_r1 : mK := [((.eq, .ref 1048580, .int 1), true)]
def w2_feed_r1 : mW := ([.inl (8, [.ref 1, .ref 6, .ref 10, .ref 14, .ref 32, .ref 50, .ref 52, .int 0]),
  .inl (5, [.ref 2, .ref 3, .ref 4, .ref 5, .int 1, .int 0, .int 0, .int 0, .long 0]),
  .inr ((9, 800), .inl (0, [])),
  .inr ((0, 801), .inl (0, [])),
  .inr ((0, 801), .inl (0, [])),
  .inr ((1, 801), .inr (0, [])),
  .inl (7, [.ref 7, .ref 8, .ref 9, .int 0]),
  .inr ((0, 6400), .inl (0, [])),
  .inr ((0, 6400), .inl (0, [])),
  .inr ((0, 80), .inl (0, [])),
  .inl (2, [.ref 11, .ref 12, .ref 13, .int 0, .int 0]),
  .inr ((0, 1000), .inl (0, [])),
  .inr ((0, 1001), .inl (0, [])),
  .inr ((0, 1001), .inl (0, [])),
  .inl (4, [.ref 15, .ref 16, .ref 17, .ref 18, .ref 19, .ref 20, .ref 21, .ref 22, .ref 23, .ref 24, .ref 25, .ref 26, .int 1, .int 0, .int 0]),
  .inr ((1, 21), .inr (0, [(0, 4288121)])),
  .inr ((0, 21), .inl (0, [(0, 0)])),
  .inr ((0, 21), .inl (0, [(0, 0)])),
  .inr ((0, 21), .inl (0, [(0, 0)])),
  .inr ((0, 84), .inl (0, [])),
  .inr ((1, 80), .inr (0, [])),
  .inr ((0, 80), .inl (0, [])),
  .inr ((0, 80), .inl (0, [])),
  .inr ((0, 160), .inl (0, [])),
  .inr ((0, 160), .inl (0, [])),
  .inr ((0, 300), .inl (0, [])),
  .inl (1, [.ref 27, .ref 28, .ref 29, .ref 30, .int 0, .ref 31, .int 1]),
  .inr ((0, 441), .inl (0, [(0, 0)])),
  .inr ((0, 441), .inl (0, [(0, 1)])),
  .inr ((0, 4), .inl (0, [])),
  .inr ((0, 4), .inl (0, [])),
  .inr ((0, 1024), .inl (0, [(0, 0)])),
  .inl (4, [.ref 33, .ref 34, .ref 35, .ref 36, .ref 37, .ref 38, .ref 39, .ref 40, .ref 41, .ref 42, .ref 43, .ref 44, .int 1, .int 0, .int 0]),
  .inr ((1, 21), .inr (0, [(0, 4288121)])),
  .inr ((0, 21), .inl (0, [(0, 0)])),
  .inr ((0, 21), .inl (0, [(0, 0)])),
  .inr ((0, 21), .inl (0, [(0, 0)])),
  .inr ((0, 84), .inl (0, [])),
  .inr ((1, 80), .inr (0, [])),
  .inr ((0, 80), .inl (0, [])),
  .inr ((0, 80), .inl (0, [])),
  .inr ((0, 160), .inl (0, [])),
  .inr ((0, 160), .inl (0, [])),
  .inr ((0, 300), .inl (0, [])),
  .inl (1, [.ref 45, .ref 46, .ref 47, .ref 48, .int 0, .ref 49, .int 1]),
  .inr ((0, 441), .inl (0, [(0, 0)])),
  .inr ((0, 441), .inl (0, [(0, 1)])),
  .inr ((0, 4), .inl (0, [])),
  .inr ((0, 4), .inl (0, [])),
  .inr ((0, 1024), .inl (0, [(0, 0)])),
  .inl (3, [.ref 1, .ref 51, .ref 14, .ref 51, .int 0, .int 0, .int 0, .int 0, .int 0, .int 0, .int 0]),
  .inr ((0, 300), .inl (0, [])),
  .inl (0, [.ref 59, .ref 53, .ref 54, .ref 55, .ref 56, .ref 57, .ref 58, .ref 14, .int 0, .int 0, .int 0, .int 0, .int 0, .int 0, .int 0]),
  .inr ((0, 300), .inl (0, [])),
  .inr ((0, 900), .inl (0, [])),
  .inr ((0, 300), .inl (0, [])),
  .inr ((0, 4), .inl (0, [])),
  .inr ((0, 8), .inl (0, [])),
  .inr ((0, 164), .inl (0, [])),
  .inl (6, [.ref 60, .ref 61, .ref 62, .ref 63, .ref 64, .ref 65, .ref 14, .int 1, .int 0]),
  .inr ((0, 7000), .inl (0, [(0, 0)])),
  .inr ((0, 7000), .inl (0, [(0, 0)])),
  .inr ((0, 7000), .inl (0, [(0, (-1))])),
  .inr ((0, 7000), .inl (0, [])),
  .inr ((0, 2048), .inl ((-1), [(0, 0)])),
  .inr ((0, 300), .inl (0, [])),
  .inl (9, [.ref 67, .ref 68, .ref 69, .ref 70, .ref 71, .ref 72, .ref 73, .int 0, .int 1, .ref 74, .ref 75, .ref 76, .ref 77, .ref 78, .ref 79, .ref 80, .ref 81, .ref 82, .ref 83, .ref 84, .int 1, .int 0, .int 0, .int 1, .int 0, .int 0, .int 0, .int 0, .ref 85, .int 0, .int 0, .int 0, .int 0, .int 0, .int 0, .int 0, .int 0, .int 0, .int 0, .ref 86, .ref 87, .int 0, .ref 88, .ref 89, .ref 90, .int 0, .int 0, .int 0, .int 0, .ref 91, .ref 92, .ref 93, .ref 94, .ref 95, .int 0, .ref 96, .int 0, .int 0, .ref 97, .ref 98, .int 0, .ref 99, .ref 100, .ref 101, .ref 102, .ref 103, .ref 104, .ref 105, .int 0, .ref 106, .int 0, .int 0, .int 0, .ref 107, .int 0, .int 0, .int 0]),
  .inr ((0, 20000), .inl (0, [(0, 0)])),
  .inr ((0, 20000), .inl (0, [(0, 0)])),
  .inr ((0, 20000), .inl (0, [(0, 0)])),
  .inr ((0, 80000), .inl (0, [])),
  .inr ((0, 20000), .inl (0, [(0, 1)])),
  .inr ((0, 20000), .inl (0, [(0, (-1))])),
  .inr ((0, 2048), .inl ((-1), [(0, 0)])),
  .inr ((0, 4), .inl (0, [])),
  .inr ((1, 42), .inr (0, [(0, 4288121)])),
  .inr ((0, 42), .inl (0, [(0, 0)])),
  .inr ((0, 42), .inl (0, [(0, 0)])),
  .inr ((0, 168), .inl (0, [])),
  .inr ((0, 42), .inl (0, [(0, 0)])),
  .inr ((0, 882), .inl (0, [(0, 0), (20, (-1)), (19, (-1)), (18, (-1)), (17, (-1)), (16, (-1)), (15, (-1)), (14, (-1)), (13, (-1)), (12, (-1)), (11, (-1)), (10, (-1)), (9, (-1)), (8, (-1)), (7, (-1)), (6, (-1)), (5, (-1)), (4, (-1)), (3, (-1)), (2, (-1)), (1, (-1)), (0, (-1))])),
  .inr ((1, 160), .inr (0, [])),
  .inr ((0, 160), .inl (0, [])),
  .inr ((0, 320), .inl (0, [])),
  .inr ((0, 160), .inl (0, [])),
  .inr ((0, 800), .inl (0, [])),
  .inr ((0, 6400), .inl (0, [])),
  .inr ((2, 6400), .inl (0, [])),
  .inr ((0, 900), .inl (0, [])),
  .inr ((0, 300), .inl (0, [])),
  .inr ((0, 300), .inl (0, [])),
  .inr ((0, 42), .inl (0, [])),
  .inr ((0, 42), .inl (0, [])),
  .inr ((0, 42), .inl (0, [])),
  .inr ((0, 42), .inl (0, [])),
  .inr ((0, 42), .inl (0, [])),
  .inr ((3, 1000), .inl (0, [])),
  .inr ((0, 20000), .inl (0, [])),
  .inr ((0, 20000), .inl (0, [])),
  .inr ((0, 20000), .inl (0, [])),
  .inr ((2, 10), .inl (0, [])),
  .inr ((0, 10), .inl (0, [])),
  .inr ((0, 10), .inl (0, [])),
  .inr ((0, 40), .inl (0, [])),
  .inr ((0, 10), .inl (0, [])),
  .inr ((0, 20000), .inl (0, [])),
  .inr ((0, 20000), .inl (0, [])),
  .inr ((0, 4), .inl (0, [])),
  .inr ((1, 1), .inr (0, [(0, 1)]))], 357940)
set_option maxRecDepth 1000000 in
theorem k2_feed_r1 : mx_loop kb_feed_r1 mt_tab (mx_call kb_feed_r1 mt_tab mo_ovr mo_jmp 38) (fun _ => none) mt_L_feed 1000 (0, lv_args 0 [.ref 0, .double 77, .int 1, .ref 108], [], ml_w1) = some (some (.int 0), w2_feed_r1) := mq2_eq (by decide +kernel)
theorem k3_feed_r1 : w2_feed_r1.1.length = 109 ∧ w2_feed_r1.2 = 357940 := by decide +kernel
set_option maxRecDepth 1000000 in
theorem ka_feed_r1 : mx_runN kb_feed_r1 mt_tab (ml_call kb_feed_r1) (some 4) (fun _ => none) mt_L_law 6 (104, ml_lv, [], ml_w1) = some (111, ml_lv, [.ref 1048578, .ref 0], ml_w1) := mq_eq (by decide +kernel)
set_option maxRecDepth 1000000 in
theorem k1_feed_r1 : mx_runN kb_feed_r1 mt_tab (ml_call kb_feed_r1) (some 4) (fun _ => none) mt_L_law 6 (127, ml_lv, [.double 77, .ref 0], ml_w1) = some (134, ml_lv, ([.ref 0, .double 77, .int 1, .ref 108] : List Value).reverse, ml_w1) := mq_eq (by decide +kernel)
set_option maxRecDepth 1000000 in
theorem kc_feed_r1 : mx_runN kb_feed_r1 mt_tab (ml_call kb_feed_r1) (some 4) (fun _ => none) mt_L_law 7 (137, ml_lv, [.int 0], w2_feed_r1) = some (146, mx_st1 ml_lv 5 (.int 0), [.ref 1048578, .ref 66], w2_feed_r1) := mq_eq (by decide +kernel)
set_option maxRecDepth 1000000 in
theorem k4_feed_r1 : mq3 (mx_runN kb_feed_r1 mt_tab (ml_call kb_feed_r1) (some 4) (fun _ => none) mt_L_law 30 (162, mx_st1 ml_lv 5 (.int 0), [.double 77, .ref 66], w2_feed_r1)) = true := by decide +kernel
set_option maxHeartbeats 4000000 in
set_option maxRecDepth 100000 in
theorem ct_feed_r1 (hl : l.stackTraces = false) (hfz : r mx_F ≠ .int 0) (C : ml_C kb_feed_r1 p s m meth c r D cy (some 4)) (hx1 : r 1048578 = .int (xs 1)) (hx2 : r 1048579 = .int (xs 2)) (hEX : mx_EX s.heap.size s s.heap) (hv : lv_has ls 8 (mx_lv r ml_lv)) (hR : mx_R D cy r s.heap.size ml_w1 H) (hS : va_S (fun q => s.heap.size ≤ q) s.heap H locs) :
    W p l e room_1 s m #[Value.ref b] below meth c H locs 109 357940 (lw_Z below #[Value.ref b] s) (F0 m 104 ls []) := by
  obtain ⟨hx, hb, hml, hown, hE, hK, hr, hsc, hnm, hfr, hloc, hkb⟩ := C.1
  exact lt_feed (K4 := 30) (K5 := 7) (mc := w2_feed_r1.1.length - ml_w1.1.length) (ms := w2_feed_r1.2 - ml_w1.2) (f := 39) (lo := 40 * 39) (a := [.ref 0, .double 77, .int 1, .ref 108]) (w2 := w2_feed_r1) (kv := 0) C hEX hx1 hx2 ka_feed_r1 k1_feed_r1 (mw_ret (d := 38) (MW := mt_L_feed) (hh := hh_feed) (a := [.ref 0, .double 77, .int 1, .ref 108]) (w := ml_w1) (w' := w2_feed_r1) (v := some (.int 0)) hr hkb mw_L_feed rfl rfl (by decide +kernel) k2_feed_r1) rfl (by decide) (by decide) (by rw [k3_feed_r1.1, ml_len]; decide) (by rw [k3_feed_r1.2, ml_sz]; decide) k3_feed_r1.1 k3_feed_r1.2 kc_feed_r1 k4_feed_r1 hv hR hS
def kb_feed_r2 : mK := [((.eq, .ref 1048580, .int 2), true)]
def w2_feed_r2 : mW := ([.inl (8, [.ref 1, .ref 6, .ref 10, .ref 14, .ref 32, .ref 50, .ref 52, .int 0]),
  .inl (5, [.ref 2, .ref 3, .ref 4, .ref 5, .int 2, .int 0, .int 0, .int 0, .long 0]),
  .inr ((9, 800), .inl (0, [])),
  .inr ((0, 801), .inl (0, [])),
  .inr ((0, 801), .inl (0, [])),
  .inr ((1, 801), .inr (0, [])),
  .inl (7, [.ref 7, .ref 8, .ref 9, .int 0]),
  .inr ((0, 6400), .inl (0, [])),
  .inr ((0, 6400), .inl (0, [])),
  .inr ((0, 80), .inl (0, [])),
  .inl (2, [.ref 11, .ref 12, .ref 13, .int 0, .int 0]),
  .inr ((0, 1000), .inl (0, [])),
  .inr ((0, 1001), .inl (0, [])),
  .inr ((0, 1001), .inl (0, [])),
  .inl (4, [.ref 15, .ref 16, .ref 17, .ref 18, .ref 19, .ref 20, .ref 21, .ref 22, .ref 23, .ref 24, .ref 25, .ref 26, .int 1, .int 0, .int 0]),
  .inr ((1, 21), .inr (0, [(0, 4288121)])),
  .inr ((0, 21), .inl (0, [(0, 0)])),
  .inr ((0, 21), .inl (0, [(0, 0)])),
  .inr ((0, 21), .inl (0, [(0, 0)])),
  .inr ((0, 84), .inl (0, [])),
  .inr ((1, 80), .inr (0, [])),
  .inr ((0, 80), .inl (0, [])),
  .inr ((0, 80), .inl (0, [])),
  .inr ((0, 160), .inl (0, [])),
  .inr ((0, 160), .inl (0, [])),
  .inr ((0, 300), .inl (0, [])),
  .inl (1, [.ref 27, .ref 28, .ref 29, .ref 30, .int 0, .ref 31, .int 1]),
  .inr ((0, 441), .inl (0, [(0, 0)])),
  .inr ((0, 441), .inl (0, [(0, 1)])),
  .inr ((0, 4), .inl (0, [])),
  .inr ((0, 4), .inl (0, [])),
  .inr ((0, 1024), .inl (0, [(0, 0)])),
  .inl (4, [.ref 33, .ref 34, .ref 35, .ref 36, .ref 37, .ref 38, .ref 39, .ref 40, .ref 41, .ref 42, .ref 43, .ref 44, .int 1, .int 0, .int 0]),
  .inr ((1, 21), .inr (0, [(0, 4288121)])),
  .inr ((0, 21), .inl (0, [(0, 0)])),
  .inr ((0, 21), .inl (0, [(0, 0)])),
  .inr ((0, 21), .inl (0, [(0, 0)])),
  .inr ((0, 84), .inl (0, [])),
  .inr ((1, 80), .inr (0, [])),
  .inr ((0, 80), .inl (0, [])),
  .inr ((0, 80), .inl (0, [])),
  .inr ((0, 160), .inl (0, [])),
  .inr ((0, 160), .inl (0, [])),
  .inr ((0, 300), .inl (0, [])),
  .inl (1, [.ref 45, .ref 46, .ref 47, .ref 48, .int 0, .ref 49, .int 1]),
  .inr ((0, 441), .inl (0, [(0, 0)])),
  .inr ((0, 441), .inl (0, [(0, 1)])),
  .inr ((0, 4), .inl (0, [])),
  .inr ((0, 4), .inl (0, [])),
  .inr ((0, 1024), .inl (0, [(0, 0)])),
  .inl (3, [.ref 1, .ref 51, .ref 14, .ref 51, .int 0, .int 0, .int 0, .int 0, .int 0, .int 0, .int 0]),
  .inr ((0, 300), .inl (0, [])),
  .inl (0, [.ref 59, .ref 53, .ref 54, .ref 55, .ref 56, .ref 57, .ref 58, .ref 14, .int 0, .int 0, .int 0, .int 0, .int 0, .int 0, .int 0]),
  .inr ((0, 300), .inl (0, [])),
  .inr ((0, 900), .inl (0, [])),
  .inr ((0, 300), .inl (0, [])),
  .inr ((0, 4), .inl (0, [])),
  .inr ((0, 8), .inl (0, [])),
  .inr ((0, 164), .inl (0, [])),
  .inl (6, [.ref 60, .ref 61, .ref 62, .ref 63, .ref 64, .ref 65, .ref 14, .int 1, .int 0]),
  .inr ((0, 7000), .inl (0, [(0, 0)])),
  .inr ((0, 7000), .inl (0, [(0, 0)])),
  .inr ((0, 7000), .inl (0, [(0, (-1))])),
  .inr ((0, 7000), .inl (0, [])),
  .inr ((0, 2048), .inl ((-1), [(0, 0)])),
  .inr ((0, 300), .inl (0, [])),
  .inl (9, [.ref 67, .ref 68, .ref 69, .ref 70, .ref 71, .ref 72, .ref 73, .int 0, .int 1, .ref 74, .ref 75, .ref 76, .ref 77, .ref 78, .ref 79, .ref 80, .ref 81, .ref 82, .ref 83, .ref 84, .int 1, .int 0, .int 0, .int 1, .int 0, .int 0, .int 0, .int 0, .ref 85, .int 0, .int 0, .int 0, .int 0, .int 0, .int 0, .int 0, .int 0, .int 0, .int 0, .ref 86, .ref 87, .int 0, .ref 88, .ref 89, .ref 90, .int 0, .int 0, .int 0, .int 0, .ref 91, .ref 92, .ref 93, .ref 94, .ref 95, .int 0, .ref 96, .int 0, .int 0, .ref 97, .ref 98, .int 0, .ref 99, .ref 100, .ref 101, .ref 102, .ref 103, .ref 104, .ref 105, .int 0, .ref 106, .int 0, .int 0, .int 0, .ref 107, .int 0, .int 0, .int 0]),
  .inr ((0, 20000), .inl (0, [(0, 0)])),
  .inr ((0, 20000), .inl (0, [(0, 0)])),
  .inr ((0, 20000), .inl (0, [(0, 0)])),
  .inr ((0, 80000), .inl (0, [])),
  .inr ((0, 20000), .inl (0, [(0, 1)])),
  .inr ((0, 20000), .inl (0, [(0, (-1))])),
  .inr ((0, 2048), .inl ((-1), [(0, 0)])),
  .inr ((0, 4), .inl (0, [])),
  .inr ((1, 42), .inr (0, [(0, 4288121)])),
  .inr ((0, 42), .inl (0, [(0, 0)])),
  .inr ((0, 42), .inl (0, [(0, 0)])),
  .inr ((0, 168), .inl (0, [])),
  .inr ((0, 42), .inl (0, [(0, 0)])),
  .inr ((0, 882), .inl (0, [(0, 0), (20, (-1)), (19, (-1)), (18, (-1)), (17, (-1)), (16, (-1)), (15, (-1)), (14, (-1)), (13, (-1)), (12, (-1)), (11, (-1)), (10, (-1)), (9, (-1)), (8, (-1)), (7, (-1)), (6, (-1)), (5, (-1)), (4, (-1)), (3, (-1)), (2, (-1)), (1, (-1)), (0, (-1))])),
  .inr ((1, 160), .inr (0, [])),
  .inr ((0, 160), .inl (0, [])),
  .inr ((0, 320), .inl (0, [])),
  .inr ((0, 160), .inl (0, [])),
  .inr ((0, 800), .inl (0, [])),
  .inr ((0, 6400), .inl (0, [])),
  .inr ((2, 6400), .inl (0, [])),
  .inr ((0, 900), .inl (0, [])),
  .inr ((0, 300), .inl (0, [])),
  .inr ((0, 300), .inl (0, [])),
  .inr ((0, 42), .inl (0, [])),
  .inr ((0, 42), .inl (0, [])),
  .inr ((0, 42), .inl (0, [])),
  .inr ((0, 42), .inl (0, [])),
  .inr ((0, 42), .inl (0, [])),
  .inr ((3, 1000), .inl (0, [])),
  .inr ((0, 20000), .inl (0, [])),
  .inr ((0, 20000), .inl (0, [])),
  .inr ((0, 20000), .inl (0, [])),
  .inr ((2, 10), .inl (0, [])),
  .inr ((0, 10), .inl (0, [])),
  .inr ((0, 10), .inl (0, [])),
  .inr ((0, 40), .inl (0, [])),
  .inr ((0, 10), .inl (0, [])),
  .inr ((0, 20000), .inl (0, [])),
  .inr ((0, 20000), .inl (0, [])),
  .inr ((0, 4), .inl (0, [])),
  .inr ((1, 1), .inr (0, [(0, 2)]))], 357940)
set_option maxRecDepth 1000000 in
theorem k2_feed_r2 : mx_loop kb_feed_r2 mt_tab (mx_call kb_feed_r2 mt_tab mo_ovr mo_jmp 38) (fun _ => none) mt_L_feed 1000 (0, lv_args 0 [.ref 0, .double 77, .int 2, .ref 108], [], ml_w1) = some (some (.int 0), w2_feed_r2) := mq2_eq (by decide +kernel)
theorem k3_feed_r2 : w2_feed_r2.1.length = 109 ∧ w2_feed_r2.2 = 357940 := by decide +kernel
set_option maxRecDepth 1000000 in
theorem ka_feed_r2 : mx_runN kb_feed_r2 mt_tab (ml_call kb_feed_r2) (some 4) (fun _ => none) mt_L_law 6 (104, ml_lv, [], ml_w1) = some (111, ml_lv, [.ref 1048578, .ref 0], ml_w1) := mq_eq (by decide +kernel)
set_option maxRecDepth 1000000 in
theorem k1_feed_r2 : mx_runN kb_feed_r2 mt_tab (ml_call kb_feed_r2) (some 4) (fun _ => none) mt_L_law 6 (127, ml_lv, [.double 77, .ref 0], ml_w1) = some (134, ml_lv, ([.ref 0, .double 77, .int 2, .ref 108] : List Value).reverse, ml_w1) := mq_eq (by decide +kernel)
set_option maxRecDepth 1000000 in
theorem kc_feed_r2 : mx_runN kb_feed_r2 mt_tab (ml_call kb_feed_r2) (some 4) (fun _ => none) mt_L_law 7 (137, ml_lv, [.int 0], w2_feed_r2) = some (146, mx_st1 ml_lv 5 (.int 0), [.ref 1048578, .ref 66], w2_feed_r2) := mq_eq (by decide +kernel)
set_option maxRecDepth 1000000 in
theorem k4_feed_r2 : mq3 (mx_runN kb_feed_r2 mt_tab (ml_call kb_feed_r2) (some 4) (fun _ => none) mt_L_law 30 (162, mx_st1 ml_lv 5 (.int 0), [.double 77, .ref 66], w2_feed_r2)) = true := by decide +kernel
set_option maxHeartbeats 4000000 in
set_option maxRecDepth 100000 in
theorem ct_feed_r2 (hl : l.stackTraces = false) (hfz : r mx_F ≠ .int 0) (C : ml_C kb_feed_r2 p s m meth c r D cy (some 4)) (hx1 : r 1048578 = .int (xs 1)) (hx2 : r 1048579 = .int (xs 2)) (hEX : mx_EX s.heap.size s s.heap) (hv : lv_has ls 8 (mx_lv r ml_lv)) (hR : mx_R D cy r s.heap.size ml_w1 H) (hS : va_S (fun q => s.heap.size ≤ q) s.heap H locs) :
    W p l e room_1 s m #[Value.ref b] below meth c H locs 109 357940 (lw_Z below #[Value.ref b] s) (F0 m 104 ls []) := by
  obtain ⟨hx, hb, hml, hown, hE, hK, hr, hsc, hnm, hfr, hloc, hkb⟩ := C.1
  exact lt_feed (K4 := 30) (K5 := 7) (mc := w2_feed_r2.1.length - ml_w1.1.length) (ms := w2_feed_r2.2 - ml_w1.2) (f := 39) (lo := 40 * 39) (a := [.ref 0, .double 77, .int 2, .ref 108]) (w2 := w2_feed_r2) (kv := 0) C hEX hx1 hx2 ka_feed_r2 k1_feed_r2 (mw_ret (d := 38) (MW := mt_L_feed) (hh := hh_feed) (a := [.ref 0, .double 77, .int 2, .ref 108]) (w := ml_w1) (w' := w2_feed_r2) (v := some (.int 0)) hr hkb mw_L_feed rfl rfl (by decide +kernel) k2_feed_r2) rfl (by decide) (by decide) (by rw [k3_feed_r2.1, ml_len]; decide) (by rw [k3_feed_r2.2, ml_sz]; decide) k3_feed_r2.1 k3_feed_r2.2 kc_feed_r2 k4_feed_r2 hv hR hS
def kb_feed_r3 : mK := [((.eq, .ref 1048580, .int 3), true)]
def w2_feed_r3 : mW := ([.inl (8, [.ref 1, .ref 6, .ref 10, .ref 14, .ref 32, .ref 50, .ref 52, .int 0]),
  .inl (5, [.ref 2, .ref 3, .ref 4, .ref 5, .int 3, .int 0, .int 0, .int 0, .long 0]),
  .inr ((9, 800), .inl (0, [])),
  .inr ((0, 801), .inl (0, [])),
  .inr ((0, 801), .inl (0, [])),
  .inr ((1, 801), .inr (0, [])),
  .inl (7, [.ref 7, .ref 8, .ref 9, .int 0]),
  .inr ((0, 6400), .inl (0, [])),
  .inr ((0, 6400), .inl (0, [])),
  .inr ((0, 80), .inl (0, [])),
  .inl (2, [.ref 11, .ref 12, .ref 13, .int 0, .int 0]),
  .inr ((0, 1000), .inl (0, [])),
  .inr ((0, 1001), .inl (0, [])),
  .inr ((0, 1001), .inl (0, [])),
  .inl (4, [.ref 15, .ref 16, .ref 17, .ref 18, .ref 19, .ref 20, .ref 21, .ref 22, .ref 23, .ref 24, .ref 25, .ref 26, .int 1, .int 0, .int 0]),
  .inr ((1, 21), .inr (0, [(0, 4288121)])),
  .inr ((0, 21), .inl (0, [(0, 0)])),
  .inr ((0, 21), .inl (0, [(0, 0)])),
  .inr ((0, 21), .inl (0, [(0, 0)])),
  .inr ((0, 84), .inl (0, [])),
  .inr ((1, 80), .inr (0, [])),
  .inr ((0, 80), .inl (0, [])),
  .inr ((0, 80), .inl (0, [])),
  .inr ((0, 160), .inl (0, [])),
  .inr ((0, 160), .inl (0, [])),
  .inr ((0, 300), .inl (0, [])),
  .inl (1, [.ref 27, .ref 28, .ref 29, .ref 30, .int 0, .ref 31, .int 1]),
  .inr ((0, 441), .inl (0, [(0, 0)])),
  .inr ((0, 441), .inl (0, [(0, 1)])),
  .inr ((0, 4), .inl (0, [])),
  .inr ((0, 4), .inl (0, [])),
  .inr ((0, 1024), .inl (0, [(0, 0)])),
  .inl (4, [.ref 33, .ref 34, .ref 35, .ref 36, .ref 37, .ref 38, .ref 39, .ref 40, .ref 41, .ref 42, .ref 43, .ref 44, .int 1, .int 0, .int 0]),
  .inr ((1, 21), .inr (0, [(0, 4288121)])),
  .inr ((0, 21), .inl (0, [(0, 0)])),
  .inr ((0, 21), .inl (0, [(0, 0)])),
  .inr ((0, 21), .inl (0, [(0, 0)])),
  .inr ((0, 84), .inl (0, [])),
  .inr ((1, 80), .inr (0, [])),
  .inr ((0, 80), .inl (0, [])),
  .inr ((0, 80), .inl (0, [])),
  .inr ((0, 160), .inl (0, [])),
  .inr ((0, 160), .inl (0, [])),
  .inr ((0, 300), .inl (0, [])),
  .inl (1, [.ref 45, .ref 46, .ref 47, .ref 48, .int 0, .ref 49, .int 1]),
  .inr ((0, 441), .inl (0, [(0, 0)])),
  .inr ((0, 441), .inl (0, [(0, 1)])),
  .inr ((0, 4), .inl (0, [])),
  .inr ((0, 4), .inl (0, [])),
  .inr ((0, 1024), .inl (0, [(0, 0)])),
  .inl (3, [.ref 1, .ref 51, .ref 14, .ref 51, .int 0, .int 0, .int 0, .int 0, .int 0, .int 0, .int 0]),
  .inr ((0, 300), .inl (0, [])),
  .inl (0, [.ref 59, .ref 53, .ref 54, .ref 55, .ref 56, .ref 57, .ref 58, .ref 14, .int 0, .int 0, .int 0, .int 0, .int 0, .int 0, .int 0]),
  .inr ((0, 300), .inl (0, [])),
  .inr ((0, 900), .inl (0, [])),
  .inr ((0, 300), .inl (0, [])),
  .inr ((0, 4), .inl (0, [])),
  .inr ((0, 8), .inl (0, [])),
  .inr ((0, 164), .inl (0, [])),
  .inl (6, [.ref 60, .ref 61, .ref 62, .ref 63, .ref 64, .ref 65, .ref 14, .int 1, .int 0]),
  .inr ((0, 7000), .inl (0, [(0, 0)])),
  .inr ((0, 7000), .inl (0, [(0, 0)])),
  .inr ((0, 7000), .inl (0, [(0, (-1))])),
  .inr ((0, 7000), .inl (0, [])),
  .inr ((0, 2048), .inl ((-1), [(0, 0)])),
  .inr ((0, 300), .inl (0, [])),
  .inl (9, [.ref 67, .ref 68, .ref 69, .ref 70, .ref 71, .ref 72, .ref 73, .int 0, .int 1, .ref 74, .ref 75, .ref 76, .ref 77, .ref 78, .ref 79, .ref 80, .ref 81, .ref 82, .ref 83, .ref 84, .int 1, .int 0, .int 0, .int 1, .int 0, .int 0, .int 0, .int 0, .ref 85, .int 0, .int 0, .int 0, .int 0, .int 0, .int 0, .int 0, .int 0, .int 0, .int 0, .ref 86, .ref 87, .int 0, .ref 88, .ref 89, .ref 90, .int 0, .int 0, .int 0, .int 0, .ref 91, .ref 92, .ref 93, .ref 94, .ref 95, .int 0, .ref 96, .int 0, .int 0, .ref 97, .ref 98, .int 0, .ref 99, .ref 100, .ref 101, .ref 102, .ref 103, .ref 104, .ref 105, .int 0, .ref 106, .int 0, .int 0, .int 0, .ref 107, .int 0, .int 0, .int 0]),
  .inr ((0, 20000), .inl (0, [(0, 0)])),
  .inr ((0, 20000), .inl (0, [(0, 0)])),
  .inr ((0, 20000), .inl (0, [(0, 0)])),
  .inr ((0, 80000), .inl (0, [])),
  .inr ((0, 20000), .inl (0, [(0, 1)])),
  .inr ((0, 20000), .inl (0, [(0, (-1))])),
  .inr ((0, 2048), .inl ((-1), [(0, 0)])),
  .inr ((0, 4), .inl (0, [])),
  .inr ((1, 42), .inr (0, [(0, 4288121)])),
  .inr ((0, 42), .inl (0, [(0, 0)])),
  .inr ((0, 42), .inl (0, [(0, 0)])),
  .inr ((0, 168), .inl (0, [])),
  .inr ((0, 42), .inl (0, [(0, 0)])),
  .inr ((0, 882), .inl (0, [(0, 0), (20, (-1)), (19, (-1)), (18, (-1)), (17, (-1)), (16, (-1)), (15, (-1)), (14, (-1)), (13, (-1)), (12, (-1)), (11, (-1)), (10, (-1)), (9, (-1)), (8, (-1)), (7, (-1)), (6, (-1)), (5, (-1)), (4, (-1)), (3, (-1)), (2, (-1)), (1, (-1)), (0, (-1))])),
  .inr ((1, 160), .inr (0, [])),
  .inr ((0, 160), .inl (0, [])),
  .inr ((0, 320), .inl (0, [])),
  .inr ((0, 160), .inl (0, [])),
  .inr ((0, 800), .inl (0, [])),
  .inr ((0, 6400), .inl (0, [])),
  .inr ((2, 6400), .inl (0, [])),
  .inr ((0, 900), .inl (0, [])),
  .inr ((0, 300), .inl (0, [])),
  .inr ((0, 300), .inl (0, [])),
  .inr ((0, 42), .inl (0, [])),
  .inr ((0, 42), .inl (0, [])),
  .inr ((0, 42), .inl (0, [])),
  .inr ((0, 42), .inl (0, [])),
  .inr ((0, 42), .inl (0, [])),
  .inr ((3, 1000), .inl (0, [])),
  .inr ((0, 20000), .inl (0, [])),
  .inr ((0, 20000), .inl (0, [])),
  .inr ((0, 20000), .inl (0, [])),
  .inr ((2, 10), .inl (0, [])),
  .inr ((0, 10), .inl (0, [])),
  .inr ((0, 10), .inl (0, [])),
  .inr ((0, 40), .inl (0, [])),
  .inr ((0, 10), .inl (0, [])),
  .inr ((0, 20000), .inl (0, [])),
  .inr ((0, 20000), .inl (0, [])),
  .inr ((0, 4), .inl (0, [])),
  .inr ((1, 1), .inr (0, [(0, 3)]))], 357940)
set_option maxRecDepth 1000000 in
theorem k2_feed_r3 : mx_loop kb_feed_r3 mt_tab (mx_call kb_feed_r3 mt_tab mo_ovr mo_jmp 38) (fun _ => none) mt_L_feed 1000 (0, lv_args 0 [.ref 0, .double 77, .int 3, .ref 108], [], ml_w1) = some (some (.int 0), w2_feed_r3) := mq2_eq (by decide +kernel)
theorem k3_feed_r3 : w2_feed_r3.1.length = 109 ∧ w2_feed_r3.2 = 357940 := by decide +kernel
set_option maxRecDepth 1000000 in
theorem ka_feed_r3 : mx_runN kb_feed_r3 mt_tab (ml_call kb_feed_r3) (some 4) (fun _ => none) mt_L_law 6 (104, ml_lv, [], ml_w1) = some (111, ml_lv, [.ref 1048578, .ref 0], ml_w1) := mq_eq (by decide +kernel)
set_option maxRecDepth 1000000 in
theorem k1_feed_r3 : mx_runN kb_feed_r3 mt_tab (ml_call kb_feed_r3) (some 4) (fun _ => none) mt_L_law 6 (127, ml_lv, [.double 77, .ref 0], ml_w1) = some (134, ml_lv, ([.ref 0, .double 77, .int 3, .ref 108] : List Value).reverse, ml_w1) := mq_eq (by decide +kernel)
set_option maxRecDepth 1000000 in
theorem kc_feed_r3 : mx_runN kb_feed_r3 mt_tab (ml_call kb_feed_r3) (some 4) (fun _ => none) mt_L_law 7 (137, ml_lv, [.int 0], w2_feed_r3) = some (146, mx_st1 ml_lv 5 (.int 0), [.ref 1048578, .ref 66], w2_feed_r3) := mq_eq (by decide +kernel)
set_option maxRecDepth 1000000 in
theorem k4_feed_r3 : mq3 (mx_runN kb_feed_r3 mt_tab (ml_call kb_feed_r3) (some 4) (fun _ => none) mt_L_law 30 (162, mx_st1 ml_lv 5 (.int 0), [.double 77, .ref 66], w2_feed_r3)) = true := by decide +kernel
set_option maxHeartbeats 4000000 in
set_option maxRecDepth 100000 in
theorem ct_feed_r3 (hl : l.stackTraces = false) (hfz : r mx_F ≠ .int 0) (C : ml_C kb_feed_r3 p s m meth c r D cy (some 4)) (hx1 : r 1048578 = .int (xs 1)) (hx2 : r 1048579 = .int (xs 2)) (hEX : mx_EX s.heap.size s s.heap) (hv : lv_has ls 8 (mx_lv r ml_lv)) (hR : mx_R D cy r s.heap.size ml_w1 H) (hS : va_S (fun q => s.heap.size ≤ q) s.heap H locs) :
    W p l e room_1 s m #[Value.ref b] below meth c H locs 109 357940 (lw_Z below #[Value.ref b] s) (F0 m 104 ls []) := by
  obtain ⟨hx, hb, hml, hown, hE, hK, hr, hsc, hnm, hfr, hloc, hkb⟩ := C.1
  exact lt_feed (K4 := 30) (K5 := 7) (mc := w2_feed_r3.1.length - ml_w1.1.length) (ms := w2_feed_r3.2 - ml_w1.2) (f := 39) (lo := 40 * 39) (a := [.ref 0, .double 77, .int 3, .ref 108]) (w2 := w2_feed_r3) (kv := 0) C hEX hx1 hx2 ka_feed_r3 k1_feed_r3 (mw_ret (d := 38) (MW := mt_L_feed) (hh := hh_feed) (a := [.ref 0, .double 77, .int 3, .ref 108]) (w := ml_w1) (w' := w2_feed_r3) (v := some (.int 0)) hr hkb mw_L_feed rfl rfl (by decide +kernel) k2_feed_r3) rfl (by decide) (by decide) (by rw [k3_feed_r3.1, ml_len]; decide) (by rw [k3_feed_r3.2, ml_sz]; decide) k3_feed_r3.1 k3_feed_r3.2 kc_feed_r3 k4_feed_r3 hv hR hS
def kb_feed_r4 : mK := [((.eq, .ref 1048580, .int 4), true)]
def w2_feed_r4 : mW := ([.inl (8, [.ref 1, .ref 6, .ref 10, .ref 14, .ref 32, .ref 50, .ref 52, .int 0]),
  .inl (5, [.ref 2, .ref 3, .ref 4, .ref 5, .int 4, .int 0, .int 0, .int 0, .long 0]),
  .inr ((9, 800), .inl (0, [])),
  .inr ((0, 801), .inl (0, [])),
  .inr ((0, 801), .inl (0, [])),
  .inr ((1, 801), .inr (0, [])),
  .inl (7, [.ref 7, .ref 8, .ref 9, .int 0]),
  .inr ((0, 6400), .inl (0, [])),
  .inr ((0, 6400), .inl (0, [])),
  .inr ((0, 80), .inl (0, [])),
  .inl (2, [.ref 11, .ref 12, .ref 13, .int 0, .int 0]),
  .inr ((0, 1000), .inl (0, [])),
  .inr ((0, 1001), .inl (0, [])),
  .inr ((0, 1001), .inl (0, [])),
  .inl (4, [.ref 15, .ref 16, .ref 17, .ref 18, .ref 19, .ref 20, .ref 21, .ref 22, .ref 23, .ref 24, .ref 25, .ref 26, .int 1, .int 0, .int 0]),
  .inr ((1, 21), .inr (0, [(0, 4288121)])),
  .inr ((0, 21), .inl (0, [(0, 0)])),
  .inr ((0, 21), .inl (0, [(0, 0)])),
  .inr ((0, 21), .inl (0, [(0, 0)])),
  .inr ((0, 84), .inl (0, [])),
  .inr ((1, 80), .inr (0, [])),
  .inr ((0, 80), .inl (0, [])),
  .inr ((0, 80), .inl (0, [])),
  .inr ((0, 160), .inl (0, [])),
  .inr ((0, 160), .inl (0, [])),
  .inr ((0, 300), .inl (0, [])),
  .inl (1, [.ref 27, .ref 28, .ref 29, .ref 30, .int 0, .ref 31, .int 1]),
  .inr ((0, 441), .inl (0, [(0, 0)])),
  .inr ((0, 441), .inl (0, [(0, 1)])),
  .inr ((0, 4), .inl (0, [])),
  .inr ((0, 4), .inl (0, [])),
  .inr ((0, 1024), .inl (0, [(0, 0)])),
  .inl (4, [.ref 33, .ref 34, .ref 35, .ref 36, .ref 37, .ref 38, .ref 39, .ref 40, .ref 41, .ref 42, .ref 43, .ref 44, .int 1, .int 0, .int 0]),
  .inr ((1, 21), .inr (0, [(0, 4288121)])),
  .inr ((0, 21), .inl (0, [(0, 0)])),
  .inr ((0, 21), .inl (0, [(0, 0)])),
  .inr ((0, 21), .inl (0, [(0, 0)])),
  .inr ((0, 84), .inl (0, [])),
  .inr ((1, 80), .inr (0, [])),
  .inr ((0, 80), .inl (0, [])),
  .inr ((0, 80), .inl (0, [])),
  .inr ((0, 160), .inl (0, [])),
  .inr ((0, 160), .inl (0, [])),
  .inr ((0, 300), .inl (0, [])),
  .inl (1, [.ref 45, .ref 46, .ref 47, .ref 48, .int 0, .ref 49, .int 1]),
  .inr ((0, 441), .inl (0, [(0, 0)])),
  .inr ((0, 441), .inl (0, [(0, 1)])),
  .inr ((0, 4), .inl (0, [])),
  .inr ((0, 4), .inl (0, [])),
  .inr ((0, 1024), .inl (0, [(0, 0)])),
  .inl (3, [.ref 1, .ref 51, .ref 14, .ref 51, .int 0, .int 0, .int 0, .int 0, .int 0, .int 0, .int 0]),
  .inr ((0, 300), .inl (0, [])),
  .inl (0, [.ref 59, .ref 53, .ref 54, .ref 55, .ref 56, .ref 57, .ref 58, .ref 14, .int 0, .int 0, .int 0, .int 0, .int 0, .int 0, .int 0]),
  .inr ((0, 300), .inl (0, [])),
  .inr ((0, 900), .inl (0, [])),
  .inr ((0, 300), .inl (0, [])),
  .inr ((0, 4), .inl (0, [])),
  .inr ((0, 8), .inl (0, [])),
  .inr ((0, 164), .inl (0, [])),
  .inl (6, [.ref 60, .ref 61, .ref 62, .ref 63, .ref 64, .ref 65, .ref 14, .int 1, .int 0]),
  .inr ((0, 7000), .inl (0, [(0, 0)])),
  .inr ((0, 7000), .inl (0, [(0, 0)])),
  .inr ((0, 7000), .inl (0, [(0, (-1))])),
  .inr ((0, 7000), .inl (0, [])),
  .inr ((0, 2048), .inl ((-1), [(0, 0)])),
  .inr ((0, 300), .inl (0, [])),
  .inl (9, [.ref 67, .ref 68, .ref 69, .ref 70, .ref 71, .ref 72, .ref 73, .int 0, .int 1, .ref 74, .ref 75, .ref 76, .ref 77, .ref 78, .ref 79, .ref 80, .ref 81, .ref 82, .ref 83, .ref 84, .int 1, .int 0, .int 0, .int 1, .int 0, .int 0, .int 0, .int 0, .ref 85, .int 0, .int 0, .int 0, .int 0, .int 0, .int 0, .int 0, .int 0, .int 0, .int 0, .ref 86, .ref 87, .int 0, .ref 88, .ref 89, .ref 90, .int 0, .int 0, .int 0, .int 0, .ref 91, .ref 92, .ref 93, .ref 94, .ref 95, .int 0, .ref 96, .int 0, .int 0, .ref 97, .ref 98, .int 0, .ref 99, .ref 100, .ref 101, .ref 102, .ref 103, .ref 104, .ref 105, .int 0, .ref 106, .int 0, .int 0, .int 0, .ref 107, .int 0, .int 0, .int 0]),
  .inr ((0, 20000), .inl (0, [(0, 0)])),
  .inr ((0, 20000), .inl (0, [(0, 0)])),
  .inr ((0, 20000), .inl (0, [(0, 0)])),
  .inr ((0, 80000), .inl (0, [])),
  .inr ((0, 20000), .inl (0, [(0, 1)])),
  .inr ((0, 20000), .inl (0, [(0, (-1))])),
  .inr ((0, 2048), .inl ((-1), [(0, 0)])),
  .inr ((0, 4), .inl (0, [])),
  .inr ((1, 42), .inr (0, [(0, 4288121)])),
  .inr ((0, 42), .inl (0, [(0, 0)])),
  .inr ((0, 42), .inl (0, [(0, 0)])),
  .inr ((0, 168), .inl (0, [])),
  .inr ((0, 42), .inl (0, [(0, 0)])),
  .inr ((0, 882), .inl (0, [(0, 0), (20, (-1)), (19, (-1)), (18, (-1)), (17, (-1)), (16, (-1)), (15, (-1)), (14, (-1)), (13, (-1)), (12, (-1)), (11, (-1)), (10, (-1)), (9, (-1)), (8, (-1)), (7, (-1)), (6, (-1)), (5, (-1)), (4, (-1)), (3, (-1)), (2, (-1)), (1, (-1)), (0, (-1))])),
  .inr ((1, 160), .inr (0, [])),
  .inr ((0, 160), .inl (0, [])),
  .inr ((0, 320), .inl (0, [])),
  .inr ((0, 160), .inl (0, [])),
  .inr ((0, 800), .inl (0, [])),
  .inr ((0, 6400), .inl (0, [])),
  .inr ((2, 6400), .inl (0, [])),
  .inr ((0, 900), .inl (0, [])),
  .inr ((0, 300), .inl (0, [])),
  .inr ((0, 300), .inl (0, [])),
  .inr ((0, 42), .inl (0, [])),
  .inr ((0, 42), .inl (0, [])),
  .inr ((0, 42), .inl (0, [])),
  .inr ((0, 42), .inl (0, [])),
  .inr ((0, 42), .inl (0, [])),
  .inr ((3, 1000), .inl (0, [])),
  .inr ((0, 20000), .inl (0, [])),
  .inr ((0, 20000), .inl (0, [])),
  .inr ((0, 20000), .inl (0, [])),
  .inr ((2, 10), .inl (0, [])),
  .inr ((0, 10), .inl (0, [])),
  .inr ((0, 10), .inl (0, [])),
  .inr ((0, 40), .inl (0, [])),
  .inr ((0, 10), .inl (0, [])),
  .inr ((0, 20000), .inl (0, [])),
  .inr ((0, 20000), .inl (0, [])),
  .inr ((0, 4), .inl (0, [])),
  .inr ((1, 1), .inr (0, [(0, 4)]))], 357940)
set_option maxRecDepth 1000000 in
theorem k2_feed_r4 : mx_loop kb_feed_r4 mt_tab (mx_call kb_feed_r4 mt_tab mo_ovr mo_jmp 38) (fun _ => none) mt_L_feed 1000 (0, lv_args 0 [.ref 0, .double 77, .int 4, .ref 108], [], ml_w1) = some (some (.int 0), w2_feed_r4) := mq2_eq (by decide +kernel)
theorem k3_feed_r4 : w2_feed_r4.1.length = 109 ∧ w2_feed_r4.2 = 357940 := by decide +kernel
set_option maxRecDepth 1000000 in
theorem ka_feed_r4 : mx_runN kb_feed_r4 mt_tab (ml_call kb_feed_r4) (some 4) (fun _ => none) mt_L_law 6 (104, ml_lv, [], ml_w1) = some (111, ml_lv, [.ref 1048578, .ref 0], ml_w1) := mq_eq (by decide +kernel)
set_option maxRecDepth 1000000 in
theorem k1_feed_r4 : mx_runN kb_feed_r4 mt_tab (ml_call kb_feed_r4) (some 4) (fun _ => none) mt_L_law 6 (127, ml_lv, [.double 77, .ref 0], ml_w1) = some (134, ml_lv, ([.ref 0, .double 77, .int 4, .ref 108] : List Value).reverse, ml_w1) := mq_eq (by decide +kernel)
set_option maxRecDepth 1000000 in
theorem kc_feed_r4 : mx_runN kb_feed_r4 mt_tab (ml_call kb_feed_r4) (some 4) (fun _ => none) mt_L_law 7 (137, ml_lv, [.int 0], w2_feed_r4) = some (146, mx_st1 ml_lv 5 (.int 0), [.ref 1048578, .ref 66], w2_feed_r4) := mq_eq (by decide +kernel)
set_option maxRecDepth 1000000 in
theorem k4_feed_r4 : mq3 (mx_runN kb_feed_r4 mt_tab (ml_call kb_feed_r4) (some 4) (fun _ => none) mt_L_law 30 (162, mx_st1 ml_lv 5 (.int 0), [.double 77, .ref 66], w2_feed_r4)) = true := by decide +kernel
set_option maxHeartbeats 4000000 in
set_option maxRecDepth 100000 in
theorem ct_feed_r4 (hl : l.stackTraces = false) (hfz : r mx_F ≠ .int 0) (C : ml_C kb_feed_r4 p s m meth c r D cy (some 4)) (hx1 : r 1048578 = .int (xs 1)) (hx2 : r 1048579 = .int (xs 2)) (hEX : mx_EX s.heap.size s s.heap) (hv : lv_has ls 8 (mx_lv r ml_lv)) (hR : mx_R D cy r s.heap.size ml_w1 H) (hS : va_S (fun q => s.heap.size ≤ q) s.heap H locs) :
    W p l e room_1 s m #[Value.ref b] below meth c H locs 109 357940 (lw_Z below #[Value.ref b] s) (F0 m 104 ls []) := by
  obtain ⟨hx, hb, hml, hown, hE, hK, hr, hsc, hnm, hfr, hloc, hkb⟩ := C.1
  exact lt_feed (K4 := 30) (K5 := 7) (mc := w2_feed_r4.1.length - ml_w1.1.length) (ms := w2_feed_r4.2 - ml_w1.2) (f := 39) (lo := 40 * 39) (a := [.ref 0, .double 77, .int 4, .ref 108]) (w2 := w2_feed_r4) (kv := 0) C hEX hx1 hx2 ka_feed_r4 k1_feed_r4 (mw_ret (d := 38) (MW := mt_L_feed) (hh := hh_feed) (a := [.ref 0, .double 77, .int 4, .ref 108]) (w := ml_w1) (w' := w2_feed_r4) (v := some (.int 0)) hr hkb mw_L_feed rfl rfl (by decide +kernel) k2_feed_r4) rfl (by decide) (by decide) (by rw [k3_feed_r4.1, ml_len]; decide) (by rw [k3_feed_r4.2, ml_sz]; decide) k3_feed_r4.1 k3_feed_r4.2 kc_feed_r4 k4_feed_r4 hv hR hS
def kb_feed_r5 : mK := [((.eq, .ref 1048580, .int 5), true)]
def w2_feed_r5 : mW := ([.inl (8, [.ref 1, .ref 6, .ref 10, .ref 14, .ref 32, .ref 50, .ref 52, .int 0]),
  .inl (5, [.ref 2, .ref 3, .ref 4, .ref 5, .int 5, .int 0, .int 0, .int 0, .long 0]),
  .inr ((9, 800), .inl (0, [])),
  .inr ((0, 801), .inl (0, [])),
  .inr ((0, 801), .inl (0, [])),
  .inr ((1, 801), .inr (0, [])),
  .inl (7, [.ref 7, .ref 8, .ref 9, .int 0]),
  .inr ((0, 6400), .inl (0, [])),
  .inr ((0, 6400), .inl (0, [])),
  .inr ((0, 80), .inl (0, [])),
  .inl (2, [.ref 11, .ref 12, .ref 13, .int 0, .int 0]),
  .inr ((0, 1000), .inl (0, [])),
  .inr ((0, 1001), .inl (0, [])),
  .inr ((0, 1001), .inl (0, [])),
  .inl (4, [.ref 15, .ref 16, .ref 17, .ref 18, .ref 19, .ref 20, .ref 21, .ref 22, .ref 23, .ref 24, .ref 25, .ref 26, .int 1, .int 0, .int 0]),
  .inr ((1, 21), .inr (0, [(0, 4288121)])),
  .inr ((0, 21), .inl (0, [(0, 0)])),
  .inr ((0, 21), .inl (0, [(0, 0)])),
  .inr ((0, 21), .inl (0, [(0, 0)])),
  .inr ((0, 84), .inl (0, [])),
  .inr ((1, 80), .inr (0, [])),
  .inr ((0, 80), .inl (0, [])),
  .inr ((0, 80), .inl (0, [])),
  .inr ((0, 160), .inl (0, [])),
  .inr ((0, 160), .inl (0, [])),
  .inr ((0, 300), .inl (0, [])),
  .inl (1, [.ref 27, .ref 28, .ref 29, .ref 30, .int 0, .ref 31, .int 1]),
  .inr ((0, 441), .inl (0, [(0, 0)])),
  .inr ((0, 441), .inl (0, [(0, 1)])),
  .inr ((0, 4), .inl (0, [])),
  .inr ((0, 4), .inl (0, [])),
  .inr ((0, 1024), .inl (0, [(0, 0)])),
  .inl (4, [.ref 33, .ref 34, .ref 35, .ref 36, .ref 37, .ref 38, .ref 39, .ref 40, .ref 41, .ref 42, .ref 43, .ref 44, .int 1, .int 0, .int 0]),
  .inr ((1, 21), .inr (0, [(0, 4288121)])),
  .inr ((0, 21), .inl (0, [(0, 0)])),
  .inr ((0, 21), .inl (0, [(0, 0)])),
  .inr ((0, 21), .inl (0, [(0, 0)])),
  .inr ((0, 84), .inl (0, [])),
  .inr ((1, 80), .inr (0, [])),
  .inr ((0, 80), .inl (0, [])),
  .inr ((0, 80), .inl (0, [])),
  .inr ((0, 160), .inl (0, [])),
  .inr ((0, 160), .inl (0, [])),
  .inr ((0, 300), .inl (0, [])),
  .inl (1, [.ref 45, .ref 46, .ref 47, .ref 48, .int 0, .ref 49, .int 1]),
  .inr ((0, 441), .inl (0, [(0, 0)])),
  .inr ((0, 441), .inl (0, [(0, 1)])),
  .inr ((0, 4), .inl (0, [])),
  .inr ((0, 4), .inl (0, [])),
  .inr ((0, 1024), .inl (0, [(0, 0)])),
  .inl (3, [.ref 1, .ref 51, .ref 14, .ref 51, .int 0, .int 0, .int 0, .int 0, .int 0, .int 0, .int 0]),
  .inr ((0, 300), .inl (0, [])),
  .inl (0, [.ref 59, .ref 53, .ref 54, .ref 55, .ref 56, .ref 57, .ref 58, .ref 14, .int 0, .int 0, .int 0, .int 0, .int 0, .int 0, .int 0]),
  .inr ((0, 300), .inl (0, [])),
  .inr ((0, 900), .inl (0, [])),
  .inr ((0, 300), .inl (0, [])),
  .inr ((0, 4), .inl (0, [])),
  .inr ((0, 8), .inl (0, [])),
  .inr ((0, 164), .inl (0, [])),
  .inl (6, [.ref 60, .ref 61, .ref 62, .ref 63, .ref 64, .ref 65, .ref 14, .int 1, .int 0]),
  .inr ((0, 7000), .inl (0, [(0, 0)])),
  .inr ((0, 7000), .inl (0, [(0, 0)])),
  .inr ((0, 7000), .inl (0, [(0, (-1))])),
  .inr ((0, 7000), .inl (0, [])),
  .inr ((0, 2048), .inl ((-1), [(0, 0)])),
  .inr ((0, 300), .inl (0, [])),
  .inl (9, [.ref 67, .ref 68, .ref 69, .ref 70, .ref 71, .ref 72, .ref 73, .int 0, .int 1, .ref 74, .ref 75, .ref 76, .ref 77, .ref 78, .ref 79, .ref 80, .ref 81, .ref 82, .ref 83, .ref 84, .int 1, .int 0, .int 0, .int 1, .int 0, .int 0, .int 0, .int 0, .ref 85, .int 0, .int 0, .int 0, .int 0, .int 0, .int 0, .int 0, .int 0, .int 0, .int 0, .ref 86, .ref 87, .int 0, .ref 88, .ref 89, .ref 90, .int 0, .int 0, .int 0, .int 0, .ref 91, .ref 92, .ref 93, .ref 94, .ref 95, .int 0, .ref 96, .int 0, .int 0, .ref 97, .ref 98, .int 0, .ref 99, .ref 100, .ref 101, .ref 102, .ref 103, .ref 104, .ref 105, .int 0, .ref 106, .int 0, .int 0, .int 0, .ref 107, .int 0, .int 0, .int 0]),
  .inr ((0, 20000), .inl (0, [(0, 0)])),
  .inr ((0, 20000), .inl (0, [(0, 0)])),
  .inr ((0, 20000), .inl (0, [(0, 0)])),
  .inr ((0, 80000), .inl (0, [])),
  .inr ((0, 20000), .inl (0, [(0, 1)])),
  .inr ((0, 20000), .inl (0, [(0, (-1))])),
  .inr ((0, 2048), .inl ((-1), [(0, 0)])),
  .inr ((0, 4), .inl (0, [])),
  .inr ((1, 42), .inr (0, [(0, 4288121)])),
  .inr ((0, 42), .inl (0, [(0, 0)])),
  .inr ((0, 42), .inl (0, [(0, 0)])),
  .inr ((0, 168), .inl (0, [])),
  .inr ((0, 42), .inl (0, [(0, 0)])),
  .inr ((0, 882), .inl (0, [(0, 0), (20, (-1)), (19, (-1)), (18, (-1)), (17, (-1)), (16, (-1)), (15, (-1)), (14, (-1)), (13, (-1)), (12, (-1)), (11, (-1)), (10, (-1)), (9, (-1)), (8, (-1)), (7, (-1)), (6, (-1)), (5, (-1)), (4, (-1)), (3, (-1)), (2, (-1)), (1, (-1)), (0, (-1))])),
  .inr ((1, 160), .inr (0, [])),
  .inr ((0, 160), .inl (0, [])),
  .inr ((0, 320), .inl (0, [])),
  .inr ((0, 160), .inl (0, [])),
  .inr ((0, 800), .inl (0, [])),
  .inr ((0, 6400), .inl (0, [])),
  .inr ((2, 6400), .inl (0, [])),
  .inr ((0, 900), .inl (0, [])),
  .inr ((0, 300), .inl (0, [])),
  .inr ((0, 300), .inl (0, [])),
  .inr ((0, 42), .inl (0, [])),
  .inr ((0, 42), .inl (0, [])),
  .inr ((0, 42), .inl (0, [])),
  .inr ((0, 42), .inl (0, [])),
  .inr ((0, 42), .inl (0, [])),
  .inr ((3, 1000), .inl (0, [])),
  .inr ((0, 20000), .inl (0, [])),
  .inr ((0, 20000), .inl (0, [])),
  .inr ((0, 20000), .inl (0, [])),
  .inr ((2, 10), .inl (0, [])),
  .inr ((0, 10), .inl (0, [])),
  .inr ((0, 10), .inl (0, [])),
  .inr ((0, 40), .inl (0, [])),
  .inr ((0, 10), .inl (0, [])),
  .inr ((0, 20000), .inl (0, [])),
  .inr ((0, 20000), .inl (0, [])),
  .inr ((0, 4), .inl (0, [])),
  .inr ((1, 1), .inr (0, [(0, 5)]))], 357940)
set_option maxRecDepth 1000000 in
theorem k2_feed_r5 : mx_loop kb_feed_r5 mt_tab (mx_call kb_feed_r5 mt_tab mo_ovr mo_jmp 38) (fun _ => none) mt_L_feed 1000 (0, lv_args 0 [.ref 0, .double 77, .int 5, .ref 108], [], ml_w1) = some (some (.int 0), w2_feed_r5) := mq2_eq (by decide +kernel)
theorem k3_feed_r5 : w2_feed_r5.1.length = 109 ∧ w2_feed_r5.2 = 357940 := by decide +kernel
set_option maxRecDepth 1000000 in
theorem ka_feed_r5 : mx_runN kb_feed_r5 mt_tab (ml_call kb_feed_r5) (some 4) (fun _ => none) mt_L_law 6 (104, ml_lv, [], ml_w1) = some (111, ml_lv, [.ref 1048578, .ref 0], ml_w1) := mq_eq (by decide +kernel)
set_option maxRecDepth 1000000 in
theorem k1_feed_r5 : mx_runN kb_feed_r5 mt_tab (ml_call kb_feed_r5) (some 4) (fun _ => none) mt_L_law 6 (127, ml_lv, [.double 77, .ref 0], ml_w1) = some (134, ml_lv, ([.ref 0, .double 77, .int 5, .ref 108] : List Value).reverse, ml_w1) := mq_eq (by decide +kernel)
set_option maxRecDepth 1000000 in
theorem kc_feed_r5 : mx_runN kb_feed_r5 mt_tab (ml_call kb_feed_r5) (some 4) (fun _ => none) mt_L_law 7 (137, ml_lv, [.int 0], w2_feed_r5) = some (146, mx_st1 ml_lv 5 (.int 0), [.ref 1048578, .ref 66], w2_feed_r5) := mq_eq (by decide +kernel)
set_option maxRecDepth 1000000 in
theorem k4_feed_r5 : mq3 (mx_runN kb_feed_r5 mt_tab (ml_call kb_feed_r5) (some 4) (fun _ => none) mt_L_law 30 (162, mx_st1 ml_lv 5 (.int 0), [.double 77, .ref 66], w2_feed_r5)) = true := by decide +kernel
set_option maxHeartbeats 4000000 in
set_option maxRecDepth 100000 in
theorem ct_feed_r5 (hl : l.stackTraces = false) (hfz : r mx_F ≠ .int 0) (C : ml_C kb_feed_r5 p s m meth c r D cy (some 4)) (hx1 : r 1048578 = .int (xs 1)) (hx2 : r 1048579 = .int (xs 2)) (hEX : mx_EX s.heap.size s s.heap) (hv : lv_has ls 8 (mx_lv r ml_lv)) (hR : mx_R D cy r s.heap.size ml_w1 H) (hS : va_S (fun q => s.heap.size ≤ q) s.heap H locs) :
    W p l e room_1 s m #[Value.ref b] below meth c H locs 109 357940 (lw_Z below #[Value.ref b] s) (F0 m 104 ls []) := by
  obtain ⟨hx, hb, hml, hown, hE, hK, hr, hsc, hnm, hfr, hloc, hkb⟩ := C.1
  exact lt_feed (K4 := 30) (K5 := 7) (mc := w2_feed_r5.1.length - ml_w1.1.length) (ms := w2_feed_r5.2 - ml_w1.2) (f := 39) (lo := 40 * 39) (a := [.ref 0, .double 77, .int 5, .ref 108]) (w2 := w2_feed_r5) (kv := 0) C hEX hx1 hx2 ka_feed_r5 k1_feed_r5 (mw_ret (d := 38) (MW := mt_L_feed) (hh := hh_feed) (a := [.ref 0, .double 77, .int 5, .ref 108]) (w := ml_w1) (w' := w2_feed_r5) (v := some (.int 0)) hr hkb mw_L_feed rfl rfl (by decide +kernel) k2_feed_r5) rfl (by decide) (by decide) (by rw [k3_feed_r5.1, ml_len]; decide) (by rw [k3_feed_r5.2, ml_sz]; decide) k3_feed_r5.1 k3_feed_r5.2 kc_feed_r5 k4_feed_r5 hv hR hS
def kb_feed_r6 : mK := [((.eq, .ref 1048580, .int 6), true)]
def w2_feed_r6 : mW := ([.inl (8, [.ref 1, .ref 6, .ref 10, .ref 14, .ref 32, .ref 50, .ref 52, .int 0]),
  .inl (5, [.ref 2, .ref 3, .ref 4, .ref 5, .int 6, .int 0, .int 0, .int 0, .long 0]),
  .inr ((9, 800), .inl (0, [])),
  .inr ((0, 801), .inl (0, [])),
  .inr ((0, 801), .inl (0, [])),
  .inr ((1, 801), .inr (0, [])),
  .inl (7, [.ref 7, .ref 8, .ref 9, .int 0]),
  .inr ((0, 6400), .inl (0, [])),
  .inr ((0, 6400), .inl (0, [])),
  .inr ((0, 80), .inl (0, [])),
  .inl (2, [.ref 11, .ref 12, .ref 13, .int 0, .int 0]),
  .inr ((0, 1000), .inl (0, [])),
  .inr ((0, 1001), .inl (0, [])),
  .inr ((0, 1001), .inl (0, [])),
  .inl (4, [.ref 15, .ref 16, .ref 17, .ref 18, .ref 19, .ref 20, .ref 21, .ref 22, .ref 23, .ref 24, .ref 25, .ref 26, .int 1, .int 0, .int 0]),
  .inr ((1, 21), .inr (0, [(0, 4288121)])),
  .inr ((0, 21), .inl (0, [(0, 0)])),
  .inr ((0, 21), .inl (0, [(0, 0)])),
  .inr ((0, 21), .inl (0, [(0, 0)])),
  .inr ((0, 84), .inl (0, [])),
  .inr ((1, 80), .inr (0, [])),
  .inr ((0, 80), .inl (0, [])),
  .inr ((0, 80), .inl (0, [])),
  .inr ((0, 160), .inl (0, [])),
  .inr ((0, 160), .inl (0, [])),
  .inr ((0, 300), .inl (0, [])),
  .inl (1, [.ref 27, .ref 28, .ref 29, .ref 30, .int 0, .ref 31, .int 1]),
  .inr ((0, 441), .inl (0, [(0, 0)])),
  .inr ((0, 441), .inl (0, [(0, 1)])),
  .inr ((0, 4), .inl (0, [])),
  .inr ((0, 4), .inl (0, [])),
  .inr ((0, 1024), .inl (0, [(0, 0)])),
  .inl (4, [.ref 33, .ref 34, .ref 35, .ref 36, .ref 37, .ref 38, .ref 39, .ref 40, .ref 41, .ref 42, .ref 43, .ref 44, .int 1, .int 0, .int 0]),
  .inr ((1, 21), .inr (0, [(0, 4288121)])),
  .inr ((0, 21), .inl (0, [(0, 0)])),
  .inr ((0, 21), .inl (0, [(0, 0)])),
  .inr ((0, 21), .inl (0, [(0, 0)])),
  .inr ((0, 84), .inl (0, [])),
  .inr ((1, 80), .inr (0, [])),
  .inr ((0, 80), .inl (0, [])),
  .inr ((0, 80), .inl (0, [])),
  .inr ((0, 160), .inl (0, [])),
  .inr ((0, 160), .inl (0, [])),
  .inr ((0, 300), .inl (0, [])),
  .inl (1, [.ref 45, .ref 46, .ref 47, .ref 48, .int 0, .ref 49, .int 1]),
  .inr ((0, 441), .inl (0, [(0, 0)])),
  .inr ((0, 441), .inl (0, [(0, 1)])),
  .inr ((0, 4), .inl (0, [])),
  .inr ((0, 4), .inl (0, [])),
  .inr ((0, 1024), .inl (0, [(0, 0)])),
  .inl (3, [.ref 1, .ref 51, .ref 14, .ref 51, .int 0, .int 0, .int 0, .int 0, .int 0, .int 0, .int 0]),
  .inr ((0, 300), .inl (0, [])),
  .inl (0, [.ref 59, .ref 53, .ref 54, .ref 55, .ref 56, .ref 57, .ref 58, .ref 14, .int 0, .int 0, .int 0, .int 0, .int 0, .int 0, .int 0]),
  .inr ((0, 300), .inl (0, [])),
  .inr ((0, 900), .inl (0, [])),
  .inr ((0, 300), .inl (0, [])),
  .inr ((0, 4), .inl (0, [])),
  .inr ((0, 8), .inl (0, [])),
  .inr ((0, 164), .inl (0, [])),
  .inl (6, [.ref 60, .ref 61, .ref 62, .ref 63, .ref 64, .ref 65, .ref 14, .int 1, .int 0]),
  .inr ((0, 7000), .inl (0, [(0, 0)])),
  .inr ((0, 7000), .inl (0, [(0, 0)])),
  .inr ((0, 7000), .inl (0, [(0, (-1))])),
  .inr ((0, 7000), .inl (0, [])),
  .inr ((0, 2048), .inl ((-1), [(0, 0)])),
  .inr ((0, 300), .inl (0, [])),
  .inl (9, [.ref 67, .ref 68, .ref 69, .ref 70, .ref 71, .ref 72, .ref 73, .int 0, .int 1, .ref 74, .ref 75, .ref 76, .ref 77, .ref 78, .ref 79, .ref 80, .ref 81, .ref 82, .ref 83, .ref 84, .int 1, .int 0, .int 0, .int 1, .int 0, .int 0, .int 0, .int 0, .ref 85, .int 0, .int 0, .int 0, .int 0, .int 0, .int 0, .int 0, .int 0, .int 0, .int 0, .ref 86, .ref 87, .int 0, .ref 88, .ref 89, .ref 90, .int 0, .int 0, .int 0, .int 0, .ref 91, .ref 92, .ref 93, .ref 94, .ref 95, .int 0, .ref 96, .int 0, .int 0, .ref 97, .ref 98, .int 0, .ref 99, .ref 100, .ref 101, .ref 102, .ref 103, .ref 104, .ref 105, .int 0, .ref 106, .int 0, .int 0, .int 0, .ref 107, .int 0, .int 0, .int 0]),
  .inr ((0, 20000), .inl (0, [(0, 0)])),
  .inr ((0, 20000), .inl (0, [(0, 0)])),
  .inr ((0, 20000), .inl (0, [(0, 0)])),
  .inr ((0, 80000), .inl (0, [])),
  .inr ((0, 20000), .inl (0, [(0, 1)])),
  .inr ((0, 20000), .inl (0, [(0, (-1))])),
  .inr ((0, 2048), .inl ((-1), [(0, 0)])),
  .inr ((0, 4), .inl (0, [])),
  .inr ((1, 42), .inr (0, [(0, 4288121)])),
  .inr ((0, 42), .inl (0, [(0, 0)])),
  .inr ((0, 42), .inl (0, [(0, 0)])),
  .inr ((0, 168), .inl (0, [])),
  .inr ((0, 42), .inl (0, [(0, 0)])),
  .inr ((0, 882), .inl (0, [(0, 0), (20, (-1)), (19, (-1)), (18, (-1)), (17, (-1)), (16, (-1)), (15, (-1)), (14, (-1)), (13, (-1)), (12, (-1)), (11, (-1)), (10, (-1)), (9, (-1)), (8, (-1)), (7, (-1)), (6, (-1)), (5, (-1)), (4, (-1)), (3, (-1)), (2, (-1)), (1, (-1)), (0, (-1))])),
  .inr ((1, 160), .inr (0, [])),
  .inr ((0, 160), .inl (0, [])),
  .inr ((0, 320), .inl (0, [])),
  .inr ((0, 160), .inl (0, [])),
  .inr ((0, 800), .inl (0, [])),
  .inr ((0, 6400), .inl (0, [])),
  .inr ((2, 6400), .inl (0, [])),
  .inr ((0, 900), .inl (0, [])),
  .inr ((0, 300), .inl (0, [])),
  .inr ((0, 300), .inl (0, [])),
  .inr ((0, 42), .inl (0, [])),
  .inr ((0, 42), .inl (0, [])),
  .inr ((0, 42), .inl (0, [])),
  .inr ((0, 42), .inl (0, [])),
  .inr ((0, 42), .inl (0, [])),
  .inr ((3, 1000), .inl (0, [])),
  .inr ((0, 20000), .inl (0, [])),
  .inr ((0, 20000), .inl (0, [])),
  .inr ((0, 20000), .inl (0, [])),
  .inr ((2, 10), .inl (0, [])),
  .inr ((0, 10), .inl (0, [])),
  .inr ((0, 10), .inl (0, [])),
  .inr ((0, 40), .inl (0, [])),
  .inr ((0, 10), .inl (0, [])),
  .inr ((0, 20000), .inl (0, [])),
  .inr ((0, 20000), .inl (0, [])),
  .inr ((0, 4), .inl (0, [])),
  .inr ((1, 1), .inr (0, [(0, 6)]))], 357940)
set_option maxRecDepth 1000000 in
theorem k2_feed_r6 : mx_loop kb_feed_r6 mt_tab (mx_call kb_feed_r6 mt_tab mo_ovr mo_jmp 38) (fun _ => none) mt_L_feed 1000 (0, lv_args 0 [.ref 0, .double 77, .int 6, .ref 108], [], ml_w1) = some (some (.int 0), w2_feed_r6) := mq2_eq (by decide +kernel)
theorem k3_feed_r6 : w2_feed_r6.1.length = 109 ∧ w2_feed_r6.2 = 357940 := by decide +kernel
set_option maxRecDepth 1000000 in
theorem ka_feed_r6 : mx_runN kb_feed_r6 mt_tab (ml_call kb_feed_r6) (some 4) (fun _ => none) mt_L_law 6 (104, ml_lv, [], ml_w1) = some (111, ml_lv, [.ref 1048578, .ref 0], ml_w1) := mq_eq (by decide +kernel)
set_option maxRecDepth 1000000 in
theorem k1_feed_r6 : mx_runN kb_feed_r6 mt_tab (ml_call kb_feed_r6) (some 4) (fun _ => none) mt_L_law 6 (127, ml_lv, [.double 77, .ref 0], ml_w1) = some (134, ml_lv, ([.ref 0, .double 77, .int 6, .ref 108] : List Value).reverse, ml_w1) := mq_eq (by decide +kernel)
set_option maxRecDepth 1000000 in
theorem kc_feed_r6 : mx_runN kb_feed_r6 mt_tab (ml_call kb_feed_r6) (some 4) (fun _ => none) mt_L_law 7 (137, ml_lv, [.int 0], w2_feed_r6) = some (146, mx_st1 ml_lv 5 (.int 0), [.ref 1048578, .ref 66], w2_feed_r6) := mq_eq (by decide +kernel)
set_option maxRecDepth 1000000 in
theorem k4_feed_r6 : mq3 (mx_runN kb_feed_r6 mt_tab (ml_call kb_feed_r6) (some 4) (fun _ => none) mt_L_law 30 (162, mx_st1 ml_lv 5 (.int 0), [.double 77, .ref 66], w2_feed_r6)) = true := by decide +kernel
set_option maxHeartbeats 4000000 in
set_option maxRecDepth 100000 in
theorem ct_feed_r6 (hl : l.stackTraces = false) (hfz : r mx_F ≠ .int 0) (C : ml_C kb_feed_r6 p s m meth c r D cy (some 4)) (hx1 : r 1048578 = .int (xs 1)) (hx2 : r 1048579 = .int (xs 2)) (hEX : mx_EX s.heap.size s s.heap) (hv : lv_has ls 8 (mx_lv r ml_lv)) (hR : mx_R D cy r s.heap.size ml_w1 H) (hS : va_S (fun q => s.heap.size ≤ q) s.heap H locs) :
    W p l e room_1 s m #[Value.ref b] below meth c H locs 109 357940 (lw_Z below #[Value.ref b] s) (F0 m 104 ls []) := by
  obtain ⟨hx, hb, hml, hown, hE, hK, hr, hsc, hnm, hfr, hloc, hkb⟩ := C.1
  exact lt_feed (K4 := 30) (K5 := 7) (mc := w2_feed_r6.1.length - ml_w1.1.length) (ms := w2_feed_r6.2 - ml_w1.2) (f := 39) (lo := 40 * 39) (a := [.ref 0, .double 77, .int 6, .ref 108]) (w2 := w2_feed_r6) (kv := 0) C hEX hx1 hx2 ka_feed_r6 k1_feed_r6 (mw_ret (d := 38) (MW := mt_L_feed) (hh := hh_feed) (a := [.ref 0, .double 77, .int 6, .ref 108]) (w := ml_w1) (w' := w2_feed_r6) (v := some (.int 0)) hr hkb mw_L_feed rfl rfl (by decide +kernel) k2_feed_r6) rfl (by decide) (by decide) (by rw [k3_feed_r6.1, ml_len]; decide) (by rw [k3_feed_r6.2, ml_sz]; decide) k3_feed_r6.1 k3_feed_r6.2 kc_feed_r6 k4_feed_r6 hv hR hS
def kb_feed_r7 : mK := [((.eq, .ref 1048580, .int 7), true)]
def w2_feed_r7 : mW := ([.inl (8, [.ref 1, .ref 6, .ref 10, .ref 14, .ref 32, .ref 50, .ref 52, .int 0]),
  .inl (5, [.ref 2, .ref 3, .ref 4, .ref 5, .int 7, .int 0, .int 0, .int 0, .long 0]),
  .inr ((9, 800), .inl (0, [])),
  .inr ((0, 801), .inl (0, [])),
  .inr ((0, 801), .inl (0, [])),
  .inr ((1, 801), .inr (0, [])),
  .inl (7, [.ref 7, .ref 8, .ref 9, .int 0]),
  .inr ((0, 6400), .inl (0, [])),
  .inr ((0, 6400), .inl (0, [])),
  .inr ((0, 80), .inl (0, [])),
  .inl (2, [.ref 11, .ref 12, .ref 13, .int 0, .int 0]),
  .inr ((0, 1000), .inl (0, [])),
  .inr ((0, 1001), .inl (0, [])),
  .inr ((0, 1001), .inl (0, [])),
  .inl (4, [.ref 15, .ref 16, .ref 17, .ref 18, .ref 19, .ref 20, .ref 21, .ref 22, .ref 23, .ref 24, .ref 25, .ref 26, .int 1, .int 0, .int 0]),
  .inr ((1, 21), .inr (0, [(0, 4288121)])),
  .inr ((0, 21), .inl (0, [(0, 0)])),
  .inr ((0, 21), .inl (0, [(0, 0)])),
  .inr ((0, 21), .inl (0, [(0, 0)])),
  .inr ((0, 84), .inl (0, [])),
  .inr ((1, 80), .inr (0, [])),
  .inr ((0, 80), .inl (0, [])),
  .inr ((0, 80), .inl (0, [])),
  .inr ((0, 160), .inl (0, [])),
  .inr ((0, 160), .inl (0, [])),
  .inr ((0, 300), .inl (0, [])),
  .inl (1, [.ref 27, .ref 28, .ref 29, .ref 30, .int 0, .ref 31, .int 1]),
  .inr ((0, 441), .inl (0, [(0, 0)])),
  .inr ((0, 441), .inl (0, [(0, 1)])),
  .inr ((0, 4), .inl (0, [])),
  .inr ((0, 4), .inl (0, [])),
  .inr ((0, 1024), .inl (0, [(0, 0)])),
  .inl (4, [.ref 33, .ref 34, .ref 35, .ref 36, .ref 37, .ref 38, .ref 39, .ref 40, .ref 41, .ref 42, .ref 43, .ref 44, .int 1, .int 0, .int 0]),
  .inr ((1, 21), .inr (0, [(0, 4288121)])),
  .inr ((0, 21), .inl (0, [(0, 0)])),
  .inr ((0, 21), .inl (0, [(0, 0)])),
  .inr ((0, 21), .inl (0, [(0, 0)])),
  .inr ((0, 84), .inl (0, [])),
  .inr ((1, 80), .inr (0, [])),
  .inr ((0, 80), .inl (0, [])),
  .inr ((0, 80), .inl (0, [])),
  .inr ((0, 160), .inl (0, [])),
  .inr ((0, 160), .inl (0, [])),
  .inr ((0, 300), .inl (0, [])),
  .inl (1, [.ref 45, .ref 46, .ref 47, .ref 48, .int 0, .ref 49, .int 1]),
  .inr ((0, 441), .inl (0, [(0, 0)])),
  .inr ((0, 441), .inl (0, [(0, 1)])),
  .inr ((0, 4), .inl (0, [])),
  .inr ((0, 4), .inl (0, [])),
  .inr ((0, 1024), .inl (0, [(0, 0)])),
  .inl (3, [.ref 1, .ref 51, .ref 14, .ref 51, .int 0, .int 0, .int 0, .int 0, .int 0, .int 0, .int 0]),
  .inr ((0, 300), .inl (0, [])),
  .inl (0, [.ref 59, .ref 53, .ref 54, .ref 55, .ref 56, .ref 57, .ref 58, .ref 14, .int 0, .int 0, .int 0, .int 0, .int 0, .int 0, .int 0]),
  .inr ((0, 300), .inl (0, [])),
  .inr ((0, 900), .inl (0, [])),
  .inr ((0, 300), .inl (0, [])),
  .inr ((0, 4), .inl (0, [])),
  .inr ((0, 8), .inl (0, [])),
  .inr ((0, 164), .inl (0, [])),
  .inl (6, [.ref 60, .ref 61, .ref 62, .ref 63, .ref 64, .ref 65, .ref 14, .int 1, .int 0]),
  .inr ((0, 7000), .inl (0, [(0, 0)])),
  .inr ((0, 7000), .inl (0, [(0, 0)])),
  .inr ((0, 7000), .inl (0, [(0, (-1))])),
  .inr ((0, 7000), .inl (0, [])),
  .inr ((0, 2048), .inl ((-1), [(0, 0)])),
  .inr ((0, 300), .inl (0, [])),
  .inl (9, [.ref 67, .ref 68, .ref 69, .ref 70, .ref 71, .ref 72, .ref 73, .int 0, .int 1, .ref 74, .ref 75, .ref 76, .ref 77, .ref 78, .ref 79, .ref 80, .ref 81, .ref 82, .ref 83, .ref 84, .int 1, .int 0, .int 0, .int 1, .int 0, .int 0, .int 0, .int 0, .ref 85, .int 0, .int 0, .int 0, .int 0, .int 0, .int 0, .int 0, .int 0, .int 0, .int 0, .ref 86, .ref 87, .int 0, .ref 88, .ref 89, .ref 90, .int 0, .int 0, .int 0, .int 0, .ref 91, .ref 92, .ref 93, .ref 94, .ref 95, .int 0, .ref 96, .int 0, .int 0, .ref 97, .ref 98, .int 0, .ref 99, .ref 100, .ref 101, .ref 102, .ref 103, .ref 104, .ref 105, .int 0, .ref 106, .int 0, .int 0, .int 0, .ref 107, .int 0, .int 0, .int 0]),
  .inr ((0, 20000), .inl (0, [(0, 0)])),
  .inr ((0, 20000), .inl (0, [(0, 0)])),
  .inr ((0, 20000), .inl (0, [(0, 0)])),
  .inr ((0, 80000), .inl (0, [])),
  .inr ((0, 20000), .inl (0, [(0, 1)])),
  .inr ((0, 20000), .inl (0, [(0, (-1))])),
  .inr ((0, 2048), .inl ((-1), [(0, 0)])),
  .inr ((0, 4), .inl (0, [])),
  .inr ((1, 42), .inr (0, [(0, 4288121)])),
  .inr ((0, 42), .inl (0, [(0, 0)])),
  .inr ((0, 42), .inl (0, [(0, 0)])),
  .inr ((0, 168), .inl (0, [])),
  .inr ((0, 42), .inl (0, [(0, 0)])),
  .inr ((0, 882), .inl (0, [(0, 0), (20, (-1)), (19, (-1)), (18, (-1)), (17, (-1)), (16, (-1)), (15, (-1)), (14, (-1)), (13, (-1)), (12, (-1)), (11, (-1)), (10, (-1)), (9, (-1)), (8, (-1)), (7, (-1)), (6, (-1)), (5, (-1)), (4, (-1)), (3, (-1)), (2, (-1)), (1, (-1)), (0, (-1))])),
  .inr ((1, 160), .inr (0, [])),
  .inr ((0, 160), .inl (0, [])),
  .inr ((0, 320), .inl (0, [])),
  .inr ((0, 160), .inl (0, [])),
  .inr ((0, 800), .inl (0, [])),
  .inr ((0, 6400), .inl (0, [])),
  .inr ((2, 6400), .inl (0, [])),
  .inr ((0, 900), .inl (0, [])),
  .inr ((0, 300), .inl (0, [])),
  .inr ((0, 300), .inl (0, [])),
  .inr ((0, 42), .inl (0, [])),
  .inr ((0, 42), .inl (0, [])),
  .inr ((0, 42), .inl (0, [])),
  .inr ((0, 42), .inl (0, [])),
  .inr ((0, 42), .inl (0, [])),
  .inr ((3, 1000), .inl (0, [])),
  .inr ((0, 20000), .inl (0, [])),
  .inr ((0, 20000), .inl (0, [])),
  .inr ((0, 20000), .inl (0, [])),
  .inr ((2, 10), .inl (0, [])),
  .inr ((0, 10), .inl (0, [])),
  .inr ((0, 10), .inl (0, [])),
  .inr ((0, 40), .inl (0, [])),
  .inr ((0, 10), .inl (0, [])),
  .inr ((0, 20000), .inl (0, [])),
  .inr ((0, 20000), .inl (0, [])),
  .inr ((0, 4), .inl (0, [])),
  .inr ((1, 1), .inr (0, [(0, 7)]))], 357940)
set_option maxRecDepth 1000000 in
theorem k2_feed_r7 : mx_loop kb_feed_r7 mt_tab (mx_call kb_feed_r7 mt_tab mo_ovr mo_jmp 38) (fun _ => none) mt_L_feed 1000 (0, lv_args 0 [.ref 0, .double 77, .int 7, .ref 108], [], ml_w1) = some (some (.int 0), w2_feed_r7) := mq2_eq (by decide +kernel)
theorem k3_feed_r7 : w2_feed_r7.1.length = 109 ∧ w2_feed_r7.2 = 357940 := by decide +kernel
set_option maxRecDepth 1000000 in
theorem ka_feed_r7 : mx_runN kb_feed_r7 mt_tab (ml_call kb_feed_r7) (some 4) (fun _ => none) mt_L_law 6 (104, ml_lv, [], ml_w1) = some (111, ml_lv, [.ref 1048578, .ref 0], ml_w1) := mq_eq (by decide +kernel)
set_option maxRecDepth 1000000 in
theorem k1_feed_r7 : mx_runN kb_feed_r7 mt_tab (ml_call kb_feed_r7) (some 4) (fun _ => none) mt_L_law 6 (127, ml_lv, [.double 77, .ref 0], ml_w1) = some (134, ml_lv, ([.ref 0, .double 77, .int 7, .ref 108] : List Value).reverse, ml_w1) := mq_eq (by decide +kernel)
set_option maxRecDepth 1000000 in
theorem kc_feed_r7 : mx_runN kb_feed_r7 mt_tab (ml_call kb_feed_r7) (some 4) (fun _ => none) mt_L_law 7 (137, ml_lv, [.int 0], w2_feed_r7) = some (146, mx_st1 ml_lv 5 (.int 0), [.ref 1048578, .ref 66], w2_feed_r7) := mq_eq (by decide +kernel)
set_option maxRecDepth 1000000 in
theorem k4_feed_r7 : mq3 (mx_runN kb_feed_r7 mt_tab (ml_call kb_feed_r7) (some 4) (fun _ => none) mt_L_law 30 (162, mx_st1 ml_lv 5 (.int 0), [.double 77, .ref 66], w2_feed_r7)) = true := by decide +kernel
set_option maxHeartbeats 4000000 in
set_option maxRecDepth 100000 in
theorem ct_feed_r7 (hl : l.stackTraces = false) (hfz : r mx_F ≠ .int 0) (C : ml_C kb_feed_r7 p s m meth c r D cy (some 4)) (hx1 : r 1048578 = .int (xs 1)) (hx2 : r 1048579 = .int (xs 2)) (hEX : mx_EX s.heap.size s s.heap) (hv : lv_has ls 8 (mx_lv r ml_lv)) (hR : mx_R D cy r s.heap.size ml_w1 H) (hS : va_S (fun q => s.heap.size ≤ q) s.heap H locs) :
    W p l e room_1 s m #[Value.ref b] below meth c H locs 109 357940 (lw_Z below #[Value.ref b] s) (F0 m 104 ls []) := by
  obtain ⟨hx, hb, hml, hown, hE, hK, hr, hsc, hnm, hfr, hloc, hkb⟩ := C.1
  exact lt_feed (K4 := 30) (K5 := 7) (mc := w2_feed_r7.1.length - ml_w1.1.length) (ms := w2_feed_r7.2 - ml_w1.2) (f := 39) (lo := 40 * 39) (a := [.ref 0, .double 77, .int 7, .ref 108]) (w2 := w2_feed_r7) (kv := 0) C hEX hx1 hx2 ka_feed_r7 k1_feed_r7 (mw_ret (d := 38) (MW := mt_L_feed) (hh := hh_feed) (a := [.ref 0, .double 77, .int 7, .ref 108]) (w := ml_w1) (w' := w2_feed_r7) (v := some (.int 0)) hr hkb mw_L_feed rfl rfl (by decide +kernel) k2_feed_r7) rfl (by decide) (by decide) (by rw [k3_feed_r7.1, ml_len]; decide) (by rw [k3_feed_r7.2, ml_sz]; decide) k3_feed_r7.1 k3_feed_r7.2 kc_feed_r7 k4_feed_r7 hv hR hS
def kb_feed_r8 : mK := [((.eq, .ref 1048580, .int 8), true)]
def w2_feed_r8 : mW := ([.inl (8, [.ref 1, .ref 6, .ref 10, .ref 14, .ref 32, .ref 50, .ref 52, .int 0]),
  .inl (5, [.ref 2, .ref 3, .ref 4, .ref 5, .int 8, .int 0, .int 0, .int 0, .long 0]),
  .inr ((9, 800), .inl (0, [])),
  .inr ((0, 801), .inl (0, [])),
  .inr ((0, 801), .inl (0, [])),
  .inr ((1, 801), .inr (0, [])),
  .inl (7, [.ref 7, .ref 8, .ref 9, .int 0]),
  .inr ((0, 6400), .inl (0, [])),
  .inr ((0, 6400), .inl (0, [])),
  .inr ((0, 80), .inl (0, [])),
  .inl (2, [.ref 11, .ref 12, .ref 13, .int 0, .int 0]),
  .inr ((0, 1000), .inl (0, [])),
  .inr ((0, 1001), .inl (0, [])),
  .inr ((0, 1001), .inl (0, [])),
  .inl (4, [.ref 15, .ref 16, .ref 17, .ref 18, .ref 19, .ref 20, .ref 21, .ref 22, .ref 23, .ref 24, .ref 25, .ref 26, .int 1, .int 0, .int 0]),
  .inr ((1, 21), .inr (0, [(0, 4288121)])),
  .inr ((0, 21), .inl (0, [(0, 0)])),
  .inr ((0, 21), .inl (0, [(0, 0)])),
  .inr ((0, 21), .inl (0, [(0, 0)])),
  .inr ((0, 84), .inl (0, [])),
  .inr ((1, 80), .inr (0, [])),
  .inr ((0, 80), .inl (0, [])),
  .inr ((0, 80), .inl (0, [])),
  .inr ((0, 160), .inl (0, [])),
  .inr ((0, 160), .inl (0, [])),
  .inr ((0, 300), .inl (0, [])),
  .inl (1, [.ref 27, .ref 28, .ref 29, .ref 30, .int 0, .ref 31, .int 1]),
  .inr ((0, 441), .inl (0, [(0, 0)])),
  .inr ((0, 441), .inl (0, [(0, 1)])),
  .inr ((0, 4), .inl (0, [])),
  .inr ((0, 4), .inl (0, [])),
  .inr ((0, 1024), .inl (0, [(0, 0)])),
  .inl (4, [.ref 33, .ref 34, .ref 35, .ref 36, .ref 37, .ref 38, .ref 39, .ref 40, .ref 41, .ref 42, .ref 43, .ref 44, .int 1, .int 0, .int 0]),
  .inr ((1, 21), .inr (0, [(0, 4288121)])),
  .inr ((0, 21), .inl (0, [(0, 0)])),
  .inr ((0, 21), .inl (0, [(0, 0)])),
  .inr ((0, 21), .inl (0, [(0, 0)])),
  .inr ((0, 84), .inl (0, [])),
  .inr ((1, 80), .inr (0, [])),
  .inr ((0, 80), .inl (0, [])),
  .inr ((0, 80), .inl (0, [])),
  .inr ((0, 160), .inl (0, [])),
  .inr ((0, 160), .inl (0, [])),
  .inr ((0, 300), .inl (0, [])),
  .inl (1, [.ref 45, .ref 46, .ref 47, .ref 48, .int 0, .ref 49, .int 1]),
  .inr ((0, 441), .inl (0, [(0, 0)])),
  .inr ((0, 441), .inl (0, [(0, 1)])),
  .inr ((0, 4), .inl (0, [])),
  .inr ((0, 4), .inl (0, [])),
  .inr ((0, 1024), .inl (0, [(0, 0)])),
  .inl (3, [.ref 1, .ref 51, .ref 14, .ref 51, .int 0, .int 0, .int 0, .int 0, .int 0, .int 0, .int 0]),
  .inr ((0, 300), .inl (0, [])),
  .inl (0, [.ref 59, .ref 53, .ref 54, .ref 55, .ref 56, .ref 57, .ref 58, .ref 14, .int 0, .int 0, .int 0, .int 0, .int 0, .int 0, .int 0]),
  .inr ((0, 300), .inl (0, [])),
  .inr ((0, 900), .inl (0, [])),
  .inr ((0, 300), .inl (0, [])),
  .inr ((0, 4), .inl (0, [])),
  .inr ((0, 8), .inl (0, [])),
  .inr ((0, 164), .inl (0, [])),
  .inl (6, [.ref 60, .ref 61, .ref 62, .ref 63, .ref 64, .ref 65, .ref 14, .int 1, .int 0]),
  .inr ((0, 7000), .inl (0, [(0, 0)])),
  .inr ((0, 7000), .inl (0, [(0, 0)])),
  .inr ((0, 7000), .inl (0, [(0, (-1))])),
  .inr ((0, 7000), .inl (0, [])),
  .inr ((0, 2048), .inl ((-1), [(0, 0)])),
  .inr ((0, 300), .inl (0, [])),
  .inl (9, [.ref 67, .ref 68, .ref 69, .ref 70, .ref 71, .ref 72, .ref 73, .int 0, .int 1, .ref 74, .ref 75, .ref 76, .ref 77, .ref 78, .ref 79, .ref 80, .ref 81, .ref 82, .ref 83, .ref 84, .int 1, .int 0, .int 0, .int 1, .int 0, .int 0, .int 0, .int 0, .ref 85, .int 0, .int 0, .int 0, .int 0, .int 0, .int 0, .int 0, .int 0, .int 0, .int 0, .ref 86, .ref 87, .int 0, .ref 88, .ref 89, .ref 90, .int 0, .int 0, .int 0, .int 0, .ref 91, .ref 92, .ref 93, .ref 94, .ref 95, .int 0, .ref 96, .int 0, .int 0, .ref 97, .ref 98, .int 0, .ref 99, .ref 100, .ref 101, .ref 102, .ref 103, .ref 104, .ref 105, .int 0, .ref 106, .int 0, .int 0, .int 0, .ref 107, .int 0, .int 0, .int 0]),
  .inr ((0, 20000), .inl (0, [(0, 0)])),
  .inr ((0, 20000), .inl (0, [(0, 0)])),
  .inr ((0, 20000), .inl (0, [(0, 0)])),
  .inr ((0, 80000), .inl (0, [])),
  .inr ((0, 20000), .inl (0, [(0, 1)])),
  .inr ((0, 20000), .inl (0, [(0, (-1))])),
  .inr ((0, 2048), .inl ((-1), [(0, 0)])),
  .inr ((0, 4), .inl (0, [])),
  .inr ((1, 42), .inr (0, [(0, 4288121)])),
  .inr ((0, 42), .inl (0, [(0, 0)])),
  .inr ((0, 42), .inl (0, [(0, 0)])),
  .inr ((0, 168), .inl (0, [])),
  .inr ((0, 42), .inl (0, [(0, 0)])),
  .inr ((0, 882), .inl (0, [(0, 0), (20, (-1)), (19, (-1)), (18, (-1)), (17, (-1)), (16, (-1)), (15, (-1)), (14, (-1)), (13, (-1)), (12, (-1)), (11, (-1)), (10, (-1)), (9, (-1)), (8, (-1)), (7, (-1)), (6, (-1)), (5, (-1)), (4, (-1)), (3, (-1)), (2, (-1)), (1, (-1)), (0, (-1))])),
  .inr ((1, 160), .inr (0, [])),
  .inr ((0, 160), .inl (0, [])),
  .inr ((0, 320), .inl (0, [])),
  .inr ((0, 160), .inl (0, [])),
  .inr ((0, 800), .inl (0, [])),
  .inr ((0, 6400), .inl (0, [])),
  .inr ((2, 6400), .inl (0, [])),
  .inr ((0, 900), .inl (0, [])),
  .inr ((0, 300), .inl (0, [])),
  .inr ((0, 300), .inl (0, [])),
  .inr ((0, 42), .inl (0, [])),
  .inr ((0, 42), .inl (0, [])),
  .inr ((0, 42), .inl (0, [])),
  .inr ((0, 42), .inl (0, [])),
  .inr ((0, 42), .inl (0, [])),
  .inr ((3, 1000), .inl (0, [])),
  .inr ((0, 20000), .inl (0, [])),
  .inr ((0, 20000), .inl (0, [])),
  .inr ((0, 20000), .inl (0, [])),
  .inr ((2, 10), .inl (0, [])),
  .inr ((0, 10), .inl (0, [])),
  .inr ((0, 10), .inl (0, [])),
  .inr ((0, 40), .inl (0, [])),
  .inr ((0, 10), .inl (0, [])),
  .inr ((0, 20000), .inl (0, [])),
  .inr ((0, 20000), .inl (0, [])),
  .inr ((0, 4), .inl (0, [])),
  .inr ((1, 1), .inr (0, [(0, 8)]))], 357940)
set_option maxRecDepth 1000000 in
theorem k2_feed_r8 : mx_loop kb_feed_r8 mt_tab (mx_call kb_feed_r8 mt_tab mo_ovr mo_jmp 38) (fun _ => none) mt_L_feed 1000 (0, lv_args 0 [.ref 0, .double 77, .int 8, .ref 108], [], ml_w1) = some (some (.int 0), w2_feed_r8) := mq2_eq (by decide +kernel)
theorem k3_feed_r8 : w2_feed_r8.1.length = 109 ∧ w2_feed_r8.2 = 357940 := by decide +kernel
set_option maxRecDepth 1000000 in
theorem ka_feed_r8 : mx_runN kb_feed_r8 mt_tab (ml_call kb_feed_r8) (some 4) (fun _ => none) mt_L_law 6 (104, ml_lv, [], ml_w1) = some (111, ml_lv, [.ref 1048578, .ref 0], ml_w1) := mq_eq (by decide +kernel)
set_option maxRecDepth 1000000 in
theorem k1_feed_r8 : mx_runN kb_feed_r8 mt_tab (ml_call kb_feed_r8) (some 4) (fun _ => none) mt_L_law 6 (127, ml_lv, [.double 77, .ref 0], ml_w1) = some (134, ml_lv, ([.ref 0, .double 77, .int 8, .ref 108] : List Value).reverse, ml_w1) := mq_eq (by decide +kernel)
set_option maxRecDepth 1000000 in
theorem kc_feed_r8 : mx_runN kb_feed_r8 mt_tab (ml_call kb_feed_r8) (some 4) (fun _ => none) mt_L_law 7 (137, ml_lv, [.int 0], w2_feed_r8) = some (146, mx_st1 ml_lv 5 (.int 0), [.ref 1048578, .ref 66], w2_feed_r8) := mq_eq (by decide +kernel)
set_option maxRecDepth 1000000 in
theorem k4_feed_r8 : mq3 (mx_runN kb_feed_r8 mt_tab (ml_call kb_feed_r8) (some 4) (fun _ => none) mt_L_law 30 (162, mx_st1 ml_lv 5 (.int 0), [.double 77, .ref 66], w2_feed_r8)) = true := by decide +kernel
set_option maxHeartbeats 4000000 in
set_option maxRecDepth 100000 in
theorem ct_feed_r8 (hl : l.stackTraces = false) (hfz : r mx_F ≠ .int 0) (C : ml_C kb_feed_r8 p s m meth c r D cy (some 4)) (hx1 : r 1048578 = .int (xs 1)) (hx2 : r 1048579 = .int (xs 2)) (hEX : mx_EX s.heap.size s s.heap) (hv : lv_has ls 8 (mx_lv r ml_lv)) (hR : mx_R D cy r s.heap.size ml_w1 H) (hS : va_S (fun q => s.heap.size ≤ q) s.heap H locs) :
    W p l e room_1 s m #[Value.ref b] below meth c H locs 109 357940 (lw_Z below #[Value.ref b] s) (F0 m 104 ls []) := by
  obtain ⟨hx, hb, hml, hown, hE, hK, hr, hsc, hnm, hfr, hloc, hkb⟩ := C.1
  exact lt_feed (K4 := 30) (K5 := 7) (mc := w2_feed_r8.1.length - ml_w1.1.length) (ms := w2_feed_r8.2 - ml_w1.2) (f := 39) (lo := 40 * 39) (a := [.ref 0, .double 77, .int 8, .ref 108]) (w2 := w2_feed_r8) (kv := 0) C hEX hx1 hx2 ka_feed_r8 k1_feed_r8 (mw_ret (d := 38) (MW := mt_L_feed) (hh := hh_feed) (a := [.ref 0, .double 77, .int 8, .ref 108]) (w := ml_w1) (w' := w2_feed_r8) (v := some (.int 0)) hr hkb mw_L_feed rfl rfl (by decide +kernel) k2_feed_r8) rfl (by decide) (by decide) (by rw [k3_feed_r8.1, ml_len]; decide) (by rw [k3_feed_r8.2, ml_sz]; decide) k3_feed_r8.1 k3_feed_r8.2 kc_feed_r8 k4_feed_r8 hv hR hS
theorem cj_feed (hl : l.stackTraces = false) (hfz : r mx_F ≠ .int 0) (mkC : ∀ kb, mx_kb kb r → ml_C kb p s m meth c r D cy (some 4)) (hx1 : r 1048578 = .int (xs 1)) (hx2 : r 1048579 = .int (xs 2)) (hx3 : r 1048580 = .int (xs 3)) (hEX : mx_EX s.heap.size s s.heap) (hv : lv_has ls 8 (mx_lv r ml_lv)) (hR : mx_R D cy r s.heap.size ml_w1 H) (hS : va_S (fun q => s.heap.size ≤ q) s.heap H locs) :
    W p l e room_1 s m #[Value.ref b] below meth c H locs 109 357940 (lw_Z below #[Value.ref b] s) (F0 m 104 ls []) := by
  by_cases hN3 : xs 3 < 1
  · exact ct_feed_a hl hfz (mkC _ (kb_cons hx3 (decide_eq_true hN3) kb_nil)) hx1 hx2 hEX hv hR hS
  · by_cases hG3 : xs 3 ≤ 8
    · have h0 : ¬ xs 3 < 0 := fun q => hN3 (by
        rw [Int32.lt_iff_toInt_lt] at q ⊢
        have e0 : (0 : Int32).toInt = 0 := by decide
        have e1 : (1 : Int32).toInt = 1 := by decide
        rw [e0] at q
        rw [e1]
        omega)
      obtain ⟨j, hj, ej⟩ := nI_of2 (M := 8) (n := 8) (by decide) h0 hG3
      rcases (show j = 0 ∨ j = 1 ∨ j = 2 ∨ j = 3 ∨ j = 4 ∨ j = 5 ∨ j = 6 ∨ j = 7 ∨ j = 8 by omega) with rfl | rfl | rfl | rfl | rfl | rfl | rfl | rfl | rfl
      · exact absurd (by rw [ej]; decide) hN3
      · exact ct_feed_r1 hl hfz (mkC _ (kb_cons hx3 (decide_eq_true (ej.trans (by decide))) kb_nil)) hx1 hx2 hEX hv hR hS
      · exact ct_feed_r2 hl hfz (mkC _ (kb_cons hx3 (decide_eq_true (ej.trans (by decide))) kb_nil)) hx1 hx2 hEX hv hR hS
      · exact ct_feed_r3 hl hfz (mkC _ (kb_cons hx3 (decide_eq_true (ej.trans (by decide))) kb_nil)) hx1 hx2 hEX hv hR hS
      · exact ct_feed_r4 hl hfz (mkC _ (kb_cons hx3 (decide_eq_true (ej.trans (by decide))) kb_nil)) hx1 hx2 hEX hv hR hS
      · exact ct_feed_r5 hl hfz (mkC _ (kb_cons hx3 (decide_eq_true (ej.trans (by decide))) kb_nil)) hx1 hx2 hEX hv hR hS
      · exact ct_feed_r6 hl hfz (mkC _ (kb_cons hx3 (decide_eq_true (ej.trans (by decide))) kb_nil)) hx1 hx2 hEX hv hR hS
      · exact ct_feed_r7 hl hfz (mkC _ (kb_cons hx3 (decide_eq_true (ej.trans (by decide))) kb_nil)) hx1 hx2 hEX hv hR hS
      · exact ct_feed_r8 hl hfz (mkC _ (kb_cons hx3 (decide_eq_true (ej.trans (by decide))) kb_nil)) hx1 hx2 hEX hv hR hS
    · exact ct_feed_b hl hfz (mkC _ (kb_cons hx3 (decide_eq_false hN3) (kb_cons hx3 (decide_eq_false hG3) kb_nil))) hx1 hx2 hEX hv hR hS
end MFE
