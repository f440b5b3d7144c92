/-! ### the other callers, answered -/
theorem zf_cls {g : zΓ} {d : Nat} (hg : zg g) {x1 x2 : Int32} {v : Int64} {w w' : mW} {a : mJ} (hmet : zMet g d 101 [.ref 0, .int x1, .int x2] w (some (.long v)) w') (hmono : w.1.length ≤ w'.1.length ∧ w.2 ≤ w'.2) (h0 : ∃ fs, w.1[0]? = some (.inl (8, fs))) (h8 : w'.1[108]? = some (.inr ((1, 1), .inr a))) :
    ∃ lv, zG g d mt_L_cls none (0, lv_args 0 [.ref 0, .int x1, .int x2, .ref 108], [], w) (21, lv, [.int 0], (w'.1.set 108 (.inr ((1, 1), .inr (mx_s a 0 v))), w'.2)) := by
  refine ⟨lv_args 0 [.ref 0, .int x1, .int x2, .ref 108], ?_⟩
  have h1 : zG g d mt_L_cls none (0, lv_args 0 [.ref 0, .int x1, .int x2, .ref 108], [], w) (5, lv_args 0 [.ref 0, .int x1, .int x2, .ref 108], [Value.int x1, .int x2].reverse ++ .ref 0 :: [.int 0, .ref 108], w) := zl_run hg mw_L_cls 5 rfl
  have h2 := zl_ivkV (sc := none) (lv := lv_args 0 [.ref 0, .int x1, .int x2, .ref 108]) (rest := [.int 0, .ref 108]) (As := [.int x1, .int x2]) hg mw_L_cls hmet hmono (pc := 5) (ix := 17) rfl rfl (show mt_tab[101]? = some mt_X8_cls from rfl) rfl rfl rfl rfl rfl h0
  have h4 := zl_las (d := d) (sc := none) (lv := lv_args 0 [.ref 0, .int x1, .int x2, .ref 108]) (st := []) (v := v) hg mw_L_cls (pc := 8) rfl h8
  have h5 : zG g d mt_L_cls none (8 + 1, lv_args 0 [.ref 0, .int x1, .int x2, .ref 108], [], (w'.1.set 108 (.inr ((1, 1), .inr (mx_s a 0 v))), w'.2)) (21, lv_args 0 [.ref 0, .int x1, .int x2, .ref 108], [.int 0], (w'.1.set 108 (.inr ((1, 1), .inr (mx_s a 0 v))), w'.2)) := zl_run hg mw_L_cls 2 rfl
  exact zG_trans h1 (zG_trans h2 (zG_trans h4 h5))
theorem zf_isAbove {g : zΓ} {d : Nat} (hg : zg g) {x1 x2 : Int32} {v : Int32} {w w' : mW} {a : mJ} (hmet : zMet g d 102 [.ref 0, .int x1, .int x2] w (some (.int v)) w') (hmono : w.1.length ≤ w'.1.length ∧ w.2 ≤ w'.2) (h0 : ∃ fs, w.1[0]? = some (.inl (8, fs))) (h8 : w'.1[108]? = some (.inr ((1, 1), .inr a))) :
    ∃ lv, zG g d mt_L_isAbove none (0, lv_args 0 [.ref 0, .int x1, .int x2, .ref 108], [], w) (18, lv, [.int 0], (w'.1.set 108 (.inr ((1, 1), .inr (mx_s a 0 v.toInt64))), w'.2)) := by
  refine ⟨lv_args 0 [.ref 0, .int x1, .int x2, .ref 108], ?_⟩
  have h1 : zG g d mt_L_isAbove none (0, lv_args 0 [.ref 0, .int x1, .int x2, .ref 108], [], w) (5, lv_args 0 [.ref 0, .int x1, .int x2, .ref 108], [Value.int x1, .int x2].reverse ++ .ref 0 :: [.int 0, .ref 108], w) := zl_run hg mw_L_isAbove 5 rfl
  have h2 := zl_ivkV (sc := none) (lv := lv_args 0 [.ref 0, .int x1, .int x2, .ref 108]) (rest := [.int 0, .ref 108]) (As := [.int x1, .int x2]) hg mw_L_isAbove hmet hmono (pc := 5) (ix := 23) rfl rfl (show mt_tab[102]? = some mt_X8_isAbove from rfl) rfl rfl rfl rfl rfl h0
  have h3 : zG g d mt_L_isAbove none (5 + 3, lv_args 0 [.ref 0, .int x1, .int x2, .ref 108], (some (Value.int v)).toList ++ [.int 0, .ref 108], w') (9, lv_args 0 [.ref 0, .int x1, .int x2, .ref 108], [.long v.toInt64, .int 0, .ref 108], w') := zl_run hg mw_L_isAbove 1 rfl
  have h4 := zl_las (d := d) (sc := none) (lv := lv_args 0 [.ref 0, .int x1, .int x2, .ref 108]) (st := []) (v := v.toInt64) hg mw_L_isAbove (pc := 9) rfl h8
  have h5 : zG g d mt_L_isAbove none (9 + 1, lv_args 0 [.ref 0, .int x1, .int x2, .ref 108], [], (w'.1.set 108 (.inr ((1, 1), .inr (mx_s a 0 v.toInt64))), w'.2)) (18, lv_args 0 [.ref 0, .int x1, .int x2, .ref 108], [.int 0], (w'.1.set 108 (.inr ((1, 1), .inr (mx_s a 0 v.toInt64))), w'.2)) := zl_run hg mw_L_isAbove 2 rfl
  exact zG_trans h1 (zG_trans h2 (zG_trans h3 (zG_trans h4 h5)))
theorem zf_parameter {g : zΓ} {d : Nat} (hg : zg g) {x1 x2 : Int32} {v : Int64} {w w' : mW} {a : mJ} (hmet : zMet g d 103 [.ref 0, .int x1, .int x2] w (some (.long v)) w') (hmono : w.1.length ≤ w'.1.length ∧ w.2 ≤ w'.2) (h0 : ∃ fs, w.1[0]? = some (.inl (8, fs))) (h8 : w'.1[108]? = some (.inr ((1, 1), .inr a))) :
    ∃ lv, zG g d mt_L_parameter none (0, lv_args 0 [.ref 0, .int x1, .int x2, .ref 108], [], w) (21, lv, [.int 0], (w'.1.set 108 (.inr ((1, 1), .inr (mx_s a 0 v))), w'.2)) := by
  refine ⟨lv_args 0 [.ref 0, .int x1, .int x2, .ref 108], ?_⟩
  have h1 : zG g d mt_L_parameter none (0, lv_args 0 [.ref 0, .int x1, .int x2, .ref 108], [], w) (5, lv_args 0 [.ref 0, .int x1, .int x2, .ref 108], [Value.int x1, .int x2].reverse ++ .ref 0 :: [.int 0, .ref 108], w) := zl_run hg mw_L_parameter 5 rfl
  have h2 := zl_ivkV (sc := none) (lv := lv_args 0 [.ref 0, .int x1, .int x2, .ref 108]) (rest := [.int 0, .ref 108]) (As := [.int x1, .int x2]) hg mw_L_parameter hmet hmono (pc := 5) (ix := 27) rfl rfl (show mt_tab[103]? = some mt_X8_parameter from rfl) rfl rfl rfl rfl rfl h0
  have h4 := zl_las (d := d) (sc := none) (lv := lv_args 0 [.ref 0, .int x1, .int x2, .ref 108]) (st := []) (v := v) hg mw_L_parameter (pc := 8) rfl h8
  have h5 : zG g d mt_L_parameter none (8 + 1, lv_args 0 [.ref 0, .int x1, .int x2, .ref 108], [], (w'.1.set 108 (.inr ((1, 1), .inr (mx_s a 0 v))), w'.2)) (21, lv_args 0 [.ref 0, .int x1, .int x2, .ref 108], [.int 0], (w'.1.set 108 (.inr ((1, 1), .inr (mx_s a 0 v))), w'.2)) := zl_run hg mw_L_parameter 2 rfl
  exact zG_trans h1 (zG_trans h2 (zG_trans h4 h5))
theorem zf_way {g : zΓ} {d : Nat} (hg : zg g) {x1 x2 : Int32} {v : Int32} {w w' : mW} {a : mJ} (hmet : zMet g d 104 [.ref 0, .int x1, .int x2] w (some (.int v)) w') (hmono : w.1.length ≤ w'.1.length ∧ w.2 ≤ w'.2) (h0 : ∃ fs, w.1[0]? = some (.inl (8, fs))) (h8 : w'.1[108]? = some (.inr ((1, 1), .inr a))) :
    ∃ lv, zG g d mt_L_way none (0, lv_args 0 [.ref 0, .int x1, .int x2, .ref 108], [], w) (18, lv, [.int 0], (w'.1.set 108 (.inr ((1, 1), .inr (mx_s a 0 v.toInt64))), w'.2)) := by
  refine ⟨lv_args 0 [.ref 0, .int x1, .int x2, .ref 108], ?_⟩
  have h1 : zG g d mt_L_way none (0, lv_args 0 [.ref 0, .int x1, .int x2, .ref 108], [], w) (5, lv_args 0 [.ref 0, .int x1, .int x2, .ref 108], [Value.int x1, .int x2].reverse ++ .ref 0 :: [.int 0, .ref 108], w) := zl_run hg mw_L_way 5 rfl
  have h2 := zl_ivkV (sc := none) (lv := lv_args 0 [.ref 0, .int x1, .int x2, .ref 108]) (rest := [.int 0, .ref 108]) (As := [.int x1, .int x2]) hg mw_L_way hmet hmono (pc := 5) (ix := 30) rfl rfl (show mt_tab[104]? = some mt_X8_way from rfl) rfl rfl rfl rfl rfl h0
  have h3 : zG g d mt_L_way none (5 + 3, lv_args 0 [.ref 0, .int x1, .int x2, .ref 108], (some (Value.int v)).toList ++ [.int 0, .ref 108], w') (9, lv_args 0 [.ref 0, .int x1, .int x2, .ref 108], [.long v.toInt64, .int 0, .ref 108], w') := zl_run hg mw_L_way 1 rfl
  have h4 := zl_las (d := d) (sc := none) (lv := lv_args 0 [.ref 0, .int x1, .int x2, .ref 108]) (st := []) (v := v.toInt64) hg mw_L_way (pc := 9) rfl h8
  have h5 : zG g d mt_L_way none (9 + 1, lv_args 0 [.ref 0, .int x1, .int x2, .ref 108], [], (w'.1.set 108 (.inr ((1, 1), .inr (mx_s a 0 v.toInt64))), w'.2)) (18, lv_args 0 [.ref 0, .int x1, .int x2, .ref 108], [.int 0], (w'.1.set 108 (.inr ((1, 1), .inr (mx_s a 0 v.toInt64))), w'.2)) := zl_run hg mw_L_way 2 rfl
  exact zG_trans h1 (zG_trans h2 (zG_trans h3 (zG_trans h4 h5)))
theorem zf_ask {g : zΓ} {d : Nat} (hg : zg g) {x1 : Int32} {v : Int32} {w w' : mW} {a : mJ} (hmet : zMet g d 105 [.ref 0, .int x1] w (some (.int v)) w') (hmono : w.1.length ≤ w'.1.length ∧ w.2 ≤ w'.2) (h0 : ∃ fs, w.1[0]? = some (.inl (8, fs))) (h8 : w'.1[108]? = some (.inr ((1, 1), .inr a))) :
    ∃ lv, zG g d mt_L_ask none (0, lv_args 0 [.ref 0, .int x1, .ref 108], [], w) (16, lv, [.int 0], (w'.1.set 108 (.inr ((1, 1), .inr (mx_s a 0 v.toInt64))), w'.2)) := by
  refine ⟨lv_args 0 [.ref 0, .int x1, .ref 108], ?_⟩
  have h1 : zG g d mt_L_ask none (0, lv_args 0 [.ref 0, .int x1, .ref 108], [], w) (4, lv_args 0 [.ref 0, .int x1, .ref 108], [Value.int x1].reverse ++ .ref 0 :: [.int 0, .ref 108], w) := zl_run hg mw_L_ask 4 rfl
  have h2 := zl_ivkV (sc := none) (lv := lv_args 0 [.ref 0, .int x1, .ref 108]) (rest := [.int 0, .ref 108]) (As := [.int x1]) hg mw_L_ask hmet hmono (pc := 4) (ix := 33) rfl rfl (show mt_tab[105]? = some mt_X8_ask from rfl) rfl rfl rfl rfl rfl h0
  have h3 : zG g d mt_L_ask none (4 + 3, lv_args 0 [.ref 0, .int x1, .ref 108], (some (Value.int v)).toList ++ [.int 0, .ref 108], w') (8, lv_args 0 [.ref 0, .int x1, .ref 108], [.long v.toInt64, .int 0, .ref 108], w') := zl_run hg mw_L_ask 1 rfl
  have h4 := zl_las (d := d) (sc := none) (lv := lv_args 0 [.ref 0, .int x1, .ref 108]) (st := []) (v := v.toInt64) hg mw_L_ask (pc := 8) rfl h8
  have h5 : zG g d mt_L_ask none (8 + 1, lv_args 0 [.ref 0, .int x1, .ref 108], [], (w'.1.set 108 (.inr ((1, 1), .inr (mx_s a 0 v.toInt64))), w'.2)) (16, lv_args 0 [.ref 0, .int x1, .ref 108], [.int 0], (w'.1.set 108 (.inr ((1, 1), .inr (mx_s a 0 v.toInt64))), w'.2)) := zl_run hg mw_L_ask 2 rfl
  exact zG_trans h1 (zG_trans h2 (zG_trans h3 (zG_trans h4 h5)))
theorem zf_told {g : zΓ} {d : Nat} (hg : zg g) {x1 : Int32} {v : Int32} {w w' : mW} {a : mJ} (hmet : zMet g d 106 [.ref 0, .int x1] w (some (.int v)) w') (hmono : w.1.length ≤ w'.1.length ∧ w.2 ≤ w'.2) (h0 : ∃ fs, w.1[0]? = some (.inl (8, fs))) (h8 : w'.1[108]? = some (.inr ((1, 1), .inr a))) :
    ∃ lv, zG g d mt_L_told none (0, lv_args 0 [.ref 0, .int x1, .ref 108], [], w) (16, lv, [.int 0], (w'.1.set 108 (.inr ((1, 1), .inr (mx_s a 0 v.toInt64))), w'.2)) := by
  refine ⟨lv_args 0 [.ref 0, .int x1, .ref 108], ?_⟩
  have h1 : zG g d mt_L_told none (0, lv_args 0 [.ref 0, .int x1, .ref 108], [], w) (4, lv_args 0 [.ref 0, .int x1, .ref 108], [Value.int x1].reverse ++ .ref 0 :: [.int 0, .ref 108], w) := zl_run hg mw_L_told 4 rfl
  have h2 := zl_ivkV (sc := none) (lv := lv_args 0 [.ref 0, .int x1, .ref 108]) (rest := [.int 0, .ref 108]) (As := [.int x1]) hg mw_L_told hmet hmono (pc := 4) (ix := 37) rfl rfl (show mt_tab[106]? = some mt_X8_told from rfl) rfl rfl rfl rfl rfl h0
  have h3 : zG g d mt_L_told none (4 + 3, lv_args 0 [.ref 0, .int x1, .ref 108], (some (Value.int v)).toList ++ [.int 0, .ref 108], w') (8, lv_args 0 [.ref 0, .int x1, .ref 108], [.long v.toInt64, .int 0, .ref 108], w') := zl_run hg mw_L_told 1 rfl
  have h4 := zl_las (d := d) (sc := none) (lv := lv_args 0 [.ref 0, .int x1, .ref 108]) (st := []) (v := v.toInt64) hg mw_L_told (pc := 8) rfl h8
  have h5 : zG g d mt_L_told none (8 + 1, lv_args 0 [.ref 0, .int x1, .ref 108], [], (w'.1.set 108 (.inr ((1, 1), .inr (mx_s a 0 v.toInt64))), w'.2)) (16, lv_args 0 [.ref 0, .int x1, .ref 108], [.int 0], (w'.1.set 108 (.inr ((1, 1), .inr (mx_s a 0 v.toInt64))), w'.2)) := zl_run hg mw_L_told 2 rfl
  exact zG_trans h1 (zG_trans h2 (zG_trans h3 (zG_trans h4 h5)))
theorem zf_variable {g : zΓ} {d : Nat} (hg : zg g) {x1 x2 : Int32} {v : Int32} {w w' : mW} {a : mJ} (hmet : zMet g d 108 [.ref 0, .int x1, .int x2] w (some (.int v)) w') (hmono : w.1.length ≤ w'.1.length ∧ w.2 ≤ w'.2) (h0 : ∃ fs, w.1[0]? = some (.inl (8, fs))) (h8 : w'.1[108]? = some (.inr ((1, 1), .inr a))) :
    ∃ lv, zG g d mt_L_variable none (0, lv_args 0 [.ref 0, .int x1, .int x2, .ref 108], [], w) (18, lv, [.int 0], (w'.1.set 108 (.inr ((1, 1), .inr (mx_s a 0 v.toInt64))), w'.2)) := by
  refine ⟨lv_args 0 [.ref 0, .int x1, .int x2, .ref 108], ?_⟩
  have h1 : zG g d mt_L_variable none (0, lv_args 0 [.ref 0, .int x1, .int x2, .ref 108], [], w) (5, lv_args 0 [.ref 0, .int x1, .int x2, .ref 108], [Value.int x1, .int x2].reverse ++ .ref 0 :: [.int 0, .ref 108], w) := zl_run hg mw_L_variable 5 rfl
  have h2 := zl_ivkV (sc := none) (lv := lv_args 0 [.ref 0, .int x1, .int x2, .ref 108]) (rest := [.int 0, .ref 108]) (As := [.int x1, .int x2]) hg mw_L_variable hmet hmono (pc := 5) (ix := 40) rfl rfl (show mt_tab[108]? = some mt_X8_variable from rfl) rfl rfl rfl rfl rfl h0
  have h3 : zG g d mt_L_variable none (5 + 3, lv_args 0 [.ref 0, .int x1, .int x2, .ref 108], (some (Value.int v)).toList ++ [.int 0, .ref 108], w') (9, lv_args 0 [.ref 0, .int x1, .int x2, .ref 108], [.long v.toInt64, .int 0, .ref 108], w') := zl_run hg mw_L_variable 1 rfl
  have h4 := zl_las (d := d) (sc := none) (lv := lv_args 0 [.ref 0, .int x1, .int x2, .ref 108]) (st := []) (v := v.toInt64) hg mw_L_variable (pc := 9) rfl h8
  have h5 : zG g d mt_L_variable none (9 + 1, lv_args 0 [.ref 0, .int x1, .int x2, .ref 108], [], (w'.1.set 108 (.inr ((1, 1), .inr (mx_s a 0 v.toInt64))), w'.2)) (18, lv_args 0 [.ref 0, .int x1, .int x2, .ref 108], [.int 0], (w'.1.set 108 (.inr ((1, 1), .inr (mx_s a 0 v.toInt64))), w'.2)) := zl_run hg mw_L_variable 2 rfl
  exact zG_trans h1 (zG_trans h2 (zG_trans h3 (zG_trans h4 h5)))
theorem zf_written {g : zΓ} {d : Nat} (hg : zg g) {x1 : Int32} {v : Int32} {w w' : mW} {a : mJ} (hmet : zMet g d 109 [.ref 0, .int x1] w (some (.int v)) w') (hmono : w.1.length ≤ w'.1.length ∧ w.2 ≤ w'.2) (h0 : ∃ fs, w.1[0]? = some (.inl (8, fs))) (h8 : w'.1[108]? = some (.inr ((1, 1), .inr a))) :
    ∃ lv, zG g d mt_L_written none (0, lv_args 0 [.ref 0, .int x1, .ref 108], [], w) (16, lv, [.int 0], (w'.1.set 108 (.inr ((1, 1), .inr (mx_s a 0 v.toInt64))), w'.2)) := by
  refine ⟨lv_args 0 [.ref 0, .int x1, .ref 108], ?_⟩
  have h1 : zG g d mt_L_written none (0, lv_args 0 [.ref 0, .int x1, .ref 108], [], w) (4, lv_args 0 [.ref 0, .int x1, .ref 108], [Value.int x1].reverse ++ .ref 0 :: [.int 0, .ref 108], w) := zl_run hg mw_L_written 4 rfl
  have h2 := zl_ivkV (sc := none) (lv := lv_args 0 [.ref 0, .int x1, .ref 108]) (rest := [.int 0, .ref 108]) (As := [.int x1]) hg mw_L_written hmet hmono (pc := 4) (ix := 43) rfl rfl (show mt_tab[109]? = some mt_X8_written from rfl) rfl rfl rfl rfl rfl h0
  have h3 : zG g d mt_L_written none (4 + 3, lv_args 0 [.ref 0, .int x1, .ref 108], (some (Value.int v)).toList ++ [.int 0, .ref 108], w') (8, lv_args 0 [.ref 0, .int x1, .ref 108], [.long v.toInt64, .int 0, .ref 108], w') := zl_run hg mw_L_written 1 rfl
  have h4 := zl_las (d := d) (sc := none) (lv := lv_args 0 [.ref 0, .int x1, .ref 108]) (st := []) (v := v.toInt64) hg mw_L_written (pc := 8) rfl h8
  have h5 : zG g d mt_L_written none (8 + 1, lv_args 0 [.ref 0, .int x1, .ref 108], [], (w'.1.set 108 (.inr ((1, 1), .inr (mx_s a 0 v.toInt64))), w'.2)) (16, lv_args 0 [.ref 0, .int x1, .ref 108], [.int 0], (w'.1.set 108 (.inr ((1, 1), .inr (mx_s a 0 v.toInt64))), w'.2)) := zl_run hg mw_L_written 2 rfl
  exact zG_trans h1 (zG_trans h2 (zG_trans h3 (zG_trans h4 h5)))
