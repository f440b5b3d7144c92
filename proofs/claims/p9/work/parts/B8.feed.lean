/-! ### feed's caller, answered -/
theorem zf_feed {g : zΓ} {d : Nat} (hg : zg g) {x : Int64} {n v : Int32} {w w' : mW} {a : mJ} (hmet : zMet g d 98 [.ref 0, .long x, .int n] w (some (.int v)) w') (hmono : w.1.length ≤ w'.1.length ∧ w.2 ≤ w'.2) (h0 : ∃ fs, w.1[0]? = some (.inl (8, fs))) (h8 : w'.1[108]? = some (.inr ((1, 1), .inr a))) :
    ∃ lv, zG g d mt_L_feed none (0, lv_args 0 [.ref 0, .long x, .int n, .ref 108], [], w) (23, lv, [.int 0], (w'.1.set 108 (.inr ((1, 1), .inr (mx_s a 0 v.toInt64))), w'.2)) := by
  refine ⟨lv_args 0 [.ref 0, .long x, .int n, .ref 108], ?_⟩
  have h1 : zG g d mt_L_feed none (0, lv_args 0 [.ref 0, .long x, .int n, .ref 108], [], w) (6, lv_args 0 [.ref 0, .long x, .int n, .ref 108], [Value.long x, .int n].reverse ++ .ref 0 :: [.int 0, .ref 108], w) := zl_run hg mw_L_feed 5 rfl
  have h2 := zl_ivkV (sc := none) (lv := lv_args 0 [.ref 0, .long x, .int n, .ref 108]) (rest := [.int 0, .ref 108]) (As := [.long x, .int n]) hg mw_L_feed hmet hmono (pc := 6) (ix := 7) rfl rfl (show mt_tab[98]? = some mt_X8_feed from rfl) rfl rfl rfl rfl rfl h0
  have h3 : zG g d mt_L_feed none (6 + 3, lv_args 0 [.ref 0, .long x, .int n, .ref 108], (some (Value.int v)).toList ++ [.int 0, .ref 108], w') (10, lv_args 0 [.ref 0, .long x, .int n, .ref 108], [.long v.toInt64, .int 0, .ref 108], w') := zl_run hg mw_L_feed 1 rfl
  have h4 := zl_las (d := d) (sc := none) (lv := lv_args 0 [.ref 0, .long x, .int n, .ref 108]) (st := []) (v := v.toInt64) hg mw_L_feed (pc := 10) rfl h8
  have h5 : zG g d mt_L_feed none (10 + 1, lv_args 0 [.ref 0, .long x, .int n, .ref 108], [], (w'.1.set 108 (.inr ((1, 1), .inr (mx_s a 0 v.toInt64))), w'.2)) (23, lv_args 0 [.ref 0, .long x, .int n, .ref 108], [.int 0], (w'.1.set 108 (.inr ((1, 1), .inr (mx_s a 0 v.toInt64))), w'.2)) := zl_run hg mw_L_feed 2 rfl
  exact zG_trans h1 (zG_trans h2 (zG_trans h3 (zG_trans h4 h5)))
