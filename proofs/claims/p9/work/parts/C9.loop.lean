/-! ### the law's loop -/
def l_tsw : Instr := .tableswitch 499 0 12 #[65, 137, 150, 163, 203, 243, 283, 323, 379, 407, 420, 460, 488]
theorem l_L4 {L : Nat} (hL : L ≤ 2048) : (Int32.ofNat L - Int32.ofInt 4).toInt = (L : Int) - 4 := by
  show (Int32.ofInt (L : Int) - Int32.ofInt 4).toInt = _
  rw [z_sub, z_rt ⟨by omega, by omega⟩]
section LLO
variable {g : zΓ} {x : lE} {L k : Nat} {xs : Nat → Int32}
set_option maxRecDepth 100000 in
set_option maxHeartbeats 4000000 in
theorem l_gt (hg : zg g) (hL : L ≤ 2048) (hk : 4 * k ≤ 2048) (w : mW) (b : Bool) (hb : decide ((L : Int) - 4 < ((4 * k : Nat) : Int)) = b) : zG g 200 mt_L_law (some L) (23, lqv (Int32.ofNat (4 * k)), [], w) (if b then 544 else 32, lqv (Int32.ofNat (4 * k)), [], w) := by
  have s1 : zG g 200 mt_L_law (some L) (23, lqv (Int32.ofNat (4 * k)), [], w) (29, lqv (Int32.ofNat (4 * k)), [.int (Int32.ofNat L - Int32.ofInt 4), .int (Int32.ofNat (4 * k))], w) := zl_run hg mw_L_law 5 rfl
  have hi : (Int32.ofNat (4 * k)).toInt = ((4 * k : Nat) : Int) := nI_toInt (by omega)
  have hc : mx_cmp .gt (Int32.ofNat (4 * k)) (Int32.ofNat L - Int32.ofInt 4) = b := by
    rw [← hb]
    simp only [mx_cmp, Int32.lt_iff_toInt_lt, hi, l_L4 hL]
  have s2 : zG g 200 mt_L_law (some L) (29, lqv (Int32.ofNat (4 * k)), [.int (Int32.ofNat L - Int32.ofInt 4), .int (Int32.ofNat (4 * k))], w) (if b then 544 else 32, lqv (Int32.ofNat (4 * k)), [], w) := zl_br (i := .if_icmp .gt 515) hg mw_L_law rfl rfl rfl (by
    show (match mx_dec g.1 .gt (.int (Int32.ofNat (4 * k))) (.int (Int32.ofNat L - Int32.ofInt 4)) with | some true => some (544, ([] : List Value)) | some false => some (32, []) | none => none) = _
    simp only [mx_dec, hc]
    cases b <;> rfl)
  exact zG_trans s1 s2
set_option maxRecDepth 100000 in
set_option maxHeartbeats 8000000 in
theorem l_step (hg : zg g) (hst : g.2.2.1.stackTraces = false) (C : lC g x L) (hxs : ∀ q, q < L → g.2.2.2.2.2.1 (mx_E + 1 + q) = .int (xs q)) (hL : L ≤ 2048) (hi : 4 * k + 4 ≤ L) {μ : zM} {w : mW} (h : lI k μ w) :
    ∃ (μ' : zM) (w' : mW), lG g x (23, lqv (Int32.ofNat (4 * k)), [], w) (23, lqv (Int32.ofNat (4 * (k + 1))), [], w') ∧ lI (k + 1) μ' w' := by
  have s1 := l_gt (k := k) hg hL (by omega) w false (decide_eq_false (by omega))
  have s2 : zG g 200 mt_L_law (some L) (32, lqv (Int32.ofNat (4 * k)), [], w) (35, lqv (Int32.ofNat (4 * k)), [.int (Int32.ofNat (4 * k)), .ref 1048576], w) := zl_run hg mw_L_law 2 rfl
  have hti : (Int32.ofNat (4 * k)).toInt = ((4 * k : Nat) : Int) := nI_toInt (by omega)
  have hcl : (Int32.ofNat (4 * k)).toNatClampNeg = 4 * k := nI_clamp (by omega)
  have s3 : zG g 200 mt_L_law (some L) (35, lqv (Int32.ofNat (4 * k)), [.int (Int32.ofNat (4 * k)), .ref 1048576], w) (35 + 1, lqv (Int32.ofNat (4 * k)), [.int (xs (4 * k))], w) := zl_script hg mw_L_law rfl (by unfold mx_in; rw [hti]; simp only [Bool.and_eq_true, decide_eq_true_eq]; omega) (by rw [hcl]; exact hxs _ (by omega))
  have s4 : zG g 200 mt_L_law (some L) (36, lqv (Int32.ofNat (4 * k)), [.int (xs (4 * k))], w) (39, lqv (Int32.ofNat (4 * k)), [.int (xs (4 * k) &&& 15)], w) := zl_run hg mw_L_law 2 rfl
  obtain ⟨j, hj, ej⟩ := pk_andE (xs (4 * k)) (m := 15) 4 (by decide)
  rw [ej] at s4
  have hd : lG g x (23, lqv (Int32.ofNat (4 * k)), [], w) (39, lqv (Int32.ofNat (4 * k)), [.int (nI j)], w) := lG_z C (zG_trans s1 (zG_trans s2 (zG_trans s3 s4)))
  have sw : ∀ t : Nat, mx_br g.1 39 l_tsw [.int (nI j)] = some (t, []) → lG g x (39, lqv (Int32.ofNat (4 * k)), [.int (nI j)], w) (t, lqv (Int32.ofNat (4 * k)), [], w) := fun t ht => lG_z C (zl_br (i := l_tsw) hg mw_L_law rfl rfl rfl ht)
  have none_ : mx_br g.1 39 l_tsw [.int (nI j)] = some (538, []) → ∃ (μ' : zM) (w' : mW), lG g x (23, lqv (Int32.ofNat (4 * k)), [], w) (23, lqv (Int32.ofNat (4 * (k + 1))), [], w') ∧ lI (k + 1) μ' w' := fun ht => by
    have c0 : zG g 200 mt_L_law (some L) (538, lqv (Int32.ofNat (4 * k)), [], w) (23, [(4, .int ((Int32.ofNat (4 * k)) + Int32.ofInt 4)), (3, .ref 108), (2, .ref 66), (1, .ref 0), (0, .ref 1048576)], [], w) := zl_run hg mw_L_law 2 rfl
    have c1 : zG g 200 mt_L_law (some L) (538, lqv (Int32.ofNat (4 * k)), [], w) (23, lqv ((Int32.ofNat (4 * k)) + Int32.ofInt 4), [], w) := c0
    rw [l_i4] at c1
    exact ⟨μ, w, lG_trans hd (lG_trans (sw _ ht) (lG_z C c1)), lI_next h (by omega) (lK_r μ) (lF_r μ) h.1 h.2.1 (by omega) h.2.2.1 h.2.2.2.1 h.2.2.2.2.2.2.1 h.2.2.2.2.2.2.2⟩
  have one : ∀ t : Nat, mx_br g.1 39 l_tsw [.int (nI j)] = some (t, []) → (∃ (μ' : zM) (w' : mW), lG g x (t, lqv (Int32.ofNat (4 * k)), [], w) (23, lqv (Int32.ofNat (4 * (k + 1))), [], w') ∧ lI (k + 1) μ' w') → ∃ (μ' : zM) (w' : mW), lG g x (23, lqv (Int32.ofNat (4 * k)), [], w) (23, lqv (Int32.ofNat (4 * (k + 1))), [], w') ∧ lI (k + 1) μ' w' := fun t ht q => by
    obtain ⟨μ', w', q1, q2⟩ := q
    exact ⟨μ', w', lG_trans hd (lG_trans (sw t ht) q1), q2⟩
  rcases (show j = 0 ∨ j = 1 ∨ j = 2 ∨ j = 3 ∨ j = 4 ∨ j = 5 ∨ j = 6 ∨ j = 7 ∨ j = 8 ∨ j = 9 ∨ j = 10 ∨ j = 11 ∨ j = 12 ∨ j = 13 ∨ j = 14 ∨ j = 15 by omega) with rfl | rfl | rfl | rfl | rfl | rfl | rfl | rfl | rfl | rfl | rfl | rfl | rfl | rfl | rfl | rfl
  · exact one 104 rfl (lc_feed hg hst C hxs hL hi h)
  · exact one 176 rfl (lc_read hg hst C hxs hL hi h)
  · exact one 189 rfl (lc_fault hg hst C hxs hL hi h)
  · exact one 202 rfl (lc_cls hg hst C hxs hL hi h)
  · exact one 242 rfl (lc_isAbove hg hst C hxs hL hi h)
  · exact one 282 rfl (lc_parameter hg hst C hxs hL hi h)
  · exact one 322 rfl (lc_way hg hst C hxs hL hi h)
  · exact one 362 rfl (lc_ask hg hst C hxs hL hi h)
  · exact one 418 rfl (lc_told hg hst C hxs hL hi h)
  · exact one 446 rfl (lc_above hg hst C hxs hL hi h)
  · exact one 459 rfl (lc_variable hg hst C hxs hL hi h)
  · exact one 499 rfl (lc_written hg hst C hxs hL hi h)
  · exact one 527 rfl (lc_clear hg hst C hxs hL hi h)
  · exact none_ rfl
  · exact none_ rfl
  · exact none_ rfl
theorem l_loop (hg : zg g) (hst : g.2.2.1.stackTraces = false) (C : lC g x L) (hxs : ∀ q, q < L → g.2.2.2.2.2.1 (mx_E + 1 + q) = .int (xs q)) (hL : L ≤ 2048) :
    ∀ (r k : Nat) {μ : zM} {w : mW}, L < 4 * (k + r) + 4 → k ≤ 512 → lI k μ w → ∃ (k' : Nat) (μ' : zM) (w' : mW), lG g x (23, lqv (Int32.ofNat (4 * k)), [], w) (23, lqv (Int32.ofNat (4 * k')), [], w') ∧ lI k' μ' w' ∧ L < 4 * k' + 4 ∧ k' ≤ 512
  | 0, k, μ, w, hr, hk, h => ⟨k, μ, w, lG_refl, h, hr, hk⟩
  | r + 1, k, μ, w, hr, hk, h => by
    by_cases hc : L < 4 * k + 4
    · exact ⟨k, μ, w, lG_refl, h, hc, hk⟩
    · obtain ⟨μ1, w1, q1, q2⟩ := l_step hg hst C hxs hL (k := k) (by omega) h
      obtain ⟨k', μ', w', q3, q4, q5, q6⟩ := l_loop hg hst C hxs hL r (k + 1) (by omega) (by omega) q2
      exact ⟨k', μ', w', lG_trans q1 q3, q4, q5, q6⟩
set_option maxRecDepth 100000 in
/-- from the loop's head to the law's last row -/
theorem l_all (hg : zg g) (hst : g.2.2.1.stackTraces = false) (C : lC g x L) (hxs : ∀ q, q < L → g.2.2.2.2.2.1 (mx_E + 1 + q) = .int (xs q)) (hL : L ≤ 2048) {μ : zM} {w : mW} (h : lI 0 μ w) :
    ∃ (lv : List (Nat × Value)) (w' : mW), lG g x (23, lqv (Int32.ofNat (4 * 0)), [], w) (545, lv, [.int 1], w') ∧ w'.1.length ≤ 200000 ∧ w'.2 ≤ 2000000 := by
  obtain ⟨k, μ', w', q1, q2, q3, q4⟩ := l_loop hg hst C hxs hL 512 0 (by omega) (by omega) h
  have s1 := l_gt (k := k) hg hL (by omega) w' true (decide_eq_true (by omega))
  have s2 : zG g 200 mt_L_law (some L) (544, lqv (Int32.ofNat (4 * k)), [], w') (545, lqv (Int32.ofNat (4 * k)), [.int 1], w') := zl_run hg mw_L_law 1 rfl
  refine ⟨_, w', lG_trans q1 (lG_z C (zG_trans s1 s2)), ?_, ?_⟩
  · have h1 := q2.1.2.1.1
    have h2 := (zL_le q2.1).1
    have h3 := q2.2.2.2.2.1
    omega
  · have h1 := q2.1.2.1.2
    have h2 := zS_le q2.1
    have h3 := q2.2.2.2.2.2.1
    omega
end LLO
