/-! ### above: the answers are alike -/
set_option maxRecDepth 100000 in
set_option maxHeartbeats 8000000 in
theorem lc_above {g : zΓ} {x : lE} {L k : Nat} {xs : Nat → Int32} (hg : zg g) (hst : g.2.2.1.stackTraces = false) (C : lC g x L) (hxs : ∀ q, q < L → g.2.2.2.2.2.1 (mx_E + 1 + q) = .int (xs q)) (hL : L ≤ 2048) (hi : 4 * k + 4 ≤ L) {μ : zM} {w : mW} (h : lI k μ w) :
    ∃ (μ' : zM) (w' : mW), lG g x (418, lqv (Int32.ofNat (4 * k)), [], w) (23, lqv (Int32.ofNat (4 * (k + 1))), [], w') ∧ lI (k + 1) μ' w' := by
  have hk : k ≤ 600 := by omega
  have hwl := lI_len h hk
  have hW := mw_L_law
  have a0 : zG g 200 mt_L_law (some L) (418, lqv (Int32.ofNat (4 * k)), [], w) (419, lqv (Int32.ofNat (4 * k)), [.ref 0], w) := zl_run hg mw_L_law 1 rfl
  obtain ⟨B, hB1, hB2, hB3⟩ := h.2.2.2.2.2.2.2
  obtain ⟨s1, μ1, w1, hq, hw1, ⟨v1, rfl, -, y1, hv1⟩, hk1, hln, hY⟩ := lx_above hg C (lv := lqv (Int32.ofNat (4 * k))) h.1 h.2.2.2.2.2.2.1 h.2.2.2.1 (lC4_a hB1) hB3
  have b0 : zG g 200 mt_L_law (some L) (422, lqv (Int32.ofNat (4 * k)), [.int (Int32.ofInt v1)], w1) (423, lqv (Int32.ofNat (4 * k)), [.ref 66, .int (Int32.ofInt v1)], w1) := zl_run hg mw_L_law 1 rfl
  have hR1 := lR4_k hB2 h.2.1 (rKq_K hk1) hB3.1
  obtain ⟨s2, μ2, w2, hr, hw2, ⟨v2, rfl, -, y2, hv2⟩, hF, hI2, h29, h85, h20⟩ := lr_above hg C (a := v1) (lv := lqv (Int32.ofNat (4 * k))) hw1 (lRI h.2.1 hk1) (by omega) hR1.1 (rAB_mk (lRI h.2.1 hk1) hR1.1 hB3.2.2.2.2.1 hB3.1 hR1.2) hB3
  have e1 := congrFun (hk1.1 66 (by omega) (by omega)) ((29 : Nat) : Int)
  have e2 := congrFun hF.1 ((4 : Nat) : Int)
  have e3 := h.2.2.1
  have e4 := h.2.2.2.1
  have hv : v1 = v2 := (yAv_one (yAv_q (T := (μ.1 2, μ.1 1 ((4 : Nat) : Int))) (T' := (μ1.1 85, μ1.1 66 ((29 : Nat) : Int))) ⟨show μ.1 1 ((4 : Nat) : Int) = μ1.1 66 ((29 : Nat) : Int) by omega, fun i a b => show μ.1 2 i = μ1.1 85 i by rw [hk1.1 85 (by decide) (by decide)]; exact (h.2.2.2.2.2.2.1 i a b).1⟩ (show 0 ≤ μ.1 1 ((4 : Nat) : Int) by omega) hv1) hv2).2
  have b1 : zG g 200 mt_L_law (some L) (426, lqv (Int32.ofNat (4 * k)), [.int (Int32.ofInt v2), .int (Int32.ofInt v1)], w2) (510, lqv (Int32.ofNat (4 * k)), [], w2) := zl_br (i := .if_icmp .eq 84) hg hW rfl rfl rfl (by
    show (match mx_dec g.1 .eq (.int (Int32.ofInt v1)) (.int (Int32.ofInt v2)) with | some true => some (510, ([] : List Value)) | some false => some (429, []) | none => none) = _
    simp [mx_dec, mx_cmp, hv])
  have c0 : zG g 200 mt_L_law (some L) (510, lqv (Int32.ofNat (4 * k)), [], w2) (23, [(4, .int ((Int32.ofNat (4 * k)) + Int32.ofInt 4)), (3, .ref 108), (2, .ref 66), (1, .ref 0), (0, .ref 1048576)], [], w2) := zl_run hg mw_L_law 2 rfl
  have c1 := zG_weak c0 (lv' := lqv ((Int32.ofNat (4 * k)) + Int32.ofInt 4)) (fun q hq => by
    simp only [lqv, List.mem_cons, List.not_mem_nil, or_false] at hq ⊢
    rcases hq with h | h | h | h | h <;> simp [h])
  rw [l_i4] at c1
  exact ⟨μ2, w2, lG_trans (lG_z C a0) (lG_trans hq (lG_trans (lG_z C b0) (lG_trans hr (lG_z C (zG_trans b1 c1))))), lI_next h hk hk1 hF hw2 hI2 (by omega) (by omega) (by omega) (lT_0 (by omega)) (lB_k h.2.2.2.2.2.2.2 h.2.1 (lY_t hY (lY_f hF.2.2.2.2.2.2.1 hF.2.2.2.2.1)) (rKq_t (rKq_K hk1) h20))⟩
