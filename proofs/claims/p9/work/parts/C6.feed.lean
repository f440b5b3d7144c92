/-! ### feed: the answers are alike -/
def lfx (a b : Int32) : Int64 := (a.toInt64 <<< ((Int8.ofInt 32).toInt32.toInt64 &&& 63)) ||| (b.toInt64 &&& Int64.ofInt 4294967295)
theorem l_cmp (a : Int64) : lg_cmp a a = 0 := by simp [lg_cmp]
set_option maxRecDepth 100000 in
set_option maxHeartbeats 8000000 in
theorem lc_feed {g : zΓ} {x : lE} {L k : Nat} {xs : Nat → Int32} (hg : zg g) (hst : g.2.2.1.stackTraces = false) (C : lC g x L) (hxs : ∀ q, q < L → g.2.2.2.2.2.1 (mx_E + 1 + q) = .int (xs q)) (hL : L ≤ 2048) (hi : 4 * k + 4 ≤ L) {μ : zM} {w : mW} (h : lI k μ w) :
    ∃ (μ' : zM) (w' : mW), lG g x (104, lqv (Int32.ofNat (4 * k)), [], w) (23, lqv (Int32.ofNat (4 * (k + 1))), [], w') ∧ lI (k + 1) μ' w' := by
  have hk : k ≤ 600 := by omega
  have hwl := lI_len h hk
  have hW := mw_L_law
  obtain ⟨n, en⟩ : ∃ n, n = xs (4 * k + 3) := ⟨_, rfl⟩
  obtain ⟨x1, ex1⟩ : ∃ n, n = xs (4 * k + 1) := ⟨_, rfl⟩
  obtain ⟨x2, ex2⟩ : ∃ n, n = xs (4 * k + 2) := ⟨_, rfl⟩
  have arg : ∀ (c pc : Nat) (lv : List (Nat × Value)) (st : List Value) (w : mW), c ≤ 3 → lv.lookup 0 = some (.ref 1048576) → lv.lookup 4 = some (.int (Int32.ofNat (4 * k))) → mt_L_law.2.2.2.2.1.lookup pc = some (.aload_n 0) → mt_L_law.2.2.2.2.1.lookup (pc + 1) = some (.iload 4) → mt_L_law.2.2.2.2.1.lookup (pc + 3) = some (.iconst (c : Int)) → mt_L_law.2.2.2.2.1.lookup (pc + 4) = some .iadd → mt_L_law.2.2.2.2.1.lookup (pc + 5) = some .iaload → zG g 200 mt_L_law (some L) (pc, lv, st, w) (pc + 6, lv, .int (xs (4 * k + c)) :: st, w) :=
    fun c pc lv st w hc v0 v4 l0 l1 l3 l4 l5 => zl_arg hg hxs hL (by omega) v0 v4 l0 l1 l3 l4 l5
  have a0 : zG g 200 mt_L_law (some L) (104, lqv (Int32.ofNat (4 * k)), [], w) (105, lqv (Int32.ofNat (4 * k)), [.ref 0], w) := zl_run hg hW 1 rfl
  have a1 := arg 1 105 (lqv (Int32.ofNat (4 * k))) [.ref 0] w (by omega) rfl rfl rfl rfl rfl rfl rfl
  rw [← ex1] at a1
  have a2 : zG g 200 mt_L_law (some L) (111, lqv (Int32.ofNat (4 * k)), [.int x1, .ref 0], w) (115, lqv (Int32.ofNat (4 * k)), [.long (x1.toInt64 <<< ((Int8.ofInt 32).toInt32.toInt64 &&& 63)), .ref 0], w) := zl_run hg hW 3 rfl
  have a3 := arg 2 115 (lqv (Int32.ofNat (4 * k))) [.long (x1.toInt64 <<< ((Int8.ofInt 32).toInt32.toInt64 &&& 63)), .ref 0] w (by omega) rfl rfl rfl rfl rfl rfl rfl
  rw [← ex2] at a3
  have a4 : zG g 200 mt_L_law (some L) (121, lqv (Int32.ofNat (4 * k)), [.int x2, .long (x1.toInt64 <<< ((Int8.ofInt 32).toInt32.toInt64 &&& 63)), .ref 0], w) (127, lqv (Int32.ofNat (4 * k)), [.long (lfx x1 x2), .ref 0], w) := zl_run hg hW 4 rfl
  have a5 := arg 3 127 (lqv (Int32.ofNat (4 * k))) [.long (lfx x1 x2), .ref 0] w (by omega) rfl rfl rfl rfl rfl rfl rfl
  rw [← en] at a5
  have a6 : zG g 200 mt_L_law (some L) (133, lqv (Int32.ofNat (4 * k)), [.int n, .long (lfx x1 x2), .ref 0], w) (134, lqv (Int32.ofNat (4 * k)), [.ref 108, .int n, .long (lfx x1 x2), .ref 0], w) := zl_run hg hW 1 rfl
  obtain ⟨kv, μ1, w1, hq, hw1, hk1, hY, hyes, hno⟩ := lq_feed hg hst C (X := lfx x1 x2) (n := n) (lv := lqv (Int32.ofNat (4 * k))) h.1 hwl h.2.2.2.1.1
  have b0 : zG g 200 mt_L_law (some L) (137, lqv (Int32.ofNat (4 * k)), [.int kv], w1) (140, (5, .int kv) :: lqv (Int32.ofNat (4 * k)), [.ref 66], w1) := zl_run hg hW 2 rfl
  have b1 := arg 1 140 ((5, .int kv) :: lqv (Int32.ofNat (4 * k))) [.ref 66] w1 (by omega) rfl rfl rfl rfl rfl rfl rfl
  rw [← ex1] at b1
  have b2 : zG g 200 mt_L_law (some L) (146, (5, .int kv) :: lqv (Int32.ofNat (4 * k)), [.int x1, .ref 66], w1) (150, (5, .int kv) :: lqv (Int32.ofNat (4 * k)), [.long (x1.toInt64 <<< ((Int8.ofInt 32).toInt32.toInt64 &&& 63)), .ref 66], w1) := zl_run hg hW 3 rfl
  have b3 := arg 2 150 ((5, .int kv) :: lqv (Int32.ofNat (4 * k))) [.long (x1.toInt64 <<< ((Int8.ofInt 32).toInt32.toInt64 &&& 63)), .ref 66] w1 (by omega) rfl rfl rfl rfl rfl rfl rfl
  rw [← ex2] at b3
  have b4 : zG g 200 mt_L_law (some L) (156, (5, .int kv) :: lqv (Int32.ofNat (4 * k)), [.int x2, .long (x1.toInt64 <<< ((Int8.ofInt 32).toInt32.toInt64 &&& 63)), .ref 66], w1) (162, (5, .int kv) :: lqv (Int32.ofNat (4 * k)), [.long (lfx x1 x2), .ref 66], w1) := zl_run hg hW 4 rfl
  have b5 := arg 3 162 ((5, .int kv) :: lqv (Int32.ofNat (4 * k))) [.long (lfx x1 x2), .ref 66] w1 (by omega) rfl rfl rfl rfl rfl rfl rfl
  rw [← en] at b5
  have e1 := congrFun (hk1.1 66 (by omega) (by omega)) ((29 : Nat) : Int)
  have e3 := h.2.2.1
  have e4 := h.2.2.2.1
  obtain ⟨st', μ2, w2, hr, hw2, ⟨v, rfl⟩, hF, hI2, h20, ⟨hr1, hr2⟩, hr3, hr4⟩ := lr_feed hg C (X := lfx x1 x2) (x2 := n) (lv := (5, .int kv) :: lqv (Int32.ofNat (4 * k))) hw1 (lRI h.2.1 hk1) (by omega)
  have e2 := congrFun hF.1 ((4 : Nat) : Int)
  have c0 : zG g 200 mt_L_law (some L) (171, (5, .int kv) :: lqv (Int32.ofNat (4 * k)), [.int (Int32.ofInt v)], w2) (23, [(4, .int ((Int32.ofNat (4 * k)) + Int32.ofInt 4)), (6, .int (Int32.ofInt v)), (5, .int kv), (3, .ref 108), (2, .ref 66), (1, .ref 0), (0, .ref 1048576)], [], w2) := zl_run hg hW 4 rfl
  have c1 := zG_weak c0 (lv' := lqv ((Int32.ofNat (4 * k)) + Int32.ofInt 4)) (fun q hq => by
    simp only [lqv, List.mem_cons, List.not_mem_nil, or_false] at hq ⊢
    rcases hq with h | h | h | h | h <;> simp [h])
  rw [l_i4] at c1
  have g1 : μ1.1 66 ((29 : Nat) : Int) = μ.1 1 ((4 : Nat) : Int) := by omega
  have hT := h.2.2.2.2.2.2.1
  have fin : μ2.1 66 ((29 : Nat) : Int) = μ2.1 1 ((4 : Nat) : Int) ∧ (0 ≤ μ2.1 1 ((4 : Nat) : Int) ∧ μ2.1 1 ((4 : Nat) : Int) ≤ 800) ∧ lT μ2 := by
    by_cases hc : 1 ≤ n.toInt ∧ n.toInt ≤ 8 ∧ μ.1 1 ((4 : Nat) : Int) + n.toInt ≤ 800
    · have q := hyes hc
      have q1 := hr1 (by rw [g1]; exact hc)
      have q3 := hr3 (by rw [g1]; exact hc)
      rw [g1, hk1.1 85 (by decide) (by decide)] at q3
      have q2 := q.1
      refine ⟨by omega, by omega, fun i a b => ?_⟩
      rw [hF.2.2.2.2.2.1, q.2.1, q3]
      have b' : i < μ.1 1 ((4 : Nat) : Int) + n.toInt := by rw [hF.1, q.1] at b; exact b
      have E := rtp_e (x := lfx x1 x2) hc.2.1 (fun j a b => (hT j a b).1) i a b'
      rw [E]
      exact ⟨rfl, rtp_b (fun j a b => by rw [← (hT j a b).1]; exact (hT j a b).2) (rby_b _) i a b'⟩
    · have q := hno hc
      have q1 := hr2 (by rw [g1]; exact hc)
      have q3 := hr4 (by rw [g1]; exact hc)
      have q2 := q.1
      exact ⟨by omega, by omega, lT_k hT hk1 q.2.1 hF q3 q.1⟩
  have hZ : lZ μ μ1 := by
    by_cases hc : 1 ≤ n.toInt ∧ n.toInt ≤ 8 ∧ μ.1 1 ((4 : Nat) : Int) + n.toInt ≤ 800
    · exact (hyes hc).2.2
    · exact (hno hc).2.2
  refine ⟨μ2, w2, ?_, lI_next h hk hk1 hF hw2 hI2 (by omega) fin.1 fin.2.1 fin.2.2 (lB_k h.2.2.2.2.2.2.2 h.2.1 (lY_t hY (lY_f hF.2.2.2.2.2.2.1 hF.2.2.2.2.1)) (rKq_t (rKq_K hk1) h20.1))⟩
  exact lG_trans (lG_z C (zG_trans a0 (zG_trans a1 (zG_trans a2 (zG_trans a3 (zG_trans a4 (zG_trans a5 a6))))))) (lG_trans hq (lG_trans (lG_z C (zG_trans b0 (zG_trans b1 (zG_trans b2 (zG_trans b3 (zG_trans b4 b5)))))) (lG_trans hr (lG_z C c1))))
