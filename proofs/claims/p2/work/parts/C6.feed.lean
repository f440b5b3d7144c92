/-! ### feed: the answers are alike -/
def lfx (a b : Int32) : Int64 := (a.toInt64 <<< ((Int8.ofInt 32).toInt32.toInt64 &&& 63)) ||| (b.toInt64 &&& Int64.ofInt 4294967295)
theorem l_cmp (a : Int64) : lg_cmp a a = 0 := by simp [lg_cmp]
set_option maxRecDepth 100000 in
set_option maxHeartbeats 8000000 in
theorem lc_feed {g : zΓ} {x : lE} {L k : Nat} {xs : Nat → Int32} (hg : zg g) (hst : g.2.2.1.stackTraces = false) (C : lC g x L) (hxs : ∀ q, q < L → g.2.2.2.2.2.1 (mx_E + 1 + q) = .int (xs q)) (hL : L ≤ 2048) (hi : 4 * k + 4 ≤ L) {μ : zM} {w : mW} (h : lI k μ w) :
    ∃ (μ' : zM) (w' : mW), lG g x (104, lqv (Int32.ofNat (4 * k)), [], w) (23, lqv (Int32.ofNat (4 * (k + 1))), [], w') ∧ lI (k + 1) μ' w' := by
  have hk : k ≤ 600 := by omega
  have hwl := lI_len h hk
  have hW := mw_L_law
  obtain ⟨n, en⟩ : ∃ n, n = xs (4 * k + 3) := ⟨_, rfl⟩
  obtain ⟨x1, ex1⟩ : ∃ n, n = xs (4 * k + 1) := ⟨_, rfl⟩
  obtain ⟨x2, ex2⟩ : ∃ n, n = xs (4 * k + 2) := ⟨_, rfl⟩
  have arg : ∀ (c pc : Nat) (lv : List (Nat × Value)) (st : List Value) (w : mW), c ≤ 3 → lv.lookup 0 = some (.ref 1048576) → lv.lookup 4 = some (.int (Int32.ofNat (4 * k))) → mt_L_law.2.2.2.2.1.lookup pc = some (.aload_n 0) → mt_L_law.2.2.2.2.1.lookup (pc + 1) = some (.iload 4) → mt_L_law.2.2.2.2.1.lookup (pc + 3) = some (.iconst (c : Int)) → mt_L_law.2.2.2.2.1.lookup (pc + 4) = some .iadd → mt_L_law.2.2.2.2.1.lookup (pc + 5) = some .iaload → zG g 200 mt_L_law (some L) (pc, lv, st, w) (pc + 6, lv, .int (xs (4 * k + c)) :: st, w) :=
    fun c pc lv st w hc v0 v4 l0 l1 l3 l4 l5 => zl_arg hg hxs hL (by omega) v0 v4 l0 l1 l3 l4 l5
  have a0 : zG g 200 mt_L_law (some L) (104, lqv (Int32.ofNat (4 * k)), [], w) (105, lqv (Int32.ofNat (4 * k)), [.ref 0], w) := zl_run hg hW 1 rfl
  have a1 := arg 1 105 (lqv (Int32.ofNat (4 * k))) [.ref 0] w (by omega) rfl rfl rfl rfl rfl rfl rfl
  rw [← ex1] at a1
  have a2 : zG g 200 mt_L_law (some L) (111, lqv (Int32.ofNat (4 * k)), [.int x1, .ref 0], w) (115, lqv (Int32.ofNat (4 * k)), [.long (x1.toInt64 <<< ((Int8.ofInt 32).toInt32.toInt64 &&& 63)), .ref 0], w) := zl_run hg hW 3 rfl
  have a3 := arg 2 115 (lqv (Int32.ofNat (4 * k))) [.long (x1.toInt64 <<< ((Int8.ofInt 32).toInt32.toInt64 &&& 63)), .ref 0] w (by omega) rfl rfl rfl rfl rfl rfl rfl
  rw [← ex2] at a3
  have a4 : zG g 200 mt_L_law (some L) (121, lqv (Int32.ofNat (4 * k)), [.int x2, .long (x1.toInt64 <<< ((Int8.ofInt 32).toInt32.toInt64 &&& 63)), .ref 0], w) (127, lqv (Int32.ofNat (4 * k)), [.long (lfx x1 x2), .ref 0], w) := zl_run hg hW 4 rfl
  have a5 := arg 3 127 (lqv (Int32.ofNat (4 * k))) [.long (lfx x1 x2), .ref 0] w (by omega) rfl rfl rfl rfl rfl rfl rfl
  rw [← en] at a5
  have a6 : zG g 200 mt_L_law (some L) (133, lqv (Int32.ofNat (4 * k)), [.int n, .long (lfx x1 x2), .ref 0], w) (134, lqv (Int32.ofNat (4 * k)), [.ref 108, .int n, .long (lfx x1 x2), .ref 0], w) := zl_run hg hW 1 rfl
  obtain ⟨kv, μ1, w1, hq, hw1, hk1, hres⟩ := lq_feed hg hst C (X := lfx x1 x2) (n := n) (lv := lqv (Int32.ofNat (4 * k))) h.1 hwl
  have b0 : zG g 200 mt_L_law (some L) (137, lqv (Int32.ofNat (4 * k)), [.int kv], w1) (140, (5, .int kv) :: lqv (Int32.ofNat (4 * k)), [.ref 66], w1) := zl_run hg hW 2 rfl
  have b1 := arg 1 140 ((5, .int kv) :: lqv (Int32.ofNat (4 * k))) [.ref 66] w1 (by omega) rfl rfl rfl rfl rfl rfl rfl
  rw [← ex1] at b1
  have b2 : zG g 200 mt_L_law (some L) (146, (5, .int kv) :: lqv (Int32.ofNat (4 * k)), [.int x1, .ref 66], w1) (150, (5, .int kv) :: lqv (Int32.ofNat (4 * k)), [.long (x1.toInt64 <<< ((Int8.ofInt 32).toInt32.toInt64 &&& 63)), .ref 66], w1) := zl_run hg hW 3 rfl
  have b3 := arg 2 150 ((5, .int kv) :: lqv (Int32.ofNat (4 * k))) [.long (x1.toInt64 <<< ((Int8.ofInt 32).toInt32.toInt64 &&& 63)), .ref 66] w1 (by omega) rfl rfl rfl rfl rfl rfl rfl
  rw [← ex2] at b3
  have b4 : zG g 200 mt_L_law (some L) (156, (5, .int kv) :: lqv (Int32.ofNat (4 * k)), [.int x2, .long (x1.toInt64 <<< ((Int8.ofInt 32).toInt32.toInt64 &&& 63)), .ref 66], w1) (162, (5, .int kv) :: lqv (Int32.ofNat (4 * k)), [.long (lfx x1 x2), .ref 66], w1) := zl_run hg hW 4 rfl
  have b5 := arg 3 162 ((5, .int kv) :: lqv (Int32.ofNat (4 * k))) [.long (lfx x1 x2), .ref 66] w1 (by omega) rfl rfl rfl rfl rfl rfl rfl
  rw [← en] at b5
  have e1 := congrFun (hk1.1 66 (by omega) (by omega)) ((29 : Nat) : Int)
  have e3 := h.2.2.1
  have e4 := h.2.2.2.1
  obtain ⟨st', μ2, w2, hr, hw2, ⟨v, rfl, hv, hcase⟩, hF, hI2, -⟩ := lr_feed hg C (X := lfx x1 x2) (x2 := n) (lv := (5, .int kv) :: lqv (Int32.ofNat (4 * k))) hw1 (lRI h.2.1 hk1) (by omega)
  have b6 : zG g 200 mt_L_law (some L) (171, (5, .int kv) :: lqv (Int32.ofNat (4 * k)), [.int (Int32.ofInt v)], w2) (174, (6, .int (Int32.ofInt v)) :: (5, .int kv) :: lqv (Int32.ofNat (4 * k)), [.ref 66], w2) := zl_run hg hW 2 rfl
  obtain ⟨st3, μ3, w3, hr3, hw3, ⟨t, rfl, ht, hμ3⟩, -, -, -⟩ := lr_thrown hg C (lv := (6, .int (Int32.ofInt v)) :: (5, .int kv) :: lqv (Int32.ofNat (4 * k))) hw2 hI2
  subst hμ3
  have b7 : zG g 200 mt_L_law (some L) (177, (6, .int (Int32.ofInt v)) :: (5, .int kv) :: lqv (Int32.ofNat (4 * k)), [.int (Int32.ofInt t)], w3) (179, (6, .int (Int32.ofInt v)) :: (5, .int kv) :: lqv (Int32.ofNat (4 * k)), [.int kv, .int (Int32.ofInt t)], w3) := zl_run hg hW 1 rfl
  have e2 := congrFun hF.1 ((4 : Nat) : Int)
  have hkt : Int32.ofInt t = kv ∧ μ3.1 66 ((29 : Nat) : Int) = μ3.1 1 ((4 : Nat) : Int) ∧ (0 ≤ μ3.1 1 ((4 : Nat) : Int) ∧ μ3.1 1 ((4 : Nat) : Int) ≤ 800) := by
    rcases hres with ⟨rfl, r1, r2, r3, -⟩ | ⟨rfl, r1, r2⟩ | ⟨rfl, r1, r2, r3⟩
    · rcases hcase with ⟨q1, q2, q3, q4, q5, q6⟩ | ⟨q1, q2, q3, q4, q5⟩ | ⟨q1, q2, q3⟩
      · exact ⟨by rw [show t = 0 by omega]; rfl, by omega, by omega⟩
      · omega
      · omega
    · rcases hcase with ⟨q1, q2, q3, q4, q5, q6⟩ | ⟨q1, q2, q3, q4, q5⟩ | ⟨q1, q2, q3⟩
      · omega
      · omega
      · exact ⟨by rw [show t = 1 by omega]; rfl, by omega, by omega⟩
    · rcases hcase with ⟨q1, q2, q3, q4, q5, q6⟩ | ⟨q1, q2, q3, q4, q5⟩ | ⟨q1, q2, q3⟩
      · omega
      · exact ⟨by rw [show t = 2 by omega]; rfl, by omega, by omega⟩
      · omega
  obtain ⟨hkt, h29, hlen⟩ := hkt
  have b8 : zG g 200 mt_L_law (some L) (179, (6, .int (Int32.ofInt v)) :: (5, .int kv) :: lqv (Int32.ofNat (4 * k)), [.int kv, .int (Int32.ofInt t)], w3) (184, (6, .int (Int32.ofInt v)) :: (5, .int kv) :: lqv (Int32.ofNat (4 * k)), [], w3) := zl_br (i := .if_icmp .eq 5) hg hW rfl rfl rfl (by
    show (match mx_dec g.1 .eq (.int (Int32.ofInt t)) (.int kv) with | some true => some (184, ([] : List Value)) | some false => some (182, []) | none => none) = _
    simp [mx_dec, mx_cmp, hkt])
  have b9 : zG g 200 mt_L_law (some L) (184, (6, .int (Int32.ofInt v)) :: (5, .int kv) :: lqv (Int32.ofNat (4 * k)), [], w3) (186, (6, .int (Int32.ofInt v)) :: (5, .int kv) :: lqv (Int32.ofNat (4 * k)), [.int kv], w3) := zl_run hg hW 1 rfl
  have nz : ∀ b : Bool, mx_cmp .ne kv 0 = b → zG g 200 mt_L_law (some L) (186, (6, .int (Int32.ofInt v)) :: (5, .int kv) :: lqv (Int32.ofNat (4 * k)), [.int kv], w3) (if b then 201 else 189, (6, .int (Int32.ofInt v)) :: (5, .int kv) :: lqv (Int32.ofNat (4 * k)), [], w3) := fun b hb => zl_br (i := .ifCond .ne 15) hg hW rfl rfl rfl (by
    show (match mx_dec g.1 .ne (.int kv) (.int 0) with | some true => some (201, ([] : List Value)) | some false => some (189, []) | none => none) = _
    simp only [mx_dec, hb]
    cases b <;> rfl)
  have c0 : zG g 200 mt_L_law (some L) (201, (6, .int (Int32.ofInt v)) :: (5, .int kv) :: lqv (Int32.ofNat (4 * k)), [], w3) (23, [(4, .int ((Int32.ofNat (4 * k)) + Int32.ofInt 4)), (6, .int (Int32.ofInt v)), (5, .int kv), (3, .ref 108), (2, .ref 66), (1, .ref 0), (0, .ref 1048576)], [], w3) := zl_run hg hW 3 rfl
  have c1 := zG_weak c0 (lv' := lqv ((Int32.ofNat (4 * k)) + Int32.ofInt 4)) (fun q hq => by
    simp only [lqv, List.mem_cons, List.not_mem_nil, or_false] at hq ⊢
    rcases hq with h | h | h | h | h <;> simp [h])
  rw [l_i4] at c1
  have mid : zG g 200 mt_L_law (some L) (186, (6, .int (Int32.ofInt v)) :: (5, .int kv) :: lqv (Int32.ofNat (4 * k)), [.int kv], w3) (201, (6, .int (Int32.ofInt v)) :: (5, .int kv) :: lqv (Int32.ofNat (4 * k)), [], w3) := by
    cases hb : mx_cmp .ne kv 0 with
    | true => exact nz true hb
    | false =>
      have hkv : kv = 0 := by simpa [mx_cmp] using hb
      have d1 := nz false hb
      have d2 : zG g 200 mt_L_law (some L) (189, (6, .int (Int32.ofInt v)) :: (5, .int kv) :: lqv (Int32.ofNat (4 * k)), [], w3) (191, (6, .int (Int32.ofInt v)) :: (5, .int kv) :: lqv (Int32.ofNat (4 * k)), [.int 0, .ref 108], w3) := zl_run hg hW 2 rfl
      obtain ⟨a, h8⟩ := z108 hw3
      have ha : mx_g a 0 = (Int32.ofInt v).toInt64 := by
        apply Int64.toInt_inj.1
        rw [hw3.1.2 a h8]
        have e5 := congrFun hF.2.2.2.2.2 0
        rcases hres with ⟨-, r1, r2, r3, r4⟩ | ⟨r0, r1, r2⟩ | ⟨r0, r1, r2, r3⟩
        · rcases hcase with ⟨q1, q2, q3, q4, q5, q6⟩ | ⟨q1, q2, q3, q4, q5⟩ | ⟨q1, q2, q3⟩
          · rw [e5, r4, show v = μ.1 1 ((4 : Nat) : Int) + n.toInt by omega]
          · omega
          · omega
        · rw [hkv] at r0; cases r0
        · rw [hkv] at r0; cases r0
      have d3 : zG g 200 mt_L_law (some L) (191, (6, .int (Int32.ofInt v)) :: (5, .int kv) :: lqv (Int32.ofNat (4 * k)), [.int 0, .ref 108], w3) (191 + 1, (6, .int (Int32.ofInt v)) :: (5, .int kv) :: lqv (Int32.ofNat (4 * k)), [.long (Int32.ofInt v).toInt64], w3) := zl_mem (i := .laload) hg hW rfl rfl rfl rfl (by
        simp only [mx_mem, h8]
        show (if Nat.beq 1 1 && mx_in 0 1 then some ([Value.long (mx_g a 0)], w3) else none) = _
        rw [ha]
        rfl)
      have d4 : zG g 200 mt_L_law (some L) (192, (6, .int (Int32.ofInt v)) :: (5, .int kv) :: lqv (Int32.ofNat (4 * k)), [.long (Int32.ofInt v).toInt64], w3) (196, (6, .int (Int32.ofInt v)) :: (5, .int kv) :: lqv (Int32.ofNat (4 * k)), [.int (lg_cmp (Int32.ofInt v).toInt64 (Int32.ofInt v).toInt64)], w3) := zl_run hg hW 3 rfl
      rw [l_cmp] at d4
      have d5 : zG g 200 mt_L_law (some L) (196, (6, .int (Int32.ofInt v)) :: (5, .int kv) :: lqv (Int32.ofNat (4 * k)), [.int 0], w3) (201, (6, .int (Int32.ofInt v)) :: (5, .int kv) :: lqv (Int32.ofNat (4 * k)), [], w3) := zl_br (i := .ifCond .eq 5) hg hW rfl rfl rfl rfl
      exact zG_trans d1 (zG_trans d2 (zG_trans d3 (zG_trans d4 d5)))
  refine ⟨μ3, w3, ?_, lI_next h hk hk1 hF hw3 hI2 (by omega) h29 hlen⟩
  exact lG_trans (lG_z C (zG_trans a0 (zG_trans a1 (zG_trans a2 (zG_trans a3 (zG_trans a4 (zG_trans a5 a6))))))) (lG_trans hq (lG_trans (lG_z C (zG_trans b0 (zG_trans b1 (zG_trans b2 (zG_trans b3 (zG_trans b4 b5)))))) (lG_trans hr (lG_trans (lG_z C b6) (lG_trans hr3 (lG_z C (zG_trans b7 (zG_trans b8 (zG_trans b9 (zG_trans mid c1)))))))))) 
