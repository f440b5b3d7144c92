/-! ### ask: the answers are alike -/
set_option maxRecDepth 100000 in
set_option maxHeartbeats 8000000 in
theorem lc_ask {g : zΓ} {x : lE} {L k : Nat} {xs : Nat → Int32} (hg : zg g) (hst : g.2.2.1.stackTraces = false) (C : lC g x L) (hxs : ∀ q, q < L → g.2.2.2.2.2.1 (mx_E + 1 + q) = .int (xs q)) (hL : L ≤ 2048) (hi : 4 * k + 4 ≤ L) {μ : zM} {w : mW} (h : lI k μ w) :
    ∃ (μ' : zM) (w' : mW), lG g x (362, lqv (Int32.ofNat (4 * k)), [], w) (23, lqv (Int32.ofNat (4 * (k + 1))), [], w') ∧ lI (k + 1) μ' w' := by
  have hk : k ≤ 600 := by omega
  have hwl := lI_len h hk
  have hW := mw_L_law
  obtain ⟨x1, ex1⟩ : ∃ n, n = xs (4 * k + 1) := ⟨_, rfl⟩
  have a0 : zG g 200 mt_L_law (some L) (362, lqv (Int32.ofNat (4 * k)), [], w) (363, lqv (Int32.ofNat (4 * k)), [.ref 0], w) := zl_run hg hW 1 rfl
  have a1 := zl_arg (g := g) (d := 200) (L := L) (xs := xs) (i := 4 * k) (c := 1) (pc := 363) (lv := (lqv (Int32.ofNat (4 * k)))) (st := [.ref 0]) (w := w) hg hxs hL (by omega) rfl rfl rfl rfl rfl rfl rfl
  rw [← ex1] at a1
  have a9 : zG g 200 mt_L_law (some L) (369, lqv (Int32.ofNat (4 * k)), [.int x1, .ref 0], w) (370, lqv (Int32.ofNat (4 * k)), [.ref 108, .int x1, .ref 0], w) := zl_run hg hW 1 rfl
  obtain ⟨B, hB1, hB2, hB3⟩ := h.2.2.2.2.2.2.2
  obtain ⟨kv, μ1, w1, hq, hw1, hk1, hY, hln, hl2, hres⟩ := lq_ask hg hst C (x1 := x1) (lv := lqv (Int32.ofNat (4 * k))) h.1 hwl (fun i a b => (h.2.2.2.2.2.2.1 i a b).2) h.2.2.2.1 (lC4_a hB1) hB3 hB2.2.2.2 (yQg_mk hB3.1)
  have b0 : zG g 200 mt_L_law (some L) (373, lqv (Int32.ofNat (4 * k)), [.int kv], w1) (376, (5, .int kv) :: lqv (Int32.ofNat (4 * k)), [.ref 66], w1) := zl_run hg hW 2 rfl
  have b1 := zl_arg (g := g) (d := 200) (L := L) (xs := xs) (i := 4 * k) (c := 1) (pc := 376) (lv := ((5, .int kv) :: lqv (Int32.ofNat (4 * k)))) (st := [.ref 66]) (w := w1) hg hxs hL (by omega) rfl rfl rfl rfl rfl rfl rfl
  rw [← ex1] at b1
  have e1 := congrFun (hk1.1 66 (by omega) (by omega)) ((29 : Nat) : Int)
  have e3 := h.2.2.1
  have e4 := h.2.2.2.1
  have hR1 := lR4_k hB2 h.2.1 (rKq_K hk1) hB3.1
  obtain ⟨st', μ2, w2, hr, hw2, ⟨v, rfl, hcase⟩, hF, hI2, h29, h85, h20⟩ := lr_ask hg C (x1 := x1) (lv := (5, .int kv) :: lqv (Int32.ofNat (4 * k))) hw1 (lRI h.2.1 hk1) (by omega) hR1.1 hB3.1 ⟨hR1.2.2.1, hR1.2.1, hR1.2.2.2, hB3.2.2.2.2.1⟩
  have b6 : zG g 200 mt_L_law (some L) (385, (5, .int kv) :: lqv (Int32.ofNat (4 * k)), [.int (Int32.ofInt v)], w2) (388, (6, .int (Int32.ofInt v)) :: (5, .int kv) :: lqv (Int32.ofNat (4 * k)), [.ref 66], w2) := zl_run hg hW 2 rfl
  obtain ⟨st3, μ3, w3, hr3, hw3, ⟨t, rfl, ht, hμ3⟩, -, -, -⟩ := lr_thrown hg C (lv := (6, .int (Int32.ofInt v)) :: (5, .int kv) :: lqv (Int32.ofNat (4 * k))) hw2 hI2
  subst hμ3
  have e2 := congrFun hF.1 ((4 : Nat) : Int)
  have key : (kv = 0 ∧ Int32.ofInt t = 0 ∧ μ1.1 3000108 0 = (Int32.ofInt v).toInt64.toInt) ∨ (kv = 1 ∧ Int32.ofInt t = 1) := by
    rcases hres with ⟨rfl, hin, u, y, hu1, hu2⟩ | ⟨rfl, hno⟩
    · obtain ⟨q1, y', q2⟩ := hcase.2 hin
      have huv : u = v := (yAk_one (yAk_q (T := (μ.1 2, μ.1 1 ((4 : Nat) : Int))) (T' := (μ1.1 85, μ1.1 66 ((29 : Nat) : Int))) ⟨show μ.1 1 ((4 : Nat) : Int) = μ1.1 66 ((29 : Nat) : Int) by omega, fun i a b => show μ.1 2 i = μ1.1 85 i by rw [hk1.1 85 (by decide) (by decide)]; exact (h.2.2.2.2.2.2.1 i a b).1⟩ (show 0 ≤ μ.1 1 ((4 : Nat) : Int) by omega) hu2) q2).2
      exact Or.inl ⟨rfl, by rw [show t = 0 by omega]; rfl, by rw [hu1, huv]⟩
    · have q1 := hcase.1 hno
      exact Or.inr ⟨rfl, by rw [show t = 1 by omega]; rfl⟩
  have hkt : Int32.ofInt t = kv := by rcases key with ⟨rfl, q, -⟩ | ⟨rfl, q⟩ <;> exact q
  have b7 : zG g 200 mt_L_law (some L) (391, (6, .int (Int32.ofInt v)) :: (5, .int kv) :: lqv (Int32.ofNat (4 * k)), [.int (Int32.ofInt t)], w3) (393, (6, .int (Int32.ofInt v)) :: (5, .int kv) :: lqv (Int32.ofNat (4 * k)), [.int kv, .int (Int32.ofInt t)], w3) := zl_run hg hW 1 rfl
  have b8 : zG g 200 mt_L_law (some L) (393, (6, .int (Int32.ofInt v)) :: (5, .int kv) :: lqv (Int32.ofNat (4 * k)), [.int kv, .int (Int32.ofInt t)], w3) (398, (6, .int (Int32.ofInt v)) :: (5, .int kv) :: lqv (Int32.ofNat (4 * k)), [], w3) := zl_br (i := .if_icmp .eq 5) hg hW rfl rfl rfl (by
    show (match mx_dec g.1 .eq (.int (Int32.ofInt t)) (.int kv) with | some true => some (398, ([] : List Value)) | some false => some (396, []) | none => none) = _
    simp [mx_dec, mx_cmp, hkt])
  have b9 : zG g 200 mt_L_law (some L) (398, (6, .int (Int32.ofInt v)) :: (5, .int kv) :: lqv (Int32.ofNat (4 * k)), [], w3) (400, (6, .int (Int32.ofInt v)) :: (5, .int kv) :: lqv (Int32.ofNat (4 * k)), [.int kv], w3) := zl_run hg hW 1 rfl
  have nz : ∀ b : Bool, mx_cmp .ne kv 0 = b → zG g 200 mt_L_law (some L) (400, (6, .int (Int32.ofInt v)) :: (5, .int kv) :: lqv (Int32.ofNat (4 * k)), [.int kv], w3) (if b then 415 else 403, (6, .int (Int32.ofInt v)) :: (5, .int kv) :: lqv (Int32.ofNat (4 * k)), [], w3) := fun b hb => zl_br (i := .ifCond .ne 15) hg hW rfl rfl rfl (by
    show (match mx_dec g.1 .ne (.int kv) (.int 0) with | some true => some (415, ([] : List Value)) | some false => some (403, []) | none => none) = _
    simp only [mx_dec, hb]
    cases b <;> rfl)
  have c0 : zG g 200 mt_L_law (some L) (415, (6, .int (Int32.ofInt v)) :: (5, .int kv) :: lqv (Int32.ofNat (4 * k)), [], w3) (23, [(4, .int ((Int32.ofNat (4 * k)) + Int32.ofInt 4)), (6, .int (Int32.ofInt v)), (5, .int kv), (3, .ref 108), (2, .ref 66), (1, .ref 0), (0, .ref 1048576)], [], w3) := zl_run hg hW 3 rfl
  have c1 := zG_weak c0 (lv' := lqv ((Int32.ofNat (4 * k)) + Int32.ofInt 4)) (fun q hq => by
    simp only [lqv, List.mem_cons, List.not_mem_nil, or_false] at hq ⊢
    rcases hq with h | h | h | h | h <;> simp [h])
  rw [l_i4] at c1
  have mid : zG g 200 mt_L_law (some L) (400, (6, .int (Int32.ofInt v)) :: (5, .int kv) :: lqv (Int32.ofNat (4 * k)), [.int kv], w3) (415, (6, .int (Int32.ofInt v)) :: (5, .int kv) :: lqv (Int32.ofNat (4 * k)), [], w3) := by
    cases hb : mx_cmp .ne kv 0 with
    | true => exact nz true hb
    | false =>
      have hkv : kv = 0 := by simpa [mx_cmp] using hb
      have d1 := nz false hb
      have d2 : zG g 200 mt_L_law (some L) (403, (6, .int (Int32.ofInt v)) :: (5, .int kv) :: lqv (Int32.ofNat (4 * k)), [], w3) (405, (6, .int (Int32.ofInt v)) :: (5, .int kv) :: lqv (Int32.ofNat (4 * k)), [.int 0, .ref 108], w3) := zl_run hg hW 2 rfl
      obtain ⟨a, h8⟩ := z108 hw3
      have ha : mx_g a 0 = (Int32.ofInt v).toInt64 := by
        apply Int64.toInt_inj.1
        rw [show (mx_g a 0).toInt = μ3.1 3000108 0 from hw3.1.2.1 108 1 a h8 0 (by decide), hF.2.2.2.2.2.2.2]
        rcases key with ⟨-, -, q⟩ | ⟨q, -⟩
        · exact q
        · rw [hkv] at q; cases q
      have d3 : zG g 200 mt_L_law (some L) (405, (6, .int (Int32.ofInt v)) :: (5, .int kv) :: lqv (Int32.ofNat (4 * k)), [.int 0, .ref 108], w3) (405 + 1, (6, .int (Int32.ofInt v)) :: (5, .int kv) :: lqv (Int32.ofNat (4 * k)), [.long (Int32.ofInt v).toInt64], w3) := zl_mem (i := .laload) hg hW rfl rfl rfl rfl (by
        simp only [mx_mem, h8]
        show (if Nat.beq 1 1 && mx_in 0 1 then some ([Value.long (mx_g a 0)], w3) else none) = _
        rw [ha]
        rfl)
      have d4 : zG g 200 mt_L_law (some L) (406, (6, .int (Int32.ofInt v)) :: (5, .int kv) :: lqv (Int32.ofNat (4 * k)), [.long (Int32.ofInt v).toInt64], w3) (410, (6, .int (Int32.ofInt v)) :: (5, .int kv) :: lqv (Int32.ofNat (4 * k)), [.int (lg_cmp (Int32.ofInt v).toInt64 (Int32.ofInt v).toInt64)], w3) := zl_run hg hW 3 rfl
      rw [l_cmp] at d4
      have d5 : zG g 200 mt_L_law (some L) (410, (6, .int (Int32.ofInt v)) :: (5, .int kv) :: lqv (Int32.ofNat (4 * k)), [.int 0], w3) (415, (6, .int (Int32.ofInt v)) :: (5, .int kv) :: lqv (Int32.ofNat (4 * k)), [], w3) := zl_br (i := .ifCond .eq 5) hg hW rfl rfl rfl rfl
      exact zG_trans d1 (zG_trans d2 (zG_trans d3 (zG_trans d4 d5)))
  have hT : lT μ3 := by
    by_cases hc : 0 ≤ x1.toInt ∧ x1.toInt ≤ 3000
    · exact lT_0 (by have := hln.1 hc; omega)
    · exact lT_k h.2.2.2.2.2.2.1 hk1 (hl2 (by omega)).1 hF h85 (hln.2 (by omega))
  have hBn : lB μ3 := lB_k h.2.2.2.2.2.2.2 h.2.1 (lY_t hY (lY_f hF.2.2.2.2.2.2.1 hF.2.2.2.2.1)) (rKq_t (rKq_K hk1) h20)
  clear hres hcase key
  refine ⟨μ3, w3, ?_, lI_next h hk hk1 hF hw3 hI2 (by omega) (by omega) (by omega) hT hBn⟩
  exact lG_trans (lG_z C (zG_trans a0 (zG_trans a1 a9))) (lG_trans hq (lG_trans (lG_z C (zG_trans b0 b1)) (lG_trans hr (lG_trans (lG_z C b6) (lG_trans hr3 (lG_z C (zG_trans b7 (zG_trans b8 (zG_trans b9 (zG_trans mid c1))))))))))
