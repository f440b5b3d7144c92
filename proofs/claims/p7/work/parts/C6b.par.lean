/-! ### cls: the answers are alike -/
set_option maxRecDepth 100000 in
set_option maxHeartbeats 8000000 in
theorem lc_parameter {g : zΓ} {x : lE} {L k : Nat} {xs : Nat → Int32} (hg : zg g) (hst : g.2.2.1.stackTraces = false) (C : lC g x L) (hxs : ∀ q, q < L → g.2.2.2.2.2.1 (mx_E + 1 + q) = .int (xs q)) (hL : L ≤ 2048) (hi : 4 * k + 4 ≤ L) {μ : zM} {w : mW} (h : lI k μ w) :
    ∃ (μ' : zM) (w' : mW), lG g x (282, lqv (Int32.ofNat (4 * k)), [], w) (23, lqv (Int32.ofNat (4 * (k + 1))), [], w') ∧ lI (k + 1) μ' w' := by
  have hk : k ≤ 600 := by omega
  have hwl := lI_len h hk
  have hW := mw_L_law
  obtain ⟨x1, ex1⟩ : ∃ n, n = xs (4 * k + 1) := ⟨_, rfl⟩
  obtain ⟨x2, ex2⟩ : ∃ n, n = xs (4 * k + 2) := ⟨_, rfl⟩
  have a0 : zG g 200 mt_L_law (some L) (282, lqv (Int32.ofNat (4 * k)), [], w) (283, lqv (Int32.ofNat (4 * k)), [.ref 0], w) := zl_run hg hW 1 rfl
  have a1 := zl_arg (g := g) (d := 200) (L := L) (xs := xs) (i := 4 * k) (c := 1) (pc := 283) (lv := (lqv (Int32.ofNat (4 * k)))) (st := [.ref 0]) (w := w) hg hxs hL (by omega) rfl rfl rfl rfl rfl rfl rfl
  rw [← ex1] at a1
  have a2 := zl_arg (g := g) (d := 200) (L := L) (xs := xs) (i := 4 * k) (c := 2) (pc := 289) (lv := (lqv (Int32.ofNat (4 * k)))) (st := [.int x1, .ref 0]) (w := w) hg hxs hL (by omega) rfl rfl rfl rfl rfl rfl rfl
  rw [← ex2] at a2
  have a9 : zG g 200 mt_L_law (some L) (295, lqv (Int32.ofNat (4 * k)), [.int x2, .int x1, .ref 0], w) (296, lqv (Int32.ofNat (4 * k)), [.ref 108, .int x2, .int x1, .ref 0], w) := zl_run hg hW 1 rfl
  obtain ⟨kv, μ1, w1, hq, hw1, hk1, hY, ⟨hln, hl2⟩, hres⟩ := lq_parameter hg hst C (x1 := x1) (x2 := x2) (lv := lqv (Int32.ofNat (4 * k))) h.1 hwl
  have b0 : zG g 200 mt_L_law (some L) (299, lqv (Int32.ofNat (4 * k)), [.int kv], w1) (302, (5, .int kv) :: lqv (Int32.ofNat (4 * k)), [.ref 66], w1) := zl_run hg hW 2 rfl
  have b1 := zl_arg (g := g) (d := 200) (L := L) (xs := xs) (i := 4 * k) (c := 1) (pc := 302) (lv := ((5, .int kv) :: lqv (Int32.ofNat (4 * k)))) (st := [.ref 66]) (w := w1) hg hxs hL (by omega) rfl rfl rfl rfl rfl rfl rfl
  rw [← ex1] at b1
  have b2 := zl_arg (g := g) (d := 200) (L := L) (xs := xs) (i := 4 * k) (c := 2) (pc := 308) (lv := ((5, .int kv) :: lqv (Int32.ofNat (4 * k)))) (st := [.int x1, .ref 66]) (w := w1) hg hxs hL (by omega) rfl rfl rfl rfl rfl rfl rfl
  rw [← ex2] at b2
  have e1 := congrFun (hk1.1 66 (by omega) (by omega)) ((29 : Nat) : Int)
  have e3 := h.2.2.1
  have e4 := h.2.2.2.1
  obtain ⟨st', μ2, w2, hr, hw2, ⟨v, rfl, hcase⟩, hF, hI2, h29, h85, h20⟩ := lr_parameter hg C (x1 := x1) (x2 := x2) (lv := (5, .int kv) :: lqv (Int32.ofNat (4 * k))) hw1 (lRI h.2.1 hk1)
  have b6 : zG g 200 mt_L_law (some L) (317, (5, .int kv) :: lqv (Int32.ofNat (4 * k)), [.long v], w2) (320, (6, .long v) :: (5, .int kv) :: lqv (Int32.ofNat (4 * k)), [.ref 66], w2) := zl_run hg hW 2 rfl
  obtain ⟨st3, μ3, w3, hr3, hw3, ⟨t, rfl, ht, hμ3⟩, -, -, -⟩ := lr_thrown hg C (lv := (6, .long v) :: (5, .int kv) :: lqv (Int32.ofNat (4 * k))) hw2 hI2
  subst hμ3
  have e2 := congrFun hF.1 ((4 : Nat) : Int)
  obtain ⟨tt, et, hiff, hov⟩ := lB_pa (a1 := x1.toInt) h.2.2.2.2.2.2.2 (rKq_K hk1)
  have key : (kv = 0 ∧ Int32.ofInt t = 0 ∧ μ1.1 3000108 0 = v.toInt) ∨ (kv = 1 ∧ Int32.ofInt t = 1) ∨ (kv = 2 ∧ Int32.ofInt t = 2) := by
    rcases hres with ⟨rfl, u, hu1, hu2⟩ | ⟨rfl, hno⟩ | ⟨rfl, hyes, hw⟩
    · obtain ⟨hin, hw, hval⟩ := hu2 tt et
      rcases hcase with ⟨q1, q2, q3, q4⟩ | ⟨q1, q2⟩ | ⟨q1, q2, q3⟩
      · exact Or.inl ⟨rfl, by rw [show t = 0 by omega]; rfl, by rw [hu1, hov hin _ u v hval q4]⟩
      · exact absurd (hiff.mp hin) q1
      · exact absurd hw q2
    · rcases hcase with ⟨q1, q2, q3, q4⟩ | ⟨q1, q2⟩ | ⟨q1, q2, q3⟩
      · exact absurd (hiff.mpr q1) (hno tt et)
      · exact Or.inr (Or.inl ⟨rfl, by rw [show t = 1 by omega]; rfl⟩)
      · exact absurd (hiff.mpr q1) (hno tt et)
    · rcases hcase with ⟨q1, q2, q3, q4⟩ | ⟨q1, q2⟩ | ⟨q1, q2, q3⟩
      · exact absurd q2 hw
      · exact absurd (hiff.mp (hyes tt et)) q1
      · exact Or.inr (Or.inr ⟨rfl, by rw [show t = 2 by omega]; rfl⟩)
  have hkt : Int32.ofInt t = kv := by rcases key with ⟨rfl, q, -⟩ | ⟨rfl, q⟩ | ⟨rfl, q⟩ <;> exact q
  have b7 : zG g 200 mt_L_law (some L) (323, (6, .long v) :: (5, .int kv) :: lqv (Int32.ofNat (4 * k)), [.int (Int32.ofInt t)], w3) (325, (6, .long v) :: (5, .int kv) :: lqv (Int32.ofNat (4 * k)), [.int kv, .int (Int32.ofInt t)], w3) := zl_run hg hW 1 rfl
  have b8 : zG g 200 mt_L_law (some L) (325, (6, .long v) :: (5, .int kv) :: lqv (Int32.ofNat (4 * k)), [.int kv, .int (Int32.ofInt t)], w3) (330, (6, .long v) :: (5, .int kv) :: lqv (Int32.ofNat (4 * k)), [], w3) := zl_br (i := .if_icmp .eq 5) hg hW rfl rfl rfl (by
    show (match mx_dec g.1 .eq (.int (Int32.ofInt t)) (.int kv) with | some true => some (330, ([] : List Value)) | some false => some (328, []) | none => none) = _
    simp [mx_dec, mx_cmp, hkt])
  have b9 : zG g 200 mt_L_law (some L) (330, (6, .long v) :: (5, .int kv) :: lqv (Int32.ofNat (4 * k)), [], w3) (332, (6, .long v) :: (5, .int kv) :: lqv (Int32.ofNat (4 * k)), [.int kv], w3) := zl_run hg hW 1 rfl
  have nz : ∀ b : Bool, mx_cmp .ne kv 0 = b → zG g 200 mt_L_law (some L) (332, (6, .long v) :: (5, .int kv) :: lqv (Int32.ofNat (4 * k)), [.int kv], w3) (if b then 346 else 335, (6, .long v) :: (5, .int kv) :: lqv (Int32.ofNat (4 * k)), [], w3) := fun b hb => zl_br (i := .ifCond .ne 14) hg hW rfl rfl rfl (by
    show (match mx_dec g.1 .ne (.int kv) (.int 0) with | some true => some (346, ([] : List Value)) | some false => some (335, []) | none => none) = _
    simp only [mx_dec, hb]
    cases b <;> rfl)
  have c0 : zG g 200 mt_L_law (some L) (346, (6, .long v) :: (5, .int kv) :: lqv (Int32.ofNat (4 * k)), [], w3) (23, [(4, .int ((Int32.ofNat (4 * k)) + Int32.ofInt 4)), (6, .long v), (5, .int kv), (3, .ref 108), (2, .ref 66), (1, .ref 0), (0, .ref 1048576)], [], w3) := zl_run hg hW 3 rfl
  have c1 := zG_weak c0 (lv' := lqv ((Int32.ofNat (4 * k)) + Int32.ofInt 4)) (fun q hq => by
    simp only [lqv, List.mem_cons, List.not_mem_nil, or_false] at hq ⊢
    rcases hq with h | h | h | h | h <;> simp [h])
  rw [l_i4] at c1
  have mid : zG g 200 mt_L_law (some L) (332, (6, .long v) :: (5, .int kv) :: lqv (Int32.ofNat (4 * k)), [.int kv], w3) (346, (6, .long v) :: (5, .int kv) :: lqv (Int32.ofNat (4 * k)), [], w3) := by
    cases hb : mx_cmp .ne kv 0 with
    | true => exact nz true hb
    | false =>
      have hkv : kv = 0 := by simpa [mx_cmp] using hb
      have d1 := nz false hb
      have d2 : zG g 200 mt_L_law (some L) (335, (6, .long v) :: (5, .int kv) :: lqv (Int32.ofNat (4 * k)), [], w3) (337, (6, .long v) :: (5, .int kv) :: lqv (Int32.ofNat (4 * k)), [.int 0, .ref 108], w3) := zl_run hg hW 2 rfl
      obtain ⟨a, h8⟩ := z108 hw3
      have ha : mx_g a 0 = v := by
        apply Int64.toInt_inj.1
        rw [show (mx_g a 0).toInt = μ3.1 3000108 0 from hw3.1.2.1 108 1 a h8 0 (by decide), hF.2.2.2.2.2.2.2]
        rcases key with ⟨-, -, q⟩ | ⟨q, -⟩ | ⟨q, -⟩
        · exact q
        · rw [hkv] at q; cases q
        · rw [hkv] at q; cases q
      have d3 : zG g 200 mt_L_law (some L) (337, (6, .long v) :: (5, .int kv) :: lqv (Int32.ofNat (4 * k)), [.int 0, .ref 108], w3) (337 + 1, (6, .long v) :: (5, .int kv) :: lqv (Int32.ofNat (4 * k)), [.long v], w3) := zl_mem (i := .laload) hg hW rfl rfl rfl rfl (by
        simp only [mx_mem, h8]
        show (if Nat.beq 1 1 && mx_in 0 1 then some ([Value.long (mx_g a 0)], w3) else none) = _
        rw [ha]
        rfl)
      have d4 : zG g 200 mt_L_law (some L) (338, (6, .long v) :: (5, .int kv) :: lqv (Int32.ofNat (4 * k)), [.long v], w3) (341, (6, .long v) :: (5, .int kv) :: lqv (Int32.ofNat (4 * k)), [.int (lg_cmp v v)], w3) := zl_run hg hW 2 rfl
      rw [l_cmp] at d4
      have d5 : zG g 200 mt_L_law (some L) (341, (6, .long v) :: (5, .int kv) :: lqv (Int32.ofNat (4 * k)), [.int 0], w3) (346, (6, .long v) :: (5, .int kv) :: lqv (Int32.ofNat (4 * k)), [], w3) := zl_br (i := .ifCond .eq 5) hg hW rfl rfl rfl rfl
      exact zG_trans d1 (zG_trans d2 (zG_trans d3 (zG_trans d4 d5)))
  refine ⟨μ3, w3, ?_, lI_next h hk hk1 hF hw3 hI2 (by omega) (by omega) (by omega) (lT_k h.2.2.2.2.2.2.1 hk1 hl2 hF h85 hln) (lB_k h.2.2.2.2.2.2.2 (lY_t hY (lY_f hF.2.2.2.2.2.2.1)) (rKq_t (rKq_K hk1) h20))⟩
  exact lG_trans (lG_z C (zG_trans a0 (zG_trans a1 (zG_trans a2 a9)))) (lG_trans hq (lG_trans (lG_z C (zG_trans b0 (zG_trans b1 b2))) (lG_trans hr (lG_trans (lG_z C b6) (lG_trans hr3 (lG_z C (zG_trans b7 (zG_trans b8 (zG_trans b9 (zG_trans mid c1))))))))))
