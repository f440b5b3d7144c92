/-! ### the cases of the law -/
theorem l_i4 {k : Nat} : Int32.ofNat (4 * k) + Int32.ofInt 4 = Int32.ofNat (4 * (k + 1)) := by
  show Int32.ofInt ((4 * k : Nat) : Int) + Int32.ofInt 4 = Int32.ofInt ((4 * (k + 1) : Nat) : Int)
  rw [z_add]
  congr 1
set_option maxRecDepth 100000 in
theorem lx_read {g : zΓ} {x : lE} {L : Nat} (hg : zg g) (C : lC g x L) {w : mW} {μ : zM} {lv : List (Nat × Value)} (hw : zRep μ w) (hq : zcq μ) :
    ∃ (st' : List zV) (μ' : zM) (w' : mW), lG g x (205, lv, [.ref 0], w) (208, lv, st'.map zt, w') ∧ zRep μ' w' ∧ (∃ v : Int, st' = [.inl v]) ∧ lK μ μ' ∧ μ'.1 1 ((4 : Nat) : Int) = 0 := by
  obtain ⟨st', μ', w', h1, h2, h3, h4⟩ := zl_call (sc := some L) (lv := lv) (pc := 205) (ix := 62) (md := 0) (i := .invokevirtual 62) (st := [.inr (.inr (0, 0))]) (k := fun st' μ' => (∃ v : Int, st' = [.inl v]) ∧ lK μ μ' ∧ μ'.1 1 ((4 : Nat) : Int) = 0) hg mw_L_law (Or.inl ⟨rfl, rfl⟩) rfl hw (List.forall_mem_cons.mpr ⟨by show 0 < 1048576; omega, fun _ q => by cases q⟩)
    ⟨zk_X8_read, zm_X8_read hg 200 (by omega), rfl, hq, fun v μ' z _ _ e => ⟨⟨v, rfl⟩, lK_f (zle_lf z), e⟩⟩
  exact ⟨st', μ', w', lG_z C h1, h2, h4⟩
set_option maxRecDepth 100000 in
theorem lx_fault {g : zΓ} {x : lE} {L : Nat} (hg : zg g) (C : lC g x L) {w : mW} {μ : zM} {lv : List (Nat × Value)} (hw : zRep μ w) :
    ∃ (st' : List zV) (μ' : zM) (w' : mW), lG g x (218, lv, [.ref 0], w) (221, lv, st'.map zt, w') ∧ zRep μ' w' ∧ (∃ v : Int, st' = [.inl v]) ∧ lK μ μ' ∧ μ'.1 1 ((4 : Nat) : Int) = μ.1 1 ((4 : Nat) : Int) := by
  obtain ⟨st', μ', w', h1, h2, h3, h4⟩ := zl_call (sc := some L) (lv := lv) (pc := 218) (ix := 66) (md := 0) (i := .invokevirtual 66) (st := [.inr (.inr (0, 0))]) (k := fun st' μ' => (∃ v : Int, st' = [.inl v]) ∧ lK μ μ' ∧ μ'.1 1 ((4 : Nat) : Int) = μ.1 1 ((4 : Nat) : Int)) hg mw_L_law (Or.inl ⟨rfl, rfl⟩) rfl hw (List.forall_mem_cons.mpr ⟨by show 0 < 1048576; omega, fun _ q => by cases q⟩)
    ⟨zk_X8_fault, zm_X8_fault hg 200 (by omega), rfl, fun v _ _ => ⟨⟨v, rfl⟩, lK_r μ, rfl⟩⟩
  exact ⟨st', μ', w', lG_z C h1, h2, h4⟩
set_option maxRecDepth 100000 in
theorem lx_above {g : zΓ} {x : lE} {L : Nat} (hg : zg g) (C : lC g x L) {w : mW} {μ : zM} {lv : List (Nat × Value)} (hw : zRep μ w) :
    ∃ (st' : List zV) (μ' : zM) (w' : mW), lG g x (447, lv, [.ref 0], w) (450, lv, st'.map zt, w') ∧ zRep μ' w' ∧ (∃ v : Int, st' = [.inl v]) ∧ lK μ μ' ∧ μ'.1 1 ((4 : Nat) : Int) = 0 := by
  obtain ⟨st', μ', w', h1, h2, h3, h4⟩ := zl_call (sc := some L) (lv := lv) (pc := 447) (ix := 90) (md := 0) (i := .invokevirtual 90) (st := [.inr (.inr (0, 0))]) (k := fun st' μ' => (∃ v : Int, st' = [.inl v]) ∧ lK μ μ' ∧ μ'.1 1 ((4 : Nat) : Int) = 0) hg mw_L_law (Or.inl ⟨rfl, rfl⟩) rfl hw (List.forall_mem_cons.mpr ⟨by show 0 < 1048576; omega, fun _ q => by cases q⟩)
    ⟨zk_X8_above, zm_X8_above hg 200 (by omega), rfl, fun v μ' z _ _ e => ⟨⟨v, rfl⟩, lK_f (zle_lf z.1), e⟩⟩
  exact ⟨st', μ', w', lG_z C h1, h2, h4⟩
set_option maxRecDepth 100000 in
theorem lx_clear {g : zΓ} {x : lE} {L : Nat} (hg : zg g) (C : lC g x L) {w : mW} {μ : zM} {lv : List (Nat × Value)} (hw : zRep μ w) (hq : zcq μ) :
    ∃ (st' : List zV) (μ' : zM) (w' : mW), lG g x (528, lv, [.ref 0], w) (531, lv, st'.map zt, w') ∧ zRep μ' w' ∧ (st' = []) ∧ lK μ μ' ∧ μ'.1 1 ((4 : Nat) : Int) = 0 := by
  obtain ⟨st', μ', w', h1, h2, h3, h4⟩ := zl_call (sc := some L) (lv := lv) (pc := 528) (ix := 100) (md := 0) (i := .invokevirtual 100) (st := [.inr (.inr (0, 0))]) (k := fun st' μ' => (st' = []) ∧ lK μ μ' ∧ μ'.1 1 ((4 : Nat) : Int) = 0) hg mw_L_law (Or.inl ⟨rfl, rfl⟩) rfl hw (List.forall_mem_cons.mpr ⟨by show 0 < 1048576; omega, fun _ q => by cases q⟩)
    ⟨zk_X8_clear, zm_X8_clear hg 200 (by omega), rfl, hq, fun μ' z e => ⟨rfl, lK_f (zle_lf z), e⟩⟩
  exact ⟨st', μ', w', lG_z C h1, h2, h4⟩
set_option maxRecDepth 100000 in
set_option maxHeartbeats 4000000 in
theorem lc_cls {g : zΓ} {x : lE} {L k : Nat} {xs : Nat → Int32} (hg : zg g) (hst : g.2.2.1.stackTraces = false) (C : lC g x L) (hxs : ∀ q, q < L → g.2.2.2.2.2.1 (mx_E + 1 + q) = .int (xs q)) (hL : L ≤ 2048) (hi : 4 * k + 4 ≤ L) {μ : zM} {w : mW} (h : lI k μ w) :
    ∃ (μ' : zM) (w' : mW), lG g x (230, lqv (Int32.ofNat (4 * k)), [], w) (23, lqv (Int32.ofNat (4 * (k + 1))), [], w') ∧ lI (k + 1) μ' w' := by
  have hk : k ≤ 600 := by omega
  have hwl := lI_len h hk
  have a0 : zG g 200 mt_L_law (some L) (230, lqv (Int32.ofNat (4 * k)), [], w) (231, lqv (Int32.ofNat (4 * k)), [.ref 0], w) := zl_run hg mw_L_law 1 rfl
  have a1 := zl_arg (g := g) (d := 200) (L := L) (xs := xs) (i := 4 * k) (c := 1) (pc := 231) (lv := (lqv (Int32.ofNat (4 * k)))) (st := [.ref 0]) (w := w) hg hxs hL (by omega) rfl rfl rfl rfl rfl rfl rfl
  have a2 := zl_arg (g := g) (d := 200) (L := L) (xs := xs) (i := 4 * k) (c := 2) (pc := 237) (lv := (lqv (Int32.ofNat (4 * k)))) (st := [.int (xs (4 * k + 1)), .ref 0]) (w := w) hg hxs hL (by omega) rfl rfl rfl rfl rfl rfl rfl
  have a9 : zG g 200 mt_L_law (some L) (243, lqv (Int32.ofNat (4 * k)), [.int (xs (4 * k + 2)), .int (xs (4 * k + 1)), .ref 0], w) (244, lqv (Int32.ofNat (4 * k)), [.ref 108, .int (xs (4 * k + 2)), .int (xs (4 * k + 1)), .ref 0], w) := zl_run hg mw_L_law 1 rfl
  obtain ⟨kv, μ1, w1, hq, hw1, hk1, hln⟩ := lq_cls hg hst C (x1 := xs (4 * k + 1)) (x2 := xs (4 * k + 2)) (lv := lqv (Int32.ofNat (4 * k))) h.1 hwl
  have b0 : zG g 200 mt_L_law (some L) (247, lqv (Int32.ofNat (4 * k)), [.int kv], w1) (250, ((5, .int kv) :: lqv (Int32.ofNat (4 * k))), [.ref 66], w1) := zl_run hg mw_L_law 2 rfl
  have b1 := zl_arg (g := g) (d := 200) (L := L) (xs := xs) (i := 4 * k) (c := 1) (pc := 250) (lv := ((5, .int kv) :: lqv (Int32.ofNat (4 * k)))) (st := [.ref 66]) (w := w1) hg hxs hL (by omega) rfl rfl rfl rfl rfl rfl rfl
  have b2 := zl_arg (g := g) (d := 200) (L := L) (xs := xs) (i := 4 * k) (c := 2) (pc := 256) (lv := ((5, .int kv) :: lqv (Int32.ofNat (4 * k)))) (st := [.int (xs (4 * k + 1)), .ref 66]) (w := w1) hg hxs hL (by omega) rfl rfl rfl rfl rfl rfl rfl
  obtain ⟨st', μ2, w2, hr, hw2, ⟨v, rfl⟩, hF, hI2, h29⟩ := lr_cls hg C (x1 := xs (4 * k + 1)) (x2 := xs (4 * k + 2)) (lv := ((5, .int kv) :: lqv (Int32.ofNat (4 * k)))) hw1 (lRI h.2.1 hk1)
  have c0 : zG g 200 mt_L_law (some L) (265, ((5, .int kv) :: lqv (Int32.ofNat (4 * k))), [.long v], w2) (23, [(4, .int ((Int32.ofNat (4 * k)) + Int32.ofInt 4)), (6, .long v), (5, .int kv), (3, .ref 108), (2, .ref 66), (1, .ref 0), (0, .ref 1048576)], [], w2) := zl_run hg mw_L_law 4 rfl
  have c1 := zG_weak c0 (lv' := lqv ((Int32.ofNat (4 * k)) + Int32.ofInt 4)) (fun q hq => by
    simp only [lqv, List.mem_cons, List.not_mem_nil, or_false] at hq ⊢
    rcases hq with h | h | h | h | h <;> simp [h])
  rw [l_i4] at c1
  have e1 := congrFun (hk1.1 66 (by omega) (by omega)) ((29 : Nat) : Int)
  have e2 := congrFun hF.1 ((4 : Nat) : Int)
  have e3 := h.2.2.1
  have e4 := h.2.2.2.1
  exact ⟨μ2, w2, (lG_trans (lG_z C a0) (lG_trans (lG_z C a1) (lG_trans (lG_z C a2) (lG_trans (lG_z C a9) (lG_trans hq (lG_trans (lG_z C b0) (lG_trans (lG_z C b1) (lG_trans (lG_z C b2) (lG_trans hr (lG_z C c1)))))))))), lI_next h hk hk1 hF hw2 hI2 (by omega) (by omega) (by omega)⟩
set_option maxRecDepth 100000 in
set_option maxHeartbeats 4000000 in
theorem lc_isAbove {g : zΓ} {x : lE} {L k : Nat} {xs : Nat → Int32} (hg : zg g) (hst : g.2.2.1.stackTraces = false) (C : lC g x L) (hxs : ∀ q, q < L → g.2.2.2.2.2.1 (mx_E + 1 + q) = .int (xs q)) (hL : L ≤ 2048) (hi : 4 * k + 4 ≤ L) {μ : zM} {w : mW} (h : lI k μ w) :
    ∃ (μ' : zM) (w' : mW), lG g x (270, lqv (Int32.ofNat (4 * k)), [], w) (23, lqv (Int32.ofNat (4 * (k + 1))), [], w') ∧ lI (k + 1) μ' w' := by
  have hk : k ≤ 600 := by omega
  have hwl := lI_len h hk
  have a0 : zG g 200 mt_L_law (some L) (270, lqv (Int32.ofNat (4 * k)), [], w) (271, lqv (Int32.ofNat (4 * k)), [.ref 0], w) := zl_run hg mw_L_law 1 rfl
  have a1 := zl_arg (g := g) (d := 200) (L := L) (xs := xs) (i := 4 * k) (c := 1) (pc := 271) (lv := (lqv (Int32.ofNat (4 * k)))) (st := [.ref 0]) (w := w) hg hxs hL (by omega) rfl rfl rfl rfl rfl rfl rfl
  have a2 := zl_arg (g := g) (d := 200) (L := L) (xs := xs) (i := 4 * k) (c := 2) (pc := 277) (lv := (lqv (Int32.ofNat (4 * k)))) (st := [.int (xs (4 * k + 1)), .ref 0]) (w := w) hg hxs hL (by omega) rfl rfl rfl rfl rfl rfl rfl
  have a9 : zG g 200 mt_L_law (some L) (283, lqv (Int32.ofNat (4 * k)), [.int (xs (4 * k + 2)), .int (xs (4 * k + 1)), .ref 0], w) (284, lqv (Int32.ofNat (4 * k)), [.ref 108, .int (xs (4 * k + 2)), .int (xs (4 * k + 1)), .ref 0], w) := zl_run hg mw_L_law 1 rfl
  obtain ⟨kv, μ1, w1, hq, hw1, hk1, hln⟩ := lq_isAbove hg hst C (x1 := xs (4 * k + 1)) (x2 := xs (4 * k + 2)) (lv := lqv (Int32.ofNat (4 * k))) h.1 hwl
  have b0 : zG g 200 mt_L_law (some L) (287, lqv (Int32.ofNat (4 * k)), [.int kv], w1) (290, ((5, .int kv) :: lqv (Int32.ofNat (4 * k))), [.ref 66], w1) := zl_run hg mw_L_law 2 rfl
  have b1 := zl_arg (g := g) (d := 200) (L := L) (xs := xs) (i := 4 * k) (c := 1) (pc := 290) (lv := ((5, .int kv) :: lqv (Int32.ofNat (4 * k)))) (st := [.ref 66]) (w := w1) hg hxs hL (by omega) rfl rfl rfl rfl rfl rfl rfl
  have b2 := zl_arg (g := g) (d := 200) (L := L) (xs := xs) (i := 4 * k) (c := 2) (pc := 296) (lv := ((5, .int kv) :: lqv (Int32.ofNat (4 * k)))) (st := [.int (xs (4 * k + 1)), .ref 66]) (w := w1) hg hxs hL (by omega) rfl rfl rfl rfl rfl rfl rfl
  obtain ⟨st', μ2, w2, hr, hw2, ⟨v, rfl⟩, hF, hI2, h29⟩ := lr_isAbove hg C (x1 := xs (4 * k + 1)) (x2 := xs (4 * k + 2)) (lv := ((5, .int kv) :: lqv (Int32.ofNat (4 * k)))) hw1 (lRI h.2.1 hk1)
  have c0 : zG g 200 mt_L_law (some L) (305, ((5, .int kv) :: lqv (Int32.ofNat (4 * k))), [.int (Int32.ofInt v)], w2) (23, [(4, .int ((Int32.ofNat (4 * k)) + Int32.ofInt 4)), (6, .int (Int32.ofInt v)), (5, .int kv), (3, .ref 108), (2, .ref 66), (1, .ref 0), (0, .ref 1048576)], [], w2) := zl_run hg mw_L_law 4 rfl
  have c1 := zG_weak c0 (lv' := lqv ((Int32.ofNat (4 * k)) + Int32.ofInt 4)) (fun q hq => by
    simp only [lqv, List.mem_cons, List.not_mem_nil, or_false] at hq ⊢
    rcases hq with h | h | h | h | h <;> simp [h])
  rw [l_i4] at c1
  have e1 := congrFun (hk1.1 66 (by omega) (by omega)) ((29 : Nat) : Int)
  have e2 := congrFun hF.1 ((4 : Nat) : Int)
  have e3 := h.2.2.1
  have e4 := h.2.2.2.1
  exact ⟨μ2, w2, (lG_trans (lG_z C a0) (lG_trans (lG_z C a1) (lG_trans (lG_z C a2) (lG_trans (lG_z C a9) (lG_trans hq (lG_trans (lG_z C b0) (lG_trans (lG_z C b1) (lG_trans (lG_z C b2) (lG_trans hr (lG_z C c1)))))))))), lI_next h hk hk1 hF hw2 hI2 (by omega) (by omega) (by omega)⟩
set_option maxRecDepth 100000 in
set_option maxHeartbeats 4000000 in
theorem lc_parameter {g : zΓ} {x : lE} {L k : Nat} {xs : Nat → Int32} (hg : zg g) (hst : g.2.2.1.stackTraces = false) (C : lC g x L) (hxs : ∀ q, q < L → g.2.2.2.2.2.1 (mx_E + 1 + q) = .int (xs q)) (hL : L ≤ 2048) (hi : 4 * k + 4 ≤ L) {μ : zM} {w : mW} (h : lI k μ w) :
    ∃ (μ' : zM) (w' : mW), lG g x (310, lqv (Int32.ofNat (4 * k)), [], w) (23, lqv (Int32.ofNat (4 * (k + 1))), [], w') ∧ lI (k + 1) μ' w' := by
  have hk : k ≤ 600 := by omega
  have hwl := lI_len h hk
  have a0 : zG g 200 mt_L_law (some L) (310, lqv (Int32.ofNat (4 * k)), [], w) (311, lqv (Int32.ofNat (4 * k)), [.ref 0], w) := zl_run hg mw_L_law 1 rfl
  have a1 := zl_arg (g := g) (d := 200) (L := L) (xs := xs) (i := 4 * k) (c := 1) (pc := 311) (lv := (lqv (Int32.ofNat (4 * k)))) (st := [.ref 0]) (w := w) hg hxs hL (by omega) rfl rfl rfl rfl rfl rfl rfl
  have a2 := zl_arg (g := g) (d := 200) (L := L) (xs := xs) (i := 4 * k) (c := 2) (pc := 317) (lv := (lqv (Int32.ofNat (4 * k)))) (st := [.int (xs (4 * k + 1)), .ref 0]) (w := w) hg hxs hL (by omega) rfl rfl rfl rfl rfl rfl rfl
  have a9 : zG g 200 mt_L_law (some L) (323, lqv (Int32.ofNat (4 * k)), [.int (xs (4 * k + 2)), .int (xs (4 * k + 1)), .ref 0], w) (324, lqv (Int32.ofNat (4 * k)), [.ref 108, .int (xs (4 * k + 2)), .int (xs (4 * k + 1)), .ref 0], w) := zl_run hg mw_L_law 1 rfl
  obtain ⟨kv, μ1, w1, hq, hw1, hk1, hln⟩ := lq_parameter hg hst C (x1 := xs (4 * k + 1)) (x2 := xs (4 * k + 2)) (lv := lqv (Int32.ofNat (4 * k))) h.1 hwl
  have b0 : zG g 200 mt_L_law (some L) (327, lqv (Int32.ofNat (4 * k)), [.int kv], w1) (330, ((5, .int kv) :: lqv (Int32.ofNat (4 * k))), [.ref 66], w1) := zl_run hg mw_L_law 2 rfl
  have b1 := zl_arg (g := g) (d := 200) (L := L) (xs := xs) (i := 4 * k) (c := 1) (pc := 330) (lv := ((5, .int kv) :: lqv (Int32.ofNat (4 * k)))) (st := [.ref 66]) (w := w1) hg hxs hL (by omega) rfl rfl rfl rfl rfl rfl rfl
  have b2 := zl_arg (g := g) (d := 200) (L := L) (xs := xs) (i := 4 * k) (c := 2) (pc := 336) (lv := ((5, .int kv) :: lqv (Int32.ofNat (4 * k)))) (st := [.int (xs (4 * k + 1)), .ref 66]) (w := w1) hg hxs hL (by omega) rfl rfl rfl rfl rfl rfl rfl
  obtain ⟨st', μ2, w2, hr, hw2, ⟨v, rfl⟩, hF, hI2, h29⟩ := lr_parameter hg C (x1 := xs (4 * k + 1)) (x2 := xs (4 * k + 2)) (lv := ((5, .int kv) :: lqv (Int32.ofNat (4 * k)))) hw1 (lRI h.2.1 hk1)
  have c0 : zG g 200 mt_L_law (some L) (345, ((5, .int kv) :: lqv (Int32.ofNat (4 * k))), [.long v], w2) (23, [(4, .int ((Int32.ofNat (4 * k)) + Int32.ofInt 4)), (6, .long v), (5, .int kv), (3, .ref 108), (2, .ref 66), (1, .ref 0), (0, .ref 1048576)], [], w2) := zl_run hg mw_L_law 4 rfl
  have c1 := zG_weak c0 (lv' := lqv ((Int32.ofNat (4 * k)) + Int32.ofInt 4)) (fun q hq => by
    simp only [lqv, List.mem_cons, List.not_mem_nil, or_false] at hq ⊢
    rcases hq with h | h | h | h | h <;> simp [h])
  rw [l_i4] at c1
  have e1 := congrFun (hk1.1 66 (by omega) (by omega)) ((29 : Nat) : Int)
  have e2 := congrFun hF.1 ((4 : Nat) : Int)
  have e3 := h.2.2.1
  have e4 := h.2.2.2.1
  exact ⟨μ2, w2, (lG_trans (lG_z C a0) (lG_trans (lG_z C a1) (lG_trans (lG_z C a2) (lG_trans (lG_z C a9) (lG_trans hq (lG_trans (lG_z C b0) (lG_trans (lG_z C b1) (lG_trans (lG_z C b2) (lG_trans hr (lG_z C c1)))))))))), lI_next h hk hk1 hF hw2 hI2 (by omega) (by omega) (by omega)⟩
set_option maxRecDepth 100000 in
set_option maxHeartbeats 4000000 in
theorem lc_way {g : zΓ} {x : lE} {L k : Nat} {xs : Nat → Int32} (hg : zg g) (hst : g.2.2.1.stackTraces = false) (C : lC g x L) (hxs : ∀ q, q < L → g.2.2.2.2.2.1 (mx_E + 1 + q) = .int (xs q)) (hL : L ≤ 2048) (hi : 4 * k + 4 ≤ L) {μ : zM} {w : mW} (h : lI k μ w) :
    ∃ (μ' : zM) (w' : mW), lG g x (350, lqv (Int32.ofNat (4 * k)), [], w) (23, lqv (Int32.ofNat (4 * (k + 1))), [], w') ∧ lI (k + 1) μ' w' := by
  have hk : k ≤ 600 := by omega
  have hwl := lI_len h hk
  have a0 : zG g 200 mt_L_law (some L) (350, lqv (Int32.ofNat (4 * k)), [], w) (351, lqv (Int32.ofNat (4 * k)), [.ref 0], w) := zl_run hg mw_L_law 1 rfl
  have a1 := zl_arg (g := g) (d := 200) (L := L) (xs := xs) (i := 4 * k) (c := 1) (pc := 351) (lv := (lqv (Int32.ofNat (4 * k)))) (st := [.ref 0]) (w := w) hg hxs hL (by omega) rfl rfl rfl rfl rfl rfl rfl
  have a2 := zl_arg (g := g) (d := 200) (L := L) (xs := xs) (i := 4 * k) (c := 2) (pc := 357) (lv := (lqv (Int32.ofNat (4 * k)))) (st := [.int (xs (4 * k + 1)), .ref 0]) (w := w) hg hxs hL (by omega) rfl rfl rfl rfl rfl rfl rfl
  have a9 : zG g 200 mt_L_law (some L) (363, lqv (Int32.ofNat (4 * k)), [.int (xs (4 * k + 2)), .int (xs (4 * k + 1)), .ref 0], w) (364, lqv (Int32.ofNat (4 * k)), [.ref 108, .int (xs (4 * k + 2)), .int (xs (4 * k + 1)), .ref 0], w) := zl_run hg mw_L_law 1 rfl
  obtain ⟨kv, μ1, w1, hq, hw1, hk1, hln⟩ := lq_way hg hst C (x1 := xs (4 * k + 1)) (x2 := xs (4 * k + 2)) (lv := lqv (Int32.ofNat (4 * k))) h.1 hwl
  have b0 : zG g 200 mt_L_law (some L) (367, lqv (Int32.ofNat (4 * k)), [.int kv], w1) (370, ((5, .int kv) :: lqv (Int32.ofNat (4 * k))), [.ref 66], w1) := zl_run hg mw_L_law 2 rfl
  have b1 := zl_arg (g := g) (d := 200) (L := L) (xs := xs) (i := 4 * k) (c := 1) (pc := 370) (lv := ((5, .int kv) :: lqv (Int32.ofNat (4 * k)))) (st := [.ref 66]) (w := w1) hg hxs hL (by omega) rfl rfl rfl rfl rfl rfl rfl
  have b2 := zl_arg (g := g) (d := 200) (L := L) (xs := xs) (i := 4 * k) (c := 2) (pc := 376) (lv := ((5, .int kv) :: lqv (Int32.ofNat (4 * k)))) (st := [.int (xs (4 * k + 1)), .ref 66]) (w := w1) hg hxs hL (by omega) rfl rfl rfl rfl rfl rfl rfl
  obtain ⟨st', μ2, w2, hr, hw2, ⟨v, rfl⟩, hF, hI2, h29⟩ := lr_way hg C (x1 := xs (4 * k + 1)) (x2 := xs (4 * k + 2)) (lv := ((5, .int kv) :: lqv (Int32.ofNat (4 * k)))) hw1 (lRI h.2.1 hk1)
  have c0 : zG g 200 mt_L_law (some L) (385, ((5, .int kv) :: lqv (Int32.ofNat (4 * k))), [.int (Int32.ofInt v)], w2) (23, [(4, .int ((Int32.ofNat (4 * k)) + Int32.ofInt 4)), (6, .int (Int32.ofInt v)), (5, .int kv), (3, .ref 108), (2, .ref 66), (1, .ref 0), (0, .ref 1048576)], [], w2) := zl_run hg mw_L_law 4 rfl
  have c1 := zG_weak c0 (lv' := lqv ((Int32.ofNat (4 * k)) + Int32.ofInt 4)) (fun q hq => by
    simp only [lqv, List.mem_cons, List.not_mem_nil, or_false] at hq ⊢
    rcases hq with h | h | h | h | h <;> simp [h])
  rw [l_i4] at c1
  have e1 := congrFun (hk1.1 66 (by omega) (by omega)) ((29 : Nat) : Int)
  have e2 := congrFun hF.1 ((4 : Nat) : Int)
  have e3 := h.2.2.1
  have e4 := h.2.2.2.1
  exact ⟨μ2, w2, (lG_trans (lG_z C a0) (lG_trans (lG_z C a1) (lG_trans (lG_z C a2) (lG_trans (lG_z C a9) (lG_trans hq (lG_trans (lG_z C b0) (lG_trans (lG_z C b1) (lG_trans (lG_z C b2) (lG_trans hr (lG_z C c1)))))))))), lI_next h hk hk1 hF hw2 hI2 (by omega) (by omega) (by omega)⟩
set_option maxRecDepth 100000 in
set_option maxHeartbeats 4000000 in
theorem lc_ask {g : zΓ} {x : lE} {L k : Nat} {xs : Nat → Int32} (hg : zg g) (hst : g.2.2.1.stackTraces = false) (C : lC g x L) (hxs : ∀ q, q < L → g.2.2.2.2.2.1 (mx_E + 1 + q) = .int (xs q)) (hL : L ≤ 2048) (hi : 4 * k + 4 ≤ L) {μ : zM} {w : mW} (h : lI k μ w) :
    ∃ (μ' : zM) (w' : mW), lG g x (390, lqv (Int32.ofNat (4 * k)), [], w) (23, lqv (Int32.ofNat (4 * (k + 1))), [], w') ∧ lI (k + 1) μ' w' := by
  have hk : k ≤ 600 := by omega
  have hwl := lI_len h hk
  have a0 : zG g 200 mt_L_law (some L) (390, lqv (Int32.ofNat (4 * k)), [], w) (391, lqv (Int32.ofNat (4 * k)), [.ref 0], w) := zl_run hg mw_L_law 1 rfl
  have a1 := zl_arg (g := g) (d := 200) (L := L) (xs := xs) (i := 4 * k) (c := 1) (pc := 391) (lv := (lqv (Int32.ofNat (4 * k)))) (st := [.ref 0]) (w := w) hg hxs hL (by omega) rfl rfl rfl rfl rfl rfl rfl
  have a9 : zG g 200 mt_L_law (some L) (397, lqv (Int32.ofNat (4 * k)), [.int (xs (4 * k + 1)), .ref 0], w) (398, lqv (Int32.ofNat (4 * k)), [.ref 108, .int (xs (4 * k + 1)), .ref 0], w) := zl_run hg mw_L_law 1 rfl
  obtain ⟨kv, μ1, w1, hq, hw1, hk1, hln⟩ := lq_ask hg hst C (x1 := xs (4 * k + 1)) (lv := lqv (Int32.ofNat (4 * k))) h.1 hwl
  have b0 : zG g 200 mt_L_law (some L) (401, lqv (Int32.ofNat (4 * k)), [.int kv], w1) (404, ((5, .int kv) :: lqv (Int32.ofNat (4 * k))), [.ref 66], w1) := zl_run hg mw_L_law 2 rfl
  have b1 := zl_arg (g := g) (d := 200) (L := L) (xs := xs) (i := 4 * k) (c := 1) (pc := 404) (lv := ((5, .int kv) :: lqv (Int32.ofNat (4 * k)))) (st := [.ref 66]) (w := w1) hg hxs hL (by omega) rfl rfl rfl rfl rfl rfl rfl
  obtain ⟨st', μ2, w2, hr, hw2, ⟨v, rfl⟩, hF, hI2, h29⟩ := lr_ask hg C (x1 := xs (4 * k + 1)) (lv := ((5, .int kv) :: lqv (Int32.ofNat (4 * k)))) hw1 (lRI h.2.1 hk1) (by omega)
  have c0 : zG g 200 mt_L_law (some L) (413, ((5, .int kv) :: lqv (Int32.ofNat (4 * k))), [.int (Int32.ofInt v)], w2) (23, [(4, .int ((Int32.ofNat (4 * k)) + Int32.ofInt 4)), (6, .int (Int32.ofInt v)), (5, .int kv), (3, .ref 108), (2, .ref 66), (1, .ref 0), (0, .ref 1048576)], [], w2) := zl_run hg mw_L_law 4 rfl
  have c1 := zG_weak c0 (lv' := lqv ((Int32.ofNat (4 * k)) + Int32.ofInt 4)) (fun q hq => by
    simp only [lqv, List.mem_cons, List.not_mem_nil, or_false] at hq ⊢
    rcases hq with h | h | h | h | h <;> simp [h])
  rw [l_i4] at c1
  have e1 := congrFun (hk1.1 66 (by omega) (by omega)) ((29 : Nat) : Int)
  have e2 := congrFun hF.1 ((4 : Nat) : Int)
  have e3 := h.2.2.1
  have e4 := h.2.2.2.1
  exact ⟨μ2, w2, (lG_trans (lG_z C a0) (lG_trans (lG_z C a1) (lG_trans (lG_z C a9) (lG_trans hq (lG_trans (lG_z C b0) (lG_trans (lG_z C b1) (lG_trans hr (lG_z C c1)))))))), lI_next h hk hk1 hF hw2 hI2 (by omega) (by omega) (by omega)⟩
set_option maxRecDepth 100000 in
set_option maxHeartbeats 4000000 in
theorem lc_told {g : zΓ} {x : lE} {L k : Nat} {xs : Nat → Int32} (hg : zg g) (hst : g.2.2.1.stackTraces = false) (C : lC g x L) (hxs : ∀ q, q < L → g.2.2.2.2.2.1 (mx_E + 1 + q) = .int (xs q)) (hL : L ≤ 2048) (hi : 4 * k + 4 ≤ L) {μ : zM} {w : mW} (h : lI k μ w) :
    ∃ (μ' : zM) (w' : mW), lG g x (418, lqv (Int32.ofNat (4 * k)), [], w) (23, lqv (Int32.ofNat (4 * (k + 1))), [], w') ∧ lI (k + 1) μ' w' := by
  have hk : k ≤ 600 := by omega
  have hwl := lI_len h hk
  have a0 : zG g 200 mt_L_law (some L) (418, lqv (Int32.ofNat (4 * k)), [], w) (419, lqv (Int32.ofNat (4 * k)), [.ref 0], w) := zl_run hg mw_L_law 1 rfl
  have a1 := zl_arg (g := g) (d := 200) (L := L) (xs := xs) (i := 4 * k) (c := 1) (pc := 419) (lv := (lqv (Int32.ofNat (4 * k)))) (st := [.ref 0]) (w := w) hg hxs hL (by omega) rfl rfl rfl rfl rfl rfl rfl
  have a9 : zG g 200 mt_L_law (some L) (425, lqv (Int32.ofNat (4 * k)), [.int (xs (4 * k + 1)), .ref 0], w) (426, lqv (Int32.ofNat (4 * k)), [.ref 108, .int (xs (4 * k + 1)), .ref 0], w) := zl_run hg mw_L_law 1 rfl
  obtain ⟨kv, μ1, w1, hq, hw1, hk1, hln⟩ := lq_told hg hst C (x1 := xs (4 * k + 1)) (lv := lqv (Int32.ofNat (4 * k))) h.1 hwl
  have b0 : zG g 200 mt_L_law (some L) (429, lqv (Int32.ofNat (4 * k)), [.int kv], w1) (432, ((5, .int kv) :: lqv (Int32.ofNat (4 * k))), [.ref 66], w1) := zl_run hg mw_L_law 2 rfl
  have b1 := zl_arg (g := g) (d := 200) (L := L) (xs := xs) (i := 4 * k) (c := 1) (pc := 432) (lv := ((5, .int kv) :: lqv (Int32.ofNat (4 * k)))) (st := [.ref 66]) (w := w1) hg hxs hL (by omega) rfl rfl rfl rfl rfl rfl rfl
  obtain ⟨st', μ2, w2, hr, hw2, ⟨v, rfl⟩, hF, hI2, h29⟩ := lr_told hg C (x1 := xs (4 * k + 1)) (lv := ((5, .int kv) :: lqv (Int32.ofNat (4 * k)))) hw1 (lRI h.2.1 hk1)
  have c0 : zG g 200 mt_L_law (some L) (441, ((5, .int kv) :: lqv (Int32.ofNat (4 * k))), [.int (Int32.ofInt v)], w2) (23, [(4, .int ((Int32.ofNat (4 * k)) + Int32.ofInt 4)), (6, .int (Int32.ofInt v)), (5, .int kv), (3, .ref 108), (2, .ref 66), (1, .ref 0), (0, .ref 1048576)], [], w2) := zl_run hg mw_L_law 4 rfl
  have c1 := zG_weak c0 (lv' := lqv ((Int32.ofNat (4 * k)) + Int32.ofInt 4)) (fun q hq => by
    simp only [lqv, List.mem_cons, List.not_mem_nil, or_false] at hq ⊢
    rcases hq with h | h | h | h | h <;> simp [h])
  rw [l_i4] at c1
  have e1 := congrFun (hk1.1 66 (by omega) (by omega)) ((29 : Nat) : Int)
  have e2 := congrFun hF.1 ((4 : Nat) : Int)
  have e3 := h.2.2.1
  have e4 := h.2.2.2.1
  exact ⟨μ2, w2, (lG_trans (lG_z C a0) (lG_trans (lG_z C a1) (lG_trans (lG_z C a9) (lG_trans hq (lG_trans (lG_z C b0) (lG_trans (lG_z C b1) (lG_trans hr (lG_z C c1)))))))), lI_next h hk hk1 hF hw2 hI2 (by omega) (by omega) (by omega)⟩
set_option maxRecDepth 100000 in
set_option maxHeartbeats 4000000 in
theorem lc_variable {g : zΓ} {x : lE} {L k : Nat} {xs : Nat → Int32} (hg : zg g) (hst : g.2.2.1.stackTraces = false) (C : lC g x L) (hxs : ∀ q, q < L → g.2.2.2.2.2.1 (mx_E + 1 + q) = .int (xs q)) (hL : L ≤ 2048) (hi : 4 * k + 4 ≤ L) {μ : zM} {w : mW} (h : lI k μ w) :
    ∃ (μ' : zM) (w' : mW), lG g x (459, lqv (Int32.ofNat (4 * k)), [], w) (23, lqv (Int32.ofNat (4 * (k + 1))), [], w') ∧ lI (k + 1) μ' w' := by
  have hk : k ≤ 600 := by omega
  have hwl := lI_len h hk
  have a0 : zG g 200 mt_L_law (some L) (459, lqv (Int32.ofNat (4 * k)), [], w) (460, lqv (Int32.ofNat (4 * k)), [.ref 0], w) := zl_run hg mw_L_law 1 rfl
  have a1 := zl_arg (g := g) (d := 200) (L := L) (xs := xs) (i := 4 * k) (c := 1) (pc := 460) (lv := (lqv (Int32.ofNat (4 * k)))) (st := [.ref 0]) (w := w) hg hxs hL (by omega) rfl rfl rfl rfl rfl rfl rfl
  have a2 := zl_arg (g := g) (d := 200) (L := L) (xs := xs) (i := 4 * k) (c := 2) (pc := 466) (lv := (lqv (Int32.ofNat (4 * k)))) (st := [.int (xs (4 * k + 1)), .ref 0]) (w := w) hg hxs hL (by omega) rfl rfl rfl rfl rfl rfl rfl
  have a9 : zG g 200 mt_L_law (some L) (472, lqv (Int32.ofNat (4 * k)), [.int (xs (4 * k + 2)), .int (xs (4 * k + 1)), .ref 0], w) (473, lqv (Int32.ofNat (4 * k)), [.ref 108, .int (xs (4 * k + 2)), .int (xs (4 * k + 1)), .ref 0], w) := zl_run hg mw_L_law 1 rfl
  obtain ⟨kv, μ1, w1, hq, hw1, hk1, hln⟩ := lq_variable hg hst C (x1 := xs (4 * k + 1)) (x2 := xs (4 * k + 2)) (lv := lqv (Int32.ofNat (4 * k))) h.1 hwl
  have b0 : zG g 200 mt_L_law (some L) (476, lqv (Int32.ofNat (4 * k)), [.int kv], w1) (479, ((5, .int kv) :: lqv (Int32.ofNat (4 * k))), [.ref 66], w1) := zl_run hg mw_L_law 2 rfl
  have b1 := zl_arg (g := g) (d := 200) (L := L) (xs := xs) (i := 4 * k) (c := 1) (pc := 479) (lv := ((5, .int kv) :: lqv (Int32.ofNat (4 * k)))) (st := [.ref 66]) (w := w1) hg hxs hL (by omega) rfl rfl rfl rfl rfl rfl rfl
  have b2 := zl_arg (g := g) (d := 200) (L := L) (xs := xs) (i := 4 * k) (c := 2) (pc := 485) (lv := ((5, .int kv) :: lqv (Int32.ofNat (4 * k)))) (st := [.int (xs (4 * k + 1)), .ref 66]) (w := w1) hg hxs hL (by omega) rfl rfl rfl rfl rfl rfl rfl
  obtain ⟨st', μ2, w2, hr, hw2, ⟨v, rfl⟩, hF, hI2, h29⟩ := lr_variable hg C (x1 := xs (4 * k + 1)) (x2 := xs (4 * k + 2)) (lv := ((5, .int kv) :: lqv (Int32.ofNat (4 * k)))) hw1 (lRI h.2.1 hk1)
  have c0 : zG g 200 mt_L_law (some L) (494, ((5, .int kv) :: lqv (Int32.ofNat (4 * k))), [.int (Int32.ofInt v)], w2) (23, [(4, .int ((Int32.ofNat (4 * k)) + Int32.ofInt 4)), (6, .int (Int32.ofInt v)), (5, .int kv), (3, .ref 108), (2, .ref 66), (1, .ref 0), (0, .ref 1048576)], [], w2) := zl_run hg mw_L_law 4 rfl
  have c1 := zG_weak c0 (lv' := lqv ((Int32.ofNat (4 * k)) + Int32.ofInt 4)) (fun q hq => by
    simp only [lqv, List.mem_cons, List.not_mem_nil, or_false] at hq ⊢
    rcases hq with h | h | h | h | h <;> simp [h])
  rw [l_i4] at c1
  have e1 := congrFun (hk1.1 66 (by omega) (by omega)) ((29 : Nat) : Int)
  have e2 := congrFun hF.1 ((4 : Nat) : Int)
  have e3 := h.2.2.1
  have e4 := h.2.2.2.1
  exact ⟨μ2, w2, (lG_trans (lG_z C a0) (lG_trans (lG_z C a1) (lG_trans (lG_z C a2) (lG_trans (lG_z C a9) (lG_trans hq (lG_trans (lG_z C b0) (lG_trans (lG_z C b1) (lG_trans (lG_z C b2) (lG_trans hr (lG_z C c1)))))))))), lI_next h hk hk1 hF hw2 hI2 (by omega) (by omega) (by omega)⟩
set_option maxRecDepth 100000 in
set_option maxHeartbeats 4000000 in
theorem lc_written {g : zΓ} {x : lE} {L k : Nat} {xs : Nat → Int32} (hg : zg g) (hst : g.2.2.1.stackTraces = false) (C : lC g x L) (hxs : ∀ q, q < L → g.2.2.2.2.2.1 (mx_E + 1 + q) = .int (xs q)) (hL : L ≤ 2048) (hi : 4 * k + 4 ≤ L) {μ : zM} {w : mW} (h : lI k μ w) :
    ∃ (μ' : zM) (w' : mW), lG g x (499, lqv (Int32.ofNat (4 * k)), [], w) (23, lqv (Int32.ofNat (4 * (k + 1))), [], w') ∧ lI (k + 1) μ' w' := by
  have hk : k ≤ 600 := by omega
  have hwl := lI_len h hk
  have a0 : zG g 200 mt_L_law (some L) (499, lqv (Int32.ofNat (4 * k)), [], w) (500, lqv (Int32.ofNat (4 * k)), [.ref 0], w) := zl_run hg mw_L_law 1 rfl
  have a1 := zl_arg (g := g) (d := 200) (L := L) (xs := xs) (i := 4 * k) (c := 1) (pc := 500) (lv := (lqv (Int32.ofNat (4 * k)))) (st := [.ref 0]) (w := w) hg hxs hL (by omega) rfl rfl rfl rfl rfl rfl rfl
  have a9 : zG g 200 mt_L_law (some L) (506, lqv (Int32.ofNat (4 * k)), [.int (xs (4 * k + 1)), .ref 0], w) (507, lqv (Int32.ofNat (4 * k)), [.ref 108, .int (xs (4 * k + 1)), .ref 0], w) := zl_run hg mw_L_law 1 rfl
  obtain ⟨kv, μ1, w1, hq, hw1, hk1, hln⟩ := lq_written hg hst C (x1 := xs (4 * k + 1)) (lv := lqv (Int32.ofNat (4 * k))) h.1 hwl
  have b0 : zG g 200 mt_L_law (some L) (510, lqv (Int32.ofNat (4 * k)), [.int kv], w1) (513, ((5, .int kv) :: lqv (Int32.ofNat (4 * k))), [.ref 66], w1) := zl_run hg mw_L_law 2 rfl
  have b1 := zl_arg (g := g) (d := 200) (L := L) (xs := xs) (i := 4 * k) (c := 1) (pc := 513) (lv := ((5, .int kv) :: lqv (Int32.ofNat (4 * k)))) (st := [.ref 66]) (w := w1) hg hxs hL (by omega) rfl rfl rfl rfl rfl rfl rfl
  obtain ⟨st', μ2, w2, hr, hw2, ⟨v, rfl⟩, hF, hI2, h29⟩ := lr_written hg C (x1 := xs (4 * k + 1)) (lv := ((5, .int kv) :: lqv (Int32.ofNat (4 * k)))) hw1 (lRI h.2.1 hk1)
  have c0 : zG g 200 mt_L_law (some L) (522, ((5, .int kv) :: lqv (Int32.ofNat (4 * k))), [.int (Int32.ofInt v)], w2) (23, [(4, .int ((Int32.ofNat (4 * k)) + Int32.ofInt 4)), (6, .int (Int32.ofInt v)), (5, .int kv), (3, .ref 108), (2, .ref 66), (1, .ref 0), (0, .ref 1048576)], [], w2) := zl_run hg mw_L_law 4 rfl
  have c1 := zG_weak c0 (lv' := lqv ((Int32.ofNat (4 * k)) + Int32.ofInt 4)) (fun q hq => by
    simp only [lqv, List.mem_cons, List.not_mem_nil, or_false] at hq ⊢
    rcases hq with h | h | h | h | h <;> simp [h])
  rw [l_i4] at c1
  have e1 := congrFun (hk1.1 66 (by omega) (by omega)) ((29 : Nat) : Int)
  have e2 := congrFun hF.1 ((4 : Nat) : Int)
  have e3 := h.2.2.1
  have e4 := h.2.2.2.1
  exact ⟨μ2, w2, (lG_trans (lG_z C a0) (lG_trans (lG_z C a1) (lG_trans (lG_z C a9) (lG_trans hq (lG_trans (lG_z C b0) (lG_trans (lG_z C b1) (lG_trans hr (lG_z C c1)))))))), lI_next h hk hk1 hF hw2 hI2 (by omega) (by omega) (by omega)⟩
set_option maxRecDepth 100000 in
set_option maxHeartbeats 4000000 in
theorem lc_read {g : zΓ} {x : lE} {L k : Nat} {xs : Nat → Int32} (hg : zg g) (hst : g.2.2.1.stackTraces = false) (C : lC g x L) (hxs : ∀ q, q < L → g.2.2.2.2.2.1 (mx_E + 1 + q) = .int (xs q)) (hL : L ≤ 2048) (hi : 4 * k + 4 ≤ L) {μ : zM} {w : mW} (h : lI k μ w) :
    ∃ (μ' : zM) (w' : mW), lG g x (204, lqv (Int32.ofNat (4 * k)), [], w) (23, lqv (Int32.ofNat (4 * (k + 1))), [], w') ∧ lI (k + 1) μ' w' := by
  have hk : k ≤ 600 := by omega
  have hwl := lI_len h hk
  have a0 : zG g 200 mt_L_law (some L) (204, lqv (Int32.ofNat (4 * k)), [], w) (205, lqv (Int32.ofNat (4 * k)), [.ref 0], w) := zl_run hg mw_L_law 1 rfl
  obtain ⟨s1, μ1, w1, hq, hw1, hv1, hk1, hln⟩ := lx_read hg C (lv := lqv (Int32.ofNat (4 * k))) h.1 (by unfold zcq; have := h.2.2.2.2.1; omega)
  obtain ⟨v1, rfl⟩ := hv1
  have b0 : zG g 200 mt_L_law (some L) (208, lqv (Int32.ofNat (4 * k)), [.int (Int32.ofInt v1)], w1) (210, lqv (Int32.ofNat (4 * k)), [.ref 66], w1) := zl_run hg mw_L_law 2 rfl
  obtain ⟨s2, μ2, w2, hr, hw2, hv2, hF, hI2, h29⟩ := lr_read hg C (lv := lqv (Int32.ofNat (4 * k))) hw1 (lRI h.2.1 hk1) (by omega)
  obtain ⟨v2, rfl⟩ := hv2
  have c0 : zG g 200 mt_L_law (some L) (213, lqv (Int32.ofNat (4 * k)), [.int (Int32.ofInt v2)], w2) (23, [(4, .int ((Int32.ofNat (4 * k)) + Int32.ofInt 4)), (3, .ref 108), (2, .ref 66), (1, .ref 0), (0, .ref 1048576)], [], w2) := zl_run hg mw_L_law 4 rfl
  have c1 := zG_weak c0 (lv' := lqv ((Int32.ofNat (4 * k)) + Int32.ofInt 4)) (fun q hq => by
    simp only [lqv, List.mem_cons, List.not_mem_nil, or_false] at hq ⊢
    rcases hq with h | h | h | h | h <;> simp [h])
  rw [l_i4] at c1
  have e1 := congrFun (hk1.1 66 (by omega) (by omega)) ((29 : Nat) : Int)
  have e2 := congrFun hF.1 ((4 : Nat) : Int)
  have e3 := h.2.2.1
  have e4 := h.2.2.2.1
  exact ⟨μ2, w2, lG_trans (lG_z C a0) (lG_trans hq (lG_trans (lG_z C b0) (lG_trans hr (lG_z C c1)))), lI_next h hk hk1 hF hw2 hI2 (by omega) (by omega) (by omega)⟩
set_option maxRecDepth 100000 in
set_option maxHeartbeats 4000000 in
theorem lc_fault {g : zΓ} {x : lE} {L k : Nat} {xs : Nat → Int32} (hg : zg g) (hst : g.2.2.1.stackTraces = false) (C : lC g x L) (hxs : ∀ q, q < L → g.2.2.2.2.2.1 (mx_E + 1 + q) = .int (xs q)) (hL : L ≤ 2048) (hi : 4 * k + 4 ≤ L) {μ : zM} {w : mW} (h : lI k μ w) :
    ∃ (μ' : zM) (w' : mW), lG g x (217, lqv (Int32.ofNat (4 * k)), [], w) (23, lqv (Int32.ofNat (4 * (k + 1))), [], w') ∧ lI (k + 1) μ' w' := by
  have hk : k ≤ 600 := by omega
  have hwl := lI_len h hk
  have a0 : zG g 200 mt_L_law (some L) (217, lqv (Int32.ofNat (4 * k)), [], w) (218, lqv (Int32.ofNat (4 * k)), [.ref 0], w) := zl_run hg mw_L_law 1 rfl
  obtain ⟨s1, μ1, w1, hq, hw1, hv1, hk1, hln⟩ := lx_fault hg C (lv := lqv (Int32.ofNat (4 * k))) h.1
  obtain ⟨v1, rfl⟩ := hv1
  have b0 : zG g 200 mt_L_law (some L) (221, lqv (Int32.ofNat (4 * k)), [.int (Int32.ofInt v1)], w1) (223, lqv (Int32.ofNat (4 * k)), [.ref 66], w1) := zl_run hg mw_L_law 2 rfl
  obtain ⟨s2, μ2, w2, hr, hw2, hv2, hF, hI2, h29⟩ := lr_fault hg C (lv := lqv (Int32.ofNat (4 * k))) hw1 (lRI h.2.1 hk1)
  obtain ⟨v2, rfl⟩ := hv2
  have c0 : zG g 200 mt_L_law (some L) (226, lqv (Int32.ofNat (4 * k)), [.int (Int32.ofInt v2)], w2) (23, [(4, .int ((Int32.ofNat (4 * k)) + Int32.ofInt 4)), (3, .ref 108), (2, .ref 66), (1, .ref 0), (0, .ref 1048576)], [], w2) := zl_run hg mw_L_law 4 rfl
  have c1 := zG_weak c0 (lv' := lqv ((Int32.ofNat (4 * k)) + Int32.ofInt 4)) (fun q hq => by
    simp only [lqv, List.mem_cons, List.not_mem_nil, or_false] at hq ⊢
    rcases hq with h | h | h | h | h <;> simp [h])
  rw [l_i4] at c1
  have e1 := congrFun (hk1.1 66 (by omega) (by omega)) ((29 : Nat) : Int)
  have e2 := congrFun hF.1 ((4 : Nat) : Int)
  have e3 := h.2.2.1
  have e4 := h.2.2.2.1
  exact ⟨μ2, w2, lG_trans (lG_z C a0) (lG_trans hq (lG_trans (lG_z C b0) (lG_trans hr (lG_z C c1)))), lI_next h hk hk1 hF hw2 hI2 (by omega) (by omega) (by omega)⟩
set_option maxRecDepth 100000 in
set_option maxHeartbeats 4000000 in
theorem lc_above {g : zΓ} {x : lE} {L k : Nat} {xs : Nat → Int32} (hg : zg g) (hst : g.2.2.1.stackTraces = false) (C : lC g x L) (hxs : ∀ q, q < L → g.2.2.2.2.2.1 (mx_E + 1 + q) = .int (xs q)) (hL : L ≤ 2048) (hi : 4 * k + 4 ≤ L) {μ : zM} {w : mW} (h : lI k μ w) :
    ∃ (μ' : zM) (w' : mW), lG g x (446, lqv (Int32.ofNat (4 * k)), [], w) (23, lqv (Int32.ofNat (4 * (k + 1))), [], w') ∧ lI (k + 1) μ' w' := by
  have hk : k ≤ 600 := by omega
  have hwl := lI_len h hk
  have a0 : zG g 200 mt_L_law (some L) (446, lqv (Int32.ofNat (4 * k)), [], w) (447, lqv (Int32.ofNat (4 * k)), [.ref 0], w) := zl_run hg mw_L_law 1 rfl
  obtain ⟨s1, μ1, w1, hq, hw1, hv1, hk1, hln⟩ := lx_above hg C (lv := lqv (Int32.ofNat (4 * k))) h.1
  obtain ⟨v1, rfl⟩ := hv1
  have b0 : zG g 200 mt_L_law (some L) (450, lqv (Int32.ofNat (4 * k)), [.int (Int32.ofInt v1)], w1) (452, lqv (Int32.ofNat (4 * k)), [.ref 66], w1) := zl_run hg mw_L_law 2 rfl
  obtain ⟨s2, μ2, w2, hr, hw2, hv2, hF, hI2, h29⟩ := lr_above hg C (lv := lqv (Int32.ofNat (4 * k))) hw1 (lRI h.2.1 hk1) (by omega)
  obtain ⟨v2, rfl⟩ := hv2
  have c0 : zG g 200 mt_L_law (some L) (455, lqv (Int32.ofNat (4 * k)), [.int (Int32.ofInt v2)], w2) (23, [(4, .int ((Int32.ofNat (4 * k)) + Int32.ofInt 4)), (3, .ref 108), (2, .ref 66), (1, .ref 0), (0, .ref 1048576)], [], w2) := zl_run hg mw_L_law 4 rfl
  have c1 := zG_weak c0 (lv' := lqv ((Int32.ofNat (4 * k)) + Int32.ofInt 4)) (fun q hq => by
    simp only [lqv, List.mem_cons, List.not_mem_nil, or_false] at hq ⊢
    rcases hq with h | h | h | h | h <;> simp [h])
  rw [l_i4] at c1
  have e1 := congrFun (hk1.1 66 (by omega) (by omega)) ((29 : Nat) : Int)
  have e2 := congrFun hF.1 ((4 : Nat) : Int)
  have e3 := h.2.2.1
  have e4 := h.2.2.2.1
  exact ⟨μ2, w2, lG_trans (lG_z C a0) (lG_trans hq (lG_trans (lG_z C b0) (lG_trans hr (lG_z C c1)))), lI_next h hk hk1 hF hw2 hI2 (by omega) (by omega) (by omega)⟩
set_option maxRecDepth 100000 in
set_option maxHeartbeats 4000000 in
theorem lc_clear {g : zΓ} {x : lE} {L k : Nat} {xs : Nat → Int32} (hg : zg g) (hst : g.2.2.1.stackTraces = false) (C : lC g x L) (hxs : ∀ q, q < L → g.2.2.2.2.2.1 (mx_E + 1 + q) = .int (xs q)) (hL : L ≤ 2048) (hi : 4 * k + 4 ≤ L) {μ : zM} {w : mW} (h : lI k μ w) :
    ∃ (μ' : zM) (w' : mW), lG g x (527, lqv (Int32.ofNat (4 * k)), [], w) (23, lqv (Int32.ofNat (4 * (k + 1))), [], w') ∧ lI (k + 1) μ' w' := by
  have hk : k ≤ 600 := by omega
  have hwl := lI_len h hk
  have a0 : zG g 200 mt_L_law (some L) (527, lqv (Int32.ofNat (4 * k)), [], w) (528, lqv (Int32.ofNat (4 * k)), [.ref 0], w) := zl_run hg mw_L_law 1 rfl
  obtain ⟨s1, μ1, w1, hq, hw1, hv1, hk1, hln⟩ := lx_clear hg C (lv := lqv (Int32.ofNat (4 * k))) h.1 (by unfold zcq; have := h.2.2.2.2.1; omega)
  subst hv1
  have b0 : zG g 200 mt_L_law (some L) (531, lqv (Int32.ofNat (4 * k)), [], w1) (532, lqv (Int32.ofNat (4 * k)), [.ref 66], w1) := zl_run hg mw_L_law 1 rfl
  obtain ⟨s2, μ2, w2, hr, hw2, hv2, hF, hI2, h29⟩ := lr_clear hg C (lv := lqv (Int32.ofNat (4 * k))) hw1 (lRI h.2.1 hk1) (by omega)
  subst hv2
  have c0 : zG g 200 mt_L_law (some L) (535, lqv (Int32.ofNat (4 * k)), [], w2) (23, [(4, .int ((Int32.ofNat (4 * k)) + Int32.ofInt 4)), (3, .ref 108), (2, .ref 66), (1, .ref 0), (0, .ref 1048576)], [], w2) := zl_run hg mw_L_law 3 rfl
  have c1 := zG_weak c0 (lv' := lqv ((Int32.ofNat (4 * k)) + Int32.ofInt 4)) (fun q hq => by
    simp only [lqv, List.mem_cons, List.not_mem_nil, or_false] at hq ⊢
    rcases hq with h | h | h | h | h <;> simp [h])
  rw [l_i4] at c1
  have e1 := congrFun (hk1.1 66 (by omega) (by omega)) ((29 : Nat) : Int)
  have e2 := congrFun hF.1 ((4 : Nat) : Int)
  have e3 := h.2.2.1
  have e4 := h.2.2.2.1
  exact ⟨μ2, w2, lG_trans (lG_z C a0) (lG_trans hq (lG_trans (lG_z C b0) (lG_trans hr (lG_z C c1)))), lI_next h hk hk1 hF hw2 hI2 (by omega) (by omega) (by omega)⟩
