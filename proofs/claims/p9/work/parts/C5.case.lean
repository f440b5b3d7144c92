/-! ### the cases of the law -/
theorem l_i4 {k : Nat} : Int32.ofNat (4 * k) + Int32.ofInt 4 = Int32.ofNat (4 * (k + 1)) := by
  show Int32.ofInt ((4 * k : Nat) : Int) + Int32.ofInt 4 = Int32.ofInt ((4 * (k + 1) : Nat) : Int)
  rw [z_add]
  congr 1
theorem l_28 {μ : zM} {w : mW} (hw : zRep μ w) : μ.2 28 = 441 ∧ μ.2 46 = 441 := by
  obtain ⟨c, e1, e2, -⟩ := hw.2.2.1 28 _ (show znth zcl 28 = some (.inr (0, 441, (-60200), 200)) from rfl)
  obtain ⟨c', f1, f2, -⟩ := hw.2.2.1 46 _ (show znth zcl 46 = some (.inr (0, 441, (-60200), 200)) from rfl)
  exact ⟨e2, f2⟩
theorem l_co {μ : zM} {w : mW} (hw : zRep μ w) : ∀ t : Nat, (t = 14 ∨ t = 32) → ∃ c, yCo μ (Nat.add t 12) c ∧ 1024 ≤ μ.2 c := by
  have key : ∀ t : Nat, (t = 26 ∨ t = 44) → ∃ c, yCo μ t c ∧ 1024 ≤ μ.2 c := by
    intro t ht
    obtain ⟨c, q, fs, rfl, fl, f1, f2, f3⟩ := hw.2.2.1 t (.inl 1) (by rcases ht with rfl | rfl <;> rfl)
    cases (show some zfl1 = some fl from f1)
    have len : fs.length = 7 := f2
    obtain ⟨v5, hv5⟩ : ∃ v, fs[5]? = some v := ⟨fs[5], by simp [len]⟩
    obtain ⟨j, -, -, e3, e4⟩ := f3 5 (.inr (.inr (.inr 1000))) v5 rfl hv5
    exact ⟨j, ⟨⟨e3, e4.1.1⟩, ht⟩, e4.1.2.1⟩
  intro t ht
  rcases ht with rfl | rfl
  · exact key 26 (Or.inl rfl)
  · exact key 44 (Or.inr rfl)
set_option maxRecDepth 100000 in
theorem lx_read {g : zΓ} {x : lE} {L : Nat} (hg : zg g) (C : lC g x L) {w : mW} {μ : zM} {lv : List (Nat × Value)} (hw : zRep μ w) (hq : zcq μ) (hT : lT μ) (hl : 0 ≤ μ.1 1 ((4 : Nat) : Int) ∧ μ.1 1 ((4 : Nat) : Int) ≤ 800) :
    ∃ (st' : List zV) (μ' : zM) (w' : mW), lG g x (177, lv, [.ref 0], w) (180, lv, st'.map zt, w') ∧ zRep μ' w' ∧ (∃ v : Int, st' = [.inl v] ∧ ((∃ p B, yR ((μ.1 2, μ.1 1 ((4 : Nat) : Int)) : yT) (0, 0, 0, [], yB0) (21, p, 0, [], B) ∧ v = B.1 0 0 ∧ μ'.1 0 ((7 : Nat) : Int) = 0 ∧ (μ'.1 0 ((3 : Nat) : Int) = μ.1 0 ((4 : Nat) : Int) ∧ μ'.1 0 ((4 : Nat) : Int) = μ.1 0 ((3 : Nat) : Int)) ∧ ∀ s : Nat, (s : Int) = μ.1 0 ((4 : Nat) : Int) → (s = 14 ∨ s = 32) ∧ yTab μ' s B ∧ yRS μ' s 300 B ∧ (yGd B → cWf μ' B) ∧ yCd μ' s B) ∨ (∃ p x B, yR ((μ.1 2, μ.1 1 ((4 : Nat) : Int)) : yT) (0, 0, 0, [], yB0) (20, p, x, [], B) ∧ v = -10 - p ∧ μ'.1 0 ((7 : Nat) : Int) = x ∧ (μ'.1 0 ((3 : Nat) : Int) = μ.1 0 ((3 : Nat) : Int) ∧ μ'.1 0 ((4 : Nat) : Int) = μ.1 0 ((4 : Nat) : Int)) ∧ (∀ s : Nat, (s : Int) = μ.1 0 ((4 : Nat) : Int) → ∀ j : Nat, j ≠ 0 → zob s j → μ'.1 j = μ.1 j) ∧ μ'.1 7 = μ.1 7))) ∧ lK μ μ' ∧ μ'.1 1 ((4 : Nat) : Int) = 0 ∧ (∀ s : Nat, (s : Int) = μ.1 0 ((4 : Nat) : Int) → (s = 14 ∨ s = 32) ∧ zox s μ μ') := by
  obtain ⟨st', μ', w', h1, h2, h3, h4⟩ := zl_call (sc := some L) (lv := lv) (pc := 177) (ix := 58) (md := 0) (i := .invokevirtual 58) (st := [.inr (.inr (0, 0))]) (k := fun st' μ' => (∃ v : Int, st' = [.inl v] ∧ ((∃ p B, yR ((μ.1 2, μ.1 1 ((4 : Nat) : Int)) : yT) (0, 0, 0, [], yB0) (21, p, 0, [], B) ∧ v = B.1 0 0 ∧ μ'.1 0 ((7 : Nat) : Int) = 0 ∧ (μ'.1 0 ((3 : Nat) : Int) = μ.1 0 ((4 : Nat) : Int) ∧ μ'.1 0 ((4 : Nat) : Int) = μ.1 0 ((3 : Nat) : Int)) ∧ ∀ s : Nat, (s : Int) = μ.1 0 ((4 : Nat) : Int) → (s = 14 ∨ s = 32) ∧ yTab μ' s B ∧ yRS μ' s 300 B ∧ (yGd B → cWf μ' B) ∧ yCd μ' s B) ∨ (∃ p x B, yR ((μ.1 2, μ.1 1 ((4 : Nat) : Int)) : yT) (0, 0, 0, [], yB0) (20, p, x, [], B) ∧ v = -10 - p ∧ μ'.1 0 ((7 : Nat) : Int) = x ∧ (μ'.1 0 ((3 : Nat) : Int) = μ.1 0 ((3 : Nat) : Int) ∧ μ'.1 0 ((4 : Nat) : Int) = μ.1 0 ((4 : Nat) : Int)) ∧ (∀ s : Nat, (s : Int) = μ.1 0 ((4 : Nat) : Int) → ∀ j : Nat, j ≠ 0 → zob s j → μ'.1 j = μ.1 j) ∧ μ'.1 7 = μ.1 7))) ∧ lK μ μ' ∧ μ'.1 1 ((4 : Nat) : Int) = 0 ∧ (∀ s : Nat, (s : Int) = μ.1 0 ((4 : Nat) : Int) → (s = 14 ∨ s = 32) ∧ zox s μ μ')) hg mw_L_law (Or.inl ⟨rfl, rfl⟩) rfl hw (List.forall_mem_cons.mpr ⟨by show 0 < 1048576; omega, fun _ q => by cases q⟩)
    ⟨wk_X8_read, wm_X8_read hg 200 (by omega), rfl, (fun i a b => (hT i a b).2), hl, l_28 hw, l_co hw, hq, fun v μ' z _ _ hv e ex => ⟨⟨v, rfl, hv⟩, lK_f (zle_lf z), e, ex⟩⟩
  exact ⟨st', μ', w', lG_z C h1, h2, h4⟩
set_option maxRecDepth 100000 in
theorem lx_fault {g : zΓ} {x : lE} {L : Nat} (hg : zg g) (C : lC g x L) {w : mW} {μ : zM} {lv : List (Nat × Value)} (hw : zRep μ w) :
    ∃ (st' : List zV) (μ' : zM) (w' : mW), lG g x (190, lv, [.ref 0], w) (193, lv, st'.map zt, w') ∧ zRep μ' w' ∧ (∃ v : Int, st' = [.inl v] ∧ v = μ.1 0 ((7 : Nat) : Int)) ∧ lK μ μ' ∧ (μ'.1 1 ((4 : Nat) : Int) = μ.1 1 ((4 : Nat) : Int) ∧ μ'.1 2 = μ.1 2 ∧ lZ μ μ') ∧ lY μ μ' := by
  obtain ⟨st', μ', w', h1, h2, h3, h4⟩ := zl_call (sc := some L) (lv := lv) (pc := 190) (ix := 63) (md := 0) (i := .invokevirtual 63) (st := [.inr (.inr (0, 0))]) (k := fun st' μ' => (∃ v : Int, st' = [.inl v] ∧ v = μ.1 0 ((7 : Nat) : Int)) ∧ lK μ μ' ∧ (μ'.1 1 ((4 : Nat) : Int) = μ.1 1 ((4 : Nat) : Int) ∧ μ'.1 2 = μ.1 2 ∧ lZ μ μ') ∧ lY μ μ') hg mw_L_law (Or.inl ⟨rfl, rfl⟩) rfl hw (List.forall_mem_cons.mpr ⟨by show 0 < 1048576; omega, fun _ q => by cases q⟩)
    ⟨yk_X8_fault, ym_X8_fault hg 200 (by omega), rfl, fun v _ _ e => ⟨⟨v, rfl, e⟩, lK_r μ, ⟨rfl, rfl, rfl⟩, lY_r μ⟩⟩
  exact ⟨st', μ', w', lG_z C h1, h2, h4⟩
set_option maxRecDepth 100000 in
theorem lx_above {g : zΓ} {x : lE} {L : Nat} (hg : zg g) (C : lC g x L) {w : mW} {μ : zM} {lv : List (Nat × Value)} (hw : zRep μ w) (hT : lT μ) (hl : 0 ≤ μ.1 1 ((4 : Nat) : Int) ∧ μ.1 1 ((4 : Nat) : Int) ≤ 800) {B : yB} (hCB : ∀ t : Nat, (t : Int) = μ.1 0 ((3 : Nat) : Int) → yRB μ t B ∧ yRS μ t 300 B) :
    ∃ (st' : List zV) (μ' : zM) (w' : mW), lG g x (447, lv, [.ref 0], w) (450, lv, st'.map zt, w') ∧ zRep μ' w' ∧ (∃ v : Int, st' = [.inl v]) ∧ lK μ μ' ∧ μ'.1 1 ((4 : Nat) : Int) = 0 ∧ lY μ μ' ∧ ∃ x l, yQp ((μ.1 2, μ.1 1 ((4 : Nat) : Int)) : yT) B x l ∧ μ'.1 0 ((7 : Nat) : Int) = x := by
  obtain ⟨st', μ', w', h1, h2, h3, h4⟩ := zl_call (sc := some L) (lv := lv) (pc := 447) (ix := 90) (md := 0) (i := .invokevirtual 90) (st := [.inr (.inr (0, 0))]) (k := fun st' μ' => (∃ v : Int, st' = [.inl v]) ∧ lK μ μ' ∧ μ'.1 1 ((4 : Nat) : Int) = 0 ∧ lY μ μ' ∧ ∃ x l, yQp ((μ.1 2, μ.1 1 ((4 : Nat) : Int)) : yT) B x l ∧ μ'.1 0 ((7 : Nat) : Int) = x) hg mw_L_law (Or.inl ⟨rfl, rfl⟩) rfl hw (List.forall_mem_cons.mpr ⟨by show 0 < 1048576; omega, fun _ q => by cases q⟩)
    ⟨qk_X8_above, qm_X8_above hg 200 (by omega), B, rfl, (fun i a b => (hT i a b).2), hl, hCB, fun v μ' z _ _ e e2 => ⟨⟨v, rfl⟩, lK_f (zle_lf z.1.1), e, lY_q z, e2⟩⟩
  exact ⟨st', μ', w', lG_z C h1, h2, h4⟩
set_option maxRecDepth 100000 in
theorem lx_clear {g : zΓ} {x : lE} {L : Nat} (hg : zg g) (C : lC g x L) {w : mW} {μ : zM} {lv : List (Nat × Value)} (hw : zRep μ w) (hq : zcq μ) :
    ∃ (st' : List zV) (μ' : zM) (w' : mW), lG g x (528, lv, [.ref 0], w) (531, lv, st'.map zt, w') ∧ zRep μ' w' ∧ (st' = []) ∧ lK μ μ' ∧ μ'.1 1 ((4 : Nat) : Int) = 0 ∧ (μ'.1 0 ((3 : Nat) : Int) = μ.1 0 ((3 : Nat) : Int) ∧ μ'.1 0 ((4 : Nat) : Int) = μ.1 0 ((4 : Nat) : Int)) ∧ (∀ s : Nat, (s : Int) = μ.1 0 ((3 : Nat) : Int) → (s = 14 ∨ s = 32) ∧ yTab μ' s yB0 ∧ yCd μ' s yB0 ∧ zox s μ μ') ∧ μ'.1 0 ((7 : Nat) : Int) = 0 := by
  obtain ⟨st', μ', w', h1, h2, h3, h4⟩ := zl_call (sc := some L) (lv := lv) (pc := 528) (ix := 100) (md := 0) (i := .invokevirtual 100) (st := [.inr (.inr (0, 0))]) (k := fun st' μ' => (st' = []) ∧ lK μ μ' ∧ μ'.1 1 ((4 : Nat) : Int) = 0 ∧ (μ'.1 0 ((3 : Nat) : Int) = μ.1 0 ((3 : Nat) : Int) ∧ μ'.1 0 ((4 : Nat) : Int) = μ.1 0 ((4 : Nat) : Int)) ∧ (∀ s : Nat, (s : Int) = μ.1 0 ((3 : Nat) : Int) → (s = 14 ∨ s = 32) ∧ yTab μ' s yB0 ∧ yCd μ' s yB0 ∧ zox s μ μ') ∧ μ'.1 0 ((7 : Nat) : Int) = 0) hg mw_L_law (Or.inl ⟨rfl, rfl⟩) rfl hw (List.forall_mem_cons.mpr ⟨by show 0 < 1048576; omega, fun _ q => by cases q⟩)
    ⟨wk_X8_clear, wm_X8_clear hg 200 (by omega), rfl, l_28 hw, l_co hw, hq, fun μ' z e e1 e2 e7 _ => ⟨rfl, lK_f (zle_lf z), e, e1, e2, e7⟩⟩
  exact ⟨st', μ', w', lG_z C h1, h2, h4⟩
set_option maxRecDepth 100000 in
set_option maxHeartbeats 4000000 in
theorem lc_cls {g : zΓ} {x : lE} {L k : Nat} {xs : Nat → Int32} (hg : zg g) (hst : g.2.2.1.stackTraces = false) (C : lC g x L) (hxs : ∀ q, q < L → g.2.2.2.2.2.1 (mx_E + 1 + q) = .int (xs q)) (hL : L ≤ 2048) (hi : 4 * k + 4 ≤ L) {μ : zM} {w : mW} (h : lI k μ w) :
    ∃ (μ' : zM) (w' : mW), lG g x (202, lqv (Int32.ofNat (4 * k)), [], w) (23, lqv (Int32.ofNat (4 * (k + 1))), [], w') ∧ lI (k + 1) μ' w' := by
  have hk : k ≤ 600 := by omega
  have hwl := lI_len h hk
  have a0 : zG g 200 mt_L_law (some L) (202, lqv (Int32.ofNat (4 * k)), [], w) (203, lqv (Int32.ofNat (4 * k)), [.ref 0], w) := zl_run hg mw_L_law 1 rfl
  have a1 := zl_arg (g := g) (d := 200) (L := L) (xs := xs) (i := 4 * k) (c := 1) (pc := 203) (lv := (lqv (Int32.ofNat (4 * k)))) (st := [.ref 0]) (w := w) hg hxs hL (by omega) rfl rfl rfl rfl rfl rfl rfl
  have a2 := zl_arg (g := g) (d := 200) (L := L) (xs := xs) (i := 4 * k) (c := 2) (pc := 209) (lv := (lqv (Int32.ofNat (4 * k)))) (st := [.int (xs (4 * k + 1)), .ref 0]) (w := w) hg hxs hL (by omega) rfl rfl rfl rfl rfl rfl rfl
  have a9 : zG g 200 mt_L_law (some L) (215, lqv (Int32.ofNat (4 * k)), [.int (xs (4 * k + 2)), .int (xs (4 * k + 1)), .ref 0], w) (216, lqv (Int32.ofNat (4 * k)), [.ref 108, .int (xs (4 * k + 2)), .int (xs (4 * k + 1)), .ref 0], w) := zl_run hg mw_L_law 1 rfl
  obtain ⟨kv, μ1, w1, hq, hw1, hk1, hY, hln, hl2, hZ⟩ := lq_cls hg hst C (x1 := xs (4 * k + 1)) (x2 := xs (4 * k + 2)) (lv := lqv (Int32.ofNat (4 * k))) h.1 hwl
  have b0 : zG g 200 mt_L_law (some L) (219, lqv (Int32.ofNat (4 * k)), [.int kv], w1) (222, ((5, .int kv) :: lqv (Int32.ofNat (4 * k))), [.ref 66], w1) := zl_run hg mw_L_law 2 rfl
  have b1 := zl_arg (g := g) (d := 200) (L := L) (xs := xs) (i := 4 * k) (c := 1) (pc := 222) (lv := ((5, .int kv) :: lqv (Int32.ofNat (4 * k)))) (st := [.ref 66]) (w := w1) hg hxs hL (by omega) rfl rfl rfl rfl rfl rfl rfl
  have b2 := zl_arg (g := g) (d := 200) (L := L) (xs := xs) (i := 4 * k) (c := 2) (pc := 228) (lv := ((5, .int kv) :: lqv (Int32.ofNat (4 * k)))) (st := [.int (xs (4 * k + 1)), .ref 66]) (w := w1) hg hxs hL (by omega) rfl rfl rfl rfl rfl rfl rfl
  obtain ⟨st', μ2, w2, hr, hw2, ⟨v, rfl⟩, hF, hI2, h29, h85, h20⟩ := lr_cls hg C (x1 := xs (4 * k + 1)) (x2 := xs (4 * k + 2)) (lv := ((5, .int kv) :: lqv (Int32.ofNat (4 * k)))) hw1 (lRI h.2.1 hk1)
  have c0 : zG g 200 mt_L_law (some L) (237, ((5, .int kv) :: lqv (Int32.ofNat (4 * k))), [.long v], w2) (23, [(4, .int ((Int32.ofNat (4 * k)) + Int32.ofInt 4)), (6, .long v), (5, .int kv), (3, .ref 108), (2, .ref 66), (1, .ref 0), (0, .ref 1048576)], [], w2) := zl_run hg mw_L_law 4 rfl
  have c1 := zG_weak c0 (lv' := lqv ((Int32.ofNat (4 * k)) + Int32.ofInt 4)) (fun q hq => by
    simp only [lqv, List.mem_cons, List.not_mem_nil, or_false] at hq ⊢
    rcases hq with h | h | h | h | h <;> simp [h])
  rw [l_i4] at c1
  have e1 := congrFun (hk1.1 66 (by omega) (by omega)) ((29 : Nat) : Int)
  have e2 := congrFun hF.1 ((4 : Nat) : Int)
  have e3 := h.2.2.1
  have e4 := h.2.2.2.1
  have hT : lT μ2 := lT_k h.2.2.2.2.2.2.1 hk1 hl2 hF h85 hln
  exact ⟨μ2, w2, (lG_trans (lG_z C a0) (lG_trans (lG_z C a1) (lG_trans (lG_z C a2) (lG_trans (lG_z C a9) (lG_trans hq (lG_trans (lG_z C b0) (lG_trans (lG_z C b1) (lG_trans (lG_z C b2) (lG_trans hr (lG_z C c1)))))))))), lI_next h hk hk1 hF hw2 hI2 (by omega) (by omega) (by omega) hT (lB_k h.2.2.2.2.2.2.2 h.2.1 (lY_t hY (lY_f hF.2.2.2.2.2.2.1 hF.2.2.2.2.1)) (rKq_t (rKq_K hk1) h20.1))⟩
set_option maxRecDepth 100000 in
set_option maxHeartbeats 4000000 in
theorem lc_isAbove {g : zΓ} {x : lE} {L k : Nat} {xs : Nat → Int32} (hg : zg g) (hst : g.2.2.1.stackTraces = false) (C : lC g x L) (hxs : ∀ q, q < L → g.2.2.2.2.2.1 (mx_E + 1 + q) = .int (xs q)) (hL : L ≤ 2048) (hi : 4 * k + 4 ≤ L) {μ : zM} {w : mW} (h : lI k μ w) :
    ∃ (μ' : zM) (w' : mW), lG g x (242, lqv (Int32.ofNat (4 * k)), [], w) (23, lqv (Int32.ofNat (4 * (k + 1))), [], w') ∧ lI (k + 1) μ' w' := by
  have hk : k ≤ 600 := by omega
  have hwl := lI_len h hk
  have a0 : zG g 200 mt_L_law (some L) (242, lqv (Int32.ofNat (4 * k)), [], w) (243, lqv (Int32.ofNat (4 * k)), [.ref 0], w) := zl_run hg mw_L_law 1 rfl
  have a1 := zl_arg (g := g) (d := 200) (L := L) (xs := xs) (i := 4 * k) (c := 1) (pc := 243) (lv := (lqv (Int32.ofNat (4 * k)))) (st := [.ref 0]) (w := w) hg hxs hL (by omega) rfl rfl rfl rfl rfl rfl rfl
  have a2 := zl_arg (g := g) (d := 200) (L := L) (xs := xs) (i := 4 * k) (c := 2) (pc := 249) (lv := (lqv (Int32.ofNat (4 * k)))) (st := [.int (xs (4 * k + 1)), .ref 0]) (w := w) hg hxs hL (by omega) rfl rfl rfl rfl rfl rfl rfl
  have a9 : zG g 200 mt_L_law (some L) (255, lqv (Int32.ofNat (4 * k)), [.int (xs (4 * k + 2)), .int (xs (4 * k + 1)), .ref 0], w) (256, lqv (Int32.ofNat (4 * k)), [.ref 108, .int (xs (4 * k + 2)), .int (xs (4 * k + 1)), .ref 0], w) := zl_run hg mw_L_law 1 rfl
  obtain ⟨kv, μ1, w1, hq, hw1, hk1, hY, hln, hl2, hZ⟩ := lq_isAbove hg hst C (x1 := xs (4 * k + 1)) (x2 := xs (4 * k + 2)) (lv := lqv (Int32.ofNat (4 * k))) h.1 hwl
  have b0 : zG g 200 mt_L_law (some L) (259, lqv (Int32.ofNat (4 * k)), [.int kv], w1) (262, ((5, .int kv) :: lqv (Int32.ofNat (4 * k))), [.ref 66], w1) := zl_run hg mw_L_law 2 rfl
  have b1 := zl_arg (g := g) (d := 200) (L := L) (xs := xs) (i := 4 * k) (c := 1) (pc := 262) (lv := ((5, .int kv) :: lqv (Int32.ofNat (4 * k)))) (st := [.ref 66]) (w := w1) hg hxs hL (by omega) rfl rfl rfl rfl rfl rfl rfl
  have b2 := zl_arg (g := g) (d := 200) (L := L) (xs := xs) (i := 4 * k) (c := 2) (pc := 268) (lv := ((5, .int kv) :: lqv (Int32.ofNat (4 * k)))) (st := [.int (xs (4 * k + 1)), .ref 66]) (w := w1) hg hxs hL (by omega) rfl rfl rfl rfl rfl rfl rfl
  obtain ⟨st', μ2, w2, hr, hw2, ⟨v, rfl⟩, hF, hI2, h29, h85, h20⟩ := lr_isAbove hg C (x1 := xs (4 * k + 1)) (x2 := xs (4 * k + 2)) (lv := ((5, .int kv) :: lqv (Int32.ofNat (4 * k)))) hw1 (lRI h.2.1 hk1)
  have c0 : zG g 200 mt_L_law (some L) (277, ((5, .int kv) :: lqv (Int32.ofNat (4 * k))), [.int (Int32.ofInt v)], w2) (23, [(4, .int ((Int32.ofNat (4 * k)) + Int32.ofInt 4)), (6, .int (Int32.ofInt v)), (5, .int kv), (3, .ref 108), (2, .ref 66), (1, .ref 0), (0, .ref 1048576)], [], w2) := zl_run hg mw_L_law 4 rfl
  have c1 := zG_weak c0 (lv' := lqv ((Int32.ofNat (4 * k)) + Int32.ofInt 4)) (fun q hq => by
    simp only [lqv, List.mem_cons, List.not_mem_nil, or_false] at hq ⊢
    rcases hq with h | h | h | h | h <;> simp [h])
  rw [l_i4] at c1
  have e1 := congrFun (hk1.1 66 (by omega) (by omega)) ((29 : Nat) : Int)
  have e2 := congrFun hF.1 ((4 : Nat) : Int)
  have e3 := h.2.2.1
  have e4 := h.2.2.2.1
  have hT : lT μ2 := lT_k h.2.2.2.2.2.2.1 hk1 hl2 hF h85 hln
  exact ⟨μ2, w2, (lG_trans (lG_z C a0) (lG_trans (lG_z C a1) (lG_trans (lG_z C a2) (lG_trans (lG_z C a9) (lG_trans hq (lG_trans (lG_z C b0) (lG_trans (lG_z C b1) (lG_trans (lG_z C b2) (lG_trans hr (lG_z C c1)))))))))), lI_next h hk hk1 hF hw2 hI2 (by omega) (by omega) (by omega) hT (lB_k h.2.2.2.2.2.2.2 h.2.1 (lY_t hY (lY_f hF.2.2.2.2.2.2.1 hF.2.2.2.2.1)) (rKq_t (rKq_K hk1) h20.1))⟩
set_option maxRecDepth 100000 in
set_option maxHeartbeats 4000000 in
theorem lc_parameter {g : zΓ} {x : lE} {L k : Nat} {xs : Nat → Int32} (hg : zg g) (hst : g.2.2.1.stackTraces = false) (C : lC g x L) (hxs : ∀ q, q < L → g.2.2.2.2.2.1 (mx_E + 1 + q) = .int (xs q)) (hL : L ≤ 2048) (hi : 4 * k + 4 ≤ L) {μ : zM} {w : mW} (h : lI k μ w) :
    ∃ (μ' : zM) (w' : mW), lG g x (282, lqv (Int32.ofNat (4 * k)), [], w) (23, lqv (Int32.ofNat (4 * (k + 1))), [], w') ∧ lI (k + 1) μ' w' := by
  have hk : k ≤ 600 := by omega
  have hwl := lI_len h hk
  have a0 : zG g 200 mt_L_law (some L) (282, lqv (Int32.ofNat (4 * k)), [], w) (283, lqv (Int32.ofNat (4 * k)), [.ref 0], w) := zl_run hg mw_L_law 1 rfl
  have a1 := zl_arg (g := g) (d := 200) (L := L) (xs := xs) (i := 4 * k) (c := 1) (pc := 283) (lv := (lqv (Int32.ofNat (4 * k)))) (st := [.ref 0]) (w := w) hg hxs hL (by omega) rfl rfl rfl rfl rfl rfl rfl
  have a2 := zl_arg (g := g) (d := 200) (L := L) (xs := xs) (i := 4 * k) (c := 2) (pc := 289) (lv := (lqv (Int32.ofNat (4 * k)))) (st := [.int (xs (4 * k + 1)), .ref 0]) (w := w) hg hxs hL (by omega) rfl rfl rfl rfl rfl rfl rfl
  have a9 : zG g 200 mt_L_law (some L) (295, lqv (Int32.ofNat (4 * k)), [.int (xs (4 * k + 2)), .int (xs (4 * k + 1)), .ref 0], w) (296, lqv (Int32.ofNat (4 * k)), [.ref 108, .int (xs (4 * k + 2)), .int (xs (4 * k + 1)), .ref 0], w) := zl_run hg mw_L_law 1 rfl
  obtain ⟨kv, μ1, w1, hq, hw1, hk1, hY, hln, hl2, hZ⟩ := lq_parameter hg hst C (x1 := xs (4 * k + 1)) (x2 := xs (4 * k + 2)) (lv := lqv (Int32.ofNat (4 * k))) h.1 hwl
  have b0 : zG g 200 mt_L_law (some L) (299, lqv (Int32.ofNat (4 * k)), [.int kv], w1) (302, ((5, .int kv) :: lqv (Int32.ofNat (4 * k))), [.ref 66], w1) := zl_run hg mw_L_law 2 rfl
  have b1 := zl_arg (g := g) (d := 200) (L := L) (xs := xs) (i := 4 * k) (c := 1) (pc := 302) (lv := ((5, .int kv) :: lqv (Int32.ofNat (4 * k)))) (st := [.ref 66]) (w := w1) hg hxs hL (by omega) rfl rfl rfl rfl rfl rfl rfl
  have b2 := zl_arg (g := g) (d := 200) (L := L) (xs := xs) (i := 4 * k) (c := 2) (pc := 308) (lv := ((5, .int kv) :: lqv (Int32.ofNat (4 * k)))) (st := [.int (xs (4 * k + 1)), .ref 66]) (w := w1) hg hxs hL (by omega) rfl rfl rfl rfl rfl rfl rfl
  obtain ⟨st', μ2, w2, hr, hw2, ⟨v, rfl⟩, hF, hI2, h29, h85, h20⟩ := lr_parameter hg C (x1 := xs (4 * k + 1)) (x2 := xs (4 * k + 2)) (lv := ((5, .int kv) :: lqv (Int32.ofNat (4 * k)))) hw1 (lRI h.2.1 hk1)
  have c0 : zG g 200 mt_L_law (some L) (317, ((5, .int kv) :: lqv (Int32.ofNat (4 * k))), [.long v], w2) (23, [(4, .int ((Int32.ofNat (4 * k)) + Int32.ofInt 4)), (6, .long v), (5, .int kv), (3, .ref 108), (2, .ref 66), (1, .ref 0), (0, .ref 1048576)], [], w2) := zl_run hg mw_L_law 4 rfl
  have c1 := zG_weak c0 (lv' := lqv ((Int32.ofNat (4 * k)) + Int32.ofInt 4)) (fun q hq => by
    simp only [lqv, List.mem_cons, List.not_mem_nil, or_false] at hq ⊢
    rcases hq with h | h | h | h | h <;> simp [h])
  rw [l_i4] at c1
  have e1 := congrFun (hk1.1 66 (by omega) (by omega)) ((29 : Nat) : Int)
  have e2 := congrFun hF.1 ((4 : Nat) : Int)
  have e3 := h.2.2.1
  have e4 := h.2.2.2.1
  have hT : lT μ2 := lT_k h.2.2.2.2.2.2.1 hk1 hl2 hF h85 hln
  exact ⟨μ2, w2, (lG_trans (lG_z C a0) (lG_trans (lG_z C a1) (lG_trans (lG_z C a2) (lG_trans (lG_z C a9) (lG_trans hq (lG_trans (lG_z C b0) (lG_trans (lG_z C b1) (lG_trans (lG_z C b2) (lG_trans hr (lG_z C c1)))))))))), lI_next h hk hk1 hF hw2 hI2 (by omega) (by omega) (by omega) hT (lB_k h.2.2.2.2.2.2.2 h.2.1 (lY_t hY (lY_f hF.2.2.2.2.2.2.1 hF.2.2.2.2.1)) (rKq_t (rKq_K hk1) h20.1))⟩
set_option maxRecDepth 100000 in
set_option maxHeartbeats 4000000 in
theorem lc_way {g : zΓ} {x : lE} {L k : Nat} {xs : Nat → Int32} (hg : zg g) (hst : g.2.2.1.stackTraces = false) (C : lC g x L) (hxs : ∀ q, q < L → g.2.2.2.2.2.1 (mx_E + 1 + q) = .int (xs q)) (hL : L ≤ 2048) (hi : 4 * k + 4 ≤ L) {μ : zM} {w : mW} (h : lI k μ w) :
    ∃ (μ' : zM) (w' : mW), lG g x (322, lqv (Int32.ofNat (4 * k)), [], w) (23, lqv (Int32.ofNat (4 * (k + 1))), [], w') ∧ lI (k + 1) μ' w' := by
  have hk : k ≤ 600 := by omega
  have hwl := lI_len h hk
  have a0 : zG g 200 mt_L_law (some L) (322, lqv (Int32.ofNat (4 * k)), [], w) (323, lqv (Int32.ofNat (4 * k)), [.ref 0], w) := zl_run hg mw_L_law 1 rfl
  have a1 := zl_arg (g := g) (d := 200) (L := L) (xs := xs) (i := 4 * k) (c := 1) (pc := 323) (lv := (lqv (Int32.ofNat (4 * k)))) (st := [.ref 0]) (w := w) hg hxs hL (by omega) rfl rfl rfl rfl rfl rfl rfl
  have a2 := zl_arg (g := g) (d := 200) (L := L) (xs := xs) (i := 4 * k) (c := 2) (pc := 329) (lv := (lqv (Int32.ofNat (4 * k)))) (st := [.int (xs (4 * k + 1)), .ref 0]) (w := w) hg hxs hL (by omega) rfl rfl rfl rfl rfl rfl rfl
  have a9 : zG g 200 mt_L_law (some L) (335, lqv (Int32.ofNat (4 * k)), [.int (xs (4 * k + 2)), .int (xs (4 * k + 1)), .ref 0], w) (336, lqv (Int32.ofNat (4 * k)), [.ref 108, .int (xs (4 * k + 2)), .int (xs (4 * k + 1)), .ref 0], w) := zl_run hg mw_L_law 1 rfl
  obtain ⟨kv, μ1, w1, hq, hw1, hk1, hY, hln, hl2, hZ⟩ := lq_way hg hst C (x1 := xs (4 * k + 1)) (x2 := xs (4 * k + 2)) (lv := lqv (Int32.ofNat (4 * k))) h.1 hwl
  have b0 : zG g 200 mt_L_law (some L) (339, lqv (Int32.ofNat (4 * k)), [.int kv], w1) (342, ((5, .int kv) :: lqv (Int32.ofNat (4 * k))), [.ref 66], w1) := zl_run hg mw_L_law 2 rfl
  have b1 := zl_arg (g := g) (d := 200) (L := L) (xs := xs) (i := 4 * k) (c := 1) (pc := 342) (lv := ((5, .int kv) :: lqv (Int32.ofNat (4 * k)))) (st := [.ref 66]) (w := w1) hg hxs hL (by omega) rfl rfl rfl rfl rfl rfl rfl
  have b2 := zl_arg (g := g) (d := 200) (L := L) (xs := xs) (i := 4 * k) (c := 2) (pc := 348) (lv := ((5, .int kv) :: lqv (Int32.ofNat (4 * k)))) (st := [.int (xs (4 * k + 1)), .ref 66]) (w := w1) hg hxs hL (by omega) rfl rfl rfl rfl rfl rfl rfl
  obtain ⟨st', μ2, w2, hr, hw2, ⟨v, rfl⟩, hF, hI2, h29, h85, h20⟩ := lr_way hg C (x1 := xs (4 * k + 1)) (x2 := xs (4 * k + 2)) (lv := ((5, .int kv) :: lqv (Int32.ofNat (4 * k)))) hw1 (lRI h.2.1 hk1)
  have c0 : zG g 200 mt_L_law (some L) (357, ((5, .int kv) :: lqv (Int32.ofNat (4 * k))), [.int (Int32.ofInt v)], w2) (23, [(4, .int ((Int32.ofNat (4 * k)) + Int32.ofInt 4)), (6, .int (Int32.ofInt v)), (5, .int kv), (3, .ref 108), (2, .ref 66), (1, .ref 0), (0, .ref 1048576)], [], w2) := zl_run hg mw_L_law 4 rfl
  have c1 := zG_weak c0 (lv' := lqv ((Int32.ofNat (4 * k)) + Int32.ofInt 4)) (fun q hq => by
    simp only [lqv, List.mem_cons, List.not_mem_nil, or_false] at hq ⊢
    rcases hq with h | h | h | h | h <;> simp [h])
  rw [l_i4] at c1
  have e1 := congrFun (hk1.1 66 (by omega) (by omega)) ((29 : Nat) : Int)
  have e2 := congrFun hF.1 ((4 : Nat) : Int)
  have e3 := h.2.2.1
  have e4 := h.2.2.2.1
  have hT : lT μ2 := lT_k h.2.2.2.2.2.2.1 hk1 hl2 hF h85 hln
  exact ⟨μ2, w2, (lG_trans (lG_z C a0) (lG_trans (lG_z C a1) (lG_trans (lG_z C a2) (lG_trans (lG_z C a9) (lG_trans hq (lG_trans (lG_z C b0) (lG_trans (lG_z C b1) (lG_trans (lG_z C b2) (lG_trans hr (lG_z C c1)))))))))), lI_next h hk hk1 hF hw2 hI2 (by omega) (by omega) (by omega) hT (lB_k h.2.2.2.2.2.2.2 h.2.1 (lY_t hY (lY_f hF.2.2.2.2.2.2.1 hF.2.2.2.2.1)) (rKq_t (rKq_K hk1) h20.1))⟩
set_option maxRecDepth 100000 in
set_option maxHeartbeats 4000000 in
theorem lc_told {g : zΓ} {x : lE} {L k : Nat} {xs : Nat → Int32} (hg : zg g) (hst : g.2.2.1.stackTraces = false) (C : lC g x L) (hxs : ∀ q, q < L → g.2.2.2.2.2.1 (mx_E + 1 + q) = .int (xs q)) (hL : L ≤ 2048) (hi : 4 * k + 4 ≤ L) {μ : zM} {w : mW} (h : lI k μ w) :
    ∃ (μ' : zM) (w' : mW), lG g x (418, lqv (Int32.ofNat (4 * k)), [], w) (23, lqv (Int32.ofNat (4 * (k + 1))), [], w') ∧ lI (k + 1) μ' w' := by
  have hk : k ≤ 600 := by omega
  have hwl := lI_len h hk
  have a0 : zG g 200 mt_L_law (some L) (418, lqv (Int32.ofNat (4 * k)), [], w) (419, lqv (Int32.ofNat (4 * k)), [.ref 0], w) := zl_run hg mw_L_law 1 rfl
  have a1 := zl_arg (g := g) (d := 200) (L := L) (xs := xs) (i := 4 * k) (c := 1) (pc := 419) (lv := (lqv (Int32.ofNat (4 * k)))) (st := [.ref 0]) (w := w) hg hxs hL (by omega) rfl rfl rfl rfl rfl rfl rfl
  have a9 : zG g 200 mt_L_law (some L) (425, lqv (Int32.ofNat (4 * k)), [.int (xs (4 * k + 1)), .ref 0], w) (426, lqv (Int32.ofNat (4 * k)), [.ref 108, .int (xs (4 * k + 1)), .ref 0], w) := zl_run hg mw_L_law 1 rfl
  obtain ⟨kv, μ1, w1, hq, hw1, hk1, hY, hln, hl2, hZ⟩ := lq_told hg hst C (x1 := xs (4 * k + 1)) (lv := lqv (Int32.ofNat (4 * k))) h.1 hwl
  have b0 : zG g 200 mt_L_law (some L) (429, lqv (Int32.ofNat (4 * k)), [.int kv], w1) (432, ((5, .int kv) :: lqv (Int32.ofNat (4 * k))), [.ref 66], w1) := zl_run hg mw_L_law 2 rfl
  have b1 := zl_arg (g := g) (d := 200) (L := L) (xs := xs) (i := 4 * k) (c := 1) (pc := 432) (lv := ((5, .int kv) :: lqv (Int32.ofNat (4 * k)))) (st := [.ref 66]) (w := w1) hg hxs hL (by omega) rfl rfl rfl rfl rfl rfl rfl
  obtain ⟨st', μ2, w2, hr, hw2, ⟨v, rfl⟩, hF, hI2, h29, h85, h20⟩ := lr_told hg C (x1 := xs (4 * k + 1)) (lv := ((5, .int kv) :: lqv (Int32.ofNat (4 * k)))) hw1 (lRI h.2.1 hk1)
  have c0 : zG g 200 mt_L_law (some L) (441, ((5, .int kv) :: lqv (Int32.ofNat (4 * k))), [.int (Int32.ofInt v)], w2) (23, [(4, .int ((Int32.ofNat (4 * k)) + Int32.ofInt 4)), (6, .int (Int32.ofInt v)), (5, .int kv), (3, .ref 108), (2, .ref 66), (1, .ref 0), (0, .ref 1048576)], [], w2) := zl_run hg mw_L_law 4 rfl
  have c1 := zG_weak c0 (lv' := lqv ((Int32.ofNat (4 * k)) + Int32.ofInt 4)) (fun q hq => by
    simp only [lqv, List.mem_cons, List.not_mem_nil, or_false] at hq ⊢
    rcases hq with h | h | h | h | h <;> simp [h])
  rw [l_i4] at c1
  have e1 := congrFun (hk1.1 66 (by omega) (by omega)) ((29 : Nat) : Int)
  have e2 := congrFun hF.1 ((4 : Nat) : Int)
  have e3 := h.2.2.1
  have e4 := h.2.2.2.1
  have hT : lT μ2 := lT_k h.2.2.2.2.2.2.1 hk1 hl2 hF h85 hln
  exact ⟨μ2, w2, (lG_trans (lG_z C a0) (lG_trans (lG_z C a1) (lG_trans (lG_z C a9) (lG_trans hq (lG_trans (lG_z C b0) (lG_trans (lG_z C b1) (lG_trans hr (lG_z C c1)))))))), lI_next h hk hk1 hF hw2 hI2 (by omega) (by omega) (by omega) hT (lB_k h.2.2.2.2.2.2.2 h.2.1 (lY_t hY (lY_f hF.2.2.2.2.2.2.1 hF.2.2.2.2.1)) (rKq_t (rKq_K hk1) h20.1))⟩
set_option maxRecDepth 100000 in
set_option maxHeartbeats 4000000 in
theorem lc_variable {g : zΓ} {x : lE} {L k : Nat} {xs : Nat → Int32} (hg : zg g) (hst : g.2.2.1.stackTraces = false) (C : lC g x L) (hxs : ∀ q, q < L → g.2.2.2.2.2.1 (mx_E + 1 + q) = .int (xs q)) (hL : L ≤ 2048) (hi : 4 * k + 4 ≤ L) {μ : zM} {w : mW} (h : lI k μ w) :
    ∃ (μ' : zM) (w' : mW), lG g x (459, lqv (Int32.ofNat (4 * k)), [], w) (23, lqv (Int32.ofNat (4 * (k + 1))), [], w') ∧ lI (k + 1) μ' w' := by
  have hk : k ≤ 600 := by omega
  have hwl := lI_len h hk
  have a0 : zG g 200 mt_L_law (some L) (459, lqv (Int32.ofNat (4 * k)), [], w) (460, lqv (Int32.ofNat (4 * k)), [.ref 0], w) := zl_run hg mw_L_law 1 rfl
  have a1 := zl_arg (g := g) (d := 200) (L := L) (xs := xs) (i := 4 * k) (c := 1) (pc := 460) (lv := (lqv (Int32.ofNat (4 * k)))) (st := [.ref 0]) (w := w) hg hxs hL (by omega) rfl rfl rfl rfl rfl rfl rfl
  have a2 := zl_arg (g := g) (d := 200) (L := L) (xs := xs) (i := 4 * k) (c := 2) (pc := 466) (lv := (lqv (Int32.ofNat (4 * k)))) (st := [.int (xs (4 * k + 1)), .ref 0]) (w := w) hg hxs hL (by omega) rfl rfl rfl rfl rfl rfl rfl
  have a9 : zG g 200 mt_L_law (some L) (472, lqv (Int32.ofNat (4 * k)), [.int (xs (4 * k + 2)), .int (xs (4 * k + 1)), .ref 0], w) (473, lqv (Int32.ofNat (4 * k)), [.ref 108, .int (xs (4 * k + 2)), .int (xs (4 * k + 1)), .ref 0], w) := zl_run hg mw_L_law 1 rfl
  obtain ⟨kv, μ1, w1, hq, hw1, hk1, hY, hln, hl2, hZ⟩ := lq_variable hg hst C (x1 := xs (4 * k + 1)) (x2 := xs (4 * k + 2)) (lv := lqv (Int32.ofNat (4 * k))) h.1 hwl
  have b0 : zG g 200 mt_L_law (some L) (476, lqv (Int32.ofNat (4 * k)), [.int kv], w1) (479, ((5, .int kv) :: lqv (Int32.ofNat (4 * k))), [.ref 66], w1) := zl_run hg mw_L_law 2 rfl
  have b1 := zl_arg (g := g) (d := 200) (L := L) (xs := xs) (i := 4 * k) (c := 1) (pc := 479) (lv := ((5, .int kv) :: lqv (Int32.ofNat (4 * k)))) (st := [.ref 66]) (w := w1) hg hxs hL (by omega) rfl rfl rfl rfl rfl rfl rfl
  have b2 := zl_arg (g := g) (d := 200) (L := L) (xs := xs) (i := 4 * k) (c := 2) (pc := 485) (lv := ((5, .int kv) :: lqv (Int32.ofNat (4 * k)))) (st := [.int (xs (4 * k + 1)), .ref 66]) (w := w1) hg hxs hL (by omega) rfl rfl rfl rfl rfl rfl rfl
  obtain ⟨st', μ2, w2, hr, hw2, ⟨v, rfl⟩, hF, hI2, h29, h85, h20⟩ := lr_variable hg C (x1 := xs (4 * k + 1)) (x2 := xs (4 * k + 2)) (lv := ((5, .int kv) :: lqv (Int32.ofNat (4 * k)))) hw1 (lRI h.2.1 hk1)
  have c0 : zG g 200 mt_L_law (some L) (494, ((5, .int kv) :: lqv (Int32.ofNat (4 * k))), [.int (Int32.ofInt v)], w2) (23, [(4, .int ((Int32.ofNat (4 * k)) + Int32.ofInt 4)), (6, .int (Int32.ofInt v)), (5, .int kv), (3, .ref 108), (2, .ref 66), (1, .ref 0), (0, .ref 1048576)], [], w2) := zl_run hg mw_L_law 4 rfl
  have c1 := zG_weak c0 (lv' := lqv ((Int32.ofNat (4 * k)) + Int32.ofInt 4)) (fun q hq => by
    simp only [lqv, List.mem_cons, List.not_mem_nil, or_false] at hq ⊢
    rcases hq with h | h | h | h | h <;> simp [h])
  rw [l_i4] at c1
  have e1 := congrFun (hk1.1 66 (by omega) (by omega)) ((29 : Nat) : Int)
  have e2 := congrFun hF.1 ((4 : Nat) : Int)
  have e3 := h.2.2.1
  have e4 := h.2.2.2.1
  have hT : lT μ2 := lT_k h.2.2.2.2.2.2.1 hk1 hl2 hF h85 hln
  exact ⟨μ2, w2, (lG_trans (lG_z C a0) (lG_trans (lG_z C a1) (lG_trans (lG_z C a2) (lG_trans (lG_z C a9) (lG_trans hq (lG_trans (lG_z C b0) (lG_trans (lG_z C b1) (lG_trans (lG_z C b2) (lG_trans hr (lG_z C c1)))))))))), lI_next h hk hk1 hF hw2 hI2 (by omega) (by omega) (by omega) hT (lB_k h.2.2.2.2.2.2.2 h.2.1 (lY_t hY (lY_f hF.2.2.2.2.2.2.1 hF.2.2.2.2.1)) (rKq_t (rKq_K hk1) h20.1))⟩
set_option maxRecDepth 100000 in
set_option maxHeartbeats 4000000 in
theorem lc_written {g : zΓ} {x : lE} {L k : Nat} {xs : Nat → Int32} (hg : zg g) (hst : g.2.2.1.stackTraces = false) (C : lC g x L) (hxs : ∀ q, q < L → g.2.2.2.2.2.1 (mx_E + 1 + q) = .int (xs q)) (hL : L ≤ 2048) (hi : 4 * k + 4 ≤ L) {μ : zM} {w : mW} (h : lI k μ w) :
    ∃ (μ' : zM) (w' : mW), lG g x (499, lqv (Int32.ofNat (4 * k)), [], w) (23, lqv (Int32.ofNat (4 * (k + 1))), [], w') ∧ lI (k + 1) μ' w' := by
  have hk : k ≤ 600 := by omega
  have hwl := lI_len h hk
  have a0 : zG g 200 mt_L_law (some L) (499, lqv (Int32.ofNat (4 * k)), [], w) (500, lqv (Int32.ofNat (4 * k)), [.ref 0], w) := zl_run hg mw_L_law 1 rfl
  have a1 := zl_arg (g := g) (d := 200) (L := L) (xs := xs) (i := 4 * k) (c := 1) (pc := 500) (lv := (lqv (Int32.ofNat (4 * k)))) (st := [.ref 0]) (w := w) hg hxs hL (by omega) rfl rfl rfl rfl rfl rfl rfl
  have a9 : zG g 200 mt_L_law (some L) (506, lqv (Int32.ofNat (4 * k)), [.int (xs (4 * k + 1)), .ref 0], w) (507, lqv (Int32.ofNat (4 * k)), [.ref 108, .int (xs (4 * k + 1)), .ref 0], w) := zl_run hg mw_L_law 1 rfl
  obtain ⟨kv, μ1, w1, hq, hw1, hk1, hY, hln, hl2, hZ⟩ := lq_written hg hst C (x1 := xs (4 * k + 1)) (lv := lqv (Int32.ofNat (4 * k))) h.1 hwl
  have b0 : zG g 200 mt_L_law (some L) (510, lqv (Int32.ofNat (4 * k)), [.int kv], w1) (513, ((5, .int kv) :: lqv (Int32.ofNat (4 * k))), [.ref 66], w1) := zl_run hg mw_L_law 2 rfl
  have b1 := zl_arg (g := g) (d := 200) (L := L) (xs := xs) (i := 4 * k) (c := 1) (pc := 513) (lv := ((5, .int kv) :: lqv (Int32.ofNat (4 * k)))) (st := [.ref 66]) (w := w1) hg hxs hL (by omega) rfl rfl rfl rfl rfl rfl rfl
  obtain ⟨st', μ2, w2, hr, hw2, ⟨v, rfl⟩, hF, hI2, h29, h85, h20⟩ := lr_written hg C (x1 := xs (4 * k + 1)) (lv := ((5, .int kv) :: lqv (Int32.ofNat (4 * k)))) hw1 (lRI h.2.1 hk1)
  have c0 : zG g 200 mt_L_law (some L) (522, ((5, .int kv) :: lqv (Int32.ofNat (4 * k))), [.int (Int32.ofInt v)], w2) (23, [(4, .int ((Int32.ofNat (4 * k)) + Int32.ofInt 4)), (6, .int (Int32.ofInt v)), (5, .int kv), (3, .ref 108), (2, .ref 66), (1, .ref 0), (0, .ref 1048576)], [], w2) := zl_run hg mw_L_law 4 rfl
  have c1 := zG_weak c0 (lv' := lqv ((Int32.ofNat (4 * k)) + Int32.ofInt 4)) (fun q hq => by
    simp only [lqv, List.mem_cons, List.not_mem_nil, or_false] at hq ⊢
    rcases hq with h | h | h | h | h <;> simp [h])
  rw [l_i4] at c1
  have e1 := congrFun (hk1.1 66 (by omega) (by omega)) ((29 : Nat) : Int)
  have e2 := congrFun hF.1 ((4 : Nat) : Int)
  have e3 := h.2.2.1
  have e4 := h.2.2.2.1
  have hT : lT μ2 := lT_k h.2.2.2.2.2.2.1 hk1 hl2 hF h85 hln
  exact ⟨μ2, w2, (lG_trans (lG_z C a0) (lG_trans (lG_z C a1) (lG_trans (lG_z C a9) (lG_trans hq (lG_trans (lG_z C b0) (lG_trans (lG_z C b1) (lG_trans hr (lG_z C c1)))))))), lI_next h hk hk1 hF hw2 hI2 (by omega) (by omega) (by omega) hT (lB_k h.2.2.2.2.2.2.2 h.2.1 (lY_t hY (lY_f hF.2.2.2.2.2.2.1 hF.2.2.2.2.1)) (rKq_t (rKq_K hk1) h20.1))⟩
set_option maxRecDepth 100000 in
set_option maxHeartbeats 4000000 in
theorem lc_read {g : zΓ} {x : lE} {L k : Nat} {xs : Nat → Int32} (hg : zg g) (hst : g.2.2.1.stackTraces = false) (C : lC g x L) (hxs : ∀ q, q < L → g.2.2.2.2.2.1 (mx_E + 1 + q) = .int (xs q)) (hL : L ≤ 2048) (hi : 4 * k + 4 ≤ L) {μ : zM} {w : mW} (h : lI k μ w) :
    ∃ (μ' : zM) (w' : mW), lG g x (176, lqv (Int32.ofNat (4 * k)), [], w) (23, lqv (Int32.ofNat (4 * (k + 1))), [], w') ∧ lI (k + 1) μ' w' := by
  have hk : k ≤ 600 := by omega
  have hwl := lI_len h hk
  have a0 : zG g 200 mt_L_law (some L) (176, lqv (Int32.ofNat (4 * k)), [], w) (177, lqv (Int32.ofNat (4 * k)), [.ref 0], w) := zl_run hg mw_L_law 1 rfl
  obtain ⟨s1, μ1, w1, hq, hw1, ⟨v1, rfl, hv1⟩, hk1, hln, hax⟩ := lx_read hg C (lv := lqv (Int32.ofNat (4 * k))) h.1 (by unfold zcq; have := h.2.2.2.2.1; omega) h.2.2.2.2.2.2.1 h.2.2.2.1
  have b0 : zG g 200 mt_L_law (some L) (180, lqv (Int32.ofNat (4 * k)), [.int (Int32.ofInt v1)], w1) (182, lqv (Int32.ofNat (4 * k)), [.ref 66], w1) := zl_run hg mw_L_law 2 rfl
  obtain ⟨s2, μ2, w2, hr, hw2, ⟨v2, rfl, hv2⟩, hF, hI2, h29, h85⟩ := lr_read hg C (lv := lqv (Int32.ofNat (4 * k))) hw1 (lRI h.2.1 hk1) (by omega)
  have c0 : zG g 200 mt_L_law (some L) (185, lqv (Int32.ofNat (4 * k)), [.int (Int32.ofInt v2)], w2) (23, [(4, .int ((Int32.ofNat (4 * k)) + Int32.ofInt 4)), (3, .ref 108), (2, .ref 66), (1, .ref 0), (0, .ref 1048576)], [], w2) := zl_run hg mw_L_law 4 rfl
  have c1 := zG_weak c0 (lv' := lqv ((Int32.ofNat (4 * k)) + Int32.ofInt 4)) (fun q hq => by
    simp only [lqv, List.mem_cons, List.not_mem_nil, or_false] at hq ⊢
    rcases hq with h | h | h | h | h <;> simp [h])
  rw [l_i4] at c1
  have e1 := congrFun (hk1.1 66 (by omega) (by omega)) ((29 : Nat) : Int)
  have e2 := congrFun hF.1 ((4 : Nat) : Int)
  have e3 := h.2.2.1
  have e4 := h.2.2.2.1
  exact ⟨μ2, w2, lG_trans (lG_z C a0) (lG_trans hq (lG_trans (lG_z C b0) (lG_trans hr (lG_z C c1)))), lI_next h hk hk1 hF hw2 hI2 (by omega) (by omega) (by omega) (lT_0 (by omega)) (lB_rd h.2.2.2.2.2.2.2 (lRI h.2.1 hk1) hI2 (T := (μ.1 2, μ.1 1 ((4 : Nat) : Int))) (T' := (μ1.1 85, μ1.1 66 ((29 : Nat) : Int))) ⟨show μ.1 1 ((4 : Nat) : Int) = μ1.1 66 ((29 : Nat) : Int) by omega, fun i a b => show μ.1 2 i = μ1.1 85 i by rw [hk1.1 85 (by decide) (by decide)]; exact (h.2.2.2.2.2.2.1 i a b).1⟩ (show 0 ≤ μ.1 1 ((4 : Nat) : Int) by omega) hF.2.2.2.2.2.2.1 hF.2.2.2.2.1 (rKq_K hk1) h.2.1 hv1 hax hv2)⟩
set_option maxRecDepth 100000 in
set_option maxHeartbeats 4000000 in
theorem lc_fault {g : zΓ} {x : lE} {L k : Nat} {xs : Nat → Int32} (hg : zg g) (hst : g.2.2.1.stackTraces = false) (C : lC g x L) (hxs : ∀ q, q < L → g.2.2.2.2.2.1 (mx_E + 1 + q) = .int (xs q)) (hL : L ≤ 2048) (hi : 4 * k + 4 ≤ L) {μ : zM} {w : mW} (h : lI k μ w) :
    ∃ (μ' : zM) (w' : mW), lG g x (189, lqv (Int32.ofNat (4 * k)), [], w) (23, lqv (Int32.ofNat (4 * (k + 1))), [], w') ∧ lI (k + 1) μ' w' := by
  have hk : k ≤ 600 := by omega
  have hwl := lI_len h hk
  have a0 : zG g 200 mt_L_law (some L) (189, lqv (Int32.ofNat (4 * k)), [], w) (190, lqv (Int32.ofNat (4 * k)), [.ref 0], w) := zl_run hg mw_L_law 1 rfl
  obtain ⟨s1, μ1, w1, hq, hw1, ⟨v1, rfl, -⟩, hk1, ⟨hln, hl2, hZ⟩, hY⟩ := lx_fault hg C (lv := lqv (Int32.ofNat (4 * k))) h.1
  have b0 : zG g 200 mt_L_law (some L) (193, lqv (Int32.ofNat (4 * k)), [.int (Int32.ofInt v1)], w1) (195, lqv (Int32.ofNat (4 * k)), [.ref 66], w1) := zl_run hg mw_L_law 2 rfl
  obtain ⟨s2, μ2, w2, hr, hw2, ⟨v2, rfl, -⟩, hF, hI2, h29, h85, h20⟩ := lr_fault hg C (lv := lqv (Int32.ofNat (4 * k))) hw1 (lRI h.2.1 hk1)
  have c0 : zG g 200 mt_L_law (some L) (198, lqv (Int32.ofNat (4 * k)), [.int (Int32.ofInt v2)], w2) (23, [(4, .int ((Int32.ofNat (4 * k)) + Int32.ofInt 4)), (3, .ref 108), (2, .ref 66), (1, .ref 0), (0, .ref 1048576)], [], w2) := zl_run hg mw_L_law 4 rfl
  have c1 := zG_weak c0 (lv' := lqv ((Int32.ofNat (4 * k)) + Int32.ofInt 4)) (fun q hq => by
    simp only [lqv, List.mem_cons, List.not_mem_nil, or_false] at hq ⊢
    rcases hq with h | h | h | h | h <;> simp [h])
  rw [l_i4] at c1
  have e1 := congrFun (hk1.1 66 (by omega) (by omega)) ((29 : Nat) : Int)
  have e2 := congrFun hF.1 ((4 : Nat) : Int)
  have e3 := h.2.2.1
  have e4 := h.2.2.2.1
  exact ⟨μ2, w2, lG_trans (lG_z C a0) (lG_trans hq (lG_trans (lG_z C b0) (lG_trans hr (lG_z C c1)))), lI_next h hk hk1 hF hw2 hI2 (by omega) (by omega) (by omega) (lT_k h.2.2.2.2.2.2.1 hk1 hl2 hF h85 hln) (lB_k h.2.2.2.2.2.2.2 h.2.1 (lY_t hY (lY_f hF.2.2.2.2.2.2.1 hF.2.2.2.2.1)) (rKq_t (rKq_K hk1) h20.1))⟩
set_option maxRecDepth 100000 in
set_option maxHeartbeats 4000000 in
theorem lc_above {g : zΓ} {x : lE} {L k : Nat} {xs : Nat → Int32} (hg : zg g) (hst : g.2.2.1.stackTraces = false) (C : lC g x L) (hxs : ∀ q, q < L → g.2.2.2.2.2.1 (mx_E + 1 + q) = .int (xs q)) (hL : L ≤ 2048) (hi : 4 * k + 4 ≤ L) {μ : zM} {w : mW} (h : lI k μ w) :
    ∃ (μ' : zM) (w' : mW), lG g x (446, lqv (Int32.ofNat (4 * k)), [], w) (23, lqv (Int32.ofNat (4 * (k + 1))), [], w') ∧ lI (k + 1) μ' w' := by
  have hk : k ≤ 600 := by omega
  have hwl := lI_len h hk
  have a0 : zG g 200 mt_L_law (some L) (446, lqv (Int32.ofNat (4 * k)), [], w) (447, lqv (Int32.ofNat (4 * k)), [.ref 0], w) := zl_run hg mw_L_law 1 rfl
  obtain ⟨B, hB1, hB2, hB3⟩ := h.2.2.2.2.2.2.2
  obtain ⟨s1, μ1, w1, hq, hw1, ⟨v1, rfl⟩, hk1, hln, hY, -⟩ := lx_above hg C (lv := lqv (Int32.ofNat (4 * k))) h.1 h.2.2.2.2.2.2.1 h.2.2.2.1 (lC4_t hB1)
  have b0 : zG g 200 mt_L_law (some L) (450, lqv (Int32.ofNat (4 * k)), [.int (Int32.ofInt v1)], w1) (452, lqv (Int32.ofNat (4 * k)), [.ref 66], w1) := zl_run hg mw_L_law 2 rfl
  obtain ⟨s2, μ2, w2, hr, hw2, ⟨v2, rfl⟩, hF, hI2, h29, h85, h20⟩ := lr_above hg C (lv := lqv (Int32.ofNat (4 * k))) hw1 (lRI h.2.1 hk1) (by omega) (rTq_k hB2.1 (rKq_K hk1) hB3.1) hB3.1
  have c0 : zG g 200 mt_L_law (some L) (455, lqv (Int32.ofNat (4 * k)), [.int (Int32.ofInt v2)], w2) (23, [(4, .int ((Int32.ofNat (4 * k)) + Int32.ofInt 4)), (3, .ref 108), (2, .ref 66), (1, .ref 0), (0, .ref 1048576)], [], w2) := zl_run hg mw_L_law 4 rfl
  have c1 := zG_weak c0 (lv' := lqv ((Int32.ofNat (4 * k)) + Int32.ofInt 4)) (fun q hq => by
    simp only [lqv, List.mem_cons, List.not_mem_nil, or_false] at hq ⊢
    rcases hq with h | h | h | h | h <;> simp [h])
  rw [l_i4] at c1
  have e1 := congrFun (hk1.1 66 (by omega) (by omega)) ((29 : Nat) : Int)
  have e2 := congrFun hF.1 ((4 : Nat) : Int)
  have e3 := h.2.2.1
  have e4 := h.2.2.2.1
  exact ⟨μ2, w2, lG_trans (lG_z C a0) (lG_trans hq (lG_trans (lG_z C b0) (lG_trans hr (lG_z C c1)))), lI_next h hk hk1 hF hw2 hI2 (by omega) (by omega) (by omega) (lT_0 (by omega)) (lB_k h.2.2.2.2.2.2.2 h.2.1 (lY_t hY (lY_f hF.2.2.2.2.2.2.1 hF.2.2.2.2.1)) (rKq_t (rKq_K hk1) h20))⟩
set_option maxRecDepth 100000 in
set_option maxHeartbeats 4000000 in
theorem lc_clear {g : zΓ} {x : lE} {L k : Nat} {xs : Nat → Int32} (hg : zg g) (hst : g.2.2.1.stackTraces = false) (C : lC g x L) (hxs : ∀ q, q < L → g.2.2.2.2.2.1 (mx_E + 1 + q) = .int (xs q)) (hL : L ≤ 2048) (hi : 4 * k + 4 ≤ L) {μ : zM} {w : mW} (h : lI k μ w) :
    ∃ (μ' : zM) (w' : mW), lG g x (527, lqv (Int32.ofNat (4 * k)), [], w) (23, lqv (Int32.ofNat (4 * (k + 1))), [], w') ∧ lI (k + 1) μ' w' := by
  have hk : k ≤ 600 := by omega
  have hwl := lI_len h hk
  have a0 : zG g 200 mt_L_law (some L) (527, lqv (Int32.ofNat (4 * k)), [], w) (528, lqv (Int32.ofNat (4 * k)), [.ref 0], w) := zl_run hg mw_L_law 1 rfl
  obtain ⟨s1, μ1, w1, hq, hw1, hv1, hk1, hln, hc1, hc2, hc7⟩ := lx_clear hg C (lv := lqv (Int32.ofNat (4 * k))) h.1 (by unfold zcq; have := h.2.2.2.2.1; omega)
  subst hv1
  have b0 : zG g 200 mt_L_law (some L) (531, lqv (Int32.ofNat (4 * k)), [], w1) (532, lqv (Int32.ofNat (4 * k)), [.ref 66], w1) := zl_run hg mw_L_law 1 rfl
  obtain ⟨s2, μ2, w2, hr, hw2, hv2, hF, hI2, h29, h85, h20⟩ := lr_clear hg C (lv := lqv (Int32.ofNat (4 * k))) hw1 (lRI h.2.1 hk1) (by omega)
  subst hv2
  have c0 : zG g 200 mt_L_law (some L) (535, lqv (Int32.ofNat (4 * k)), [], w2) (23, [(4, .int ((Int32.ofNat (4 * k)) + Int32.ofInt 4)), (3, .ref 108), (2, .ref 66), (1, .ref 0), (0, .ref 1048576)], [], w2) := zl_run hg mw_L_law 3 rfl
  have c1 := zG_weak c0 (lv' := lqv ((Int32.ofNat (4 * k)) + Int32.ofInt 4)) (fun q hq => by
    simp only [lqv, List.mem_cons, List.not_mem_nil, or_false] at hq ⊢
    rcases hq with h | h | h | h | h <;> simp [h])
  rw [l_i4] at c1
  have e1 := congrFun (hk1.1 66 (by omega) (by omega)) ((29 : Nat) : Int)
  have e2 := congrFun hF.1 ((4 : Nat) : Int)
  have e3 := h.2.2.1
  have e4 := h.2.2.2.1
  exact ⟨μ2, w2, lG_trans (lG_z C a0) (lG_trans hq (lG_trans (lG_z C b0) (lG_trans hr (lG_z C c1)))), lI_next h hk hk1 hF hw2 hI2 (by omega) (by omega) (by omega) (lT_0 (by omega)) (lB_cl h.2.2.2.2.2.2.2 (l_co h.1) hI2 hF.2.2.2.2.2.2.1 hF.2.2.2.2.1 hc1 hc2 h20.1 h20.2.1 h20.2.2.1.1 h20.2.2.2)⟩
