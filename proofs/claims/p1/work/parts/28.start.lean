/-! ### the law from its entry -/
def mx_wf (w : List mE) : Bool := w.all (fun c => match c with
  | .inl (_, fs) => fs.all (fun v => match v with | .ref j => Nat.blt j mx_E | .double _ => false | _ => true)
  | _ => true)
theorem mx_wf_c {cy : Nat → ClassId} {r r' : Nat → Value} {w : List mE} (h : mx_wf w = true) (hrr : ∀ j, j < mx_E → r j = r' j) {i : Nat} {c : mE} (hw : w[i]? = some c) : mx_c cy r c = mx_c cy r' c := by
  have h1 := List.all_eq_true.mp h c (List.mem_of_getElem? hw)
  match c, h1 with
  | .inl (ci, fs), h1 =>
    have h2 : fs.map (mx_v r) = fs.map (mx_v r') := List.map_congr_left (fun v hv => by
      have h3 := List.all_eq_true.mp h1 v hv
      cases v <;> first | rfl | exact hrr _ (mx_blt h3) | (cases h3; done))
    show Sum.inr (ci, fs.map (mx_v r)) = Sum.inr (ci, fs.map (mx_v r'))
    rw [h2]
  | .inr ((k, n), .inl a), _ => rfl
  | .inr ((k, n), .inr a), _ => rfl
def ml_r (b B : Nat) (z : Int32) (xs : Nat → Int32) (j : Nat) : Value := if j < mx_E then .ref (B + j) else if j = mx_E then .ref b else if j = mx_F then .int z else .int (xs (j - mx_E - 1))
theorem ml_r_ok (b B : Nat) (z : Int32) (xs : Nat → Int32) : mx_r (ml_r b B z xs) B := by
  refine ⟨fun j hj => by simp [ml_r, hj], ⟨b, by simp [ml_r]⟩, fun j hj => ?_⟩
  unfold ml_r
  rw [if_neg (by omega), if_neg (by omega)]
  split
  · exact ⟨_, rfl⟩
  · exact ⟨_, rfl⟩
theorem ml_r_x (b B : Nat) (z : Int32) (xs : Nat → Int32) (i : Nat) (hi : i < 1000) : ml_r b B z xs (mx_E + 1 + i) = .int (xs i) := by
  unfold ml_r
  rw [if_neg (by omega), if_neg (by omega), if_neg (by unfold mx_E mx_F; omega)]
  rw [show mx_E + 1 + i - mx_E - 1 = i by omega]
theorem ml_r_f (b B : Nat) (z : Int32) (xs : Nat → Int32) : ml_r b B z xs mx_F = .int z := by
  unfold ml_r
  rw [if_neg (by decide), if_neg (by decide), if_pos rfl]
theorem ml_wf : mx_wf ml_w1.1 = true := by decide +kernel
set_option maxHeartbeats 4000000 in
set_option maxRecDepth 100000 in
/-- THE LAW, from its entry -/
theorem whole_start {p : Program} {e : Env} {s : State} {m : MethodId} {below : List Frame} {meth : Method} {c : Code} (l : Launch) (hst : l.stackTraces = false) {b L : Nat} {xs : Nat → Int32} (hL : L ≤ 4) (C0 : lw_At p s m meth c b L xs) (hnm : meth.name = "law") : W p l e room_1 s m #[Value.ref b] below meth c s.heap [] 0 0 (lw_Z below #[Value.ref b] s) (entryFrame m ([Value.ref b] : List Value).toArray 8) := by
  obtain ⟨hx, hb, hret, hml, hown, hts, hX, hbl, hlocks, hgv⟩ := id C0
  have hE : mx_Env s := fun w hw hk a => mx_ok_warm (State.WarmedH.refl s) hk (hts w hw)
  have hkn : ∀ ci : Nat, ∃ (cC : ClassId) (iS : Nat → Nat), ∀ q : vw_C, mx_cl[ci]? = some q → u_Kn s q.1 q.2.1 q.2.2 cC iS := by
    intro ci
    cases hq : mx_cl[ci]? with
    | none => exact ⟨0, fun _ => 0, fun q h => by cases h⟩
    | some q =>
      obtain ⟨hws, -, -, -, i1, i2, hi1, -⟩ := mx_C_of hq
      obtain ⟨cC, iS, h⟩ := u_known (args := #[Value.ref b]) (fun w hw => hE w (hws w hw).1 (hws w hw).2 _) (fun w h => h) (mx_at_use hi1 hE)
      exact ⟨cC, iS, fun q' h' => by cases h'; exact h⟩
  have har : ∀ ty : FieldType, (Cond.arrayClass ty).before #[] s = true → ∃ cA : ClassId, ArrOfT s cA ty ∧ s.vm.findClass ("[" ++ ty.toString) = some cA := by
    intro ty h
    obtain ⟨cA, kA, comp, h1, h2, h3⟩ := Cond.arrayClass_spec h
    exact ⟨cA, fun n z => ⟨fun k h => (by cases h), kA, h2, comp, h3⟩, h1⟩
  obtain ⟨cI, aI1, aI2⟩ := har .int (mx_at_use mx_ar_int hE)
  obtain ⟨cJ, aJ1, aJ2⟩ := har .long (mx_at_use mx_ar_long hE)
  obtain ⟨cZ, aZ1, aZ2⟩ := har .boolean (mx_at_use mx_ar_boolean hE)
  obtain ⟨cB, aB1, aB2⟩ := har .byte (mx_at_use mx_ar_byte hE)
  obtain ⟨D, hD⟩ : ∃ D : va_G, ∀ (k : Nat) (q : vw_C), mx_cl[k]? = some q → u_Kn s q.1 q.2.1 q.2.2 (D.1 k) (D.2 k) :=
    ⟨(fun k => Classical.choose (hkn k), fun k => Classical.choose (Classical.choose_spec (hkn k))), fun k q h => Classical.choose_spec (Classical.choose_spec (hkn k)) q h⟩
  obtain ⟨cy, hcy⟩ : ∃ cy : Nat → ClassId, cy 0 = cI ∧ cy 1 = cJ ∧ cy 2 = cZ ∧ cy 3 = cB := ⟨fun k => if k = 0 then cI else if k = 1 then cJ else if k = 2 then cZ else cB, rfl, rfl, rfl, rfl⟩
  obtain ⟨y0, y1, y2, y3⟩ := hcy
  have hK : va_K D mx_cl (mx_tys cy) s := by
    refine ⟨hD, fun k q hq => ?_⟩
    match k, hq with
    | 0, hq => cases hq; rw [y0]; exact ⟨aI1, aI2⟩
    | 1, hq => cases hq; rw [y1]; exact ⟨aJ1, aJ2⟩
    | 2, hq => cases hq; rw [y2]; exact ⟨aZ1, aZ2⟩
    | 3, hq => cases hq; rw [y3]; exact ⟨aB1, aB2⟩
    | k + 4, hq => simp [mx_tys] at hq
  have hbA : ¬ s.heap.size ≤ b := Nat.not_le.mpr hbl
  have hA : ∀ a : Nat, a < s.heap.size → ¬ s.heap.size ≤ a := fun a h => Nat.not_le.mpr h
  have hfl := flat_of_before _ hgv
  have hEX : mx_EX s.heap.size s s.heap := by
    refine ⟨vx_Zqof (hts _ (List.mem_of_getElem? (i := 1073) (by decide +kernel))) (mx_at_use (q := 158) (by decide +kernel) hE) (hfl _ (by decide +kernel)) hA, vx_Zqof (hts _ (List.mem_of_getElem? (i := 1075) (by decide +kernel))) (mx_at_use (q := 158) (by decide +kernel) hE) (hfl _ (by decide +kernel)) hA, fun q hq => ?_, va_Nc.of (hfl _ (by decide +kernel))⟩
    have hstr : ∀ (k : Nat) (tx : String), (Cond.stringRef RX8 k tx).before #[Value.ref b] s = true → (Cond.exactly (.string RX8 k) "java/lang/String").before #[Value.ref b] s = true → ∃ sa, vk_R RX8 k tx sa s := by
      intro k tx h1 h2
      obtain ⟨a, -, -, -, h3, -⟩ := Cond.exactly_spec h2
      exact ⟨a, vk_R.of h1 h3⟩
    simp only [ms_str, List.mem_cons, List.not_mem_nil, or_false] at hq
    rcases hq with rfl | rfl | rfl | rfl | rfl | rfl | rfl | rfl | rfl | rfl
    all_goals exact hstr _ _ (hts _ (by decide +kernel)) (hfl _ (by decide +kernel))
  -- the start: both objects and the row are made
  have hl := lv_entry ([.ref b]) (n := 8) (Nat.le_of_ble_eq_true rfl)
  rw [lg_entry_eq]
  generalize (lg_sl ([.ref b]) ++ List.replicate (8 - (lg_sl ([.ref b])).length) Slot.unset).toArray = ls at hl ⊢
  have hr0 := ml_r_ok b s.heap.size 0 xs
  have hr1 := ml_r_ok b s.heap.size 1 xs
  have hb0 : ∀ z, ml_r b s.heap.size z xs 1048576 = .ref b := fun z => by
    show ml_r b s.heap.size z xs mx_E = _
    simp [ml_r]
  have mkX : ∀ (z : Int32) (kb : mK) (sc : Option Nat), mx_kb kb (ml_r b s.heap.size z xs) → mx_sc sc (ml_r b s.heap.size z xs) s.heap.size s s.heap → mx_X kb p room_1 s m meth c D cy (ml_r b s.heap.size z xs) s.heap.size mt_L_law sc s.heap 40 := fun z kb sc hkb hsc => ⟨hx, hb, hml, hown, hE, hK, ml_r_ok b s.heap.size z xs, hsc, hnm, by decide, by decide, hkb⟩
  have hkb0 : mx_kb ml_kb0 (ml_r b s.heap.size 0 xs) := kb_cons (ml_r_f b s.heap.size 0 xs) (by decide) kb_nil
  have hl0 : lv_has ls 8 (mx_lv (ml_r b s.heap.size 0 xs) [(0, .ref 1048576)]) := by
    show lv_has ls 8 [(0, ml_r b s.heap.size 0 xs 1048576)]
    rw [hb0]; exact hl
  have hR0 : mx_R D cy (ml_r b s.heap.size 0 xs) s.heap.size ([], 0) s.heap := ⟨fun _ => rfl, Nat.zero_le _, fun j c h => by simp at h⟩
  refine mx_runN_St (l := l) (e := e) (args := #[Value.ref b]) (below := below) mt_ok mw_L_law (mkX 0 ml_kb0 none hkb0 (fun L q => by cases q)) (mo_met hr0 hkb0 40) (fun σ σ' q => by cases q) 13 ml_run0 _ 0 0 0 0 s.heap ls [] hl0 hR0 va_S.rf (Nat.zero_le _) (Nat.zero_le _) (by show ml_w1.1.length + 0 - 0 ≤ 600002; rw [ml_len]; decide) (by show ml_w1.2 + 0 - 0 ≤ 7302232; rw [ml_sz]; decide) (fun ls H locs hl1 hR1 hS => ?_)
  show W _ _ _ _ _ _ _ _ _ _ H locs (ml_w1.1.length + 0 - 0) (ml_w1.2 + 0 - 0) _ (F0 m 23 ls [])
  rw [ml_len, ml_sz]
  -- from here on nothing is made but what is thrown
  have hv : lv_has ls 8 (mx_lv (ml_r b s.heap.size 1 xs) ml_lv) := by
    have e1 : mx_lv (ml_r b s.heap.size 1 xs) ml_lv = mx_lv (ml_r b s.heap.size 0 xs) ml_lv := by
      unfold mx_lv ml_lv
      apply List.map_congr_left
      intro q hq
      simp only [List.mem_cons, List.not_mem_nil, or_false] at hq
      rcases hq with rfl | rfl | rfl | rfl | rfl
      · rfl
      all_goals
        show (_, ml_r b s.heap.size 1 xs _) = (_, ml_r b s.heap.size 0 xs _)
        first | rw [hb0, hb0] | rw [hr0.1 _ (by decide), hr1.1 _ (by decide)]
    rw [e1]; exact hl1
  have hR : mx_R D cy (ml_r b s.heap.size 1 xs) s.heap.size ml_w1 H := by
    refine ⟨fun q => ?_, hR1.2.1, fun j c hj hd => ?_⟩
    · rw [ml_r_f] at q
      exact absurd q (by decide)
    · rw [mx_wf_c (r' := ml_r b s.heap.size 0 xs) ml_wf (fun j hj => by rw [hr0.1 j hj, hr1.1 j hj]) hj]
      exact hR1.2.2 j c hj hd
  have hfz : ml_r b s.heap.size 1 xs mx_F ≠ .int 0 := by rw [ml_r_f]; decide
  have hsc : ∀ L', L' = L → mx_sc (some L') (ml_r b s.heap.size 1 xs) s.heap.size s s.heap := by
    intro L' hL' L2 h2
    cases h2
    subst hL'
    exact ⟨b, xs, hb0 1, hX, hbl, hbA, fun i hi => ml_r_x b s.heap.size 1 xs i (by omega)⟩
  have mkC : ∀ L', L' = L → ∀ kb, mx_kb kb (ml_r b s.heap.size 1 xs) → ml_C kb p s m meth c (ml_r b s.heap.size 1 xs) D cy (some L') := fun L' hL' kb hkb => ⟨mkX 1 kb (some L') hkb (hsc L' hL'), hret, hlocks⟩
  have fin : ∀ (L' K pc : Nat), L' = L → mq3 (mx_runN [] mt_tab (ml_call []) (some L') (fun _ => none) mt_L_law K (pc, ml_lv, [], ml_w1)) = true → W p l e room_1 s m #[Value.ref b] below meth c H locs 109 357940 (lw_Z below #[Value.ref b] s) (F0 m pc ls []) := by
    intro L' K pc hL' hrun
    have k := ml_end (p := p) (l := l) (e := e) (b := b) (below := below) (k0 := 0) (k1 := 0) (σ := (pc, ml_lv, [], ml_w1)) (mkC L' hL' [] kb_nil) hrun (by omega) (by omega) hv hR hS
    simp only [ml_len, ml_sz] at k
    exact k
  rcases (show L = 0 ∨ L = 1 ∨ L = 2 ∨ L = 3 ∨ L = 4 by omega) with h | h | h | h | h
  · exact fin 0 _ 23 h.symm ke_L0
  · exact fin 1 _ 23 h.symm ke_L1
  · exact fin 2 _ 23 h.symm ke_L2
  · exact fin 3 _ 23 h.symm ke_L3
  have h4 := h.symm
  refine W.cs (cells' := ml_w1.1.length + 0 - 0) (slots' := ml_w1.2 + 0 - 0) (by rw [ml_len]) (by rw [ml_sz]) ?_
  refine mx_runN_St (l := l) (e := e) (args := #[Value.ref b]) (below := below) mt_ok mw_L_law (mkC 4 h4 [] kb_nil).1 (mo_met hr1 kb_nil 40) (fun σ σ' q => by cases q) 10 ke_L4 _ 0 0 0 0 H ls locs hv hR hS (Nat.zero_le _) (Nat.zero_le _) (by show ml_w1.1.length + 0 - 0 ≤ 600002; rw [ml_len]; decide) (by show ml_w1.2 + 0 - 0 ≤ 7302232; rw [ml_sz]; decide) (fun ls H locs hv hR hS => ?_)
  show W _ _ _ _ _ _ _ _ _ _ H locs (ml_w1.1.length + 0 - 0) (ml_w1.2 + 0 - 0) _ (F0 m 38 ls [.int 15, ml_r b s.heap.size 1 xs 1048577])
  rw [ml_len, ml_sz]
  have hx0 : ml_r b s.heap.size 1 xs 1048577 = .int (xs 0) := ml_r_x b s.heap.size 1 xs 0 (by omega)
  have hx1 : ml_r b s.heap.size 1 xs 1048578 = .int (xs 1) := ml_r_x b s.heap.size 1 xs 1 (by omega)
  have hx2 : ml_r b s.heap.size 1 xs 1048579 = .int (xs 2) := ml_r_x b s.heap.size 1 xs 2 (by omega)
  have hx3 : ml_r b s.heap.size 1 xs 1048580 = .int (xs 3) := ml_r_x b s.heap.size 1 xs 3 (by omega)
  rw [hx0]
  have fin : ∀ (K pc : Nat), mq3 (mx_runN [] mt_tab (ml_call []) (some 4) (fun _ => none) mt_L_law K (pc, ml_lv, [], ml_w1)) = true → W p l e room_1 s m #[Value.ref b] below meth c H locs 109 357940 (lw_Z below #[Value.ref b] s) (F0 m pc ls []) := by
    intro K pc hrun
    have k := ml_end (p := p) (l := l) (e := e) (b := b) (below := below) (k0 := 0) (k1 := 0) (σ := (pc, ml_lv, [], ml_w1)) (mkC 4 h4 [] kb_nil) hrun (by omega) (by omega) hv hR hS
    simp only [ml_len, ml_sz] at k
    exact k
  have mkC4 := mkC 4 h4
  refine lv_iand hx hb dL_law_38 ?_
  obtain ⟨j, hj, ej⟩ := pk_andE (xs 0) (m := 15) 4 (by decide)
  rw [ej]
  rcases (show j = 0 ∨ j = 1 ∨ j = 2 ∨ j = 3 ∨ j = 4 ∨ j = 5 ∨ j = 6 ∨ j = 7 ∨ j = 8 ∨ j = 9 ∨ j = 10 ∨ j = 11 ∨ j = 12 ∨ j = 13 ∨ j = 14 ∨ j = 15 by omega) with rfl | rfl | rfl | rfl | rfl | rfl | rfl | rfl | rfl | rfl | rfl | rfl | rfl | rfl | rfl | rfl
  · refine lv_tableIn (tgt := 104) hx hb dL_law_39 (by decide) (by decide) (by rfl) (by decide) ?_
    exact cj_feed hst hfz mkC4 hx1 hx2 hx3 hEX hv hR hS
  · refine lv_tableIn (tgt := 204) hx hb dL_law_39 (by decide) (by decide) (by rfl) (by decide) ?_
    exact fin _ 204 ke_read
  · refine lv_tableIn (tgt := 217) hx hb dL_law_39 (by decide) (by decide) (by rfl) (by decide) ?_
    exact fin _ 217 ke_fault
  · refine lv_tableIn (tgt := 230) hx hb dL_law_39 (by decide) (by decide) (by rfl) (by decide) ?_
    exact cj_cls hst hfz mkC4 hx1 hx2 hEX hv hR hS
  · refine lv_tableIn (tgt := 297) hx hb dL_law_39 (by decide) (by decide) (by rfl) (by decide) ?_
    exact cj_isAbove hst hfz mkC4 hx1 hx2 hEX hv hR hS
  · refine lv_tableIn (tgt := 365) hx hb dL_law_39 (by decide) (by decide) (by rfl) (by decide) ?_
    exact cj_parameter hst hfz mkC4 hx1 hx2 hEX hv hR hS
  · refine lv_tableIn (tgt := 432) hx hb dL_law_39 (by decide) (by decide) (by rfl) (by decide) ?_
    exact cj_way hst hfz mkC4 hx1 hx2 hEX hv hR hS
  · refine lv_tableIn (tgt := 500) hx hb dL_law_39 (by decide) (by decide) (by rfl) (by decide) ?_
    exact cj_ask hst hfz mkC4 hx1 hx2 hEX hv hR hS
  · refine lv_tableIn (tgt := 556) hx hb dL_law_39 (by decide) (by decide) (by rfl) (by decide) ?_
    exact cj_told hst hfz mkC4 hx1 hx2 hEX hv hR hS
  · refine lv_tableIn (tgt := 612) hx hb dL_law_39 (by decide) (by decide) (by rfl) (by decide) ?_
    exact fin _ 612 ke_above
  · refine lv_tableIn (tgt := 625) hx hb dL_law_39 (by decide) (by decide) (by rfl) (by decide) ?_
    exact cj_variable hst hfz mkC4 hx1 hx2 hEX hv hR hS
  · refine lv_tableIn (tgt := 693) hx hb dL_law_39 (by decide) (by decide) (by rfl) (by decide) ?_
    exact cj_written hst hfz mkC4 hx1 hx2 hEX hv hR hS
  · refine lv_tableIn (tgt := 749) hx hb dL_law_39 (by decide) (by decide) (by rfl) (by decide) ?_
    exact fin _ 749 ke_clear
  · refine lv_tableOut (tgt := 760) hx hb dL_law_39 (by decide) (by decide) ?_
    exact fin _ 760 ke_none
  · refine lv_tableOut (tgt := 760) hx hb dL_law_39 (by decide) (by decide) ?_
    exact fin _ 760 ke_none
  · refine lv_tableOut (tgt := 760) hx hb dL_law_39 (by decide) (by decide) ?_
    exact fin _ 760 ke_none
