/-! ### makeRoom: which row -/
def yMk (μ μ' : zM) (t : Nat) (n : Int) : Prop := (μ' = μ ∧ μ.1 t ((6 : Nat) : Int) + n ≤ μ.2 (μ.1 t ((5 : Nat) : Int)).toNat) ∨ ∃ (J : Nat) (n2 : Int), μ' = zu (zrn μ J (μ.1 t ((5 : Nat) : Int)).toNat (μ.2 (μ.1 t ((5 : Nat) : Int)).toNat) n2) t ((5 : Nat) : Int) J ∧ (109 ≤ J ∧ J < 1000000) ∧ (∀ s : Nat, (s = 26 ∨ s = 44) → (μ.1 s ((5 : Nat) : Int)).toNat ≠ J) ∧ μ.1 t ((6 : Nat) : Int) + n ≤ n2 ∧ μ.2 (μ.1 t ((5 : Nat) : Int)).toNat < n2
def yk_X1_makeRoom : zC := fun As μ Q => ∃ (t : Nat) (a1 : Int), As = [.inr (.inr (t, 26)), .inl a1] ∧ (t = 26 ∨ t = 44) ∧ ((-2147483648) ≤ a1 ∧ a1 ≤ 2147483647) ∧ (0 ≤ a1 ∧ μ.1 t ((6 : Nat) : Int) + a1 ≤ 88400) ∧ (zcq μ) ∧ (∀ (μ' : zM), zle μ μ' → yMk μ μ' t a1 → Q none μ')
set_option maxHeartbeats 8000000 in
theorem ym_X1_makeRoom {g : zΓ} (hg : zg g) (d : Nat) (hd : 3 ≤ d) : zOk g d 27 yk_X1_makeRoom := by
  obtain ⟨d, rfl⟩ : ∃ d', d = d' + 1 := ⟨d - 1, by omega⟩
  have hM : mt_tab[27]? = some mt_X1_makeRoom := rfl
  have hG := zg_go hg
  have hmem := List.mem_of_getElem? (zg_at hg hM)
  refine zOk_of hG (zg_at hg hM) fun As μ Q w hw hr hC => ?_
  obtain ⟨t, a1, rfl, ht, ha1, hu, hcq, hQ⟩ := hC
  refine ⟨rfl, ?_⟩
  have ht6 : t < 1048576 := by omega
  obtain ⟨c6, q6, fs, rfl, fl, f1, f2, f3⟩ := hw.2.2.1 t (.inl 1) (by rcases ht with rfl | rfl <;> rfl)
  cases (show some zfl1 = some fl from f1)
  have len : fs.length = 7 := f2
  obtain ⟨v5, hv5⟩ : ∃ v, fs[5]? = some v := ⟨fs[5], by simp [len]⟩
  obtain ⟨v6, hv6⟩ : ∃ v, fs[6]? = some v := ⟨fs[6], by simp [len]⟩
  obtain ⟨j, rfl, hjE, ej, hdy⟩ := f3 5 (.inr (.inr (.inr 1000))) v5 rfl hv5
  obtain ⟨rfl, u0, u1⟩ := f3 6 (.inl (0, 88400)) v6 rfl hv6
  have hdy : zDyn μ j := hdy.1
  have ej : (j : Int) = μ.1 t 5 := ej
  obtain ⟨n1, a, qj, en1, hrw⟩ := hw.2.2.2 j hdy
  have hn1 : 1024 ≤ n1 ∧ n1 ≤ 88400 := by have := hdy.2; rw [en1] at this; omega
  have hjb : Nat.beq j mx_E = false := by
    cases hb : Nat.beq j mx_E with
    | false => rfl
    | true => have := Nat.eq_of_beq_eq_true hb; unfold mx_E at this; omega
  obtain ⟨N, eN⟩ : ∃ N : Int32, N = Int32.ofInt (μ.1 t ((6 : Nat) : Int)) + Int32.ofInt a1 := ⟨_, rfl⟩
  have lN : N.toInt = μ.1 t ((6 : Nat) : Int) + a1 := by rw [eN, z_add, z_rt ⟨by omega, by omega⟩]
  have ecl : (μ.1 t ((5 : Nat) : Int)).toNat = j := by rw [show μ.1 t ((5 : Nat) : Int) = j from ej.symm]; rfl
  obtain ⟨A1, eA1⟩ : ∃ A1 : Int32, A1 = Int32.ofInt a1 := ⟨_, rfl⟩
  obtain ⟨L, eL⟩ : ∃ L : Int32, L = Int32.ofNat n1 := ⟨_, rfl⟩
  have lL : L.toInt = n1 := by rw [eL]; exact nI_toInt (by omega)
  have tA : Nat.ble t mx_E = true := Nat.ble_eq_true_of_le (by unfold mx_E; omega)
  show zE g d mt_X1_makeRoom none [] _ Q _ (0, [(0, .ref t), (1, .int (Int32.ofInt a1))], [], w)
  rw [← eA1]
  have ld : ∀ st : List Value, mx_loc 3 (.aload_n 0) [(0, .ref t), (1, .int A1)] st = some ([(0, .ref t), (1, .int A1)], .ref t :: st) := fun st => by simp [mx_loc, List.lookup, mx_isA, tA]
  have ld' : ∀ st : List Value, mx_loc 3 (.aload_n 0) [(2, .int N), (0, .ref t), (1, .int A1)] st = some ([(2, .int N), (0, .ref t), (1, .int A1)], .ref t :: st) := fun st => by simp [mx_loc, List.lookup, mx_isA, tA]
  refine zE_step (zs_loc (i := .aload_n 0) hG hmem rfl rfl (ld _)) ?_
  refine zE_step (zs_mem (i := .getfield 27) hG hmem rfl rfl rfl rfl (zgetf (tt := 0) (ci := 1) (kf := 6) rfl q6 hv6 rfl)) ?_
  refine zE_step (zs_loc (i := .iload_n 1) hG hmem rfl rfl rfl) ?_
  refine zE_step (zs_pure (i := .iadd) hG hmem rfl rfl) ?_
  rw [eA1, ← eN, ← eA1]
  refine zE_step (zs_loc (lv' := [(2, .int N), (0, .ref t), (1, .int A1)]) (st' := []) (i := .istore_n 2) hG hmem rfl rfl rfl) ?_
  refine zE_step (zs_loc (i := .iload_n 2) hG hmem rfl rfl rfl) ?_
  refine zE_step (zs_loc (i := .aload_n 0) hG hmem rfl rfl (ld' _)) ?_
  refine zE_step (zs_mem (i := .getfield 24) hG hmem rfl rfl rfl rfl (zgetf (tt := 0) (ci := 1) (kf := 5) rfl q6 hv5 rfl)) ?_
  have al : ∀ st : List Value, mx_mem g.1 none mt_X1_makeRoom.2.2.2.2.2.2 mt_X1_makeRoom.2.2.2.2.2.1 .arraylength (.ref j :: st) w = some (.int L :: st, w) := fun st => by
    rw [eL]
    simp only [mx_mem, hjb, qj]
    rfl
  refine zE_step (zs_mem (i := .arraylength) hG hmem rfl rfl rfl rfl (al _)) ?_
  have stay : N.toInt ≤ n1 → zE g d mt_X1_makeRoom none [] (fun _ _ _ => False) Q (fun _ _ => False) (49, [(2, .int N), (0, .ref t), (1, .int A1)], [], w) := fun hs => ⟨_, μ, zG_refl, hw, Or.inr (Or.inl ⟨none, rfl, (fun q h => by cases h), hQ μ (zle_r μ) (Or.inl ⟨rfl, by rw [ecl, en1]; omega⟩)⟩)⟩
  have hcE : ∀ (b : Bool), mx_cmp .le N L = b → mx_br g.1 13 (.if_icmp .le 36) [.int L, .int N] = some (if b then 49 else 16, []) := fun b hb => by
    show (match mx_dec g.1 .le (.int N) (.int L) with | some true => some (49, ([] : List Value)) | some false => some (16, []) | none => none) = _
    simp only [mx_dec, hb]
    cases b <;> rfl
  cases hc1 : mx_cmp .le N L with
  | true => exact zE_step (zs_br (i := .if_icmp .le 36) hG hmem rfl rfl rfl (hcE true hc1)) (stay (by simp only [mx_cmp, decide_eq_true_eq, Int32.le_iff_toInt_le, lL] at hc1; omega))
  | false =>
  refine zE_step (zs_br (i := .if_icmp .le 36) hG hmem rfl rfl rfl (hcE false hc1)) ?_
  refine zE_step (zs_loc (i := .iload_n 2) hG hmem rfl rfl rfl) ?_
  refine zE_step (zs_mem (st' := [.int 88400, .int N]) (w' := w) (i := .ldc 71) hG hmem rfl rfl rfl rfl rfl) ?_
  have hcF : ∀ (b : Bool), mx_cmp .gt N 88400 = b → mx_br g.1 19 (.if_icmp .gt 30) [.int 88400, .int N] = some (if b then 49 else 22, []) := fun b hb => by
    show (match mx_dec g.1 .gt (.int N) (.int 88400) with | some true => some (49, ([] : List Value)) | some false => some (22, []) | none => none) = _
    simp only [mx_dec, hb]
    cases b <;> rfl
  cases hc2 : mx_cmp .gt N 88400 with
  | true =>
    have l88 : (88400 : Int32).toInt = 88400 := by decide
    simp only [mx_cmp, decide_eq_true_eq, GT.gt, Int32.lt_iff_toInt_lt, l88] at hc2
    omega
  | false =>
  refine zE_step (zs_br (i := .if_icmp .gt 30) hG hmem rfl rfl rfl (hcF false hc2)) ?_
  have l88 : (88400 : Int32).toInt = 88400 := by decide
  have hN1 : (n1 : Int) < N.toInt := by
    simp only [mx_cmp, decide_eq_false_iff_not, Int32.le_iff_toInt_le, lL] at hc1
    omega
  have hN2 : N.toInt ≤ 88400 := by
    simp only [mx_cmp, decide_eq_false_iff_not, Int32.lt_iff_toInt_lt, l88] at hc2
    omega
  refine zE_step (zs_loc (i := .aload_n 0) hG hmem rfl rfl (ld' _)) ?_
  refine zE_step (zs_loc (i := .aload_n 0) hG hmem rfl rfl (ld' _)) ?_
  refine zE_step (zs_mem (i := .getfield 24) hG hmem rfl rfl rfl rfl (zgetf (tt := 0) (ci := 1) (kf := 5) rfl q6 hv5 rfl)) ?_
  refine zE_step (zs_mem (st' := [.int 88400, .ref j, .ref t]) (w' := w) (i := .ldc 71) hG hmem rfl rfl rfl rfl rfl) ?_
  refine zE_step (zs_pure (st' := [.int 2, .int 88400, .ref j, .ref t]) (i := .iconst 2) hG hmem rfl rfl) ?_
  refine zE_step (zs_loc (i := .aload_n 0) hG hmem rfl rfl (ld' _)) ?_
  refine zE_step (zs_mem (i := .getfield 24) hG hmem rfl rfl rfl rfl (zgetf (tt := 0) (ci := 1) (kf := 5) rfl q6 hv5 rfl)) ?_
  refine zE_step (zs_mem (i := .arraylength) hG hmem rfl rfl rfl rfl (al _)) ?_
  refine zE_step (zs_pure (st' := [.int (2 * L), .int 88400, .ref j, .ref t]) (i := .imul) hG hmem rfl rfl) ?_
  refine zE_step (zs_loc (st' := [.int N, .int (2 * L), .int 88400, .ref j, .ref t]) (i := .iload_n 2) hG hmem rfl rfl rfl) ?_
  have l2 : (2 * L).toInt = 2 * n1 := by
    have e : (2 * L : Int32) = Int32.ofInt (2 * n1) := by
      rw [← z_mul]
      congr 1
    rw [e, z_rt ⟨by omega, by omega⟩]
  obtain ⟨X, eX⟩ : ∃ X : Int32, X = if 2 * L < N then N else 2 * L := ⟨_, rfl⟩
  obtain ⟨Y, eY⟩ : ∃ Y : Int32, Y = if X < 88400 then X else 88400 := ⟨_, rfl⟩
  have lX : X.toInt = if 2 * n1 < N.toInt then N.toInt else 2 * n1 := by
    rw [eX]
    simp only [Int32.lt_iff_toInt_lt, l2]
    split <;> simp_all
  have lY : Y.toInt = if X.toInt < 88400 then X.toInt else 88400 := by
    rw [eY]
    simp only [Int32.lt_iff_toInt_lt, l88]
    split <;> simp_all
  have hY0 : (n1 : Int) < Y.toInt ∧ Y.toInt ≤ 88400 ∧ (Y.toInt = 88400 ∨ (2 * n1 ≤ Y.toInt ∧ Y.toInt < 88400)) := by
    rw [lY, lX]
    split <;> split <;> omega
  obtain ⟨n2, en2⟩ : ∃ n2 : Nat, (n2 : Int) = Y.toInt := ⟨Y.toInt.toNat, by omega⟩
  have eYn : Y = Int32.ofNat n2 := by
    apply Int32.toInt_inj.1
    rw [show (Int32.ofNat n2).toInt = n2 from nI_toInt (by omega)]
    exact en2.symm
  have ivk : ∀ (call : Nat → List Value → mW → Option (Option Value × mW)) (a0 ix : Nat) (x y v : Int32) (st : List Value), mt_X1_makeRoom.2.2.2.2.2.1.lookup ix = some (4, a0, 2, (match ix with | 72 => 325 | _ => 328)) → (ix = 72 ∧ a0 = 193 ∨ ix = 77 ∧ a0 = 194) → Nat.ble ((st.map fun v => v.category).sum) 8 = true → call a0 [.int x, .int y] w = some (some (.int v), w) → mx_ivk mt_tab call mt_X1_makeRoom.2.2.2.2.2.1 (.invokestatic ix) (.int y :: .int x :: st) w = some (.int v :: st, w) := by
    intro call a0 ix x y v st h1 h2 h3 h4
    have q1 : Nat.ble w.1.length w.1.length = true := Nat.ble_eq_true_of_le (Nat.le_refl _)
    have q2 : Nat.ble w.2 w.2 = true := Nat.ble_eq_true_of_le (Nat.le_refl _)
    unfold mx_ivk
    dsimp only
    rw [h1]
    dsimp only
    rcases h2 with ⟨rfl, rfl⟩ | ⟨rfl, rfl⟩
    · rw [show mt_tab[193]? = some mt_J9_max_7cf53 from rfl]
      have e1 : Nat.ble 2 (Value.int y :: .int x :: st).length = true := Nat.ble_eq_true_of_le (by simp)
      simp [mt_J9_max_7cf53, e1, h3, h4, q1, q2]
    · rw [show mt_tab[194]? = some mt_J9_min_7cf53 from rfl]
      have e1 : Nat.ble 2 (Value.int y :: .int x :: st).length = true := Nat.ble_eq_true_of_le (by simp)
      simp [mt_J9_min_7cf53, e1, h3, h4, q1, q2]
  obtain ⟨d, rfl⟩ : ∃ d', d = d' + 1 := ⟨d - 1, by omega⟩
  obtain ⟨call1, k1, k2⟩ := zpt_ex (zmax2 hg (d := d) (x := 2 * L) (y := N) (w := w))
  rw [← eX] at k1
  refine zE_step (zs_ivk (i := .invokestatic 72) hG hmem k2 rfl rfl rfl rfl rfl (by rw [hg.1]; exact ivk call1 193 72 (2 * L) N X _ rfl (Or.inl ⟨rfl, rfl⟩) rfl k1)) ?_
  obtain ⟨call2, k3, k4⟩ := zpt_ex (zmin2 hg (d := d) (x := 88400) (y := X) (w := w))
  rw [← eY] at k3
  refine zE_step (zs_ivk (i := .invokestatic 77) hG hmem k4 rfl rfl rfl rfl rfl (by rw [hg.1]; exact ivk call2 194 77 88400 X Y _ rfl (Or.inr ⟨rfl, rfl⟩) rfl k3)) ?_
  have hwl : w.1.length < 1000000 := by
    have h1 := hw.2.1.1
    have h2 := (zL_le hw).1
    unfold zcq at hcq
    omega
  have h109 : 109 ≤ w.1.length := by
    obtain ⟨c, e1, -⟩ := hw.2.2.1 108 _ (show znth zcl 108 = some (.inr (1, 1, (-2147483648), 2147483647)) from rfl)
    have := (List.getElem?_eq_some_iff.mp e1).1
    omega
  rw [eYn]
  refine zE_step (zmr_call hg (d := d + 1) (by omega) (t := t) qj (n2 := n2) (by omega) (by omega) hwl) ?_
  have hw1 := zRep_row (j := j) (n1 := n1) (n2 := n2) (a := a) hw hwl h109 (by omega) hrw (by omega)
  refine zE_step (zG_weak zG_refl (lv' := zlv [(0, .inr (.inr (t, 26))), (1, .inl a1)]) (by
    intro q hq
    rw [eA1]
    rcases List.mem_cons.mp hq with h | h
    · rw [h]; exact List.mem_cons_of_mem _ List.mem_cons_self
    · exact List.mem_cons_of_mem _ (List.mem_cons_of_mem _ h))) ?_
  have hdJ : zDyn (zrn μ w.1.length j n1 n2) w.1.length := ⟨by omega, by rw [zrn_J]; omega, by rw [zrn_J]; omega⟩
  have ho : ∀ s : Nat, (s = 26 ∨ s = 44) → (μ.1 s 5).toNat ≠ w.1.length := by
    intro s hs
    obtain ⟨c7, q7, fs7, rfl, fl7, g1, g2, g3⟩ := hw.2.2.1 s (.inl 1) (by rcases hs with rfl | rfl <;> rfl)
    cases (show some zfl1 = some fl7 from g1)
    have len : fs7.length = 7 := g2
    obtain ⟨v7, hv7⟩ : ∃ v, fs7[5]? = some v := ⟨fs7[5], by simp [len]⟩
    obtain ⟨j7, -, -, e3, e4⟩ := g3 5 (.inr (.inr (.inr 1000))) v7 rfl hv7
    have e3 : (j7 : Int) = μ.1 s 5 := e3
    obtain ⟨n7, a7, q8, -, -⟩ := hw.2.2.2 j7 e4.1
    have := (List.getElem?_eq_some_iff.mp q8).1
    omega
  have z := zle_rn (n1 := n1) (n2 := n2) ht ej en1 (by omega) (by omega) (by omega) ⟨h109, hwl⟩ ho
  have hz : zw (zOk g (d + 1)) mt_X1_makeRoom ([], []) (fun _ _ _ => False) Q (fun _ _ => False) 10 false (zsuf 46 mt_X1_makeRoom.2.2.2.2.1) [(0, .inr (.inr (t, 26))), (1, .inl a1)] [.inr (.inr (w.1.length, 1000)), .inr (.inr (t, 26))] (zrn μ w.1.length j n1 n2) := by
    refine And.intro ht ?_
    refine And.intro ⟨hdJ, trivial⟩ (fun μ' e => ?_)
    exact And.intro rfl (hQ _ (by rw [e]; exact z) (Or.inr ⟨w.1.length, n2, by rw [e, ecl, en1], ⟨h109, hwl⟩, ho, by rw [en2, lY, lX]; split <;> split <;> omega, by rw [ecl, en1]; omega⟩))
  obtain ⟨q, r, e1, e2⟩ := zw_ok (sc := none) hG hmem (fun _ _ q => q) 10 hz (zsuf_suf _ _) hw1 ⟨List.forall_mem_cons.mpr ⟨ht6, List.forall_mem_cons.mpr ⟨True.intro, fun _ q => by cases q⟩⟩, List.forall_mem_cons.mpr ⟨by show w.1.length < 1048576; omega, List.forall_mem_cons.mpr ⟨ht6, fun _ q => by cases q⟩⟩⟩
  have e3 := zsuf_pc e1
  rw [e3] at e2
  exact e2
