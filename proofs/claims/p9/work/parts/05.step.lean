/-! ### the steps -/
theorem mx_blt {a b : Nat} (h : Nat.blt a b = true) : a < b := Nat.le_of_ble_eq_true h
def mx_pure (i : Instr) (st : List Value) : Option (List Value) := match i, st with
  | .iconst n, st => some (.int (Int32.ofInt n) :: st)
  | .bipush n, st => some (.int (Int8.ofInt n).toInt32 :: st)
  | .sipush n, st => some (.int (Int16.ofInt n).toInt32 :: st)
  | .lconst n, st => some (.long (Int64.ofNat (n : Nat)) :: st)
  | .iadd, .int y :: .int x :: st => some (.int (x + y) :: st)
  | .isub, .int y :: .int x :: st => some (.int (x - y) :: st)
  | .imul, .int y :: .int x :: st => some (.int (x * y) :: st)
  | .iand, .int y :: .int x :: st => some (.int (x &&& y) :: st)
  | .ior, .int y :: .int x :: st => some (.int (x ||| y) :: st)
  | .ixor, .int y :: .int x :: st => some (.int (x ^^^ y) :: st)
  | .idiv, .int y :: .int x :: st => if y = 0 then none else some (.int (x / y) :: st)
  | .irem, .int y :: .int x :: st => if y = 0 then none else some (.int (x - x / y * y) :: st)
  | .ishl, .int y :: .int x :: st => some (.int (x <<< (y &&& 31)) :: st)
  | .ishr, .int y :: .int x :: st => some (.int (x >>> (y &&& 31)) :: st)
  | .iushr, .int y :: .int x :: st => some (.int (x.toUInt32 >>> (y.toUInt32 &&& Int32.toUInt32 31)).toInt32 :: st)
  | .i2l, .int x :: st => some (.long x.toInt64 :: st)
  | .l2i, .long x :: st => some (.int x.toInt32 :: st)
  | .i2b, .int x :: st => some (.int x.toInt8.toInt32 :: st)
  | .i2c, .int x :: st => some (.int (x.toUInt32 % 65536).toInt32 :: st)
  | .land, .long y :: .long x :: st => some (.long (x &&& y) :: st)
  | .lor, .long y :: .long x :: st => some (.long (x ||| y) :: st)
  | .lshl, .int y :: .long x :: st => some (.long (x <<< (y.toInt64 &&& 63)) :: st)
  | .lshr, .int y :: .long x :: st => some (.long (x >>> (y.toInt64 &&& 63)) :: st)
  | .lushr, .int y :: .long x :: st => some (.long (x.toUInt64 >>> (y.toInt64.toUInt64 &&& Int64.toUInt64 63)).toInt64 :: st)
  | .lcmp, .long y :: .long x :: st => some (.int (lg_cmp x y) :: st)
  | .dup, v :: st => if v.category = 1 then some (v :: v :: st) else none
  | .pop, v :: st => if v.category = 1 then some st else none
  | .dup2, v :: u :: st => if v.category = 1 ∧ u.category = 1 then some (v :: u :: v :: u :: st) else if v.category = 2 then some (v :: v :: u :: st) else none
  | _, _ => none
def mx_len (i : Instr) : Nat := match i with
  | .bipush _ | .iload _ | .lload _ | .aload _ | .istore _ | .lstore _ | .astore _ | .ldc _ | .newarray _ => 2
  | .sipush _ | .iinc _ _ | .ldc2_w _ | .getfield _ | .putfield _ | .invokevirtual _ | .invokestatic _ | .invokespecial _ | .new _ | .goto _ | .ifCond _ _ | .if_icmp _ _ => 3
  | _ => 1
def mx_st1 (lv : List (Nat × Value)) (i : Nat) (v : Value) : List (Nat × Value) := (i, v) :: lv.filter (fun q => !(q.1 == i) && !(q.1 + 1 == i && q.2.category == 2))
def mx_st2 (lv : List (Nat × Value)) (i : Nat) (v : Value) : List (Nat × Value) := (i, v) :: lv.filter (fun q => !(q.1 == i) && (!(q.1 == i + 1) && !(q.1 + 1 == i && q.2.category == 2)))
def mx_isI (v : Value) : Bool := match v with
  | .int _ => true
  | .ref j => Nat.blt mx_E j
  | _ => false
def mx_isL (v : Value) : Bool := match v with
  | .long _ => true
  | .double k => decide (k = 77)
  | _ => false
def mx_isA (v : Value) : Bool := match v with
  | .null => true
  | .ref j => Nat.ble j mx_E
  | _ => false
def mx_loc (nL : Nat) (i : Instr) (lv : List (Nat × Value)) (st : List Value) : Option (List (Nat × Value) × List Value) := match i, st with
  | .iload_n n, st => match lv.lookup (n : Nat) with | some v => if mx_isI v then some (lv, v :: st) else none | none => none
  | .iload n, st => match lv.lookup n with | some v => if mx_isI v then some (lv, v :: st) else none | none => none
  | .lload_n n, st => match lv.lookup (n : Nat) with | some v => if mx_isL v then some (lv, v :: st) else none | none => none
  | .lload n, st => match lv.lookup n with | some v => if mx_isL v then some (lv, v :: st) else none | none => none
  | .aload_n n, st => match lv.lookup (n : Nat) with | some v => if mx_isA v then some (lv, v :: st) else none | none => none
  | .aload n, st => match lv.lookup n with | some v => if mx_isA v then some (lv, v :: st) else none | none => none
  | .istore_n n, v :: st => if mx_isI v && Nat.blt (n : Nat) nL then some (mx_st1 lv n v, st) else none
  | .istore n, v :: st => if mx_isI v && Nat.blt n nL then some (mx_st1 lv n v, st) else none
  | .lstore_n n, v :: st => if mx_isL v && Nat.blt ((n : Nat) + 1) nL then some (mx_st2 lv n v, st) else none
  | .lstore n, v :: st => if mx_isL v && Nat.blt (n + 1) nL then some (mx_st2 lv n v, st) else none
  | .astore_n n, v :: st => if mx_isA v && Nat.blt (n : Nat) nL then some (mx_st1 lv n v, st) else none
  | .astore n, v :: st => if mx_isA v && Nat.blt n nL then some (mx_st1 lv n v, st) else none
  | .iinc n k, st => match lv.lookup n with | some (.int x) => if Nat.blt n nL then some (mx_st1 lv n (.int (x + Int32.ofInt k)), st) else none | _ => none
  | _, _ => none
def mx_cmp (c : ClassFile.Cond) (x y : Int32) : Bool := match c with
  | .eq => decide (x = y) | .ne => decide (¬ x = y) | .lt => decide (x < y) | .ge => decide (y ≤ x) | .gt => decide (y < x) | .le => decide (x ≤ y)
def mx_tg (pc : Nat) (off : Int) : Option Nat := match (pc : Int) + off with
  | .ofNat t => some t
  | _ => none
/-- what is known of numbers that are names -/
def mx_kf (kb : mK) (k : ClassFile.Cond × Value × Value) : Option Bool := match kb.find? (fun e => decide (e.1 = k)) with
  | some e => some e.2
  | none => none
def mx_kb (kb : mK) (r : Nat → Value) : Prop := ∀ e ∈ kb, ∀ x y : Int32, mx_v r e.1.2.1 = .int x → mx_v r e.1.2.2 = .int y → mx_cmp e.1.1 x y = e.2
def mx_dec (kb : mK) (c : ClassFile.Cond) (v u : Value) : Option Bool := match v, u with
  | .int x, .int y => some (mx_cmp c x y)
  | v, u => if mx_isI v && mx_isI u then mx_kf kb (c, v, u) else none
def mx_br (kb : mK) (pc : Nat) (i : Instr) (st : List Value) : Option (Nat × List Value) := match i, st with
  | .goto off, st => match mx_tg pc off with | some t => some (t, st) | none => none
  | .ifCond c off, v :: st => match mx_tg pc off with | some t => (match mx_dec kb c v (.int 0) with | some true => some (t, st) | some false => some (pc + 3, st) | none => none) | none => none
  | .if_icmp c off, u :: v :: st => match mx_tg pc off with | some t => (match mx_dec kb c v u with | some true => some (t, st) | some false => some (pc + 3, st) | none => none) | none => none
  | .tableswitch dflt lo hi offs, .int x :: st => if x.toInt < lo ∨ hi < x.toInt then (match mx_tg pc dflt with | some t => some (t, st) | none => none) else
      match offs[(x.toInt - lo).toNat]? with | some off => (match mx_tg pc off with | some t => some (t, st) | none => none) | none => none
  | .tableswitch dflt lo hi _, v :: st => if mx_isI v && ((decide (mx_kf kb (.lt, v, .int (Int32.ofInt lo)) = some true) && decide ((Int32.ofInt lo).toInt = lo)) || (decide (mx_kf kb (.gt, v, .int (Int32.ofInt hi)) = some true) && decide ((Int32.ofInt hi).toInt = hi))) then (match mx_tg pc dflt with | some t => some (t, st) | none => none) else none
  | _, _ => none
theorem mx_kf_spec {kb : mK} {r : Nat → Value} (hkb : mx_kb kb r) {c : ClassFile.Cond} {v u : Value} {b : Bool} (h : mx_kf kb (c, v, u) = some b) {x y : Int32} (hx : mx_v r v = .int x) (hy : mx_v r u = .int y) : mx_cmp c x y = b := by
  unfold mx_kf at h
  split at h
  · rename_i e he
    have h1 := List.find?_some he
    simp only [decide_eq_true_eq] at h1
    have h2 := hkb e (List.mem_of_find?_eq_some he) x y
    rw [h1] at h2
    cases h
    exact h2 hx hy
  · cases h
theorem mx_tg_spec {pc : Nat} {off : Int} {t : Nat} (h : mx_tg pc off = some t) : (pc : Int) + off = (t : Int) := by
  unfold mx_tg at h
  split at h
  · cases h; assumption
  · cases h
section MX
variable {p : Program} {l : Launch} {e : Env} {R : Room} {s : State} {m : MethodId} {args : Array Value} {below : List Frame} {meth : Method} {c : Code} {H : Heap} {locs : List Loc} {cells slots : Nat} {Q : State → Prop}
variable {cc : ByteArray} {pc nL : Nat} {ls : Array Slot} {r : Nat → Value} {B : Nat}
set_option maxHeartbeats 4000000 in
theorem mx_pure_W (hx : p.tables.exec = Jvm.exec) (hb : c.code = cc) (hr : mx_r r B) {i : Instr} {st st' : List Value} (hd : decode cc pc = .ok (i, mx_len i)) (h : mx_pure i st = some st')
    (k : W p l e R s m args below meth c H locs cells slots Q (F0 m (pc + mx_len i) ls (st'.map (mx_v r)))) : W p l e R s m args below meth c H locs cells slots Q (F0 m pc ls (st.map (mx_v r))) := by
  unfold mx_pure at h
  split at h
  case h_1 => cases h; exact lv_iconst hx hb hd rfl k
  case h_2 => cases h; exact lv_bipush hx hb hd rfl k
  case h_3 => cases h; exact lv_sipush hx hb hd rfl k
  case h_4 => cases h; exact lv_lconst hx hb hd rfl k
  case h_5 => cases h; exact lv_iadd hx hb hd k
  case h_6 => cases h; exact lv_isub hx hb hd k
  case h_7 => cases h; exact lv_imul hx hb hd k
  case h_8 => cases h; exact lv_iand hx hb hd k
  case h_9 => cases h; exact lv_ior hx hb hd k
  case h_10 => cases h; exact lv_ixor hx hb hd k
  case h_11 =>
    split at h
    · cases h
    · cases h; exact lv_idiv hx hb hd (by assumption) k
  case h_12 =>
    split at h
    · cases h
    · cases h; exact lv_irem hx hb hd (by assumption) k
  case h_13 => cases h; exact lv_ishl hx hb hd k
  case h_14 => cases h; exact lv_ishr hx hb hd k
  case h_15 => cases h; exact lv_iushr hx hb hd rfl k
  case h_16 => cases h; exact lv_i2l hx hb hd rfl k
  case h_17 => cases h; exact lv_l2i hx hb hd rfl k
  case h_18 => cases h; exact lv_i2b hx hb hd rfl k
  case h_19 => cases h; exact lv_i2c hx hb hd rfl k
  case h_20 => cases h; exact lv_land hx hb hd k
  case h_21 => cases h; exact lv_lor hx hb hd k
  case h_22 => cases h; exact lv_lshl hx hb hd rfl k
  case h_23 => cases h; exact lv_lshr hx hb hd rfl k
  case h_24 => cases h; exact lv_lushr hx hb hd rfl k
  case h_25 => cases h; exact W.lcmp hx hb hd k
  case h_26 =>
    split at h
    · cases h; exact lv_dup hx hb hd (by rw [mx_cat hr]; assumption) k
    · cases h
  case h_27 =>
    split at h
    · cases h; exact lv_pop hx hb hd (by rw [mx_cat hr]; assumption) k
    · cases h
  case h_28 =>
    split at h
    · rename_i hc
      cases h; exact lv_dup2_11 hx hb hd (by rw [mx_cat hr]; exact hc.1) (by rw [mx_cat hr]; exact hc.2) k
    · split at h
      · cases h; exact lv_dup2_2 hx hb hd (by rw [mx_cat hr]; assumption) k
      · cases h
  case h_29 => cases h
/-- the locals as the machine has them -/
def mx_lv (r : Nat → Value) (lv : List (Nat × Value)) : List (Nat × Value) := lv.map (fun q => (q.1, mx_v r q.2))
theorem mx_lk {lv : List (Nat × Value)} {i : Nat} {v : Value} (h : lv.lookup i = some v) : (i, v) ∈ lv := by
  induction lv with
  | nil => simp at h
  | cons q t ih =>
    obtain ⟨j, u⟩ := q
    by_cases hj : i = j
    · subst hj
      simp [List.lookup] at h
      simp [h]
    · have : (i == j) = false := by simpa using hj
      simp [List.lookup, this] at h
      exact List.mem_cons_of_mem _ (ih h)
theorem mx_lv_at {lv : List (Nat × Value)} {i : Nat} {v : Value} (hl : lv_has ls nL (mx_lv r lv)) (h : lv.lookup i = some v) : ls[i]? = some (.val (mx_v r v)) :=
  hl.2.2 (i, mx_v r v) (List.mem_map.mpr ⟨(i, v), mx_lk h, rfl⟩)
theorem mx_lv_st1 (hr : mx_r r B) (lv : List (Nat × Value)) (i : Nat) (v : Value) : (i, mx_v r v) :: (mx_lv r lv).filter (fun q => !(q.1 == i) && !(q.1 + 1 == i && q.2.category == 2)) = mx_lv r (mx_st1 lv i v) := by
  simp only [mx_lv, mx_st1, List.map_cons, List.filter_map]
  congr 2
  apply List.filter_congr
  intro q _
  simp [Function.comp, mx_cat hr]
theorem mx_lv_st2 (hr : mx_r r B) (lv : List (Nat × Value)) (i : Nat) (v : Value) : (i, mx_v r v) :: (mx_lv r lv).filter (fun q => !(q.1 == i) && (!(q.1 == i + 1) && !(q.1 + 1 == i && q.2.category == 2))) = mx_lv r (mx_st2 lv i v) := by
  simp only [mx_lv, mx_st2, List.map_cons, List.filter_map]
  congr 2
  apply List.filter_congr
  intro q _
  simp [Function.comp, mx_cat hr]
theorem mx_isI_spec (hr : mx_r r B) {v : Value} (h : mx_isI v = true) : ∃ x : Int32, mx_v r v = .int x := by
  unfold mx_isI at h
  split at h
  · exact ⟨_, rfl⟩
  · exact hr.2.2 _ (mx_blt h)
  · cases h
theorem mx_isL_spec {v : Value} (h : mx_isL v = true) : ∃ x : Int64, mx_v r v = .long x := by
  unfold mx_isL at h
  split at h
  · exact ⟨_, rfl⟩
  · simp only [decide_eq_true_eq] at h
    exact ⟨_, by simp only [mx_v]; rw [if_pos h]⟩
  · cases h
theorem mx_isA_spec (hr : mx_r r B) {v : Value} (h : mx_isA v = true) : mx_v r v = .null ∨ ∃ a, mx_v r v = .ref a := by
  unfold mx_isA at h
  split at h
  · exact Or.inl rfl
  · exact Or.inr (hr.ref (by simpa using h))
  · cases h
set_option maxHeartbeats 4000000 in
theorem mx_loc_W (hx : p.tables.exec = Jvm.exec) (hb : c.code = cc) (hr : mx_r r B) {i : Instr} {lv lv' : List (Nat × Value)} {st st' : List Value} (hl : lv_has ls nL (mx_lv r lv)) (hd : decode cc pc = .ok (i, mx_len i)) (h : mx_loc nL i lv st = some (lv', st'))
    (k : ∀ ls' : Array Slot, lv_has ls' nL (mx_lv r lv') → W p l e R s m args below meth c H locs cells slots Q (F0 m (pc + mx_len i) ls' (st'.map (mx_v r)))) : W p l e R s m args below meth c H locs cells slots Q (F0 m pc ls (st.map (mx_v r))) := by
  unfold mx_loc at h
  split at h
  case h_1 n st =>
    split at h
    · rename_i v hv
      split at h
      · rename_i hi
        cases h
        have k := k ls hl
        obtain ⟨x, hx2⟩ := mx_isI_spec hr hi
        have h2 := mx_lv_at hl hv
        simp only [List.map_cons, hx2] at k h2
        exact lv_iload_n hx hb hd rfl h2 k
      · cases h
    · cases h
  case h_2 n st =>
    split at h
    · rename_i v hv
      split at h
      · rename_i hi
        cases h
        have k := k ls hl
        obtain ⟨x, hx2⟩ := mx_isI_spec hr hi
        have h2 := mx_lv_at hl hv
        simp only [List.map_cons, hx2] at k h2
        exact lv_iload hx hb hd h2 k
      · cases h
    · cases h
  case h_3 n st =>
    split at h
    · rename_i v hv
      split at h
      · rename_i hi
        cases h
        have k := k ls hl
        obtain ⟨x, hx2⟩ := mx_isL_spec (r := r) hi
        have h2 := mx_lv_at hl hv
        simp only [List.map_cons, hx2] at k h2
        exact lv_lload_n hx hb hd rfl h2 k
      · cases h
    · cases h
  case h_4 n st =>
    split at h
    · rename_i v hv
      split at h
      · rename_i hi
        cases h
        have k := k ls hl
        obtain ⟨x, hx2⟩ := mx_isL_spec (r := r) hi
        have h2 := mx_lv_at hl hv
        simp only [List.map_cons, hx2] at k h2
        exact lv_lload hx hb hd h2 k
      · cases h
    · cases h
  case h_5 n st =>
    split at h
    · rename_i v hv
      split at h
      · rename_i hi
        cases h
        have k := k ls hl
        have h2 := mx_lv_at hl hv
        rcases mx_isA_spec hr hi with hx2 | ⟨x, hx2⟩ <;> simp only [List.map_cons, hx2] at k h2
        · exact lv_aload_nN hx hb hd rfl h2 k
        · exact lv_aload_n hx hb hd rfl h2 k
      · cases h
    · cases h
  case h_6 n st =>
    split at h
    · rename_i v hv
      split at h
      · rename_i hi
        cases h
        have k := k ls hl
        have h2 := mx_lv_at hl hv
        rcases mx_isA_spec hr hi with hx2 | ⟨x, hx2⟩ <;> simp only [List.map_cons, hx2] at k h2
        · exact lv_aloadN hx hb hd h2 k
        · exact lv_aload hx hb hd h2 k
      · cases h
    · cases h
  case h_7 n v st =>
    split at h
    · rename_i hi
      simp only [Bool.and_eq_true] at hi
      cases h
      obtain ⟨x, hx2⟩ := mx_isI_spec hr hi.1
      have hn : (n : Nat) < nL := mx_blt hi.2
      have e1 := mx_lv_st1 hr lv (n : Nat) v
      simp only [List.map_cons, hx2] at e1 ⊢
      exact lv_istore_n hx hb hd rfl hl hn e1 k
    · cases h
  case h_8 n v st =>
    split at h
    · rename_i hi
      simp only [Bool.and_eq_true] at hi
      cases h
      obtain ⟨x, hx2⟩ := mx_isI_spec hr hi.1
      have hn : n < nL := mx_blt hi.2
      have e1 := mx_lv_st1 hr lv n v
      simp only [List.map_cons, hx2] at e1 ⊢
      exact lv_istore hx hb hd hl hn e1 k
    · cases h
  case h_9 n v st =>
    split at h
    · rename_i hi
      simp only [Bool.and_eq_true] at hi
      cases h
      obtain ⟨x, hx2⟩ := mx_isL_spec (r := r) hi.1
      have hn : (n : Nat) + 1 < nL := mx_blt hi.2
      have e1 := mx_lv_st2 hr lv (n : Nat) v
      simp only [List.map_cons, hx2] at e1 ⊢
      exact lv_lstore_n hx hb hd rfl hl hn e1 k
    · cases h
  case h_10 n v st =>
    split at h
    · rename_i hi
      simp only [Bool.and_eq_true] at hi
      cases h
      obtain ⟨x, hx2⟩ := mx_isL_spec (r := r) hi.1
      have hn : n + 1 < nL := mx_blt hi.2
      have e1 := mx_lv_st2 hr lv n v
      simp only [List.map_cons, hx2] at e1 ⊢
      exact lv_lstore hx hb hd hl hn e1 k
    · cases h
  case h_11 n v st =>
    split at h
    · rename_i hi
      simp only [Bool.and_eq_true] at hi
      cases h
      have hn : (n : Nat) < nL := mx_blt hi.2
      have e1 := mx_lv_st1 hr lv (n : Nat) v
      rcases mx_isA_spec hr hi.1 with hx2 | ⟨x, hx2⟩ <;> simp only [List.map_cons, hx2] at e1 ⊢
      · exact lv_astore_nN hx hb hd rfl hl hn e1 k
      · exact lv_astore_n hx hb hd rfl hl hn e1 k
    · cases h
  case h_12 n v st =>
    split at h
    · rename_i hi
      simp only [Bool.and_eq_true] at hi
      cases h
      have hn : n < nL := mx_blt hi.2
      have e1 := mx_lv_st1 hr lv n v
      rcases mx_isA_spec hr hi.1 with hx2 | ⟨x, hx2⟩ <;> simp only [List.map_cons, hx2] at e1 ⊢
      · exact lv_astoreN hx hb hd hl hn e1 k
      · exact lv_astore hx hb hd hl hn e1 k
    · cases h
  case h_13 st n kk =>
    split at h
    · rename_i x hv
      split at h
      · rename_i hi
        cases h
        have hn : n < nL := mx_blt hi
        have e1 := mx_lv_st1 hr lv n (.int (x + Int32.ofInt kk))
        have hm : ((n, Value.int x) : Nat × Value) ∈ mx_lv r lv := List.mem_map.mpr ⟨(n, .int x), mx_lk hv, rfl⟩
        obtain ⟨q, hq⟩ := List.getElem?_of_mem hm
        exact lv_iinc hx hb hd hl hq rfl hn e1 k
      · cases h
    · cases h
  case h_14 => cases h
theorem mx_dec_spec {kb : mK} (hkb : mx_kb kb r) (hr : mx_r r B) {cn : ClassFile.Cond} {v u : Value} {b : Bool} (h : mx_dec kb cn v u = some b) : ∃ x y : Int32, mx_v r v = .int x ∧ mx_v r u = .int y ∧ mx_cmp cn x y = b := by
  unfold mx_dec at h
  split at h
  · cases h; exact ⟨_, _, rfl, rfl, rfl⟩
  · split at h
    · rename_i hi
      simp only [Bool.and_eq_true] at hi
      obtain ⟨x, hx⟩ := mx_isI_spec hr hi.1
      obtain ⟨y, hy⟩ := mx_isI_spec hr hi.2
      exact ⟨x, y, hx, hy, mx_kf_spec hkb h hx hy⟩
    · cases h
set_option maxHeartbeats 4000000 in
theorem mx_br_W (hx : p.tables.exec = Jvm.exec) (hb : c.code = cc) {kb : mK} (hkb : mx_kb kb r) (hr : mx_r r B) {i : Instr} {st st' : List Value} {pc' len : Nat} (hd : decode cc pc = .ok (i, len)) (hlen : len = mx_len i ∨ ∃ a b d f, i = .tableswitch a b d f) (h : mx_br kb pc i st = some (pc', st'))
    (k : W p l e R s m args below meth c H locs cells slots Q (F0 m pc' ls (st'.map (mx_v r)))) : W p l e R s m args below meth c H locs cells slots Q (F0 m pc ls (st.map (mx_v r))) := by
  unfold mx_br at h
  split at h
  case h_1 st off =>
    have hl : len = 3 := by
      rcases hlen with h | ⟨a, b, d, f, h⟩
      · exact h
      · cases h
    subst hl
    split at h
    · rename_i t ht
      cases h
      exact lv_goto hx hb hd (mx_tg_spec ht) k
    · cases h
  case h_2 cnd off v st =>
    have hl : len = 3 := by
      rcases hlen with h | ⟨a, b, d, f, h⟩
      · exact h
      · cases h
    subst hl
    split at h
    · rename_i t ht
      have ht := mx_tg_spec ht
      split at h
      · rename_i hdec
        obtain ⟨x, y, hv, hu, hc⟩ := mx_dec_spec hkb hr hdec
        cases hu
        cases h
        rw [List.map_cons, hv]
        cases cnd <;> simp only [mx_cmp, decide_eq_true_eq] at hc
        · exact lv_if_eq hx hb hd ht (fun _ => k) (fun q => absurd hc q)
        · exact lv_if_ne hx hb hd ht (fun _ => k) (fun q => absurd q hc)
        · exact lv_if_lt hx hb hd ht (fun _ => k) (fun q => absurd hc q)
        · exact lv_if_ge hx hb hd ht (fun _ => k) (fun q => absurd hc q)
        · exact lv_if_gt hx hb hd ht (fun _ => k) (fun q => absurd hc q)
        · exact lv_if_le hx hb hd ht (fun _ => k) (fun q => absurd hc q)
      · rename_i hdec
        obtain ⟨x, y, hv, hu, hc⟩ := mx_dec_spec hkb hr hdec
        cases hu
        cases h
        rw [List.map_cons, hv]
        cases cnd <;> simp only [mx_cmp, decide_eq_false_iff_not] at hc
        · exact lv_if_eq hx hb hd ht (fun q => absurd q hc) (fun _ => k)
        · exact lv_if_ne hx hb hd ht (fun q => absurd q hc) (fun _ => k)
        · exact lv_if_lt hx hb hd ht (fun q => absurd q hc) (fun _ => k)
        · exact lv_if_ge hx hb hd ht (fun q => absurd q hc) (fun _ => k)
        · exact lv_if_gt hx hb hd ht (fun q => absurd q hc) (fun _ => k)
        · exact lv_if_le hx hb hd ht (fun q => absurd q hc) (fun _ => k)
      · cases h
    · cases h
  case h_3 cnd off u v st =>
    have hl : len = 3 := by
      rcases hlen with h | ⟨a, b, d, f, h⟩
      · exact h
      · cases h
    subst hl
    split at h
    · rename_i t ht
      have ht := mx_tg_spec ht
      split at h
      · rename_i hdec
        obtain ⟨x, y, hv, hu, hc⟩ := mx_dec_spec hkb hr hdec
        cases h
        rw [List.map_cons, List.map_cons, hv, hu]
        cases cnd <;> simp only [mx_cmp, decide_eq_true_eq] at hc
        · exact lv_icmp_eq hx hb hd ht (fun _ => k) (fun q => absurd hc q)
        · exact lv_icmp_ne hx hb hd ht (fun _ => k) (fun q => absurd q hc)
        · exact lv_icmp_lt hx hb hd ht (fun _ => k) (fun q => absurd hc q)
        · exact lv_icmp_ge hx hb hd ht (fun _ => k) (fun q => absurd hc q)
        · exact lv_icmp_gt hx hb hd ht (fun _ => k) (fun q => absurd hc q)
        · exact lv_icmp_le hx hb hd ht (fun _ => k) (fun q => absurd hc q)
      · rename_i hdec
        obtain ⟨x, y, hv, hu, hc⟩ := mx_dec_spec hkb hr hdec
        cases h
        rw [List.map_cons, List.map_cons, hv, hu]
        cases cnd <;> simp only [mx_cmp, decide_eq_false_iff_not] at hc
        · exact lv_icmp_eq hx hb hd ht (fun q => absurd q hc) (fun _ => k)
        · exact lv_icmp_ne hx hb hd ht (fun q => absurd q hc) (fun _ => k)
        · exact lv_icmp_lt hx hb hd ht (fun q => absurd q hc) (fun _ => k)
        · exact lv_icmp_ge hx hb hd ht (fun q => absurd q hc) (fun _ => k)
        · exact lv_icmp_gt hx hb hd ht (fun q => absurd q hc) (fun _ => k)
        · exact lv_icmp_le hx hb hd ht (fun q => absurd q hc) (fun _ => k)
      · cases h
    · cases h
  case h_4 dflt lo hi offs x st =>
    split at h
    · rename_i hc
      split at h
      · rename_i t ht
        cases h
        exact lv_tableOut hx hb hd hc (mx_tg_spec ht) k
      · cases h
    · rename_i hc
      split at h
      · rename_i off ho
        split at h
        · rename_i t ht
          cases h
          exact lv_tableIn hx hb hd (fun q => hc (Or.inl q)) (fun q => hc (Or.inr q)) ho (mx_tg_spec ht) k
        · cases h
      · cases h
  case h_5 =>
    rename_i dflt lo hi offs v st0 hnv
    split at h
    · rename_i hc
      simp only [Bool.and_eq_true, Bool.or_eq_true, decide_eq_true_eq] at hc
      split at h
      · rename_i t ht
        cases h
        obtain ⟨x, hv⟩ := mx_isI_spec hr hc.1
        rw [List.map_cons, hv]
        refine lv_tableOut hx hb hd ?_ (mx_tg_spec ht) k
        rcases hc.2 with ⟨h1, h2⟩ | ⟨h1, h2⟩
        · left
          have h3 := mx_kf_spec hkb h1 hv (rfl : mx_v r (.int _) = _)
          simp only [mx_cmp, decide_eq_true_eq] at h3
          have h4 := Int32.lt_iff_toInt_lt.mp h3
          rw [h2] at h4
          exact h4
        · right
          have h3 := mx_kf_spec hkb h1 hv (rfl : mx_v r (.int _) = _)
          simp only [mx_cmp, decide_eq_true_eq] at h3
          have h4 := Int32.lt_iff_toInt_lt.mp h3
          rw [h2] at h4
          exact h4
      · cases h
    · cases h
  case h_6 => cases h
end MX
