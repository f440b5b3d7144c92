/-! ### the law from its entry -/
def R_law : String := "BoundTablesLaw"
def lw_P (b : Addr) (xs : List Int32) (args : Array Value) (s : State) : Prop := args = #[.ref b] ∧ s.IntsAt b xs ∧ xs.length ≤ 2048 ∧ (Jvm.Cond.and given_1 narrow_1).before args s = true
def lw_Q (_ : Array Value) (s : State) (o : Outcome) (t : State) : Prop := o = .returned (some (.int 1)) ∧ Framed s o t [] 601024 7293034
def lw_Z (below : List Frame) (a : Array Value) (s : State) : State → Prop := fun t => ∃ o, t.status = .running ∧ Ended t below o ∧ lw_Q a s o t
/-- the law's own end, with 1 on the stack, nothing written that was there before, its room as the claim has it -/
theorem lw_ret {p : Program} {l : Launch} {e : Env} {s : State} {m : MethodId} {below : List Frame} {meth : Method} {c : Code} {b : Nat} (hx : p.tables.exec = Jvm.exec) (hb : c.code = code) (hr : meth.sig.returnType = ret) (hlocks : meth.locks = false) {pc : Nat} {H : Heap} {ls : Array Slot} (hdg : decode code pc = .ok (.ireturn, 1)) : W p l e room_1 s m #[Value.ref b] below meth c H [] 601024 7293034 (lw_Z below #[Value.ref b] s) (F0 m pc ls [.int 1]) := by
  intro T hT X
  obtain ⟨fs, hret, hrun, hended, hW, hframe⟩ := X.leave (v := some (.int 1)) (hlocks := hlocks) (fun h => by rw [hr] at h; cases h)
  have hmeth' : T.vm.method? m = some meth := X.method'
  refine ⟨T.setFrames fs, ?_, .returned (some (.int 1)), hrun, hended, rfl, ⟨_, rfl⟩, hW, hframe⟩
  jvm_step X.here [X.here.top, hx, hb, hdg, hmeth', hr, ret, narrow_b1]
  (try refine ⟨rfl, ?_⟩); (try refine ⟨rfl, ?_⟩)
  first | (intro acts; rw [hret _ acts rfl rfl rfl]) | rw [hret _ _ rfl rfl rfl]
  exact Steps.refl _
/-- what holds at the law's entry: the machine, the code, the tables' words (any of lw_tbl by 'hts w (by decide +kernel)'), the script of L ints xs at the cell b, what the Statement gives of the start (any of its parts by flat_of_before) -/
def lw_At (p : Program) (s : State) (m : MethodId) (meth : Method) (c : Code) (b L : Nat) (xs : Nat → Int32) : Prop :=
  p.tables.exec = Jvm.exec ∧ c.code = code ∧ meth.sig.returnType = ret ∧ c.maxLocals = 8 ∧ s.vm.findClass R_law = some m.cls ∧ (∀ w ∈ lw_tbl, w.before #[Value.ref b] s = true) ∧ va_X b L xs s s.heap ∧ b < s.heap.size ∧ meth.locks = false ∧ (Jvm.Cond.and given_1 narrow_1).before #[Value.ref b] s = true
theorem kb_nil {r : Nat → Value} : mx_kb [] r := fun e he => by cases he
theorem kb_cons {kb : mK} {r : Nat → Value} {cn : ClassFile.Cond} {j : Nat} {x y : Int32} {b : Bool} (hx : r j = .int x) (h : mx_cmp cn x y = b) (t : mx_kb kb r) : mx_kb (((cn, .ref j, .int y), b) :: kb) r := by
  intro e he x' y' h1 h2
  rcases List.mem_cons.mp he with rfl | he
  · have e1 : r j = .int x' := h1
    rw [hx] at e1
    cases e1
    cases h2
    exact h
  · exact t e he x' y' h1 h2
theorem dL_law_545 : decode cL_law 545 = .ok (.ireturn, 1) := by decide +kernel
def ml_r (b B : Nat) (z : Int32) (xs : Nat → Int32) (j : Nat) : Value := if j < mx_E then .ref (B + j) else if j = mx_E then .ref b else if j = mx_F then .int z else .int (xs (j - mx_E - 1))
theorem ml_r_ok (b B : Nat) (z : Int32) (xs : Nat → Int32) : mx_r (ml_r b B z xs) B := by
  refine ⟨fun j hj => by simp [ml_r, hj], ⟨b, by simp [ml_r]⟩, fun j hj => ?_⟩
  unfold ml_r
  rw [if_neg (by omega), if_neg (by omega)]
  split
  · exact ⟨_, rfl⟩
  · exact ⟨_, rfl⟩
theorem ml_r_x (b B : Nat) (z : Int32) (xs : Nat → Int32) (i : Nat) (hi : i < 1000000) : ml_r b B z xs (mx_E + 1 + i) = .int (xs i) := by
  unfold ml_r
  rw [if_neg (by omega), if_neg (by omega), if_neg (by unfold mx_E mx_F; omega)]
  rw [show mx_E + 1 + i - mx_E - 1 = i by omega]
theorem ml_r_f (b B : Nat) (z : Int32) (xs : Nat → Int32) : ml_r b B z xs mx_F = .int z := by
  unfold ml_r
  rw [if_neg (by decide), if_neg (by decide), if_pos rfl]
/-- the text of signs, at the start -/
theorem ml_SF {s : State} {n d : String} {v : Value} {a B : Nat} {args : Array Value} {t : Term} (ht : t.eval args s none [] s = some (.ref a)) (hv : (Term.field t mx_str n d).eval args s none [] s = some v) (hA : ∀ a : Nat, a < s.heap.size → ¬ B ≤ a) : mx_SF n d v a B s s.heap := by
  cases hfo : s.fieldFound? mx_str n d with
  | none =>
    rw [va_fe ht] at hv
    simp [State.fieldOf?, State.fieldNamed?, hfo] at hv
  | some x =>
    obtain ⟨cf, k, fi, f⟩ := x
    obtain ⟨g1, cell, g2, g3, g4, g5, g6⟩ := Term.field_spec hfo ht hv
    exact ⟨cf, fi, k, f, cell, hfo, g1, g2, g3, g4, g5, g6, hA _ (Array.getElem?_eq_some_iff.mp g2).1⟩
theorem ml_LS {s : State} {args : Array Value} (hts : ∀ w ∈ lw_tbl, w.before args s = true) (hfl : ∀ w ∈ flatC (Jvm.Cond.and given_1 narrow_1), w.before args s = true) : mx_LS s.heap.size s s.heap := by
  have hA : ∀ a : Nat, a < s.heap.size → ¬ s.heap.size ≤ a := fun a h => Nat.not_le.mpr h
  have hex : (Cond.exactly (.string RX5 71) mx_str).before args s = true := hfl _ (by decide +kernel)
  obtain ⟨a, c, cell, k, q1, q2, q3, q4, q5, q6, q7⟩ := Cond.exactly_spec hex
  subst q6
  have hco : (Cond.eq (.field (.string RX5 71) mx_str "coder" "B") (.int 0)).before args s = true := hfl _ (by decide +kernel)
  have har : (Cond.arrayOf (.field (.string RX5 71) mx_str "value" "[B") .byte).before args s = true := hfl _ (by decide +kernel)
  have hle : (Cond.eq (.length (.field (.string RX5 71) mx_str "value" "[B")) (.int (Int32.ofNat 9))).before args s = true := hfl _ (by decide +kernel)
  have hel : ∀ j : Nat, j < 9 → (Term.elem (.field (.string RX5 71) mx_str "value" "[B") (.int (Int32.ofNat j))).eval args s none [] s = some (mx_sb.getD j .null) := by
    intro j hj
    rcases (show j = 0 ∨ j = 1 ∨ j = 2 ∨ j = 3 ∨ j = 4 ∨ j = 5 ∨ j = 6 ∨ j = 7 ∨ j = 8 by omega) with rfl | rfl | rfl | rfl | rfl | rfl | rfl | rfl | rfl
    all_goals exact va_eqt (hfl _ (by decide +kernel))
  obtain ⟨v, hv, cv, t1, t2, t3, t4, t5, t6, t7⟩ := va_Tof (A := fun q => s.heap.size ≤ q) (f := fun j => mx_sb.getD j .null) (by decide) har (va_eqt hle) hel hA
  obtain ⟨b, cb, l1, l2, l3, l4⟩ := length_spec (va_eqt hle)
  cases hv.symm.trans l1
  obtain ⟨l5, -, -, -⟩ := State.arrayAt?_spec l2
  cases t1.symm.trans l5
  have hsz : cv.slots.size = 9 := by
    have h1 : (cv.slots.size.toInt32).toInt = (cv.slots.size : Int) := Int32.toInt_ofNat_small l3
    have h2 : (Int32.ofNat 9).toInt = 9 := by decide
    have h3 := t5
    rw [h3, h2] at h1
    omega
  have hsl : cv.slots = mx_sb := by
    apply Array.ext_getElem?
    intro i
    by_cases hi : i < 9
    · rw [t6 i hi]
      rcases (show i = 0 ∨ i = 1 ∨ i = 2 ∨ i = 3 ∨ i = 4 ∨ i = 5 ∨ i = 6 ∨ i = 7 ∨ i = 8 by omega) with rfl | rfl | rfl | rfl | rfl | rfl | rfl | rfl | rfl <;> rfl
    · rw [Array.getElem?_eq_none (by omega), Array.getElem?_eq_none (by show 9 ≤ i; omega)]
  have hst : (Cond.stringRef RX5 71 mx_tx).before args s = true := hts _ (List.mem_of_getElem? (i := 671) (by decide +kernel))
  have hcs : (Term.static mx_str "COMPACT_STRINGS" "Z").eval args s none [] s = some (.int 1) := va_eqt (hfl _ (by decide +kernel))
  exact ⟨a, v, vk_R.of hst q1, ⟨cell, k, q3, q5, q2, q4, q7, hA _ (Array.getElem?_eq_some_iff.mp q3).1⟩, ml_SF q1 (va_eqt hco) hA, ml_SF q1 hv hA, ⟨cv, t1, t2, t3, hsl, t7⟩, va_Zof (hts _ (List.mem_of_getElem? (i := 685) (by decide +kernel))) (hts _ (List.mem_of_getElem? (i := 163) (by decide +kernel))) hcs hA⟩
set_option maxHeartbeats 4000000 in
set_option maxRecDepth 100000 in
/-- THE LAW, from its entry -/
theorem whole_start {p : Program} {e : Env} {s : State} {m : MethodId} {below : List Frame} {meth : Method} {c : Code} (l : Launch) (hst : l.stackTraces = false) {b L : Nat} {xs : Nat → Int32} (hL : L ≤ 2048) (C0 : lw_At p s m meth c b L xs) (hnm : meth.name = "law") : W p l e room_1 s m #[Value.ref b] below meth c s.heap [] 0 0 (lw_Z below #[Value.ref b] s) (entryFrame m ([Value.ref b] : List Value).toArray 8) := by
  obtain ⟨hx, hb, hret, hml, hown, hts, hX, hbl, hlocks, hgv⟩ := id C0
  have hE : mx_Env s := fun w hw hk a => mx_ok_warm (State.WarmedH.refl s) hk (hts w hw)
  have hkn : ∀ ci : Nat, ∃ (cC : ClassId) (iS : Nat → Nat), ∀ q : vw_C, mx_cl[ci]? = some q → u_Kn s q.1 q.2.1 q.2.2 cC iS := by
    intro ci
    cases hq : mx_cl[ci]? with
    | none => exact ⟨0, fun _ => 0, fun q h => by cases h⟩
    | some q =>
      obtain ⟨hws, -, -, -, i1, i2, hi1, -⟩ := mx_C_of hq
      obtain ⟨cC, iS, h⟩ := u_known (args := #[Value.ref b]) (fun w hw => hE w (hws w hw).1 (hws w hw).2 _) (fun w h => h) (mx_at_use hi1 hE)
      exact ⟨cC, iS, fun q' h' => by cases h'; exact h⟩
  have har : ∀ ty : FieldType, (Cond.arrayClass ty).before #[] s = true → ∃ cA : ClassId, ArrOfT s cA ty ∧ s.vm.findClass ("[" ++ ty.toString) = some cA := by
    intro ty h
    obtain ⟨cA, kA, comp, h1, h2, h3⟩ := Cond.arrayClass_spec h
    exact ⟨cA, fun n z => ⟨fun k h => (by cases h), kA, h2, comp, h3⟩, h1⟩
  obtain ⟨cI, aI1, aI2⟩ := har .int (mx_at_use mx_ar_int hE)
  obtain ⟨cJ, aJ1, aJ2⟩ := har .long (mx_at_use mx_ar_long hE)
  obtain ⟨cZ, aZ1, aZ2⟩ := har .boolean (mx_at_use mx_ar_boolean hE)
  obtain ⟨cB, aB1, aB2⟩ := har .byte (mx_at_use mx_ar_byte hE)
  obtain ⟨D, hD⟩ : ∃ D : va_G, ∀ (k : Nat) (q : vw_C), mx_cl[k]? = some q → u_Kn s q.1 q.2.1 q.2.2 (D.1 k) (D.2 k) :=
    ⟨(fun k => Classical.choose (hkn k), fun k => Classical.choose (Classical.choose_spec (hkn k))), fun k q h => Classical.choose_spec (Classical.choose_spec (hkn k)) q h⟩
  obtain ⟨cy, hcy⟩ : ∃ cy : Nat → ClassId, cy 0 = cI ∧ cy 1 = cJ ∧ cy 2 = cZ ∧ cy 3 = cB := ⟨fun k => if k = 0 then cI else if k = 1 then cJ else if k = 2 then cZ else cB, rfl, rfl, rfl, rfl⟩
  obtain ⟨y0, y1, y2, y3⟩ := hcy
  have hK : va_K D mx_cl (mx_tys cy) s := by
    refine ⟨hD, fun k q hq => ?_⟩
    match k, hq with
    | 0, hq => cases hq; rw [y0]; exact ⟨aI1, aI2⟩
    | 1, hq => cases hq; rw [y1]; exact ⟨aJ1, aJ2⟩
    | 2, hq => cases hq; rw [y2]; exact ⟨aZ1, aZ2⟩
    | 3, hq => cases hq; rw [y3]; exact ⟨aB1, aB2⟩
    | k + 4, hq => simp [mx_tys] at hq
  have hbA : ¬ s.heap.size ≤ b := Nat.not_le.mpr hbl
  have hA : ∀ a : Nat, a < s.heap.size → ¬ s.heap.size ≤ a := fun a h => Nat.not_le.mpr h
  have hfl := flat_of_before _ hgv
  have hEX : mx_EX s.heap.size s s.heap := by
    refine ⟨vx_Zqof (hts _ (List.mem_of_getElem? (i := 1073) (by decide +kernel))) (mx_at_use (q := 158) (by decide +kernel) hE) (hfl _ (by decide +kernel)) hA, vx_Zqof (hts _ (List.mem_of_getElem? (i := 1075) (by decide +kernel))) (mx_at_use (q := 158) (by decide +kernel) hE) (hfl _ (by decide +kernel)) hA, fun q hq => ?_, va_Nc.of (hfl _ (by decide +kernel))⟩
    have hstr : ∀ (k : Nat) (tx : String), (Cond.stringRef RX8 k tx).before #[Value.ref b] s = true → (Cond.exactly (.string RX8 k) "java/lang/String").before #[Value.ref b] s = true → ∃ sa, vk_R RX8 k tx sa s := by
      intro k tx h1 h2
      obtain ⟨a, -, -, -, h3, -⟩ := Cond.exactly_spec h2
      exact ⟨a, vk_R.of h1 h3⟩
    simp only [ms_str, List.mem_cons, List.not_mem_nil, or_false] at hq
    rcases hq with rfl | rfl | rfl | rfl | rfl | rfl | rfl | rfl | rfl | rfl
    all_goals exact hstr _ _ (hts _ (by decide +kernel)) (hfl _ (by decide +kernel))
  have hLS := ml_LS hts hfl
  have hNU : va_Nc ms_UOE ms_IAE s := va_Nc.of (hfl _ (by decide +kernel))
  -- the start: both objects and the row are made
  have hl := lv_entry ([.ref b]) (n := 8) (Nat.le_of_ble_eq_true rfl)
  rw [lg_entry_eq]
  generalize (lg_sl ([.ref b]) ++ List.replicate (8 - (lg_sl ([.ref b])).length) Slot.unset).toArray = ls at hl ⊢
  have hr0 := ml_r_ok b s.heap.size 0 xs
  have hb0 : ml_r b s.heap.size 0 xs 1048576 = .ref b := by
    show ml_r b s.heap.size 0 xs mx_E = _
    simp [ml_r]
  have hkb0 : mx_kb ml_kb0 (ml_r b s.heap.size 0 xs) := kb_cons (ml_r_f b s.heap.size 0 xs) (by decide) kb_nil
  have mkX : ∀ (d : Nat) (sc : Option Nat), d + 1 ≤ 2048 → 40 * (d + 1) ≤ 84000 → mx_sc sc (ml_r b s.heap.size 0 xs) s.heap.size s s.heap → mx_X ml_kb0 p room_1 s m meth c D cy (ml_r b s.heap.size 0 xs) s.heap.size mt_L_law sc s.heap d := fun d sc h1 h2 hsc => ⟨hx, hb, hml, hown, hE, hK, hr0, hsc, hnm, h1, h2, hkb0⟩
  have hl0 : lv_has ls 8 (mx_lv (ml_r b s.heap.size 0 xs) [(0, .ref 1048576)]) := by
    show lv_has ls 8 [(0, ml_r b s.heap.size 0 xs 1048576)]
    rw [hb0]; exact hl
  have hR0 : mx_R D cy (ml_r b s.heap.size 0 xs) s.heap.size ([], 0) s.heap := ⟨fun _ => rfl, Nat.zero_le _, fun j c h => by simp at h⟩
  refine mx_runN_St (l := l) (e := e) (args := #[Value.ref b]) (below := below) mt_ok mw_L_law (mkX 40 none (by decide) (by decide) ⟨fun L q => (by cases q), hLS⟩) (mo_met hr0 hkb0 40) (fun σ σ' q => by cases q) 13 ml_run0 _ 0 0 0 0 s.heap ls [] hl0 hR0 va_S.rf (Nat.zero_le _) (Nat.zero_le _) (by show ml_w1.1.length + 0 - 0 ≤ 601024; rw [ml_len]; decide) (by show ml_w1.2 + 0 - 0 ≤ 7293034; rw [ml_sz]; decide) (fun ls H locs hl1 hR1 hS => ?_)
  have hsc : mx_sc (some L) (ml_r b s.heap.size 0 xs) s.heap.size s s.heap := by
    refine ⟨fun L2 h2 => ?_, hLS⟩
    cases h2
    exact ⟨b, xs, hb0, hX, hbl, hbA, fun i hi => ml_r_x b s.heap.size 0 xs i (by omega)⟩
  obtain ⟨lv, w', hgo, hw1, hw2⟩ := l_all (g := (ml_kb0, mt_tab, l, D, cy, ml_r b s.heap.size 0 xs, s.heap.size)) (x := (p, e, s, m, b, below, meth, c)) (L := L) (xs := xs) ⟨rfl, hr0, hkb0, (by decide +kernel : mx_al ml_kb0 = true)⟩ hst ⟨mkX 200 (some L) (by decide) (by decide) hsc, hEX, hNU⟩ (fun q hq => ml_r_x b s.heap.size 0 xs q (by omega)) hL ml_lI
  refine hgo.2 _ 0 0 0 0 H ls locs hl1 hR1 hS (Nat.zero_le _) (Nat.zero_le _) (by show w'.1.length + 0 - 0 ≤ 601024; omega) (by show w'.2 + 0 - 0 ≤ 7293034; omega) (fun ls' H' locs' hl' hR' hS' => ?_)
  show W _ _ _ _ _ _ _ _ _ _ H' locs' (w'.1.length + 0 - 0) (w'.2 + 0 - 0) _ (F0 m 545 ls' [.int 1])
  refine va_forget (fun q hq => hS'.2.2 q hq) ?_
  refine W.widen (show w'.1.length + 0 - 0 ≤ 601024 by omega) (show w'.2 + 0 - 0 ≤ 7293034 by omega) ?_
  exact lw_ret hx hb hret hlocks dL_law_545
