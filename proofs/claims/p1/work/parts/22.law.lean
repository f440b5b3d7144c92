/-! ### the law: its end, its calls of the nine -/
/-! THE CLAIM OUT OF ONE WALK OF THE LAW'S BODY. Your part is whole_start (and what it stands on); all else here is the same for every law, but numbers. -/
def R_law : String := "BoundTablesLaw"
def lw_P (b : Addr) (xs : List Int32) (args : Array Value) (s : State) : Prop := args = #[.ref b] ∧ s.IntsAt b xs ∧ xs.length ≤ 4 ∧ (Jvm.Cond.and given_1 narrow_1).before args s = true
def lw_Q (_ : Array Value) (s : State) (o : Outcome) (t : State) : Prop := o = .returned (some (.int 1)) ∧ Framed s o t [] 600002 7302232
def lw_Z (below : List Frame) (a : Array Value) (s : State) : State → Prop := fun t => ∃ o, t.status = .running ∧ Ended t below o ∧ lw_Q a s o t
/-- the law's own end, with 1 on the stack, nothing written that was there before, its room as the claim has it -/
theorem lw_ret {p : Program} {l : Launch} {e : Env} {s : State} {m : MethodId} {below : List Frame} {meth : Method} {c : Code} {b : Nat} (hx : p.tables.exec = Jvm.exec) (hb : c.code = code) (hr : meth.sig.returnType = ret) (hlocks : meth.locks = false) {pc : Nat} {H : Heap} {ls : Array Slot} (hdg : decode code pc = .ok (.ireturn, 1)) : W p l e room_1 s m #[Value.ref b] below meth c H [] 600002 7302232 (lw_Z below #[Value.ref b] s) (F0 m pc ls [.int 1]) := by
  intro T hT X
  obtain ⟨fs, hret, hrun, hended, hW, hframe⟩ := X.leave (v := some (.int 1)) (hlocks := hlocks) (fun h => by rw [hr] at h; cases h)
  have hmeth' : T.vm.method? m = some meth := X.method'
  refine ⟨T.setFrames fs, ?_, .returned (some (.int 1)), hrun, hended, rfl, ⟨_, rfl⟩, hW, hframe⟩
  jvm_step X.here [X.here.top, hx, hb, hdg, hmeth', hr, ret, narrow_b1]
  (try refine ⟨rfl, ?_⟩); (try refine ⟨rfl, ?_⟩)
  first | (intro acts; rw [hret _ acts rfl rfl rfl]) | rw [hret _ _ rfl rfl rfl]
  exact Steps.refl _
/-- what holds at the law's entry: the machine, the code, the tables' words (any of lw_tbl by 'hts w (by decide +kernel)'), the script of L ints xs at the cell b, what the Statement gives of the start (any of its parts by flat_of_before) -/
def lw_At (p : Program) (s : State) (m : MethodId) (meth : Method) (c : Code) (b L : Nat) (xs : Nat → Int32) : Prop :=
  p.tables.exec = Jvm.exec ∧ c.code = code ∧ meth.sig.returnType = ret ∧ c.maxLocals = 8 ∧ s.vm.findClass R_law = some m.cls ∧ (∀ w ∈ lw_tbl, w.before #[Value.ref b] s = true) ∧ va_X b L xs s s.heap ∧ b < s.heap.size ∧ meth.locks = false ∧ (Jvm.Cond.and given_1 narrow_1).before #[Value.ref b] s = true
theorem dL_law_38 : decode cL_law 38 = .ok (.iand, 1) := by decide +kernel
theorem dL_law_39 : decode cL_law 39 = .ok (.tableswitch 721 0 12 #[65, 165, 178, 191, 258, 326, 393, 461, 517, 573, 586, 654, 710], 65) := by decide +kernel
theorem dL_law_767 : decode cL_law 767 = .ok (.ireturn, 1) := by decide +kernel
theorem dL_law_134 : decode cL_law 134 = .ok (.invokestatic 52, 3) := by decide +kernel
theorem ml_len : ml_w1.1.length = 109 := by decide +kernel
theorem ml_sz : ml_w1.2 = 357940 := by decide +kernel
def mq3 (o : Option mS) : Bool := match o with
  | some σ => Nat.beq σ.1 767 && decide (σ.2.2.1 = [Value.int 1]) && Nat.ble σ.2.2.2.1.length 600000 && Nat.ble σ.2.2.2.2 7000000
  | none => false
theorem mq3_spec {o : Option mS} (h : mq3 o = true) : ∃ lv w, o = some (767, lv, [Value.int 1], w) ∧ w.1.length ≤ 600000 ∧ w.2 ≤ 7000000 := by
  unfold mq3 at h
  split at h
  · rename_i σ
    obtain ⟨pc, lv, st, w⟩ := σ
    simp only [Bool.and_eq_true, decide_eq_true_eq] at h
    obtain ⟨⟨⟨h1, h2⟩, h3⟩, h4⟩ := h
    have h1 : pc = 767 := Nat.eq_of_beq_eq_true h1
    subst h1
    subst h2
    exact ⟨lv, w, rfl, Nat.le_of_ble_eq_true h3, Nat.le_of_ble_eq_true h4⟩
  · cases h
section ML
variable {p : Program} {l : Launch} {e : Env} {s : State} {m : MethodId} {below : List Frame} {meth : Method} {c : Code} {b : Nat} {r : Nat → Value} {D : va_G} {cy : Nat → ClassId}
/-- where the law stands -/
def ml_C (kb : mK) (p : Program) (s : State) (m : MethodId) (meth : Method) (c : Code) (r : Nat → Value) (D : va_G) (cy : Nat → ClassId) (sc : Option Nat) : Prop := mx_X kb p room_1 s m meth c D cy r s.heap.size mt_L_law sc s.heap 40 ∧ meth.sig.returnType = ret ∧ meth.locks = false
theorem ml_fin {H : Heap} {locs : List Loc} {ls : Array Slot} {cells slots : Nat} (hx : p.tables.exec = Jvm.exec) (hb : c.code = code) (hr : meth.sig.returnType = ret) (hlocks : meth.locks = false) (hS : va_S (fun q => s.heap.size ≤ q) s.heap H locs) (hc : cells ≤ 600002) (hs : slots ≤ 7302232) : W p l e room_1 s m #[Value.ref b] below meth c H locs cells slots (lw_Z below #[Value.ref b] s) (F0 m 767 ls [.int 1]) := by
  refine va_forget (fun q hq => hS.2.2 q hq) ?_
  refine W.widen hc hs ?_
  exact lw_ret hx hb hr hlocks dL_law_767
theorem ml_end {kb : mK} {sc : Option Nat} {K k0 k1 : Nat} {σ : mS} (C : ml_C kb p s m meth c r D cy sc) (hrun : mq3 (mx_runN kb mt_tab (ml_call kb) sc (fun _ => none) mt_L_law K σ) = true) (hk0 : k0 ≤ 2) (hk1 : k1 ≤ 300000) {H : Heap} {ls : Array Slot} {locs : List Loc} (hl : lv_has ls 8 (mx_lv r σ.2.1)) (hR : mx_R D cy r s.heap.size σ.2.2.2 H) (hS : va_S (fun q => s.heap.size ≤ q) s.heap H locs) :
    W p l e room_1 s m #[Value.ref b] below meth c H locs (σ.2.2.2.1.length + k0) (σ.2.2.2.2 + k1) (lw_Z below #[Value.ref b] s) (F0 m σ.1 ls (σ.2.2.1.map (mx_v r))) := by
  obtain ⟨lv', w', h1, h2, h3⟩ := mq3_spec hrun
  obtain ⟨X, hret, hlocks⟩ := C
  have X' := X
  obtain ⟨hx, hb, hml, hown, hE, hK, hr, hsc, hnm, hfr, hlo, hkb⟩ := X'
  exact mx_runN_St (l := l) (e := e) (args := #[Value.ref b]) (below := below) mt_ok mw_L_law X (mo_met hr hkb 40) (fun σ σ' q => by cases q) K h1 _ 0 0 k0 k1 H ls locs hl hR hS (Nat.zero_le _) (Nat.zero_le _) (by show w'.1.length + k0 - 0 ≤ 600002; omega) (by show w'.2 + k1 - 0 ≤ 7302232; omega) (fun ls' H' locs' hl' hR' hS' => ml_fin hx hb hret hlocks hS' (by show w'.1.length + k0 - 0 ≤ 600002; omega) (by show w'.2 + k1 - 0 ≤ 7302232; omega))
/-- a case of the law that calls one of the nine -/
theorem lt_wr {kb : mK} {tgt K1 pcP ixL K4 mc ms f lo pl ps pi pm : Nat} {MW : mM} {hh : List (Nat × Nat × Nat × Nat)} {a : List Value} {w2 : mW} {kv : Int32} (C : ml_C kb p s m meth c r D cy (some 4)) (hEX : mx_EX s.heap.size s s.heap)
    (h1 : mx_runN kb mt_tab (ml_call kb) (some 4) (fun _ => none) mt_L_law K1 (tgt, ml_lv, [], ml_w1) = some (pcP, ml_lv, a.reverse, ml_w1))
    (hMet : Met l MW.1 [Cond.codeWith MW.1 MW.2.1 MW.2.2.1.1 (some .int) hh] { frames := f, cells := mc, slots := ms, locals := lo } (mx_PcX D cy r s.heap.size a ml_w1) (mx_Qc D cy r s.heap.size (some (.int kv)) w2) mc ms (fun q => s.heap.size ≤ q))
    (hw : (mx_at pl (.codeWith MW.1 MW.2.1 MW.2.2.1.1 (some .int) hh) && mx_at ps (.static MW.1) && mx_at pi (.initialized MW.1.cls) && mx_at pm (.methodLink RL ixL MW.1)) = true)
    (hdc : MW.1.cls ≠ "java/lang/invoke/MethodHandle" ∧ MW.1.cls ≠ "java/lang/invoke/VarHandle" ∧ (parseMethodDescriptor MW.1.desc).map (fun d => d.parameters.length) = some a.length)
    (hf : f + 1 ≤ 2048) (hlo : 8 + (MW.2.2.1.1 + 11) + lo ≤ 84000) (hmc : mc ≤ 1) (hms : ms ≤ 6) (hlen2 : w2.1.length = 109) (hz2 : w2.2 = 357940) (dP : decode code pcP = .ok (.invokestatic ixL, 3))
    (h4 : mq3 (mx_runN kb mt_tab (ml_call kb) (some 4) (fun _ => none) mt_L_law K4 (pcP + 3, ml_lv, [.int kv], w2)) = true)
    {H : Heap} {ls : Array Slot} {locs : List Loc} (hl : lv_has ls 8 (mx_lv r ml_lv)) (hR : mx_R D cy r s.heap.size ml_w1 H) (hS : va_S (fun q => s.heap.size ≤ q) s.heap H locs) :
    W p l e room_1 s m #[Value.ref b] below meth c H locs 109 357940 (lw_Z below #[Value.ref b] s) (F0 m tgt ls []) := by
  have C' := C
  obtain ⟨X, hret, hlocks⟩ := C'
  have X' := X
  obtain ⟨hx, hb, hml, hown, hE, hK, hr, hsc, hnm, hfr, hloc, hkb⟩ := X'
  refine W.cs (cells' := ml_w1.1.length + 0 - 0) (slots' := ml_w1.2 + 0 - 0) (by rw [ml_len]) (by rw [ml_sz]) ?_
  refine mx_runN_St (l := l) (e := e) (args := #[Value.ref b]) (below := below) mt_ok mw_L_law X (mo_met hr hkb 40) (fun σ σ' q => by cases q) K1 h1 _ 0 0 0 0 H ls locs hl hR hS (Nat.zero_le _) (Nat.zero_le _) (by show ml_w1.1.length + 0 - 0 ≤ 600002; rw [ml_len]; decide) (by show ml_w1.2 + 0 - 0 ≤ 7302232; rw [ml_sz]; decide) (fun ls' H' locs' hl' hR' hS' => ?_)
  show W _ _ _ _ _ _ _ _ _ _ H' locs' (ml_w1.1.length + 0 - 0) (ml_w1.2 + 0 - 0) _ (F0 m pcP ls' (a.reverse.map (mx_v r)))
  rw [ml_len, ml_sz]
  simp only [Bool.and_eq_true] at hw
  obtain ⟨⟨⟨w1, w2'⟩, w3⟩, w4⟩ := hw
  have CF : CallFix p m c code 8 s #[Value.ref b] [] RL := ⟨hx, hb, hml, hown, fun w hw => by cases hw⟩
  have hws : ∀ w ∈ [Cond.codeWith MW.1 MW.2.1 MW.2.2.1.1 (some .int) hh], ∀ (a' : Array Value) (U : State), s.WarmedH U.vm → w.before a' U = true := by
    intro w hw a' U hW
    rw [List.mem_singleton.mp hw]
    exact mx_at_use w1 (mx_Env.warm hW hE)
  have hlen : ∀ sig, parseMethodDescriptor MW.1.desc = some sig → a.length = sig.parameters.length := fun sig hs => by
    have := hdc.2.2
    rw [hs] at this
    exact (Option.some.inj this).symm
  have hp : PreS s H' (mx_PcX D cy r s.heap.size a ml_w1) (a.map (mx_v r)) := ⟨mx_blindX, fun U hU hW => ⟨⟨rfl, mx_Env.warm hW hE, va_K.moved hW.alike hK, by rw [hU]; exact hR'⟩, by rw [hU]; exact hEX.go hS' hW⟩⟩
  refine mx_run (D := D) (cy := cy) (r := r) (mc := mc) (ms := ms) (v := some (.int kv)) (w' := w2) (rest := []) (a := (a.map (mx_v r)).toArray) (vx_runSW (hh := hh) (As := a.map (mx_v r)) (n := a.length) CF hMet ⟨⟨rfl, rfl, hf, hlo, hws, List.mem_singleton.mpr rfl⟩, mx_at_use w1 hE, mx_at_use w3 hE, ⟨hdc.1, hdc.2.1⟩, hlen, mx_at_use w4 hE, mx_at_use w2' hE⟩ hp rfl (by simp) hl'.1 (by show a.reverse.map (mx_v r) = _; simp) (lv_room (Nat.zero_le _)) dP ⟨by show 109 + 0 - 0 + mc ≤ 600002; omega, by show 357940 + 0 - 0 + ms ≤ 7302232; omega⟩) hS' (fun H2 locs2 hR2 hS2 => ?_)
  have k := ml_end (p := p) (l := l) (e := e) (b := b) (below := below) (k0 := mc) (k1 := ms) C h4 (by omega) (by omega) hl' hR2 hS2
  simp only [hlen2, hz2] at k
  exact k
end ML
