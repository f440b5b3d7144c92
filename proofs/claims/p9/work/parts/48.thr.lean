/-! ### throws, with the count of cells known -/
section ZTH
variable {p : Program} {l : Launch} {e : Env} {R : Room} {s : State} {m : MethodId} {args : Array Value} {below : List Frame} {meth : Method} {c : Code} {H : Heap} {locs : List Loc} {cells slots : Nat} {Q : State → Prop}
variable {mc ms : Nat} {free : Addr → Prop} {A0 A1 : Nat → Prop} {H0 : Heap} {a : Array Value} {ls : Array Slot} {st0 rest : List Value}
variable {Qc : Array Value → State → Outcome → State → Prop} {XC : String → State → State → Prop}
theorem zx_throwS {cc : ByteArray} {pc : Nat} (hexec : p.tables.exec = Jvm.exec) (hb : c.code = cc) (hl : l.stackTraces = false) {own cls text : String} {names : List String} {ik is ic mc ms sa : Nat} {A : Nat → Prop}
    (hown : s.vm.findClass own = some m.cls) (hcls : Bundle.fit cls = true) (hnames : ∀ n ∈ names, Bundle.fit n = true)
    (hk : (Cond.classLink own ik cls).before args s = true) (hini : (Cond.initialized cls).before args s = true) (hstr : vk_R own is text sa s) (hat : ∀ w ∈ vx_atS own ic cls names, w.before args s = true)
    (hgood : ∀ w ∈ Cond.classLink own ik cls :: Cond.initialized cls :: vx_atS own ic cls names, vx_ot w = true)
    (hU : vx_Zq Bundle.tN "UNASSIGNED_STACK" Bundle.steD A s s.heap) (hN : vx_Zq Bundle.tN "SUPPRESSED_SENTINEL" Bundle.listD A s s.heap) (hS : va_S A s.heap H locs) (hsize : ls.size = c.maxLocals)
    (d0 : decode cc pc = .ok (.new ik, 3)) (d3 : decode cc (pc + 3) = .ok (.dup, 1)) (d4 : decode cc (pc + 4) = .ok (.ldc is, 2)) (d6 : decode cc (pc + 6) = .ok (.invokespecial ic, 3)) (d9 : decode cc (pc + 9) = .ok (.athrow, 1))
    (hout : ∀ x ∈ c.exceptionTable.toList, covers x (pc + 9) = false)
    (hRframes : names.length + 3 < R.frames) (hRlocals : (rest.map fun v => v.category).sum + (13 * (names.length + 1) + 43) ≤ R.locals) (hRcells : cells + 1 ≤ R.cells) (hRslots : slots + 6 ≤ R.slots) (hlocks : meth.locks = false)
    (hx : ∀ t : State, s.vm.Alike t.vm → t.heap.size = H.size + 1 → (∀ q : Nat, q < H.size → t.heap[q]? = H[q]?) → XC cls s t)
    (hf : ∀ z ∈ locs, free z.base) (hc : cells + 1 ≤ mc) (hs : slots + 6 ≤ ms) :
    W p l e R s m args below meth c H locs cells slots (vx_MQ below Qc XC args s mc ms free) (F0 m pc ls rest) := by
  intro T hT X
  have htr : e.platform.stackTraces = false := (show e.platform.stackTraces = l.stackTraces by rw [X.admits.platform]).trans hl
  have Y := vx_rebase X (R' := { frames := R.frames, locals := R.locals, cells := 1, slots := 6 }) (Nat.le_refl _) (Nat.le_refl _) hRcells hRslots
  obtain ⟨s', hA⟩ : ∃ z, z = (T.setVm s.vm).setFrames (.invoking m args :: below) := ⟨_, rfl⟩
  rw [← hA] at Y
  have hvm : s'.vm = s.vm := by rw [hA]; rfl
  have hhp : s'.heap = H := by rw [hA]; exact hT
  have hW0 : s.WarmedH s'.vm := by rw [hvm]; exact State.WarmedH.refl s
  have hat' : ∀ w ∈ vx_atS own ic cls names, w.before args s' = true := fun w hw => vx_ot_at hW0 hvm.symm (hgood w (List.mem_cons_of_mem _ (List.mem_cons_of_mem _ hw))) (hat w hw)
  have hk' : (Cond.classLink own ik cls).before args s' = true := vx_ot_at hW0 hvm.symm (hgood _ List.mem_cons_self) hk
  have hini' : (Cond.initialized cls).before args s' = true := vx_ot_at hW0 hvm.symm (hgood _ (List.mem_cons_of_mem _ List.mem_cons_self)) hini
  have hU' : vx_Zq Bundle.tN "UNASSIGNED_STACK" Bundle.steD A s' s'.heap := by rw [hhp]; exact vx_Zq.moved hW0.alike (hU.kept hS.2.1)
  have hN' : vx_Zq Bundle.tN "SUPPRESSED_SENTINEL" Bundle.listD A s' s'.heap := by rw [hhp]; exact vx_Zq.moved hW0.alike (hN.kept hS.2.1)
  have h : ∀ w ∈ Bundle.ownAtoms own ic cls names, w.before args s' = true := vx_own hat' (vx_isRefq hU'.1) (vx_isRefq hN'.1) hU'.2.word hN'.2.word
  have hown' : s'.vm.findClass own = some m.cls := by rw [hvm]; exact hown
  have hins : (Cond.instantiable cls 6).before args s' = true := h _ (by simp [Bundle.ownAtoms])
  obtain ⟨vm₁, cX, kX, hfX, hkX, -, -, X₁, st1⟩ := Y.newCold hexec (own := own) (C := cls) (index := ik) (n := 6) hown' hk' hins hini'
    (g := F0 m pc ls rest) rfl (by rw [hb]; exact d0) (Nat.le_refl _) (Nat.le_refl _)
  generalize hT1 : (T.setVm vm₁).pushCell { cls := cX, slots := kX.instanceTypes.map defaultValue, vm := .none } = T1 at X₁ st1
  have hcat : (Value.ref T.heap.size).category = 1 := rfl
  have hcellA : T1.heap[T.heap.size]? = some (freshCell cX kX) := by rw [← hT1]; exact State.heap_pushCell_size _ _
  have d3' : decode c.code (pc + 3) = .ok (.dup, 1) := by rw [hb]; exact d3
  have d4' : decode c.code (pc + 4) = .ok (.ldc is, 2) := by rw [hb]; exact d4
  have hstr' : vk_R own is text sa s' := vk_R.warm hW0 hstr
  obtain ⟨U, hsteps, hrun, hend, hW, hsame, ce, hce, hO⟩ := X₁.ctorThrowS hexec htr (own := own) (cls := cls) (names := names) (ic := ic) hown' hcls hnames h (fun x hx => nomatch hx) hfX hkX hcellA (by rw [hhp, hT]; exact Nat.le_refl _) (msg := .ref sa) rfl
    (g := { method := m, pc := pc + 6, locals := ls, stack := .ref sa :: .ref T.heap.size :: .ref T.heap.size :: rest, locked := none }) rfl hsize rfl rfl (rest := rest) rfl
    (by rw [hb]; exact d6) (by rw [hb]; exact d9) hout hRframes (by simp only [List.map_cons, List.sum_cons, hcat]; omega) hlocks
  obtain ⟨f1, f2⟩ := vx_frame hsame
  have f3 : U.heap.size = s'.heap.size + 1 := by
    obtain ⟨-, -, h3, -⟩ := id hsame
    have h3 : U.heap.size ≤ s'.heap.size + 1 := h3
    have h4 : T.heap.size < U.heap.size := (Array.getElem?_eq_some_iff.mp hce).1
    rw [hhp, ← hT] at h3 ⊢
    omega
  rw [hhp] at f1 f2
  have hWs : s.WarmedH U.vm := State.WarmedH.trans hW0 hW
  have hcl : s.vm.findClass cls = some ce.cls := by
    have h9 := hO.cls
    rw [hvm] at h9
    exact h9
  have hall : s.sameButNew ({ U with vm := s.vm } : State) locs mc ms := by
    subst hA
    obtain ⟨e1, e2⟩ := hsame
    rw [State.setFrames_setFrames] at e1
    have h2 : (T.setVm s.vm).sameButNew ({ U with vm := s.vm } : State) [] (0 + 1) (0 + 6) := ⟨e1, e2⟩
    have h3 := X.same.trans h2
    rw [List.append_nil] at h3
    exact h3.mono hc hs
  refine ⟨U, ?_, .threw T.heap.size, hrun, hend, Or.inr ⟨T.heap.size, rfl, cls, ce, locs, hx U hWs.alike (by rw [← hhp]; exact f3) (fun q hq => f2 q hq (fun z hz => nomatch hz)), hce, hO.vm, hcl, hWs, hall, hf⟩⟩
  refine st1 _ ?_
  show Steps p.tables e below (T1.setTop { method := m, pc := pc + 3, locals := ls, stack := .ref T.heap.size :: rest, locked := none }) _
  jvm_step X₁.here [X₁.here.top, hexec, d3', Value.category]
  exact X₁.ldcString hexec (own := own) (text := text) (index := is) (a := sa) hown' hstr'.1 hstr'.2
    (g := { method := m, pc := pc + 4, locals := ls, stack := .ref T.heap.size :: .ref T.heap.size :: rest, locked := none }) rfl d4' _ hsteps
end ZTH
def ms_str : List (Nat × String) := [(64, "a number has 1 to 8 bytes"), (75, "the tape has at most 800 bytes"), (103, "no such class"), (134, "what is 0 to 4"), (143, "no such parameter"), (157, "what is 0 to 3"), (162, "fuel is 0 to 3000"), (210, "what is 0 to 9"), (229, "no such variable"), (237, "no such byte")]
def ms_IAE : String := "java/lang/IllegalArgumentException"
def ms_IOB : String := "java/lang/IndexOutOfBoundsException"
def ms_nm : List String := ["java/lang/RuntimeException", "java/lang/Exception"]
/-- what a throw needs of the start -/
def mx_EX (B : Nat) (U : State) (H : Heap) : Prop := vx_Zq Bundle.tN "UNASSIGNED_STACK" Bundle.steD (fun q => B ≤ q) U H ∧ vx_Zq Bundle.tN "SUPPRESSED_SENTINEL" Bundle.listD (fun q => B ≤ q) U H ∧ (∀ q ∈ ms_str, ∃ sa, vk_R RX8 q.1 q.2 sa U) ∧ va_Nc ms_IAE ms_IOB U
theorem mx_EX.go {B : Nat} {s U : State} {H0 H : Heap} {locs : List Loc} (h : mx_EX B s H0) (hS : va_S (fun q => B ≤ q) H0 H locs) (hW : s.WarmedH U.vm) : mx_EX B U H :=
  ⟨vx_Zq.moved hW.alike (h.1.kept hS.2.1), vx_Zq.moved hW.alike (h.2.1.kept hS.2.1), fun q hq => by
    obtain ⟨sa, h1⟩ := h.2.2.1 q hq
    exact ⟨sa, vk_R.warm hW h1⟩, h.2.2.2.moved hW.alike⟩
def mx_PcX (D : va_G) (cy : Nat → ClassId) (r : Nat → Value) (B : Nat) (a : List Value) (w : mW) : Array Value → State → Prop := fun av U => mx_Pc D cy r B a w av U ∧ mx_EX B U U.heap
theorem mx_blindX {D : va_G} {cy : Nat → ClassId} {r : Nat → Value} {B : Nat} {a : List Value} {w : mW} : FrameBlind (mx_PcX D cy r B a w) := by
  intro av U g mk h
  refine ⟨mx_blind av U g mk h.1, ?_⟩
  have h2 := h.2.go (U := U.calling g mk av) (H := U.heap) (locs := []) va_S.rf (State.WarmedH.refl U)
  exact h2
def mx_XC (D : va_G) (cy : Nat → ClassId) (r : Nat → Value) (B : Nat) (E : String) (w : mW) : String → State → State → Prop := fun E' st t => E' = E ∧ mx_R D cy r B w t.heap ∧ va_F (fun q => B ≤ q) st t
/-- a cell that nothing looks at stands behind the others -/
def zdead (w : mW) : mW := (w.1 ++ [.inr ((9, 0), .inl (0, []))], w.2 + 6)
section ZTH2
variable {r : Nat → Value} {B : Nat} {D : va_G} {cy : Nat → ClassId}
theorem mx_R.dead1 {w : mW} {H H1 : Heap} (h : mx_R D cy r B w H) (hl : w.1.length < mx_E) (hs : H1.size = H.size + 1) (ho : ∀ q : Nat, q < H.size → H1[q]? = H[q]?) : mx_R D cy r B (zdead w) H1 := by
  obtain ⟨h1, h2, h3⟩ := h
  refine ⟨fun q => by have := h1 q; simp [zdead]; omega, by simp [zdead]; omega, fun j c hj hd => ?_⟩
  have hj : (w.1 ++ [(.inr ((9, 0), .inl (0, [])) : mE)])[j]? = some c := hj
  by_cases hjl : j < w.1.length
  · rw [List.getElem?_append_left hjl] at hj
    have h5 := h3 j c hj hd
    exact h5.kept (ho _ h5.lt)
  · rw [List.getElem?_append_right (by omega)] at hj
    have hz : j - w.1.length < 1 := by simpa using (List.getElem?_eq_some_iff.mp hj).1
    rw [show j - w.1.length = 0 by omega] at hj
    cases hj
    cases hd
end ZTH2
set_option maxHeartbeats 4000000 in
/-- a call of the class that throws at its 'new' at pcn -/
theorem zv_thr {g : zΓ} (hg : zg g) (hl : g.2.2.1.stackTraces = false) {d y pcn ik is ic pk pn : Nat} {M : mM} {a : List Value} {w w1 : mW} {lv : List (Nat × Value)} {E tx : String} (hM : mt_tab[y]? = some M) (hd6 : 6 ≤ d) (hcl : M.1.cls = RX8)
    (hsum : Nat.ble ((a.map fun v => v.category).sum) M.2.2.1.1 = true) (hG : zG g d M none (0, lv_args 0 a, [], w) (pcn, lv, [], w1)) (hlE : w1.1.length < mx_E)
    (hE1 : Bundle.fit E = true) (hk : mx_at pk (.classLink RX8 ik E) = true) (hi : mx_at pn (.initialized E) = true) (hs : (is, tx) ∈ ms_str) (hat : ∀ w ∈ vx_atS RX8 ic E ms_nm, w ∈ lw_tbl ∧ mx_ok w = true) (hgood : ∀ w ∈ Cond.classLink RX8 ik E :: Cond.initialized E :: vx_atS RX8 ic E ms_nm, vx_ot w = true)
    (d0 : decode M.2.1 pcn = .ok (.new ik, 3)) (d3 : decode M.2.1 (pcn + 3) = .ok (.dup, 1)) (d4 : decode M.2.1 (pcn + 4) = .ok (.ldc is, 2)) (d6 : decode M.2.1 (pcn + 6) = .ok (.invokespecial ic, 3)) (d9 : decode M.2.1 (pcn + 9) = .ok (.athrow, 1)) :
    vx_Met g.2.2.1 M.1 [Cond.code M.1 M.2.1 M.2.2.1.1 M.2.2.1.2.1] { frames := d + 1, cells := w1.1.length - w.1.length + 1, slots := w1.2 - w.2 + 6, locals := 40 * (d + 1) } (mx_PcX g.2.2.2.1 g.2.2.2.2.1 g.2.2.2.2.2.1 g.2.2.2.2.2.2 a w) (fun _ _ _ _ => False) (mx_XC g.2.2.2.1 g.2.2.2.2.1 g.2.2.2.2.2.1 g.2.2.2.2.2.2 E (zdead w1)) (w1.1.length - w.1.length + 1) (w1.2 - w.2 + 6) (fun q => g.2.2.2.2.2.2 ≤ q) := by
  have hok := mt_ok M (List.mem_of_getElem? hM)
  obtain ⟨m1, m2, m3, m4, m5, m6, m7, m8, m9, m10, m11⟩ := mx_Mok hok
  have hr := hg.2.1
  have hkb := hg.2.2.1
  refine vx_ofW (cc := M.2.1) (maxL := M.2.2.1.1) (ret := M.2.2.1.2.1) (ws' := []) (by rw [hcl]; decide +kernel) rfl ?_
  intro p e s m args below meth c s₁ Bd hml hex hv
  obtain ⟨⟨rfl, hE, hK, hR, hLS⟩, hEX⟩ := hv
  have hown : s.vm.findClass M.1.cls = some m.cls := findClass_of_methodNamed Bd.named
  have hnm : meth.name = M.1.name := (name_of_methodNamed Bd.named Bd.method).1
  have X : mx_X g.1 p { frames := d + 1, cells := w1.1.length - w.1.length + 1, slots := w1.2 - w.2 + 6, locals := 40 * (d + 1) } s m meth c g.2.2.2.1 g.2.2.2.2.1 g.2.2.2.2.2.1 g.2.2.2.2.2.2 M none s.heap d := ⟨Bd.exec, Bd.bytes, hml, hown, hE, hK, hr, ⟨fun L q => (by cases q), hLS⟩, hnm, Nat.le_refl _, Nat.le_refl _, hkb⟩
  have hle : (lg_sl (a.map (mx_v g.2.2.2.2.2.1))).length ≤ M.2.2.1.1 := by rw [mx_sl hr]; exact Nat.le_of_ble_eq_true hsum
  have hlv := lv_entry (a.map (mx_v g.2.2.2.2.2.1)) (n := M.2.2.1.1) hle
  rw [mx_args hr] at hlv
  rw [lg_entry_eq]
  refine W.cs (cells' := w.1.length + 0 - w.1.length) (slots' := w.2 + 0 - w.2) (by omega) (by omega) ?_
  refine hG.2 p e _ s m _ below meth c s.heap X _ w.1.length w.2 0 0 s.heap _ [] hlv hR va_S.rf (Nat.le_refl _) (Nat.le_refl _) (by show w1.1.length + 0 - w.1.length ≤ w1.1.length - w.1.length + 1; omega) (by show w1.2 + 0 - w.2 ≤ w1.2 - w.2 + 6; omega) (fun ls' H' locs' hl' hR' hS' => ?_)
  obtain ⟨sa, hsa⟩ := hEX.2.2.1 _ hs
  rw [hcl] at hown
  refine zx_throwS (A := fun q => g.2.2.2.2.2.2 ≤ q) (names := ms_nm) Bd.exec Bd.bytes hl hown hE1 (by decide +kernel) (mx_at_use hk hE) (mx_at_use hi hE) hsa (fun w hw => hE w (hat w hw).1 (hat w hw).2 _) hgood hEX.1 hEX.2.1 hS' (hl'.1.trans hml.symm) d0 d3 d4 d6 d9 (fun x hx => (hex x hx).elim) (by show 2 + 3 < d + 1; omega) (by show 0 + (13 * (2 + 1) + 43) ≤ 40 * (d + 1); omega) (by show w1.1.length + 0 - w.1.length + 1 ≤ w1.1.length - w.1.length + 1; omega) (by show w1.2 + 0 - w.2 + 6 ≤ w1.2 - w.2 + 6; omega) Bd.notSynchronized (fun t ht h1 h2 => ?_) hS'.2.2 (by show w1.1.length + 0 - w.1.length + 1 ≤ _; omega) (by show w1.2 + 0 - w.2 + 6 ≤ _; omega)
  exact ⟨rfl, hR'.dead1 hlE h1 h2, Nat.le_trans hS'.1 (by rw [h1]; omega), fun q g1 g2 => (h2 q (Nat.lt_of_lt_of_le g1 hS'.1)).trans (hS'.2.1 q g1 g2)⟩
