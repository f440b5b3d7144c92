/-! ### the law's nine callers, where the class throws -/
def ms_UOE : String := "java/lang/UnsupportedOperationException"
def mx_PcY (D : va_G) (cy : Nat → ClassId) (r : Nat → Value) (B : Nat) (a : List Value) (w : mW) : Array Value → State → Prop := fun av U => mx_PcX D cy r B a w av U ∧ va_Nc ms_UOE ms_IAE U
section ZMX
variable {l : Launch} {r : Nat → Value} {B : Nat} {D : va_G} {cy : Nat → ClassId}
variable {p : Program} {e : Env} {R : Room} {s : State} {m : MethodId} {args : Array Value} {below : List Frame} {meth : Method} {c : Code} {H : Heap} {locs : List Loc} {cells slots : Nat} {Q : State → Prop}
/-- behind a throw, with the caller's frame under it -/
theorem mx_thrown {mc ms pc : Nat} {E : String} {w : mW} {ls : Array Slot} {st0 rest : List Value} {H0 : Heap} (hr : vx_Run p l e R s m args below meth c H locs cells slots mc ms (F0 m pc ls st0) rest (fun _ _ _ => False) (mx_XC D cy r B E w) (fun q => B ≤ q)) (hS : va_S (fun q => B ≤ q) H0 H locs)
    (k : ∀ (H' : Heap) (locs' : List Loc) (q : Addr) (ce : Cell), mx_R D cy r B w H' → va_S (fun q => B ≤ q) H0 H' locs' → H'[q]? = some ce → ce.vm = .none → s.vm.findClass E = some ce.cls → vx_W p l e R s m args below meth c H' locs' (cells + mc) (slots + ms) Q (F0 m pc ls rest) q) : W p l e R s m args below meth c H locs cells slots Q (F0 m pc ls st0) := by
  intro T hT X
  rcases hr T hT X with ⟨_, _, _, _, _, _, _, _, _, _, hF, _⟩ | ⟨q, st₀, t, T', L, E', ce, h0, X', hL, e1, e2, ⟨hEE, hR', hz, hk⟩, hce, hcv, hcl, st⟩
  · exact hF.elim
  · subst hEE
    rw [h0] at hz hk
    obtain ⟨t2, a1, b1⟩ := k T'.heap (locs ++ L) q ce (by rw [e1]; exact hR')
      ⟨Nat.le_trans hS.1 (by rw [e1]; exact hz), fun q h1 h2 => by rw [e1, hk q (Nat.lt_of_lt_of_le h1 hS.1) h2]; exact hS.2.1 q h1 h2, fun q hq => by
        rcases List.mem_append.mp hq with h | h
        · exact hS.2.2 q h
        · exact hL q h⟩ (by rw [e1]; exact hce) hcv hcl T' rfl X'
    exact ⟨t2, st.trans a1, b1⟩
/-- one of the law's nine callers, where the class throws E -/
theorem zw_thr {kb : mK} {d K pcv ixv h1 y n0 : Nat} {MW M : mM} {hh : List (Nat × Nat × Nat × Nat)} {a As : List Value} {w w2 : mW} {nc ns : Nat} {lv : List (Nat × Value)} {rest : List Value} {E : String} {kq : Int} {kv : Int32} {pw : Nat} (hr : mx_r r B) (hkb : mx_kb kb r) (hMW : mx_wok (fun a => mt_tab[a]?.map (fun M => M.1)) MW) (hWc : MW.1.cls = RL) (hret : MW.2.2.1.2.1 = some .int) (hpw : mx_at pw (.codeWith MW.1 MW.2.1 MW.2.2.1.1 (some .int) hh) = true)
    (hM : mt_tab[y]? = some M) (hmd : M.2.2.1.2.2.2.2 = 0) (hcl : M.1.cls = RX8) (hci : M.2.2.1.2.2.2.1 = 8)
    (hthr : vx_Met l M.1 [Cond.code M.1 M.2.1 M.2.2.1.1 M.2.2.1.2.1] { frames := d + 1, cells := nc, slots := ns, locals := 40 * (d + 1) } (mx_PcX D cy r B (.ref 0 :: As) w) (fun _ _ _ _ => False) (mx_XC D cy r B E w2) nc ns (fun q => B ≤ q))
    (hsum : Nat.ble ((a.map fun v => v.category).sum) MW.2.2.1.1 = true) (hrun : mx_runN kb mt_tab (mx_call kb mt_tab mo_ovr mo_jmp 0) none (fun _ => none) MW K (0, lv_args 0 a, [], w) = some (pcv, lv, As.reverse ++ .ref 0 :: rest, w)) (hAs : As.length = M.2.2.1.2.2.1) (hrest : Nat.ble ((rest.map fun v => v.category).sum) 8 = true)
    (h0w : ∃ fs, w.1[0]? = some (.inl (8, fs))) (hlk : mx_at n0 (.methodLink RL ixv M.1) = true) (dv : decode MW.2.1 pcv = .ok (.invokevirtual ixv, 3))
    (pre : List ExceptionTableEntry) (x : ExceptionTableEntry) (suf : List ExceptionTableEntry) (htab : tableOf hh = pre ++ x :: suf)
    (hpre : ∀ z ∈ pre, z.catchType ≠ 0 ∧ ∃ (q : Nat) (nm : String), mx_at q (.classLink RL z.catchType nm) = true ∧ ((E = ms_IAE ∧ nm = ms_IOB) ∨ (E = ms_UOE ∧ nm = ms_IAE))) (hcov : covers x pcv = true) (hct : x.catchType ≠ 0) {pc2 pc3 : Nat} (hx1 : mx_at pc2 (.classLink RL x.catchType E) = true) (hx2 : mx_at pc3 (.castable E E) = true)
    (hst : (∃ n, decode MW.2.1 x.handlerPc = .ok (.astore n, 2) ∧ n < MW.2.2.1.1 ∧ h1 = x.handlerPc + 2) ∨ (∃ n : Fin 4, decode MW.2.1 x.handlerPc = .ok (.astore_n n, 1) ∧ (n : Nat) < MW.2.2.1.1 ∧ h1 = x.handlerPc + 1)) (hkc : decode MW.2.1 h1 = .ok (.iconst kq, 1)) (hkv : Int32.ofInt kq = kv) (hkr : decode MW.2.1 (h1 + 1) = .ok (.ireturn, 1)) :
    Met l MW.1 [Cond.codeWith MW.1 MW.2.1 MW.2.2.1.1 (some .int) hh] { frames := d + 2, cells := nc, slots := ns, locals := 40 * (d + 2) } (mx_PcY D cy r B a w) (mx_Qc D cy r B (some (.int kv)) w2) nc ns (fun q => B ≤ q) := by
  have hok := mt_ok M (List.mem_of_getElem? hM)
  obtain ⟨m1, m2, m3, m4, m5, m6, m7, m8, m9, m10, m11⟩ := mx_Mok hok
  refine va_MetW (cc := MW.2.1) (maxL := MW.2.2.1.1) (ret := some .int) (hh := hh) (ws' := []) (by rw [hWc]; decide +kernel) rfl ?_
  intro p e s m args below meth c s₁ Bd hml hv
  obtain ⟨⟨⟨rfl, hE, hK, hR, hLS⟩, hEX⟩, hNU⟩ := hv
  have hown : s.vm.findClass MW.1.cls = some m.cls := findClass_of_methodNamed Bd.named
  have hnm : meth.name = MW.1.name := (name_of_methodNamed Bd.named Bd.method).1
  have hxt : c.exceptionTable.toList = pre ++ x :: suf := by rw [← htab]; exact vx_table (x := MW.1) Bd (mx_at_use hpw hE)
  have X : mx_X kb p { frames := d + 2, cells := nc, slots := ns, locals := 40 * (d + 2) } s m meth c D cy r B MW none s.heap 0 := ⟨Bd.exec, Bd.bytes, hml, hown, hE, hK, hr, ⟨fun L q => (by cases q), hLS⟩, hnm, (by show 1 ≤ d + 2; omega), (by show 40 * 1 ≤ 40 * (d + 2); omega), hkb⟩
  have hle : (lg_sl (a.map (mx_v r))).length ≤ MW.2.2.1.1 := by rw [mx_sl hr]; exact Nat.le_of_ble_eq_true hsum
  have hlv := lv_entry (a.map (mx_v r)) (n := MW.2.2.1.1) hle
  rw [mx_args hr] at hlv
  rw [lg_entry_eq]
  refine W.cs (cells' := w.1.length - w.1.length) (slots' := w.2 - w.2) (by omega) (by omega) ?_
  refine mx_runN_St (l := l) (e := e) (args := (a.map (mx_v r)).toArray) (below := below) mt_ok hMW X (fun a As w v w' q => by cases q) (fun σ σ' q => by cases q) K hrun _ w.1.length w.2 0 0 s.heap _ [] hlv hR va_S.rf (Nat.le_refl _) (Nat.le_refl _) (by show w.1.length - w.1.length ≤ nc; omega) (by show w.2 - w.2 ≤ ns; omega) (fun ls' H' locs' hl' hR' hS' => ?_)
  show W _ _ _ _ _ _ _ _ _ _ H' locs' (w.1.length - w.1.length) (w.2 - w.2) _ (F0 m pcv ls' ((As.reverse ++ .ref 0 :: rest).map (mx_v r)))
  rw [Nat.sub_self, Nat.sub_self]
  obtain ⟨fs, hw0⟩ := h0w
  have hr0 := hR'.ref hr hw0
  have hsum2 := Nat.le_of_ble_eq_true hrest
  rw [← mx_cats hr] at hsum2
  obtain ⟨n1, n2, q8, n3, n4⟩ := m7 hmd
  rw [hWc] at hown
  have CF : CallFix p m c MW.2.1 MW.2.2.1.1 s (a.map (mx_v r)).toArray [] RL := ⟨Bd.exec, Bd.bytes, hml, hown, fun w hw => by cases hw⟩
  have hws : ∀ w ∈ [Cond.code M.1 M.2.1 M.2.2.1.1 M.2.2.1.2.1], ∀ (a' : Array Value) (U : State), s.WarmedH U.vm → w.before a' U = true := by
    intro w hw a' U hW
    rw [List.mem_singleton.mp hw]
    exact mx_at_use m3 (mx_Env.warm hW hE)
  have hlen : ∀ sig, parseMethodDescriptor M.1.desc = some sig → M.2.2.1.2.2.1 = sig.parameters.length := fun sig hs => by
    have := m8.2.2
    rw [hs] at this
    exact (Option.some.inj this).symm
  have hp : PreV s H' M.1.cls (B + 0) (mx_PcX D cy r B (.ref 0 :: As) w) (As.map (mx_v r)) := ⟨mx_blindX, by rw [← n4]; exact va_recv hK (hR'.P hw0 rfl) (by rw [hci] at n3; exact n3) (q0 := 0) rfl, fun U hU hW => ⟨⟨by simp [mx_v_ref, hr0], mx_Env.warm hW hE, va_K.moved hW.alike hK, by rw [hU]; exact hR', by rw [hU]; exact hLS.go hS' hW⟩, by rw [hU]; exact hEX.go hS' hW⟩⟩
  refine mx_thrown (D := D) (cy := cy) (r := r) (B := B) (E := E) (w := w2) (mc := nc) (ms := ns) (rest := rest.map (mx_v r)) (H0 := s.heap) (vx_runV (As := As.map (mx_v r)) (b := B + 0) (Qc := fun _ _ _ _ => False) CF hthr ⟨⟨rfl, rfl, (by show d + 1 + 1 ≤ d + 2; omega), (by show 8 + (M.2.2.1.1 + 11) + 40 * (d + 1) ≤ 40 * (d + 2); omega), hws, List.mem_singleton.mpr rfl, mx_at_use m3 hE, mx_at_use m4 hE, ⟨m8.1, m8.2.1⟩, hlen, mx_at_use hlk hE⟩, mx_at_use n1 hE, mx_at_use n2 hE⟩ hp rfl (by simpa using hAs) hl'.1 (by show (As.reverse ++ .ref 0 :: rest).map (mx_v r) = _; simp [mx_v_ref, hr0]) (lv_room hsum2) dv ⟨by show 0 + nc ≤ nc; omega, by show 0 + ns ≤ ns; omega⟩) hS' (fun H2 locs2 q ce hR2 hS2 hce hcv hcE => ?_)
  refine vx_catch hown pre x suf hxt (fun z hz => ?_) hcov hct (mx_at_use hx1 hE) (mx_at_use hx2 hE) hce hcv hcE ?_
  · obtain ⟨g2, q5, nm, g3, g1⟩ := hpre z hz
    right
    refine ⟨g2, nm, mx_at_use g3 hE, ?_⟩
    rcases g1 with ⟨g1, g4⟩ | ⟨g1, g4⟩
    · rw [g1, g4]; exact hEX.2.2.2
    · rw [g1, g4]; exact hNU
  · have fin : ∀ ls2 : Array Slot, W p l e { frames := d + 2, cells := nc, slots := ns, locals := 40 * (d + 2) } s m (a.map (mx_v r)).toArray below meth c H2 locs2 (0 + nc) (0 + ns) (MQ below (mx_Qc D cy r B (some (.int kv)) w2) (a.map (mx_v r)).toArray s nc ns (fun q => B ≤ q)) (F0 m h1 ls2 []) := by
      intro ls2
      rw [Nat.zero_add, Nat.zero_add]
      refine lv_iconst Bd.exec Bd.bytes hkc hkv ?_
      exact W.iret Bd.exec Bd.bytes Bd.returns (fun t ht hW => ⟨rfl, by rw [ht]; exact hR2, hS2.F ht⟩) hS2.2.2 hkr Bd.notSynchronized
    rcases hst with ⟨n, g1, g2, rfl⟩ | ⟨n, g1, g2, rfl⟩
    · exact lv_astore Bd.exec Bd.bytes g1 hl' g2 rfl (fun ls2 _ => fin ls2)
    · exact lv_astore_n Bd.exec Bd.bytes g1 rfl hl' g2 rfl (fun ls2 _ => fin ls2)
end ZMX
set_option maxRecDepth 1000000 in
theorem ms_atA : ∀ w ∈ vx_atS RX8 66 ms_IAE ms_nm, w ∈ lw_tbl ∧ mx_ok w = true := by decide +kernel
set_option maxRecDepth 1000000 in
theorem ms_atB : ∀ w ∈ vx_atS RX8 105 ms_IOB ms_nm, w ∈ lw_tbl ∧ mx_ok w = true := by decide +kernel
theorem ms_goA : ∀ w ∈ Cond.classLink RX8 62 ms_IAE :: Cond.initialized ms_IAE :: vx_atS RX8 66 ms_IAE ms_nm, vx_ot w = true := by decide +kernel
theorem ms_goB : ∀ w ∈ Cond.classLink RX8 101 ms_IOB :: Cond.initialized ms_IOB :: vx_atS RX8 105 ms_IOB ms_nm, vx_ot w = true := by decide +kernel
set_option maxRecDepth 1000000 in
theorem ms_atC : ∀ w ∈ vx_atS RX8 77 ms_UOE ms_nm, w ∈ lw_tbl ∧ mx_ok w = true := by decide +kernel
theorem ms_goC : ∀ w ∈ Cond.classLink RX8 73 ms_UOE :: Cond.initialized ms_UOE :: vx_atS RX8 77 ms_UOE ms_nm, vx_ot w = true := by decide +kernel
