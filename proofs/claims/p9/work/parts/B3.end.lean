/-! ### how a call that may throw ends -/
set_option maxHeartbeats 1000000 in
theorem zE_end {g : zΓ} {d a : Nat} {M : mM} {Q : Option zV → zM → Prop} {T : Nat → zM → Prop} (hg : zgo g) (ha : g.2.1[a]? = some M) {As : List zV} {w : mW} (h : Nat.ble (zsum As) M.2.2.1.1 = true ∧ zE g d M none [] (fun _ _ _ => False) Q T (0, zlv (zargs 0 As), [], w)) (hp : Nat.beq M.2.2.2.1.2.2.2 152 = false := by rfl) :
    (∃ (v : Option zV) (μ' : zM) (w' : mW), zMet g (d + 1) a (As.map zt) w (v.map zt) w' ∧ (w.1.length ≤ w'.1.length ∧ w.2 ≤ w'.2) ∧ zRep μ' w' ∧ (∀ q, v = some q → zrf q) ∧ Q v μ') ∨ (∃ (σ' : mS) (μ' : zM) (ix : Nat), zG g d M none (0, zlv (zargs 0 As), [], w) σ' ∧ zRep μ' σ'.2.2.2 ∧ M.2.2.2.2.1.lookup σ'.1 = some (.new ix) ∧ σ'.2.2.1 = [] ∧ T σ'.1 μ') := by
  obtain ⟨hs, σ', μ', h1, h2, h3⟩ := h
  rcases h3 with ⟨_, _, h3, _⟩ | ⟨v, h3, h4, h5⟩ | ⟨ix, h3, h4, h5⟩
  · cases h3
  · refine Or.inl ⟨v, μ', σ'.2.2.2, ?_, h1.1, h2, h4, h5⟩
    intro M' hM'
    cases ha.symm.trans hM'
    have hok := hg.1 M (List.mem_of_getElem? ha)
    have hrr := hg.2.1
    obtain ⟨m1, m2, m3, m4, m5, m6, m7, m8, m9, m10, m11⟩ := mx_Mok hok
    unfold mx_Met
    refine Met.ofW (cc := M.2.1) (maxL := M.2.2.1.1) (ret := M.2.2.1.2.1) (ws' := []) (m9 hp) rfl ?_
    intro p e s m args below meth c s₁ Bd hml hv
    obtain ⟨rfl, hE, hK, hR, hLS⟩ := hv
    have hown : s.vm.findClass M.1.cls = some m.cls := findClass_of_methodNamed Bd.named
    have hnm : meth.name = M.1.name := (name_of_methodNamed Bd.named Bd.method).1
    have X : mx_X g.1 p (mx_room (d + 1) w σ'.2.2.2) s m meth c g.2.2.2.1 g.2.2.2.2.1 g.2.2.2.2.2.1 g.2.2.2.2.2.2 M none s.heap d := ⟨Bd.exec, Bd.bytes, hml, hown, hE, hK, hrr, ⟨fun L q => (by cases q), hLS⟩, hnm, Nat.le_refl _, Nat.le_refl _, hg.2.2.1⟩
    have hle : (lg_sl ((As.map zt).map (mx_v g.2.2.2.2.2.1))).length ≤ M.2.2.1.1 := by rw [mx_sl hrr, zsum_eq]; exact Nat.le_of_ble_eq_true hs
    have hl := lv_entry ((As.map zt).map (mx_v g.2.2.2.2.2.1)) (n := M.2.2.1.1) hle
    rw [mx_args hrr, zargs_eq] at hl
    rw [lg_entry_eq]
    refine W.cs (cells' := w.1.length + 0 - w.1.length) (slots' := w.2 + 0 - w.2) (by omega) (by omega) ?_
    refine h1.2 p e (mx_room (d + 1) w σ'.2.2.2) s m _ below meth c s.heap X _ w.1.length w.2 0 0 s.heap _ [] hl hR va_S.rf (Nat.le_refl _) (Nat.le_refl _) (Nat.le_refl _) (Nat.le_refl _) (fun ls' H' locs' hl' hR' hS' => ?_)
    exact mx_ret_W (mx_wok_of hok) X Bd.returns Bd.notSynchronized hR' hS' h3
  · exact Or.inr ⟨σ', μ', ix, h1, h2, h3, h4, h5⟩
