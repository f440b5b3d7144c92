/-! ### the law's callers, where the class answers -/
theorem zw_ret {g : zΓ} {d : Nat} {MW : mM} {hh : List (Nat × Nat × Nat × Nat)} {a : List Value} {w : mW} {σ' : mS} {v : Option Value} (hg : zg g) (hMW : mx_wok (fun a => mt_tab[a]?.map (fun M => M.1)) MW) (hWc : MW.1.cls = RL) (hret : MW.2.2.1.2.1 = some .int)
    (hsum : Nat.ble ((a.map fun v => v.category).sum) MW.2.2.1.1 = true) (hG : zG g d MW none (0, lv_args 0 a, [], w) σ') (hr3 : mx_ret MW σ' = some (v, σ'.2.2.2)) :
    Met g.2.2.1 MW.1 [Cond.codeWith MW.1 MW.2.1 MW.2.2.1.1 (some .int) hh] { frames := d + 1, cells := σ'.2.2.2.1.length - w.1.length, slots := σ'.2.2.2.2 - w.2, locals := 40 * (d + 1) } (mx_PcY g.2.2.2.1 g.2.2.2.2.1 g.2.2.2.2.2.1 g.2.2.2.2.2.2 a w) (mx_Qc g.2.2.2.1 g.2.2.2.2.1 g.2.2.2.2.2.1 g.2.2.2.2.2.2 v σ'.2.2.2) (σ'.2.2.2.1.length - w.1.length) (σ'.2.2.2.2 - w.2) (fun q => g.2.2.2.2.2.2 ≤ q) := by
  have hr := hg.2.1
  have hkb := hg.2.2.1
  refine va_MetW (cc := MW.2.1) (maxL := MW.2.2.1.1) (ret := some .int) (hh := hh) (ws' := []) (by rw [hWc]; decide +kernel) rfl ?_
  intro p e s m args below meth c s₁ Bd hml hv
  obtain ⟨⟨⟨rfl, hE, hK, hR, hLS⟩, hEX⟩, -⟩ := hv
  have hown : s.vm.findClass MW.1.cls = some m.cls := findClass_of_methodNamed Bd.named
  have hnm : meth.name = MW.1.name := (name_of_methodNamed Bd.named Bd.method).1
  have X : mx_X g.1 p { frames := d + 1, cells := σ'.2.2.2.1.length - w.1.length, slots := σ'.2.2.2.2 - w.2, locals := 40 * (d + 1) } s m meth c g.2.2.2.1 g.2.2.2.2.1 g.2.2.2.2.2.1 g.2.2.2.2.2.2 MW none s.heap d := ⟨Bd.exec, Bd.bytes, hml, hown, hE, hK, hr, ⟨fun L q => (by cases q), hLS⟩, hnm, Nat.le_refl _, Nat.le_refl _, hkb⟩
  have hle : (lg_sl (a.map (mx_v g.2.2.2.2.2.1))).length ≤ MW.2.2.1.1 := by rw [mx_sl hr]; exact Nat.le_of_ble_eq_true hsum
  have hlv := lv_entry (a.map (mx_v g.2.2.2.2.2.1)) (n := MW.2.2.1.1) hle
  rw [mx_args hr] at hlv
  rw [lg_entry_eq]
  refine W.cs (cells' := w.1.length + 0 - w.1.length) (slots' := w.2 + 0 - w.2) (by omega) (by omega) ?_
  refine hG.2 p e _ s m _ below meth c s.heap X _ w.1.length w.2 0 0 s.heap _ [] hlv hR va_S.rf (Nat.le_refl _) (Nat.le_refl _) (Nat.le_refl _) (Nat.le_refl _) (fun ls' H' locs' hl' hR' hS' => ?_)
  exact mx_ret_W hMW X (by rw [hret]; exact Bd.returns) Bd.notSynchronized hR' hS' hr3
