/-! ### runs that are taken at once: java.util.Arrays.fill, the reference's clearHeads and its long loop, a copy -/
def mo_fill (a : List Value) (w : mW) : Option (Option Value × mW) := match a with
  | [.ref j, .int v] => match w.1[j]? with
    | some (.inr ((k, n), .inl _)) => if Nat.beq k 0 && Nat.ble n 1000000 then some (none, (w.1.set j (.inr ((0, n), .inl (v, []))), w.2)) else none
    | _ => none
  | _ => none
def mo_heads (a : List Value) (w : mW) : Option (Option Value × mW) := match a with
  | [.ref j1] => match w.1[j1]? with
    | some (.inl (ci, fs)) => match (fs[6]? : Option Value) with
      | some (.ref j) => match w.1[j]? with
        | some (.inr ((k, n), .inl _)) => if Nat.beq ci 9 && Nat.beq k 0 && Nat.beq n 2048 then some (none, (w.1.set j (.inr ((0, 2048), .inl (-1, []))), w.2)) else none
        | _ => none
      | _ => none
    | _ => none
  | _ => none
def mo_ovr (y : Nat) (a : List Value) (w : mW) : Option (Option Value × mW) := if Nat.beq y 192 then mo_fill a w else if Nat.beq y 120 then mo_heads a w else none
def mo_anew (σ : mS) : Option mS := if Nat.beq σ.1 105 then (match σ.2.2.1 with
    | [] => match σ.2.1.lookup 1 with
      | some (.int i) => match σ.2.1.lookup 0 with
        | some (.ref j1) => match σ.2.2.2.1[j1]? with
          | some (.inl (ci, fs)) => match (fs[39]? : Option Value) with
            | some (.ref j) => match (fs[40]? : Option Value) with
              | some (.ref g) => match σ.2.2.2.1[j]? with
                | some (.inr ((k, n), .inl _)) => match σ.2.2.2.1[g]? with
                  | some (.inr ((k2, n2), .inl _)) => if decide (i = 0) && Nat.beq ci 9 && Nat.beq k 0 && Nat.beq n 6400 && Nat.beq k2 2 && Nat.beq n2 6400 && decide (j ≠ g) then some (132, [(1, .int 6400), (0, .ref j1)], [], ((σ.2.2.2.1.set j (.inr ((0, 6400), .inl (0, [])))).set g (.inr ((2, 6400), .inl (0, []))), σ.2.2.2.2)) else none
                  | _ => none
                | _ => none
              | _ => none
            | _ => none
          | _ => none
        | _ => none
      | _ => none
    | _ => none) else none
def mo_append (σ : mS) : Option mS := if Nat.beq σ.1 5 then (match σ.2.2.1 with
    | [] => match σ.2.1.lookup 4 with
      | some (.int i) => match σ.2.1.lookup 0 with
        | some (.ref jt) => match σ.2.1.lookup 1 with
          | some v => match σ.2.2.2.1[jt]? with
            | some (.inl (ci, fs)) => match (fs[0]? : Option Value) with
              | some (.ref jb) => match (fs[4]? : Option Value) with
                | some (.int x) => match σ.2.2.2.1[jb]? with
                  | some (.inr ((k, n), .inl _)) => if mx_isL v && Nat.beq ci 5 && Nat.beq k 0 && Nat.beq n 800 && Nat.beq fs.length 9 && decide (¬ i < 0) && decide (¬ x < 0) && Nat.ble (x.toNatClampNeg + (i.toNatClampNeg + 1)) 800 then some (49, [(0, .ref jt)], [], ((σ.2.2.2.1.set jt (.inl (5, fs.set 4 (.int (nI (x.toNatClampNeg + (i.toNatClampNeg + 1))))))).set jb (.inr ((9, 800), .inl (0, []))), σ.2.2.2.2)) else none
                  | _ => none
                | _ => none
              | _ => none
            | _ => none
          | _ => none
        | _ => none
      | _ => none
    | _ => none) else none
def mo_feed9 (σ : mS) : Option mS := if Nat.beq σ.1 50 then (match σ.2.2.1 with
    | [] => match σ.2.1.lookup 4 with
      | some (.int i) => match σ.2.1.lookup 0 with
        | some (.ref jt) => match σ.2.1.lookup 1 with
          | some v => match σ.2.2.2.1[jt]? with
            | some (.inl (ci, fs)) => match (fs[28]? : Option Value) with
              | some (.ref jb) => match (fs[29]? : Option Value) with
                | some (.int x) => match σ.2.2.2.1[jb]? with
                  | some (.inr ((k, n), .inl _)) => if mx_isL v && Nat.beq ci 9 && Nat.beq k 0 && Nat.beq n 800 && Nat.beq fs.length 77 && decide (¬ i < 0) && decide (¬ x < 0) && Nat.ble (x.toNatClampNeg + (i.toNatClampNeg + 1)) 800 then some (92, [(0, .ref jt)], [], ((σ.2.2.2.1.set jt (.inl (9, fs.set 29 (.int (nI (x.toNatClampNeg + (i.toNatClampNeg + 1))))))).set jb (.inr ((9, 800), .inl (0, []))), σ.2.2.2.2)) else none
                  | _ => none
                | _ => none
              | _ => none
            | _ => none
          | _ => none
        | _ => none
      | _ => none
    | _ => none) else none
def mo_jmp (y : Nat) (σ : mS) : Option mS := if Nat.beq y 118 then mo_anew σ else if Nat.beq y 92 then mo_copy σ else if Nat.beq y 71 then mo_append σ else if Nat.beq y 180 then mo_feed9 σ else none
section MX8
variable {l : Launch} {r : Nat → Value} {B : Nat} {D : va_G} {cy : Nat → ClassId}
theorem mo_fill_met (hr : mx_r r B) {d : Nat} {As : List Value} {w : mW} {v : Option Value} {w' : mW} (h : mo_fill As w = some (v, w')) : mx_Met l D cy r B mt_J7_fill_53178 (d + 1) As w v w' := by
  unfold mo_fill at h
  split at h
  · rename_i j x
    split at h
    · rename_i k n a hj
      split at h
      · rename_i hc
        simp only [Bool.and_eq_true] at hc
        cases h
        have hk0 : k = 0 := Nat.eq_of_beq_eq_true hc.1
        subst hk0
        have hn := Nat.le_of_ble_eq_true hc.2
        unfold mx_Met
        refine Met.ofW (cc := cJ7_fill_53178) (maxL := 4) (ret := none) (ws' := []) (by decide +kernel) rfl ?_
        intro p e s m args below meth c s₁ Bd hml hv
        obtain ⟨rfl, hE, hK, hR, hLS⟩ := hv
        have hx := Bd.exec
        have hb := Bd.bytes
        have hj' := hR.ref hr hj
        simp only [List.length_set, Nat.sub_self]
        have hl := lv_entry (([.ref j, .int x] : List Value).map (mx_v r)) (n := 4) (by rw [mx_sl hr]; simp [Value.category])
        rw [mx_args hr] at hl
        rw [lg_entry_eq]
        generalize (lg_sl (([.ref j, .int x] : List Value).map (mx_v r)) ++ List.replicate (4 - (lg_sl (([.ref j, .int x] : List Value).map (mx_v r))).length) Slot.unset).toArray = ls at hl ⊢
        have hl : lv_has ls 4 [(0, .ref (B + j)), (1, .int x)] := by
          have e1 : mx_lv r (lv_args 0 [.ref j, .int x]) = [(0, .ref (B + j)), (1, .int x)] := by
            show [(0, r j), (1, Value.int x)] = _
            rw [hj']
          rw [e1] at hl
          exact hl
        refine lv_iconst (v := 0) hx hb dJ7_fill_53178_0 (by decide) ?_
        refine lv_istore_n (lv' := [(2, .int 0), (0, .ref (B + j)), (1, .int x)]) hx hb dJ7_fill_53178_1 rfl hl (by decide) rfl (fun ls hl => ?_)
        refine lv_aload_n hx hb dJ7_fill_53178_2 rfl (lv_at hl 1 rfl) ?_
        refine va_alen (v := nI n) hx hb hK (hR.P hj rfl) 0 0 rfl rfl rfl dJ7_fill_53178_3 ?_
        refine lv_istore_n (lv' := [(3, .int (nI n)), (2, .int 0), (0, .ref (B + j)), (1, .int x)]) hx hb dJ7_fill_53178_4 rfl hl (by decide) rfl (fun ls hl => ?_)
        have hR0 : mx_R D cy r B (w.1.set j (.inr ((0, n), .inl a)), w.2) s.heap := by
          have e2 : w.1.set j (.inr ((0, n), .inl a)) = w.1 := by
            apply List.ext_getElem?
            intro i
            by_cases hi : i = j
            · subst hi; rw [mx_set_get hj, hj]
            · rw [List.getElem?_set_ne (Ne.symm hi)]
          rw [e2]; exact hR
        refine fl_fill hx hb hr hK (by omega) hj (fun H' ls' locs' hR' hS' => ?_) n 0 a s.heap ls [] (by omega) (fun q hq => by omega) hR0 va_S.rf (lv_sub hl [1, 0, 2, 3] rfl)
        exact W.vret hx hb Bd.returns (fun t ht hW => ⟨rfl, by rw [ht]; exact hR', hS'.F ht⟩) hS'.2.2 dJ7_fill_53178_20
      · cases h
    · cases h
  · cases h
theorem mo_heads_met (hr : mx_r r B) {d : Nat} {As : List Value} {w : mW} {v : Option Value} {w' : mW} (h : mo_heads As w = some (v, w')) : mx_Met l D cy r B mt_X9_clearHeads (d + 1) As w v w' := by
  unfold mo_heads at h
  split at h
  · rename_i j1
    split at h
    · rename_i ci fs hj1
      split at h
      · rename_i j hf
        split at h
        · rename_i k n a hj
          split at h
          · rename_i hc
            simp only [Bool.and_eq_true] at hc
            cases h
            have hk0 : k = 0 := Nat.eq_of_beq_eq_true hc.1.2
            have hn : n = 2048 := Nat.eq_of_beq_eq_true hc.2
            have hci : ci = 9 := Nat.eq_of_beq_eq_true hc.1.1
            subst hk0 hn hci
            have hne : j ≠ j1 := fun q => by subst q; rw [hj] at hj1; cases hj1
            unfold mx_Met
            refine Met.ofW (cc := cX9_clearHeads) (maxL := 2) (ret := none) (ws' := []) (by decide +kernel) rfl ?_
            intro p e s m args below meth c s₁ Bd hml hv
            obtain ⟨rfl, hE, hK, hR, hLS⟩ := hv
            have hx := Bd.exec
            have hb := Bd.bytes
            have hown : s.vm.findClass RX9 = some m.cls := findClass_of_methodNamed Bd.named
            have hj' := hR.ref hr hj1
            simp only [List.length_set, Nat.sub_self]
            have hl := lv_entry (([.ref j1] : List Value).map (mx_v r)) (n := 2) (by rw [mx_sl hr]; simp [Value.category])
            rw [mx_args hr] at hl
            rw [lg_entry_eq]
            generalize (lg_sl (([.ref j1] : List Value).map (mx_v r)) ++ List.replicate (2 - (lg_sl (([.ref j1] : List Value).map (mx_v r))).length) Slot.unset).toArray = ls at hl ⊢
            have hl : lv_has ls 2 [(0, .ref (B + j1))] := by
              have e1 : mx_lv r (lv_args 0 [.ref j1]) = [(0, .ref (B + j1))] := by
                show [(0, r j1)] = _
                rw [hj']
              rw [e1] at hl
              exact hl
            refine lv_iconst (v := 0) hx hb dX9_clearHeads_0 (by decide) ?_
            refine lv_istore_n (lv' := [(1, .int 0), (0, .ref (B + j1))]) hx hb dX9_clearHeads_1 rfl hl (by decide) rfl (fun ls hl => ?_)
            have hR0 : mx_R D cy r B (w.1.set j (.inr ((0, 2048), .inl a)), w.2) s.heap := by
              have e2 : w.1.set j (.inr ((0, 2048), .inl a)) = w.1 := by
                apply List.ext_getElem?
                intro i
                by_cases hi : i = j
                · subst hi; rw [mx_set_get hj, hj]
                · rw [List.getElem?_set_ne (Ne.symm hi)]
              rw [e2]; exact hR
            refine fl_heads hx hb hr hK hE hown (n := 2048) rfl hj hj1 hf hne (fun H' ls' locs' hR' hS' => ?_) 2048 0 a s.heap ls [] (by omega) (fun q hq => by omega) hR0 va_S.rf hl
            exact W.vret hx hb Bd.returns (fun t ht hW => ⟨rfl, by rw [ht]; exact hR', hS'.F ht⟩) hS'.2.2 dX9_clearHeads_22
          · cases h
        · cases h
      · cases h
    · cases h
  · cases h
theorem mo_ovr_met (hr : mx_r r B) : ∀ d a As w v w', mo_ovr a As w = some (v, w') → ∀ M, mt_tab[a]? = some M → mx_Met l D cy r B M (d + 1) As w v w' := by
  intro d a As w v w' h M hM
  unfold mo_ovr at h
  split at h
  · rename_i ha
    have ha := Nat.eq_of_beq_eq_true ha
    subst ha
    cases (show some mt_J7_fill_53178 = some M from hM)
    exact mo_fill_met hr h
  · split at h
    · rename_i ha
      have ha := Nat.eq_of_beq_eq_true ha
      subst ha
      cases (show some mt_X9_clearHeads = some M from hM)
      exact mo_heads_met hr h
    · cases h
variable {p : Program} {e : Env} {R : Room} {s : State} {m : MethodId} {args : Array Value} {below : List Frame} {meth : Method} {c : Code} {H0 : Heap}
theorem mo_anew_jmp {kb : mK} {sc : Option Nat} {d : Nat} (X : mx_X kb p R s m meth c D cy r B mt_X9_anew sc H0 d) : mx_Jmp p l e R s m args below meth c D cy r B H0 2 mo_anew := by
  obtain ⟨hx, hb, hml, hown, hE, hK, hr, hsc, hnm, hfr, hlo, hkb⟩ := X
  intro σ σ' h
  obtain ⟨pc, lv, st, w⟩ := σ
  unfold mo_anew at h
  dsimp only at h
  split at h
  · rename_i hpc
    have hpc := Nat.eq_of_beq_eq_true hpc
    subst hpc
    split at h
    · split at h
      · rename_i i hi
        split at h
        · rename_i j1 h0
          split at h
          · rename_i ci fs hj1
            split at h
            · rename_i j hf
              split at h
              · rename_i g hf2
                split at h
                · rename_i k n a hj
                  split at h
                  · rename_i k2 n2 b hg
                    split at h
                    · rename_i hc
                      simp only [Bool.and_eq_true, decide_eq_true_eq] at hc
                      cases h
                      obtain ⟨⟨⟨⟨⟨⟨c1, c2⟩, c3⟩, c4⟩, c5⟩, c6⟩, c7⟩ := hc
                      have c2 : ci = 9 := Nat.eq_of_beq_eq_true c2
                      have c3 : k = 0 := Nat.eq_of_beq_eq_true c3
                      have c4 : n = 6400 := Nat.eq_of_beq_eq_true c4
                      have c5 : k2 = 2 := Nat.eq_of_beq_eq_true c5
                      have c6 : n2 = 6400 := Nat.eq_of_beq_eq_true c6
                      subst c1 c2 c3 c4 c5 c6
                      refine ⟨⟨by simp, Nat.le_refl _⟩, ?_⟩
                      intro Q n0 z0 k0 k1 H ls locs hl hR hS hn0 hz0 hrc hrs kk
                      have hj' := hR.ref hr hj1
                      have a1 := mx_lv_at hl hi
                      have a0 := mx_lv_at hl h0
                      rw [mx_v_ref, hj'] at a0
                      have hl2 : lv_has ls 2 [(1, .int (nI 0)), (0, .ref (B + j1))] := ⟨hl.1, hl.2.1, fun q hq => by
                        rcases List.mem_cons.mp hq with rfl | hq
                        · exact a1
                        · rw [List.mem_singleton.mp hq]; exact a0⟩
                      have hne : j ≠ j1 := fun q => by subst q; rw [hj] at hj1; cases hj1
                      have hne2 : g ≠ j1 := fun q => by subst q; rw [hg] at hj1; cases hj1
                      have hR0 : mx_R D cy r B ((w.1.set j (.inr ((0, 6400), .inl a))).set g (.inr ((2, 6400), .inl b)), w.2) H := by
                        have e2 : (w.1.set j (.inr ((0, 6400), .inl a))).set g (.inr ((2, 6400), .inl b)) = w.1 := by
                          apply List.ext_getElem?
                          intro i
                          by_cases hi : i = g
                          · subst hi
                            rw [hg]
                            exact mx_set_get (c := (.inr ((2, 6400), .inl b) : mE)) (by rw [List.getElem?_set_ne c7]; exact hg)
                          · rw [List.getElem?_set_ne (Ne.symm hi)]
                            by_cases hi2 : i = j
                            · subst hi2; rw [mx_set_get hj, hj]
                            · rw [List.getElem?_set_ne (Ne.symm hi2)]
                        rw [e2]; exact hR
                      refine fl_anew hx hb hr hK hE hown (n := 6400) rfl hj hg hj1 hf hf2 hne hne2 c7 (fun H' ls' locs' hl' hR' hS' => ?_) 6400 0 a b H ls locs (by omega) (fun q hq => by omega) (fun q hq => by omega) hR0 hS hl2
                      have k2 := kk ls' H' locs' (by
                        show lv_has ls' 2 [(1, .int 6400), (0, r j1)]
                        rw [hj']; exact hl') hR' hS'
                      simp only [List.length_set] at k2
                      exact k2
                    · cases h
                  · cases h
                · cases h
              · cases h
            · cases h
          · cases h
        · cases h
      · cases h
    · cases h
  · cases h
theorem mo_append_jmp {kb : mK} {sc : Option Nat} {d : Nat} (X : mx_X kb p R s m meth c D cy r B mt_X5_append sc H0 d) : mx_Jmp p l e R s m args below meth c D cy r B H0 5 mo_append := by
  obtain ⟨hx, hb, hml, hown, hE, hK, hr, hsc, hnm, hfr, hlo, hkb⟩ := X
  intro σ σ' h
  obtain ⟨pc, lv, st, w⟩ := σ
  unfold mo_append at h
  dsimp only at h
  split at h
  · rename_i hpc
    have hpc := Nat.eq_of_beq_eq_true hpc
    subst hpc
    split at h
    · split at h
      · rename_i i hi
        split at h
        · rename_i jt h0
          split at h
          · rename_i v hv
            split at h
            · rename_i ci fs hjt
              split at h
              · rename_i jb hf
                split at h
                · rename_i x hf4
                  split at h
                  · rename_i k n a hjb
                    split at h
                    · rename_i hc
                      simp only [Bool.and_eq_true, decide_eq_true_eq] at hc
                      cases h
                      obtain ⟨⟨⟨⟨⟨⟨⟨c1, c2⟩, c3⟩, c4⟩, c5⟩, c6⟩, c7⟩, c8⟩ := hc
                      have c2 : ci = 5 := Nat.eq_of_beq_eq_true c2
                      have c3 : k = 0 := Nat.eq_of_beq_eq_true c3
                      have c4 : n = 800 := Nat.eq_of_beq_eq_true c4
                      have c5 : fs.length = 9 := Nat.eq_of_beq_eq_true c5
                      have c8 := Nat.le_of_ble_eq_true c8
                      subst c2 c3 c4
                      refine ⟨⟨by simp, Nat.le_refl _⟩, ?_⟩
                      intro Q n0 z0 k0 k1 H ls locs hl hR hS hn0 hz0 hrc hrs kk
                      simp only [List.length_set] at hrc kk
                      obtain ⟨i2, hi2, ei⟩ := nI_of c6
                      obtain ⟨x2, hx2, ex⟩ := nI_of c7
                      have ci2 : i.toNatClampNeg = i2 := by rw [ei]; exact nI_clamp hi2
                      have cx2 : x.toNatClampNeg = x2 := by rw [ex]; exact nI_clamp hx2
                      have hj' := hR.ref hr hjt
                      obtain ⟨V, hV⟩ := mx_isL_spec (r := r) c1
                      have a4 := mx_lv_at hl hi
                      have a1 := mx_lv_at hl hv
                      have a0 := mx_lv_at hl h0
                      rw [mx_v_ref, hj'] at a0
                      rw [hV] at a1
                      have hl2 : lv_has ls 5 [(4, .int (nI (i2 + 1) - 1)), (0, .ref (B + jt)), (1, .long V)] := ⟨hl.1, hl.2.1, fun q hq => by
                        rcases List.mem_cons.mp hq with rfl | hq
                        · rw [fm_pred, ← ei]; exact a4
                        · rcases List.mem_cons.mp hq with rfl | hq
                          · exact a0
                          · rw [List.mem_singleton.mp hq]; exact a1⟩
                      have hne : jt ≠ jb := fun q => by subst q; rw [hjb] at hjt; cases hjt
                      have hfs : fs.set 4 (.int (nI x2)) = fs := by
                        rw [← ex]
                        apply List.ext_getElem?
                        intro q
                        by_cases hq : q = 4
                        · subst hq
                          rw [hf4]
                          simp [c5]
                        · rw [List.getElem?_set_ne (Ne.symm hq)]
                      have hR0 : mx_R D cy r B ((w.1.set jt (.inl (5, fs.set 4 (.int (nI x2))))).set jb (.inr ((0, 800), .inl a)), w.2) H := by
                        have e2 : (w.1.set jt (.inl (5, fs.set 4 (.int (nI x2))))).set jb (.inr ((0, 800), .inl a)) = w.1 := by
                          rw [hfs]
                          apply List.ext_getElem?
                          intro q
                          by_cases hq : q = jb
                          · subst hq
                            rw [hjb]
                            exact mx_set_get (c := (.inr ((0, 800), .inl a) : mE)) (by rw [List.getElem?_set_ne hne]; exact hjb)
                          · rw [List.getElem?_set_ne (Ne.symm hq)]
                            by_cases hq2 : q = jt
                            · subst hq2; rw [mx_set_get hjt, hjt]
                            · rw [List.getElem?_set_ne (Ne.symm hq2)]
                        rw [e2]; exact hR
                      refine fl_append hx hb hml hr hK hsc.2 hE hown (by omega) (by omega) ⟨by omega, by omega⟩ hjt hjb hf c5 hne (L1 := x2 + (i2 + 1)) (by omega) (fun H' ls' locs' a' hl' hR' hS' => ?_) (i2 + 1) x2 a H ls locs rfl hR0 hS hl2
                      have hR2 := hR'.dead (j := jb) (c' := .inr ((9, 800), .inl (0, []))) rfl
                      simp only [List.set_set] at hR2
                      rw [cx2, ci2] at kk
                      exact kk ls' H' locs' (by
                        show lv_has ls' 5 [(0, r jt)]
                        rw [hj']; exact hl') hR2 hS'
                    · cases h
                  · cases h
                · cases h
              · cases h
            · cases h
          · cases h
        · cases h
      · cases h
    · cases h
  · cases h
theorem mo_feed9_jmp {kb : mK} {sc : Option Nat} {d : Nat} (X : mx_X kb p R s m meth c D cy r B mt_X9_feed sc H0 d) : mx_Jmp p l e R s m args below meth c D cy r B H0 5 mo_feed9 := by
  obtain ⟨hx, hb, hml, hown, hE, hK, hr, hsc, hnm, hfr, hlo, hkb⟩ := X
  intro σ σ' h
  obtain ⟨pc, lv, st, w⟩ := σ
  unfold mo_feed9 at h
  dsimp only at h
  split at h
  · rename_i hpc
    have hpc := Nat.eq_of_beq_eq_true hpc
    subst hpc
    split at h
    · split at h
      · rename_i i hi
        split at h
        · rename_i jt h0
          split at h
          · rename_i v hv
            split at h
            · rename_i ci fs hjt
              split at h
              · rename_i jb hf
                split at h
                · rename_i x hf4
                  split at h
                  · rename_i k n a hjb
                    split at h
                    · rename_i hc
                      simp only [Bool.and_eq_true, decide_eq_true_eq] at hc
                      cases h
                      obtain ⟨⟨⟨⟨⟨⟨⟨c1, c2⟩, c3⟩, c4⟩, c5⟩, c6⟩, c7⟩, c8⟩ := hc
                      have c2 : ci = 9 := Nat.eq_of_beq_eq_true c2
                      have c3 : k = 0 := Nat.eq_of_beq_eq_true c3
                      have c4 : n = 800 := Nat.eq_of_beq_eq_true c4
                      have c5 : fs.length = 77 := Nat.eq_of_beq_eq_true c5
                      have c8 := Nat.le_of_ble_eq_true c8
                      subst c2 c3 c4
                      refine ⟨⟨by simp, Nat.le_refl _⟩, ?_⟩
                      intro Q n0 z0 k0 k1 H ls locs hl hR hS hn0 hz0 hrc hrs kk
                      simp only [List.length_set] at hrc kk
                      obtain ⟨i2, hi2, ei⟩ := nI_of c6
                      obtain ⟨x2, hx2, ex⟩ := nI_of c7
                      have ci2 : i.toNatClampNeg = i2 := by rw [ei]; exact nI_clamp hi2
                      have cx2 : x.toNatClampNeg = x2 := by rw [ex]; exact nI_clamp hx2
                      have hj' := hR.ref hr hjt
                      obtain ⟨V, hV⟩ := mx_isL_spec (r := r) c1
                      have a4 := mx_lv_at hl hi
                      have a1 := mx_lv_at hl hv
                      have a0 := mx_lv_at hl h0
                      rw [mx_v_ref, hj'] at a0
                      rw [hV] at a1
                      have hl2 : lv_has ls 5 [(4, .int (nI (i2 + 1) - 1)), (0, .ref (B + jt)), (1, .long V)] := ⟨hl.1, hl.2.1, fun q hq => by
                        rcases List.mem_cons.mp hq with rfl | hq
                        · rw [fm_pred, ← ei]; exact a4
                        · rcases List.mem_cons.mp hq with rfl | hq
                          · exact a0
                          · rw [List.mem_singleton.mp hq]; exact a1⟩
                      have hne : jt ≠ jb := fun q => by subst q; rw [hjb] at hjt; cases hjt
                      have hfs : fs.set 29 (.int (nI x2)) = fs := by
                        rw [← ex]
                        apply List.ext_getElem?
                        intro q
                        by_cases hq : q = 29
                        · subst hq
                          rw [hf4]
                          simp [c5]
                        · rw [List.getElem?_set_ne (Ne.symm hq)]
                      have hR0 : mx_R D cy r B ((w.1.set jt (.inl (9, fs.set 29 (.int (nI x2))))).set jb (.inr ((0, 800), .inl a)), w.2) H := by
                        have e2 : (w.1.set jt (.inl (9, fs.set 29 (.int (nI x2))))).set jb (.inr ((0, 800), .inl a)) = w.1 := by
                          rw [hfs]
                          apply List.ext_getElem?
                          intro q
                          by_cases hq : q = jb
                          · subst hq
                            rw [hjb]
                            exact mx_set_get (c := (.inr ((0, 800), .inl a) : mE)) (by rw [List.getElem?_set_ne hne]; exact hjb)
                          · rw [List.getElem?_set_ne (Ne.symm hq)]
                            by_cases hq2 : q = jt
                            · subst hq2; rw [mx_set_get hjt, hjt]
                            · rw [List.getElem?_set_ne (Ne.symm hq2)]
                        rw [e2]; exact hR
                      refine fl_feed9 hx hb hr hK hE hown hjt hjb hf c5 hne (L1 := x2 + (i2 + 1)) (by omega) (fun H' ls' locs' a' hl' hR' hS' => ?_) (i2 + 1) x2 a H ls locs rfl hR0 hS hl2
                      have hR2 := hR'.dead (j := jb) (c' := .inr ((9, 800), .inl (0, []))) rfl
                      simp only [List.set_set] at hR2
                      rw [cx2, ci2] at kk
                      exact kk ls' H' locs' (by
                        show lv_has ls' 5 [(0, r jt)]
                        rw [hj']; exact hl') hR2 hS'
                    · cases h
                  · cases h
                · cases h
              · cases h
            · cases h
          · cases h
        · cases h
      · cases h
    · cases h
  · cases h
theorem mo_jmps {kb : mK} : ∀ y M, mt_tab[y]? = some M → ∀ (p : Program) (e : Env) (R : Room) (s : State) (m : MethodId) (args : Array Value) (below : List Frame) (meth : Method) (c : Code) (d : Nat), mx_X kb p R s m meth c D cy r B M none s.heap d → mx_Jmp p l e R s m args below meth c D cy r B s.heap M.2.2.1.1 (mo_jmp y) := by
  intro y M hM p e R s m args below meth c d X σ σ' h
  unfold mo_jmp at h
  split at h
  · rename_i hy
    have hy := Nat.eq_of_beq_eq_true hy
    subst hy
    cases (show some mt_X9_anew = some M from hM)
    exact mo_anew_jmp X σ σ' h
  · split at h
    · rename_i hy
      have hy := Nat.eq_of_beq_eq_true hy
      subst hy
      cases (show some mt_X7_closeReach = some M from hM)
      exact mo_copy_jmp X σ σ' h
    · split at h
      · rename_i hy
        have hy := Nat.eq_of_beq_eq_true hy
        subst hy
        cases (show some mt_X5_append = some M from hM)
        exact mo_append_jmp X σ σ' h
      · split at h
        · rename_i hy
          have hy := Nat.eq_of_beq_eq_true hy
          subst hy
          cases (show some mt_X9_feed = some M from hM)
          exact mo_feed9_jmp X σ σ' h
        · cases h
/-- every run is a contract -/
theorem mo_met {kb : mK} (hr : mx_r r B) (hkb : mx_kb kb r) : ∀ (d a : Nat) (As : List Value) (w : mW) (v : Option Value) (w' : mW), mx_call kb mt_tab mo_ovr mo_jmp d a As w = some (v, w') → ∀ M, mt_tab[a]? = some M → mx_Met l D cy r B M d As w v w' :=
  mx_met mt_ok hr hkb (mo_ovr_met hr) mo_jmps
end MX8
