/-! ### calls; a method's run is its contract -/
def mx_isO (w : mW) (j md ci : Nat) : Bool := match w.1[j]? with
  | some (.inl (c, _)) => Nat.beq md 2 || Nat.beq c ci
  | _ => false
def mx_ivk (tab : List mM) (call : Nat → List Value → mW → Option (Option Value × mW)) (lk : List (Nat × mL)) (i : Instr) (st : List Value) (w : mW) : Option (List Value × mW) :=
  match (match i with | .invokevirtual ix => some (ix, 0) | .invokestatic ix => some (ix, 1) | .invokespecial ix => some (ix, 2) | _ => none) with
  | none => none
  | some (ix, md) => match lk.lookup ix with
    | none => none
    | some (t, a, n, _) => match tab[a]? with
      | none => none
      | some M => if (Nat.beq t (2 * md + 2) || Nat.beq t (2 * md + 3)) && Nat.beq M.2.2.1.2.2.2.2 md && Nat.beq M.2.2.1.2.2.1 n && Nat.ble n st.length then
          if Nat.beq md 1 then
            (if Nat.ble (((st.drop n).map fun v => v.category).sum) 8 then match call a (st.take n).reverse w with
              | some (v, w') => if Nat.ble w.1.length w'.1.length && Nat.ble w.2 w'.2 then some (v.toList ++ st.drop n, w') else none
              | none => none else none)
          else match st.drop n with
            | .ref j :: rest => if Nat.ble ((rest.map fun v => v.category).sum) 8 && mx_isO w j md M.2.2.1.2.2.2.1 then match call a (.ref j :: (st.take n).reverse) w with
                | some (v, w') => if Nat.ble w.1.length w'.1.length && Nat.ble w.2 w'.2 then some (v.toList ++ rest, w') else none
                | none => none else none
            | _ => none
        else none
def mx_room (d : Nat) (w w' : mW) : Room := { frames := d, cells := w'.1.length - w.1.length, slots := w'.2 - w.2, locals := 40 * d }
def mx_Pc (D : va_G) (cy : Nat → ClassId) (r : Nat → Value) (B : Nat) (a : List Value) (w : mW) : Array Value → State → Prop := fun av U => av = (a.map (mx_v r)).toArray ∧ mx_Env U ∧ va_K D mx_cl (mx_tys cy) U ∧ mx_R D cy r B w U.heap ∧ mx_LS B U U.heap
def mx_Qc (D : va_G) (cy : Nat → ClassId) (r : Nat → Value) (B : Nat) (v : Option Value) (w' : mW) : Array Value → State → Outcome → State → Prop := fun _ st o t => o = .returned (v.map (mx_v r)) ∧ mx_R D cy r B w' t.heap ∧ va_F (fun q => B ≤ q) st t
def mx_Met (l : Launch) (D : va_G) (cy : Nat → ClassId) (r : Nat → Value) (B : Nat) (M : mM) (d : Nat) (a : List Value) (w : mW) (v : Option Value) (w' : mW) : Prop :=
  Met l M.1 [Cond.code M.1 M.2.1 M.2.2.1.1 M.2.2.1.2.1] (mx_room d w w') (mx_Pc D cy r B a w) (mx_Qc D cy r B v w') (w'.1.length - w.1.length) (w'.2 - w.2) (fun q => B ≤ q)
theorem mx_blind {D : va_G} {cy : Nat → ClassId} {r : Nat → Value} {B : Nat} {a : List Value} {w : mW} : FrameBlind (mx_Pc D cy r B a w) := by
  intro av U g mk h
  exact ⟨h.1, mx_Env.same (s := U) (U := U.calling g mk av) rfl h.2.1, va_K.moved (u := U) (U := U.calling g mk av) (Vm.Alike.refl U.vm) h.2.2.1, h.2.2.2.1, h.2.2.2.2.same rfl⟩
section MX4
variable {p : Program} {l : Launch} {e : Env} {R : Room} {s : State} {m : MethodId} {args : Array Value} {below : List Frame} {meth : Method} {c : Code} {H : Heap} {locs : List Loc} {cells slots : Nat} {Q : State → Prop}
variable {cc : ByteArray} {pc nL : Nat} {ls : Array Slot} {r : Nat → Value} {B : Nat} {D : va_G} {cy : Nat → ClassId} {H0 : Heap}
theorem mx_run {mc ms : Nat} {a : Array Value} {st0 rest : List Value} {v : Option Value} {w' : mW} (hr : va_Run p l e R s m args below meth c H locs cells slots mc ms (F0 m pc ls st0) rest (mx_Qc D cy r B v w' a) (fun q => B ≤ q)) (hS : va_S (fun q => B ≤ q) H0 H locs)
    (k : ∀ (H' : Heap) (locs' : List Loc), mx_R D cy r B w' H' → va_S (fun q => B ≤ q) H0 H' locs' → W p l e R s m args below meth c H' locs' (cells + mc) (slots + ms) Q (F0 m (pc + 3) ls ((v.map (mx_v r)).toList ++ rest))) : W p l e R s m args below meth c H locs cells slots Q (F0 m pc ls st0) := by
  intro T hT X
  obtain ⟨v', st₀, t, T', L, h0, X', hL, e1, e2, ⟨hv, hR', hz, hk⟩, st⟩ := hr T hT X
  cases hv
  rw [h0] at hz hk
  obtain ⟨t2, a1, b1⟩ := k T'.heap (locs ++ L) (by rw [e1]; exact hR')
    ⟨Nat.le_trans hS.1 (by rw [e1]; exact hz), fun q h1 h2 => by rw [e1, hk q (Nat.lt_of_lt_of_le h1 hS.1) h2]; exact hS.2.1 q h1 h2, fun q hq => by
      rcases List.mem_append.mp hq with h | h
      · exact hS.2.2 q h
      · exact hL q h⟩ T' rfl X'
  exact ⟨t2, st t2 a1, b1⟩
theorem mx_Mok {nms : Nat → Option MethodName} {M : mM} (h : mx_mok nms M = true) : (∀ x ∈ M.2.2.2.2.1, mx_rowok M.2.1 x = true) ∧ (∀ x ∈ M.2.2.2.2.2.1, mx_lkok nms M.1.cls x = true) ∧ mx_at M.2.2.2.1.1 (.code M.1 M.2.1 M.2.2.1.1 M.2.2.1.2.1) = true ∧ mx_at M.2.2.2.1.2.2.2 (.initialized M.1.cls) = true ∧
    (M.2.2.1.2.2.2.2 = 1 → mx_at M.2.2.2.1.2.1 (.static M.1) = true) ∧ (M.2.2.1.2.2.2.2 = 2 → mx_at M.2.2.2.1.2.1 (.instanceMethod M.1) = true ∧ M.1.name = "<init>" ∧ M.2.2.1.2.1 = none) ∧
    (M.2.2.1.2.2.2.2 = 0 → mx_at M.2.2.2.1.2.1 (.instanceMethod M.1) = true ∧ mx_at M.2.2.2.1.2.2.1 (.selects M.1.cls M.1 M.1) = true ∧ ∃ q, mx_cl[M.2.2.1.2.2.2.1]? = some q ∧ q.1 = M.1.cls) ∧
    (M.1.cls ≠ "java/lang/invoke/MethodHandle" ∧ M.1.cls ≠ "java/lang/invoke/VarHandle" ∧ (parseMethodDescriptor M.1.desc).map (fun d => d.parameters.length) = some M.2.2.1.2.2.1) ∧ (Nat.beq M.2.2.2.1.2.2.2 152 = false → plainName M.1.cls = true) ∧ M.2.2.1.1 ≤ 21 ∧
    (∀ ci, M.2.2.2.2.2.2 = some ci → M.1.name = "<init>" ∧ ∃ q, mx_cl[ci]? = some q ∧ M.1.cls = q.1) := by
  simp only [mx_mok, Bool.and_eq_true, List.all_eq_true, decide_eq_true_eq] at h
  obtain ⟨⟨⟨⟨⟨⟨⟨⟨h1, h2⟩, h3⟩, h4⟩, h5⟩, h6⟩, h7⟩, h8⟩, h9⟩ := h
  refine ⟨h1, h2, h3, h4, fun h => ?_, fun h => ?_, fun h => ?_, h6, (fun q => by rw [q, Bool.or_false] at h7; exact h7), Nat.le_of_ble_eq_true h8, fun ci h => ?_⟩
  · rw [h] at h5; exact h5
  · rw [h] at h5
    simp only [Bool.and_eq_true, decide_eq_true_eq] at h5
    exact ⟨h5.1.1, h5.1.2, h5.2⟩
  · rw [h] at h5
    simp only [Bool.and_eq_true] at h5
    refine ⟨h5.1.1, h5.1.2, ?_⟩
    have h10 := h5.2
    split at h10
    · rename_i q hq
      exact ⟨q, hq, by simpa using h10⟩
    · cases h10
  · rw [h] at h9
    simp only [Bool.and_eq_true, decide_eq_true_eq] at h9
    refine ⟨h9.1, ?_⟩
    have h10 := h9.2
    split at h10
    · rename_i q hq
      exact ⟨q, hq, by simpa using h10⟩
    · cases h10
set_option maxHeartbeats 4000000 in
theorem mx_ivk_W (hx : p.tables.exec = Jvm.exec) (hb : c.code = cc) (hml : c.maxLocals = nL) (hls : ls.size = nL) {own : String} {tab : List mM} {lk : List (Nat × mL)} {n0 z0 k0 k1 d : Nat} (hE : mx_Env s) (hown : s.vm.findClass own = some m.cls) (hK : va_K D mx_cl (mx_tys cy) s) (hr : mx_r r B)
    (hlk : ∀ x ∈ lk, mx_lkok (fun a => tab[a]?.map (fun M => M.1)) own x = true) (htab : ∀ M ∈ tab, mx_mok (fun a => tab[a]?.map (fun M => M.1)) M = true) (hfr : d + 1 ≤ R.frames) (hlo : 40 * (d + 1) ≤ R.locals) {call : Nat → List Value → mW → Option (Option Value × mW)}
    (hcall : ∀ a As w v w', call a As w = some (v, w') → ∀ M, tab[a]? = some M → mx_Met l D cy r B M d As w v w')
    {i : Instr} {st st' : List Value} {w w' : mW} (hR : mx_R D cy r B w H) (hS : va_S (fun q => B ≤ q) H0 H locs) (hLS : mx_LS B s H0) (hn0 : n0 ≤ w.1.length) (hz0 : z0 ≤ w.2) (hrc : w'.1.length + k0 - n0 ≤ R.cells) (hrs : w'.2 + k1 - z0 ≤ R.slots)
    (hd : decode cc pc = .ok (i, mx_len i)) (h : mx_ivk tab call lk i st w = some (st', w'))
    (k : ∀ (H' : Heap) (locs' : List Loc), mx_R D cy r B w' H' → va_S (fun q => B ≤ q) H0 H' locs' → W p l e R s m args below meth c H' locs' (w'.1.length + k0 - n0) (w'.2 + k1 - z0) Q (F0 m (pc + 3) ls (st'.map (mx_v r)))) :
    W p l e R s m args below meth c H locs (w.1.length + k0 - n0) (w.2 + k1 - z0) Q (F0 m pc ls (st.map (mx_v r))) := by
  unfold mx_ivk at h
  split at h
  · cases h
  · rename_i ix md hmd
    split at h
    · cases h
    · rename_i t a n zz hlf
      split at h
      · cases h
      · rename_i M hM
        split at h
        · rename_i hc
          simp only [Bool.and_eq_true, Bool.or_eq_true] at hc
          obtain ⟨⟨⟨hc1, hc2⟩, hc3⟩, hc4⟩ := hc
          have hmd2 : M.2.2.1.2.2.2.2 = md := Nat.eq_of_beq_eq_true hc2
          have hnn : M.2.2.1.2.2.1 = n := Nat.eq_of_beq_eq_true hc3
          have hnl := Nat.le_of_ble_eq_true hc4
          obtain ⟨m1, m2, m3, m4, m5, m6, m7, m8, m9, m10, m11⟩ := mx_Mok (htab M (List.mem_of_getElem? hM))
          have h9 := hlk _ (mx_lkl hlf)
          have hlen : ∀ sig, parseMethodDescriptor M.1.desc = some sig → n = sig.parameters.length := fun sig hs => by
            have := m8.2.2
            rw [hs] at this
            rw [← hnn]
            exact (Option.some.inj this).symm
          have hws : ∀ w ∈ [Cond.code M.1 M.2.1 M.2.2.1.1 M.2.2.1.2.1], ∀ (a' : Array Value) (U : State), s.WarmedH U.vm → w.before a' U = true := by
            intro w hw a' U hW
            rw [List.mem_singleton.mp hw]
            exact mx_at_use m3 (mx_Env.warm hW hE)
          have hlink : (t = 2 * md + 2 ∧ (Cond.methodLink own ix M.1).before args s = true) ∨ (t = 2 * md + 3 ∧ (Cond.methodLinkNest own ix M.1 "BoundTables").before args s = true) := by
            have hmd3 : md = 0 ∨ md = 1 ∨ md = 2 := by
              cases i <;> first | (cases hmd; done) | (cases hmd; simp)
            rcases hc1 with hc1 | hc1 <;> have ht := Nat.eq_of_beq_eq_true hc1
            · left
              refine ⟨ht, ?_⟩
              rcases hmd3 with rfl | rfl | rfl <;> subst ht <;> simp only [mx_lkok, hM, Option.map_some] at h9 <;> exact mx_at_use h9 hE
            · right
              refine ⟨ht, ?_⟩
              rcases hmd3 with rfl | rfl | rfl <;> subst ht <;> simp only [mx_lkok, hM, Option.map_some] at h9 <;> exact mx_at_use h9 hE
          have CF : CallFix p m c cc nL s args [] own := ⟨hx, hb, hml, hown, fun w hw => by cases hw⟩
          have hstk : st = (st.take n).reverse.reverse ++ st.drop n := by simp
          have hAl : (((st.take n).reverse).map (mx_v r)).length = n := by simp [Nat.min_eq_left hnl]
          have rms : ∀ w2 : mW, (mx_room d w w2).frames + 1 ≤ R.frames ∧ 8 + (M.2.2.1.1 + 11) + (mx_room d w w2).locals ≤ R.locals := fun w2 => ⟨hfr, by show 8 + (M.2.2.1.1 + 11) + 40 * d ≤ _; omega⟩
          split at h
          · rename_i hmd1
            have hmd1 : md = 1 := Nat.eq_of_beq_eq_true hmd1
            subst hmd1
            have hi : i = .invokestatic ix := by cases i <;> first | (cases hmd; done) | (cases hmd; rfl)
            subst hi
            split at h
            · rename_i hsum
              split at h
              · rename_i v w2 hcl
                split at h
                · rename_i hmono
                  simp only [Bool.and_eq_true] at hmono
                  cases h
                  have g1 := Nat.le_of_ble_eq_true hmono.1
                  have g2 := Nat.le_of_ble_eq_true hmono.2
                  have hMet := hcall _ _ _ _ _ hcl M hM
                  have hsum := Nat.le_of_ble_eq_true hsum
                  rw [← mx_cats hr] at hsum
                  have hp : PreS s H (mx_Pc D cy r B (st.take n).reverse w) (((st.take n).reverse).map (mx_v r)) := ⟨mx_blind, fun U hU hW => ⟨rfl, mx_Env.warm hW hE, va_K.moved hW.alike hK, by rw [hU]; exact hR, by rw [hU]; exact hLS.go hS hW⟩⟩
                  have hstack : (F0 m pc ls (st.map (mx_v r))).stack = (((st.take n).reverse).map (mx_v r)).reverse ++ (st.drop n).map (mx_v r) := by
                    show st.map (mx_v r) = _
                    rw [← List.map_reverse, List.reverse_reverse, ← List.map_append, List.take_append_drop]
                  refine mx_run (D := D) (cy := cy) (r := r) ?_ hS (fun H' locs' hR' hS' => ?_) (mc := w'.1.length - w.1.length) (ms := w'.2 - w.2) (v := v) (w' := w') (rest := (st.drop n).map (mx_v r)) (a := (((st.take n).reverse).map (mx_v r)).toArray)
                  · rcases hlink with ⟨-, hl⟩ | ⟨-, hl⟩
                    · exact va_runS CF hMet ⟨⟨rfl, rfl, (rms w').1, (rms w').2, hws, List.mem_singleton.mpr rfl, mx_at_use m3 hE, mx_at_use m4 hE, ⟨m8.1, m8.2.1⟩, hlen, hl⟩, mx_at_use (m5 hmd2) hE⟩ hp rfl hAl hls hstack (lv_room hsum) hd ⟨by omega, by omega⟩
                    · exact va_runSN CF hMet ⟨⟨⟨rfl, rfl, (rms w').1, (rms w').2, hws, List.mem_singleton.mpr rfl⟩, mx_at_use m3 hE, mx_at_use m4 hE, ⟨m8.1, m8.2.1⟩, hlen, hl⟩, mx_at_use (m5 hmd2) hE, trivial⟩ hp rfl hAl hls hstack (lv_room hsum) hd ⟨by omega, by omega⟩
                  · have kk := k H' locs' hR' hS'
                    rw [show w.1.length + k0 - n0 + (w'.1.length - w.1.length) = w'.1.length + k0 - n0 by omega, show w.2 + k1 - z0 + (w'.2 - w.2) = w'.2 + k1 - z0 by omega]
                    have e1 : (v.map (mx_v r)).toList ++ (st.drop n).map (mx_v r) = (v.toList ++ st.drop n).map (mx_v r) := by cases v <;> simp
                    rw [e1]
                    exact kk
                · cases h
              · cases h
            · cases h
          · rename_i hmd1
            split at h
            · rename_i j rest hdrop
              split at h
              · rename_i hcc
                simp only [Bool.and_eq_true] at hcc
                split at h
                · rename_i v w2 hcl
                  split at h
                  · rename_i hmono
                    simp only [Bool.and_eq_true] at hmono
                    cases h
                    have g1 := Nat.le_of_ble_eq_true hmono.1
                    have g2 := Nat.le_of_ble_eq_true hmono.2
                    have hMet := hcall _ _ _ _ _ hcl M hM
                    have hsum := Nat.le_of_ble_eq_true hcc.1
                    rw [← mx_cats hr] at hsum
                    have hobj := hcc.2
                    unfold mx_isO at hobj
                    split at hobj
                    · rename_i ci fs hj
                      have hrj := hR.ref hr hj
                      have hargs : Value.ref (B + j) :: ((st.take n).reverse).map (mx_v r) = (Value.ref j :: (st.take n).reverse).map (mx_v r) := by simp [mx_v_ref, hrj]
                      have hstack : (F0 m pc ls (st.map (mx_v r))).stack = (((st.take n).reverse).map (mx_v r)).reverse ++ .ref (B + j) :: rest.map (mx_v r) := by
                        show st.map (mx_v r) = _
                        rw [← List.map_reverse, List.reverse_reverse, ← hrj, ← mx_v_ref r j, ← List.map_cons, ← hdrop, ← List.map_append, List.take_append_drop]
                      have hpS : PreS s H (mx_Pc D cy r B (.ref j :: (st.take n).reverse) w) (.ref (B + j) :: ((st.take n).reverse).map (mx_v r)) := ⟨mx_blind, fun U hU hW => ⟨by rw [hargs], mx_Env.warm hW hE, va_K.moved hW.alike hK, by rw [hU]; exact hR, by rw [hU]; exact hLS.go hS hW⟩⟩
                      have hmd3 : md = 0 ∨ md = 2 := by
                        cases i <;> first | (cases hmd; done) | (cases hmd; simp at hmd1 ⊢)
                      refine mx_run (D := D) (cy := cy) (r := r) ?_ hS (fun H' locs' hR' hS' => ?_) (mc := w'.1.length - w.1.length) (ms := w'.2 - w.2) (v := v) (w' := w') (rest := rest.map (mx_v r)) (a := (Value.ref (B + j) :: ((st.take n).reverse).map (mx_v r)).toArray)
                      · rcases hmd3 with rfl | rfl
                        · have hi : i = .invokevirtual ix := by cases i <;> first | (cases hmd; done) | (cases hmd; rfl)
                          subst hi
                          obtain ⟨n1, n2, q, n3, n4⟩ := m7 hmd2
                          have hci : ci = M.2.2.1.2.2.2.1 := by simpa using hobj
                          have hp : PreV s H M.1.cls (B + j) (mx_Pc D cy r B (.ref j :: (st.take n).reverse) w) (((st.take n).reverse).map (mx_v r)) := ⟨hpS.1, by rw [← n4]; exact va_recv hK (hR.P hj rfl) (by rw [hci]; exact n3) (q0 := 0) rfl, hpS.2⟩
                          rcases hlink with ⟨-, hl⟩ | ⟨-, hl⟩
                          · exact va_runV CF hMet ⟨⟨rfl, rfl, (rms w').1, (rms w').2, hws, List.mem_singleton.mpr rfl, mx_at_use m3 hE, mx_at_use m4 hE, ⟨m8.1, m8.2.1⟩, hlen, hl⟩, mx_at_use n1 hE, mx_at_use n2 hE⟩ hp rfl hAl hls hstack (lv_room hsum) hd ⟨by omega, by omega⟩
                          · exact va_runVN CF hMet ⟨⟨⟨rfl, rfl, (rms w').1, (rms w').2, hws, List.mem_singleton.mpr rfl⟩, mx_at_use m3 hE, mx_at_use m4 hE, ⟨m8.1, m8.2.1⟩, hlen, hl⟩, mx_at_use n1 hE, mx_at_use n2 hE⟩ hp rfl hAl hls hstack (lv_room hsum) hd ⟨by omega, by omega⟩
                        · have hi : i = .invokespecial ix := by cases i <;> first | (cases hmd; done) | (cases hmd; rfl)
                          subst hi
                          obtain ⟨n1, n2, n3⟩ := m6 hmd2
                          have hMet' := hMet
                          unfold mx_Met at hMet'
                          rw [n3] at hMet' hws m3
                          rcases hlink with ⟨-, hl⟩ | ⟨-, hl⟩
                          · exact va_runI CF hMet' ⟨⟨rfl, rfl, (rms w').1, (rms w').2, hws, List.mem_singleton.mpr rfl, mx_at_use m3 hE, mx_at_use m4 hE, ⟨m8.1, m8.2.1⟩, hlen, hl⟩, n2, mx_at_use n1 hE⟩ hpS rfl hAl hls hstack (lv_room hsum) hd ⟨by omega, by omega⟩
                          · exact va_runIN CF hMet' ⟨⟨⟨rfl, rfl, (rms w').1, (rms w').2, hws, List.mem_singleton.mpr rfl⟩, mx_at_use m3 hE, mx_at_use m4 hE, ⟨m8.1, m8.2.1⟩, hlen, hl⟩, n2, mx_at_use n1 hE⟩ hpS rfl hAl hls hstack (lv_room hsum) hd ⟨by omega, by omega⟩
                      · have kk := k H' locs' hR' hS'
                        rw [show w.1.length + k0 - n0 + (w'.1.length - w.1.length) = w'.1.length + k0 - n0 by omega, show w.2 + k1 - z0 + (w'.2 - w.2) = w'.2 + k1 - z0 by omega]
                        have e1 : (v.map (mx_v r)).toList ++ rest.map (mx_v r) = (v.toList ++ rest).map (mx_v r) := by cases v <;> simp
                        rw [e1]
                        exact kk
                    · cases hobj
                  · cases h
                · cases h
              · cases h
            · cases h
        · cases h
end MX4
