theorem dX8_set_0 : decode cX8_set 0 = .ok (.iload_n 1, 1) := by decide +kernel
theorem dX8_set_1 : decode cX8_set 1 = .ok (.ifCond .lt 13, 3) := by decide +kernel
theorem dX8_set_4 : decode cX8_set 4 = .ok (.iload_n 1, 1) := by decide +kernel
theorem dX8_set_5 : decode cX8_set 5 = .ok (.aload_n 0, 1) := by decide +kernel
theorem dX8_set_6 : decode cX8_set 6 = .ok (.arraylength, 1) := by decide +kernel
theorem dX8_set_7 : decode cX8_set 7 = .ok (.if_icmp .ge 7, 3) := by decide +kernel
theorem dX8_set_10 : decode cX8_set 10 = .ok (.aload_n 0, 1) := by decide +kernel
theorem dX8_set_11 : decode cX8_set 11 = .ok (.iload_n 1, 1) := by decide +kernel
theorem dX8_set_12 : decode cX8_set 12 = .ok (.iload_n 2, 1) := by decide +kernel
theorem dX8_set_13 : decode cX8_set 13 = .ok (.iastore, 1) := by decide +kernel
theorem dX8_set_14 : decode cX8_set 14 = .ok (.return_, 1) := by decide +kernel
theorem dX5_append_5 : decode cX5_append 5 = .ok (.iload 4, 2) := by decide +kernel
theorem dX5_append_7 : decode cX5_append 7 = .ok (.ifCond .lt 42, 3) := by decide +kernel
theorem dX5_append_10 : decode cX5_append 10 = .ok (.aload_n 0, 1) := by decide +kernel
theorem dX5_append_11 : decode cX5_append 11 = .ok (.getfield 9, 3) := by decide +kernel
theorem dX5_append_14 : decode cX5_append 14 = .ok (.aload_n 0, 1) := by decide +kernel
theorem dX5_append_15 : decode cX5_append 15 = .ok (.getfield 25, 3) := by decide +kernel
theorem dX5_append_18 : decode cX5_append 18 = .ok (.lload_n 1, 1) := by decide +kernel
theorem dX5_append_19 : decode cX5_append 19 = .ok (.bipush 8, 2) := by decide +kernel
theorem dX5_append_21 : decode cX5_append 21 = .ok (.iload 4, 2) := by decide +kernel
theorem dX5_append_23 : decode cX5_append 23 = .ok (.imul, 1) := by decide +kernel
theorem dX5_append_24 : decode cX5_append 24 = .ok (.lushr, 1) := by decide +kernel
theorem dX5_append_25 : decode cX5_append 25 = .ok (.l2i, 1) := by decide +kernel
theorem dX5_append_26 : decode cX5_append 26 = .ok (.sipush 255, 3) := by decide +kernel
theorem dX5_append_29 : decode cX5_append 29 = .ok (.iand, 1) := by decide +kernel
theorem dX5_append_30 : decode cX5_append 30 = .ok (.invokestatic 29, 3) := by decide +kernel
theorem dX5_append_33 : decode cX5_append 33 = .ok (.aload_n 0, 1) := by decide +kernel
theorem dX5_append_34 : decode cX5_append 34 = .ok (.dup, 1) := by decide +kernel
theorem dX5_append_35 : decode cX5_append 35 = .ok (.getfield 25, 3) := by decide +kernel
theorem dX5_append_38 : decode cX5_append 38 = .ok (.iconst 1, 1) := by decide +kernel
theorem dX5_append_39 : decode cX5_append 39 = .ok (.iadd, 1) := by decide +kernel
theorem dX5_append_40 : decode cX5_append 40 = .ok (.putfield 25, 3) := by decide +kernel
theorem dX5_append_43 : decode cX5_append 43 = .ok (.iinc 4 (-1), 3) := by decide +kernel
theorem dX5_append_46 : decode cX5_append 46 = .ok (.goto (-41), 3) := by decide +kernel
theorem dX9_feed_50 : decode cX9_feed 50 = .ok (.iload 4, 2) := by decide +kernel
theorem dX9_feed_52 : decode cX9_feed 52 = .ok (.ifCond .lt 40, 3) := by decide +kernel
theorem dX9_feed_55 : decode cX9_feed 55 = .ok (.aload_n 0, 1) := by decide +kernel
theorem dX9_feed_56 : decode cX9_feed 56 = .ok (.getfield 66, 3) := by decide +kernel
theorem dX9_feed_59 : decode cX9_feed 59 = .ok (.aload_n 0, 1) := by decide +kernel
theorem dX9_feed_60 : decode cX9_feed 60 = .ok (.getfield 172, 3) := by decide +kernel
theorem dX9_feed_63 : decode cX9_feed 63 = .ok (.lload_n 1, 1) := by decide +kernel
theorem dX9_feed_64 : decode cX9_feed 64 = .ok (.bipush 8, 2) := by decide +kernel
theorem dX9_feed_66 : decode cX9_feed 66 = .ok (.iload 4, 2) := by decide +kernel
theorem dX9_feed_68 : decode cX9_feed 68 = .ok (.imul, 1) := by decide +kernel
theorem dX9_feed_69 : decode cX9_feed 69 = .ok (.lshr, 1) := by decide +kernel
theorem dX9_feed_70 : decode cX9_feed 70 = .ok (.l2i, 1) := by decide +kernel
theorem dX9_feed_71 : decode cX9_feed 71 = .ok (.sipush 255, 3) := by decide +kernel
theorem dX9_feed_74 : decode cX9_feed 74 = .ok (.iand, 1) := by decide +kernel
theorem dX9_feed_75 : decode cX9_feed 75 = .ok (.iastore, 1) := by decide +kernel
theorem dX9_feed_76 : decode cX9_feed 76 = .ok (.aload_n 0, 1) := by decide +kernel
theorem dX9_feed_77 : decode cX9_feed 77 = .ok (.dup, 1) := by decide +kernel
theorem dX9_feed_78 : decode cX9_feed 78 = .ok (.getfield 172, 3) := by decide +kernel
theorem dX9_feed_81 : decode cX9_feed 81 = .ok (.iconst 1, 1) := by decide +kernel
theorem dX9_feed_82 : decode cX9_feed 82 = .ok (.iadd, 1) := by decide +kernel
theorem dX9_feed_83 : decode cX9_feed 83 = .ok (.putfield 172, 3) := by decide +kernel
theorem dX9_feed_86 : decode cX9_feed 86 = .ok (.iinc 4 (-1), 3) := by decide +kernel
theorem dX9_feed_89 : decode cX9_feed 89 = .ok (.goto (-39), 3) := by decide +kernel
/-! ### the two loops of feed -/
section MXF
variable {p : Program} {l : Launch} {e : Env} {R : Room} {s : State} {m : MethodId} {args : Array Value} {below : List Frame} {meth : Method} {c : Code} {H : Heap} {locs : List Loc} {cells slots : Nat} {Q : State → Prop}
variable {cc : ByteArray} {pc nL : Nat} {ls : Array Slot} {r : Nat → Value} {B : Nat} {D : va_G} {cy : Nat → ClassId} {H0 : Heap}
theorem fm_set (hr : mx_r r B) {w : mW} {j i n : Nat} {a : mI} {v : Int32} (hj : w.1[j]? = some (.inr ((0, n), .inl a))) (hi : i < n) (hn : n < 2 ^ 31) : mx_Met l D cy r B mt_X8_set 0 [.ref j, .int (nI i), .int v] w none (w.1.set j (.inr ((0, n), .inl (mx_s a i v))), w.2) := by
  unfold mx_Met
  refine Met.ofW (cc := cX8_set) (maxL := 3) (ret := none) (ws' := []) (by decide +kernel) rfl ?_
  intro p e s m args below meth c s₁ Bd hml hv
  obtain ⟨rfl, hE, hK, hR, hLS⟩ := hv
  have hx := Bd.exec
  have hb := Bd.bytes
  have hj' := hR.ref hr hj
  simp only [List.length_set, Nat.sub_self]
  have hl := lv_entry (([.ref j, .int (nI i), .int v] : List Value).map (mx_v r)) (n := 3) (by rw [mx_sl hr]; simp [Value.category])
  rw [mx_args hr] at hl
  rw [lg_entry_eq]
  generalize (lg_sl (([.ref j, .int (nI i), .int v] : List Value).map (mx_v r)) ++ List.replicate (3 - (lg_sl (([.ref j, .int (nI i), .int v] : List Value).map (mx_v r))).length) Slot.unset).toArray = ls at hl ⊢
  have hl : lv_has ls 3 [(0, .ref (B + j)), (1, .int (nI i)), (2, .int v)] := by
    have e1 : mx_lv r (lv_args 0 [.ref j, .int (nI i), .int v]) = [(0, .ref (B + j)), (1, .int (nI i)), (2, .int v)] := by
      show [(0, r j), (1, Value.int (nI i)), (2, Value.int v)] = _
      rw [hj']
    rw [e1] at hl
    exact hl
  have hin : vp_in (nI i) n := vp_in_nI hi hn
  refine lv_iload_n hx hb dX8_set_0 rfl (lv_at hl 1 rfl) ?_
  refine lv_if_lt (tgt := 14) hx hb dX8_set_1 (by decide) (fun q => absurd q (nI_pos (by omega))) (fun _ => ?_)
  refine lv_iload_n hx hb dX8_set_4 rfl (lv_at hl 1 rfl) ?_
  refine lv_aload_n hx hb dX8_set_5 rfl (lv_at hl 0 rfl) ?_
  refine va_alen (v := nI n) hx hb hK (hR.P hj rfl) 0 0 rfl rfl rfl dX8_set_6 ?_
  refine lv_icmp_ge (tgt := 14) hx hb dX8_set_7 (by decide) (fun q => absurd q (nI_ge hi hn)) (fun _ => ?_)
  refine lv_aload_n hx hb dX8_set_10 rfl (lv_at hl 0 rfl) ?_
  refine lv_iload_n hx hb dX8_set_11 rfl (lv_at hl 1 rfl) ?_
  refine lv_iload_n hx hb dX8_set_12 rfl (lv_at hl 2 rfl) ?_
  refine W.iast hx hb (hR.2.2 _ _ hj rfl) ((hK.2 0 _ rfl).1 n (fun q => .int (mx_g a q))) (fun q => by cases q) (by show ¬ (_ ∨ (arrV _ _ _).slots.size ≤ _); rw [arrV_size]; exact hin) rfl rfl dX8_set_13 fun H1 e1 z1 o1 => ?_
  show W p l e _ s m _ below meth c H1 _ 0 0 _ (F0 m 14 ls [])
  have hR1 := hR.set hj z1 o1 (c' := .inr ((0, n), .inl (mx_s a (nI i).toNatClampNeg v))) (mx_rowI e1)
  rw [nI_clamp (by omega)] at hR1
  have hS1 : va_S (fun q => B ≤ q) s.heap H1 ([] ++ [⟨B + j, (nI i).toNatClampNeg⟩]) := va_S.put va_S.rf z1 o1 (Nat.le_add_right B j)
  exact W.vret hx hb Bd.returns (fun t ht hW => ⟨rfl, by rw [ht]; exact hR1, hS1.F ht⟩) hS1.2.2 dX8_set_14
theorem fm_pred {k : Nat} : nI (k + 1) - 1 = nI k := nI_pred k
theorem fm_st8 (hx : p.tables.exec = Jvm.exec) (hb : c.code = cc) (hK : va_K D mx_cl (mx_tys cy) s) {w : mW} (hR : mx_R D cy r B w H) {j n : Nat} {a : mI} {i v : Int32} (hj : w.1[j]? = some (.inr ((0, n), .inl a))) (hin : vp_in i n) {rest : List Value} (hd : decode cc pc = .ok (.iastore, 1))
    (k : ∀ H1 : Heap, H1.size = H.size → (∀ q, q ≠ B + j → H1[q]? = H[q]?) → mx_R D cy r B (w.1.set j (.inr ((0, n), .inl (mx_s a i.toNatClampNeg v))), w.2) H1 → W p l e R s m args below meth c H1 (locs ++ [⟨B + j, i.toNatClampNeg⟩]) cells slots Q (F0 m (pc + 1) ls rest)) :
    W p l e R s m args below meth c H locs cells slots Q (F0 m pc ls (.int v :: .int i :: .ref (B + j) :: rest)) := by
  refine W.iast hx hb (hR.2.2 _ _ hj rfl) ((hK.2 0 _ rfl).1 n (fun q => .int (mx_g a q))) (fun q => by cases q) (by show ¬ (_ ∨ (arrV _ _ _).slots.size ≤ _); rw [arrV_size]; exact hin) rfl rfl hd fun H1 e1 z1 o1 => ?_
  exact k H1 z1 o1 (hR.set hj z1 o1 (c' := .inr ((0, n), .inl (mx_s a i.toNatClampNeg v))) (mx_rowI e1))
/-- the class's append: from its loop's head to its end -/
theorem fl_append (hx : p.tables.exec = Jvm.exec) (hb : c.code = cX5_append) (hml : c.maxLocals = 5) (hr : mx_r r B) (hK : va_K D mx_cl (mx_tys cy) s) (hLS : mx_LS B s H0) (hE : mx_Env s) (hown : s.vm.findClass RX5 = some m.cls) (hfr : 1 ≤ R.frames) (hlo : 40 ≤ R.locals) (hcs : cells ≤ R.cells ∧ slots ≤ R.slots) {w : mW} {jt jb : Nat} {fs : List Value} {c0 c1 : mE} {V : Int64} (hjt : w.1[jt]? = some c0) (hjb : w.1[jb]? = some c1) (hf : fs[0]? = some (.ref jb)) (hfl : fs.length = 9) (hne : jt ≠ jb) {L1 : Nat} (hL1 : L1 ≤ 800)
    (k : ∀ (H' : Heap) (ls' : Array Slot) (locs' : List Loc) (a : mI), lv_has ls' 5 [(0, .ref (B + jt))] → mx_R D cy r B ((w.1.set jt (.inl (5, fs.set 4 (.int (nI L1))))).set jb (.inr ((0, 800), .inl a)), w.2) H' → va_S (fun q => B ≤ q) H0 H' locs' → W p l e R s m args below meth c H' locs' cells slots Q (F0 m 49 ls' [])) :
    ∀ (rem L : Nat) (a : mI) (H : Heap) (ls : Array Slot) (locs : List Loc), L + rem = L1 → mx_R D cy r B ((w.1.set jt (.inl (5, fs.set 4 (.int (nI L))))).set jb (.inr ((0, 800), .inl a)), w.2) H → va_S (fun q => B ≤ q) H0 H locs → lv_has ls 5 [(4, .int (nI rem - 1)), (0, .ref (B + jt)), (1, .long V)] → W p l e R s m args below meth c H locs cells slots Q (F0 m 5 ls []) := by
  intro rem
  induction rem with
  | zero =>
    intro L a H ls locs hL hR hS hl
    have hL : L = L1 := by omega
    subst hL
    refine lv_iload hx hb dX5_append_5 (lv_at hl 0 rfl) ?_
    refine lv_if_lt (tgt := 49) hx hb dX5_append_7 (by decide) (fun _ => ?_) (fun q => absurd (by decide) q)
    exact k H ls locs a (lv_sub hl [1] rfl) hR hS
  | succ rem ih =>
    intro L a H ls locs hL hR hS hl
    rw [fm_pred] at hl
    have g1 : (w.1.set jt (.inl (5, fs.set 4 (.int (nI L)))))[jt]? = some (.inl (5, fs.set 4 (.int (nI L)))) := mx_set_get hjt
    have gt : ((w.1.set jt (.inl (5, fs.set 4 (.int (nI L))))).set jb (.inr ((0, 800), .inl a)))[jt]? = some (.inl (5, fs.set 4 (.int (nI L)))) := by rw [List.getElem?_set_ne (Ne.symm hne)]; exact g1
    have gb0 : (w.1.set jt (.inl (5, fs.set 4 (.int (nI L)))))[jb]? = some c1 := by rw [List.getElem?_set_ne hne]; exact hjb
    have gb := mx_set_get (c' := (.inr ((0, 800), .inl a) : mE)) gb0
    have f0 : (fs.set 4 (.int (nI L)))[0]? = some (.ref jb) := by rw [List.getElem?_set_ne (by decide)]; exact hf
    have f4 : (fs.set 4 (.int (nI L)))[4]? = some (.int (nI L)) := by simp [hfl]
    refine lv_iload hx hb dX5_append_5 (lv_at hl 0 rfl) ?_
    refine lv_if_lt (tgt := 49) hx hb dX5_append_7 (by decide) (fun q => absurd q (nI_pos (by omega))) (fun _ => ?_)
    refine lv_aload_n hx hb dX5_append_10 rfl (lv_at hl 1 rfl) ?_
    refine mx_getf (own := RX5) (q := (RX5, TX5, 9)) (ci := 5) (k := 0) (w := ((w.1.set jt (.inl (5, fs.set 4 (.int (nI L))))).set jb (.inr ((0, 800), .inl a)), w.2)) hx hb hE hown hK hR rfl (by decide) gt f0 (mx_at_use (q := 183) (by decide +kernel) hE) dX5_append_11 ?_
    rw [mx_v_ref, hR.ref hr gb]
    refine lv_aload_n hx hb dX5_append_14 rfl (lv_at hl 1 rfl) ?_
    refine mx_getf (own := RX5) (q := (RX5, TX5, 9)) (ci := 5) (k := 4) (w := ((w.1.set jt (.inl (5, fs.set 4 (.int (nI L))))).set jb (.inr ((0, 800), .inl a)), w.2)) hx hb hE hown hK hR rfl (by decide) gt f4 (mx_at_use (q := 187) (by decide +kernel) hE) dX5_append_15 ?_
    rw [mx_v_int]
    refine lv_lload_n hx hb dX5_append_18 rfl (lv_at hl 2 rfl) ?_
    refine lv_bipush (v := 8) hx hb dX5_append_19 (by decide) ?_
    refine lv_iload hx hb dX5_append_21 (lv_at hl 0 rfl) ?_
    refine lv_imul hx hb dX5_append_23 ?_
    refine lv_lushr hx hb dX5_append_24 rfl ?_
    refine lv_l2i hx hb dX5_append_25 rfl ?_
    refine lv_sipush (v := 255) hx hb dX5_append_26 (by decide) ?_
    refine lv_iand hx hb dX5_append_29 ?_
    refine lv_topi (fun bv ebv => ?_)
    have CF : CallFix p m c cX5_append 5 s args [] RX5 := ⟨hx, hb, hml, hown, fun w hw => by cases hw⟩
    have hws : ∀ w ∈ [Cond.code yX8_set cX8_set 3 none], ∀ (a' : Array Value) (U : State), s.WarmedH U.vm → w.before a' U = true := by
      intro w hw a' U hW
      rw [List.mem_singleton.mp hw]
      exact mx_at_use (q := 347) (by decide +kernel) (mx_Env.warm hW hE)
    have hj2 := hR.ref hr gb
    have hp : PreS s H (mx_Pc D cy r B [.ref jb, .int (nI L), .int bv] ((w.1.set jt (.inl (5, fs.set 4 (.int (nI L))))).set jb (.inr ((0, 800), .inl a)), w.2)) [.ref (B + jb), .int (nI L), .int bv] := ⟨mx_blind, fun U hU hW => ⟨by show _ = [r jb, _, _].toArray; rw [hj2]; rfl, mx_Env.warm hW hE, va_K.moved hW.alike hK, by rw [hU]; exact hR, by rw [hU]; exact hLS.go hS hW⟩⟩
    have hM := fm_set (l := l) (D := D) (cy := cy) (w := ((w.1.set jt (.inl (5, fs.set 4 (.int (nI L))))).set jb (.inr ((0, 800), .inl a)), w.2)) (n := 800) (a := a) hr (v := bv) gb (i := L) (by omega) (by omega)
    simp only [List.set_set] at hM
    refine mx_run (D := D) (cy := cy) (r := r) (mc := 0) (ms := 0) (v := none) (w' := ((w.1.set jt (.inl (5, fs.set 4 (.int (nI L))))).set jb (.inr ((0, 800), .inl (mx_s a L bv))), w.2)) (rest := []) (a := ([.ref (B + jb), .int (nI L), .int bv] : List Value).toArray) (va_runSN (As := [.ref (B + jb), .int (nI L), .int bv]) (n := 3) (mc := 0) (ms := 0) (rm := { frames := 0, cells := 0, slots := 0, locals := 0 }) CF (by
      have h2 := hM
      unfold mx_Met mx_room at h2
      simp only [List.length_set, Nat.sub_self] at h2
      exact h2) ⟨⟨⟨rfl, rfl, hfr, (by show 8 + (3 + 11) + 0 ≤ R.locals; omega), hws, List.mem_singleton.mpr rfl⟩, mx_at_use (q := 347) (by decide +kernel) hE, mx_at_use (q := 145) (by decide +kernel) hE, ⟨by decide +kernel, by decide +kernel⟩, (fun sig h => by
        have h3 : (parseMethodDescriptor yX8_set.desc).map (fun d => d.parameters.length) = some 3 := by decide +kernel
        rw [h] at h3
        exact (Option.some.inj h3).symm), mx_at_use (q := 1133) (w := .methodLinkNest RX5 29 yX8_set "BoundTables") (by decide +kernel) hE⟩, mx_at_use (q := 346) (by decide +kernel) hE, trivial⟩ hp rfl rfl hl.1 rfl (lv_room (Nat.zero_le _)) dX5_append_30 ⟨by omega, by omega⟩) hS (fun H' locs' hR' hS' => ?_)
    refine lv_aload_n hx hb dX5_append_33 rfl (lv_at hl 1 rfl) ?_
    refine lv_dup hx hb dX5_append_34 rfl ?_
    have gt' : ((w.1.set jt (.inl (5, fs.set 4 (.int (nI L))))).set jb (.inr ((0, 800), .inl (mx_s a L bv))))[jt]? = some (.inl (5, fs.set 4 (.int (nI L)))) := by rw [List.getElem?_set_ne (Ne.symm hne)]; exact g1
    refine mx_getf (own := RX5) (q := (RX5, TX5, 9)) (ci := 5) (k := 4) (w := ((w.1.set jt (.inl (5, fs.set 4 (.int (nI L))))).set jb (.inr ((0, 800), .inl (mx_s a L bv))), w.2)) hx hb hE hown hK hR' rfl (by decide) gt' f4 (mx_at_use (q := 187) (by decide +kernel) hE) dX5_append_35 ?_
    rw [mx_v_int]
    refine lv_iconst (v := 1) hx hb dX5_append_38 (by decide) ?_
    refine lv_iadd hx hb dX5_append_39 ?_
    rw [nI_1]
    refine mx_put (q := (RX5, TX5, 9)) (ci := 5) (k := 4) (t := 0) (own := RX5) (w := ((w.1.set jt (.inl (5, fs.set 4 (.int (nI L))))).set jb (.inr ((0, 800), .inl (mx_s a L bv))), w.2)) (v := .int (nI (L + 1))) hx hb hE hown hK hr hR' hS' rfl (by decide) gt' (by simp [hfl]) (by
      simp only [mx_fit, Bool.and_eq_true, decide_eq_true_eq]
      exact ⟨rfl, rfl⟩) (Or.inl ⟨rfl, mx_at_use (q := 187) (by decide +kernel) hE⟩) (Or.inl rfl) dX5_append_40 (fun H2 locs2 hR2 hS2 => ?_)
    have e3 : (((w.1.set jt (.inl (5, fs.set 4 (.int (nI L))))).set jb (.inr ((0, 800), .inl (mx_s a L bv)))).set jt (.inl (5, (fs.set 4 (.int (nI L))).set 4 (.int (nI (L + 1))))) : List mE) = (w.1.set jt (.inl (5, fs.set 4 (.int (nI (L + 1)))))).set jb (.inr ((0, 800), .inl (mx_s a L bv))) := by
      rw [List.set_comm _ _ (Ne.symm hne), List.set_set, List.set_set]
    dsimp only at hR2
    rw [e3] at hR2
    refine lv_iinc (v := nI rem - 1) (lv' := [(4, .int (nI rem - 1)), (0, .ref (B + jt)), (1, .long V)]) hx hb dX5_append_43 hl (k := 0) rfl (by rw [Int32.sub_eq_add_neg]; rfl) (by decide) rfl (fun ls hl => ?_)
    refine lv_goto (tgt := 5) hx hb dX5_append_46 (by decide) ?_
    exact ih (L + 1) _ H2 ls _ (by omega) hR2 hS2 hl
/-- the reference's feed: from its loop's head to behind it -/
theorem fl_feed9 (hx : p.tables.exec = Jvm.exec) (hb : c.code = cX9_feed) (hr : mx_r r B) (hK : va_K D mx_cl (mx_tys cy) s) (hE : mx_Env s) (hown : s.vm.findClass RX9 = some m.cls) {w : mW} {jt jb : Nat} {fs : List Value} {c0 c1 : mE} {V : Int64} (hjt : w.1[jt]? = some c0) (hjb : w.1[jb]? = some c1) (hf : fs[28]? = some (.ref jb)) (hfl : fs.length = 77) (hne : jt ≠ jb) {L1 : Nat} (hL1 : L1 ≤ 800)
    (k : ∀ (H' : Heap) (ls' : Array Slot) (locs' : List Loc) (a : mI), lv_has ls' 5 [(0, .ref (B + jt))] → mx_R D cy r B ((w.1.set jt (.inl (9, fs.set 29 (.int (nI L1))))).set jb (.inr ((0, 800), .inl a)), w.2) H' → va_S (fun q => B ≤ q) H0 H' locs' → W p l e R s m args below meth c H' locs' cells slots Q (F0 m 92 ls' [])) :
    ∀ (rem L : Nat) (a : mI) (H : Heap) (ls : Array Slot) (locs : List Loc), L + rem = L1 → mx_R D cy r B ((w.1.set jt (.inl (9, fs.set 29 (.int (nI L))))).set jb (.inr ((0, 800), .inl a)), w.2) H → va_S (fun q => B ≤ q) H0 H locs → lv_has ls 5 [(4, .int (nI rem - 1)), (0, .ref (B + jt)), (1, .long V)] → W p l e R s m args below meth c H locs cells slots Q (F0 m 50 ls []) := by
  intro rem
  induction rem with
  | zero =>
    intro L a H ls locs hL hR hS hl
    have hL : L = L1 := by omega
    subst hL
    refine lv_iload hx hb dX9_feed_50 (lv_at hl 0 rfl) ?_
    refine lv_if_lt (tgt := 92) hx hb dX9_feed_52 (by decide) (fun _ => ?_) (fun q => absurd (by decide) q)
    exact k H ls locs a (lv_sub hl [1] rfl) hR hS
  | succ rem ih =>
    intro L a H ls locs hL hR hS hl
    rw [fm_pred] at hl
    have g1 : (w.1.set jt (.inl (9, fs.set 29 (.int (nI L)))))[jt]? = some (.inl (9, fs.set 29 (.int (nI L)))) := mx_set_get hjt
    have gt : ((w.1.set jt (.inl (9, fs.set 29 (.int (nI L))))).set jb (.inr ((0, 800), .inl a)))[jt]? = some (.inl (9, fs.set 29 (.int (nI L)))) := by rw [List.getElem?_set_ne (Ne.symm hne)]; exact g1
    have gb0 : (w.1.set jt (.inl (9, fs.set 29 (.int (nI L)))))[jb]? = some c1 := by rw [List.getElem?_set_ne hne]; exact hjb
    have gb := mx_set_get (c' := (.inr ((0, 800), .inl a) : mE)) gb0
    have f0 : (fs.set 29 (.int (nI L)))[28]? = some (.ref jb) := by rw [List.getElem?_set_ne (by decide)]; exact hf
    have f4 : (fs.set 29 (.int (nI L)))[29]? = some (.int (nI L)) := by simp [hfl]
    have hin : vp_in (nI L) 800 := vp_in_nI (by omega) (by omega)
    refine lv_iload hx hb dX9_feed_50 (lv_at hl 0 rfl) ?_
    refine lv_if_lt (tgt := 92) hx hb dX9_feed_52 (by decide) (fun q => absurd q (nI_pos (by omega))) (fun _ => ?_)
    refine lv_aload_n hx hb dX9_feed_55 rfl (lv_at hl 1 rfl) ?_
    refine mx_getf (own := RX9) (q := (RX9, TX9, 77)) (ci := 9) (k := 28) (w := ((w.1.set jt (.inl (9, fs.set 29 (.int (nI L))))).set jb (.inr ((0, 800), .inl a)), w.2)) hx hb hE hown hK hR rfl (by decide) gt f0 (mx_at_use (q := 1321) (by decide +kernel) hE) dX9_feed_56 ?_
    rw [mx_v_ref, hR.ref hr gb]
    refine lv_aload_n hx hb dX9_feed_59 rfl (lv_at hl 1 rfl) ?_
    refine mx_getf (own := RX9) (q := (RX9, TX9, 77)) (ci := 9) (k := 29) (w := ((w.1.set jt (.inl (9, fs.set 29 (.int (nI L))))).set jb (.inr ((0, 800), .inl a)), w.2)) hx hb hE hown hK hR rfl (by decide) gt f4 (mx_at_use (q := 1322) (by decide +kernel) hE) dX9_feed_60 ?_
    rw [mx_v_int]
    refine lv_lload_n hx hb dX9_feed_63 rfl (lv_at hl 2 rfl) ?_
    refine lv_bipush (v := 8) hx hb dX9_feed_64 (by decide) ?_
    refine lv_iload hx hb dX9_feed_66 (lv_at hl 0 rfl) ?_
    refine lv_imul hx hb dX9_feed_68 ?_
    refine lv_lshr hx hb dX9_feed_69 rfl ?_
    refine lv_l2i hx hb dX9_feed_70 rfl ?_
    refine lv_sipush (v := 255) hx hb dX9_feed_71 (by decide) ?_
    refine lv_iand hx hb dX9_feed_74 ?_
    refine lv_topi (fun bv ebv => ?_)
    refine fm_st8 hx hb hK hR gb hin dX9_feed_75 (fun H1 z1 o1 hR1 => ?_)
    rw [nI_clamp (by omega)] at hR1
    simp only [List.set_set] at hR1
    have hS1 := hS.put (k := (nI L).toNatClampNeg) z1 o1 (Nat.le_add_right B jb)
    refine lv_aload_n hx hb dX9_feed_76 rfl (lv_at hl 1 rfl) ?_
    refine lv_dup hx hb dX9_feed_77 rfl ?_
    have gt' : ((w.1.set jt (.inl (9, fs.set 29 (.int (nI L))))).set jb (.inr ((0, 800), .inl (mx_s a L bv))))[jt]? = some (.inl (9, fs.set 29 (.int (nI L)))) := by rw [List.getElem?_set_ne (Ne.symm hne)]; exact g1
    refine mx_getf (own := RX9) (q := (RX9, TX9, 77)) (ci := 9) (k := 29) (w := ((w.1.set jt (.inl (9, fs.set 29 (.int (nI L))))).set jb (.inr ((0, 800), .inl (mx_s a L bv))), w.2)) hx hb hE hown hK hR1 rfl (by decide) gt' f4 (mx_at_use (q := 1322) (by decide +kernel) hE) dX9_feed_78 ?_
    rw [mx_v_int]
    refine lv_iconst (v := 1) hx hb dX9_feed_81 (by decide) ?_
    refine lv_iadd hx hb dX9_feed_82 ?_
    rw [nI_1]
    refine mx_put (q := (RX9, TX9, 77)) (ci := 9) (k := 29) (t := 0) (own := RX9) (w := ((w.1.set jt (.inl (9, fs.set 29 (.int (nI L))))).set jb (.inr ((0, 800), .inl (mx_s a L bv))), w.2)) (v := .int (nI (L + 1))) hx hb hE hown hK hr hR1 hS1 rfl (by decide) gt' (by simp [hfl]) (by
      simp only [mx_fit, Bool.and_eq_true, decide_eq_true_eq]
      exact ⟨rfl, rfl⟩) (Or.inl ⟨rfl, mx_at_use (q := 1322) (by decide +kernel) hE⟩) (Or.inl rfl) dX9_feed_83 (fun H2 locs2 hR2 hS2 => ?_)
    have e3 : (((w.1.set jt (.inl (9, fs.set 29 (.int (nI L))))).set jb (.inr ((0, 800), .inl (mx_s a L bv)))).set jt (.inl (9, (fs.set 29 (.int (nI L))).set 29 (.int (nI (L + 1))))) : List mE) = (w.1.set jt (.inl (9, fs.set 29 (.int (nI (L + 1)))))).set jb (.inr ((0, 800), .inl (mx_s a L bv))) := by
      rw [List.set_comm _ _ (Ne.symm hne), List.set_set, List.set_set]
    dsimp only at hR2
    rw [e3] at hR2
    refine lv_iinc (v := nI rem - 1) (lv' := [(4, .int (nI rem - 1)), (0, .ref (B + jt)), (1, .long V)]) hx hb dX9_feed_86 hl (k := 0) rfl (by rw [Int32.sub_eq_add_neg]; rfl) (by decide) rfl (fun ls hl => ?_)
    refine lv_goto (tgt := 50) hx hb dX9_feed_89 (by decide) ?_
    exact ih (L + 1) _ H2 ls _ (by omega) hR2 hS2 hl
end MXF
