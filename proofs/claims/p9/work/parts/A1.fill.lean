theorem dJ7_fill_53178_0 : decode cJ7_fill_53178 0 = .ok (.iconst 0, 1) := by decide +kernel
theorem dJ7_fill_53178_1 : decode cJ7_fill_53178 1 = .ok (.istore_n 2, 1) := by decide +kernel
theorem dJ7_fill_53178_2 : decode cJ7_fill_53178 2 = .ok (.aload_n 0, 1) := by decide +kernel
theorem dJ7_fill_53178_3 : decode cJ7_fill_53178 3 = .ok (.arraylength, 1) := by decide +kernel
theorem dJ7_fill_53178_4 : decode cJ7_fill_53178 4 = .ok (.istore_n 3, 1) := by decide +kernel
theorem dJ7_fill_53178_5 : decode cJ7_fill_53178 5 = .ok (.iload_n 2, 1) := by decide +kernel
theorem dJ7_fill_53178_6 : decode cJ7_fill_53178 6 = .ok (.iload_n 3, 1) := by decide +kernel
theorem dJ7_fill_53178_7 : decode cJ7_fill_53178 7 = .ok (.if_icmp .ge 13, 3) := by decide +kernel
theorem dJ7_fill_53178_10 : decode cJ7_fill_53178 10 = .ok (.aload_n 0, 1) := by decide +kernel
theorem dJ7_fill_53178_11 : decode cJ7_fill_53178 11 = .ok (.iload_n 2, 1) := by decide +kernel
theorem dJ7_fill_53178_12 : decode cJ7_fill_53178 12 = .ok (.iload_n 1, 1) := by decide +kernel
theorem dJ7_fill_53178_13 : decode cJ7_fill_53178 13 = .ok (.iastore, 1) := by decide +kernel
theorem dJ7_fill_53178_14 : decode cJ7_fill_53178 14 = .ok (.iinc 2 1, 3) := by decide +kernel
theorem dJ7_fill_53178_17 : decode cJ7_fill_53178 17 = .ok (.goto (-12), 3) := by decide +kernel
theorem dJ7_fill_53178_20 : decode cJ7_fill_53178 20 = .ok (.return_, 1) := by decide +kernel
theorem dX9_clearHeads_0 : decode cX9_clearHeads 0 = .ok (.iconst 0, 1) := by decide +kernel
theorem dX9_clearHeads_1 : decode cX9_clearHeads 1 = .ok (.istore_n 1, 1) := by decide +kernel
theorem dX9_clearHeads_2 : decode cX9_clearHeads 2 = .ok (.iload_n 1, 1) := by decide +kernel
theorem dX9_clearHeads_3 : decode cX9_clearHeads 3 = .ok (.sipush 2048, 3) := by decide +kernel
theorem dX9_clearHeads_6 : decode cX9_clearHeads 6 = .ok (.if_icmp .ge 16, 3) := by decide +kernel
theorem dX9_clearHeads_9 : decode cX9_clearHeads 9 = .ok (.aload_n 0, 1) := by decide +kernel
theorem dX9_clearHeads_10 : decode cX9_clearHeads 10 = .ok (.getfield 29, 3) := by decide +kernel
theorem dX9_clearHeads_13 : decode cX9_clearHeads 13 = .ok (.iload_n 1, 1) := by decide +kernel
theorem dX9_clearHeads_14 : decode cX9_clearHeads 14 = .ok (.iconst (-1), 1) := by decide +kernel
theorem dX9_clearHeads_15 : decode cX9_clearHeads 15 = .ok (.iastore, 1) := by decide +kernel
theorem dX9_clearHeads_16 : decode cX9_clearHeads 16 = .ok (.iinc 1 1, 3) := by decide +kernel
theorem dX9_clearHeads_19 : decode cX9_clearHeads 19 = .ok (.goto (-17), 3) := by decide +kernel
theorem dX9_clearHeads_22 : decode cX9_clearHeads 22 = .ok (.return_, 1) := by decide +kernel
theorem dX9_anew_105 : decode cX9_anew 105 = .ok (.iload_n 1, 1) := by decide +kernel
theorem dX9_anew_106 : decode cX9_anew 106 = .ok (.sipush 6400, 3) := by decide +kernel
theorem dX9_anew_109 : decode cX9_anew 109 = .ok (.if_icmp .ge 23, 3) := by decide +kernel
theorem dX9_anew_112 : decode cX9_anew 112 = .ok (.aload_n 0, 1) := by decide +kernel
theorem dX9_anew_113 : decode cX9_anew 113 = .ok (.getfield 69, 3) := by decide +kernel
theorem dX9_anew_116 : decode cX9_anew 116 = .ok (.iload_n 1, 1) := by decide +kernel
theorem dX9_anew_117 : decode cX9_anew 117 = .ok (.iconst 0, 1) := by decide +kernel
theorem dX9_anew_118 : decode cX9_anew 118 = .ok (.iastore, 1) := by decide +kernel
theorem dX9_anew_119 : decode cX9_anew 119 = .ok (.aload_n 0, 1) := by decide +kernel
theorem dX9_anew_120 : decode cX9_anew 120 = .ok (.getfield 72, 3) := by decide +kernel
theorem dX9_anew_123 : decode cX9_anew 123 = .ok (.iload_n 1, 1) := by decide +kernel
theorem dX9_anew_124 : decode cX9_anew 124 = .ok (.iconst 0, 1) := by decide +kernel
theorem dX9_anew_125 : decode cX9_anew 125 = .ok (.bastore, 1) := by decide +kernel
theorem dX9_anew_126 : decode cX9_anew 126 = .ok (.iinc 1 1, 3) := by decide +kernel
theorem dX9_anew_129 : decode cX9_anew 129 = .ok (.goto (-24), 3) := by decide +kernel
/-! ### loops that fill a row -/
section MX7
variable {p : Program} {l : Launch} {e : Env} {R : Room} {s : State} {m : MethodId} {args : Array Value} {below : List Frame} {meth : Method} {c : Code} {H : Heap} {locs : List Loc} {cells slots : Nat} {Q : State → Prop}
variable {cc : ByteArray} {pc nL : Nat} {ls : Array Slot} {r : Nat → Value} {B : Nat} {D : va_G} {cy : Nat → ClassId} {H0 : Heap}
/-- a row's picture may be changed where it isn't looked at -/
theorem mx_R.cong {w : mW} {j k n : Nat} {a a' : mI} (h : mx_R D cy r B w H) (hj : w.1[j]? = some (.inr ((k, n), .inl a))) (hk9 : k ≠ 9) (ha : ∀ q, q < n → mx_g a q = mx_g a' q) : mx_R D cy r B (w.1.set j (.inr ((k, n), .inl a')), w.2) H := by
  refine h.set hj rfl (fun q _ => rfl) ?_
  have h1 := h.2.2 j _ hj (by simp only [mx_dd]; cases hb : Nat.beq k 9 with
    | true => exact absurd (Nat.eq_of_beq_eq_true hb) hk9
    | false => rfl)
  show H[B + j]? = some (vp_cell (cy k) (n, .inl (mx_g a')))
  rw [show H[B + j]? = some (vp_cell (cy k) (n, .inl (mx_g a))) from h1]
  rw [vp_cell_i, vp_cell_i]
  unfold arrV
  congr 2
  apply Array.ext
  · simp
  · intro i h2 h3
    simp only [Array.size_ofFn] at h2
    simp [ha i h2]
theorem mx_getf (hx : p.tables.exec = Jvm.exec) (hb : c.code = cc) {own : String} {q : vw_C} {ci ix k j : Nat} (hE : mx_Env s) (hown : s.vm.findClass own = some m.cls) (hK : va_K D mx_cl (mx_tys cy) s) {w : mW} (hR : mx_R D cy r B w H) (hcl : mx_cl[ci]? = some q) (hk : k < q.2.2) {fs : List Value} (hj : w.1[j]? = some (.inl (ci, fs))) {v : Value} (hv : fs[k]? = some v)
    (hlink : (Cond.fieldLink own ix q.1 (q.2.1 k).2.1 (q.2.1 k).2.2.1).before args s = true) {rest : List Value} (hd : decode cc pc = .ok (.getfield ix, 3))
    (kk : W p l e R s m args below meth c H locs cells slots Q (F0 m (pc + 3) ls (mx_v r v :: rest))) : W p l e R s m args below meth c H locs cells slots Q (F0 m pc ls (.ref (B + j) :: rest)) := by
  obtain ⟨hws, hty, hnm, hdc, -⟩ := mx_C_of hcl
  have hts : ∀ w ∈ u_ws q.1 q.2.1 q.2.2, w.before args s = true := fun w hw => hE w (hws w hw).1 (hws w hw).2 args
  exact va_get hx hb hts (fun w h => h) hown hK (hR.P hj rfl) 0 rfl hcl k hk hlink (fun x hx => by rw [← hdc k hk]; exact hx) (by simp [hv]) hd kk
theorem mx_set_get {w : List mE} {j : Nat} {c c' : mE} (h : w[j]? = some c) : (w.set j c')[j]? = some c' := by
  simp [(List.getElem?_eq_some_iff.mp h).1]
/-- java.util.Arrays.fill of ints -/
theorem fl_fill (hx : p.tables.exec = Jvm.exec) (hb : c.code = cJ7_fill_53178) (hr : mx_r r B) (hK : va_K D mx_cl (mx_tys cy) s) {w : mW} {j n : Nat} {v : Int32} (hn : n < 2 ^ 31) {c0 : mE} (hj : w.1[j]? = some c0)
    (k : ∀ (H' : Heap) (ls' : Array Slot) (locs' : List Loc), mx_R D cy r B (w.1.set j (.inr ((0, n), .inl (v, []))), w.2) H' → va_S (fun q => B ≤ q) H0 H' locs' → W p l e R s m args below meth c H' locs' cells slots Q (F0 m 20 ls' [])) :
    ∀ (rem i : Nat) (a : mI) (H : Heap) (ls : Array Slot) (locs : List Loc), i + rem = n → (∀ q, q < i → mx_g a q = v) → mx_R D cy r B (w.1.set j (.inr ((0, n), .inl a)), w.2) H → va_S (fun q => B ≤ q) H0 H locs → lv_has ls 4 [(2, .int (nI i)), (3, .int (nI n)), (0, .ref (B + j)), (1, .int v)] → W p l e R s m args below meth c H locs cells slots Q (F0 m 5 ls []) := by
  intro rem
  induction rem with
  | zero =>
    intro i a H ls locs hi ha hR hS hl
    refine lv_iload_n hx hb dJ7_fill_53178_5 rfl (lv_at hl 0 rfl) ?_
    refine lv_iload_n hx hb dJ7_fill_53178_6 rfl (lv_at hl 1 rfl) ?_
    refine lv_icmp_ge (tgt := 20) hx hb dJ7_fill_53178_7 (by decide) (fun _ => ?_) (fun q => absurd (nI_le (by omega) (by omega)) q)
    have h2 := hR.cong (a' := (v, [])) (mx_set_get hj) (by decide) (fun q hq => by rw [ha q (by omega)]; rfl)
    simp only [List.set_set] at h2
    exact k H ls locs h2 hS
  | succ rem ih =>
    intro i a H ls locs hi ha hR hS hl
    refine lv_iload_n hx hb dJ7_fill_53178_5 rfl (lv_at hl 0 rfl) ?_
    refine lv_iload_n hx hb dJ7_fill_53178_6 rfl (lv_at hl 1 rfl) ?_
    refine lv_icmp_ge (tgt := 20) hx hb dJ7_fill_53178_7 (by decide) (fun q => absurd q (nI_ge (by omega) (by omega))) (fun _ => ?_)
    refine lv_aload_n hx hb dJ7_fill_53178_10 rfl (lv_at hl 2 rfl) ?_
    refine lv_iload_n hx hb dJ7_fill_53178_11 rfl (lv_at hl 0 rfl) ?_
    refine lv_iload_n hx hb dJ7_fill_53178_12 rfl (lv_at hl 3 rfl) ?_
    have hj2 := mx_set_get (c' := (.inr ((0, n), .inl a) : mE)) hj
    have hin : vp_in (nI i) n := vp_in_nI (by omega) hn
    refine W.iast hx hb (hR.2.2 _ _ hj2 rfl) ((hK.2 0 _ rfl).1 n (fun q => .int (mx_g a q))) (fun q => by cases q) (by show ¬ (_ ∨ (arrV _ _ _).slots.size ≤ _); rw [arrV_size]; exact hin) rfl rfl dJ7_fill_53178_13 fun H1 e1 z1 o1 => ?_
    show W p l e R s m args below meth c H1 _ cells slots Q (F0 m 14 ls [])
    have hR1 := hR.set hj2 z1 o1 (c' := .inr ((0, n), .inl (mx_s a (nI i).toNatClampNeg v))) (mx_rowI e1)
    simp only [List.set_set] at hR1
    refine lv_iinc (v := nI (i + 1)) (lv' := [(2, .int (nI (i + 1))), (3, .int (nI n)), (0, .ref (B + j)), (1, .int v)]) hx hb dJ7_fill_53178_14 hl (k := 0) rfl (by rw [nI_succ]; rfl) (by decide) rfl (fun ls hl => ?_)
    refine lv_goto (tgt := 5) hx hb dJ7_fill_53178_17 (by decide) ?_
    refine ih (i + 1) _ H1 ls _ (by omega) (fun q hq => ?_) hR1 (hS.put z1 o1 (Nat.le_add_right B j)) hl
    rw [mx_g_s, nI_clamp (by omega)]
    by_cases h : q = i
    · simp [h]
    · rw [if_neg h]; exact ha q (by omega)
/-- the reference's clearHeads -/
theorem fl_heads (hx : p.tables.exec = Jvm.exec) (hb : c.code = cX9_clearHeads) (hr : mx_r r B) (hK : va_K D mx_cl (mx_tys cy) s) (hE : mx_Env s) (hown : s.vm.findClass RX9 = some m.cls) {w : mW} {j j1 : Nat} {fs : List Value} {c0 : mE} {n : Nat} (hn : n = 2048) (hj : w.1[j]? = some c0) (hj1 : w.1[j1]? = some (.inl (9, fs))) (hf : fs[6]? = some (.ref j)) (hne : j ≠ j1)
    (k : ∀ (H' : Heap) (ls' : Array Slot) (locs' : List Loc), mx_R D cy r B (w.1.set j (.inr ((0, n), .inl (-1, []))), w.2) H' → va_S (fun q => B ≤ q) H0 H' locs' → W p l e R s m args below meth c H' locs' cells slots Q (F0 m 22 ls' [])) :
    ∀ (rem i : Nat) (a : mI) (H : Heap) (ls : Array Slot) (locs : List Loc), i + rem = n → (∀ q, q < i → mx_g a q = -1) → mx_R D cy r B (w.1.set j (.inr ((0, n), .inl a)), w.2) H → va_S (fun q => B ≤ q) H0 H locs → lv_has ls 2 [(1, .int (nI i)), (0, .ref (B + j1))] → W p l e R s m args below meth c H locs cells slots Q (F0 m 2 ls []) := by
  intro rem
  induction rem with
  | zero =>
    intro i a H ls locs hi ha hR hS hl
    refine lv_iload_n hx hb dX9_clearHeads_2 rfl (lv_at hl 0 rfl) ?_
    refine lv_sipush (v := nI n) hx hb dX9_clearHeads_3 (by rw [hn]; decide) ?_
    refine lv_icmp_ge (tgt := 22) hx hb dX9_clearHeads_6 (by decide) (fun _ => ?_) (fun q => absurd (nI_le (by omega) (by omega)) q)
    have h2 := hR.cong (a' := (-1, [])) (mx_set_get hj) (by decide) (fun q hq => by rw [ha q (by omega)]; rfl)
    simp only [List.set_set] at h2
    exact k H ls locs h2 hS
  | succ rem ih =>
    intro i a H ls locs hi ha hR hS hl
    refine lv_iload_n hx hb dX9_clearHeads_2 rfl (lv_at hl 0 rfl) ?_
    refine lv_sipush (v := nI n) hx hb dX9_clearHeads_3 (by rw [hn]; decide) ?_
    refine lv_icmp_ge (tgt := 22) hx hb dX9_clearHeads_6 (by decide) (fun q => absurd q (nI_ge (by omega) (by omega))) (fun _ => ?_)
    refine lv_aload_n hx hb dX9_clearHeads_9 rfl (lv_at hl 1 rfl) ?_
    have hj1' : (w.1.set j (.inr ((0, n), .inl a)))[j1]? = some (.inl (9, fs)) := by rw [List.getElem?_set_ne hne]; exact hj1
    have hj2 := mx_set_get (c' := (.inr ((0, n), .inl a) : mE)) hj
    have hin : vp_in (nI i) n := vp_in_nI (by omega) (by omega)
    refine mx_getf (own := RX9) (q := (RX9, TX9, 77)) (ci := 9) (k := 6) (w := (w.1.set j (.inr ((0, n), .inl a)), w.2)) hx hb hE hown hK hR rfl (by decide) hj1' hf (mx_at_use (q := 1299) (by decide +kernel) hE) dX9_clearHeads_10 ?_
    rw [mx_v_ref, hR.ref hr hj2]
    refine lv_iload_n hx hb dX9_clearHeads_13 rfl (lv_at hl 0 rfl) ?_
    refine lv_iconst (v := -1) hx hb dX9_clearHeads_14 (by decide) ?_
    refine W.iast hx hb (hR.2.2 _ _ hj2 rfl) ((hK.2 0 _ rfl).1 n (fun q => .int (mx_g a q))) (fun q => by cases q) (by show ¬ (_ ∨ (arrV _ _ _).slots.size ≤ _); rw [arrV_size]; exact hin) rfl rfl dX9_clearHeads_15 fun H1 e1 z1 o1 => ?_
    show W p l e R s m args below meth c H1 _ cells slots Q (F0 m 16 ls [])
    have hR1 := hR.set hj2 z1 o1 (c' := .inr ((0, n), .inl (mx_s a (nI i).toNatClampNeg (-1)))) (mx_rowI e1)
    simp only [List.set_set] at hR1
    refine lv_iinc (v := nI (i + 1)) (lv' := [(1, .int (nI (i + 1))), (0, .ref (B + j1))]) hx hb dX9_clearHeads_16 hl (k := 0) rfl (by rw [nI_succ]; rfl) (by decide) rfl (fun ls hl => ?_)
    refine lv_goto (tgt := 2) hx hb dX9_clearHeads_19 (by decide) ?_
    refine ih (i + 1) _ H1 ls _ (by omega) (fun q hq => ?_) hR1 (hS.put z1 o1 (Nat.le_add_right B j)) hl
    rw [mx_g_s, nI_clamp (by omega)]
    by_cases h : q = i
    · simp [h]
    · rw [if_neg h]; exact ha q (by omega)
/-- the reference's anew: the rows ways and reach -/
theorem fl_anew (hx : p.tables.exec = Jvm.exec) (hb : c.code = cX9_anew) (hr : mx_r r B) (hK : va_K D mx_cl (mx_tys cy) s) (hE : mx_Env s) (hown : s.vm.findClass RX9 = some m.cls) {w : mW} {j g j1 : Nat} {fs : List Value} {c0 c1 : mE} {n : Nat} (hn : n = 6400) (hj : w.1[j]? = some c0) (hg : w.1[g]? = some c1) (hj1 : w.1[j1]? = some (.inl (9, fs))) (hf : fs[39]? = some (.ref j)) (hf2 : fs[40]? = some (.ref g)) (hne : j ≠ j1) (hne2 : g ≠ j1) (hjg : j ≠ g)
    (k : ∀ (H' : Heap) (ls' : Array Slot) (locs' : List Loc), lv_has ls' 2 [(1, .int (nI n)), (0, .ref (B + j1))] → mx_R D cy r B ((w.1.set j (.inr ((0, n), .inl (0, [])))).set g (.inr ((2, n), .inl (0, []))), w.2) H' → va_S (fun q => B ≤ q) H0 H' locs' → W p l e R s m args below meth c H' locs' cells slots Q (F0 m 132 ls' [])) :
    ∀ (rem i : Nat) (a b : mI) (H : Heap) (ls : Array Slot) (locs : List Loc), i + rem = n → (∀ q, q < i → mx_g a q = 0) → (∀ q, q < i → mx_g b q = 0) → mx_R D cy r B ((w.1.set j (.inr ((0, n), .inl a))).set g (.inr ((2, n), .inl b)), w.2) H → va_S (fun q => B ≤ q) H0 H locs → lv_has ls 2 [(1, .int (nI i)), (0, .ref (B + j1))] → W p l e R s m args below meth c H locs cells slots Q (F0 m 105 ls []) := by
  intro rem
  induction rem with
  | zero =>
    intro i a b H ls locs hi ha hb2 hR hS hl
    have hi : i = n := by omega
    rw [hi] at hl ha hb2
    refine lv_iload_n hx hb dX9_anew_105 rfl (lv_at hl 0 rfl) ?_
    refine lv_sipush (v := nI n) hx hb dX9_anew_106 (by rw [hn]; decide) ?_
    refine lv_icmp_ge (tgt := 132) hx hb dX9_anew_109 (by decide) (fun _ => ?_) (fun q => absurd (nI_le (by omega) (by omega)) q)
    have hg1 : (w.1.set j (.inr ((0, n), .inl a)))[g]? = some c1 := by rw [List.getElem?_set_ne hjg]; exact hg
    have h2 := hR.cong (a' := (0, [])) (mx_set_get hg1) (by decide) (fun q hq => by rw [hb2 q hq]; rfl)
    simp only [List.set_set] at h2
    have hj3 : ((w.1.set j (.inr ((0, n), .inl a))).set g (.inr ((2, n), .inl (0, []))))[j]? = some (.inr ((0, n), .inl a)) := by rw [List.getElem?_set_ne (Ne.symm hjg)]; exact mx_set_get hj
    have h3 := h2.cong (a' := (0, [])) hj3 (by decide) (fun q hq => by rw [ha q hq]; rfl)
    refine k H ls locs hl ?_ hS
    have e1 : (((w.1.set j (.inr ((0, n), .inl a))).set g (.inr ((2, n), .inl (0, [])))).set j (.inr ((0, n), .inl (0, [])))) = ((w.1.set j (.inr ((0, n), .inl (0, [])))).set g (.inr ((2, n), .inl (0, []))) : List mE) := by
      rw [List.set_comm _ _ (Ne.symm hjg), List.set_set]
    dsimp only at h3
    rw [e1] at h3
    exact h3
  | succ rem ih =>
    intro i a b H ls locs hi ha hb2 hR hS hl
    refine lv_iload_n hx hb dX9_anew_105 rfl (lv_at hl 0 rfl) ?_
    refine lv_sipush (v := nI n) hx hb dX9_anew_106 (by rw [hn]; decide) ?_
    refine lv_icmp_ge (tgt := 132) hx hb dX9_anew_109 (by decide) (fun q => absurd q (nI_ge (by omega) (by omega))) (fun _ => ?_)
    refine lv_aload_n hx hb dX9_anew_112 rfl (lv_at hl 1 rfl) ?_
    have hin : vp_in (nI i) n := vp_in_nI (by omega) (by omega)
    have hj1' : ((w.1.set j (.inr ((0, n), .inl a))).set g (.inr ((2, n), .inl b)))[j1]? = some (.inl (9, fs)) := by rw [List.getElem?_set_ne hne2, List.getElem?_set_ne hne]; exact hj1
    have hj2 : ((w.1.set j (.inr ((0, n), .inl a))).set g (.inr ((2, n), .inl b)))[j]? = some (.inr ((0, n), .inl a)) := by rw [List.getElem?_set_ne (Ne.symm hjg)]; exact mx_set_get hj
    refine mx_getf (own := RX9) (q := (RX9, TX9, 77)) (ci := 9) (k := 39) (w := ((w.1.set j (.inr ((0, n), .inl a))).set g (.inr ((2, n), .inl b)), w.2)) hx hb hE hown hK hR rfl (by decide) hj1' hf (mx_at_use (q := 1332) (by decide +kernel) hE) dX9_anew_113 ?_
    rw [mx_v_ref, hR.ref hr hj2]
    refine lv_iload_n hx hb dX9_anew_116 rfl (lv_at hl 0 rfl) ?_
    refine lv_iconst (v := 0) hx hb dX9_anew_117 (by decide) ?_
    refine W.iast hx hb (hR.2.2 _ _ hj2 rfl) ((hK.2 0 _ rfl).1 n (fun q => .int (mx_g a q))) (fun q => by cases q) (by show ¬ (_ ∨ (arrV _ _ _).slots.size ≤ _); rw [arrV_size]; exact hin) rfl rfl dX9_anew_118 fun H1 e1 z1 o1 => ?_
    show W p l e R s m args below meth c H1 _ cells slots Q (F0 m 119 ls [])
    have hR1 := hR.set hj2 z1 o1 (c' := .inr ((0, n), .inl (mx_s a (nI i).toNatClampNeg 0))) (mx_rowI e1)
    have e2 : (((w.1.set j (.inr ((0, n), .inl a))).set g (.inr ((2, n), .inl b))).set j (.inr ((0, n), .inl (mx_s a (nI i).toNatClampNeg 0)))) = ((w.1.set j (.inr ((0, n), .inl (mx_s a (nI i).toNatClampNeg 0)))).set g (.inr ((2, n), .inl b)) : List mE) := by
      rw [List.set_comm _ _ (Ne.symm hjg), List.set_set]
    dsimp only at hR1
    rw [e2] at hR1
    have hS1 := hS.put (k := (nI i).toNatClampNeg) z1 o1 (Nat.le_add_right B j)
    refine lv_aload_n hx hb dX9_anew_119 rfl (lv_at hl 1 rfl) ?_
    have hj1'' : ((w.1.set j (.inr ((0, n), .inl (mx_s a (nI i).toNatClampNeg 0)))).set g (.inr ((2, n), .inl b)))[j1]? = some (.inl (9, fs)) := by rw [List.getElem?_set_ne hne2, List.getElem?_set_ne hne]; exact hj1
    have hg1 : (w.1.set j (.inr ((0, n), .inl (mx_s a (nI i).toNatClampNeg 0))))[g]? = some c1 := by rw [List.getElem?_set_ne hjg]; exact hg
    have hg2 := mx_set_get (c' := (.inr ((2, n), .inl b) : mE)) hg1
    refine mx_getf (own := RX9) (q := (RX9, TX9, 77)) (ci := 9) (k := 40) (w := ((w.1.set j (.inr ((0, n), .inl (mx_s a (nI i).toNatClampNeg 0)))).set g (.inr ((2, n), .inl b)), w.2)) hx hb hE hown hK hR1 rfl (by decide) hj1'' hf2 (mx_at_use (q := 1333) (by decide +kernel) hE) dX9_anew_120 ?_
    rw [mx_v_ref, hR1.ref hr hg2]
    refine lv_iload_n hx hb dX9_anew_123 rfl (lv_at hl 0 rfl) ?_
    refine lv_iconst (v := 0) hx hb dX9_anew_124 (by decide) ?_
    refine W.zast hx hb (hR1.2.2 _ _ hg2 rfl) ((hK.2 2 _ rfl).1 n (fun q => .int (mx_g b q))) (fun q => by cases q) (by show ¬ (_ ∨ (arrV _ _ _).slots.size ≤ _); rw [arrV_size]; exact hin) rfl rfl dX9_anew_125 fun H2 e3 z2 o2 => ?_
    show W p l e R s m args below meth c H2 _ cells slots Q (F0 m 126 ls [])
    have hR2 := hR1.set hg2 z2 o2 (c' := .inr ((2, n), .inl (mx_s b (nI i).toNatClampNeg 0))) (mx_rowI e3)
    simp only [List.set_set] at hR2
    refine lv_iinc (v := nI (i + 1)) (lv' := [(1, .int (nI (i + 1))), (0, .ref (B + j1))]) hx hb dX9_anew_126 hl (k := 0) rfl (by rw [nI_succ]; rfl) (by decide) rfl (fun ls hl => ?_)
    refine lv_goto (tgt := 105) hx hb dX9_anew_129 (by decide) ?_
    refine ih (i + 1) _ _ H2 ls _ (by omega) (fun q hq => ?_) (fun q hq => ?_) hR2 (hS1.put z2 o2 (Nat.le_add_right B g)) hl
    · rw [mx_g_s, nI_clamp (by omega)]
      by_cases h : q = i
      · simp [h]
      · rw [if_neg h]; exact ha q (by omega)
    · rw [mx_g_s, nI_clamp (by omega)]
      by_cases h : q = i
      · simp [h]
      · rw [if_neg h]; exact hb2 q (by omega)
end MX7
