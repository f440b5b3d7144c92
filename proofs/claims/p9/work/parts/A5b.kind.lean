/-! ### kindOf: a sign is looked for in the text -/
theorem mx_ex {a B : Nat} {U : State} {args : Array Value} (h : mx_SO a B U U.heap) (h0 : args[0]? = some (.ref a)) : (Cond.exactly (.arg 0) Jvm.Lib.str).before args U = true := by
  obtain ⟨cell, k, h1, h2, h3, h4, h5, -⟩ := h
  have h3 : U.vm.findClass Jvm.Lib.str = some cell.cls := h3
  have e0 : (Term.arg 0).eval args U none [] U = some (.ref a) := h0
  simp only [Cond.before, Cond.holds, Cond.value, e0, h3, h1, h4, Option.bind_eq_bind, Option.bind_some, Option.pure_def, h2]
  cases hk : k.kind with
  | ordinary => simp [h5 hk]
  | _ => simp
theorem mx_fld {n d : String} {v : Value} {a B : Nat} {U : State} {args : Array Value} (h : mx_SF n d v a B U U.heap) (h0 : args[0]? = some (.ref a)) : (Term.field (.arg 0) Jvm.Lib.str n d).eval args U none [] U = some v := by
  obtain ⟨cf, i, k, f, cell, h1, h2, h3, h4, h5, h6, h7, -⟩ := h
  have h1 : U.fieldFound? Jvm.Lib.str n d = some (cf, k, i, f) := h1
  rw [va_fe (show (Term.arg 0).eval args U none [] U = some (.ref a) from h0)]
  simp [State.fieldOf?, State.fieldNamed?, h1, h2, h3, h4, h5, h6, h7]
theorem mx_decl {x : MethodName} {cc : ByteArray} {n : Nat} {ret : Option FieldType} {U : State} {args : Array Value} (hc : (Cond.code x cc n ret).before args U = true) (hi : (Cond.instanceMethod x).before args U = true) : (Cond.declares x).before args U = true := by
  obtain ⟨m, meth, h1, h2, h3, h4⟩ := Cond.instanceMethod_spec hi
  obtain ⟨meth', c, g1, -, -, -, -, -, -, g2⟩ := Cond.code_spec h1 hc
  cases h2.symm.trans g1
  simp only [Cond.before, Cond.holds, Cond.value, h1, h2, Option.bind_some, Option.map_some, h3, g2]
  simp
theorem mx_stat {B : Nat} {U : State} (h : va_Z mx_str "COMPACT_STRINGS" "Z" (.int 1) (fun q => B ≤ q) U U.heap) : Jvm.Lib.Cold.StaticIs U Jvm.Lib.str "COMPACT_STRINGS" "Z" (.int 1) := by
  obtain ⟨cf, kf, fi, f, a, cell, h1, h2, h3, h4, h5, h6, h7, -⟩ := h
  exact ⟨cf, fi, kf, f, a, cell, h1, h2, h3, h4, h5, (fun q => by rw [q] at h6; cases h6), h7⟩
/-- the place of a sign in the text -/
def mx_ix (ch : Int32) : Int32 := Jvm.Free.SL1IndexOf.Idx.answer { cls := 0, slots := mx_sb, vm := .none } ch 0 9
theorem mx_ixE {arr : Cell} (h : arr.slots = mx_sb) (ch : Int32) : Jvm.Free.SL1IndexOf.Idx.answer arr ch 0 arr.slots.size.toInt32 = mx_ix ch := by
  have e : Jvm.Lib.StringLatin1.equals.intAt arr = Jvm.Lib.StringLatin1.equals.intAt { cls := 0, slots := mx_sb, vm := .none } := by
    funext i
    unfold Jvm.Lib.StringLatin1.equals.intAt
    rw [h]
  have e2 : mx_sb.size.toInt32 = 9 := by decide
  unfold mx_ix Jvm.Free.SL1IndexOf.Idx.answer Jvm.Free.SL1IndexOf.Idx.hi
  rw [e, h, e2]
theorem mx_S1p {B a v : Nat} {U : State} {ch : Int32} (hE : mx_Env U) (h2 : mx_SO a B U U.heap) (h3 : mx_SF "coder" "B" (.int 0) a B U U.heap) (h4 : mx_SF "value" "[B" (.ref v) a B U U.heap) (h5 : mx_SA v B U U.heap) (h6 : va_Z mx_str "COMPACT_STRINGS" "Z" (.int 1) (fun q => B ≤ q) U U.heap) :
    Jvm.Free.StrIndexOf.S1.spec.pre.before #[.ref a, .int ch] U = true ∧ ∃ arr : Cell, Jvm.Free.StrIndexOf.S1.P a v ch 1 arr #[.ref a, .int ch] U ∧ arr.slots = mx_sb := by
  have w : ∀ {q : Nat} {w : Cond}, mx_at q w = true → ∀ args : Array Value, w.before args U = true := fun h args => mx_at_use h hE
  have i0 : ∀ args : Array Value, (Cond.initialized Jvm.Lib.str).before args U = true := w (q := 163) (by decide +kernel)
  have i1 : ∀ args : Array Value, (Cond.initialized Jvm.Free.SL1IndexOf.sl1).before args U = true := w (q := 164) (by decide +kernel)
  have i2 : ∀ args : Array Value, (Cond.initialized "java/lang/Math").before args U = true := w (q := 152) (by decide +kernel)
  have c1 : ∀ args : Array Value, (Cond.code Jvm.Free.StrIndexOf.indexOf1N Jvm.Free.StrIndexOf.indexOf1B 2 (some .int)).before args U = true := w (q := 675) (by decide +kernel)
  have c2 : ∀ args : Array Value, (Cond.code Jvm.Free.StrIndexOf.indexOf2N Jvm.Free.StrIndexOf.indexOf2B 3 (some .int)).before args U = true := w (q := 679) (by decide +kernel)
  have c3 : ∀ args : Array Value, (Cond.code Jvm.Lib.Str.isLatin1.name Jvm.Lib.String.isLatin1.code 1 (some .boolean)).before args U = true := w (q := 683) (by decide +kernel)
  have c4 : ∀ args : Array Value, (Cond.code Jvm.Lib.Str.length.name Jvm.Lib.String.length.code 1 (some .int)).before args U = true := w (q := 689) (by decide +kernel)
  have c5 : ∀ args : Array Value, (Cond.code Jvm.Lib.String.coder.name Jvm.Lib.String.coder.code 1 (some .byte)).before args U = true := w (q := 693) (by decide +kernel)
  have c6 : ∀ args : Array Value, (Cond.code Jvm.Free.SL1IndexOf.indexOfN Jvm.Free.SL1IndexOf.indexOfB 4 (some .int)).before args U = true := w (q := 696) (by decide +kernel)
  have c7 : ∀ args : Array Value, (Cond.code Jvm.Free.SL1IndexOf.canEncodeN Jvm.Free.SL1IndexOf.canEncodeB 1 (some .boolean)).before args U = true := w (q := 699) (by decide +kernel)
  have c8 : ∀ args : Array Value, (Cond.code Jvm.Free.SL1IndexOf.indexOfCharN Jvm.Free.SL1IndexOf.indexOfCharB 6 (some .int)).before args U = true := w (q := 704) (by decide +kernel)
  have c9 : ∀ args : Array Value, (Cond.code Jvm.Lib.Math.max.name Jvm.Lib.Math.max.code 2 (some .int)).before args U = true := w (q := 327) (by decide +kernel)
  have c10 : ∀ args : Array Value, (Cond.code Jvm.Lib.Math.min.name Jvm.Lib.Math.min.code 2 (some .int)).before args U = true := w (q := 330) (by decide +kernel)
  have m1 : ∀ args : Array Value, (Cond.methodLink Jvm.Lib.str 633 Jvm.Free.StrIndexOf.indexOf2N).before args U = true := w (q := 676) (by decide +kernel)
  have m2 : ∀ args : Array Value, (Cond.methodLink Jvm.Lib.str 492 Jvm.Lib.Str.isLatin1.name).before args U = true := w (q := 680) (by decide +kernel)
  have m3 : ∀ args : Array Value, (Cond.methodLink Jvm.Lib.str 505 Jvm.Lib.Str.length.name).before args U = true := w (q := 686) (by decide +kernel)
  have m4 : ∀ args : Array Value, (Cond.methodLink Jvm.Lib.str 637 Jvm.Free.SL1IndexOf.indexOfN).before args U = true := w (q := 694) (by decide +kernel)
  have m5 : ∀ args : Array Value, (Cond.methodLink Jvm.Lib.str 335 Jvm.Lib.String.coder.name).before args U = true := w (q := 690) (by decide +kernel)
  have m6 : ∀ args : Array Value, (Cond.methodLink Jvm.Free.SL1IndexOf.sl1 88 Jvm.Free.SL1IndexOf.canEncodeN).before args U = true := w (q := 697) (by decide +kernel)
  have m7 : ∀ args : Array Value, (Cond.methodLink Jvm.Free.SL1IndexOf.sl1 92 Jvm.Lib.Math.max.name).before args U = true := w (q := 700) (by decide +kernel)
  have m8 : ∀ args : Array Value, (Cond.methodLink Jvm.Free.SL1IndexOf.sl1 38 Jvm.Lib.Math.min.name).before args U = true := w (q := 701) (by decide +kernel)
  have m9 : ∀ args : Array Value, (Cond.methodLink Jvm.Free.SL1IndexOf.sl1 95 Jvm.Free.SL1IndexOf.indexOfCharN).before args U = true := w (q := 702) (by decide +kernel)
  have n1 : ∀ args : Array Value, (Cond.instanceMethod Jvm.Free.StrIndexOf.indexOf2N).before args U = true := w (q := 677) (by decide +kernel)
  have n2 : ∀ args : Array Value, (Cond.instanceMethod Jvm.Lib.Str.isLatin1.name).before args U = true := w (q := 681) (by decide +kernel)
  have n3 : ∀ args : Array Value, (Cond.instanceMethod Jvm.Lib.Str.length.name).before args U = true := w (q := 687) (by decide +kernel)
  have n4 : ∀ args : Array Value, (Cond.instanceMethod Jvm.Lib.String.coder.name).before args U = true := w (q := 691) (by decide +kernel)
  have s1 : ∀ args : Array Value, (Cond.selects Jvm.Lib.str Jvm.Free.StrIndexOf.indexOf2N Jvm.Free.StrIndexOf.indexOf2N).before args U = true := w (q := 678) (by decide +kernel)
  have s2 : ∀ args : Array Value, (Cond.selects Jvm.Lib.str Jvm.Lib.Str.isLatin1.name Jvm.Lib.Str.isLatin1.name).before args U = true := w (q := 682) (by decide +kernel)
  have s3 : ∀ args : Array Value, (Cond.selects Jvm.Lib.str Jvm.Lib.Str.length.name Jvm.Lib.Str.length.name).before args U = true := w (q := 688) (by decide +kernel)
  have s4 : ∀ args : Array Value, (Cond.selects Jvm.Lib.str Jvm.Lib.String.coder.name Jvm.Lib.String.coder.name).before args U = true := w (q := 692) (by decide +kernel)
  have t1 : ∀ args : Array Value, (Cond.static Jvm.Free.SL1IndexOf.indexOfN).before args U = true := w (q := 695) (by decide +kernel)
  have t2 : ∀ args : Array Value, (Cond.static Jvm.Free.SL1IndexOf.canEncodeN).before args U = true := w (q := 698) (by decide +kernel)
  have t3 : ∀ args : Array Value, (Cond.static Jvm.Free.SL1IndexOf.indexOfCharN).before args U = true := w (q := 703) (by decide +kernel)
  have t4 : ∀ args : Array Value, (Cond.static Jvm.Lib.Math.max.name).before args U = true := w (q := 326) (by decide +kernel)
  have t5 : ∀ args : Array Value, (Cond.static Jvm.Lib.Math.min.name).before args U = true := w (q := 329) (by decide +kernel)
  have f1 : ∀ args : Array Value, (Cond.fieldLink Jvm.Lib.str 38 Jvm.Lib.str "COMPACT_STRINGS" "Z").before args U = true := w (q := 684) (by decide +kernel)
  have f2 : ∀ args : Array Value, (Cond.fieldLink Jvm.Lib.str 15 Jvm.Lib.str "coder" "B").before args U = true := w (q := 1802) (by decide +kernel)
  have f3 : ∀ args : Array Value, (Cond.fieldLink Jvm.Lib.str 9 Jvm.Lib.str "value" "[B").before args U = true := w (q := 1803) (by decide +kernel)
  have cnt : ∀ (args : Array Value) (n : Nat), args.size = n → (Cond.count n).before args U = true := fun args n h => by simp [Cond.before, Cond.holds, Cond.value, h]
  obtain ⟨arr, a1, a2, a3, a4, -⟩ := h5
  have hst := mx_stat h6
  refine ⟨?_, arr, ⟨rfl, ?_, rfl, ?_, ?_, ?_, ?_, ?_, a3, ?_, ?_⟩, a4⟩
  · simp only [Jvm.Free.StrIndexOf.S1.spec, Cond.before_and, Bool.and_eq_true]
    exact ⟨c1 _, cnt _ _ rfl, mx_ex h2 rfl, m1 _, mx_decl (c2 _) (n1 _), s1 _, n1 _, i0 _⟩
  · simp only [Jvm.Free.StrIndexOf.S2.spec, Jvm.Free.SL1IndexOf.Idx.tab, Jvm.Free.SL1IndexOf.Can.tab, Jvm.Free.SL1IndexOf.Chr.tab, Cond.before_and, Bool.and_eq_true]
    exact ⟨c2 _, cnt _ _ rfl, mx_ex h2 rfl, m2 _, mx_decl (c3 _) (n2 _), s2 _, n2 _, f3 _, m3 _, mx_decl (c4 _) (n3 _), s3 _, n3 _, m4 _, t1 _, ⟨c6 _, m6 _, t2 _, c7 _, m7 _, t4 _, c9 _, m8 _, t5 _, c10 _, i2 _, m9 _, t3 _, c8 _⟩, i1 _, i0 _⟩
  · exact mx_fld h4 rfl
  · simp only [Jvm.Lib.Cold.isLatin1.spec, Cond.before_and, Bool.and_eq_true]
    exact ⟨c3 _, cnt _ _ rfl, f1 _, f2 _⟩
  · exact ⟨rfl, hst, by decide, mx_fld h3 rfl⟩
  · simp only [Jvm.Lib.Cold.length.spec, Cond.before_and, Bool.and_eq_true]
    exact ⟨c4 _, cnt _ _ rfl, mx_ex h2 rfl, f3 _, m5 _, mx_decl (c5 _) (n4 _), s4 _, n4 _, i0 _⟩
  · refine ⟨rfl, mx_fld h4 rfl, a1, a2, ?_, rfl, hst, by decide, mx_fld h3 rfl⟩
    simp only [Jvm.Lib.Cold.coder.spec, Cond.before_and, Bool.and_eq_true]
    exact ⟨c5 _, cnt _ _ rfl, f1 _, f2 _⟩
  · rw [a4]; decide
  · intro i hi
    rw [a4] at hi
    have hi : i < 9 := hi
    unfold Jvm.Lib.StringLatin1.equals.intAt
    rw [a4]
    rcases (show i = 0 ∨ i = 1 ∨ i = 2 ∨ i = 3 ∨ i = 4 ∨ i = 5 ∨ i = 6 ∨ i = 7 ∨ i = 8 by omega) with rfl | rfl | rfl | rfl | rfl | rfl | rfl | rfl | rfl <;> rfl
theorem mx_sbn {s t : State} (h : s.sameBut t []) : s.sameButNew t [] 0 0 := by
  obtain ⟨h1, h2, h3⟩ := h
  have hu : t.slotsUsed = s.slotsUsed := by rw [h1]; rfl
  have hd : List.drop (Array.size s.heap) t.heap.toList = [] := by
    apply List.drop_eq_nil_of_le
    rw [Array.length_toList]
    exact Nat.le_of_eq h2
  refine ⟨?_, Nat.le_of_eq h2.symm, Nat.le_of_eq (by omega), by rw [hd]; simpa using hu, by rw [hd]; simp, h3⟩
  rw [hu]
  exact h1
def mx_Pq (D : va_G) (cy : Nat → ClassId) (r : Nat → Value) (B a v : Nat) (ch : Int32) (w : mW) : Array Value → State → Prop := fun av U => av = #[.ref a, .int ch] ∧ mx_Env U ∧ mx_R D cy r B w U.heap ∧ mx_SO a B U U.heap ∧ mx_SF "coder" "B" (.int 0) a B U U.heap ∧ mx_SF "value" "[B" (.ref v) a B U U.heap ∧ mx_SA v B U U.heap ∧ va_Z mx_str "COMPACT_STRINGS" "Z" (.int 1) (fun q => B ≤ q) U U.heap
theorem mx_blindq {D : va_G} {cy : Nat → ClassId} {r : Nat → Value} {B a v : Nat} {ch : Int32} {w : mW} : FrameBlind (mx_Pq D cy r B a v ch w) := by
  intro av U g mk h
  have ha : U.vm.Alike (U.calling g mk av).vm := Vm.Alike.refl U.vm
  exact ⟨h.1, mx_Env.same (s := U) (U := U.calling g mk av) rfl h.2.1, h.2.2.1, h.2.2.2.1.mk2 ha (fun _ _ _ => rfl), h.2.2.2.2.1.mk2 ha (fun _ _ _ => rfl), h.2.2.2.2.2.1.mk2 ha (fun _ _ _ => rfl), h.2.2.2.2.2.2.1.mk2 ha (fun _ _ _ => rfl), va_Z.moved ha h.2.2.2.2.2.2.2⟩
theorem mx_metq {l : Launch} {D : va_G} {cy : Nat → ClassId} {r : Nat → Value} {B a v : Nat} {ch : Int32} {w : mW} : Met l Jvm.Free.StrIndexOf.indexOf1N [Cond.code Jvm.Free.StrIndexOf.indexOf1N Jvm.Free.StrIndexOf.indexOf1B 2 (some .int)] { frames := 4, cells := 0, slots := 0, locals := 160 } (mx_Pq D cy r B a v ch w) (mx_Qc D cy r B (some (.int (mx_ix ch))) w) 0 0 (fun q => B ≤ q) := by
  intro p e hl hc hk s m args below hf happ hP _
  obtain ⟨rfl, hE, hR, h2, h3, h4, h5, h6⟩ := hP
  obtain ⟨g1, arr, g2, g3⟩ := mx_S1p (ch := ch) hE h2 h3 h4 h5 h6
  have happ' : Jvm.Free.StrIndexOf.S1.spec.appliesLoose Jvm.Free.StrIndexOf.indexOf1N e.platform s = true := by
    unfold Spec.appliesLoose at happ ⊢
    rw [hf] at happ ⊢
    simp only [Bool.and_eq_true] at happ ⊢
    exact ⟨happ.1, g1⟩
  obtain ⟨n, o, q1, q2, q3, q4, q5⟩ := Jvm.Free.StrIndexOf.S1.met l a v ch 1 arr p e hl hc hk s m _ below hf happ' g2 trivial
  rw [mx_ixE g3] at q5
  obtain ⟨p1, p2, p3⟩ := q4
  have p4 := mx_sbn p3
  have p6 := Jvm.Free.SL1IndexOf.heapEq0 p4
  have p5 : (stepsAlone p.tables e n s).heap = s.heap := p6
  exact ⟨n, o, q1, q2, q3, ⟨q5, by rw [p5]; exact hR, by rw [p5]; exact Nat.le_refl _, fun q _ _ => by rw [p5]⟩, [], ⟨p1, p2, p4⟩, fun q hq => by cases hq⟩
theorem dX5_kindOf_7 : decode cX5_kindOf 7 = .ok (.ldc 71, 2) := by decide +kernel
theorem dX5_kindOf_9 : decode cX5_kindOf 9 = .ok (.iload_n 0, 1) := by decide +kernel
theorem dX5_kindOf_10 : decode cX5_kindOf 10 = .ok (.i2c, 1) := by decide +kernel
theorem dX5_kindOf_11 : decode cX5_kindOf 11 = .ok (.invokevirtual 73, 3) := by decide +kernel
set_option maxHeartbeats 4000000 in
/-- kindOf looks for its sign in the text -/
theorem zko_jump {g : zΓ} {d : Nat} (hd : 4 ≤ d) {lv : List (Nat × Value)} {x : Int32} {w : mW} (hlv : lv.lookup 0 = some (.int x)) :
    zG g d mt_X5_kindOf none (7, lv, [], w) (14, lv, [.int (mx_ix (x.toUInt32 % 65536).toInt32)], w) := by
  refine ⟨⟨Nat.le_refl _, Nat.le_refl _⟩, fun p e R s m args below meth c H0 X => ?_⟩
  obtain ⟨hx, hb, hml, hown, hE, hK, hr, hsc, hnm, hfr, hlo, hkb⟩ := X
  intro Q n0 z0 k0 k1 H ls locs hl hR hS hn0 hz0 hrc hrs k
  have hrc : w.1.length + k0 - n0 ≤ R.cells := hrc
  have hrs : w.2 + k1 - z0 ≤ R.slots := hrs
  obtain ⟨a, v, h1, h2, h3, h4, h5, h6⟩ := hsc.2
  have ls0 : ls[0]? = some (.val (.int x)) := mx_lv_at hl hlv
  refine va_ldcS hx hb hown h1 dX5_kindOf_7 ?_
  refine lv_iload_n hx hb dX5_kindOf_9 rfl ls0 ?_
  refine lv_i2c hx hb dX5_kindOf_10 rfl ?_
  have CF : CallFix p m c cX5_kindOf 4 s args [] RX5 := ⟨hx, hb, hml, hown, fun w hw => by cases hw⟩
  have hws : ∀ w ∈ [Cond.code Jvm.Free.StrIndexOf.indexOf1N Jvm.Free.StrIndexOf.indexOf1B 2 (some .int)], ∀ (a' : Array Value) (U : State), s.WarmedH U.vm → w.before a' U = true := by
    intro w hw a' U hW
    rw [List.mem_singleton.mp hw]
    exact mx_at_use (q := 675) (by decide +kernel) (mx_Env.warm hW hE)
  have hlen : ∀ sig, parseMethodDescriptor Jvm.Free.StrIndexOf.indexOf1N.desc = some sig → 1 = sig.parameters.length := fun sig hs => by
    have h9 : (parseMethodDescriptor Jvm.Free.StrIndexOf.indexOf1N.desc).map (fun d => d.parameters.length) = some 1 := by decide +kernel
    rw [hs] at h9
    exact (Option.some.inj h9).symm
  have hq : ∀ q : Nat, q < H0.size → ¬ g.2.2.2.2.2.2 ≤ q → H[q]? = H0[q]? := hS.2.1
  have hp : PreV s H Jvm.Lib.str a (mx_Pq g.2.2.2.1 g.2.2.2.2.1 g.2.2.2.2.2.1 g.2.2.2.2.2.2 a v (x.toUInt32 % 65536).toInt32 w) [.int (x.toUInt32 % 65536).toInt32] := ⟨mx_blindq, by
    obtain ⟨cell, k, e1, e2, e3, -⟩ := h2.mk2 (Vm.Alike.refl s.vm) hq
    exact ⟨cell, e1, e2, e3⟩, fun U hU hW => ⟨rfl, mx_Env.warm hW hE, by rw [hU]; exact hR, h2.mk2 hW.alike (by rw [hU]; exact hq), h3.mk2 hW.alike (by rw [hU]; exact hq), h4.mk2 hW.alike (by rw [hU]; exact hq), h5.mk2 hW.alike (by rw [hU]; exact hq), by rw [hU]; exact va_Z.moved hW.alike (h6.kept hq)⟩⟩
  refine mx_run (D := g.2.2.2.1) (cy := g.2.2.2.2.1) (r := g.2.2.2.2.2.1) (mc := 0) (ms := 0) (v := some (.int (mx_ix (x.toUInt32 % 65536).toInt32))) (w' := w) (rest := []) (a := (Value.ref a :: [.int (x.toUInt32 % 65536).toInt32]).toArray)
    (va_runV (As := [.int (x.toUInt32 % 65536).toInt32]) CF mx_metq ⟨⟨rfl, rfl, (by show 4 + 1 ≤ R.frames; omega), (by show 8 + (2 + 11) + 160 ≤ R.locals; omega), hws, List.mem_singleton.mpr rfl, mx_at_use (q := 675) (by decide +kernel) hE, mx_at_use (q := 163) (by decide +kernel) hE, ⟨by decide +kernel, by decide +kernel⟩, hlen, mx_at_use (q := 672) (by decide +kernel) hE⟩, mx_at_use (q := 673) (by decide +kernel) hE, mx_at_use (q := 674) (by decide +kernel) hE⟩ hp rfl rfl hl.1 rfl (lv_room (Nat.zero_le _)) dX5_kindOf_11 ⟨by show w.1.length + k0 - n0 + 0 ≤ R.cells; omega, by show w.2 + k1 - z0 + 0 ≤ R.slots; omega⟩) hS (fun H' locs' hR' hS' => ?_)
  exact k ls H' locs' hl hR' hS'
