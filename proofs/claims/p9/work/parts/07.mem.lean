/-! ### fields, rows, new cells -/
def mx_in (x : Int32) (n : Nat) : Bool := decide (0 ≤ x.toInt) && decide (x.toInt < (n : Int))
theorem mx_in_spec {x : Int32} {n : Nat} (h : mx_in x n = true) : vp_in x n := by
  simp only [mx_in, Bool.and_eq_true, decide_eq_true_eq] at h
  exact vp_in_iff.mpr h
def mx_fit (ty : FieldType) (v : Value) : Bool := match v with
  | .ref j => Nat.blt j mx_E && (match ty with | .object _ => true | .array _ => true | _ => false)
  | .double _ => false
  | v => decide (narrow ty v = v) && fits ty v
def mx_kind (t : ArrayType) : Option Nat := match t with
  | .int => some 0 | .long => some 1 | .boolean => some 2 | .byte => some 3 | _ => none
def mx_new (k n : Nat) : mE := if k = 1 then .inr ((1, n), .inr (0, [])) else .inr ((k, n), .inl (0, []))
def mx_defs (ci N : Nat) : List Value := (List.range N).map (fun k => defaultValue (mx_ty ci k))
def mx_nf (ci k : Nat) : Bool := match mx_cl[ci]? with
  | some q => !(q.2.1 k).2.2.2
  | none => false
def mx_al (kb : mK) : Bool := decide (mx_kf kb (.eq, .ref mx_F, .int 0) = some true)
/-- a number of the script: itself, where it is known -/
def mx_sv (kb : mK) (j : Nat) : Value := match kb.find? (fun e => decide (e.1.1 = .eq) && decide (e.1.2.1 = .ref j) && e.2 && (match e.1.2.2 with | .int _ => true | _ => false)) with
  | some e => e.1.2.2
  | none => .ref j
theorem mx_sv_spec {kb : mK} {r : Nat → Value} (hkb : mx_kb kb r) {j : Nat} {x : Int32} (hx : r j = .int x) : mx_v r (mx_sv kb j) = .int x := by
  unfold mx_sv
  split
  · rename_i e he
    have h1 := List.find?_some he
    simp only [Bool.and_eq_true, decide_eq_true_eq] at h1
    obtain ⟨⟨⟨h2, h3⟩, h4⟩, h5⟩ := h1
    have hm := List.mem_of_find?_eq_some he
    split at h5
    · rename_i y hy
      have h6 := hkb e hm x y (by rw [h3]; exact hx) (by rw [hy]; rfl)
      rw [h2, h4] at h6
      simp only [mx_cmp, decide_eq_true_eq] at h6
      rw [hy, h6]; rfl
    · cases h5
  · exact hx
def mx_mem (kb : mK) (sc : Option Nat) (ini : Option Nat) (lk : List (Nat × mL)) (i : Instr) (st : List Value) (w : mW) : Option (List Value × mW) := match i, st with
  | .getfield ix, .ref j :: st => match lk.lookup ix with
    | some (t, ci, k, _) => match w.1[j]? with
      | some (.inl (ci', fs)) => if Nat.ble t 1 && Nat.beq ci ci' then (match fs[k]? with | some v => some (v :: st, w) | none => none) else none
      | _ => none
    | none => none
  | .putfield ix, v :: .ref j :: st => match lk.lookup ix with
    | some (t, ci, k, _) => match w.1[j]? with
      | some (.inl (ci', fs)) => if Nat.ble t 1 && Nat.beq ci ci' && Nat.blt k fs.length && mx_fit (mx_ty ci k) v && (mx_nf ci k || (Nat.beq t 0 && decide (ini = some ci))) then some (st, (w.1.set j (.inl (ci', fs.set k v)), w.2)) else none
      | _ => none
    | none => none
  | .iaload, .int x :: .ref j :: st => if Nat.beq j mx_E then (match sc with | some L => if mx_in x L then some (mx_sv kb (mx_E + 1 + x.toNatClampNeg) :: st, w) else none | none => none) else
    match w.1[j]? with
      | some (.inr ((k, n), .inl a)) => if Nat.beq k 0 && mx_in x n then some (.int (mx_g a x.toNatClampNeg) :: st, w) else none
      | _ => none
  | .laload, .int x :: .ref j :: st => match w.1[j]? with
      | some (.inr ((k, n), .inr a)) => if Nat.beq k 1 && mx_in x n then some (.long (mx_g a x.toNatClampNeg) :: st, w) else none
      | _ => none
  | .baload, .int x :: .ref j :: st => match w.1[j]? with
      | some (.inr ((k, n), .inl a)) => if (Nat.beq k 2 || Nat.beq k 3) && mx_in x n then some (.int (mx_g a x.toNatClampNeg) :: st, w) else none
      | _ => none
  | .iastore, .int v :: .int x :: .ref j :: st => match w.1[j]? with
      | some (.inr ((k, n), .inl a)) => if Nat.beq k 0 && mx_in x n then some (st, (w.1.set j (.inr ((k, n), .inl (mx_s a x.toNatClampNeg v))), w.2)) else none
      | _ => none
  | .lastore, .long v :: .int x :: .ref j :: st => match w.1[j]? with
      | some (.inr ((k, n), .inr a)) => if Nat.beq k 1 && mx_in x n then some (st, (w.1.set j (.inr ((k, n), .inr (mx_s a x.toNatClampNeg v))), w.2)) else none
      | _ => none
  | .bastore, .int v :: .int x :: .ref j :: st => match w.1[j]? with
      | some (.inr ((k, n), .inl a)) => if Nat.beq k 2 && mx_in x n then some (st, (w.1.set j (.inr ((k, n), .inl (mx_s a x.toNatClampNeg (vp_nar .boolean v)))), w.2))
          else if Nat.beq k 3 && mx_in x n then some (st, (w.1.set j (.inr ((k, n), .inl (mx_s a x.toNatClampNeg (vp_nar .byte v)))), w.2)) else none
      | _ => none
  | .arraylength, .ref j :: st => if Nat.beq j mx_E then (match sc with | some L => some (.int (Int32.ofNat L) :: st, w) | none => none) else
    match w.1[j]? with
      | some (.inr ((k, n), _)) => if Nat.blt k 4 then some (.int (Int32.ofNat n) :: st, w) else none
      | _ => none
  | .newarray t, .int n :: st => match mx_kind t with
      | some k => if decide (¬ n < 0) && Nat.ble n.toNatClampNeg 1000000 && Nat.blt w.1.length mx_E && mx_al kb then some (.ref w.1.length :: st, (w.1 ++ [mx_new k n.toNatClampNeg], w.2 + n.toNatClampNeg)) else none
      | none => none
  | .new ix, st => match lk.lookup ix with
      | some (t, ci, _, _) => match mx_cl[ci]? with
        | some q => if Nat.beq t 9 && Nat.blt w.1.length mx_E && mx_al kb then some (.ref w.1.length :: st, (w.1 ++ [.inl (ci, mx_defs ci q.2.2)], w.2 + q.2.2)) else none
        | none => none
      | none => none
  | .ldc ix, st => match lk.lookup ix with
      | some (t, _, _, n) => if Nat.beq t 10 then some (.int (Int32.ofInt n) :: st, w) else none
      | none => none
  | .ldc2_w ix, st => match lk.lookup ix with
      | some (t, _, _, n) => if Nat.beq t 11 then some (.long (Int64.ofInt n) :: st, w) else none
      | none => none
  | .invokespecial ix, .ref j :: st => match lk.lookup ix with
      | some (t, _, _, _) => if Nat.beq t 8 && Nat.ble j mx_E && Nat.ble ((st.map fun v => v.category).sum) 8 then some (st, w) else none
      | none => none
  | _, _ => none
/-- the links of a method's class file are among the tables' words -/
def mx_lkok (nms : Nat → Option MethodName) (own : String) (x : Nat × mL) : Bool := match x with
  | (ix, t, a, b, z) => match t with
    | 0 => match mx_cl[a]? with | some q => Nat.blt b q.2.2 && mx_at z.toNat (.fieldLink own ix q.1 (q.2.1 b).2.1 (q.2.1 b).2.2.1) | none => false
    | 1 => match mx_cl[a]? with | some q => Nat.blt b q.2.2 && mx_at z.toNat (.fieldLinkNest own ix q.1 (q.2.1 b).2.1 (q.2.1 b).2.2.1 "BoundTables") | none => false
    | 8 => mx_at z.toNat (.methodLink own ix objectInit)
    | 9 => match mx_cl[a]? with | some q => mx_at z.toNat (.classLink own ix q.1) | none => false
    | 10 => mx_at b (.constant own ix (Int32.ofInt z))
    | 11 => mx_at b (.constantLong own ix (Int64.ofInt z))
    | 2 => match nms a with | some y => mx_at z.toNat (.methodLink own ix y) | none => false
    | 4 => match nms a with | some y => mx_at z.toNat (.methodLink own ix y) | none => false
    | 6 => match nms a with | some y => mx_at z.toNat (.methodLink own ix y) | none => false
    | 3 => match nms a with | some y => mx_at z.toNat (.methodLinkNest own ix y "BoundTables") | none => false
    | 5 => match nms a with | some y => mx_at z.toNat (.methodLinkNest own ix y "BoundTables") | none => false
    | 7 => match nms a with | some y => mx_at z.toNat (.methodLinkNest own ix y "BoundTables") | none => false
    | _ => false
theorem mx_lkl {lk : List (Nat × mL)} {i : Nat} {v : mL} (h : lk.lookup i = some v) : (i, v) ∈ lk := by
  induction lk with
  | nil => simp at h
  | cons q t ih =>
    obtain ⟨j, u⟩ := q
    by_cases hj : i = j
    · subst hj
      simp [List.lookup] at h
      simp [h]
    · have : (i == j) = false := by simpa using hj
      simp [List.lookup, this] at h
      exact List.mem_cons_of_mem _ (ih h)
/-- cells and slots never grow fewer -/
theorem mx_mem_mono {kb : mK} {sc ini : Option Nat} {lk : List (Nat × mL)} {i : Instr} {st st' : List Value} {w w' : mW} (h : mx_mem kb sc ini lk i st w = some (st', w')) : w.1.length ≤ w'.1.length ∧ w.2 ≤ w'.2 := by
  unfold mx_mem at h
  split at h <;> (repeat' split at h) <;> first | (cases h; done) | (cases h; simp)
theorem mx_al_spec {kb : mK} {r : Nat → Value} {B : Nat} (hkb : mx_kb kb r) (hr : mx_r r B) (h : mx_al kb = true) : r mx_F = .int 0 := by
  simp only [mx_al, decide_eq_true_eq] at h
  obtain ⟨x, hx⟩ := hr.2.2 mx_F (by decide)
  have h1 := mx_kf_spec hkb h (show mx_v r (.ref mx_F) = .int x from hx) (rfl : mx_v r (.int 0) = _)
  simp only [mx_cmp, decide_eq_true_eq] at h1
  rw [hx, h1]
section MX2
variable {p : Program} {l : Launch} {e : Env} {R : Room} {s : State} {m : MethodId} {args : Array Value} {below : List Frame} {meth : Method} {c : Code} {H : Heap} {locs : List Loc} {cells slots : Nat} {Q : State → Prop}
variable {cc : ByteArray} {pc nL : Nat} {ls : Array Slot} {r : Nat → Value} {B : Nat} {D : va_G} {cy : Nat → ClassId} {H0 : Heap}
theorem mx_fit_spec (hr : mx_r r B) {ty : FieldType} {v : Value} (h : mx_fit ty v = true) : narrow ty (mx_v r v) = mx_v r v ∧ fits ty (mx_v r v) = true := by
  unfold mx_fit at h
  split at h
  · rename_i j
    simp only [Bool.and_eq_true] at h
    rw [mx_v_ref, hr.1 j (mx_blt h.1)]
    cases ty <;> first | (cases h.2; done) | exact ⟨rfl, rfl⟩
  · cases h
  · rename_i hv hv2
    simp only [Bool.and_eq_true, decide_eq_true_eq] at h
    have : mx_v r v = v := by cases v <;> first | rfl | exact absurd rfl (hv _) | exact absurd rfl (hv2 _)
    rw [this]
    exact h
/-- a field is written -/
theorem mx_put (hx : p.tables.exec = Jvm.exec) (hb : c.code = cc) {own : String} {q : vw_C} {ci ix k j t : Nat} (hE : mx_Env s) (hown : s.vm.findClass own = some m.cls) (hK : va_K D mx_cl (mx_tys cy) s) (hr : mx_r r B) {w : mW} (hR : mx_R D cy r B w H) (hS : va_S (fun q => B ≤ q) H0 H locs) (hcl : mx_cl[ci]? = some q) (hk : k < q.2.2) {fs : List Value} (hj : w.1[j]? = some (.inl (ci, fs))) (hkl : k < fs.length) {v : Value} (hfit : mx_fit (mx_ty ci k) v = true)
    (hlink : (t = 0 ∧ (Cond.fieldLink own ix q.1 (q.2.1 k).2.1 (q.2.1 k).2.2.1).before args s = true) ∨ (t = 1 ∧ (Cond.fieldLinkNest own ix q.1 (q.2.1 k).2.1 (q.2.1 k).2.2.1 "BoundTables").before args s = true))
    (hfin : (q.2.1 k).2.2.2 = false ∨ (t = 0 ∧ (q.2.1 k).2.2.2 = true ∧ meth.name = "<init>" ∧ own = q.1)) {rest : List Value} (hd : decode cc pc = .ok (.putfield ix, 3))
    (kk : ∀ (H1 : Heap) (locs1 : List Loc), mx_R D cy r B (w.1.set j (.inl (ci, fs.set k v)), w.2) H1 → va_S (fun q => B ≤ q) H0 H1 locs1 → W p l e R s m args below meth c H1 locs1 cells slots Q (F0 m (pc + 3) ls rest)) : W p l e R s m args below meth c H locs cells slots Q (F0 m pc ls (mx_v r v :: .ref (B + j) :: rest)) := by
  obtain ⟨hws, hty, hnm, hdc, -⟩ := mx_C_of hcl
  obtain ⟨C, T, N⟩ := q
  have hts : ∀ w ∈ u_ws C T N, w.before args s = true := fun w hw => hE w (hws w hw).1 (hws w hw).2 args
  have hap := va_apart (own := own) hts (fun w h => h) (mx_ty ci) hty hnm hK hcl
  obtain ⟨h1, h2, hP⟩ := id hR
  obtain ⟨r', h1', cell, q1, q2, q3, q4⟩ := hP j _ hj rfl
  have hr' : r' = (C, T, N) := Option.some.inj (h1'.symm.trans hcl)
  subst hr'
  obtain ⟨hSl, hfc, kC, hkC, hkind⟩ := hK.1 ci _ hcl
  obtain ⟨cf, kf, fi, f, hi, hsl⟩ := hSl k hk
  have hlay := hts _ (u_in_lay hk)
  have hst := (u_facts hfc hkC (u_lays hts (fun w h => h) hk) hi).1
  obtain ⟨hn, hft⟩ := mx_fit_spec hr hfit
  have hsame : s.fieldFound? C (T k).2.1 (T k).2.2.1 = some (cf, kf, fi, f) := by have := hdc k hk; dsimp only at this; rw [← this]; exact hi
  have hkl' : k < (fs.map (mx_v r)).length := by simpa using hkl
  have fin : ∀ (H' : Heap), H'[B + j]? = some (cell.setSlot f.slot (mx_v r v)) → H'.size = H.size → (∀ q, q ≠ B + j → H'[q]? = H[q]?) → W p l e R s m args below meth c H' (locs ++ [⟨B + j, f.slot⟩]) cells slots Q (F0 m (pc + 3) ls rest) := by
    intro H' e1 e2 e3
    rw [hsl] at e1 ⊢
    refine kk H' _ (hR.set hj e2 e3 ?_) (hS.put e2 e3 (Nat.le_add_right B j))
    refine ⟨_, hcl, t_OB.to (V := updV (vp_V (fs.map (mx_v r))) k (mx_v r v)) ⟨_, e1, q2, q3, t_set q4 hap hk _⟩ (fun i _ => ?_)⟩
    rw [vp_updV_set hkl', List.map_set]
  have hlt : f.slot < cell.slots.size := by rw [hsl]; exact k2_hasslot (q4 k hk)
  rcases hfin with hfin | ⟨ht, hfin, hmn, ho⟩
  · unfold u_lay at hlay
    rw [if_neg (by rw [hfin]; decide)] at hlay
    have h6 := u_store hfc hkC hkind hlay hi (hty k hk) hn hft
    rcases hlink with ⟨-, hlink⟩ | ⟨-, hlink⟩
    · exact W.putK hx hb (f := f) ⟨hown, hlink, ⟨_, _, _, hsame⟩, hst⟩ (by rw [q2]; exact h6) q1 q3 hlt rfl rfl hd fin
    · exact va_WputK hx hb (f := f) hown hlink hsame hst (by rw [q2]; exact h6) q1 q3 hlt rfl rfl hd fin
  · rcases hlink with ⟨-, hlink⟩ | ⟨ht1, -⟩
    · unfold u_lay at hlay
      rw [if_pos hfin] at hlay
      have hcf : m.cls = cf := by
        obtain ⟨_, _, c', _, _, _, -, -, hf', -, -, -, hown2, -⟩ := Cond.laysFinal_spec hlay
        have e1 : c' = cf := by have := hi.symm.trans hf'; simp at this; exact this.1.symm
        rw [show (T k).1 = own by rw [ho]; exact hdc k hk] at hown2
        rw [← e1]; exact Option.some.inj (hown.symm.trans hown2)
      have h6 := u_fits hfc hkC hkind (Or.inr hlay) hi (hty k hk) hn hft
      exact W.putFinK hx hb hown hlink hsame hst hcf hmn (by rw [q2]; exact h6) q1 q3 hlt rfl rfl hd fin
    · omega
/-- what a row's place holds once it is written -/
theorem mx_rowI {H1 : Heap} {a cA k n : Nat} {b : mI} {x : Int32} (e : H1[a]? = some ((arrV cA n (fun j => Value.int (mx_g b j))).setSlot k (.int x))) : H1[a]? = some (vp_cell cA (n, .inl (mx_g (mx_s b k x)))) := by
  rw [e, vp_cell_i, arrV_store]
  congr 2
  funext q
  rw [mx_g_s]
  by_cases hq : q = k <;> simp [updV, hq]
theorem mx_rowJ {H1 : Heap} {a cA k n : Nat} {b : mJ} {x : Int64} (e : H1[a]? = some ((arrV cA n (fun j => Value.long (mx_g b j))).setSlot k (.long x))) : H1[a]? = some (vp_cell cA (n, .inr (.inl (mx_g (mx_s b k x))))) := by
  rw [e, vp_cell_l, arrV_store]
  congr 2
  funext q
  rw [mx_g_s]
  by_cases hq : q = k <;> simp [updV, hq]
end MX2
/-- a method: its name; its bytes; (its locals, what it answers, how many it is given, the number of its kind, how it is called: 0 by its object, 1 by its class, 2 as a maker); places of its words; its instructions; its links; whether it is a maker -/
abbrev mM : Type := MethodName × ByteArray × (Nat × Option FieldType × Nat × Nat × Nat) × (Nat × Nat × Nat × Nat) × List (Nat × Instr) × List (Nat × mL) × Option Nat
def mx_isT (i : Instr) : Bool := match i with
  | .tableswitch _ _ _ _ => true
  | _ => false
def mx_rowok (bytes : ByteArray) (x : Nat × Instr) : Bool := match decode bytes x.1 with
  | .ok (i, n) => decide (i = x.2) && (Nat.beq n (mx_len x.2) || mx_isT x.2)
  | _ => false
def mx_mok (nms : Nat → Option MethodName) (M : mM) : Bool :=
  M.2.2.2.2.1.all (mx_rowok M.2.1) && M.2.2.2.2.2.1.all (mx_lkok nms M.1.cls) && mx_at M.2.2.2.1.1 (.code M.1 M.2.1 M.2.2.1.1 M.2.2.1.2.1) && mx_at M.2.2.2.1.2.2.2 (.initialized M.1.cls) &&
  (match M.2.2.1.2.2.2.2 with
    | 1 => mx_at M.2.2.2.1.2.1 (.static M.1)
    | 2 => mx_at M.2.2.2.1.2.1 (.instanceMethod M.1) && decide (M.1.name = "<init>") && decide (M.2.2.1.2.1 = none)
    | _ => mx_at M.2.2.2.1.2.1 (.instanceMethod M.1) && mx_at M.2.2.2.1.2.2.1 (.selects M.1.cls M.1 M.1) && (match mx_cl[M.2.2.1.2.2.2.1]? with | some q => decide (q.1 = M.1.cls) | none => false)) &&
  decide (M.1.cls ≠ "java/lang/invoke/MethodHandle" ∧ M.1.cls ≠ "java/lang/invoke/VarHandle" ∧ (parseMethodDescriptor M.1.desc).map (fun d => d.parameters.length) = some M.2.2.1.2.2.1) && (plainName M.1.cls || Nat.beq M.2.2.2.1.2.2.2 152) && Nat.ble M.2.2.1.1 21 &&
  (match M.2.2.2.2.2.2 with
    | some ci => decide (M.1.name = "<init>") && (match mx_cl[ci]? with | some q => decide (M.1.cls = q.1) | none => false)
    | none => true)
