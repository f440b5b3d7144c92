/-! ### the condition -/
abbrev zK : Type := List (Nat × Instr) → List (Nat × zV) → List zV → zM → Prop
def zgf (μ : zM) (y t : Nat) (ci kf : Nat) (k : zV → Prop) : Prop := match znth zcl y with
  | some (.inl c) => (match Nat.beq c ci with
    | true => zchk μ y t (match znth zfl ci with
      | some fs => (match znth fs kf with
        | some (.inl (lo, hi)) => ∀ x : Int, x = μ.1 t kf → lo ≤ x → x ≤ hi → k (.inl x)
        | some (.inr (.inl _)) => ∀ x : Int64, x.toInt = μ.1 (Nat.add 5000000 t) kf → k (.inr (.inl x))
        | some (.inr (.inr (.inl (off, y')))) => (match Nat.ble 14 y' && Nat.ble y' 31 with
          | true => k (.inr (.inr (Nat.add t off, y')))
          | false => k (.inr (.inr (y', y'))))
        | some (.inr (.inr (.inr y'))) => (match Nat.ble y' 108 && !(Nat.ble 14 y' && Nat.ble y' 31) with
          | true => k (.inr (.inr (y', y')))
          | false => ∀ t' : Nat, (t' : Int) = μ.1 t kf → zchk μ y' t' True → k (.inr (.inr (t', y'))))
        | none => False)
      | none => False)
    | false => False)
  | _ => False
def zpf (μ : zM) (y t : Nat) (ci kf : Nat) (v : zV) (k : zM → Prop) : Prop := match znth zcl y with
  | some (.inl c) => (match Nat.beq c ci with
    | true => zchk μ y t (match znth zfl ci with
      | some fs => (match znth fs kf, v with
        | some (.inl (lo, hi)), .inl x => (lo ≤ x ∧ x ≤ hi) ∧ ∀ μ' : zM, μ' = zu μ t kf x → k μ'
        | some (.inr (.inl _)), .inr (.inl x) => ∀ μ' : zM, μ' = zu μ (Nat.add 5000000 t) kf x.toInt → k μ'
        | some (.inr (.inr (.inr y'))), .inr (.inr q) => zchk μ y' q.1 True ∧ ∀ μ' : zM, μ' = zu μ t kf q.1 → k μ'
        | _, _ => False)
      | none => False)
    | false => False)
  | _ => False
/-- a row's number: read, written; kd says which kinds of rows -/
def zrd (μ : zM) (kd : Nat → Bool) (y t : Nat) (x : Int) (k : zV → Prop) : Prop := match Nat.beq y 1001 with
  | true => (match kd 0 with
    | true => zIa μ t ∧ (0 ≤ x ∧ x < μ.2 t) ∧ ∀ v : Int, v = μ.1 t x → -2147483648 ≤ v → v ≤ 2147483647 → k (.inl v)
    | false => False)
  | false => (match Nat.beq y 1000 with
    | true => (match kd 0 with
      | true => zDyn μ t ∧ (0 ≤ x ∧ x < μ.2 t) ∧ ∀ v : Int, v = μ.1 t x → -2147483648 ≤ v → v ≤ 2147483647 → k (.inl v)
      | false => False)
    | false => (match znth zcl (bif Nat.beq y 200 then 51 else y) with
      | some (.inr (kk, n, lo, hi)) => (match kd kk with
        | true => zchk μ y t ((0 ≤ x ∧ x < n) ∧ (match Nat.beq kk 1 with
          | true => ∀ v : Int64, v.toInt = μ.1 (Nat.add 3000000 t) x → k (.inr (.inl v))
          | false => ∀ v : Int, v = μ.1 t x → lo ≤ v → v ≤ hi → k (.inl v)))
        | false => False)
      | _ => False))
def zrg (t : Nat) (v : Int) : Prop := match znth zcl t with
  | some (.inr (_, _, lo, hi)) => lo ≤ v ∧ v ≤ hi
  | _ => zR v
def zwr (μ : zM) (kd : Nat → Bool) (y t : Nat) (x : Int) (v : zV) (k : zM → Prop) : Prop := match Nat.beq y 1001 with
  | true => (match kd 0, v with
    | true, .inl v => zIa μ t ∧ (0 ≤ x ∧ x < μ.2 t) ∧ zrg t v ∧ ∀ μ' : zM, μ' = zu μ t x v → k μ'
    | _, _ => False)
  | false => (match Nat.beq y 1000 with
    | true => (match kd 0, v with
      | true, .inl v => zDyn μ t ∧ (0 ≤ x ∧ x < μ.2 t) ∧ zR v ∧ ∀ μ' : zM, μ' = zu μ t x v → k μ'
      | _, _ => False)
    | false => (match znth zcl (bif Nat.beq y 200 then 51 else y) with
      | some (.inr (kk, n, lo, hi)) => (match kd kk with
        | true => zchk μ y t ((0 ≤ x ∧ x < n) ∧ (match Nat.beq kk 1, v with
          | true, .inr (.inl v) => ∀ μ' : zM, μ' = zu μ (Nat.add 3000000 t) x v.toInt → k μ'
          | false, .inl v => (lo ≤ v ∧ v ≤ hi) ∧ ∀ μ' : zM, μ' = zu μ t x v → k μ'
          | _, _ => False))
        | false => False)
      | _ => False))
def zal (μ : zM) (y t : Nat) (k : zV → Prop) : Prop := match Nat.beq y 1001 with
  | true => zIa μ t ∧ ∀ x : Int, x = μ.2 t → 0 ≤ x → x ≤ 2147483647 → k (.inl x)
  | false => (match Nat.beq y 1000 with
    | true => zDyn μ t ∧ ∀ x : Int, x = μ.2 t → 1024 ≤ x → x ≤ 88400 → k (.inl x)
    | false => (match znth zcl (bif Nat.beq y 200 then 51 else y) with
      | some (.inr (_, n, _, _)) => zchk μ y t (k (.inl n))
      | _ => False))
def zsum (st : List zV) : Nat := match st with
  | [] => 0
  | v :: t => Nat.add (zcat v) (zsum t)
def zrt (ret : Option FieldType) (x : Int) : Prop := match ret with
  | some .int => True
  | some .boolean => x = 0 ∨ x = 1
  | _ => False
def zcallS (V : Nat → zC → Prop) (lk : List (Nat × mL)) (ix md : Nat) (st : List zV) (μ : zM) (k : List zV → zM → Prop) : Prop := match zlk ix lk with
  | none => False
  | some (tt, a, n, _) => (match znth zmi a with
    | none => False
    | some (md', ci, n') => (match (Nat.beq tt (2 * md + 2) || Nat.beq tt (2 * md + 3)) && Nat.beq md' md && Nat.beq n' n && Nat.ble n st.length && Nat.ble (zsum (st.drop n)) 8 with
      | false => False
      | true => (match Nat.beq md 1 with
        | true => ∃ C : zC, V a C ∧ C (st.take n).reverse μ (fun v μ' => k (v.toList ++ st.drop n) μ')
        | false => (match st.drop n with
          | .inr (.inr (t, y)) :: rest => (match znth zcl y with
            | some (.inl c) => (match Nat.beq c ci with
              | true => zchk μ y t (∃ C : zC, V a C ∧ C (.inr (.inr (t, y)) :: (st.take n).reverse) μ (fun v μ' => k (v.toList ++ rest) μ'))
              | false => False)
            | _ => False)
          | _ => False))))
def zev (V : Nat → zC → Prop) (M : mM) (P : Option zV → zM → Prop) (T : Nat → zM → Prop) (k : zK) (pc : Nat) (i : Instr) (rest : List (Nat × Instr)) (lv : List (Nat × zV)) (st : List zV) (μ : zM) : Prop := match i, st with
  | .goto off, st => k (zsuf (ztg pc off) M.2.2.2.2.1) lv st μ
  | .ifCond c off, .inl x :: st => zR x ∧ zbr c x 0 (k (zsuf (ztg pc off) M.2.2.2.2.1) lv st μ) (k rest lv st μ)
  | .if_icmp c off, .inl y :: .inl x :: st => (zR x ∧ zR y) ∧ zbr c x y (k (zsuf (ztg pc off) M.2.2.2.2.1) lv st μ) (k rest lv st μ)
  | .tableswitch dflt lo hi offs, .inl x :: st => zR x ∧ ((x < lo ∨ hi < x) → k (zsuf (ztg pc dflt) M.2.2.2.2.1) lv st μ) ∧ zsw x pc (fun t => k (zsuf t M.2.2.2.2.1) lv st μ) lo offs.toList
  | .getfield ix, .inr (.inr (t, y)) :: st => (match zlk ix M.2.2.2.2.2.1 with
    | some (tt, ci, kf, _) => (match Nat.ble tt 1 with
      | true => zgf μ y t ci kf (fun v => k rest lv (v :: st) μ)
      | false => False)
    | none => False)
  | .putfield ix, v :: .inr (.inr (t, y)) :: st => (match zlk ix M.2.2.2.2.2.1 with
    | some (tt, ci, kf, _) => (match Nat.ble tt 1 && mx_nf ci kf with
      | true => zpf μ y t ci kf v (fun μ' => k rest lv st μ')
      | false => False)
    | none => False)
  | .iaload, .inl x :: .inr (.inr (t, y)) :: st => zrd μ (fun q => Nat.beq q 0) y t x (fun v => k rest lv (v :: st) μ)
  | .laload, .inl x :: .inr (.inr (t, y)) :: st => zrd μ (fun q => Nat.beq q 1) y t x (fun v => k rest lv (v :: st) μ)
  | .baload, .inl x :: .inr (.inr (t, y)) :: st => zrd μ (fun q => Nat.beq q 2 || Nat.beq q 3) y t x (fun v => k rest lv (v :: st) μ)
  | .iastore, v :: .inl x :: .inr (.inr (t, y)) :: st => zwr μ (fun q => Nat.beq q 0) y t x v (fun μ' => k rest lv st μ')
  | .lastore, v :: .inl x :: .inr (.inr (t, y)) :: st => zwr μ (fun q => Nat.beq q 1) y t x v (fun μ' => k rest lv st μ')
  | .bastore, v :: .inl x :: .inr (.inr (t, y)) :: st => zwr μ (fun q => Nat.beq q 2 || Nat.beq q 3) y t x v (fun μ' => k rest lv st μ')
  | .arraylength, .inr (.inr (t, y)) :: st => zal μ y t (fun v => k rest lv (v :: st) μ)
  | .ldc ix, st => (match zlk ix M.2.2.2.2.2.1 with
    | some (tt, _, _, n) => (match Nat.beq tt 10 with
      | true => k rest lv (.inl n :: st) μ
      | false => False)
    | none => False)
  | .ldc2_w ix, st => (match zlk ix M.2.2.2.2.2.1 with
    | some (tt, _, _, n) => (match Nat.beq tt 11 with
      | true => k rest lv (.inr (.inl (Int64.ofInt n)) :: st) μ
      | false => False)
    | none => False)
  | .idiv, .inl y :: .inl x :: st => (zR y ∧ y ≠ 0) ∧ ∀ v : Int, v = (Int32.ofInt x / Int32.ofInt y).toInt → -2147483648 ≤ v → v ≤ 2147483647 → k rest lv (.inl v :: st) μ
  | .irem, .inl y :: .inl x :: st => (zR y ∧ y ≠ 0) ∧ ∀ v : Int, v = (Int32.ofInt x - Int32.ofInt x / Int32.ofInt y * Int32.ofInt y).toInt → -2147483648 ≤ v → v ≤ 2147483647 → k rest lv (.inl v :: st) μ
  | .invokevirtual ix, st => zcallS V M.2.2.2.2.2.1 ix 0 st μ (fun st' μ' => k rest lv st' μ')
  | .invokestatic ix, st => zcallS V M.2.2.2.2.2.1 ix 1 st μ (fun st' μ' => k rest lv st' μ')
  | .ireturn, [.inl x] => zrt M.2.2.1.2.1 x ∧ zR x ∧ P (some (.inl x)) μ
  | .lreturn, [.inr (.inl x)] => M.2.2.1.2.1 = some .long ∧ P (some (.inr (.inl x))) μ
  | .return_, [] => M.2.2.1.2.1 = none ∧ P none μ
  | .new _, [] => T pc μ
  | _, _ => False
def zget (ks : List Nat) (lv : List (Nat × zV)) : Option (List zV) := match ks with
  | [] => some []
  | k :: t => (match zlk k lv, zget t lv with
    | some v, some vs => some (v :: vs)
    | _, _ => none)
def zzip (ks : List Nat) (vs : List zV) : List (Nat × zV) := match ks, vs with
  | k :: ks, v :: vs => (k, v) :: zzip ks vs
  | _, _ => []
def zwrap (wl : List Nat) (pc : Nat) (st : List zV) (k : List zV → Prop) : Prop := match wl.any (fun q => Nat.beq q pc) with
  | true => (match st with
    | .inl x :: t => ∀ v : Int, v = (Int32.ofInt x).toInt → -2147483648 ≤ v → v ≤ 2147483647 → k (.inl v :: t)
    | st => k st)
  | false => k st
def zwrl (wl : List Nat) (pc : Nat) (lv : List (Nat × zV)) (k : List (Nat × zV) → Prop) : Prop := match wl.any (fun q => Nat.beq q pc) with
  | true => (match lv with
    | (q, .inl x) :: t => ∀ v : Int, v = (Int32.ofInt x).toInt → -2147483648 ≤ v → v ≤ 2147483647 → k ((q, .inl v) :: t)
    | lv => k lv)
  | false => k lv
/-- K: the cuts with the locals that are kept there; where a sum is taken round -/
def zw (V : Nat → zC → Prop) (M : mM) (K : List (Nat × List Nat) × List Nat) (J : Nat → List zV → zM → Prop) (P : Option zV → zM → Prop) (T : Nat → zM → Prop) : Nat → Bool → List (Nat × Instr) → List (Nat × zV) → List zV → zM → Prop
  | 0, _, _, _, _, _ => False
  | n + 1, first, code, lv, st, μ => match code with
    | [] => False
    | (pc, i) :: rest => (match (match first with | true => none | false => zlk pc K.1) with
      | some ks => (match st, zget ks lv with
        | [], some vs => J pc vs μ
        | _, _ => False)
      | none => (match zp i st with
        | some st' => zwrap K.2 pc st' (fun st' => zw V M K J P T n false rest lv st' μ)
        | none => (match zlc M.2.2.1.1 i lv st with
          | some (lv', st') => zwrl K.2 pc lv' (fun lv' => zw V M K J P T n false rest lv' st' μ)
          | none => (match zo i st with
            | some (q, st') => ∀ v : Int, v = q.toInt → -2147483648 ≤ v → v ≤ 2147483647 → zw V M K J P T n false rest lv (.inl v :: st') μ
            | none => zev V M P T (fun c l s m => zw V M K J P T n false c l s m) pc i rest lv st μ))))
