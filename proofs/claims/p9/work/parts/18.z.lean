/-! ### numbers instead of values: what a run wants, told as a condition over numbers -/
abbrev zV : Type := Int ⊕ (Int64 ⊕ (Nat × Nat))
/-- a memory: what stands in a cell's place; how long a row is -/
abbrev zM : Type := (Nat → Int → Int) × (Nat → Int)
abbrev zC : Type := List zV → zM → (Option zV → zM → Prop) → Prop
def zt (v : zV) : Value := match v with
  | .inl x => .int (Int32.ofInt x)
  | .inr (.inl x) => .long x
  | .inr (.inr q) => .ref q.1
def zR (x : Int) : Prop := -2147483648 ≤ x ∧ x ≤ 2147483647
def zu (μ : zM) (j : Nat) (k x : Int) : zM := (fun i q => if i = j ∧ q = k then x else μ.1 i q, μ.2)
def zlk {α : Type} (k : Nat) (l : List (Nat × α)) : Option α := match l with
  | [] => none
  | q :: t => match Nat.beq k q.1 with
    | true => some q.2
    | false => zlk k t
def zsuf (t : Nat) (l : List (Nat × Instr)) : List (Nat × Instr) := match l with
  | [] => []
  | q :: r => match Nat.beq t q.1 with
    | true => q :: r
    | false => zsuf t r
def znth {α : Type} (l : List α) (n : Nat) : Option α := match l, n with
  | [], _ => none
  | a :: _, 0 => some a
  | _ :: t, n + 1 => znth t n
/-- an object's kind, or a row: its kind, its length, what its numbers lie between -/
abbrev zD : Type := Nat ⊕ (Nat × Nat × Int × Int)
/-- a field: a number between two, or a long, or a cell so many behind its object's, or a cell of a sort -/
abbrev zF : Type := (Int × Int) ⊕ (Bool ⊕ ((Nat × Nat) ⊕ Nat))
def zDyn (μ : zM) (t : Nat) : Prop := (t = 31 ∨ t = 49 ∨ (109 ≤ t ∧ t < 1000000)) ∧ 1024 ≤ μ.2 t ∧ μ.2 t ≤ 88400
/-- the rows of ints that the makers make -/
def zst (t : Nat) : Bool := [2, 3, 4, 7, 8, 9, 11, 12, 13, 16, 17, 18, 19, 21, 22, 23, 24, 25, 27, 28, 29, 30, 31, 34, 35, 36, 37, 39, 40, 41, 42, 43, 45, 46, 47, 48, 49, 51, 53, 54, 55, 56, 57, 58, 60, 61, 62, 63, 64, 65, 67, 68, 69, 70, 71, 72, 73, 74, 76, 77, 78, 79, 80, 82, 83, 84, 85, 86, 88, 89, 90, 91, 92, 93, 94, 95, 97, 98, 99, 101, 102, 103, 104, 105, 106, 107].any (fun q => Nat.beq q t)
/-- a row of ints, whichever -/
def zIa (μ : zM) (t : Nat) : Prop := zDyn μ t ∨ (t < 109 ∧ zst t = true)
def zcat (v : zV) : Nat := match v with
  | .inr (.inl _) => 2
  | _ => 1
def zp (i : Instr) (st : List zV) : Option (List zV) := match i, st with
  | .iconst n, st => some (.inl n :: st)
  | .bipush n, st => match decide (-128 ≤ n) && decide (n ≤ 127) with
    | true => some (.inl n :: st)
    | false => none
  | .sipush n, st => match decide (-32768 ≤ n) && decide (n ≤ 32767) with
    | true => some (.inl n :: st)
    | false => none
  | .lconst n, st => some (.inr (.inl (Int64.ofNat (n : Nat))) :: st)
  | .iadd, .inl y :: .inl x :: st => some (.inl (x + y) :: st)
  | .isub, .inl y :: .inl x :: st => some (.inl (x - y) :: st)
  | .imul, .inl y :: .inl x :: st => some (.inl (x * y) :: st)
  | .i2l, .inl x :: st => some (.inr (.inl (Int32.ofInt x).toInt64) :: st)
  | .land, .inr (.inl y) :: .inr (.inl x) :: st => some (.inr (.inl (x &&& y)) :: st)
  | .lor, .inr (.inl y) :: .inr (.inl x) :: st => some (.inr (.inl (x ||| y)) :: st)
  | .lshl, .inl y :: .inr (.inl x) :: st => some (.inr (.inl (x <<< ((Int32.ofInt y).toInt64 &&& 63))) :: st)
  | .lshr, .inl y :: .inr (.inl x) :: st => some (.inr (.inl (x >>> ((Int32.ofInt y).toInt64 &&& 63))) :: st)
  | .lushr, .inl y :: .inr (.inl x) :: st => some (.inr (.inl (x.toUInt64 >>> ((Int32.ofInt y).toInt64.toUInt64 &&& Int64.toUInt64 63)).toInt64) :: st)
  | .dup, .inl x :: st => some (.inl x :: .inl x :: st)
  | .dup, .inr (.inr q) :: st => some (.inr (.inr q) :: .inr (.inr q) :: st)
  | .pop, .inl _ :: st => some st
  | .pop, .inr (.inr _) :: st => some st
  | .dup2, .inl x :: .inr (.inr q) :: st => some (.inl x :: .inr (.inr q) :: .inl x :: .inr (.inr q) :: st)
  | _, _ => none
/-- what gives a new number: exactly which -/
def zo (i : Instr) (st : List zV) : Option (Int32 × List zV) := match i, st with
  | .iand, .inl y :: .inl x :: st => some (Int32.ofInt x &&& Int32.ofInt y, st)
  | .ior, .inl y :: .inl x :: st => some (Int32.ofInt x ||| Int32.ofInt y, st)
  | .ixor, .inl y :: .inl x :: st => some (Int32.ofInt x ^^^ Int32.ofInt y, st)
  | .ishl, .inl y :: .inl x :: st => some (Int32.ofInt x <<< (Int32.ofInt y &&& 31), st)
  | .ishr, .inl y :: .inl x :: st => some (Int32.ofInt x >>> (Int32.ofInt y &&& 31), st)
  | .iushr, .inl y :: .inl x :: st => some (((Int32.ofInt x).toUInt32 >>> ((Int32.ofInt y).toUInt32 &&& Int32.toUInt32 31)).toInt32, st)
  | .l2i, .inr (.inl x) :: st => some (x.toInt32, st)
  | .i2b, .inl x :: st => some ((Int32.ofInt x).toInt8.toInt32, st)
  | .i2c, .inl x :: st => some (((Int32.ofInt x).toUInt32 % 65536).toInt32, st)
  | .lcmp, .inr (.inl y) :: .inr (.inl x) :: st => some (lg_cmp x y, st)
  | _, _ => none
def zst1 (lv : List (Nat × zV)) (i : Nat) (v : zV) : List (Nat × zV) := (i, v) :: lv.filter (fun q => !(Nat.beq q.1 i) && !(Nat.beq (q.1 + 1) i && Nat.beq (zcat q.2) 2))
def zst2 (lv : List (Nat × zV)) (i : Nat) (v : zV) : List (Nat × zV) := (i, v) :: lv.filter (fun q => !(Nat.beq q.1 i) && (!(Nat.beq q.1 (i + 1)) && !(Nat.beq (q.1 + 1) i && Nat.beq (zcat q.2) 2)))
def zlc (nL : Nat) (i : Instr) (lv : List (Nat × zV)) (st : List zV) : Option (List (Nat × zV) × List zV) :=
  match (match i with
    | .iload_n n => some (0, (n : Nat)) | .iload n => some (0, n) | .lload_n n => some (1, (n : Nat)) | .lload n => some (1, n) | .aload_n n => some (2, (n : Nat)) | .aload n => some (2, n)
    | .istore_n n => some (3, (n : Nat)) | .istore n => some (3, n) | .lstore_n n => some (4, (n : Nat)) | .lstore n => some (4, n) | .astore_n n => some (5, (n : Nat)) | .astore n => some (5, n)
    | _ => none) with
  | some (0, n) => (match zlk n lv with | some (.inl x) => some (lv, .inl x :: st) | _ => none)
  | some (1, n) => (match zlk n lv with | some (.inr (.inl x)) => some (lv, .inr (.inl x) :: st) | _ => none)
  | some (2, n) => (match zlk n lv with | some (.inr (.inr q)) => some (lv, .inr (.inr q) :: st) | _ => none)
  | some (3, n) => (match st with | .inl x :: st => (match Nat.blt n nL with | true => some (zst1 lv n (.inl x), st) | false => none) | _ => none)
  | some (4, n) => (match st with | .inr (.inl x) :: st => (match Nat.blt (n + 1) nL with | true => some (zst2 lv n (.inr (.inl x)), st) | false => none) | _ => none)
  | some (5, n) => (match st with | .inr (.inr q) :: st => (match Nat.blt n nL with | true => some (zst1 lv n (.inr (.inr q)), st) | false => none) | _ => none)
  | some (_ + 6, _) => none
  | none => (match i with
    | .iinc n k => (match zlk n lv with | some (.inl x) => (match Nat.blt n nL with | true => some (zst1 lv n (.inl (x + k)), st) | false => none) | _ => none)
    | _ => none)
/-- a branch: what is known on either side -/
def zbr (c : ClassFile.Cond) (x y : Int) (A B : Prop) : Prop := match c with
  | .eq => (x = y → A) ∧ (¬ x = y → B)
  | .ne => (¬ x = y → A) ∧ (x = y → B)
  | .lt => (x < y → A) ∧ (y ≤ x → B)
  | .ge => (y ≤ x → A) ∧ (x < y → B)
  | .gt => (y < x → A) ∧ (x ≤ y → B)
  | .le => (x ≤ y → A) ∧ (y < x → B)
def ztg (pc : Nat) (off : Int) : Nat := ((pc : Int) + off).toNat
/-- the numbers of a switch, one by one -/
def zsw (x : Int) (pc : Nat) (k : Nat → Prop) (lo : Int) (offs : List Int) : Prop := match offs with
  | [] => True
  | o :: t => (x = lo → k (ztg pc o)) ∧ zsw x pc k (lo + 1) t
def zIn (μ : zM) (y t : Nat) : Prop := match y with
  | 1000 => zDyn μ t
  | 200 => t = 25 ∨ t = 43 ∨ t = 51
  | _ => False
/-- a cell t is of the sort y -/
def zchk (μ : zM) (y t : Nat) (X : Prop) : Prop := match Nat.ble y 108 with
  | true => (match Nat.ble 14 y && Nat.ble y 31 with
    | true => (t = y ∨ t = y + 18) ∧ X
    | false => (match Nat.beq t y with | true => X | false => False))
  | false => zIn μ y t ∧ X
