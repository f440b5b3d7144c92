/-! ### nodes: words -/
def zwi (x : Int) : Int := (Int32.ofInt x).toInt
def zsh (h0 : Int) (p : Int → Int) : Nat → Int
  | 0 => h0
  | i + 1 => zwi (zwi (zsh h0 p i * 131) + p ((i : Nat) : Int))
/-- the slot of a node: by its kind, its number, its parts -/
def zsl (k v n : Int) (p : Int → Int) : Int := ((Int32.ofInt (zwi (zsh (k * 31 + v) p n.toNat * (-1640531535)))).toUInt32 >>> ((Int32.ofInt 21).toUInt32 &&& Int32.toUInt32 31)).toInt32.toInt
theorem zus (x : UInt32) : 0 ≤ (x >>> ((Int32.ofInt 21).toUInt32 &&& Int32.toUInt32 31)).toInt32.toInt ∧ (x >>> ((Int32.ofInt 21).toUInt32 &&& Int32.toUInt32 31)).toInt32.toInt ≤ 2047 := by
  rw [show ((Int32.ofInt 21).toUInt32 &&& Int32.toUInt32 31) = (21 : UInt32) by decide]
  have h1 : (x >>> (21 : UInt32)).toBitVec.toNat ≤ 2047 := by
    rw [UInt32.toNat_toBitVec, UInt32.toNat_shiftRight]
    have := x.toNat_lt
    simp only [Nat.shiftRight_eq_div_pow]
    show x.toNat / 2 ^ 21 ≤ 2047
    omega
  have h2 : (x >>> (21 : UInt32)).toInt32.toInt = (x >>> (21 : UInt32)).toBitVec.toInt := rfl
  rw [h2, BitVec.toInt_eq_toNat_of_lt (by omega)]
  omega
def zlike (μ : zM) (x k v n : Int) (p : Int → Int) : Prop := μ.1 67 x = k ∧ μ.1 68 x = v ∧ μ.1 69 x = n ∧ ∀ i : Int, 0 ≤ i → i < n → μ.1 70 (4 * x + i) = p i
