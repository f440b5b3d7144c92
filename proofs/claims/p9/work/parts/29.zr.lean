/-! ### the reference: what a method leaves as it is -/
def zsub (a b : List Nat) : Bool := a.all (fun q => b.any (fun r => Nat.beq q r))
def zfx (ws fs : List Nat) (μ μ' : zM) : Prop := (∀ j : Nat, j ≠ 66 → ws.any (fun r => Nat.beq j r) = false → μ'.1 j = μ.1 j) ∧ (∀ k : Nat, fs.any (fun r => Nat.beq k r) = false → μ'.1 66 ((k : Nat) : Int) = μ.1 66 ((k : Nat) : Int)) ∧ μ'.2 = μ.2
theorem zfx_x {ws fs : List Nat} (μ : zM) : zfx ws fs μ μ := ⟨fun _ _ _ => rfl, fun _ _ => rfl, rfl⟩
theorem zsub_f {a b : List Nat} (h : zsub a b = true) {k : Nat} (hk : b.any (fun r => Nat.beq k r) = false) : a.any (fun r => Nat.beq k r) = false := by
  cases hq : a.any (fun r => Nat.beq k r)
  · rfl
  · obtain ⟨r, h1, h2⟩ := List.any_eq_true.mp hq
    have h3 := List.all_eq_true.mp h r h1
    rw [← Nat.eq_of_beq_eq_true h2, hk] at h3
    cases h3
theorem zfx_t {ws fs ws' fs' : List Nat} {a b c : zM} (h1 : zfx ws fs a b) (h2 : zfx ws' fs' b c) (e1 : zsub ws' ws = true) (e2 : zsub fs' fs = true) : zfx ws fs a c :=
  ⟨fun j hj hw => (h2.1 j hj (zsub_f e1 hw)).trans (h1.1 j hj hw), fun k hk => (h2.2.1 k (zsub_f e2 hk)).trans (h1.2.1 k hk), h2.2.2.trans h1.2.2⟩
theorem zfx_f {ws fs : List Nat} {a b c : zM} {k : Nat} {x : Int} (h1 : zfx ws fs a b) (e : c = zu b 66 (k : Int) x) (hk : fs.any (fun r => Nat.beq k r) = true) : zfx ws fs a c := by
  subst e
  refine ⟨fun j hj hw => ?_, fun q hq => ?_, h1.2.2⟩
  · rw [zu_ne hj]; exact h1.1 j hj hw
  · rw [zu_nk (fun e => ?_)]
    · exact h1.2.1 q hq
    · have : q = k := by omega
      rw [this, hk] at hq
      cases hq
theorem zfx_r {ws fs : List Nat} {a b c : zM} {t : Nat} {k x : Int} (h1 : zfx ws fs a b) (e : c = zu b t k x) (hk : ws.any (fun r => Nat.beq t r) = true) (ht : t ≠ 66) : zfx ws fs a c := by
  subst e
  refine ⟨fun j hj hw => ?_, fun q hq => ?_, h1.2.2⟩
  · rw [zu_ne (fun e => ?_)]
    · exact h1.1 j hj hw
    · rw [e, hk] at hw
      cases hw
  · rw [zu_ne (Ne.symm ht)]
    exact h1.2.1 q hq
theorem zi2b (x : Int32) : -128 ≤ x.toInt8.toInt32.toInt ∧ x.toInt8.toInt32.toInt ≤ 127 := by
  rw [Int8.toInt_toInt32]
  have h1 := x.toInt8.le_toInt
  have h2 := x.toInt8.toInt_lt
  omega
def zlet (c : Int) : Prop := (97 ≤ c ∧ c ≤ 122) ∨ (65 ≤ c ∧ c ≤ 90)
