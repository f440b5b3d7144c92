/-! ### the reference between calls -/
def zRI (m : zM) (K : Int) : Prop := zQS m (m.1 66 ((20 : Nat) : Int)) (m.1 66 ((21 : Nat) : Int)) (m.1 66 ((23 : Nat) : Int)) K ∧ (∀ x : Int, 0 ≤ x → x < 20000 → m.1 105 x ≤ m.1 66 ((68 : Nat) : Int)) ∧ 0 ≤ m.1 66 ((68 : Nat) : Int) ∧ m.1 66 ((68 : Nat) : Int) ≤ K ∧ ∀ p : Int, 0 ≤ p → p < m.1 66 ((21 : Nat) : Int) → m.1 84 p ≤ 2
theorem zRI_of {μ m : zM} {K K' : Int} (h : zRI μ K) (hq : zQS m (μ.1 66 ((20 : Nat) : Int)) (μ.1 66 ((21 : Nat) : Int)) (μ.1 66 ((23 : Nat) : Int)) K') (hk : K ≤ K') (h84 : m.1 84 = μ.1 84) (h105 : m.1 105 = μ.1 105) (f20 : m.1 66 ((20 : Nat) : Int) = μ.1 66 ((20 : Nat) : Int)) (f21 : m.1 66 ((21 : Nat) : Int) = μ.1 66 ((21 : Nat) : Int)) (f23 : m.1 66 ((23 : Nat) : Int) = μ.1 66 ((23 : Nat) : Int)) (f68 : m.1 66 ((68 : Nat) : Int) = μ.1 66 ((68 : Nat) : Int)) : zRI m K' := by
  unfold zRI
  rw [f20, f21, f23, f68, h105, h84]
  exact ⟨hq, h.2.1, h.2.2.1, Int.le_trans h.2.2.2.1 hk, h.2.2.2.2⟩
theorem zRI_fr {μ m : zM} {K : Int} (h : zRI μ K) (hc : ∀ j : Nat, 67 ≤ j → j ≤ 73 → m.1 j = μ.1 j) (hf : ∀ j : Nat, 76 ≤ j → j ≤ 84 → m.1 j = μ.1 j) (hv : ∀ j : Nat, 88 ≤ j → j ≤ 90 → m.1 j = μ.1 j) (hs : m.1 98 = μ.1 98) (h105 : m.1 105 = μ.1 105) (f : ∀ k : Nat, k = 8 ∨ k = 20 ∨ k = 21 ∨ k = 23 ∨ k = 45 ∨ k = 48 ∨ k = 60 ∨ k = 68 → m.1 66 ((k : Nat) : Int) = μ.1 66 ((k : Nat) : Int)) : zRI m K :=
  zRI_of h (zQS_fr h.1 hc hf hv hs (f 8 (by decide)) (f 45 (by decide)) (f 48 (by decide)) (f 60 (by decide))) (Int.le_refl _) (hf 84 (by omega) (by omega)) h105 (f 20 (by decide)) (f 21 (by decide)) (f 23 (by decide)) (f 68 (by decide))
theorem zRI_K {m : zM} {K K' : Int} (h : zRI m K) (hk : K ≤ K') (hb : K' ≤ 1999990000) : zRI m K' := ⟨zQS_K h.1 hk hb, h.2.1, h.2.2.1, Int.le_trans h.2.2.2.1 hk, h.2.2.2.2⟩
theorem zRI_1 {μ m : zM} {K x : Int} (h : zRI μ K) (e : m = zu μ 66 ((54 : Nat) : Int) x) : zRI m K :=
  zRI_fr h (fun j a b => by rw [e, zu_ne (by omega)]) (fun j a b => by rw [e, zu_ne (by omega)]) (fun j a b => by rw [e, zu_ne (by omega)]) (by rw [e, zu_ne (by decide)]) (by rw [e, zu_ne (by decide)]) (fun k hk => by rw [e]; exact zu_nk (by omega))
/-- what a call leaves alone -/
theorem zRI_z {ws fs : List Nat} {μ m : zM} {K : Int} (h : zRI μ K) (z : zfx ws fs μ m) (hw : ws.all (fun j => (Nat.blt j 67 || Nat.blt 73 j) && ((Nat.blt j 76 || Nat.blt 84 j) && ((Nat.blt j 88 || Nat.blt 90 j) && (!(Nat.beq j 98) && !(Nat.beq j 105))))) = true) (hf : fs.all (fun k => !(Nat.beq k 8 || (Nat.beq k 20 || (Nat.beq k 21 || (Nat.beq k 23 || (Nat.beq k 45 || (Nat.beq k 48 || (Nat.beq k 60 || Nat.beq k 68)))))))) = true) : zRI m K := by
  have hW : ∀ j : Nat, j ≠ 66 → ((67 ≤ j ∧ j ≤ 73) ∨ (76 ≤ j ∧ j ≤ 84) ∨ (88 ≤ j ∧ j ≤ 90) ∨ j = 98 ∨ j = 105) → m.1 j = μ.1 j := fun j h66 hj => z.1 j h66 (by
    refine zanyF (fun r hr e => ?_)
    have := List.all_eq_true.mp hw r hr
    simp only [Bool.and_eq_true, Bool.or_eq_true, Bool.not_eq_true', Nat.blt_eq] at this
    obtain ⟨b1, b2, b3, b4, b5⟩ := this
    subst e
    rcases hj with h | h | h | h | h
    · omega
    · omega
    · omega
    · subst h; cases b4
    · subst h; cases b5)
  refine zRI_fr h (fun j a b => hW j (by omega) (by omega)) (fun j a b => hW j (by omega) (by omega)) (fun j a b => hW j (by omega) (by omega)) (hW 98 (by decide) (by decide)) (hW 105 (by decide) (by decide)) (fun k hk => z.2.1 k (by
    refine zanyF (fun r hr e => ?_)
    have := List.all_eq_true.mp hf r hr
    subst e
    rcases hk with h | h | h | h | h | h | h | h <;> subst h <;> cases this))
