/-! ### a type is written -/
def zws (m : zM) : Nat → Nat
  | 0 => 0
  | j + 1 => zws m j + (5 - m.1 99 ((j : Nat) : Int)).toNat * 6 ^ (m.1 106 ((j : Nat) : Int)).toNat
theorem zws_eq {m m' : zM} : ∀ {n : Nat}, (∀ j : Int, 0 ≤ j → j < (n : Int) → m'.1 99 j = m.1 99 j ∧ m'.1 106 j = m.1 106 j) → zws m' n = zws m n
  | 0, _ => rfl
  | n + 1, h => by
    unfold zws
    rw [zws_eq (n := n) (fun j a b => h j a (by omega)), (h ((n : Nat) : Int) (by omega) (by omega)).1, (h ((n : Nat) : Int) (by omega) (by omega)).2]
theorem zws_s {m : zM} {n : Int} (h : 1 ≤ n) : zws m n.toNat = zws m (n - 1).toNat + (5 - m.1 99 (n - 1)).toNat * 6 ^ (m.1 106 (n - 1)).toNat := by
  rw [show n.toNat = (n - 1).toNat + 1 by omega]
  show zws m (n - 1).toNat + (5 - m.1 99 (((n - 1).toNat : Nat) : Int)).toNat * 6 ^ (m.1 106 (((n - 1).toNat : Nat) : Int)).toNat = _
  rw [Int.toNat_of_nonneg (by omega)]
def zWi (μ m : zM) (t n : Int) : Prop := ∀ j : Int, 0 ≤ j → j < n → (0 ≤ m.1 106 j ∧ m.1 106 j < zTop μ ∧ m.1 106 j + j ≤ t) ∧ 0 ≤ m.1 99 j ∧ m.1 99 j ≤ μ.1 69 (m.1 106 j)
theorem zpow6 (n : Nat) : 0 < 6 ^ n := Nat.pow_pos (by decide)
theorem zW_pop {μ m0 m : zM} {t n : Int} (h : zWi μ m0 t n) (hn : 1 ≤ n) (h4 : μ.1 69 (m0.1 106 (n - 1)) ≤ 4) (f106 : m.1 106 = m0.1 106) (f99 : m.1 99 = m0.1 99) : zWi μ m t (n + -1) ∧ zws m (n + -1).toNat < zws m0 n.toNat := by
  refine ⟨fun j a b => by rw [f106, f99]; exact h j a (by omega), ?_⟩
  rw [zws_s hn, zws_eq (m := m0) (m' := m) (fun j a b => by rw [f106, f99]; exact ⟨rfl, rfl⟩), show n + -1 = n - 1 by omega]
  have := (h (n - 1) (by omega) (by omega)).2
  have h1 : 1 ≤ (5 - m0.1 99 (n - 1)).toNat := by omega
  have h2 := zpow6 (m0.1 106 (n - 1)).toNat
  have h3 : 1 * 1 ≤ (5 - m0.1 99 (n - 1)).toNat * 6 ^ (m0.1 106 (n - 1)).toNat := Nat.mul_le_mul h1 h2
  omega
theorem zW_push {μ m0 m m1 m2 m3 : zM} {t n x i y k1 : Int} (nd : ∀ x : Int, 0 ≤ x → x < zTop μ → zNd μ x) (h : zWi μ m0 t n) (hn : 1 ≤ n) (hx : x = m0.1 106 (n - 1)) (hi : i = m0.1 99 (n - 1)) (hc : i < μ.1 69 x) (hy : y = μ.1 70 (4 * x + i)) (f106 : m.1 106 = m0.1 106) (f99 : m.1 99 = m0.1 99) (e1 : m1 = zu m 99 (n - 1) k1) (hk1 : k1 = i + 1) (e2 : m2 = zu m1 106 n y) (e3 : m3 = zu m2 99 n 0) : zWi μ m3 t (n + 1) ∧ zws m3 (n + 1).toNat < zws m0 n.toNat ∧ n ≤ t := by
  have hl := h (n - 1) (by omega) (by omega)
  rw [← hx, ← hi] at hl
  have N := nd x hl.1.1 hl.1.2.1
  have h4 := N.1.2
  have P := N.2.1 i hl.2.1 hc
  rw [← hy] at P
  have c106 : ∀ q : Int, m3.1 106 q = if q = n then y else m0.1 106 q := fun q => by
    rw [e3, zu_ne (by decide), e2]
    by_cases hq : q = n
    · rw [if_pos hq, hq, zu_at]
    · rw [if_neg hq, zu_nk hq, e1, zu_ne (by decide), f106]
  have c99 : ∀ q : Int, m3.1 99 q = if q = n then 0 else if q = n - 1 then i + 1 else m0.1 99 q := fun q => by
    rw [e3]
    by_cases hq : q = n
    · rw [if_pos hq, hq, zu_at]
    · rw [if_neg hq, zu_nk hq, e2, zu_ne (by decide), e1]
      by_cases hq2 : q = n - 1
      · rw [if_pos hq2, hq2, zu_at, hk1]
      · rw [if_neg hq2, zu_nk hq2, f99]
  refine ⟨fun j a b => ?_, ?_, by omega⟩
  · rw [c106, c99]
    by_cases hq : j = n
    · rw [if_pos hq, if_pos hq]
      have := (nd y P.1 (by omega)).1.1
      exact ⟨⟨P.1, by omega, by omega⟩, by omega, this⟩
    · rw [if_neg hq, if_neg hq]
      by_cases hq2 : j = n - 1
      · rw [if_pos hq2, hq2, ← hx]
        exact ⟨⟨hl.1.1, hl.1.2.1, hl.1.2.2⟩, by omega, by omega⟩
      · rw [if_neg hq2]
        exact h j a (by omega)
  · rw [zws_s (m := m3) (n := n + 1) (by omega), show n + 1 - 1 = n by omega, zws_s (m := m3) hn, zws_s (m := m0) hn, zws_eq (m := m0) (m' := m3) (n := (n - 1).toNat) (fun j a b => by
      rw [c106, c99, if_neg (by omega), if_neg (by omega), if_neg (by omega)]; exact ⟨rfl, rfl⟩), c106, c106, c99, c99, if_pos rfl, if_pos rfl, if_neg (show ¬ n - 1 = n by omega), if_neg (show ¬ n - 1 = n by omega), if_pos rfl, ← hx, ← hi]
    have h6 : 6 ^ (y.toNat + 1) ≤ 6 ^ x.toNat := Nat.pow_le_pow_right (by decide) (by omega)
    rw [Nat.pow_succ] at h6
    have e5 : (5 - i).toNat = (5 - (i + 1)).toNat + 1 := by omega
    rw [e5, Nat.add_mul, Nat.one_mul, show (5 - (0 : Int)).toNat = 5 from rfl]
    have h7 := zpow6 y.toNat
    omega
/-! ### a question's state between calls -/
theorem zQS_K {m : zM} {C Pn tt K K' : Int} (h : zQS m C Pn tt K) (hk : K ≤ K') (hb : K' ≤ 1999990000) : zQS m C Pn tt K' := by
  obtain ⟨h1, h2, h3, h4, h5, h6⟩ := h
  exact ⟨h1, h2, h3, h4, ⟨h5.1, by omega⟩, hb⟩
/-- nodes behind the old ones are forgotten -/
theorem zQI_back {μ m : zM} {C Pn tt : Int} (h : zQI μ C Pn tt) (hn : zND m 0) (ht : zTop m = zTop μ) (ho : zOld μ m (zTop μ)) (hf : ∀ j : Nat, 76 ≤ j → j ≤ 84 → m.1 j = μ.1 j) (hv : ∀ j : Nat, 88 ≤ j → j ≤ 90 → m.1 j = μ.1 j) (hs : m.1 98 = μ.1 98) (f45 : m.1 66 ((45 : Nat) : Int) = μ.1 66 ((45 : Nat) : Int)) (f60 : m.1 66 ((60 : Nat) : Int) = μ.1 66 ((60 : Nat) : Int)) : zQI m C Pn tt := by
  obtain ⟨h1, h2, h3, h4, h5, h6, h7⟩ := h
  refine ⟨hn, zTb_old h2 ho h3 h1.2.1 hf, by omega, ?_, ?_, ?_, ?_⟩
  · rw [hf 77 (by omega) (by omega)]
    exact fun x a b => zW1_old ho a (by omega) (h1.2.1 x a (by omega)) (h4 x a b)
  · rw [ht, f45, hf 77 (by omega) (by omega)]
    exact fun x a b => zW1_old ho a b (h1.2.1 x a b) (h5 x a b)
  · rw [f45]; exact zNf_old h6 ho (by omega) (hv 88 (by omega) (by omega)) (hv 89 (by omega) (by omega)) (hv 90 (by omega) (by omega))
  · rw [hs, f60]; exact h7
theorem zQS_back {μ m : zM} {C Pn tt K : Int} (h : zQS μ C Pn tt K) (hn : zND m 0) (ht : zTop m = zTop μ) (ho : zOld μ m (zTop μ)) (hf : ∀ j : Nat, 76 ≤ j → j ≤ 84 → m.1 j = μ.1 j) (hv : ∀ j : Nat, 88 ≤ j → j ≤ 90 → m.1 j = μ.1 j) (hs : m.1 98 = μ.1 98) (f45 : m.1 66 ((45 : Nat) : Int) = μ.1 66 ((45 : Nat) : Int)) (f48 : m.1 66 ((48 : Nat) : Int) = μ.1 66 ((48 : Nat) : Int)) (f60 : m.1 66 ((60 : Nat) : Int) = μ.1 66 ((60 : Nat) : Int)) : zQS m C Pn tt K := by
  refine ⟨zQI_back h.1 hn ht ho hf hv hs f45 f60, ?_⟩
  rw [f45, f48, f60, ht]
  exact h.2
/-- the table alone -/
theorem zQ_tab {μ m : zM} {C Pn tt n : Int} (h : zQI μ C Pn tt) (hn : zND m 0) (ht : zTop m = tt) (ho : zOld μ m n) (hn2 : tt ≤ n) (hf : ∀ j : Nat, 76 ≤ j → j ≤ 84 → m.1 j = μ.1 j) : zTb m C Pn tt ∧ zWf m 0 (zTop m) C Pn 0 (m.1 77) := by
  obtain ⟨h1, h2, h3, h4, h5, h6, h7⟩ := h
  have ho' : zOld μ m tt := fun x a b => ho x a (by omega)
  refine ⟨zTb_old h2 ho' (Int.le_refl _) (fun x a b => h1.2.1 x a (by omega)) hf, ?_⟩
  rw [ht, hf 77 (by omega) (by omega)]
  exact fun x a b => zW1_old ho' a b (h1.2.1 x a (by omega)) (h4 x a b)
theorem zQ_read {m m' : zM} {C Pn tt K : Int} (hT : zTb m C Pn tt) (hW : zWf m 0 (zTop m) C Pn 0 (m.1 77)) (hn : zND m 0) (ht : zTop m = tt) (hE : zTE m m' 0 C Pn 0 (m.1 77)) (hf : ∀ j : Nat, 76 ≤ j → j ≤ 84 → m'.1 j = m.1 j) (hN : zTop m' - tt ≤ 300) (f45 : m'.1 66 ((45 : Nat) : Int) = 0) (f48 : m'.1 66 ((48 : Nat) : Int) = 0) (h60 : 0 ≤ m'.1 66 ((60 : Nat) : Int) ∧ m'.1 66 ((60 : Nat) : Int) ≤ K) (hK : K ≤ 1999990000) (hs : ∀ x : Int, 0 ≤ x → x < 20000 → m'.1 98 x ≤ m'.1 66 ((60 : Nat) : Int)) : zQS m' C Pn tt K := by
  obtain ⟨⟨e1, e2, e3, e4, e5⟩, e6, e7⟩ := hE
  have h77 := hf 77 (by omega) (by omega)
  refine ⟨⟨e1, zTb_old hT e3 (by omega) hn.2.1 hf, by omega, ?_, ?_, ?_, hs⟩, by omega, by omega, by omega, ⟨h60.1, by omega⟩, hK⟩
  · rw [h77]
    exact fun x a b => zW1_old e3 a (by omega) (hn.2.1 x a (by omega)) (hW x a (by omega))
  · rw [h77, f45]; exact e2
  · rw [f45]; exact fun v a b => by omega
theorem zar0 {a : Int} (h : 1 ≤ a) : 0 ≤ a := by omega
theorem zar1 {a : Int} (h : a ≤ 12982) : a - 0 ≤ 19699 ∧ (0 : Int) ≤ 0 ∧ (0 : Int) ≤ 300 := by omega
theorem zar2 {a : Int} (h : a ≤ 6082) : a - 0 ≤ 19699 ∧ (0 : Int) ≤ 0 ∧ (0 : Int) ≤ 300 := by omega
