/-! ### questions in one another -/
def zFq (m : zM) (q : Int) : Prop := zTy m (m.1 91 q) ∧ zTy m (m.1 92 q) ∧ (m.1 93 q = 2 → (m.1 67 (m.1 91 q) = 1 ∨ m.1 67 (m.1 91 q) = 2) ∧ 0 ≤ m.1 68 (m.1 91 q) ∧ 1 ≤ m.1 94 q ∧ m.1 94 q ≤ zbn m (m.1 91 q)) ∧ (m.1 93 q = 3 → zCt m (m.1 95 q) ∧ m.1 67 (m.1 92 q) = 0 ∧ m.1 68 (m.1 95 q) = m.1 68 (m.1 92 q) ∧ 0 ≤ m.1 94 q)
def zFs (m : zM) (D : Int) : Prop := ∀ q : Int, 0 ≤ q → q < D → zFq m q ∧ 1 ≤ m.1 93 q
def zFw (m : zM) (q : Int) : Prop := zTy m (m.1 91 q) ∧ zTy m (m.1 92 q)
theorem zbn_x {μ m : zM} {C Pn tt x : Int} (hI : zQI μ C Pn tt) (hx : zQx μ m) (h84 : m.1 84 = μ.1 84) (h0 : 0 ≤ x ∧ x < zTop μ) (hv : 0 ≤ μ.1 68 x) : zbn m x = zbn μ x := by
  obtain ⟨o1, o2, o3, o4, o5⟩ := hx.1 x h0.1 h0.2
  unfold zbn
  rw [o1, o2, h84]
  by_cases hk : μ.1 67 x = 2
  · have hF := ((hI.2.2.2.2.1 x h0.1 h0.2).2.2.2.1 hk).1
    rw [(hx.2.2.2.2.2 (μ.1 68 x) hv hF).1]
  · rw [if_neg hk, if_neg hk]
theorem zFq_x {μ m : zM} {C Pn tt q : Int} (hI : zQI μ C Pn tt) (h : zFq μ q) (hx : zQx μ m) (h84 : m.1 84 = μ.1 84) (hq : ∀ j : Nat, 91 ≤ j → j ≤ 95 → m.1 j q = μ.1 j q) : zFq m q := by
  obtain ⟨h1, h2, h3, h4⟩ := h
  unfold zFq
  rw [hq 91 (by omega) (by omega), hq 92 (by omega) (by omega), hq 93 (by omega) (by omega), hq 94 (by omega) (by omega), hq 95 (by omega) (by omega)]
  refine ⟨zTy_old h1 hx.1 hx.2.1, zTy_old h2 hx.1 hx.2.1, fun e => ?_, fun e => ?_⟩
  · obtain ⟨a1, a2, a3, a4⟩ := h3 e
    rw [zbn_x hI hx h84 h1.1 a2, (hx.1 _ h1.1.1 h1.1.2).1, (hx.1 _ h1.1.1 h1.1.2).2.1]
    exact ⟨a1, a2, a3, a4⟩
  · obtain ⟨a1, a2, a3, a4⟩ := h4 e
    rw [(hx.1 _ h2.1.1 h2.1.2).1, (hx.1 _ h2.1.1 h2.1.2).2.1, (hx.1 _ a1.1.1 a1.1.2).2.1]
    exact ⟨zCt_old a1 hI.1.2.1 hx.1 hx.2.1, a2, a3, a4⟩
theorem zFs_x {μ m : zM} {C Pn tt D : Int} (hI : zQI μ C Pn tt) (h : zFs μ D) (hx : zQx μ m) (h84 : m.1 84 = μ.1 84) (hq : ∀ q : Int, 0 ≤ q → q < D → ∀ j : Nat, 91 ≤ j → j ≤ 95 → m.1 j q = μ.1 j q) : zFs m D := fun q a b =>
  ⟨zFq_x hI (h q a b).1 hx h84 (hq q a b), by rw [hq q a b 93 (by omega) (by omega)]; exact (h q a b).2⟩
theorem zFs_down {m : zM} {D E : Int} (h : zFs m D) (he : E ≤ D) : zFs m E := fun q a b => h q a (by omega)
theorem zFs_up {m : zM} {D : Int} (h : zFs m D) (h1 : zFq m D) (h2 : 1 ≤ m.1 93 D) : zFs m (D + 1) := fun q a b => by
  by_cases e : q = D
  · rw [e]; exact ⟨h1, h2⟩
  · exact h q a (by omega)
theorem zQx_same {μ m : zM} (hc : ∀ j : Nat, 67 ≤ j → j ≤ 71 → m.1 j = μ.1 j) (hv : ∀ j : Nat, 88 ≤ j → j ≤ 90 → m.1 j = μ.1 j) (f8 : m.1 66 ((8 : Nat) : Int) = μ.1 66 ((8 : Nat) : Int)) (f45 : m.1 66 ((45 : Nat) : Int) = μ.1 66 ((45 : Nat) : Int)) (f48 : m.1 66 ((48 : Nat) : Int) = μ.1 66 ((48 : Nat) : Int)) (f60 : m.1 66 ((60 : Nat) : Int) = μ.1 66 ((60 : Nat) : Int)) : zQx μ m := zQx_fr (zQx_r μ) hc hv f8 f45 f48 f60
/-- what a step at depth d leaves -/
def zAp (μ m : zM) (d v : Int) : Prop := (v = 2 → m.1 66 ((74 : Nat) : Int) = d + 2 ∧ m.1 66 ((46 : Nat) : Int) = μ.1 66 ((46 : Nat) : Int) + 1 ∧ zFs m (d + 1) ∧ zFw m (d + 1)) ∧ (v = 0 ∨ v = 1 → m.1 66 ((74 : Nat) : Int) = d + 1 ∧ m.1 66 ((46 : Nat) : Int) = μ.1 66 ((46 : Nat) : Int) ∧ zFs m d)
/-- one more question is asked -/
theorem zAp_ask {μ m m' : zM} {C Pn tt d D s t x : Int} (hI : zQI m C Pn tt) (h : zFs m (d + 1)) (hD : m.1 66 ((74 : Nat) : Int) = D) (hd : D = d + 1) (h46 : m.1 66 ((46 : Nat) : Int) = μ.1 66 ((46 : Nat) : Int)) (hs : zTy m s) (ht : zTy m t) (hf : ∀ j : Nat, j ≠ 66 → j ≠ 91 → j ≠ 92 → j ≠ 93 → m'.1 j = m.1 j) (f8 : m'.1 66 ((8 : Nat) : Int) = m.1 66 ((8 : Nat) : Int)) (f45 : m'.1 66 ((45 : Nat) : Int) = m.1 66 ((45 : Nat) : Int)) (f48 : m'.1 66 ((48 : Nat) : Int) = m.1 66 ((48 : Nat) : Int)) (f60 : m'.1 66 ((60 : Nat) : Int) = m.1 66 ((60 : Nat) : Int))
    (p1 : (x = 0 ∧ m'.1 66 ((74 : Nat) : Int) = m.1 66 ((74 : Nat) : Int) ∧ m'.1 66 ((46 : Nat) : Int) = m.1 66 ((46 : Nat) : Int)) ∨ (x = 1 ∧ m'.1 66 ((74 : Nat) : Int) = m.1 66 ((74 : Nat) : Int) + 1 ∧ m'.1 66 ((46 : Nat) : Int) = m.1 66 ((46 : Nat) : Int) + 1))
    (p2 : ∀ q : Int, q ≠ m.1 66 ((74 : Nat) : Int) → m'.1 91 q = m.1 91 q ∧ m'.1 92 q = m.1 92 q ∧ m'.1 93 q = m.1 93 q) (p3 : x = 1 → m'.1 91 (m.1 66 ((74 : Nat) : Int)) = s ∧ m'.1 92 (m.1 66 ((74 : Nat) : Int)) = t ∧ m'.1 93 (m.1 66 ((74 : Nat) : Int)) = 0) : zQx m m' ∧ (x = 1 → zAp μ m' d 2) := by
  have X := zQx_same (m := m') (μ := m) (fun j a b => hf j (by omega) (by omega) (by omega) (by omega)) (fun j a b => hf j (by omega) (by omega) (by omega) (by omega)) f8 f45 f48 f60
  refine ⟨X, fun hx => ⟨fun _ => ⟨by omega, by omega, zFs_x hI h X (hf 84 (by decide) (by decide) (by decide) (by decide)) (fun q a b j c e => ?_), ?_⟩, fun h => by omega⟩⟩
  · have := p2 q (by omega)
    rcases (show j = 91 ∨ j = 92 ∨ j = 93 ∨ (j ≠ 91 ∧ j ≠ 92 ∧ j ≠ 93) by omega) with rfl | rfl | rfl | e2
    · exact this.1
    · exact this.2.1
    · exact this.2.2
    · rw [hf j (by omega) e2.1 e2.2.1 e2.2.2]
  · have := p3 hx
    rw [hD, hd] at this
    unfold zFw
    rw [this.1, this.2.1]
    exact ⟨zTy_old hs X.1 X.2.1, zTy_old ht X.1 X.2.1⟩
/-- a bound of a variable is a type -/
theorem zbo_ty {m : zM} {C Pn tt x i : Int} (hI : zQI m C Pn tt) (h : zTy m x) (hk : m.1 67 x = 1 ∨ m.1 67 x = 2) (hv : 0 ≤ m.1 68 x) (hi : 0 ≤ i ∧ i < zbn m x) : zTy m (zbo m x i) := by
  have hw := hI.2.2.2.2.1 x h.1.1 h.1.2
  have hA := (zQI_any hI).1
  unfold zbo
  unfold zbn at hi
  by_cases hk2 : m.1 67 x = 2
  · rw [if_pos hk2] at hi ⊢
    split
    · exact hA
    · rename_i hz
      rw [if_neg hz] at hi
      exact (hI.2.2.2.2.2.1 _ hv (hw.2.2.2.1 hk2).1).2.1 i hi.1 hi.2
  · rw [if_neg hk2] at hi ⊢
    split
    · exact hA
    · rename_i hz
      rw [if_neg hz] at hi
      have T := hI.2.1.2.2.2.1 (m.1 68 x) i hv (hw.2.2.1 (by omega)).1 hi.1 hi.2
      have := hI.2.2.1
      exact ⟨⟨T.1.1.1, by have := T.1.1.2; omega⟩, by omega⟩
theorem zAp_01 {μ m : zM} {d v : Int} (hv : v = 0 ∨ v = 1) (h1 : m.1 66 ((74 : Nat) : Int) = d + 1) (h2 : m.1 66 ((46 : Nat) : Int) = μ.1 66 ((46 : Nat) : Int)) (h3 : zFs m d) : zAp μ m d v := ⟨fun h => by omega, fun _ => ⟨h1, h2, h3⟩⟩
theorem zAp_3 {μ m : zM} {d : Int} : zAp μ m d 3 := ⟨fun h => by omega, fun h => by omega⟩
theorem zAp_l {μ m m' : zM} {d v : Int} (h : zAp m m' d v) (h46 : m.1 66 ((46 : Nat) : Int) = μ.1 66 ((46 : Nat) : Int)) : zAp μ m' d v := by
  unfold zAp at h ⊢
  rw [← h46]
  exact h
/-- a write at depth d among what is known of the questions -/
theorem zP_1 {μ m : zM} {C Pn tt K d k x : Int} {j : Nat} (hS : zQS μ C Pn tt K) (h3 : zFs μ d) (e : m = zu μ j k x) (hk : k = d) (hj : j = 93 ∨ j = 94 ∨ j = 95) : zQS m C Pn tt K ∧ zFs m d ∧ zQx μ m ∧ m.1 66 = μ.1 66 ∧ ∀ i : Nat, i ≠ j → m.1 i = μ.1 i := by
  have c : ∀ i : Nat, i ≠ j → m.1 i = μ.1 i := fun i hi => by rw [e, zu_ne hi]
  have c66 := c 66 (by omega)
  have X : zQx μ m := zQx_same (fun i a b => c i (by omega)) (fun i a b => c i (by omega)) (by rw [c66]) (by rw [c66]) (by rw [c66]) (by rw [c66])
  refine ⟨zQS_fr hS (fun i a b => c i (by omega)) (fun i a b => c i (by omega)) (fun i a b => c i (by omega)) (c 98 (by omega)) (by rw [c66]) (by rw [c66]) (by rw [c66]) (by rw [c66]), zFs_x hS.1 h3 X (c 84 (by omega)) (fun q a b i i0 i1 => ?_), X, c66, c⟩
  by_cases h : i = j
  · rw [h, e, zu_nk (by omega)]
  · rw [c i h]
theorem zQS_ask {m m' : zM} {C Pn tt K : Int} (h : zQS m C Pn tt K) (hf : ∀ j : Nat, j ≠ 66 → j ≠ 91 → j ≠ 92 → j ≠ 93 → m'.1 j = m.1 j) (f8 : m'.1 66 ((8 : Nat) : Int) = m.1 66 ((8 : Nat) : Int)) (f45 : m'.1 66 ((45 : Nat) : Int) = m.1 66 ((45 : Nat) : Int)) (f48 : m'.1 66 ((48 : Nat) : Int) = m.1 66 ((48 : Nat) : Int)) (f60 : m'.1 66 ((60 : Nat) : Int) = m.1 66 ((60 : Nat) : Int)) : zQS m' C Pn tt K :=
  zQS_fr h (fun j a b => hf j (by omega) (by omega) (by omega) (by omega)) (fun j a b => hf j (by omega) (by omega) (by omega) (by omega)) (fun j a b => hf j (by omega) (by omega) (by omega) (by omega)) (hf 98 (by decide) (by decide) (by decide) (by decide)) f8 f45 f48 f60
/-- types of one class have the same many arguments -/
theorem zQI_cnt {m : zM} {C Pn tt x y : Int} (h : zQI m C Pn tt) (hx : 0 ≤ x ∧ x < zTop m) (hy : 0 ≤ y ∧ y < zTop m) (kx : m.1 67 x = 0) (ky : m.1 67 y = 0) (hv : m.1 68 x = m.1 68 y) : m.1 69 x = m.1 69 y := by
  have a := ((h.2.2.2.2.1 x hx.1 hx.2).2.1 kx).2
  have b := ((h.2.2.2.2.1 y hy.1 hy.2).2.1 ky).2
  rw [a, b, hv]
theorem zTy_arg {m : zM} {C Pn tt w i a : Int} (h : zQI m C Pn tt) (hw : zCt m w) (hi : 0 ≤ i ∧ i < m.1 69 w) (ha : a = m.1 70 (4 * w + i)) : zTy m a := by
  have p := (h.1.2.1 w hw.1.1 hw.1.2).2.1 i hi.1 hi.2
  rw [ha]
  have := hw.1.2
  exact ⟨⟨p.1, by omega⟩, hw.2.2 i hi.1 hi.2⟩
theorem zbn_same {m m' : zM} {x : Int} (h : ∀ j : Nat, 67 ≤ j → j ≤ 90 → m'.1 j = m.1 j) : zbn m' x = zbn m x := by
  unfold zbn
  rw [h 67 (by omega) (by omega), h 68 (by omega) (by omega), h 84 (by omega) (by omega), h 89 (by omega) (by omega)]
theorem zP_ix {μ m : zM} {C Pn tt K d : Int} (hS : zQS μ C Pn tt K) (h3 : zFs μ d) (h4 : zFq μ d) (h5 : μ.1 93 d = 3) (hd : 0 ≤ d) (hf : ∀ j : Nat, j ≠ 94 → m.1 j = μ.1 j) (hi : ∀ q : Int, q ≠ d → m.1 94 q = μ.1 94 q) (h0 : 0 ≤ m.1 94 d) : zQS m C Pn tt K ∧ zQx μ m ∧ zFs m (d + 1) := by
  have c66 := hf 66 (by decide)
  have X : zQx μ m := zQx_same (fun i a b => hf i (by omega)) (fun i a b => hf i (by omega)) (by rw [c66]) (by rw [c66]) (by rw [c66]) (by rw [c66])
  refine ⟨zQS_fr hS (fun i a b => hf i (by omega)) (fun i a b => hf i (by omega)) (fun i a b => hf i (by omega)) (hf 98 (by omega)) (by rw [c66]) (by rw [c66]) (by rw [c66]) (by rw [c66]), X, zFs_up (zFs_x hS.1 h3 X (hf 84 (by omega)) (fun q a b i i0 i1 => ?_)) ?_ (by rw [hf 93 (by decide), h5]; omega)⟩
  · by_cases h : i = 94
    · rw [h]; exact hi q (by omega)
    · rw [hf i h]
  · obtain ⟨a1, a2, a3, a4⟩ := h4
    obtain ⟨b1, b2, b3, b4⟩ := a4 h5
    unfold zFq
    rw [hf 91 (by decide), hf 92 (by decide), hf 93 (by decide), hf 95 (by decide), hf 67 (by decide), hf 68 (by decide)]
    exact ⟨zTy_old a1 X.1 X.2.1, zTy_old a2 X.1 X.2.1, fun e => by omega, fun _ => ⟨zCt_old b1 hS.1.1.2.1 X.1 X.2.1, b2, b3, h0⟩⟩
theorem zFs_same {m m' : zM} {D : Int} (h : zFs m D) (hc : ∀ j : Nat, j ≠ 66 → m'.1 j = m.1 j) (f8 : m'.1 66 ((8 : Nat) : Int) = m.1 66 ((8 : Nat) : Int)) : zFs m' D := by
  have ht : zTop m' = zTop m := f8
  unfold zFs zFq zbn zTy zCt
  rw [hc 67 (by decide), hc 68 (by decide), hc 69 (by decide), hc 70 (by decide), hc 84 (by decide), hc 89 (by decide), hc 91 (by decide), hc 92 (by decide), hc 93 (by decide), hc 94 (by decide), hc 95 (by decide), ht]
  exact h
