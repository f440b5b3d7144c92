/-! ### a question's state, in one -/
def zQS (m : zM) (C Pn tt K : Int) : Prop := zQI m C Pn tt ∧ zTop m ≤ tt + 300 + 2 * m.1 66 ((45 : Nat) : Int) + m.1 66 ((48 : Nat) : Int) ∧ (0 ≤ m.1 66 ((45 : Nat) : Int) ∧ m.1 66 ((45 : Nat) : Int) ≤ 300) ∧ (0 ≤ m.1 66 ((48 : Nat) : Int) ∧ m.1 66 ((48 : Nat) : Int) ≤ 6000) ∧ (0 ≤ m.1 66 ((60 : Nat) : Int) ∧ m.1 66 ((60 : Nat) : Int) ≤ K + m.1 66 ((48 : Nat) : Int)) ∧ K ≤ 1999990000
theorem zQS_r {m : zM} {C Pn tt K : Int} (h : zQS m C Pn tt K) : (0 ≤ m.1 66 ((45 : Nat) : Int) ∧ m.1 66 ((45 : Nat) : Int) ≤ 300) ∧ (0 ≤ m.1 66 ((48 : Nat) : Int) ∧ m.1 66 ((48 : Nat) : Int) ≤ 6000) ∧ (0 ≤ m.1 66 ((60 : Nat) : Int) ∧ m.1 66 ((60 : Nat) : Int) ≤ 2000000000) := by
  obtain ⟨h1, h2, h3, h4, h5, h6⟩ := h
  exact ⟨h3, h4, h5.1, by omega⟩
theorem zQS_x {μ m : zM} {C Pn tt K : Int} (h : zQS μ C Pn tt K) (hq : zQI m C Pn tt) (hx : zQx μ m) (h45 : m.1 66 ((45 : Nat) : Int) ≤ 300) (h48 : m.1 66 ((48 : Nat) : Int) ≤ 6000) : zQS m C Pn tt K := by
  obtain ⟨h1, h2, h3, h4, h5, h6⟩ := h
  obtain ⟨a1, a2, a3, a4, a5, a6⟩ := hx
  exact ⟨hq, by omega, ⟨by omega, h45⟩, ⟨by omega, h48⟩, ⟨by omega, by omega⟩, h6⟩
theorem zQS_top {m : zM} {C Pn tt K : Int} (h : zQS m C Pn tt K) : zTop m ≤ 12982 := by
  obtain ⟨h1, h2, h3, h4, h5, h6⟩ := h
  have := h1.2.1.1
  omega
/-- what leaves a question's state alone -/
theorem zQS_fr {m m' : zM} {C Pn tt K : Int} (h : zQS m C Pn tt K) (hc : ∀ j : Nat, 67 ≤ j → j ≤ 73 → m'.1 j = m.1 j) (hf : ∀ j : Nat, 76 ≤ j → j ≤ 84 → m'.1 j = m.1 j) (hv : ∀ j : Nat, 88 ≤ j → j ≤ 90 → m'.1 j = m.1 j) (hs : m'.1 98 = m.1 98) (f8 : m'.1 66 ((8 : Nat) : Int) = m.1 66 ((8 : Nat) : Int)) (f45 : m'.1 66 ((45 : Nat) : Int) = m.1 66 ((45 : Nat) : Int)) (f48 : m'.1 66 ((48 : Nat) : Int) = m.1 66 ((48 : Nat) : Int)) (f60 : m'.1 66 ((60 : Nat) : Int) = m.1 66 ((60 : Nat) : Int)) : zQS m' C Pn tt K := by
  obtain ⟨h1, h2, h3, h4, h5, h6⟩ := h
  have ht : zTop m' = zTop m := f8
  refine ⟨zQI_fr h1 hc hf hv hs f8 f45 f60, ?_⟩
  rw [f45, f48, f60, ht]
  exact ⟨h2, h3, h4, h5, h6⟩
/-- all but variable v are as they were, the new nodes are paid -/
def zQy (μ m : zM) (v : Int) : Prop := zOld μ m (zTop μ) ∧ zTop μ ≤ zTop m ∧ (m.1 66 ((45 : Nat) : Int) = μ.1 66 ((45 : Nat) : Int) ∧ μ.1 66 ((48 : Nat) : Int) ≤ m.1 66 ((48 : Nat) : Int) ∧ μ.1 66 ((60 : Nat) : Int) ≤ m.1 66 ((60 : Nat) : Int)) ∧ m.1 66 ((60 : Nat) : Int) - μ.1 66 ((60 : Nat) : Int) ≤ m.1 66 ((48 : Nat) : Int) - μ.1 66 ((48 : Nat) : Int) ∧
  zTop m - zTop μ ≤ m.1 66 ((48 : Nat) : Int) - μ.1 66 ((48 : Nat) : Int) ∧ ∀ u : Int, 0 ≤ u → u ≠ v → m.1 89 u = μ.1 89 u ∧ m.1 90 u = μ.1 90 u ∧ ∀ i : Int, 0 ≤ i → i < 3 → m.1 88 (3 * u + i) = μ.1 88 (3 * u + i)
theorem zQy_r (μ : zM) (v : Int) : zQy μ μ v := ⟨zOld_r _ _, Int.le_refl _, ⟨rfl, Int.le_refl _, Int.le_refl _⟩, by omega, by omega, fun _ _ _ => ⟨rfl, rfl, fun _ _ _ => rfl⟩⟩
theorem zQy_t {x y z : zM} {v : Int} (h1 : zQy x y v) (h2 : zQy y z v) : zQy x z v := by
  obtain ⟨a1, a2, a3, a4, a5, a6⟩ := h1
  obtain ⟨b1, b2, b3, b4, b5, b6⟩ := h2
  refine ⟨zOld_t a1 b1 a2, by omega, ⟨by omega, by omega, by omega⟩, by omega, by omega, fun u u0 u1 => ?_⟩
  obtain ⟨c1, c2, c3⟩ := a6 u u0 u1
  obtain ⟨d1, d2, d3⟩ := b6 u u0 u1
  exact ⟨d1.trans c1, d2.trans c2, fun i i0 i1 => (d3 i i0 i1).trans (c3 i i0 i1)⟩
theorem zQy_w {μ m m' : zM} {j : Nat} {k x v i : Int} (h : zQy μ m v) (e : m' = zu m j k x) (hj : (j = 88 ∧ k = 3 * v + i ∧ 0 ≤ i ∧ i < 3) ∨ ((j = 89 ∨ j = 90) ∧ k = v)) : zQy μ m' v := by
  have c : ∀ q : Nat, q ≠ j → m'.1 q = m.1 q := fun q hq => by rw [e, zu_ne hq]
  have j66 : 66 ≠ j := by omega
  obtain ⟨a1, a2, a3, a4, a5, a6⟩ := h
  have ht : zTop m' = zTop m := congrFun (c 66 j66) _
  unfold zQy
  rw [c 66 j66, ht]
  refine ⟨zOld_t a1 (zOld_same (n := zTop μ) (fun q a b => c q (by omega))) (Int.le_refl _), a2, a3, a4, a5, fun u u0 u1 => ?_⟩
  obtain ⟨c1, c2, c3⟩ := a6 u u0 u1
  refine ⟨?_, ?_, fun l l0 l1 => ?_⟩
  · rcases hj with q | ⟨q | q, q2⟩
    · rw [c 89 (by omega)]; exact c1
    · rw [e, q, zu_nk (by omega)]; exact c1
    · rw [c 89 (by omega)]; exact c1
  · rcases hj with q | ⟨q | q, q2⟩
    · rw [c 90 (by omega)]; exact c2
    · rw [c 90 (by omega)]; exact c2
    · rw [e, q, zu_nk (by omega)]; exact c2
  · rcases hj with ⟨q, q2, q3, q4⟩ | ⟨q | q, q2⟩
    · rw [e, q, zu_nk (by omega)]; exact c3 l l0 l1
    · rw [c 88 (by omega)]; exact c3 l l0 l1
    · rw [c 88 (by omega)]; exact c3 l l0 l1
theorem zQy_sub {μ m1 m : zM} {k z v : Int} (h : zOld m1 m (zTop m1) ∧ zTop m1 ≤ zTop m ∧ zTop m - zTop m1 ≤ z) (e : m1 = zu μ 66 ((48 : Nat) : Int) k) (hk : k = μ.1 66 ((48 : Nat) : Int) + z) (hz : 1 ≤ z) (hf : ∀ j : Nat, 75 ≤ j → j ≤ 96 → m.1 j = m1.1 j) (f45 : m.1 66 ((45 : Nat) : Int) = m1.1 66 ((45 : Nat) : Int)) (f48 : m.1 66 ((48 : Nat) : Int) = m1.1 66 ((48 : Nat) : Int)) (f60 : m.1 66 ((60 : Nat) : Int) = m1.1 66 ((60 : Nat) : Int) + 1) : zQy μ m v := by
  have c : ∀ j : Nat, j ≠ 66 → m1.1 j = μ.1 j := fun j hj => by rw [e, zu_ne hj]
  have e8 : zTop m1 = zTop μ := by unfold zTop; rw [e]; exact zu_nk (by decide)
  have e45 : m1.1 66 ((45 : Nat) : Int) = μ.1 66 ((45 : Nat) : Int) := by rw [e]; exact zu_nk (by decide)
  have e60 : m1.1 66 ((60 : Nat) : Int) = μ.1 66 ((60 : Nat) : Int) := by rw [e]; exact zu_nk (by decide)
  have e48 : m1.1 66 ((48 : Nat) : Int) = k := by rw [e]; exact zu_at
  rw [e8] at h
  refine ⟨zOld_l (fun j a b => c j (by omega)) h.1, h.2.1, ⟨by omega, by omega, by omega⟩, by omega, by omega, fun v _ _ => ?_⟩
  rw [hf 88 (by omega) (by omega), hf 89 (by omega) (by omega), hf 90 (by omega) (by omega), c 88 (by decide), c 89 (by decide), c 90 (by decide)]
  exact ⟨rfl, rfl, fun _ _ _ => rfl⟩
/-- a bound of a variable is put anew: all of it in one -/
theorem zQ_bd {m m1 m3 m4 m5 : zM} {C Pn tt t w n s f v k x i : Int} (h : zQI m C Pn tt) (hB : zTop m ≤ 13000) (ht : zTs m tt t) (hk : m.1 67 t ≤ 2) (hw : zCt m w) (hn : n = m.1 69 w) (hv : 0 ≤ v ∧ v < m.1 66 ((45 : Nat) : Int)) (hi : i = m.1 89 v) (hi2 : i ≤ 2)
    (e1 : m1 = zu m 66 ((48 : Nat) : Int) k) (hk1 : k = m.1 66 ((48 : Nat) : Int) + m.1 71 t) (hJ : zSJ m1 m3 0 s f n w (fun y => y ∈ zsb m1 20000 t)) (hs : s = m1.1 66 ((60 : Nat) : Int) + 1) (h60 : m3.1 66 ((60 : Nat) : Int) = s) (hst : ∀ x : Int, 0 ≤ x → x < 20000 → m3.1 98 x ≤ s) (hf : ∀ j : Nat, 75 ≤ j → j ≤ 96 → m3.1 j = m1.1 j) (f45 : m3.1 66 ((45 : Nat) : Int) = m1.1 66 ((45 : Nat) : Int)) (f48 : m3.1 66 ((48 : Nat) : Int) = m1.1 66 ((48 : Nat) : Int)) (h98 : m3.1 98 t = s) (hx : x = m3.1 97 t)
    {k4 k5 : Int} (e4 : m4 = zu m3 88 k4 x) (hk4 : k4 = 3 * v + i) (e5 : m5 = zu m4 89 v k5) (hk5 : k5 = i + 1) : zQI m5 C Pn tt ∧ zQy m m5 v ∧ m5.1 89 v = i + 1 := by
  have c1 : ∀ j : Nat, j ≠ 66 → m1.1 j = m.1 j := fun j hj => by rw [e1, zu_ne hj]
  have g8 : m1.1 66 ((8 : Nat) : Int) = m.1 66 ((8 : Nat) : Int) := by rw [e1]; exact zu_nk (by decide)
  have t1 : zTop m1 = zTop m := g8
  have g45 : m1.1 66 ((45 : Nat) : Int) = m.1 66 ((45 : Nat) : Int) := by rw [e1]; exact zu_nk (by decide)
  have g60 : m1.1 66 ((60 : Nat) : Int) = m.1 66 ((60 : Nat) : Int) := by rw [e1]; exact zu_nk (by decide)
  have Q1 := zQI_fr (m' := m1) h (fun j a b => c1 j (by omega)) (fun j a b => c1 j (by omega)) (fun j a b => c1 j (by omega)) (c1 98 (by decide)) g8 g45 g60
  have T1 := zTs_fr (m' := m1) ht (c1 71 (by decide))
  have W1 := zCt_fr (m' := m1) hw (fun j a b => c1 j (by omega)) g8
  have n1 : n = m1.1 69 w := by rw [c1 69 (by decide)]; exact hn
  have R := zQ_sub Q1 (by omega) T1 W1 n1 hJ hs h60 hst hf f45
  have Y := zQ_ty Q1 T1 W1 n1 hJ h98 (by rw [c1 67 (by decide)]; exact hk)
  have sz := zsz1 h.1.2.1 _ t rfl ht.1.1 (by have a := ht.1.2; have b := h.2.2.1; omega)
  have y1 : zQy m m3 v := zQy_sub (z := m.1 71 t) ⟨R.2.1, R.2.2.1, by have := R.2.2.2; rw [c1 71 (by decide)] at this; exact this⟩ e1 hk1 sz hf f45 f48 (by rw [h60, hs])
  have n3 : m3.1 89 v = i := by rw [hf 89 (by omega) (by omega), c1 89 (by decide), hi]
  have i0 : 0 ≤ i := by have := (h.2.2.2.2.2.1 v hv.1 hv.2).1; omega
  have y4 := zQy_w y1 e4 (Or.inl ⟨rfl, hk4, i0, by omega⟩)
  have y5 := zQy_w (i := 0) y4 e5 (Or.inr ⟨Or.inl rfl, rfl⟩)
  have N3 := R.1.2.2.2.2.2.1
  have N4 : zNf m4 (m3.1 66 ((45 : Nat) : Int)) := zNf_88 N3 e4 hk4 ⟨i0, by omega⟩ (Or.inl (by omega))
  have c4 : ∀ j : Nat, j ≠ 88 → m4.1 j = m3.1 j := fun j hj => by rw [e4, zu_ne hj]
  have c5 : ∀ j : Nat, j ≠ 89 → m5.1 j = m4.1 j := fun j hj => by rw [e5, zu_ne hj]
  have N5 : zNf m5 (m3.1 66 ((45 : Nat) : Int)) := by
    refine zNf_89 N4 e5 ⟨by omega, by omega⟩ (fun l l0 l1 => ?_)
    by_cases q : l = i
    · rw [q, ← hk4, e4, zu_at, ← e4, hx]
      exact zTy_same Y (c4 67 (by decide)) (by rw [c4 66 (by decide)])
    · have l2 : l < m4.1 89 v := by rw [c4 89 (by decide), n3]; omega
      exact (N4 v hv.1 (by rw [f45, g45]; exact hv.2)).2.1 l l0 l2
  refine ⟨zQI_nf R.1 (fun j a b => by rw [c5 j (by omega), c4 j (by omega)]) (fun j a b => by rw [c5 j (by omega), c4 j (by omega)]) ?_ (by rw [c5 98 (by decide), c4 98 (by decide)]) (by rw [c5 66 (by decide), c4 66 (by decide)]) (by rw [c5 66 (by decide), c4 66 (by decide)]; exact Int.le_refl _) (by rw [c5 66 (by decide), c4 66 (by decide)]), y5, by rw [e5, zu_at, hk5]⟩
  rw [c5 66 (by decide), c4 66 (by decide)]
  exact N5
/-- one place among the new variables is written -/
theorem zQI_88 {m m' : zM} {C Pn tt v i k x : Int} (h : zQI m C Pn tt) (e : m' = zu m 88 k x) (hk : k = 3 * v + i) (hi : 0 ≤ i ∧ i < 3) (hx : m.1 89 v ≤ i ∨ zTy m x) : zQI m' C Pn tt := by
  have c : ∀ j : Nat, j ≠ 88 → m'.1 j = m.1 j := fun j hj => by rw [e, zu_ne hj]
  refine zQI_nf h (fun j a b => c j (by omega)) (fun j a b => c j (by omega)) ?_ (c 98 (by decide)) (by rw [c 66 (by decide)]) (by rw [c 66 (by decide)]; exact Int.le_refl _) (by rw [c 66 (by decide)])
  rw [c 66 (by decide)]
  exact zNf_88 h.2.2.2.2.2.1 e hk hi hx
theorem zQI_89 {m m' : zM} {C Pn tt v n : Int} (h : zQI m C Pn tt) (e : m' = zu m 89 v n) (hn : 0 ≤ n ∧ n ≤ 3) (hx : ∀ i : Int, 0 ≤ i → i < n → zTy m (m.1 88 (3 * v + i))) : zQI m' C Pn tt := by
  have c : ∀ j : Nat, j ≠ 89 → m'.1 j = m.1 j := fun j hj => by rw [e, zu_ne hj]
  refine zQI_nf h (fun j a b => c j (by omega)) (fun j a b => c j (by omega)) ?_ (c 98 (by decide)) (by rw [c 66 (by decide)]) (by rw [c 66 (by decide)]; exact Int.le_refl _) (by rw [c 66 (by decide)])
  rw [c 66 (by decide)]
  exact zNf_89 h.2.2.2.2.2.1 e hn hx
theorem zQI_90 {m m' : zM} {C Pn tt v x : Int} (h : zQI m C Pn tt) (e : m' = zu m 90 v x) (hx : 0 ≤ x → zTy m x) : zQI m' C Pn tt := by
  have c : ∀ j : Nat, j ≠ 90 → m'.1 j = m.1 j := fun j hj => by rw [e, zu_ne hj]
  refine zQI_nf h (fun j a b => c j (by omega)) (fun j a b => c j (by omega)) ?_ (c 98 (by decide)) (by rw [c 66 (by decide)]) (by rw [c 66 (by decide)]; exact Int.le_refl _) (by rw [c 66 (by decide)])
  rw [c 66 (by decide)]
  exact zNf_90 h.2.2.2.2.2.1 e hx
/-- what a '?' is bound by -/
theorem zQI_wild {m : zM} {C Pn tt a : Int} (h : zQI m C Pn tt) (ha : 0 ≤ a ∧ a < zTop m) (hk : m.1 67 a = 4 ∨ m.1 67 a = 5) : zTy m (m.1 70 (4 * a)) := by
  have w := (h.2.2.2.2.1 a ha.1 ha.2).2.2.2.2.2 hk
  have p := (h.1.2.1 a ha.1 ha.2).2.1 0 (by omega) (by omega)
  rw [show 4 * a = 4 * a + 0 by omega]
  exact ⟨⟨p.1, by omega⟩, w.2⟩
theorem zQI_any {m : zM} {C Pn tt : Int} (h : zQI m C Pn tt) : zTy m (m.1 80 0) ∧ m.1 67 (m.1 80 0) = 0 := by
  have b := h.2.1.1
  have := h.2.1.2.2.2.2.1 0 0 (by omega) (by omega) (by omega) (by omega)
  rw [show (21 * 0 + 0 : Int) = 0 by omega] at this
  have h0 := h.2.1.2.2.2.2.2
  rcases this with q | ⟨q1, q2, -, -⟩
  · omega
  · have a := q1.1.2
    have c := h.2.2.1
    exact ⟨⟨⟨h0, by omega⟩, by omega⟩, q2⟩
