/-! ### a declaration is read: words -/
theorem zrN {m m' : zM} (h : zrm m' < zrm m) (h0 : 0 ≤ zrm m') : (zrm m').toNat < (zrm m).toNat := by omega
/-- a class's head -/
def zHd (μ m : zM) (c : Int) : Prop := (m.1 76 (21 + c) = μ.1 66 ((27 : Nat) : Int) ∧ m.1 79 (21 + c) = 0 ∧ 0 ≤ m.1 77 (21 + c) ∧ m.1 77 (21 + c) ≤ 4 ∧ m.1 66 ((27 : Nat) : Int) = μ.1 66 ((27 : Nat) : Int) + m.1 77 (21 + c) ∧ m.1 66 ((26 : Nat) : Int) = c + 1) ∧ (∀ q : Int, q < 21 + c → m.1 76 q = μ.1 76 q ∧ m.1 77 q = μ.1 77 q ∧ m.1 79 q = μ.1 79 q) ∧ (∀ q : Int, q < 80 + μ.1 66 ((27 : Nat) : Int) → m.1 84 q = μ.1 84 q) ∧ ∀ p : Int, μ.1 66 ((27 : Nat) : Int) ≤ p → p < m.1 66 ((27 : Nat) : Int) → m.1 84 (80 + p) = 0
theorem zHd_fr {μ m m' : zM} {c : Int} (h : zHd μ m c) (h76 : m'.1 76 = m.1 76) (h77 : m'.1 77 = m.1 77) (h79 : m'.1 79 = m.1 79) (h84 : m'.1 84 = m.1 84) (f26 : m'.1 66 ((26 : Nat) : Int) = m.1 66 ((26 : Nat) : Int)) (f27 : m'.1 66 ((27 : Nat) : Int) = m.1 66 ((27 : Nat) : Int)) : zHd μ m' c := by
  unfold zHd
  rw [h76, h77, h79, h84, f26, f27]
  exact h
theorem zHd_0 {μ m1 m2 m3 m4 : zM} {c k1 k2 k3 x1 x4 : Int} (e1 : m1 = zu μ 76 k1 x1) (e2 : m2 = zu m1 77 k2 0) (e3 : m3 = zu m2 79 k3 0) (e4 : m4 = zu m3 66 ((26 : Nat) : Int) x4) (h1 : k1 = 21 + c) (h2 : k2 = 21 + c) (h3 : k3 = 21 + c) (hx1 : x1 = μ.1 66 ((27 : Nat) : Int)) (hx4 : x4 = c + 1) : zHd μ m4 c := by
  have c76 : ∀ q : Int, m4.1 76 q = if q = 21 + c then x1 else μ.1 76 q := fun q => by
    rw [e4, zu_ne (by decide), e3, zu_ne (by decide), e2, zu_ne (by decide), e1]
    by_cases h : q = 21 + c
    · rw [if_pos h, h, ← h1, zu_at]
    · rw [if_neg h, zu_nk (by omega)]
  have c77 : ∀ q : Int, m4.1 77 q = if q = 21 + c then 0 else μ.1 77 q := fun q => by
    rw [e4, zu_ne (by decide), e3, zu_ne (by decide), e2]
    by_cases h : q = 21 + c
    · rw [if_pos h, h, ← h2, zu_at]
    · rw [if_neg h, zu_nk (by omega), e1, zu_ne (by decide)]
  have c79 : ∀ q : Int, m4.1 79 q = if q = 21 + c then 0 else μ.1 79 q := fun q => by
    rw [e4, zu_ne (by decide), e3]
    by_cases h : q = 21 + c
    · rw [if_pos h, h, ← h3, zu_at]
    · rw [if_neg h, zu_nk (by omega), e2, zu_ne (by decide), e1, zu_ne (by decide)]
  have f27 : m4.1 66 ((27 : Nat) : Int) = μ.1 66 ((27 : Nat) : Int) := by rw [e4, zu_nk (by decide), e3, zu_ne (by decide), e2, zu_ne (by decide), e1, zu_ne (by decide)]
  have f26 : m4.1 66 ((26 : Nat) : Int) = c + 1 := by rw [e4, zu_at, hx4]
  have c84 : m4.1 84 = μ.1 84 := by rw [e4, zu_ne (by decide), e3, zu_ne (by decide), e2, zu_ne (by decide), e1, zu_ne (by decide)]
  unfold zHd
  rw [f26, f27, c84, c76, c77, c79, if_pos rfl, if_pos rfl, if_pos rfl]
  refine ⟨⟨hx1, rfl, by omega, by omega, by omega, rfl⟩, fun q hq => ?_, fun _ _ => rfl, fun p a b => by omega⟩
  rw [c76, c77, c79, if_neg (by omega), if_neg (by omega), if_neg (by omega)]
  exact ⟨rfl, rfl, rfl⟩
theorem zHd_s {μ m m1 m2 m3 m4 : zM} {c k1 k2 k4 x1 x3 x4 : Int} (h : zHd μ m c) (h4 : m.1 77 (21 + c) ≤ 3) (e1 : m1 = zu m 82 k1 x1) (e2 : m2 = zu m1 84 k2 0) (e3 : m3 = zu m2 66 ((27 : Nat) : Int) x3) (e4 : m4 = zu m3 77 k4 x4) (hk2 : k2 = 80 + m.1 66 ((27 : Nat) : Int)) (hx3 : x3 = m.1 66 ((27 : Nat) : Int) + 1) (hk4 : k4 = 21 + c) (hx4 : x4 = m.1 77 (21 + c) + 1) : zHd μ m4 c := by
  obtain ⟨⟨a1, a2, a3, a4, a5, a6⟩, b, d, f⟩ := h
  have c77 : ∀ q : Int, m4.1 77 q = if q = 21 + c then x4 else m.1 77 q := fun q => by
    rw [e4]
    by_cases h : q = 21 + c
    · rw [if_pos h, h, ← hk4, zu_at]
    · rw [if_neg h, zu_nk (by omega), e3, zu_ne (by decide), e2, zu_ne (by decide), e1, zu_ne (by decide)]
  have c84 : ∀ q : Int, m4.1 84 q = if q = k2 then 0 else m.1 84 q := fun q => by
    rw [e4, zu_ne (by decide), e3, zu_ne (by decide), e2]
    by_cases h : q = k2
    · rw [if_pos h, h, zu_at]
    · rw [if_neg h, zu_nk h, e1, zu_ne (by decide)]
  have c76 : m4.1 76 = m.1 76 := by rw [e4, zu_ne (by decide), e3, zu_ne (by decide), e2, zu_ne (by decide), e1, zu_ne (by decide)]
  have c79 : m4.1 79 = m.1 79 := by rw [e4, zu_ne (by decide), e3, zu_ne (by decide), e2, zu_ne (by decide), e1, zu_ne (by decide)]
  have f27 : m4.1 66 ((27 : Nat) : Int) = m.1 66 ((27 : Nat) : Int) + 1 := by rw [e4, zu_ne (by decide), e3, zu_at, hx3]
  have f26 : m4.1 66 ((26 : Nat) : Int) = m.1 66 ((26 : Nat) : Int) := by rw [e4, zu_ne (by decide), e3, zu_nk (by decide), e2, zu_ne (by decide), e1, zu_ne (by decide)]
  unfold zHd
  rw [c76, c79, f26, f27, c77, if_pos rfl]
  refine ⟨⟨a1, a2, by omega, by omega, by omega, a6⟩, fun q hq => ?_, fun q hq => ?_, fun p p0 p1 => ?_⟩
  · rw [c77, if_neg (by omega)]; exact b q hq
  · rw [c84, if_neg (by omega)]; exact d q hq
  · rw [c84]
    split
    · rfl
    · exact f p p0 (by omega)
/-- bounds -/
def zBd (m : zM) (lo P : Int) : Prop := ∀ p : Int, 0 ≤ p → p < P → m.1 84 (80 + p) ≤ 2 ∧ ∀ i : Int, 0 ≤ i → i < m.1 84 (80 + p) → zTx m lo (m.1 83 (2 * (80 + p) + i))
theorem zBd_old {μ m : zM} {lo P : Int} (h : zBd μ lo P) (h0 : 0 ≤ lo) (ho : zOld μ m (zTop μ)) (ht : zTop μ ≤ zTop m) (h83 : m.1 83 = μ.1 83) (h84 : m.1 84 = μ.1 84) : zBd m lo P := by
  unfold zBd
  rw [h83, h84]
  exact fun p a b => ⟨(h p a b).1, fun i c d => zTx_old ((h p a b).2 i c d) h0 ho ht⟩
theorem zBd_w {m m1 m2 : zM} {lo P p k1 k2 t n : Int} (h : zBd m lo P) (hp : 0 ≤ p ∧ p < P) (e1 : m1 = zu m 83 k1 t) (hk1 : k1 = 2 * (80 + p) + m.1 84 (80 + p)) (h0 : 0 ≤ m.1 84 (80 + p)) (h1 : m.1 84 (80 + p) ≤ 1) (ht : zTx m lo t) (e2 : m2 = zu m1 84 k2 n) (hk2 : k2 = 80 + p) (hn : n = m.1 84 (80 + p) + 1) : zBd m2 lo P := by
  have c : ∀ j : Nat, j ≠ 83 → j ≠ 84 → m2.1 j = m.1 j := fun j a b => by rw [e2, zu_ne b, e1, zu_ne a]
  have tt : zTop m2 = zTop m := congrFun (c 66 (by decide) (by decide)) _
  have tx : ∀ x : Int, zTx m lo x → zTx m2 lo x := fun x hx => by
    unfold zTx
    rw [tt, c 71 (by decide) (by decide), c 67 (by decide) (by decide)]
    exact hx
  intro q q0 q1
  by_cases e : q = p
  · subst e
    have v : m2.1 84 (80 + q) = n := by rw [e2, ← hk2, zu_at]
    rw [v]
    refine ⟨by omega, fun i a b => ?_⟩
    by_cases z : i = m.1 84 (80 + q)
    · rw [z, ← hk1, e2, zu_ne (by decide), e1, zu_at, ← e1, ← e2]
      exact tx _ ht
    · rw [e2, zu_ne (by decide), e1, zu_nk (by omega), ← e1, ← e2]
      exact tx _ ((h q q0 q1).2 i a (by omega))
  · have v : m2.1 84 (80 + q) = m.1 84 (80 + q) := by rw [e2, zu_nk (by omega), e1, zu_ne (by decide)]
    rw [v]
    refine ⟨(h q q0 q1).1, fun i a b => ?_⟩
    have := (h q q0 q1).1
    rw [e2, zu_ne (by decide), e1, zu_nk (by omega), ← e1, ← e2]
    exact tx _ ((h q q0 q1).2 i a b)
/-- classes above a class, as they are read -/
theorem zsm_ge {f : Int → Int} : ∀ {n : Nat}, (∀ i : Int, 0 ≤ i → i < (n : Int) → 1 ≤ f i) → 1 + (n : Int) ≤ zsm f n
  | 0, _ => by show 1 + ((0 : Nat) : Int) ≤ 1; omega
  | n + 1, h => by
    have h1 := zsm_ge (n := n) (fun i a b => h i a (by omega))
    have h2 := h ((n : Nat) : Int) (by omega) (by omega)
    show 1 + ((n + 1 : Nat) : Int) ≤ zsm f n + f ((n : Nat) : Int)
    omega
theorem zW1_ge {m : zM} {lo c P : Int} (h : zCl m lo c P) (h0 : 0 ≤ lo) (nd : ∀ x : Int, 0 ≤ x → x < zTop m → zNd m x) : m.1 79 (21 + c) ≤ zW1s m c := by
  have h4 := h.1.2.2.2.2
  have := zsm_ge (f := fun i => m.1 71 (zXs m c i)) (n := (m.1 79 (21 + c)).toNat) (fun i a b => by
    have g := (h.2 i a (by omega)).1.1
    exact zsz1 nd _ _ rfl (by omega) g.2)
  unfold zW1s
  omega
def zSp (μ m : zM) (lo c P : Int) : Prop := zCl m lo c P ∧ zW1s m c ≤ zTn μ m ∧ (∀ q : Int, q ≠ 21 + c → m.1 79 q = μ.1 79 q) ∧ ∀ q : Int, q < 4 * (21 + c) → m.1 78 q = μ.1 78 q
theorem zSp_old {μ m m' : zM} {lo c P : Int} (h : zSp μ m lo c P) (h0 : 0 ≤ lo) (nd : ∀ x : Int, 0 ≤ x → x < zTop m → zNd m x) (ho : zOld m m' (zTop m)) (ht : zTop m ≤ zTop m') (hc : ∀ j : Nat, 76 ≤ j → j ≤ 79 → m'.1 j = m.1 j) (hn : m.1 66 ((38 : Nat) : Int) ≤ m'.1 66 ((38 : Nat) : Int)) : zSp μ m' lo c P := by
  obtain ⟨h1, h2, h3, h4⟩ := h
  have e1 : zXf m' c = zXf m c := by unfold zXf; rw [hc 76 (by omega) (by omega)]
  have e2 : zXn m' c = zXn m c := by unfold zXn; rw [hc 77 (by omega) (by omega)]
  have es : ∀ i : Int, zXs m' c i = zXs m c i := fun i => by unfold zXs; rw [hc 78 (by omega) (by omega)]
  refine ⟨?_, ?_, by rw [hc 79 (by omega) (by omega)]; exact h3, by rw [hc 78 (by omega) (by omega)]; exact h4⟩
  · unfold zCl
    rw [e1, e2, hc 79 (by omega) (by omega)]
    refine ⟨h1.1, fun i a b => ?_⟩
    rw [es]
    obtain ⟨g1, g2, g3, g4⟩ := h1.2 i a b
    have hx : 0 ≤ zXs m c i := by have := g1.1.1; omega
    exact ⟨zTx_old g1 h0 ho ht, by rw [(ho _ hx g1.1.2).2.1]; exact g2, zA2_old g3 nd ⟨hx, g1.1.2⟩ ho, zPar_old g4 ho nd hx g1.1.2⟩
  · have : zW1s m' c = zW1s m c := by
      unfold zW1s
      rw [hc 79 (by omega) (by omega)]
      congr 1
      refine zsm_eq (fun i a b => ?_)
      have g := (h1.2 i a (by omega)).1.1
      show m'.1 71 (zXs m' c i) = m.1 71 (zXs m c i)
      rw [es, (ho _ (by omega) g.2).2.2.2.1]
    rw [this]
    unfold zTn at h2 ⊢
    omega
theorem zSp_w {μ m m1 m2 : zM} {lo c P k1 k2 t n : Int} (h : zSp μ m lo c P) (e1 : m1 = zu m 78 k1 t) (hk1 : k1 = 4 * (21 + c) + m.1 79 (21 + c)) (h3 : m.1 79 (21 + c) ≤ 3) (ht : zTx m lo t) (hv : m.1 68 t < c) (ha : zA2 m t) (hp : zPar m (zXf m c) (zXf m c + zXn m c) t) (hs : zW1s m c + m.1 71 t ≤ zTn μ m) (e2 : m2 = zu m1 79 k2 n) (hk2 : k2 = 21 + c) (hn : n = m.1 79 (21 + c) + 1) : zSp μ m2 lo c P := by
  obtain ⟨h1, h2, h5, h4⟩ := h
  have c2 : ∀ j : Nat, j ≠ 78 → j ≠ 79 → m2.1 j = m.1 j := fun j a b => by rw [e2, zu_ne b, e1, zu_ne a]
  have tt : zTop m2 = zTop m := congrFun (c2 66 (by decide) (by decide)) _
  have v79 : m2.1 79 (21 + c) = n := by rw [e2, ← hk2, zu_at]
  have n0 := h1.1.2.2.2.2.1
  have vs : ∀ i : Int, zXs m2 c i = if i = m.1 79 (21 + c) then t else zXs m c i := fun i => by
    unfold zXs
    rw [e2, zu_ne (by decide), e1]
    by_cases z : i = m.1 79 (21 + c)
    · rw [if_pos z, z, ← hk1, zu_at]
    · rw [if_neg z, zu_nk (by omega)]
  have e3 : zXf m2 c = zXf m c := by unfold zXf; rw [c2 76 (by decide) (by decide)]
  have e4 : zXn m2 c = zXn m c := by unfold zXn; rw [c2 77 (by decide) (by decide)]
  refine ⟨?_, ?_, fun q hq => by rw [e2, zu_nk (by omega), e1, zu_ne (by decide)]; exact h5 q hq, fun q hq => by rw [e2, zu_ne (by decide), e1, zu_nk (by omega)]; exact h4 q hq⟩
  · unfold zCl
    rw [e3, e4, v79]
    refine ⟨by have := h1.1; omega, fun i a b => ?_⟩
    have key : ∀ x : Int, zTx m lo x ∧ m.1 68 x < c ∧ zA2 m x ∧ zPar m (zXf m c) (zXf m c + zXn m c) x → zTx m2 lo x ∧ m2.1 68 x < c ∧ zA2 m2 x ∧ zPar m2 (zXf m c) (zXf m c + zXn m c) x := fun x ⟨q1, q2, q3, q4⟩ => by
      refine ⟨?_, by rw [c2 68 (by decide) (by decide)]; exact q2, ?_, zPar_same q4 (c2 67 (by decide) (by decide)) (c2 68 (by decide) (by decide)) (c2 69 (by decide) (by decide)) (c2 70 (by decide) (by decide))⟩
      · unfold zTx
        rw [tt, c2 71 (by decide) (by decide), c2 67 (by decide) (by decide)]; exact q1
      · unfold zA2
        rw [c2 67 (by decide) (by decide), c2 69 (by decide) (by decide), c2 70 (by decide) (by decide)]; exact q3
    rw [vs]
    split
    · exact key t ⟨ht, hv, ha, hp⟩
    · exact key _ (h1.2 i a (by omega))
  · have f38 : m2.1 66 ((38 : Nat) : Int) = m.1 66 ((38 : Nat) : Int) := by rw [c2 66 (by decide) (by decide)]
    have e5 : zW1s m2 c = zW1s m c + m.1 71 t := by
      unfold zW1s
      rw [v79, hn, zsm_s (by omega)]
      have e6 : zsm (fun i => m2.1 71 (zXs m2 c i)) (m.1 79 (21 + c)).toNat = zsm (fun i => m.1 71 (zXs m c i)) (m.1 79 (21 + c)).toNat := zsm_eq (fun i a b => by
        show m2.1 71 (zXs m2 c i) = m.1 71 (zXs m c i)
        rw [vs, if_neg (by omega), c2 71 (by decide) (by decide)])
      rw [e6]
      show _ + m2.1 71 (zXs m2 c (m.1 79 (21 + c))) - 1 = _
      rw [vs, if_pos rfl, c2 71 (by decide) (by decide)]
      omega
    rw [e5]
    unfold zTn at hs ⊢
    omega
theorem zW1s_old {m m' : zM} {lo c P : Int} (h1 : zCl m lo c P) (h0 : 0 ≤ lo) (ho : zOld m m' (zTop m)) (h78 : m'.1 78 = m.1 78) (h79 : m'.1 79 = m.1 79) : zW1s m' c = zW1s m c := by
  unfold zW1s
  rw [h79]
  congr 1
  refine zsm_eq (fun i a b => ?_)
  have g := (h1.2 i a (by omega)).1.1
  have es : zXs m' c i = zXs m c i := by unfold zXs; rw [h78]
  show m'.1 71 (zXs m' c i) = m.1 71 (zXs m c i)
  rw [es, (ho _ (by omega) g.2).2.2.2.1]
theorem zSp_r {μ : zM} {lo c P : Int} (h : zCl μ lo c P) (h79 : μ.1 79 (21 + c) = 0) : zSp μ μ lo c P := by
  refine ⟨h, ?_, fun _ _ => rfl, fun _ _ => rfl⟩
  unfold zW1s zTn
  rw [h79]
  show (1 : Int) - 1 ≤ _
  omega
theorem zSp_fr {μ m m' : zM} {lo c P : Int} (h : zSp μ m lo c P) (hc : ∀ j : Nat, 67 ≤ j → j ≤ 79 → m'.1 j = m.1 j) (f8 : m'.1 66 ((8 : Nat) : Int) = m.1 66 ((8 : Nat) : Int)) (f38 : m'.1 66 ((38 : Nat) : Int) = m.1 66 ((38 : Nat) : Int)) : zSp μ m' lo c P := by
  have tt : zTop m' = zTop m := f8
  unfold zSp zCl zW1s zTn zTx zA2 zXs zXf zXn
  rw [hc 67 (by omega) (by omega), hc 68 (by omega) (by omega), hc 69 (by omega) (by omega), hc 70 (by omega) (by omega), hc 71 (by omega) (by omega), hc 76 (by omega) (by omega), hc 77 (by omega) (by omega), hc 78 (by omega) (by omega), hc 79 (by omega) (by omega), tt, f38]
  obtain ⟨h1, h2, h3, h4⟩ := h
  exact ⟨⟨h1.1, fun i a b => ⟨(h1.2 i a b).1, (h1.2 i a b).2.1, (h1.2 i a b).2.2.1, zPar_same (h1.2 i a b).2.2.2 (hc 67 (by omega) (by omega)) (hc 68 (by omega) (by omega)) (hc 69 (by omega) (by omega)) (hc 70 (by omega) (by omega))⟩⟩, h2, h3, h4⟩
theorem zBd_fr {m m' : zM} {lo P : Int} (h : zBd m lo P) (h67 : m'.1 67 = m.1 67) (h71 : m'.1 71 = m.1 71) (h83 : m'.1 83 = m.1 83) (h84 : m'.1 84 = m.1 84) (f8 : m'.1 66 ((8 : Nat) : Int) = m.1 66 ((8 : Nat) : Int)) : zBd m' lo P := by
  have tt : zTop m' = zTop m := f8
  unfold zBd zTx
  rw [h67, h71, h83, h84, tt]
  exact h
theorem zHd_L {μ m0 m : zM} {j : Nat} {k x c : Int} (e : m0 = zu μ j k x) (hj : (j ≠ 66 ∧ j ≠ 76) ∧ (j ≠ 77 ∧ j ≠ 79) ∧ j ≠ 84) (h : zHd m0 m c) : zHd μ m c := by
  subst e
  unfold zHd at h ⊢
  rw [zu_ne (Ne.symm hj.1.1), zu_ne (Ne.symm hj.1.2), zu_ne (Ne.symm hj.2.1.1), zu_ne (Ne.symm hj.2.1.2), zu_ne (Ne.symm hj.2.2)] at h
  exact h
