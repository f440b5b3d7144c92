/-! ### a table, and a question about it -/
def zTs (m : zM) (tt x : Int) : Prop := (0 ≤ x ∧ x < tt) ∧ m.1 71 x ≤ 300
def zTb (m : zM) (C Pn tt : Int) : Prop := (1 ≤ C ∧ C ≤ 21 ∧ 0 ≤ Pn ∧ Pn ≤ 80 ∧ 1 ≤ tt ∧ tt ≤ 6082) ∧
  (∀ c : Int, 0 ≤ c → c < C → 0 ≤ m.1 76 c ∧ 0 ≤ m.1 77 c ∧ m.1 77 c ≤ 4 ∧ m.1 76 c + m.1 77 c ≤ Pn ∧ 0 ≤ m.1 79 c ∧ m.1 79 c ≤ 4) ∧
  (∀ c i : Int, 0 ≤ c → c < C → 0 ≤ i → i < m.1 79 c → zTs m tt (m.1 78 (4 * c + i))) ∧
  (∀ p i : Int, 0 ≤ p → p < Pn → 0 ≤ i → i < m.1 84 p → zTs m tt (m.1 83 (2 * p + i)) ∧ m.1 67 (m.1 83 (2 * p + i)) = 0) ∧
  (∀ c d : Int, 0 ≤ c → c < C → 0 ≤ d → d ≤ 20 → m.1 80 (21 * c + d) = -1 ∨ (zTs m tt (m.1 80 (21 * c + d)) ∧ m.1 67 (m.1 80 (21 * c + d)) = 0 ∧ m.1 68 (m.1 80 (21 * c + d)) = d ∧ ∀ i : Int, 0 ≤ i → i < m.1 69 (m.1 80 (21 * c + d)) → m.1 67 (m.1 70 (4 * m.1 80 (21 * c + d) + i)) ≤ 2)) ∧ 0 ≤ m.1 80 0
/-- the new variables -/
def zNf (m : zM) (F : Int) : Prop := ∀ v : Int, 0 ≤ v → v < F → (0 ≤ m.1 89 v ∧ m.1 89 v ≤ 3) ∧ (∀ i : Int, 0 ≤ i → i < m.1 89 v → zTy m (m.1 88 (3 * v + i))) ∧ (0 ≤ m.1 90 v → zTy m (m.1 90 v))
def zQI (m : zM) (C Pn tt : Int) : Prop := zND m 0 ∧ zTb m C Pn tt ∧ tt ≤ zTop m ∧ zWf m 0 tt C Pn 0 (m.1 77) ∧ zWf m 0 (zTop m) C Pn (m.1 66 ((45 : Nat) : Int)) (m.1 77) ∧ zNf m (m.1 66 ((45 : Nat) : Int)) ∧ ∀ x : Int, 0 ≤ x → x < 20000 → m.1 98 x ≤ m.1 66 ((60 : Nat) : Int)
theorem zTs_old {μ m : zM} {tt n x : Int} (h : zTs μ tt x) (ho : zOld μ m n) (hn : tt ≤ n) : zTs m tt x := ⟨h.1, by rw [(ho x h.1.1 (by have := h.1.2; omega)).2.2.2.1]; exact h.2⟩
theorem zTb_old {μ m : zM} {C Pn tt n : Int} (h : zTb μ C Pn tt) (ho : zOld μ m n) (hn : tt ≤ n) (nd : ∀ x : Int, 0 ≤ x → x < n → zNd μ x) (hf : ∀ j : Nat, 76 ≤ j → j ≤ 84 → m.1 j = μ.1 j) : zTb m C Pn tt := by
  obtain ⟨h1, h2, h3, h4, h5, h6⟩ := h
  refine ⟨h1, ?_, ?_, ?_, ?_, ?_⟩
  · rw [hf 76 (by omega) (by omega), hf 77 (by omega) (by omega), hf 79 (by omega) (by omega)]; exact h2
  · rw [hf 78 (by omega) (by omega), hf 79 (by omega) (by omega)]
    exact fun c i a b d e => zTs_old (h3 c i a b d e) ho hn
  · rw [hf 83 (by omega) (by omega), hf 84 (by omega) (by omega)]
    intro p i a b d e
    have g := h4 p i a b d e
    exact ⟨zTs_old g.1 ho hn, by rw [(ho _ g.1.1.1 (by have := g.1.1.2; omega)).1]; exact g.2⟩
  · rw [hf 80 (by omega) (by omega)]
    intro c d a b e g
    rcases h5 c d a b e g with q | ⟨q1, q2, q3, q4⟩
    · exact Or.inl q
    · have hx := q1.1
      obtain ⟨o1, o2, o3, o4, o5⟩ := ho _ hx.1 (by omega)
      have nx := nd _ hx.1 (by omega)
      refine Or.inr ⟨zTs_old q1 ho hn, by rw [o1]; exact q2, by rw [o2]; exact q3, fun i i0 i1 => ?_⟩
      rw [o3] at i1
      have h4' := nx.1.2
      have p := nx.2.1 i i0 i1
      rw [o5 i i0 (by omega), (ho _ p.1 (by omega)).1]
      exact q4 i i0 i1
  · rw [hf 80 (by omega) (by omega)]; exact h6
theorem zNf_old {μ m : zM} {F : Int} (h : zNf μ F) (ho : zOld μ m (zTop μ)) (ht : zTop μ ≤ zTop m) (h88 : m.1 88 = μ.1 88) (h89 : m.1 89 = μ.1 89) (h90 : m.1 90 = μ.1 90) : zNf m F := by
  unfold zNf
  rw [h88, h89, h90]
  exact fun v a b => ⟨(h v a b).1, fun i c d => zTy_old ((h v a b).2.1 i c d) ho ht, fun c => zTy_old ((h v a b).2.2 c) ho ht⟩
theorem zWf_same {m m' : zM} {lo hi C Pn F : Int} {cf cf' : Int → Int} (h : zWf m lo hi C Pn F cf) (hc : ∀ j : Nat, 67 ≤ j → j ≤ 70 → m'.1 j = m.1 j) (he : cf' = cf) : zWf m' lo hi C Pn F cf' := by
  unfold zWf zW1
  rw [hc 67 (by omega) (by omega), hc 68 (by omega) (by omega), hc 69 (by omega) (by omega), hc 70 (by omega) (by omega), he]
  exact h
theorem zOld_same {m m' : zM} {n : Int} (hc : ∀ j : Nat, 67 ≤ j → j ≤ 71 → m'.1 j = m.1 j) : zOld m m' n := fun x _ _ => by
  rw [hc 67 (by omega) (by omega), hc 68 (by omega) (by omega), hc 69 (by omega) (by omega), hc 70 (by omega) (by omega), hc 71 (by omega) (by omega)]
  exact ⟨rfl, rfl, rfl, rfl, fun _ _ _ => rfl⟩
/-- what leaves nodes, table and variables alone -/
theorem zQI_fr {m m' : zM} {C Pn tt : Int} (h : zQI m C Pn tt) (hc : ∀ j : Nat, 67 ≤ j → j ≤ 73 → m'.1 j = m.1 j) (hf : ∀ j : Nat, 76 ≤ j → j ≤ 84 → m'.1 j = m.1 j) (hv : ∀ j : Nat, 88 ≤ j → j ≤ 90 → m'.1 j = m.1 j) (hs : m'.1 98 = m.1 98) (f8 : m'.1 66 ((8 : Nat) : Int) = m.1 66 ((8 : Nat) : Int)) (f45 : m'.1 66 ((45 : Nat) : Int) = m.1 66 ((45 : Nat) : Int)) (f60 : m'.1 66 ((60 : Nat) : Int) = m.1 66 ((60 : Nat) : Int)) : zQI m' C Pn tt := by
  obtain ⟨h1, h2, h3, h4, h5, h6, h7⟩ := h
  have ht : zTop m' = zTop m := f8
  have ho : zOld m m' (zTop m) := zOld_same (fun j a b => hc j a (by omega))
  refine ⟨zND_t.2 (by rw [ht]; exact zNDt_same hc (zND_t.1 h1)), zTb_old h2 ho h3 h1.2.1 hf, by omega, zWf_same h4 (fun j a b => hc j a (by omega)) (hf 77 (by omega) (by omega)), ?_, ?_, ?_⟩
  · rw [ht, f45]; exact zWf_same h5 (fun j a b => hc j a (by omega)) (hf 77 (by omega) (by omega))
  · rw [f45]; exact zNf_old h6 ho (by omega) (hv 88 (by omega) (by omega)) (hv 89 (by omega) (by omega)) (hv 90 (by omega) (by omega))
  · rw [hs, f60]; exact h7
/-- a class's type -/
def zCt (m : zM) (w : Int) : Prop := (0 ≤ w ∧ w < zTop m) ∧ m.1 67 w = 0 ∧ ∀ i : Int, 0 ≤ i → i < m.1 69 w → m.1 67 (m.1 70 (4 * w + i)) ≤ 2
theorem zCt_old {μ m : zM} {w : Int} (h : zCt μ w) (nd : ∀ x : Int, 0 ≤ x → x < zTop μ → zNd μ x) (ho : zOld μ m (zTop μ)) (ht : zTop μ ≤ zTop m) : zCt m w := by
  obtain ⟨h1, h2, h3⟩ := h
  obtain ⟨o1, o2, o3, o4, o5⟩ := ho w h1.1 h1.2
  have nx := nd w h1.1 h1.2
  refine ⟨⟨h1.1, by omega⟩, by rw [o1]; exact h2, fun i a b => ?_⟩
  rw [o3] at b
  have h4 := nx.1.2
  have p := nx.2.1 i a b
  rw [o5 i a (by omega), (ho _ p.1 (by omega)).1]
  exact h3 i a b
theorem zQ_pre {m : zM} {C Pn tt t w c n : Int} (h : zQI m C Pn tt) (hB : zTop m ≤ 13000) (ht : zTs m tt t) (hw : zCt m w) (hc : c = m.1 68 w) (hn : n = m.1 77 c) :
    zND m 0 ∧ (t < zTop m ∧ w < zTop m ∧ n ≤ m.1 69 w ∧ zTop m ≤ 20000) ∧ (∀ x : Int, 0 ≤ x → x < 20000 → m.1 98 x < m.1 66 ((60 : Nat) : Int) + 1) ∧ ((fun y => y ∈ zsb m 20000 t) t ∧ ∀ x : Int, 0 ≤ x → x < zTop m → (fun y => y ∈ zsb m 20000 t) x → ∀ i : Int, 0 ≤ i → i < m.1 69 x → (fun y => y ∈ zsb m 20000 t) (m.1 70 (4 * x + i))) ∧
    (∀ (s f : Int) (m' : zM), zSJ m m' 0 s f n w (fun y => y ∈ zsb m 20000 t) → zTop m' ≤ 19999) ∧ m.1 71 t ≤ 19999 ∧ c < C ∧ n = m.1 69 w := by
  obtain ⟨h1, h2, h3, h4, h5, h6, h7⟩ := h
  have tr := ht.1
  have ts := ht.2
  have hw1 := (h5 w hw.1.1 hw.1.2).2.1 hw.2.1
  rw [← hc, ← hn] at hw1
  refine ⟨h1, ⟨by omega, hw.1.2, by omega, by omega⟩, fun x a b => by have := h7 x a b; omega, zsb_P h1.2.1 tr.1 (by omega) (by omega), fun s f m' hJ => ?_, by omega, hw1.1, hw1.2.symm⟩
  have := zSJ_cnt hJ h1.2.1 tr.1 (by omega) (by omega)
  omega
theorem zQ_sub {m m' : zM} {C Pn tt t w n s f : Int} (h : zQI m C Pn tt) (hB : zTop m ≤ 13000) (ht : zTs m tt t) (hw : zCt m w) (hn : n = m.1 69 w) (hJ : zSJ m m' 0 s f n w (fun y => y ∈ zsb m 20000 t)) (hs : s = m.1 66 ((60 : Nat) : Int) + 1) (h60 : m'.1 66 ((60 : Nat) : Int) = s) (hst : ∀ x : Int, 0 ≤ x → x < 20000 → m'.1 98 x ≤ s) (hf : ∀ j : Nat, 75 ≤ j → j ≤ 96 → m'.1 j = m.1 j) (f45 : m'.1 66 ((45 : Nat) : Int) = m.1 66 ((45 : Nat) : Int)) :
    zQI m' C Pn tt ∧ zOld m m' (zTop m) ∧ zTop m ≤ zTop m' ∧ zTop m' - zTop m ≤ m.1 71 t := by
  obtain ⟨h1, h2, h3, h4, h5, h6, h7⟩ := h
  have tr := ht.1
  have ts := ht.2
  have ho := hJ.2.1
  have htt := hJ.2.2.1
  have hwa : ∀ i : Int, 0 ≤ i → i < n → 0 ≤ m.1 70 (4 * w + i) ∧ m.1 67 (m.1 70 (4 * w + i)) ≤ 2 := fun i a b => ⟨((h1.2.1 w hw.1.1 hw.1.2).2.1 i a (by omega)).1, hw.2.2 i a (by omega)⟩
  have h77 := hf 77 (by omega) (by omega)
  refine ⟨⟨hJ.1, zTb_old h2 ho h3 h1.2.1 (fun j a b => hf j (by omega) (by omega)), by omega, ?_, ?_, ?_, ?_⟩, ho, htt, zSJ_cnt hJ h1.2.1 tr.1 (by omega) (by omega)⟩
  · rw [h77]
    exact fun x a b => zW1_old ho a (by omega) (h1.2.1 x a (by omega)) (h4 x a b)
  · rw [h77, f45]
    exact zSJ_wf hJ h5 h1 (fun x hx => (zsb_rng h1.2.1 _ _ _ tr.1 (by omega) hx).1) hw.1 (by omega) hwa
  · rw [f45]
    exact zNf_old h6 ho htt (hf 88 (by omega) (by omega)) (hf 89 (by omega) (by omega)) (hf 90 (by omega) (by omega))
  · rw [h60]; exact hst
theorem zQ_cls {m m' : zM} {C Pn tt t w n s f : Int} (h : zQI m C Pn tt) (ht : zTs m tt t) (hw : zCt m w) (hn : n = m.1 69 w) (hJ : zSJ m m' 0 s f n w (fun y => y ∈ zsb m 20000 t)) (h98 : m'.1 98 t = s) (hk : m.1 67 t = 0) (ha : ∀ i : Int, 0 ≤ i → i < m.1 69 t → m.1 67 (m.1 70 (4 * t + i)) ≤ 2) : zCt m' (m'.1 97 t) ∧ m'.1 68 (m'.1 97 t) = m.1 68 t := by
  have hwa : ∀ i : Int, 0 ≤ i → i < n → 0 ≤ m.1 70 (4 * w + i) ∧ m.1 67 (m.1 70 (4 * w + i)) ≤ 2 := fun i a b => ⟨((h.1.2.1 w hw.1.1 hw.1.2).2.1 i a (by omega)).1, hw.2.2 i a (by omega)⟩
  have tr := ht.1
  have h3 := h.2.2.1
  have := zSJ_cls hJ h.1.2.1 hw.1 (by omega) hwa tr.1 (by omega) h98 hk ha
  exact ⟨⟨this.1, this.2.1, this.2.2.2.2⟩, this.2.2.1⟩
/-- what a question adds -/
def zQz (μ m : zM) (b : Int) : Prop := zOld μ m (zTop μ) ∧ zTop μ ≤ zTop m ∧ (μ.1 66 ((45 : Nat) : Int) ≤ m.1 66 ((45 : Nat) : Int) ∧ μ.1 66 ((48 : Nat) : Int) ≤ m.1 66 ((48 : Nat) : Int) ∧ μ.1 66 ((60 : Nat) : Int) ≤ m.1 66 ((60 : Nat) : Int)) ∧ m.1 66 ((60 : Nat) : Int) - μ.1 66 ((60 : Nat) : Int) ≤ m.1 66 ((48 : Nat) : Int) - μ.1 66 ((48 : Nat) : Int) ∧
  zTop m - zTop μ ≤ 2 * (m.1 66 ((45 : Nat) : Int) - μ.1 66 ((45 : Nat) : Int)) + (m.1 66 ((48 : Nat) : Int) - μ.1 66 ((48 : Nat) : Int)) ∧ ∀ v : Int, 0 ≤ v → v < b → m.1 89 v = μ.1 89 v ∧ m.1 90 v = μ.1 90 v ∧ ∀ i : Int, 0 ≤ i → i < 3 → m.1 88 (3 * v + i) = μ.1 88 (3 * v + i)
def zQx (μ m : zM) : Prop := zQz μ m (μ.1 66 ((45 : Nat) : Int))
theorem zQz_r (μ : zM) (b : Int) : zQz μ μ b := ⟨zOld_r _ _, Int.le_refl _, ⟨Int.le_refl _, Int.le_refl _, Int.le_refl _⟩, by omega, by omega, fun _ _ _ => ⟨rfl, rfl, fun _ _ _ => rfl⟩⟩
theorem zQz_t {x y z : zM} {b b' : Int} (h1 : zQz x y b) (h2 : zQz y z b') (hb : b ≤ b') : zQz x z b := by
  obtain ⟨a1, a2, a3, a4, a5, a6⟩ := h1
  obtain ⟨b1, b2, b3, b4, b5, b6⟩ := h2
  refine ⟨zOld_t a1 b1 a2, by omega, ⟨by omega, by omega, by omega⟩, by omega, by omega, fun v v0 v1 => ?_⟩
  obtain ⟨c1, c2, c3⟩ := a6 v v0 v1
  obtain ⟨d1, d2, d3⟩ := b6 v v0 (by omega)
  exact ⟨d1.trans c1, d2.trans c2, fun i i0 i1 => (d3 i i0 i1).trans (c3 i i0 i1)⟩
theorem zQx_r (μ : zM) : zQx μ μ := zQz_r μ _
theorem zQx_t {a b c : zM} (h1 : zQx a b) (h2 : zQx b c) : zQx a c := zQz_t h1 h2 h1.2.2.1.1
theorem zQx_fr {a b c : zM} (h : zQx a b) (hc : ∀ j : Nat, 67 ≤ j → j ≤ 71 → c.1 j = b.1 j) (hv : ∀ j : Nat, 88 ≤ j → j ≤ 90 → c.1 j = b.1 j) (f8 : c.1 66 ((8 : Nat) : Int) = b.1 66 ((8 : Nat) : Int)) (f45 : c.1 66 ((45 : Nat) : Int) = b.1 66 ((45 : Nat) : Int)) (f48 : c.1 66 ((48 : Nat) : Int) = b.1 66 ((48 : Nat) : Int)) (f60 : c.1 66 ((60 : Nat) : Int) = b.1 66 ((60 : Nat) : Int)) : zQx a c := by
  have ht : zTop c = zTop b := f8
  refine zQx_t h ⟨zOld_same hc, by omega, ⟨by omega, by omega, by omega⟩, by omega, by omega, fun v _ _ => ?_⟩
  rw [hv 88 (by omega) (by omega), hv 89 (by omega) (by omega), hv 90 (by omega) (by omega)]
  exact ⟨rfl, rfl, fun _ _ _ => rfl⟩
/-- a type put anew, paid by what it costs -/
theorem zQx_sub {μ m1 m : zM} {k z : Int} (h : zOld m1 m (zTop m1) ∧ zTop m1 ≤ zTop m ∧ zTop m - zTop m1 ≤ z) (e : m1 = zu μ 66 ((48 : Nat) : Int) k) (hk : k = μ.1 66 ((48 : Nat) : Int) + z) (hz : 1 ≤ z) (hf : ∀ j : Nat, 75 ≤ j → j ≤ 96 → m.1 j = m1.1 j) (f45 : m.1 66 ((45 : Nat) : Int) = m1.1 66 ((45 : Nat) : Int)) (f48 : m.1 66 ((48 : Nat) : Int) = m1.1 66 ((48 : Nat) : Int)) (f60 : m.1 66 ((60 : Nat) : Int) = m1.1 66 ((60 : Nat) : Int) + 1) : zQx μ m := by
  have c : ∀ j : Nat, j ≠ 66 → m1.1 j = μ.1 j := fun j hj => by rw [e, zu_ne hj]
  have e8 : zTop m1 = zTop μ := by unfold zTop; rw [e]; exact zu_nk (by decide)
  have e45 : m1.1 66 ((45 : Nat) : Int) = μ.1 66 ((45 : Nat) : Int) := by rw [e]; exact zu_nk (by decide)
  have e60 : m1.1 66 ((60 : Nat) : Int) = μ.1 66 ((60 : Nat) : Int) := by rw [e]; exact zu_nk (by decide)
  have e48 : m1.1 66 ((48 : Nat) : Int) = k := by rw [e]; exact zu_at
  rw [e8] at h
  refine ⟨zOld_l (fun j a b => c j (by omega)) h.1, h.2.1, ⟨by omega, by omega, by omega⟩, by omega, by omega, fun v _ _ => ?_⟩
  rw [hf 88 (by omega) (by omega), hf 89 (by omega) (by omega), hf 90 (by omega) (by omega), c 88 (by decide), c 89 (by decide), c 90 (by decide)]
  exact ⟨rfl, rfl, fun _ _ _ => rfl⟩
/-- what is known, put together anew behind a write among the new variables -/
theorem zQI_nf {m m' : zM} {C Pn tt : Int} (h : zQI m C Pn tt) (hc : ∀ j : Nat, 67 ≤ j → j ≤ 73 → m'.1 j = m.1 j) (hf : ∀ j : Nat, 76 ≤ j → j ≤ 84 → m'.1 j = m.1 j) (hv : zNf m' (m'.1 66 ((45 : Nat) : Int))) (hs : m'.1 98 = m.1 98) (f8 : m'.1 66 ((8 : Nat) : Int) = m.1 66 ((8 : Nat) : Int)) (f45 : m.1 66 ((45 : Nat) : Int) ≤ m'.1 66 ((45 : Nat) : Int)) (f60 : m'.1 66 ((60 : Nat) : Int) = m.1 66 ((60 : Nat) : Int)) : zQI m' C Pn tt := by
  obtain ⟨h1, h2, h3, h4, h5, h6, h7⟩ := h
  have ht : zTop m' = zTop m := f8
  have ho : zOld m m' (zTop m) := zOld_same (fun j a b => hc j a (by omega))
  refine ⟨zND_t.2 (by rw [ht]; exact zNDt_same hc (zND_t.1 h1)), zTb_old h2 ho h3 h1.2.1 hf, by omega, zWf_same h4 (fun j a b => hc j a (by omega)) (hf 77 (by omega) (by omega)), ?_, hv, ?_⟩
  · rw [ht]
    intro x a b
    obtain ⟨w1, w2, w3, w4, w5⟩ := zWf_same h5 (fun j a b => hc j a (by omega)) (hf 77 (by omega) (by omega)) x a b
    exact ⟨w1, w2, w3, fun q => ⟨by have := (w4 q).1; omega, (w4 q).2⟩, w5⟩
  · rw [hs, f60]; exact h7
theorem zNf_88 {m m' : zM} {F v i k x : Int} (h : zNf m F) (e : m' = zu m 88 k x) (hk : k = 3 * v + i) (hi : 0 ≤ i ∧ i < 3) (hx : m.1 89 v ≤ i ∨ zTy m x) : zNf m' F := by
  have c : ∀ j : Nat, j ≠ 88 → m'.1 j = m.1 j := fun j hj => by rw [e, zu_ne hj]
  have ty : ∀ y : Int, zTy m y → zTy m' y := fun y hy => zTy_same hy (c 67 (by decide)) (by rw [c 66 (by decide)])
  intro u u0 u1
  rw [c 89 (by decide), c 90 (by decide)]
  obtain ⟨g1, g2, g3⟩ := h u u0 u1
  refine ⟨g1, fun l l0 l1 => ?_, fun q => ty _ (g3 q)⟩
  by_cases hq : 3 * u + l = k
  · have e1 : u = v := by omega
    have e2 : l = i := by omega
    rw [hq, e, zu_at, ← e]
    subst e1 e2
    rcases hx with q | q
    · omega
    · exact ty _ q
  · rw [e, zu_nk hq, ← e]
    exact ty _ (g2 l l0 l1)
theorem zNf_89 {m m' : zM} {F v n : Int} (h : zNf m F) (e : m' = zu m 89 v n) (hn : 0 ≤ n ∧ n ≤ 3) (hx : ∀ i : Int, 0 ≤ i → i < n → zTy m (m.1 88 (3 * v + i))) : zNf m' F := by
  have c : ∀ j : Nat, j ≠ 89 → m'.1 j = m.1 j := fun j hj => by rw [e, zu_ne hj]
  have ty : ∀ y : Int, zTy m y → zTy m' y := fun y hy => zTy_same hy (c 67 (by decide)) (by rw [c 66 (by decide)])
  intro u u0 u1
  rw [c 88 (by decide), c 90 (by decide)]
  obtain ⟨g1, g2, g3⟩ := h u u0 u1
  by_cases hq : u = v
  · have e1 : m'.1 89 u = n := by rw [hq, e, zu_at]
    rw [e1, hq]
    rw [hq] at g3
    exact ⟨hn, fun i a b => ty _ (hx i a b), fun q => ty _ (g3 q)⟩
  · have e1 : m'.1 89 u = m.1 89 u := by rw [e, zu_nk hq]
    rw [e1]
    exact ⟨g1, fun i a b => ty _ (g2 i a b), fun q => ty _ (g3 q)⟩
theorem zNf_90 {m m' : zM} {F v x : Int} (h : zNf m F) (e : m' = zu m 90 v x) (hx : 0 ≤ x → zTy m x) : zNf m' F := by
  have c : ∀ j : Nat, j ≠ 90 → m'.1 j = m.1 j := fun j hj => by rw [e, zu_ne hj]
  have ty : ∀ y : Int, zTy m y → zTy m' y := fun y hy => zTy_same hy (c 67 (by decide)) (by rw [c 66 (by decide)])
  intro u u0 u1
  rw [c 88 (by decide), c 89 (by decide)]
  obtain ⟨g1, g2, g3⟩ := h u u0 u1
  refine ⟨g1, fun i a b => ty _ (g2 i a b), ?_⟩
  by_cases hq : u = v
  · have e1 : m'.1 90 u = x := by rw [hq, e, zu_at]
    rw [e1]
    exact fun q => ty _ (hx q)
  · have e1 : m'.1 90 u = m.1 90 u := by rw [e, zu_nk hq]
    rw [e1]
    exact fun q => ty _ (g3 q)
theorem zQ_ty {m m' : zM} {C Pn tt t w n s f : Int} (h : zQI m C Pn tt) (ht : zTs m tt t) (hw : zCt m w) (hn : n = m.1 69 w) (hJ : zSJ m m' 0 s f n w (fun y => y ∈ zsb m 20000 t)) (h98 : m'.1 98 t = s) (hk : m.1 67 t ≤ 2) : zTy m' (m'.1 97 t) := by
  have hwa : ∀ i : Int, 0 ≤ i → i < n → 0 ≤ m.1 70 (4 * w + i) ∧ m.1 67 (m.1 70 (4 * w + i)) ≤ 2 := fun i a b => ⟨((h.1.2.1 w hw.1.1 hw.1.2).2.1 i a (by omega)).1, hw.2.2 i a (by omega)⟩
  have tr := ht.1
  have h3 := h.2.2.1
  exact ⟨(hJ.2.2.2.1 t tr.1 (by omega) h98).2.1, zSJ_kd hJ h.1.2.1 hw.1 (by omega) hwa tr.1 (by omega) h98 hk⟩
