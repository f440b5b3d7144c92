/-! ### what a node becomes with others in its parameters' place -/
def zSt (m : zM) (f n w : Int) (R : Int → Int → Prop) (x y : Int) : Prop := (m.1 67 x = 1 ∧ 0 ≤ m.1 68 x - f ∧ m.1 68 x - f < n ∧ y = m.1 70 (4 * w + (m.1 68 x - f))) ∨ (m.1 67 x ≠ 1 ∧ m.1 67 y = m.1 67 x ∧ m.1 68 y = m.1 68 x ∧ m.1 69 y = m.1 69 x ∧ ∀ i : Int, 0 ≤ i → i < m.1 69 x → R (m.1 70 (4 * x + i)) (m.1 70 (4 * y + i)))
def zSR (m : zM) (f n w x y : Int) : Prop := ∃ R : Int → Int → Prop, R x y ∧ ∀ x y : Int, R x y → zSt m f n w R x y
theorem zSt_m {m : zM} {f n w : Int} {R Q : Int → Int → Prop} (h : ∀ x y : Int, R x y → Q x y) {x y : Int} (hs : zSt m f n w R x y) : zSt m f n w Q x y := by
  rcases hs with c | ⟨c1, c2, c3, c4, c5⟩
  · exact Or.inl c
  · exact Or.inr ⟨c1, c2, c3, c4, fun i a b => h _ _ (c5 i a b)⟩
theorem zSR_st {m : zM} {f n w x y : Int} (h : zSR m f n w x y) : zSt m f n w (zSR m f n w) x y := by
  obtain ⟨R, h1, h2⟩ := h
  exact zSt_m (fun a b hab => ⟨R, hab, h2⟩) (h2 x y h1)
/-- what it becomes is one -/
theorem zSR_det {m : zM} {lo T f n w : Int} (h0 : 0 ≤ lo) (hT : T = zTop m) (nd : ∀ x : Int, 0 ≤ x → x < T → zNd m x) (wf : ∀ x : Int, lo ≤ x → x < T → ∀ i : Int, 0 ≤ i → i < m.1 69 x → lo ≤ m.1 70 (4 * x + i)) (hu : zUq m lo) : ∀ (k : Nat) (x y y' : Int), x.toNat = k → 0 ≤ x → x < T → zSR m f n w x y → zSR m f n w x y' → lo ≤ y → y < T → lo ≤ y' → y' < T → y = y' := by
  intro k
  induction k using Nat.strongRecOn with
  | ind k ih =>
    intro x y y' hk x0 x1 h1 h2 a1 a2 b1 b2
    have N := nd x x0 x1
    rcases zSR_st h1 with ⟨c1, c2, c3, c4⟩ | ⟨c1, c2, c3, c4, c5⟩
    · rcases zSR_st h2 with ⟨d1, d2, d3, d4⟩ | ⟨d1, d2, d3, d4, d5⟩
      · rw [c4, d4]
      · exact absurd c1 d1
    · rcases zSR_st h2 with ⟨d1, d2, d3, d4⟩ | ⟨d1, d2, d3, d4, d5⟩
      · exact absurd d1 c1
      · refine hu y y' a1 (by omega) b1 (by omega) ⟨by rw [c2, d2], by rw [c3, d3], by rw [c4, d4], fun i i0 i1 => ?_⟩
        have i2 : i < m.1 69 x := by omega
        have p := N.2.1 i i0 i2
        have q := (nd y (by omega) a2).2.1 i i0 (by omega)
        have q' := (nd y' (by omega) b2).2.1 i i0 (by omega)
        exact (ih _ (by omega) _ _ _ rfl p.1 (by omega) (c5 i i0 i2) (d5 i i0 i2) (wf y a1 a2 i i0 (by omega)) (by omega) (wf y' b1 b2 i i0 (by omega)) (by omega)).symm
theorem zSR_old {μ m : zM} {T f n w x y : Int} (ho : zOld μ m T) (nd : ∀ x : Int, 0 ≤ x → x < T → zNd μ x) (h : zSR μ f n w x y) (hx : 0 ≤ x ∧ x < T) (hy : 0 ≤ y ∧ y < T) (hw : 0 ≤ w ∧ w < T) (hn : n ≤ μ.1 69 w) : zSR m f n w x y := by
  refine ⟨fun x y => zSR μ f n w x y ∧ (0 ≤ x ∧ x < T) ∧ (0 ≤ y ∧ y < T), ⟨h, hx, hy⟩, fun x y hxy => ?_⟩
  obtain ⟨h, hx, hy⟩ := hxy
  obtain ⟨o1, o2, o3, o4, o5⟩ := ho x hx.1 hx.2
  obtain ⟨p1, p2, p3, p4, p5⟩ := ho y hy.1 hy.2
  have nw := (nd w hw.1 hw.2).1.2
  have nx := nd x hx.1 hx.2
  have ny := nd y hy.1 hy.2
  rcases zSR_st h with ⟨c1, c2, c3, c4⟩ | ⟨c1, c2, c3, c4, c5⟩
  · refine Or.inl ⟨by rw [o1]; exact c1, by rw [o2]; exact c2, by rw [o2]; exact c3, ?_⟩
    rw [o2, (ho w hw.1 hw.2).2.2.2.2 _ c2 (by omega)]
    exact c4
  · refine Or.inr ⟨by rw [o1]; exact c1, by rw [p1, o1]; exact c2, by rw [p2, o2]; exact c3, by rw [p3, o3]; exact c4, fun i i0 i1 => ?_⟩
    rw [o3] at i1
    have h4 := nx.1.2
    rw [o5 i i0 (by omega), p5 i i0 (by omega)]
    have a := nx.2.1 i i0 i1
    have b := ny.2.1 i i0 (by omega)
    exact ⟨c5 i i0 i1, ⟨a.1, by omega⟩, ⟨b.1, by omega⟩⟩
/-- a type put anew becomes that -/
theorem zSJ_SR {μ m : zM} {lo s f n w x : Int} {P : Int → Prop} (hJ : zSJ μ m lo s f n w P) (nd : ∀ x : Int, 0 ≤ x → x < zTop μ → zNd μ x) (hP : ∀ x : Int, P x → μ.1 67 x = 1 → 0 ≤ μ.1 68 x - f ∧ μ.1 68 x - f < n) (hx : 0 ≤ x ∧ x < zTop μ) (hs : m.1 98 x = s) : zSR m f n w x (m.1 97 x) := by
  refine ⟨fun x y => (0 ≤ x ∧ x < zTop μ) ∧ m.1 98 x = s ∧ y = m.1 97 x, ⟨hx, hs, rfl⟩, fun x y hxy => ?_⟩
  obtain ⟨hx, hs, hy⟩ := hxy
  obtain ⟨g1, g2, g3⟩ := hJ.2.2.2.1 x hx.1 hx.2 hs
  have ox := hJ.2.1 x hx.1 hx.2
  have nx := nd x hx.1 hx.2
  have hp := hP x (hJ.2.2.2.2.2 x hx.1 hx.2 hs)
  rw [← ox.1, ← ox.2.1] at hp
  rcases g3 with ⟨c1, ⟨c2, c3, c4⟩ | ⟨c2, c4⟩⟩ | ⟨c1, c2, c3⟩ | ⟨c1, c2, c3, c4⟩
  · exact Or.inl ⟨c1, c2, c3, by rw [hy]; exact c4⟩
  · have := hp c1; omega
  · rw [hy, c3]
    exact Or.inr ⟨c1, rfl, rfl, rfl, fun i i0 i1 => by omega⟩
  · rw [hy]
    refine Or.inr ⟨c1, c4.1, c4.2.1, c4.2.2.1, fun i i0 i1 => ?_⟩
    rw [c4.2.2.2 i i0 i1]
    have i1' := i1
    rw [ox.2.2.1] at i1'
    have p := nx.2.1 i i0 i1'
    have h4 := nx.1.2
    have e := ox.2.2.2.2 i i0 (by omega)
    exact ⟨by rw [e]; exact ⟨p.1, by omega⟩, g1 i i0 i1, rfl⟩
theorem zsb_up (m : zM) : ∀ (k : Nat) (x y : Int), y ∈ zsb m k x → y ∈ zsb m (k + 1) x
  | 0, x, y, h => by
    have e : y = x := List.mem_singleton.mp h
    rw [e]; exact zsb_self _ _ _
  | k + 1, x, y, h => by
    rcases zsb_mem.mp h with e | ⟨i, i0, i1, i2⟩
    · rw [e]; exact zsb_self _ _ _
    · exact zsb_mem.mpr (Or.inr ⟨i, i0, i1, zsb_up m k _ y i2⟩)
theorem zct_eq {g g' : Nat → List Int} : ∀ {n : Nat}, (∀ i : Nat, i < n → g' i = g i) → zct g' n = zct g n
  | 0, _ => rfl
  | n + 1, h => by
    unfold zct
    rw [zct_eq (n := n) (fun i hi => h i (by omega)), h n (by omega)]
theorem zsb_old {μ m : zM} {T : Int} (ho : zOld μ m T) (nd : ∀ x : Int, 0 ≤ x → x < T → zNd μ x) : ∀ (k : Nat) (x : Int), 0 ≤ x → x < T → zsb m k x = zsb μ k x
  | 0, _, _, _ => rfl
  | k + 1, x, h0, h1 => by
    obtain ⟨o1, o2, o3, o4, o5⟩ := ho x h0 h1
    have nx := nd x h0 h1
    show x :: zct (fun i => zsb m k (m.1 70 (4 * x + ((i : Nat) : Int)))) (m.1 69 x).toNat = x :: zct (fun i => zsb μ k (μ.1 70 (4 * x + ((i : Nat) : Int)))) (μ.1 69 x).toNat
    rw [o3, zct_eq (g := fun i => zsb μ k (μ.1 70 (4 * x + ((i : Nat) : Int)))) (fun i hi => ?_)]
    have p := nx.2.1 ((i : Nat) : Int) (by omega) (by omega)
    have h4 := nx.1.2
    show zsb m k (m.1 70 (4 * x + ((i : Nat) : Int))) = zsb μ k (μ.1 70 (4 * x + ((i : Nat) : Int)))
    rw [o5 _ (by omega) (by omega)]
    exact zsb_old ho nd k _ p.1 (by omega)
/-- the parts of what it became -/
theorem zSR_sub {m : zM} {f n w : Int} : ∀ (k : Nat) (t u σ : Int), zSR m f n w t u → σ ∈ zsb m k u → (∃ τ, τ ∈ zsb m k t ∧ zSR m f n w τ σ) ∨ ∃ j : Int, 0 ≤ j ∧ j < n ∧ σ ∈ zsb m k (m.1 70 (4 * w + j))
  | 0, t, u, σ, h, hs => by
    have e : σ = u := List.mem_singleton.mp hs
    rw [e]
    exact Or.inl ⟨t, zsb_self _ _ _, h⟩
  | k + 1, t, u, σ, h, hs => by
    rcases zSR_st h with ⟨c1, c2, c3, c4⟩ | ⟨c1, c2, c3, c4, c5⟩
    · rw [c4] at hs
      exact Or.inr ⟨_, c2, c3, hs⟩
    · rcases zsb_mem.mp hs with e | ⟨i, i0, i1, i2⟩
      · rw [e]; exact Or.inl ⟨t, zsb_self _ _ _, h⟩
      · rcases zSR_sub k _ _ σ (c5 i i0 (by omega)) i2 with ⟨τ, t1, t2⟩ | ⟨j, j0, j1, j2⟩
        · exact Or.inl ⟨τ, zsb_mem.mpr (Or.inr ⟨i, i0, by omega, t1⟩), t2⟩
        · exact Or.inr ⟨j, j0, j1, zsb_up m k _ σ j2⟩
/-- with its own parameters it stays what it is -/
theorem zSR_id {m : zM} {lo f n w x : Int} (hu : zUq m lo) (P : Int → Prop) (hP : ∀ x : Int, P x → (lo ≤ x ∧ x < zTop m) ∧ (m.1 67 x = 1 → m.1 69 x = 0 ∧ f ≤ m.1 68 x ∧ m.1 68 x < f + n) ∧ ∀ i : Int, 0 ≤ i → i < m.1 69 x → P (m.1 70 (4 * x + i))) (hw : ∀ i : Int, 0 ≤ i → i < n → (lo ≤ m.1 70 (4 * w + i) ∧ m.1 70 (4 * w + i) < zTop m) ∧ m.1 67 (m.1 70 (4 * w + i)) = 1 ∧ m.1 68 (m.1 70 (4 * w + i)) = f + i ∧ m.1 69 (m.1 70 (4 * w + i)) = 0) (hx : P x) : zSR m f n w x x := by
  refine ⟨fun x y => P x ∧ y = x, ⟨hx, rfl⟩, fun x y hxy => ?_⟩
  obtain ⟨hx, hy⟩ := hxy
  obtain ⟨h1, h2, h3⟩ := hP x hx
  rw [hy]
  by_cases hk : m.1 67 x = 1
  · obtain ⟨k1, k2, k3⟩ := h2 hk
    obtain ⟨a1, a2, a3, a4⟩ := hw (m.1 68 x - f) (by omega) (by omega)
    refine Or.inl ⟨hk, by omega, by omega, hu x _ h1.1 h1.2 a1.1 a1.2 ⟨by rw [a2, hk], by rw [a3]; omega, by rw [a4, k1], fun i i0 i1 => by omega⟩⟩
  · exact Or.inr ⟨hk, rfl, rfl, rfl, fun i i0 i1 => ⟨h3 i i0 i1, rfl⟩⟩
