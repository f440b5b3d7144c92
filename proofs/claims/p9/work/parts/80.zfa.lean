/-! ### what is found above a class: labels, and how many there are -/
def zXe (m : zM) (c j : Int) : Int := m.1 68 (zXs m c j)
def zLfQ (ν : zM) (f : Int) : List Int := zct (fun i => zsb ν 20000 (zXs ν f ((i : Nat) : Int))) (ν.1 79 (21 + f)).toNat
def zLa (ν : zM) : Nat → List (Int × Int)
  | 0 => []
  | f + 1 => zLa ν f ++ (zLfQ ν ((f : Nat) : Int)).map (fun x => (((f : Nat) : Int), x))
def zLj (ν : zM) (n : Nat) : Nat → List (Int × Int × Int)
  | 0 => []
  | j + 1 => zLj ν n j ++ (zLa ν n).map (fun q => (((j : Nat) : Int), q))
def zW1s (ν : zM) (f : Int) : Int := zsm (fun i => ν.1 71 (zXs ν f i)) (ν.1 79 (21 + f)).toNat - 1
def zWs (ν : zM) : Nat → Int
  | 0 => 0
  | f + 1 => zWs ν f + zW1s ν ((f : Nat) : Int)
theorem zLf_mem {ν : zM} {f x : Int} (h : zXm ν f x) : x ∈ zLfQ ν f := by
  obtain ⟨i, i0, i1, i2⟩ := h
  refine zct_mem.mpr ⟨i.toNat, by omega, ?_⟩
  show x ∈ zsb ν 20000 (zXs ν f ((i.toNat : Nat) : Int))
  rw [Int.toNat_of_nonneg i0]
  exact i2
theorem zLa_mem {ν : zM} : ∀ {n : Nat} {f x : Int}, 0 ≤ f → f < (n : Int) → zXm ν f x → (f, x) ∈ zLa ν n
  | 0, f, x, h0, h1, h => by omega
  | n + 1, f, x, h0, h1, h => by
    by_cases e : f = ((n : Nat) : Int)
    · subst e
      exact List.mem_append.mpr (Or.inr (List.mem_map.mpr ⟨x, zLf_mem h, rfl⟩))
    · exact List.mem_append.mpr (Or.inl (zLa_mem h0 (by omega) h))
theorem zLj_mem {ν : zM} {n : Nat} {q : Int × Int} : ∀ {J : Nat} {j : Int}, 0 ≤ j → j < (J : Int) → q ∈ zLa ν n → (j, q) ∈ zLj ν n J
  | 0, j, h0, h1, h => by omega
  | J + 1, j, h0, h1, h => by
    by_cases e : j = ((J : Nat) : Int)
    · subst e
      exact List.mem_append.mpr (Or.inr (List.mem_map.mpr ⟨q, h, rfl⟩))
    · exact List.mem_append.mpr (Or.inl (zLj_mem h0 (by omega) h))
theorem zLf_len {ν : zM} {lo P f : Int} (h0 : 0 ≤ lo) (nd : ∀ x : Int, 0 ≤ x → x < zTop ν → zNd ν x) (hc : zCl ν lo f P) : ((zLfQ ν f).length : Int) ≤ zW1s ν f := by
  have h := zct_len (g := fun i => zsb ν 20000 (zXs ν f ((i : Nat) : Int))) (f := fun i => ν.1 71 (zXs ν f i)) (n := (ν.1 79 (21 + f)).toNat) (fun i hi => by
    have q := (hc.2 ((i : Nat) : Int) (by omega) (by omega)).1
    exact zsb_len nd 20000 _ (by have := q.1.1; omega) q.1.2 (by have := q.2.1; omega))
  unfold zLfQ zW1s
  omega
theorem zLa_len {ν : zM} {lo P : Int} (h0 : 0 ≤ lo) (nd : ∀ x : Int, 0 ≤ x → x < zTop ν → zNd ν x) : ∀ {n : Nat}, (∀ f : Int, 0 ≤ f → f < (n : Int) → zCl ν lo f P) → ((zLa ν n).length : Int) ≤ zWs ν n
  | 0, _ => by show ((0 : Nat) : Int) ≤ 0; omega
  | n + 1, h => by
    have h1 := zLa_len h0 nd (n := n) (fun f a b => h f a (by omega))
    have h2 := zLf_len h0 nd (h ((n : Nat) : Int) (by omega) (by omega))
    show (((zLa ν n ++ (zLfQ ν ((n : Nat) : Int)).map _).length : Nat) : Int) ≤ zWs ν n + zW1s ν ((n : Nat) : Int)
    rw [List.length_append, List.length_map]
    omega
theorem zLj_len {ν : zM} {n : Nat} : ∀ {J : Nat}, (zLj ν n J).length = J * (zLa ν n).length
  | 0 => by show 0 = 0 * _; omega
  | J + 1 => by
    show (zLj ν n J ++ (zLa ν n).map _).length = (J + 1) * (zLa ν n).length
    rw [List.length_append, List.length_map, zLj_len (J := J), Nat.add_mul, Nat.one_mul]
/-- nodes are apart, parts stand from lo on -/
def zDt (m : zM) (lo : Int) : Prop := zND m lo ∧ zUq m lo ∧ ∀ x : Int, lo ≤ x → x < zTop m → ∀ i : Int, 0 ≤ i → i < m.1 69 x → lo ≤ m.1 70 (4 * x + i)
theorem zdet {m : zM} {lo f n w x y y' : Int} (h : zDt m lo) (hx : 0 ≤ x ∧ x < zTop m) (h1 : zSR m f n w x y) (h2 : zSR m f n w x y') (hy : lo ≤ y ∧ y < zTop m) (hy' : lo ≤ y' ∧ y' < zTop m) : y = y' :=
  zSR_det h.1.1.1 rfl h.1.2.1 h.2.2 h.2.1 _ x y y' rfl hx.1 hx.2 h1 h2 hy.1 hy.2 hy'.1 hy'.2
def zLrQ (ν m : zM) (lo c : Int) (q : Int × Int × Int) (z : Int) : Prop := (lo ≤ z ∧ z < zTop m) ∧ (0 ≤ q.2.2 ∧ q.2.2 < zTop m) ∧ ((0 ≤ zXa ν (zXe ν c q.1) q.2.1 ∧ zXa ν (zXe ν c q.1) q.2.1 < zTop m) ∧ zXn ν q.2.1 ≤ m.1 69 (zXa ν (zXe ν c q.1) q.2.1)) ∧ ((0 ≤ zXs ν c q.1 ∧ zXs ν c q.1 < zTop m) ∧ zXn ν (zXe ν c q.1) ≤ m.1 69 (zXs ν c q.1)) ∧
  ∃ y : Int, (lo ≤ y ∧ y < zTop m) ∧ zSR m (zXf ν q.2.1) (zXn ν q.2.1) (zXa ν (zXe ν c q.1) q.2.1) q.2.2 y ∧ zSR m (zXf ν (zXe ν c q.1)) (zXn ν (zXe ν c q.1)) (zXs ν c q.1) y z
def zLb (ν m : zM) (lo c J z : Int) : Prop := ∃ q : Int × Int × Int, ((0 ≤ q.1 ∧ q.1 < J) ∧ 0 ≤ zXe ν c q.1) ∧ (0 ≤ q.2.1 ∧ q.2.1 < c) ∧ zXm ν q.2.1 q.2.2 ∧ zLrQ ν m lo c q z
theorem zLr_f {ν m : zM} {lo c z z' : Int} {q : Int × Int × Int} (hd : zDt m lo) (h1 : zLrQ ν m lo c q z) (h2 : zLrQ ν m lo c q z') : z = z' := by
  obtain ⟨a1, a2, a3, a4, y, a5, a6, a7⟩ := h1
  obtain ⟨b1, b2, b3, b4, y', b5, b6, b7⟩ := h2
  have e := zdet hd a2 a6 b6 a5 b5
  subst e
  exact zdet hd ⟨by have := hd.1.1.1; omega, a5.2⟩ a7 b7 a1 b1
theorem zLb_cnt {ν m : zM} {lo c P J T0 : Int} (h0 : 0 ≤ lo) (nd : ∀ x : Int, 0 ≤ x → x < zTop ν → zNd ν x) (hC : ∀ f : Int, 0 ≤ f → f < c → zCl ν lo f P) (c0 : 0 ≤ c) (j0 : 0 ≤ J) (hd : zDt m lo) (h : ∀ z : Int, T0 ≤ z → z < zTop m → zLb ν m lo c J z) : zTop m - T0 ≤ J * zWs ν c.toNat := by
  have h1 := zpigI (R := zLrQ ν m lo c) (fun q z z' a b => zLr_f hd a b) (a := T0) (b := zTop m) (L := zLj ν c.toNat J.toNat) (fun z a b => by
    obtain ⟨q, q1, q2, q3, q4⟩ := h z a b
    exact ⟨q, zLj_mem (J := J.toNat) (j := q.1) (q := q.2) q1.1.1 (by have := q1.1.2; omega) (zLa_mem (n := c.toNat) (f := q.2.1) (x := q.2.2) q2.1 (by have := q2.2; omega) q3), q4⟩)
  rw [zLj_len] at h1
  have h2 := zLa_len h0 nd (n := c.toNat) (fun f a b => hC f a (by omega))
  have h3 : ((J.toNat * (zLa ν c.toNat).length : Nat) : Int) = J * ((zLa ν c.toNat).length : Int) := by
    rw [Int.natCast_mul, Int.toNat_of_nonneg j0]
  have h4 : J * ((zLa ν c.toNat).length : Int) ≤ J * zWs ν c.toNat := Int.mul_le_mul_of_nonneg_left h2 j0
  omega
theorem zLb_old {ν m m' : zM} {lo c J J' z : Int} (h0 : 0 ≤ lo) (nd : ∀ x : Int, 0 ≤ x → x < zTop m → zNd m x) (ho : zOld m m' (zTop m)) (ht : zTop m ≤ zTop m') (hJ : J ≤ J') (h : zLb ν m lo c J z) : zLb ν m' lo c J' z := by
  obtain ⟨q, q1, q2, q3, a1, a2, a3, a4, y, a5, a6, a7⟩ := h
  refine ⟨q, ⟨⟨q1.1.1, by have := q1.1.2; omega⟩, q1.2⟩, q2, q3, ⟨a1.1, by omega⟩, ⟨a2.1, by omega⟩, ⟨⟨a3.1.1, by omega⟩, ?_⟩, ⟨⟨a4.1.1, by omega⟩, ?_⟩, y, ⟨a5.1, by omega⟩, zSR_old ho nd a6 a2 ⟨by omega, a5.2⟩ a3.1 a3.2, zSR_old ho nd a7 ⟨by omega, a5.2⟩ ⟨by omega, a1.2⟩ a4.1 a4.2⟩
  · rw [(ho _ a3.1.1 a3.1.2).2.2.1]; exact a3.2
  · rw [(ho _ a4.1.1 a4.1.2).2.2.1]; exact a4.2
/-- parameters of a node's parts -/
theorem zPar_sb {m : zM} {a b : Int} : ∀ (k : Nat) (t y : Int), zPar m a b t → y ∈ zsb m k t → zPar m a b y
  | 0, t, y, h, hy => by
    have e : y = t := List.mem_singleton.mp hy
    rw [e]; exact h
  | k + 1, t, y, h, hy => by
    rcases zsb_mem.mp hy with e | ⟨i, i0, i1, i2⟩
    · rw [e]; exact h
    · obtain ⟨P, p1, p2⟩ := h
      exact zPar_sb k _ y ⟨P, (p2 t p1).2 i i0 i1, p2⟩ i2
theorem zPar_k {m : zM} {a b y : Int} (h : zPar m a b y) (hk : m.1 67 y = 1) : a ≤ m.1 68 y ∧ m.1 68 y < b := by
  obtain ⟨P, p1, p2⟩ := h
  exact (p2 y p1).1 hk
theorem zPar_a {m : zM} {a b y i : Int} (h : zPar m a b y) (i0 : 0 ≤ i) (i1 : i < m.1 69 y) : zPar m a b (m.1 70 (4 * y + i)) := by
  obtain ⟨P, p1, p2⟩ := h
  exact ⟨P, (p2 y p1).2 i i0 i1, p2⟩
theorem zSR_par {m : zM} {f n w a b t u : Int} (hw : ∀ j : Int, 0 ≤ j → j < n → zPar m a b (m.1 70 (4 * w + j))) (h : zSR m f n w t u) : zPar m a b u := by
  refine ⟨fun σ => (∃ τ, zSR m f n w τ σ) ∨ zPar m a b σ, Or.inl ⟨t, h⟩, fun σ hσ => ?_⟩
  have key : zPar m a b σ → (m.1 67 σ = 1 → a ≤ m.1 68 σ ∧ m.1 68 σ < b) ∧ ∀ i : Int, 0 ≤ i → i < m.1 69 σ → (∃ τ, zSR m f n w τ (m.1 70 (4 * σ + i))) ∨ zPar m a b (m.1 70 (4 * σ + i)) := fun h => ⟨zPar_k h, fun i i0 i1 => Or.inr (zPar_a h i0 i1)⟩
  rcases hσ with ⟨τ, hτ⟩ | hσ
  · rcases zSR_st hτ with ⟨c1, c2, c3, c4⟩ | ⟨c1, c2, c3, c4, c5⟩
    · exact key (by rw [c4]; exact hw _ c2 c3)
    · exact ⟨fun e => by omega, fun i i0 i1 => Or.inl ⟨_, c5 i i0 (by omega)⟩⟩
  · exact key hσ
/-- a class's own type becomes what stands in its place -/
theorem zSR_own {m : zM} {f n w x : Int} (hx : m.1 67 x = 0) (hw : m.1 67 w = 0) (hv : m.1 68 w = m.1 68 x) (hc : m.1 69 w = m.1 69 x) (hn : m.1 69 x = n) (ha : ∀ i : Int, 0 ≤ i → i < n → m.1 67 (m.1 70 (4 * x + i)) = 1 ∧ m.1 68 (m.1 70 (4 * x + i)) = f + i) : zSR m f n w x w := by
  refine ⟨fun a b => (a = x ∧ b = w) ∨ ∃ i : Int, 0 ≤ i ∧ i < n ∧ a = m.1 70 (4 * x + i) ∧ b = m.1 70 (4 * w + i), Or.inl ⟨rfl, rfl⟩, fun a b hab => ?_⟩
  rcases hab with ⟨e1, e2⟩ | ⟨i, i0, i1, e1, e2⟩
  · subst e1 e2
    exact Or.inr ⟨by omega, by rw [hw, hx], hv, hc, fun i i0 i1 => Or.inr ⟨i, i0, by omega, rfl, rfl⟩⟩
  · obtain ⟨k1, k2⟩ := ha i i0 i1
    rw [← e1] at k1 k2
    exact Or.inl ⟨k1, by omega, by omega, by rw [k2, show f + i - f = i by omega]; exact e2⟩
