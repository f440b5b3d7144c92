/-! ### the parts of a node, and how many there are -/
def zct (g : Nat → List Int) : Nat → List Int
  | 0 => []
  | n + 1 => zct g n ++ g n
theorem zct_mem {g : Nat → List Int} {y : Int} : ∀ {n : Nat}, y ∈ zct g n ↔ ∃ i : Nat, i < n ∧ y ∈ g i
  | 0 => by
    constructor
    · intro h; cases h
    · rintro ⟨i, h, -⟩; omega
  | n + 1 => by
    show y ∈ zct g n ++ g n ↔ _
    rw [List.mem_append, zct_mem (n := n)]
    constructor
    · rintro (⟨i, h1, h2⟩ | h)
      · exact ⟨i, by omega, h2⟩
      · exact ⟨n, by omega, h⟩
    · rintro ⟨i, h1, h2⟩
      by_cases e : i = n
      · subst e; exact Or.inr h2
      · exact Or.inl ⟨i, by omega, h2⟩
def zsb (m : zM) : Nat → Int → List Int
  | 0, x => [x]
  | k + 1, x => x :: zct (fun i => zsb m k (m.1 70 (4 * x + ((i : Nat) : Int)))) (m.1 69 x).toNat
theorem zsb_self (m : zM) (k : Nat) (x : Int) : x ∈ zsb m k x := by
  cases k
  · exact List.mem_singleton.mpr rfl
  · exact List.mem_cons_self
theorem zsb_mem {m : zM} {k : Nat} {x y : Int} : y ∈ zsb m (k + 1) x ↔ y = x ∨ ∃ i : Int, 0 ≤ i ∧ i < m.1 69 x ∧ y ∈ zsb m k (m.1 70 (4 * x + i)) := by
  show y ∈ x :: zct _ _ ↔ _
  rw [List.mem_cons, zct_mem]
  constructor
  · rintro (h | ⟨i, h1, h2⟩)
    · exact Or.inl h
    · exact Or.inr ⟨((i : Nat) : Int), by omega, by omega, h2⟩
  · rintro (h | ⟨i, h0, h1, h2⟩)
    · exact Or.inl h
    · refine Or.inr ⟨i.toNat, by omega, ?_⟩
      rw [Int.toNat_of_nonneg h0]
      exact h2
theorem zsb_rng {m : zM} {t : Int} (hn : ∀ x : Int, 0 ≤ x → x < t → zNd m x) : ∀ (k : Nat) (x y : Int), 0 ≤ x → x < t → y ∈ zsb m k x → 0 ≤ y ∧ y ≤ x
  | 0, x, y, h0, h1, hy => by
    have : y = x := List.mem_singleton.mp hy
    omega
  | k + 1, x, y, h0, h1, hy => by
    rcases zsb_mem.mp hy with e | ⟨i, i0, i1, i2⟩
    · omega
    · have nd := (hn x h0 h1).2.1 i i0 i1
      have := zsb_rng hn k _ y nd.1 (by omega) i2
      omega
theorem zsb_cl {m : zM} {t : Int} (hn : ∀ x : Int, 0 ≤ x → x < t → zNd m x) : ∀ (k : Nat) (x : Int), 0 ≤ x → x < t → x < (k : Int) → ∀ y : Int, y ∈ zsb m k x → ∀ i : Int, 0 ≤ i → i < m.1 69 y → m.1 70 (4 * y + i) ∈ zsb m k x
  | 0, x, h0, h1, h2, y, hy, i, i0, i1 => by omega
  | k + 1, x, h0, h1, h2, y, hy, i, i0, i1 => by
    rcases zsb_mem.mp hy with e | ⟨j, j0, j1, j2⟩
    · subst e
      exact zsb_mem.mpr (Or.inr ⟨i, i0, i1, zsb_self _ _ _⟩)
    · have nd := (hn x h0 h1).2.1 j j0 j1
      exact zsb_mem.mpr (Or.inr ⟨j, j0, j1, zsb_cl hn k _ nd.1 (by omega) (by omega) y j2 i i0 i1⟩)
theorem zct_len {g : Nat → List Int} {f : Int → Int} : ∀ {n : Nat}, (∀ i : Nat, i < n → ((g i).length : Int) ≤ f ((i : Nat) : Int)) → ((zct g n).length : Int) + 1 ≤ zsm f n
  | 0, _ => by unfold zct zsm; simp
  | n + 1, h => by
    have h1 := zct_len (n := n) (fun i hi => h i (by omega))
    have h2 := h n (by omega)
    show ((zct g n ++ g n).length : Int) + 1 ≤ zsm f n + f ((n : Nat) : Int)
    rw [List.length_append]
    omega
theorem zcap_lt {x : Int} (h : zcap x ≤ 99999) : zcap x = x := by
  unfold zcap at h ⊢
  split
  · rename_i q; rw [if_pos q] at h; omega
  · rfl
theorem zsb_len {m : zM} {t : Int} (hn : ∀ x : Int, 0 ≤ x → x < t → zNd m x) : ∀ (k : Nat) (x : Int), 0 ≤ x → x < t → m.1 71 x ≤ 99999 → ((zsb m k x).length : Int) ≤ m.1 71 x
  | 0, x, h0, h1, h2 => by
    have := zsz1 hn _ x rfl h0 h1
    show ((1 : Nat) : Int) ≤ _
    omega
  | k + 1, x, h0, h1, h2 => by
    obtain ⟨n1, n2, n3, n4, n5⟩ := hn x h0 h1
    rw [n5] at h2
    have hc := zcap_lt h2
    have s1 : ∀ l : Int, 0 ≤ l → l < m.1 69 x → 1 ≤ (fun i => m.1 71 (m.1 70 (4 * x + i))) l := fun l a b => zsz1 hn _ _ rfl (n2 l a b).1 (by have := (n2 l a b).2; omega)
    have h3 : ∀ i : Nat, i < (m.1 69 x).toNat → ((zsb m k (m.1 70 (4 * x + ((i : Nat) : Int)))).length : Int) ≤ (fun i => m.1 71 (m.1 70 (4 * x + i))) ((i : Nat) : Int) := fun i hi => by
      have p := n2 ((i : Nat) : Int) (by omega) (by omega)
      refine zsb_len hn k _ p.1 (by omega) ?_
      have e1 := zsm_mono (f := fun i => m.1 71 (m.1 70 (4 * x + i))) (m := i + 1) (n := (m.1 69 x).toNat) (by omega) (fun l a b => s1 l a (by omega))
      have e2 := zsm_1 (f := fun i => m.1 71 (m.1 70 (4 * x + i))) (n := i) (fun l a b => s1 l a (by omega))
      have e3 : zsm (fun i => m.1 71 (m.1 70 (4 * x + i))) (i + 1) = zsm (fun i => m.1 71 (m.1 70 (4 * x + i))) i + m.1 71 (m.1 70 (4 * x + ((i : Nat) : Int))) := rfl
      omega
    have h4 := zct_len (g := fun i => zsb m k (m.1 70 (4 * x + ((i : Nat) : Int)))) (f := fun i => m.1 71 (m.1 70 (4 * x + i))) h3
    rw [n5, hc]
    show ((x :: zct (fun i => zsb m k (m.1 70 (4 * x + ((i : Nat) : Int)))) (m.1 69 x).toNat).length : Int) ≤ _
    rw [List.length_cons]
    omega
/-- a row of numbers, each with a label of its own -/
theorem zpig {α : Type} [DecidableEq α] {R : α → Int → Prop} (hf : ∀ q z z', R q z → R q z' → z = z') {a : Int} : ∀ (n : Nat) (L : List α), (∀ i : Nat, i < n → ∃ q, q ∈ L ∧ R q (a + (i : Int))) → n ≤ L.length
  | 0, _, _ => Nat.zero_le _
  | n + 1, L, h => by
    obtain ⟨q0, m0, r0⟩ := h n (by omega)
    have h1 := zpig hf n (L.erase q0) (fun i hi => by
      obtain ⟨q, mq, rq⟩ := h i (by omega)
      refine ⟨q, (List.mem_erase_of_ne (fun e => ?_)).mpr mq, rq⟩
      rw [e] at rq
      have := hf _ _ _ rq r0
      omega)
    have h2 := List.length_erase_of_mem m0
    have h3 : 0 < L.length := List.length_pos_of_mem m0
    omega
theorem zpigI {α : Type} [DecidableEq α] {R : α → Int → Prop} (hf : ∀ q z z', R q z → R q z' → z = z') {a b : Int} {L : List α} (h : ∀ z : Int, a ≤ z → z < b → ∃ q, q ∈ L ∧ R q z) : b - a ≤ (L.length : Int) := by
  have := zpig hf (a := a) (b - a).toNat L (fun i hi => h _ (by omega) (by omega))
  omega
/-- a type that is put anew makes at most as many nodes as it has parts -/
theorem zSJ_cnt {μ m : zM} {lo s f n w t : Int} {k : Nat} (hJ : zSJ μ m lo s f n w (fun y => y ∈ zsb μ k t)) (hn : ∀ x : Int, 0 ≤ x → x < zTop μ → zNd μ x) (h0 : 0 ≤ t) (h1 : t < zTop μ) (h2 : μ.1 71 t ≤ 99999) : zTop m - zTop μ ≤ μ.1 71 t := by
  have h3 := zpigI (R := fun q z => m.1 97 q = z) (fun q z z' a b => by rw [← a]; exact b) (a := zTop μ) (b := zTop m) (L := zsb μ k t) (fun z a b => by
    obtain ⟨x, c1, c2, c3, c4, c5, c6⟩ := hJ.2.2.2.2.1 z a b
    exact ⟨x, hJ.2.2.2.2.2 x c1 c2 c3, c4⟩)
  have h4 := zsb_len hn k t h0 h1 h2
  omega
theorem zsb_P {μ : zM} {t : Int} {k : Nat} (hn : ∀ x : Int, 0 ≤ x → x < zTop μ → zNd μ x) (h0 : 0 ≤ t) (h1 : t < zTop μ) (hk : t < (k : Int)) : (fun y => y ∈ zsb μ k t) t ∧ ∀ x : Int, 0 ≤ x → x < zTop μ → (fun y => y ∈ zsb μ k t) x → ∀ i : Int, 0 ≤ i → i < μ.1 69 x → (fun y => y ∈ zsb μ k t) (μ.1 70 (4 * x + i)) :=
  ⟨zsb_self _ _ _, fun x _ _ hx i i0 i1 => zsb_cl hn k t h0 h1 hk x hx i i0 i1⟩
/-! ### what the new nodes are -/
theorem zSJ_lo {μ m : zM} {lo s f n w : Int} {P : Int → Prop} (hJ : zSJ μ m lo s f n w P) (hP : ∀ x : Int, P x → lo ≤ x) (hw : 0 ≤ w ∧ w < zTop μ) (hn4 : n ≤ 4) (hwa : ∀ i : Int, 0 ≤ i → i < n → lo ≤ μ.1 70 (4 * w + i) ∧ μ.1 67 (μ.1 70 (4 * w + i)) ≤ 2) {a : Int} (a0 : 0 ≤ a) (a1 : a < zTop μ) (as : m.1 98 a = s) : lo ≤ m.1 97 a := by
  obtain ⟨g1, g2, g3⟩ := hJ.2.2.2.1 a a0 a1 as
  have pa := hP a (hJ.2.2.2.2.2 a a0 a1 as)
  rcases g3 with ⟨-, ⟨c1, c2, c3⟩ | ⟨-, c3⟩⟩ | ⟨-, -, c3⟩ | ⟨-, -, c3, -⟩
  · rw [c3, (hJ.2.1 w hw.1 hw.2).2.2.2.2 _ c1 (by omega)]; exact (hwa _ c1 c2).1
  · omega
  · omega
  · exact c3
theorem zSJ_kd {μ m : zM} {lo s f n w : Int} {P : Int → Prop} (hJ : zSJ μ m lo s f n w P) (hn : ∀ x : Int, 0 ≤ x → x < zTop μ → zNd μ x) (hw : 0 ≤ w ∧ w < zTop μ) (hn4 : n ≤ μ.1 69 w) (hwa : ∀ i : Int, 0 ≤ i → i < n → lo ≤ μ.1 70 (4 * w + i) ∧ μ.1 67 (μ.1 70 (4 * w + i)) ≤ 2) {a : Int} (a0 : 0 ≤ a) (a1 : a < zTop μ) (as : m.1 98 a = s) (ak : μ.1 67 a ≤ 2) : m.1 67 (m.1 97 a) ≤ 2 := by
  obtain ⟨g1, g2, g3⟩ := hJ.2.2.2.1 a a0 a1 as
  have oa := hJ.2.1 a a0 a1
  have nw := hn w hw.1 hw.2
  rcases g3 with ⟨-, ⟨c1, c2, c3⟩ | ⟨-, c3⟩⟩ | ⟨-, -, c3⟩ | ⟨-, -, -, c3⟩
  · have e := (hJ.2.1 w hw.1 hw.2).2.2.2.2 _ c1 (by have := nw.1.2; omega)
    have p := nw.2.1 _ c1 (by omega)
    rw [c3, e, (hJ.2.1 _ p.1 (by omega)).1]
    exact (hwa _ c1 c2).2
  · rw [c3, oa.1]; exact ak
  · rw [c3, oa.1]; exact ak
  · rw [c3.1, oa.1]; exact ak
theorem zSJ_wf {μ m : zM} {lo s f n w C Pn F : Int} {cf : Int → Int} {P : Int → Prop} (hJ : zSJ μ m lo s f n w P) (hW : zWf μ lo (zTop μ) C Pn F cf) (hn : zND μ lo) (hP : ∀ x : Int, P x → lo ≤ x) (hw : 0 ≤ w ∧ w < zTop μ) (hn4 : n ≤ μ.1 69 w) (hwa : ∀ i : Int, 0 ≤ i → i < n → lo ≤ μ.1 70 (4 * w + i) ∧ μ.1 67 (μ.1 70 (4 * w + i)) ≤ 2) : zWf m lo (zTop m) C Pn F cf := by
  intro y ya yb
  have l0 := hn.1.1
  by_cases hy : y < zTop μ
  · exact zW1_old hJ.2.1 (by omega) hy (hn.2.1 y (by omega) hy) (hW y ya hy)
  · obtain ⟨x, c1, c2, c3, c4, c5, c6⟩ := hJ.2.2.2.2.1 y (by omega) yb
    obtain ⟨g1, g2, g3⟩ := hJ.2.2.2.1 x c1 c2 c3
    have ox := hJ.2.1 x c1 c2
    have nx := hn.2.1 x c1 c2
    have h4 := nx.1.2
    have hx := hW x (hP x (hJ.2.2.2.2.2 x c1 c2 c3)) c2
    have nw4 := (hn.2.1 w hw.1 hw.2).1.2
    rcases g3 with ⟨q, -⟩ | ⟨-, q, -⟩ | ⟨-, -, -, hl⟩
    · exact absurd q c5
    · omega
    · rw [c4] at hl
      rw [ox.1, ox.2.1, ox.2.2.1] at hl
      obtain ⟨w1, w2, w3, w4, w5, w6⟩ := hx
      have pr : ∀ i : Int, 0 ≤ i → i < μ.1 69 x → 0 ≤ m.1 70 (4 * x + i) ∧ m.1 70 (4 * x + i) < zTop μ ∧ m.1 98 (m.1 70 (4 * x + i)) = s ∧ m.1 70 (4 * x + i) = μ.1 70 (4 * x + i) := fun i a b => by
        have e := ox.2.2.2.2 i a (by omega)
        have p := nx.2.1 i a b
        exact ⟨by omega, by omega, g1 i a (by rw [ox.2.2.1]; exact b), e⟩
      refine zW1_like hl (fun i a b => ?_) w2 w3 w4 w5 (fun q => ⟨(w6 q).1, ?_⟩)
      · have p := pr i a b
        exact zSJ_lo hJ hP hw (by omega) hwa p.1 p.2.1 p.2.2.1
      · have h6 := w6 q
        have p := pr 0 (by omega) (by omega)
        refine zSJ_kd hJ hn.2.1 hw hn4 hwa p.1 p.2.1 p.2.2.1 ?_
        rw [p.2.2.2]
        exact h6.2
/-- a class's type put anew is of the same class -/
theorem zSJ_cls {μ m : zM} {lo s f n w : Int} {P : Int → Prop} (hJ : zSJ μ m lo s f n w P) (hn : ∀ x : Int, 0 ≤ x → x < zTop μ → zNd μ x) (hw : 0 ≤ w ∧ w < zTop μ) (hn4 : n ≤ μ.1 69 w) (hwa : ∀ i : Int, 0 ≤ i → i < n → lo ≤ μ.1 70 (4 * w + i) ∧ μ.1 67 (μ.1 70 (4 * w + i)) ≤ 2) {a : Int} (a0 : 0 ≤ a) (a1 : a < zTop μ) (as : m.1 98 a = s) (ak : μ.1 67 a = 0) (aa : ∀ i : Int, 0 ≤ i → i < μ.1 69 a → μ.1 67 (μ.1 70 (4 * a + i)) ≤ 2) :
    (0 ≤ m.1 97 a ∧ m.1 97 a < zTop m) ∧ m.1 67 (m.1 97 a) = 0 ∧ m.1 68 (m.1 97 a) = μ.1 68 a ∧ m.1 69 (m.1 97 a) = μ.1 69 a ∧ ∀ i : Int, 0 ≤ i → i < m.1 69 (m.1 97 a) → m.1 67 (m.1 70 (4 * m.1 97 a + i)) ≤ 2 := by
  obtain ⟨g1, g2, g3⟩ := hJ.2.2.2.1 a a0 a1 as
  have oa := hJ.2.1 a a0 a1
  have na := hn a a0 a1
  have h4 := na.1.2
  rw [← oa.1] at ak
  rcases g3 with ⟨q, -⟩ | ⟨-, q, c3⟩ | ⟨-, -, -, hl⟩
  · omega
  · rw [c3]
    exact ⟨⟨a0, by have := hJ.2.2.1; omega⟩, ak, oa.2.1, oa.2.2.1, fun i b c => by omega⟩
  · refine ⟨g2, by rw [hl.1]; exact ak, by rw [hl.2.1, oa.2.1], by rw [hl.2.2.1, oa.2.2.1], fun i b c => ?_⟩
    rw [hl.2.2.1] at c
    rw [hl.2.2.2 i b c]
    rw [oa.2.2.1] at c
    have e := oa.2.2.2.2 i b (by omega)
    have p := na.2.1 i b c
    refine zSJ_kd hJ hn hw hn4 hwa (by omega) (by omega) (g1 i b (by rw [oa.2.2.1]; exact c)) ?_
    rw [e]
    exact aa i b c
