/-! ### the reference's nodes with NEW variables among them: their rows of heads -/
def rHf (m : zM) (x h : Int) : Prop := rHd m x h ∨ (m.1 67 x = 2 ∧ h = 300 + m.1 68 x ∧ 0 ≤ m.1 68 x)
def rCf (m : zM) : Nat → Int → List Int → Prop
  | 0, _, _ => False
  | k + 1, x, l => ∃ (h : Int) (as : List (List Int)), l = h :: as.flatten ∧ rHf m x h ∧ (as.length : Int) = m.1 69 x ∧ ∀ i : Nat, i < as.length → rCf m k (m.1 70 (4 * x + i)) (as.getD i [])
def rEf (m : zM) (x : Int) (l : List Int) : Prop := ∃ k, rCf m k x l
theorem rCf_of {m : zM} : ∀ (k : Nat) (x : Int) (l : List Int), rC m k x l → rCf m k x l
  | 0, _, _, h => h.elim
  | k + 1, x, l, ⟨h, as, e1, e2, e3, e5⟩ => ⟨h, as, e1, Or.inl e2, e3, fun i hi => rCf_of k _ _ (e5 i hi)⟩
theorem rEf_of {m : zM} {x : Int} {l : List Int} (h : rE m x l) : rEf m x l := by
  obtain ⟨k, h⟩ := h
  exact ⟨k, rCf_of k x l h⟩
theorem rCf_up {m : zM} : ∀ (k : Nat) (x : Int) (l : List Int), rCf m k x l → rCf m (k + 1) x l
  | 0, _, _, h => h.elim
  | k + 1, x, l, ⟨h, as, e1, e2, e3, e5⟩ => ⟨h, as, e1, e2, e3, fun i hi => rCf_up k _ _ (e5 i hi)⟩
theorem rCf_le {m : zM} {k j : Nat} {x : Int} {l : List Int} (h : rCf m k x l) (hj : k ≤ j) : rCf m j x l := by
  induction j with
  | zero => have : k = 0 := by omega
            subst this; exact h
  | succ j ih =>
    by_cases q : k = j + 1
    · rw [← q]; exact h
    · exact rCf_up j x l (ih (by omega))
theorem rHf_fn {m : zM} {x h h' : Int} (a : rHf m x h) (b : rHf m x h') : h = h' := by
  unfold rHf rHd at a b
  omega
theorem rCf_fn {m : zM} : ∀ (k j : Nat) (x : Int) (l l' : List Int), rCf m k x l → rCf m j x l' → l = l'
  | 0, _, _, _, _, h, _ => h.elim
  | _ + 1, 0, _, _, _, _, h => h.elim
  | k + 1, j + 1, x, l, l', ⟨h, as, e1, e2, e3, e5⟩, ⟨h', as', f1, f2, f3, f5⟩ => by
    have hh : h = h' := rHf_fn e2 f2
    subst hh
    have : as = as' := by
      apply List.ext_getElem (by omega)
      intro i h1 h2
      have c := e5 i h1
      have d := f5 i h2
      rw [List.getD_eq_getElem?_getD, List.getElem?_eq_getElem h1] at c
      rw [List.getD_eq_getElem?_getD, List.getElem?_eq_getElem h2] at d
      exact rCf_fn k j _ _ _ c d
    rw [e1, f1, this]
theorem rEf_fn {m : zM} {x : Int} {l l' : List Int} (h : rEf m x l) (h' : rEf m x l') : l = l' := by
  obtain ⟨k, h⟩ := h
  obtain ⟨j, h'⟩ := h'
  exact rCf_fn k j x l l' h h'
theorem rCf_old {μ m : zM} {T : Int} (ho : zOld μ m T) (nd : ∀ x : Int, 0 ≤ x → x < T → zNd μ x) : ∀ (k : Nat) (x : Int) (l : List Int), 0 ≤ x → x < T → rCf μ k x l → rCf m k x l
  | 0, _, _, _, _, h => h.elim
  | k + 1, x, l, x0, x1, ⟨h, as, e1, e2, e3, e5⟩ => by
    obtain ⟨o1, o2, o3, o4, o5⟩ := ho x x0 x1
    have N := nd x x0 x1
    refine ⟨h, as, e1, by unfold rHf rHd; rw [o1, o2]; exact e2, by rw [o3]; exact e3, fun i hi => ?_⟩
    have c := N.2.1 i (by omega) (by omega)
    have N4 := N.1.2
    rw [o5 i (by omega) (by omega)]
    exact rCf_old ho nd k _ _ c.1 (by omega) (e5 i hi)
theorem rEf_old {μ m : zM} {T : Int} (ho : zOld μ m T) (nd : ∀ x : Int, 0 ≤ x → x < T → zNd μ x) {x : Int} {l : List Int} (x0 : 0 ≤ x) (x1 : x < T) (h : rEf μ x l) : rEf m x l := by
  obtain ⟨k, h⟩ := h
  exact ⟨k, rCf_old ho nd k x l x0 x1 h⟩
theorem rEf_c {μ m : zM} (hc : ∀ j : Nat, 67 ≤ j → j ≤ 70 → m.1 j = μ.1 j) {x : Int} {l : List Int} (h : rEf μ x l) : rEf m x l := by
  obtain ⟨k, h⟩ := h
  refine ⟨k, ?_⟩
  induction k generalizing x l with
  | zero => exact h.elim
  | succ k ih =>
    obtain ⟨h, as, e1, e2, e3, e5⟩ := h
    refine ⟨h, as, e1, by unfold rHf rHd; rw [hc 67 (by decide) (by decide), hc 68 (by decide) (by decide)]; exact e2, by rw [hc 69 (by decide) (by decide)]; exact e3, fun i hi => ?_⟩
    rw [hc 70 (by decide) (by decide)]
    exact ih (e5 i hi)
theorem rEf_mk {m : zM} {v h n : Int} {as : List (List Int)} (hh : rHf m v h) (hn : m.1 69 v = n) (hl : (as.length : Int) = n) (ha : ∀ i : Nat, i < as.length → rEf m (m.1 70 (4 * v + i)) (as.getD i [])) : rEf m v (h :: as.flatten) := by
  obtain ⟨K, hK⟩ := tk_all (P := fun i k => rCf m k (m.1 70 (4 * v + i)) (as.getD i [])) (fun i k j hj h => rCf_le h hj) as.length ha
  exact ⟨K + 1, h, as, rfl, hh, by rw [hn]; exact hl, hK⟩
/-- with others in its PARAMETERS' place -/
theorem rEf_sub {m : zM} {f n w lo T : Int} {as : List (List Int)} (wf : rLo m lo T) (h1 : ∀ x : Int, lo ≤ x → x < T → m.1 67 x = 1 → m.1 69 x = 0) (hn : n = as.length) (ha : ∀ j : Nat, j < as.length → rEf m (m.1 70 (4 * w + j)) (as.getD j [])) : ∀ (k : Nat) (x y : Int) (l : List Int), lo ≤ x → x < T → rC m k x l → zSR m f n w x y → rEf m y (ysub f as l)
  | 0, _, _, _, _, _, h, _ => h.elim
  | k + 1, x, y, l, x0, x1, ⟨h, bs, e1, e2, e3, e5⟩, hs => by
    rcases zSR_st hs with ⟨c1, c2, c3, c4⟩ | ⟨c1, c2, c3, c4, c5⟩
    · have hh : h = 32 + m.1 68 x ∧ 0 ≤ m.1 68 x ∧ m.1 68 x < 80 := by unfold rHd at e2; omega
      have hz : bs = [] := List.length_eq_zero_iff.mp (by have := h1 x x0 x1 c1; omega)
      have hj := ha (m.1 68 x - f).toNat (by omega)
      rw [show (((m.1 68 x - f).toNat : Nat) : Int) = m.1 68 x - f by omega, ← c4] at hj
      rw [e1, hz]
      have : ysub f as (h :: ([] : List (List Int)).flatten) = as.getD (m.1 68 x - f).toNat [] := by
        show (if 32 ≤ h ∧ h < 112 then as.getD (h - 32 - f).toNat [] else [h]) ++ [] = _
        rw [if_pos (by omega), List.append_nil, show h - 32 - f = m.1 68 x - f by omega]
      rw [this]
      exact hj
    · have hh : ¬ (32 ≤ h ∧ h < 112) := by unfold rHd at e2; omega
      have hb : ∀ i : Nat, i < bs.length → rEf m (m.1 70 (4 * y + i)) (ysub f as (bs.getD i [])) := fun i hi => rEf_sub wf h1 hn ha k _ _ _ (wf x x0 x1 i (by omega) (by omega)).1 (wf x x0 x1 i (by omega) (by omega)).2 (e5 i hi) (c5 i (by omega) (by omega))
      rw [e1, ysub_h hh]
      refine rEf_mk (n := m.1 69 x) (Or.inl (by unfold rHd at e2 ⊢; omega)) c4 (by rw [List.length_map]; exact e3) (fun i hi => ?_)
      rw [List.length_map] at hi
      rw [tg_m hi]
      exact hb i hi
theorem rEf_h {m : zM} {x : Int} {l : List Int} (h : rEf m x l) : ∃ (hd : Int) (as : List (List Int)), l = hd :: as.flatten ∧ rHf m x hd ∧ (as.length : Int) = m.1 69 x ∧ ∀ i : Nat, i < as.length → rEf m (m.1 70 (4 * x + i)) (as.getD i []) := by
  obtain ⟨k, h⟩ := h
  cases k with
  | zero => exact h.elim
  | succ k =>
    obtain ⟨hd, as, e1, e2, e3, e5⟩ := h
    exact ⟨hd, as, e1, e2, e3, fun i hi => ⟨k, e5 i hi⟩⟩
/-! ### the reference's NEW variables, by rows -/
/-- PARAMETERS below a node stand in its row -/
theorem zsb_hd {m : zM} : ∀ (j k : Nat) (t : Int) (l : List Int), rC m k t l → ∀ y : Int, y ∈ zsb m j t → m.1 67 y = 1 → 32 + m.1 68 y ∈ l ∧ 0 ≤ m.1 68 y ∧ m.1 68 y < 80
  | j, 0, _, _, h, _, _, _ => h.elim
  | 0, k + 1, t, l, ⟨h, as, e1, e2, e3, e5⟩, y, hy, ky => by
    have hy : y = t := by simpa [zsb] using hy
    subst hy
    have : h = 32 + m.1 68 y ∧ 0 ≤ m.1 68 y ∧ m.1 68 y < 80 := by unfold rHd at e2; omega
    rw [e1, this.1]
    exact ⟨List.mem_cons_self, this.2⟩
  | j + 1, k + 1, t, l, ⟨h, as, e1, e2, e3, e5⟩, y, hy, ky => by
    have hy : y ∈ t :: zct (fun i => zsb m j (m.1 70 (4 * t + ((i : Nat) : Int)))) (m.1 69 t).toNat := hy
    rcases List.mem_cons.mp hy with q | q
    · subst q
      have : h = 32 + m.1 68 y ∧ 0 ≤ m.1 68 y ∧ m.1 68 y < 80 := by unfold rHd at e2; omega
      rw [e1, this.1]
      exact ⟨List.mem_cons_self, this.2⟩
    · obtain ⟨i, h1, h2⟩ := zct_mem.mp q
      have w := zsb_hd j k _ _ (e5 i (by omega)) y h2 ky
      rw [e1]
      exact ⟨List.mem_cons_of_mem _ (List.mem_flatten.mpr ⟨_, rgd (by omega), w.1⟩), w.2⟩
/-- which ARGS are unknown -/
theorem rHf_w {m : zM} {x : Int} {l : List Int} (h : rEf m x l) : (3 ≤ m.1 67 x ↔ ywl l = true) := by
  obtain ⟨hd, as, e1, e2, -⟩ := rEf_h h
  rw [ywl_i, e1]
  show _ ↔ 200 ≤ hd ∧ hd ≤ 202
  unfold rHf rHd at e2
  omega
theorem zqc_y {m : zM} {s c : Int} {as : List (List Int)} (hE : ∀ i : Nat, i < as.length → rEf m (m.1 70 (4 * s + i)) (as.getD i [])) : ∀ n : Nat, n ≤ as.length → ycn c as n = c + zqc m s n
  | 0, _ => by rw [ycn_0]; show c = c + 0; omega
  | n + 1, h => by
    have ih := zqc_y (c := c) hE n (by omega)
    have w := rHf_w (hE n (by omega))
    rw [ycn_s (by omega), ih]
    show _ = c + (zqc m s n + (if 3 ≤ m.1 67 (m.1 70 (4 * s + ((n : Nat) : Int))) then 1 else 0))
    by_cases q : ywl (as.getD n []) = true
    · rw [if_pos q, if_pos (w.mpr q)]; omega
    · rw [if_neg q, if_neg (fun z => q (w.mp z))]; omega
