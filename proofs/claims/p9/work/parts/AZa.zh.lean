/-! ### the heads of a node -/
def rHd (m : zM) (x h : Int) : Prop := (m.1 67 x = 0 ∧ m.1 68 x = h ∧ 0 ≤ h ∧ h < 32) ∨ (m.1 67 x = 1 ∧ h = 32 + m.1 68 x ∧ 0 ≤ m.1 68 x ∧ m.1 68 x < 80) ∨ (m.1 67 x = 3 ∧ m.1 68 x = 0 ∧ h = 200) ∨ (m.1 67 x = 4 ∧ m.1 68 x = 0 ∧ h = 201) ∨ (m.1 67 x = 5 ∧ m.1 68 x = 0 ∧ h = 202)
def rC (m : zM) : Nat → Int → List Int → Prop
  | 0, _, _ => False
  | k + 1, x, l => ∃ (h : Int) (as : List (List Int)), l = h :: as.flatten ∧ rHd m x h ∧ (as.length : Int) = m.1 69 x ∧ ∀ i : Nat, i < as.length → rC m k (m.1 70 (4 * x + i)) (as.getD i [])
def rE (m : zM) (x : Int) (l : List Int) : Prop := ∃ k, rC m k x l
/-- parts lie behind lo -/
def rLo (m : zM) (lo T : Int) : Prop := ∀ x : Int, lo ≤ x → x < T → ∀ i : Int, 0 ≤ i → i < m.1 69 x → lo ≤ m.1 70 (4 * x + i) ∧ m.1 70 (4 * x + i) < T
def rAr (m : zM) (A : Int → Int) (lo T : Int) : Prop := ∀ x : Int, lo ≤ x → x < T → ∀ h : Int, rHd m x h → m.1 69 x = A h
theorem rC_up {m : zM} : ∀ (k : Nat) (x : Int) (l : List Int), rC m k x l → rC m (k + 1) x l
  | 0, _, _, h => h.elim
  | k + 1, x, l, ⟨h, as, e1, e2, e3, e5⟩ => ⟨h, as, e1, e2, e3, fun i hi => rC_up k _ _ (e5 i hi)⟩
theorem rC_le {m : zM} {k j : Nat} {x : Int} {l : List Int} (h : rC m k x l) (hj : k ≤ j) : rC m j x l := by
  induction j with
  | zero => have : k = 0 := by omega
            subst this; exact h
  | succ j ih =>
    by_cases q : k = j + 1
    · rw [← q]; exact h
    · exact rC_up j x l (ih (by omega))
theorem rgd {as : List (List Int)} {i : Nat} (h : i < as.length) : as.getD i [] ∈ as := by
  rw [List.getD_eq_getElem?_getD, List.getElem?_eq_getElem h]
  exact List.getElem_mem h
theorem rmem {as : List (List Int)} {a : List Int} (h : a ∈ as) : ∃ i : Nat, i < as.length ∧ as.getD i [] = a := by
  obtain ⟨i, h1, h2⟩ := List.getElem_of_mem h
  exact ⟨i, h1, by rw [List.getD_eq_getElem?_getD, List.getElem?_eq_getElem h1]; exact h2⟩
theorem rC_one {m : zM} {A : Int → Int} {lo T : Int} (wf : rLo m lo T) (hA : rAr m A lo T) : ∀ (k : Nat) (x : Int) (l : List Int), lo ≤ x → x < T → rC m k x l → yone A l
  | 0, _, _, _, _, h => h.elim
  | k + 1, x, l, x0, x1, ⟨h, as, e1, e2, e3, e5⟩ => by
    rw [e1]
    refine yone_h (by rw [e3, hA x x0 x1 h e2]) (fun a ha => ?_)
    obtain ⟨i, h1, h2⟩ := rmem ha
    rw [← h2]
    have w := wf x x0 x1 i (by omega) (by omega)
    exact rC_one wf hA k _ _ w.1 w.2 (e5 i h1)
/-- parts one behind the other can be told apart -/
theorem yone_ap {A : Int → Int} {a b r s : List Int} (ha : yone A a) (hb : yone A b) (h : a ++ r = b ++ s) : a = b ∧ r = s := by
  have key : ∀ (a b r s : List Int), yone A a → yone A b → a ++ r = b ++ s → a.length ≤ b.length → a = b := by
    intro a b r s ha hb h hl
    have e : a = b.take a.length := by
      have := congrArg (List.take a.length) h
      rw [List.take_left, List.take_append_of_le_length hl] at this
      exact this
    by_cases q : a.length < b.length
    · exfalso
      have h1 := hb.2 a.length q
      rw [← e, ha.1] at h1
      omega
    · rw [e, List.take_of_length_le (by omega)]
  have e : a = b := by
    by_cases q : a.length ≤ b.length
    · exact key a b r s ha hb h q
    · exact (key b a s r hb ha h.symm (by omega)).symm
  subst e
  exact ⟨rfl, List.append_cancel_left h⟩
theorem yone_fe {A : Int → Int} : ∀ as bs : List (List Int), (∀ a ∈ as, yone A a) → (∀ b ∈ bs, yone A b) → as.length = bs.length → as.flatten = bs.flatten → as = bs
  | [], [], _, _, _, _ => rfl
  | [], b :: bs, _, _, h, _ => by simp at h
  | a :: as, [], _, _, h, _ => by simp at h
  | a :: as, b :: bs, ha, hb, hl, h => by
    rw [List.flatten_cons, List.flatten_cons] at h
    obtain ⟨e1, e2⟩ := yone_ap (ha a List.mem_cons_self) (hb b List.mem_cons_self) h
    rw [e1, yone_fe as bs (fun x hx => ha x (List.mem_cons_of_mem _ hx)) (fun x hx => hb x (List.mem_cons_of_mem _ hx)) (by simpa using hl) e2]
theorem rC_as {m : zM} {A : Int → Int} {lo T : Int} (wf : rLo m lo T) (hA : rAr m A lo T) {k : Nat} {x : Int} {as : List (List Int)} (x0 : lo ≤ x) (x1 : x < T) (hl : (as.length : Int) = m.1 69 x) (h : ∀ i : Nat, i < as.length → rC m k (m.1 70 (4 * x + i)) (as.getD i [])) : ∀ a ∈ as, yone A a := fun a ha => by
  obtain ⟨i, h1, h2⟩ := rmem ha
  rw [← h2]
  have w := wf x x0 x1 i (by omega) (by omega)
  exact rC_one wf hA k _ _ w.1 w.2 (h i h1)
/-- which node it is -/
theorem rC_nd {m : zM} {A : Int → Int} {lo : Int} (hu : zUq m lo) (wf : rLo m lo (zTop m)) (hA : rAr m A lo (zTop m)) : ∀ (k : Nat) (x y : Int) (l : List Int), lo ≤ x → x < zTop m → lo ≤ y → y < zTop m → rC m k x l → rC m k y l → x = y
  | 0, _, _, _, _, _, _, _, h, _ => h.elim
  | k + 1, x, y, l, x0, x1, y0, y1, ⟨h, as, e1, e2, e3, e5⟩, ⟨h', as', f1, f2, f3, f5⟩ => by
    rw [e1] at f1
    obtain ⟨q1, q2⟩ := List.cons.inj f1
    subst q1
    have c1 := hA x x0 x1 h e2
    have c2 := hA y y0 y1 h f2
    have ea := yone_fe as as' (rC_as wf hA x0 x1 e3 e5) (rC_as wf hA y0 y1 f3 f5) (by omega) q2
    subst ea
    have hk : m.1 67 y = m.1 67 x ∧ m.1 68 y = m.1 68 x := by unfold rHd at e2 f2; omega
    refine (hu x y x0 x1 y0 y1 ⟨hk.1, hk.2, by omega, fun i i0 i1 => ?_⟩)
    have hi : i.toNat < as.length := by omega
    have p := wf x x0 x1 i i0 i1
    have q := wf y y0 y1 i i0 (by omega)
    have c := e5 i.toNat hi
    have d := f5 i.toNat hi
    rw [show ((i.toNat : Nat) : Int) = i by omega] at c d
    exact rC_nd hu wf hA k _ _ _ q.1 q.2 p.1 p.2 d c
theorem rC_fn {m : zM} : ∀ (k j : Nat) (x : Int) (l l' : List Int), rC m k x l → rC m j x l' → l = l'
  | 0, _, _, _, _, h, _ => h.elim
  | _ + 1, 0, _, _, _, _, h => h.elim
  | k + 1, j + 1, x, l, l', ⟨h, as, e1, e2, e3, e5⟩, ⟨h', as', f1, f2, f3, f5⟩ => by
    have hh : h = h' := by unfold rHd at e2 f2; omega
    subst hh
    have : as = as' := by
      apply List.ext_getElem (by omega)
      intro i h1 h2
      have c := e5 i h1
      have d := f5 i h2
      rw [List.getD_eq_getElem?_getD, List.getElem?_eq_getElem h1] at c
      rw [List.getD_eq_getElem?_getD, List.getElem?_eq_getElem h2] at d
      exact rC_fn k j _ _ _ c d
    rw [e1, f1, this]
theorem rC_old {μ m : zM} {T : Int} (ho : zOld μ m T) (nd : ∀ x : Int, 0 ≤ x → x < T → zNd μ x) : ∀ (k : Nat) (x : Int) (l : List Int), 0 ≤ x → x < T → rC μ k x l → rC m k x l
  | 0, _, _, _, _, h => h.elim
  | k + 1, x, l, x0, x1, ⟨h, as, e1, e2, e3, e5⟩ => by
    obtain ⟨o1, o2, o3, o4, o5⟩ := ho x x0 x1
    have N := nd x x0 x1
    refine ⟨h, as, e1, by unfold rHd; rw [o1, o2]; exact e2, by rw [o3]; exact e3, fun i hi => ?_⟩
    have c := N.2.1 i (by omega) (by omega)
    have N4 := N.1.2
    rw [o5 i (by omega) (by omega)]
    exact rC_old ho nd k _ _ c.1 (by omega) (e5 i hi)
theorem rE_old {μ m : zM} {T : Int} (ho : zOld μ m T) (nd : ∀ x : Int, 0 ≤ x → x < T → zNd μ x) {x : Int} {l : List Int} (x0 : 0 ≤ x) (x1 : x < T) (h : rE μ x l) : rE m x l := by
  obtain ⟨k, h⟩ := h
  exact ⟨k, rC_old ho nd k x l x0 x1 h⟩
theorem rE_c {μ m : zM} (hc : ∀ j : Nat, 67 ≤ j → j ≤ 70 → m.1 j = μ.1 j) {x : Int} {l : List Int} (h : rE μ x l) : rE m x l := by
  obtain ⟨k, h⟩ := h
  refine ⟨k, ?_⟩
  induction k generalizing x l with
  | zero => exact h.elim
  | succ k ih =>
    obtain ⟨h, as, e1, e2, e3, e5⟩ := h
    refine ⟨h, as, e1, by unfold rHd; rw [hc 67 (by decide) (by decide), hc 68 (by decide) (by decide)]; exact e2, by rw [hc 69 (by decide) (by decide)]; exact e3, fun i hi => ?_⟩
    rw [hc 70 (by decide) (by decide)]
    exact ih (e5 i hi)
theorem rcap {a b : Int} (h : a = zcap b) : (a ≤ 200 ↔ b ≤ 200) := by
  rw [h]
  unfold zcap
  split <;> omega
theorem rcap2 {a b c : Int} (hb : 0 ≤ b) (hc : 0 ≤ c) (h : zcap a = zcap (1 + b)) : zcap (a + zcap c) = zcap (1 + (b + c)) := by
  unfold zcap at h ⊢
  by_cases q1 : a > 100000 <;> by_cases q2 : 1 + b > 100000 <;> by_cases q3 : c > 100000
  · rw [if_pos q3, if_pos (by omega), if_pos (by omega)]
  · rw [if_neg q3, if_pos (by omega), if_pos (by omega)]
  · rw [if_pos q1, if_neg q2] at h; rw [if_pos q3, if_pos (by omega), if_pos (by omega)]
  · rw [if_pos q1, if_neg q2] at h; rw [if_neg q3]; by_cases q4 : c = 0
    · rw [if_pos (by omega), if_neg (by omega)]; omega
    · rw [if_pos (by omega), if_pos (by omega)]
  · rw [if_neg q1, if_pos q2] at h; rw [if_pos q3, if_pos (by omega), if_pos (by omega)]
  · rw [if_neg q1, if_pos q2] at h; rw [if_neg q3]; by_cases q4 : c = 0
    · rw [if_neg (by omega), if_pos (by omega)]; omega
    · rw [if_pos (by omega), if_pos (by omega)]
  · rw [if_neg q1, if_neg q2] at h; rw [if_pos q3, if_pos (by omega), if_pos (by omega)]
  · rw [if_neg q1, if_neg q2] at h; rw [if_neg q3]; by_cases q4 : a + c > 100000
    · rw [if_pos q4, if_pos (by omega)]
    · rw [if_neg q4, if_neg (by omega)]; omega
/-- its size -/
theorem rC_len {m : zM} {T : Int} (nd : ∀ x : Int, 0 ≤ x → x < T → zNd m x) : ∀ (k : Nat) (x : Int) (l : List Int), 0 ≤ x → x < T → rC m k x l → m.1 71 x = zcap (l.length : Int)
  | 0, _, _, _, _, h => h.elim
  | k + 1, x, l, x0, x1, ⟨h, as, e1, e2, e3, e5⟩ => by
    have N := nd x x0 x1
    have key : ∀ n : Nat, n ≤ as.length → zcap (zsm (fun i => m.1 71 (m.1 70 (4 * x + i))) n) = zcap (1 + ((as.take n).flatten.length : Int)) := by
      intro n
      induction n with
      | zero => intro _; simp [zsm]
      | succ n ih =>
        intro hn
        have c := N.2.1 n (by omega) (by omega)
        have s := rC_len nd k _ _ c.1 (by omega) (e5 n (by omega))
        have i := ih (by omega)
        have et : as.take (n + 1) = as.take n ++ [as.getD n []] := by
          rw [List.take_add_one, List.getD_eq_getElem?_getD, List.getElem?_eq_getElem (show n < as.length by omega)]
          rfl
        rw [et, List.flatten_append, List.length_append]
        have es : zsm (fun i => m.1 71 (m.1 70 (4 * x + i))) (n + 1) = zsm (fun i => m.1 71 (m.1 70 (4 * x + i))) n + m.1 71 (m.1 70 (4 * x + n)) := rfl
        rw [es, s]
        simp only [List.flatten_cons, List.flatten_nil, List.append_nil]
        have r := rcap2 (b := ((as.take n).flatten.length : Int)) (c := ((as.getD n []).length : Int)) (by omega) (by omega) i
        rw [r]
        congr 1
    rw [N.2.2.2.2, e1, List.length_cons]
    have := key as.length (Nat.le_refl _)
    rw [List.take_length] at this
    rw [show (m.1 69 x).toNat = as.length by omega, this]
    congr 1
    omega
theorem rE_200 {m : zM} {T x : Int} {l : List Int} (nd : ∀ x : Int, 0 ≤ x → x < T → zNd m x) (x0 : 0 ≤ x) (x1 : x < T) (h : rE m x l) : m.1 71 x ≤ 200 ↔ (l.length : Int) ≤ 200 := by
  obtain ⟨k, h⟩ := h
  exact rcap (rC_len nd k x l x0 x1 h)
/-- with others in its PARAMETERS' place -/
theorem rC_sub {m : zM} {f n w lo T : Int} {as : List (List Int)} (wf : rLo m lo T) (h1 : ∀ x : Int, lo ≤ x → x < T → m.1 67 x = 1 → m.1 69 x = 0) (hn : n = as.length) (ha : ∀ j : Nat, j < as.length → rE m (m.1 70 (4 * w + j)) (as.getD j [])) : ∀ (k : Nat) (x y : Int) (l : List Int), lo ≤ x → x < T → rC m k x l → zSR m f n w x y → rE m y (ysub f as l)
  | 0, _, _, _, _, _, h, _ => h.elim
  | k + 1, x, y, l, x0, x1, ⟨h, bs, e1, e2, e3, e5⟩, hs => by
    rcases zSR_st hs with ⟨c1, c2, c3, c4⟩ | ⟨c1, c2, c3, c4, c5⟩
    · have hh : h = 32 + m.1 68 x ∧ 0 ≤ m.1 68 x ∧ m.1 68 x < 80 := by unfold rHd at e2; omega
      have hz : bs = [] := List.length_eq_zero_iff.mp (by have := h1 x x0 x1 c1; omega)
      have hj := ha (m.1 68 x - f).toNat (by omega)
      rw [show (((m.1 68 x - f).toNat : Nat) : Int) = m.1 68 x - f by omega, ← c4] at hj
      rw [e1, hz]
      have : ysub f as (h :: ([] : List (List Int)).flatten) = as.getD (m.1 68 x - f).toNat [] := by
        show (if 32 ≤ h ∧ h < 112 then as.getD (h - 32 - f).toNat [] else [h]) ++ [] = _
        rw [if_pos (by omega), List.append_nil, show h - 32 - f = m.1 68 x - f by omega]
      rw [this]
      exact hj
    · have hh : ¬ (32 ≤ h ∧ h < 112) := by unfold rHd at e2; omega
      have hb : ∀ i : Nat, i < bs.length → rE m (m.1 70 (4 * y + i)) (ysub f as (bs.getD i [])) := fun i hi => rC_sub wf h1 hn ha k _ _ _ (wf x x0 x1 i (by omega) (by omega)).1 (wf x x0 x1 i (by omega) (by omega)).2 (e5 i hi) (c5 i (by omega) (by omega))
      obtain ⟨K, hK⟩ : ∃ K : Nat, ∀ i : Nat, i < bs.length → rC m K (m.1 70 (4 * y + i)) (ysub f as (bs.getD i [])) := by
        have aux : ∀ N : Nat, N ≤ bs.length → ∃ K : Nat, ∀ i : Nat, i < N → rC m K (m.1 70 (4 * y + i)) (ysub f as (bs.getD i [])) := by
          intro N
          induction N with
          | zero => exact fun _ => ⟨0, fun i hi => by omega⟩
          | succ N ih =>
            intro hN
            obtain ⟨K, hK⟩ := ih (by omega)
            obtain ⟨K', hK'⟩ := hb N (by omega)
            refine ⟨max K K', fun i hi => ?_⟩
            by_cases q : i = N
            · subst q; exact rC_le hK' (by omega)
            · exact rC_le (hK i (by omega)) (by omega)
        exact aux _ (Nat.le_refl _)
      have ef : ysub f as l = h :: (bs.map (ysub f as)).flatten := by
        rw [e1]
        show (if 32 ≤ h ∧ h < 112 then as.getD (h - 32 - f).toNat [] else [h]) ++ ysub f as bs.flatten = _
        rw [if_neg hh]
        show h :: ysub f as bs.flatten = _
        congr 1
        clear e1 e3 e5 hb hK e2
        induction bs with
        | nil => rfl
        | cons b r ih => rw [List.flatten_cons, ysub_app, ih]; rfl
      rw [ef]
      refine ⟨K + 1, h, bs.map (ysub f as), rfl, by unfold rHd at e2 ⊢; omega, by rw [List.length_map, c4]; exact e3, fun i hi => ?_⟩
      rw [List.length_map] at hi
      rw [List.getD_eq_getElem?_getD, List.getElem?_map, List.getElem?_eq_getElem hi]
      have := hK i hi
      rw [List.getD_eq_getElem?_getD, List.getElem?_eq_getElem hi] at this
      exact this
/-- a node that was made -/
theorem rE_mk {m : zM} {v h n : Int} {as : List (List Int)} (hh : rHd m v h) (hn : m.1 69 v = n) (hl : (as.length : Int) = n) (ha : ∀ i : Nat, i < as.length → rE m (m.1 70 (4 * v + i)) (as.getD i [])) : rE m v (h :: as.flatten) := by
  obtain ⟨K, hK⟩ : ∃ K : Nat, ∀ i : Nat, i < as.length → rC m K (m.1 70 (4 * v + i)) (as.getD i []) := by
    have aux : ∀ N : Nat, N ≤ as.length → ∃ K : Nat, ∀ i : Nat, i < N → rC m K (m.1 70 (4 * v + i)) (as.getD i []) := by
      intro N
      induction N with
      | zero => exact fun _ => ⟨0, fun i hi => by omega⟩
      | succ N ih =>
        intro hN
        obtain ⟨K, hK⟩ := ih (by omega)
        obtain ⟨K', hK'⟩ := ha N (by omega)
        refine ⟨max K K', fun i hi => ?_⟩
        by_cases q : i = N
        · subst q; exact rC_le hK' (by omega)
        · exact rC_le (hK i (by omega)) (by omega)
    exact aux _ (Nat.le_refl _)
  exact ⟨K + 1, h, as, rfl, hh, by rw [hn]; exact hl, hK⟩
theorem rE_nd {m : zM} {A : Int → Int} {lo x y : Int} {l : List Int} (hu : zUq m lo) (wf : rLo m lo (zTop m)) (hA : rAr m A lo (zTop m)) (x0 : lo ≤ x) (x1 : x < zTop m) (y0 : lo ≤ y) (y1 : y < zTop m) (hx : rE m x l) (hy : rE m y l) : x = y := by
  obtain ⟨k, hx⟩ := hx
  obtain ⟨j, hy⟩ := hy
  exact rC_nd hu wf hA (max k j) x y l x0 x1 y0 y1 (rC_le hx (by omega)) (rC_le hy (by omega))
theorem rE_fn {m : zM} {x : Int} {l l' : List Int} (h : rE m x l) (h' : rE m x l') : l = l' := by
  obtain ⟨k, h⟩ := h
  obtain ⟨j, h'⟩ := h'
  exact rC_fn k j x l l' h h'
theorem rLo_W {m : zM} {lo C P F : Int} {cf : Int → Int} (h : zWf m lo (zTop m) C P F cf) (nd : ∀ x : Int, 0 ≤ x → x < zTop m → zNd m x) (h0 : 0 ≤ lo) : rLo m lo (zTop m) := fun x x0 x1 i i0 i1 => ⟨(h x x0 x1).1 i i0 i1, by have := ((nd x (by omega) x1).2.1 i i0 i1).2; omega⟩
theorem rAr_W {m : zM} {lo C P F : Int} {cf A : Int → Int} (h : zWf m lo (zTop m) C P F cf) (hA : (∀ v : Int, 0 ≤ v → v < C → A v = cf v) ∧ (∀ v : Int, 32 ≤ v → v < 112 → A v = 0) ∧ A 200 = 0 ∧ A 201 = 1 ∧ A 202 = 1) : rAr m A lo (zTop m) := fun x x0 x1 v hv => by
  obtain ⟨-, w0, w1, w2, w3, w4⟩ := h x x0 x1
  unfold rHd at hv
  rcases hv with ⟨a, b, c, d⟩ | ⟨a, b, c, d⟩ | ⟨a, b, c⟩ | ⟨a, b, c⟩ | ⟨a, b, c⟩
  · have := w0 a
    rw [this.2, b, hA.1 v c (by omega)]
  · rw [(w1 a).2, hA.2.1 v (by omega) (by omega)]
  · rw [w3 a, c, hA.2.2.1]
  · rw [(w4 (Or.inl a)).1, c, hA.2.2.2.1]
  · rw [(w4 (Or.inr a)).1, c, hA.2.2.2.2]
