/-! ### the class's nodes and their rows of heads -/
def tn (m : zM) : Int := m.1 59 ((7 : Nat) : Int)
def tp (m : zM) : Int := m.1 59 ((8 : Nat) : Int)
def tNd (m : zM) (A : Int → Int) (x : Int) : Prop := (0 ≤ m.1 61 x ∧ m.1 61 x + A (m.1 60 x) ≤ tp m) ∧ ∀ i : Int, 0 ≤ i → i < A (m.1 60 x) → 0 ≤ m.1 63 (m.1 61 x + i) ∧ m.1 63 (m.1 61 x + i) < x
/-- all nodes are made of nodes before them; chains lead downwards -/
def tW (m : zM) (A : Int → Int) : Prop := (0 ≤ tn m ∧ tn m ≤ 7000) ∧ (0 ≤ tp m ∧ tp m ≤ 7000) ∧ (∀ x : Int, 0 ≤ x → x < tn m → tNd m A x) ∧ (∀ h : Int, 0 ≤ h → h < 2048 → m.1 64 h < tn m) ∧ ∀ x : Int, 0 ≤ x → x < tn m → m.1 62 x < x
def tC (m : zM) (A : Int → Int) : Nat → Int → List Int → Prop
  | 0, _, _ => False
  | k + 1, x, l => ∃ (h : Int) (as : List (List Int)), l = h :: as.flatten ∧ m.1 60 x = h ∧ (as.length : Int) = A h ∧ ∀ i : Nat, i < as.length → tC m A k (m.1 63 (m.1 61 x + i)) (as.getD i [])
def tE (m : zM) (A : Int → Int) (x : Int) (l : List Int) : Prop := (0 ≤ x ∧ x < tn m) ∧ ∃ k, tC m A k x l
theorem tC_up {m : zM} {A : Int → Int} : ∀ (k : Nat) (x : Int) (l : List Int), tC m A k x l → tC m A (k + 1) x l
  | 0, _, _, h => h.elim
  | k + 1, x, l, ⟨h, as, e1, e2, e3, e5⟩ => ⟨h, as, e1, e2, e3, fun i hi => tC_up k _ _ (e5 i hi)⟩
theorem tC_le {m : zM} {A : Int → Int} {k j : Nat} {x : Int} {l : List Int} (h : tC m A k x l) (hj : k ≤ j) : tC m A j x l := by
  induction j with
  | zero => have : k = 0 := by omega
            subst this; exact h
  | succ j ih =>
    by_cases q : k = j + 1
    · rw [← q]; exact h
    · exact tC_up j x l (ih (by omega))
/-- nodes that were there stay -/
def tOd (μ m : zM) : Prop := (tn μ ≤ tn m ∧ tp μ ≤ tp m) ∧ (∀ x : Int, 0 ≤ x → x < tn μ → m.1 60 x = μ.1 60 x ∧ m.1 61 x = μ.1 61 x) ∧ ∀ q : Int, 0 ≤ q → q < tp μ → m.1 63 q = μ.1 63 q
theorem tOd_r (μ : zM) : tOd μ μ := ⟨⟨Int.le_refl _, Int.le_refl _⟩, fun _ _ _ => ⟨rfl, rfl⟩, fun _ _ _ => rfl⟩
theorem tOd_t {a b c : zM} (h1 : tOd a b) (h2 : tOd b c) : tOd a c := by
  have p := h1.1
  have q := h2.1
  refine ⟨⟨by omega, by omega⟩, fun x x0 x1 => ?_, fun y y0 y1 => ?_⟩
  · have u := h1.2.1 x x0 x1
    have v := h2.2.1 x x0 (by omega)
    exact ⟨v.1.trans u.1, v.2.trans u.2⟩
  · exact (h2.2.2 y y0 (by omega)).trans (h1.2.2 y y0 y1)
theorem tC_old {μ m : zM} {A : Int → Int} (o : tOd μ m) (w : tW μ A) : ∀ (k : Nat) (x : Int) (l : List Int), 0 ≤ x → x < tn μ → tC μ A k x l → tC m A k x l
  | 0, _, _, _, _, h => h.elim
  | k + 1, x, l, x0, x1, ⟨h, as, e1, e2, e3, e5⟩ => by
    have W := w.2.2.1 x x0 x1
    have O := o.2.1 x x0 x1
    have a := W.1
    rw [e2] at a
    refine ⟨h, as, e1, by rw [O.1]; exact e2, e3, fun i hi => ?_⟩
    have b := W.2 i (by omega) (by rw [e2]; omega)
    rw [O.2, o.2.2 _ (by omega) (by omega)]
    exact tC_old o w k _ _ b.1 (by omega) (e5 i hi)
theorem tE_old {μ m : zM} {A : Int → Int} (o : tOd μ m) (w : tW μ A) {x : Int} {l : List Int} (h : tE μ A x l) : tE m A x l := by
  obtain ⟨⟨x0, x1⟩, k, h⟩ := h
  have p := o.1
  exact ⟨⟨x0, by omega⟩, k, tC_old o w k x l x0 x1 h⟩
theorem tk_all {P : Nat → Nat → Prop} (up : ∀ i k j : Nat, k ≤ j → P i k → P i j) : ∀ n : Nat, (∀ i : Nat, i < n → ∃ k, P i k) → ∃ k, ∀ i : Nat, i < n → P i k
  | 0, _ => ⟨0, fun i h => by omega⟩
  | n + 1, h => by
    obtain ⟨k, hk⟩ := tk_all up n (fun i hi => h i (by omega))
    obtain ⟨j, hj⟩ := h n (by omega)
    refine ⟨k + j, fun i hi => ?_⟩
    by_cases q : i = n
    · rw [q]; exact up n j (k + j) (by omega) hj
    · exact up i k (k + j) (by omega) (hk i (by omega))
theorem tE_mk {m : zM} {A : Int → Int} {x h : Int} {as : List (List Int)} (x0 : 0 ≤ x ∧ x < tn m) (e : m.1 60 x = h) (hl : (as.length : Int) = A h) (hp : ∀ i : Nat, i < as.length → tE m A (m.1 63 (m.1 61 x + i)) (as.getD i [])) : tE m A x (h :: as.flatten) := by
  obtain ⟨k, hk⟩ := tk_all (P := fun i k => tC m A k (m.1 63 (m.1 61 x + i)) (as.getD i [])) (fun i k j hj h => tC_le h hj) as.length (fun i hi => (hp i hi).2)
  exact ⟨x0, k + 1, h, as, rfl, e, hl, hk⟩
theorem tE_h {m : zM} {A : Int → Int} {x : Int} {l : List Int} (h : tE m A x l) : ∃ as : List (List Int), l = m.1 60 x :: as.flatten ∧ (as.length : Int) = A (m.1 60 x) ∧ ∀ i : Nat, i < as.length → ∃ k, tC m A k (m.1 63 (m.1 61 x + i)) (as.getD i []) := by
  obtain ⟨-, k, h⟩ := h
  cases k with
  | zero => exact h.elim
  | succ k =>
    obtain ⟨h, as, e1, e2, e3, e5⟩ := h
    exact ⟨as, by rw [e2]; exact e1, by rw [e2]; exact e3, fun i hi => ⟨k, e5 i hi⟩⟩
/-! ### a row read from its end: a forest -/
theorem yone_le {A : Int → Int} {u : List Int} {h : Int} {fs : List (List Int)} (hy : yone A (u ++ h :: fs.flatten)) (hf : ∀ a ∈ fs, yone A a) : A h ≤ fs.length := by
  have e := hy.1
  rw [ybl_ap] at e
  have e1 : ybl A (h :: fs.flatten) = A h + ybl A fs.flatten - 1 := by unfold ybl; simp only [List.map_cons, List.sum_cons]; omega
  rw [e1, (yone_fl fs hf).1] at e
  have p : 1 ≤ ybl A u := by
    have := hy.2 u.length (by simp)
    rw [List.take_left] at this
    exact this
  omega
theorem yone_end {A : Int → Int} {fs : List (List Int)} (hy : yone A fs.flatten) (hf : ∀ a ∈ fs, yone A a) : fs = [fs.flatten] := by
  have e := hy.1
  rw [(yone_fl fs hf).1] at e
  have l1 : fs.length = 1 := by omega
  obtain ⟨a, rfl⟩ := List.length_eq_one_iff.mp l1
  simp
theorem yone_st {A : Int → Int} {h : Int} {fs : List (List Int)} {a : Nat} (ha : (a : Int) = A h) (hl : a ≤ fs.length) (hf : ∀ x ∈ fs, yone A x) : (∀ x ∈ ((h :: (fs.take a).flatten) :: fs.drop a), yone A x) ∧ ((h :: (fs.take a).flatten) :: fs.drop a).flatten = h :: fs.flatten := by
  refine ⟨fun x hx => ?_, ?_⟩
  · rcases List.mem_cons.mp hx with rfl | hx
    · exact yone_h (by rw [List.length_take, Nat.min_eq_left hl]; exact ha) (fun y hy => hf y (List.mem_of_mem_take hy))
    · exact hf x (List.mem_of_mem_drop hx)
  · rw [List.flatten_cons, List.cons_append, ← List.flatten_append, List.take_append_drop]
