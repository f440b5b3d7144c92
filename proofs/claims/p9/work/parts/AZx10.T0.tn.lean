/-! ### the class's nodes and their rows of heads -/
def tn (m : zM) : Int := m.1 59 ((7 : Nat) : Int)
def tp (m : zM) : Int := m.1 59 ((8 : Nat) : Int)
def tNd (m : zM) (A : Int → Int) (x : Int) : Prop := (0 ≤ m.1 61 x ∧ m.1 61 x + A (m.1 60 x) ≤ tp m) ∧ ∀ i : Int, 0 ≤ i → i < A (m.1 60 x) → 0 ≤ m.1 63 (m.1 61 x + i) ∧ m.1 63 (m.1 61 x + i) < x
/-- the number of the chain in which a node lies -/
def tHs (h : Int) (f : Int → Int) : Nat → Int
  | 0 => h
  | k + 1 => (Int32.ofInt ((Int32.ofInt (tHs h f k * 31)).toInt + f k)).toInt
def tHc (v : Int) : Int := (Int32.ofInt ((Int32.ofInt v ^^^ Int32.ofInt ((((Int32.ofInt v).toUInt32 >>> ((Int32.ofInt 11).toUInt32 &&& Int32.toUInt32 31)).toInt32).toInt)).toInt) &&& Int32.ofInt 2047).toInt
def tHn (h n : Int) (f : Int → Int) : Int := tHc (tHs h f n.toNat)
def tHx (m : zM) (A : Int → Int) (x : Int) : Int := tHn (m.1 60 x) (A (m.1 60 x)) (fun i => m.1 63 (m.1 61 x + i))
theorem tHs_c {h : Int} {f g : Int → Int} : ∀ n : Nat, (∀ i : Nat, i < n → f i = g i) → tHs h f n = tHs h g n
  | 0, _ => rfl
  | n + 1, e => by
    unfold tHs
    rw [tHs_c n (fun i hi => e i (by omega)), e n (by omega)]
theorem tHn_c {h n : Int} {f g : Int → Int} (e : ∀ i : Int, 0 ≤ i → i < n → f i = g i) : tHn h n f = tHn h n g := by
  unfold tHn
  rw [tHs_c n.toNat (fun i hi => e i (by omega) (by omega))]
/-- like nodes: a head, and parts -/
def tLk (m : zM) (h n : Int) (f : Int → Int) (y : Int) : Prop := (0 ≤ y ∧ y < tn m) ∧ m.1 60 y = h ∧ ∀ i : Int, 0 ≤ i → i < n → f i = m.1 63 (m.1 61 y + i)
def tCh (m : zM) (A : Int → Int) : Prop := (∀ h : Int, 0 ≤ h → h < 2048 → 0 ≤ m.1 64 h → tHx m A (m.1 64 h) = h) ∧ (∀ x : Int, 0 ≤ x → x < tn m → x ≤ m.1 64 (tHx m A x)) ∧ (∀ x : Int, 0 ≤ x → x < tn m → 0 ≤ m.1 62 x → tHx m A (m.1 62 x) = tHx m A x) ∧ (∀ x y : Int, 0 ≤ x → x < tn m → 0 ≤ y → m.1 62 x < y → y < x → tHx m A y ≠ tHx m A x) ∧ ∀ x y : Int, 0 ≤ x → x < tn m → tLk m (m.1 60 x) (A (m.1 60 x)) (fun i => m.1 63 (m.1 61 x + i)) y → y = x
/-- all nodes are made of nodes before them; chains lead downwards -/
def tW (m : zM) (A : Int → Int) : Prop := (0 ≤ tn m ∧ tn m ≤ 7000) ∧ (0 ≤ tp m ∧ tp m ≤ 7000) ∧ (∀ x : Int, 0 ≤ x → x < tn m → tNd m A x) ∧ (∀ h : Int, 0 ≤ h → h < 2048 → m.1 64 h < tn m) ∧ (∀ x : Int, 0 ≤ x → x < tn m → m.1 62 x < x) ∧ tCh m A
def tC (m : zM) (A : Int → Int) : Nat → Int → List Int → Prop
  | 0, _, _ => False
  | k + 1, x, l => ∃ (h : Int) (as : List (List Int)), l = h :: as.flatten ∧ m.1 60 x = h ∧ (as.length : Int) = A h ∧ ∀ i : Nat, i < as.length → tC m A k (m.1 63 (m.1 61 x + i)) (as.getD i [])
def tE (m : zM) (A : Int → Int) (x : Int) (l : List Int) : Prop := (0 ≤ x ∧ x < tn m) ∧ ∃ k, tC m A k x l
theorem tC_up {m : zM} {A : Int → Int} : ∀ (k : Nat) (x : Int) (l : List Int), tC m A k x l → tC m A (k + 1) x l
  | 0, _, _, h => h.elim
  | k + 1, x, l, ⟨h, as, e1, e2, e3, e5⟩ => ⟨h, as, e1, e2, e3, fun i hi => tC_up k _ _ (e5 i hi)⟩
theorem tC_le {m : zM} {A : Int → Int} {k j : Nat} {x : Int} {l : List Int} (h : tC m A k x l) (hj : k ≤ j) : tC m A j x l := by
  induction j with
  | zero => have : k = 0 := by omega
            subst this; exact h
  | succ j ih =>
    by_cases q : k = j + 1
    · rw [← q]; exact h
    · exact tC_up j x l (ih (by omega))
theorem tC_fn {m : zM} {A : Int → Int} : ∀ (k j : Nat) (x : Int) (l l' : List Int), tC m A k x l → tC m A j x l' → l = l'
  | 0, _, _, _, _, h, _ => h.elim
  | _ + 1, 0, _, _, _, _, h => h.elim
  | k + 1, j + 1, x, l, l', ⟨h, as, e1, e2, e3, e5⟩, ⟨h', as', f1, f2, f3, f5⟩ => by
    have hh : h = h' := e2.symm.trans f2
    subst hh
    have : as = as' := by
      apply List.ext_getElem (by omega)
      intro i h1 h2
      have c := e5 i h1
      have d := f5 i h2
      rw [List.getD_eq_getElem?_getD, List.getElem?_eq_getElem h1] at c
      rw [List.getD_eq_getElem?_getD, List.getElem?_eq_getElem h2] at d
      exact tC_fn k j _ _ _ c d
    rw [e1, f1, this]
theorem tE_fn {m : zM} {A : Int → Int} {x : Int} {l l' : List Int} (h : tE m A x l) (h' : tE m A x l') : l = l' := by
  obtain ⟨-, k, h⟩ := h
  obtain ⟨-, j, h'⟩ := h'
  exact tC_fn k j x l l' h h'
/-- nodes that were there stay -/
def tOd (μ m : zM) : Prop := (tn μ ≤ tn m ∧ tp μ ≤ tp m) ∧ (∀ x : Int, 0 ≤ x → x < tn μ → m.1 60 x = μ.1 60 x ∧ m.1 61 x = μ.1 61 x) ∧ ∀ q : Int, 0 ≤ q → q < tp μ → m.1 63 q = μ.1 63 q
theorem tOd_r (μ : zM) : tOd μ μ := ⟨⟨Int.le_refl _, Int.le_refl _⟩, fun _ _ _ => ⟨rfl, rfl⟩, fun _ _ _ => rfl⟩
theorem tOd_t {a b c : zM} (h1 : tOd a b) (h2 : tOd b c) : tOd a c := by
  have p := h1.1
  have q := h2.1
  refine ⟨⟨by omega, by omega⟩, fun x x0 x1 => ?_, fun y y0 y1 => ?_⟩
  · have u := h1.2.1 x x0 x1
    have v := h2.2.1 x x0 (by omega)
    exact ⟨v.1.trans u.1, v.2.trans u.2⟩
  · exact (h2.2.2 y y0 (by omega)).trans (h1.2.2 y y0 y1)
theorem tC_old {μ m : zM} {A : Int → Int} (o : tOd μ m) (w : tW μ A) : ∀ (k : Nat) (x : Int) (l : List Int), 0 ≤ x → x < tn μ → tC μ A k x l → tC m A k x l
  | 0, _, _, _, _, h => h.elim
  | k + 1, x, l, x0, x1, ⟨h, as, e1, e2, e3, e5⟩ => by
    have W := w.2.2.1 x x0 x1
    have O := o.2.1 x x0 x1
    have a := W.1
    rw [e2] at a
    refine ⟨h, as, e1, by rw [O.1]; exact e2, e3, fun i hi => ?_⟩
    have b := W.2 i (by omega) (by rw [e2]; omega)
    rw [O.2, o.2.2 _ (by omega) (by omega)]
    exact tC_old o w k _ _ b.1 (by omega) (e5 i hi)
theorem tE_old {μ m : zM} {A : Int → Int} (o : tOd μ m) (w : tW μ A) {x : Int} {l : List Int} (h : tE μ A x l) : tE m A x l := by
  obtain ⟨⟨x0, x1⟩, k, h⟩ := h
  have p := o.1
  exact ⟨⟨x0, by omega⟩, k, tC_old o w k x l x0 x1 h⟩
theorem tk_all {P : Nat → Nat → Prop} (up : ∀ i k j : Nat, k ≤ j → P i k → P i j) : ∀ n : Nat, (∀ i : Nat, i < n → ∃ k, P i k) → ∃ k, ∀ i : Nat, i < n → P i k
  | 0, _ => ⟨0, fun i h => by omega⟩
  | n + 1, h => by
    obtain ⟨k, hk⟩ := tk_all up n (fun i hi => h i (by omega))
    obtain ⟨j, hj⟩ := h n (by omega)
    refine ⟨k + j, fun i hi => ?_⟩
    by_cases q : i = n
    · rw [q]; exact up n j (k + j) (by omega) hj
    · exact up i k (k + j) (by omega) (hk i (by omega))
theorem tE_mk {m : zM} {A : Int → Int} {x h : Int} {as : List (List Int)} (x0 : 0 ≤ x ∧ x < tn m) (e : m.1 60 x = h) (hl : (as.length : Int) = A h) (hp : ∀ i : Nat, i < as.length → tE m A (m.1 63 (m.1 61 x + i)) (as.getD i [])) : tE m A x (h :: as.flatten) := by
  obtain ⟨k, hk⟩ := tk_all (P := fun i k => tC m A k (m.1 63 (m.1 61 x + i)) (as.getD i [])) (fun i k j hj h => tC_le h hj) as.length (fun i hi => (hp i hi).2)
  exact ⟨x0, k + 1, h, as, rfl, e, hl, hk⟩
theorem tE_h {m : zM} {A : Int → Int} {x : Int} {l : List Int} (h : tE m A x l) : ∃ as : List (List Int), l = m.1 60 x :: as.flatten ∧ (as.length : Int) = A (m.1 60 x) ∧ ∀ i : Nat, i < as.length → ∃ k, tC m A k (m.1 63 (m.1 61 x + i)) (as.getD i []) := by
  obtain ⟨-, k, h⟩ := h
  cases k with
  | zero => exact h.elim
  | succ k =>
    obtain ⟨h, as, e1, e2, e3, e5⟩ := h
    exact ⟨as, by rw [e2]; exact e1, by rw [e2]; exact e3, fun i hi => ⟨k, e5 i hi⟩⟩
/-! ### a row read from its end: a forest -/
theorem yone_le {A : Int → Int} {u : List Int} {h : Int} {fs : List (List Int)} (hy : yone A (u ++ h :: fs.flatten)) (hf : ∀ a ∈ fs, yone A a) : A h ≤ fs.length := by
  have e := hy.1
  rw [ybl_ap] at e
  have e1 : ybl A (h :: fs.flatten) = A h + ybl A fs.flatten - 1 := by unfold ybl; simp only [List.map_cons, List.sum_cons]; omega
  rw [e1, (yone_fl fs hf).1] at e
  have p : 1 ≤ ybl A u := by
    have := hy.2 u.length (by simp)
    rw [List.take_left] at this
    exact this
  omega
theorem yone_end {A : Int → Int} {fs : List (List Int)} (hy : yone A fs.flatten) (hf : ∀ a ∈ fs, yone A a) : fs = [fs.flatten] := by
  have e := hy.1
  rw [(yone_fl fs hf).1] at e
  have l1 : fs.length = 1 := by omega
  obtain ⟨a, rfl⟩ := List.length_eq_one_iff.mp l1
  simp
theorem yone_st {A : Int → Int} {h : Int} {fs : List (List Int)} {a : Nat} (ha : (a : Int) = A h) (hl : a ≤ fs.length) (hf : ∀ x ∈ fs, yone A x) : (∀ x ∈ ((h :: (fs.take a).flatten) :: fs.drop a), yone A x) ∧ ((h :: (fs.take a).flatten) :: fs.drop a).flatten = h :: fs.flatten := by
  refine ⟨fun x hx => ?_, ?_⟩
  · rcases List.mem_cons.mp hx with rfl | hx
    · exact yone_h (by rw [List.length_take, Nat.min_eq_left hl]; exact ha) (fun y hy => hf y (List.mem_of_mem_take hy))
    · exact hf x (List.mem_of_mem_drop hx)
  · rw [List.flatten_cons, List.cons_append, ← List.flatten_append, List.take_append_drop]
theorem tC_y {m : zM} {A : Int → Int} : ∀ (k : Nat) (x : Int) (l : List Int), tC m A k x l → yone A l
  | 0, _, _, h => h.elim
  | k + 1, x, l, ⟨h, as, e1, e2, e3, e5⟩ => by
    rw [e1]
    refine yone_h e3 (fun a ha => ?_)
    obtain ⟨i, hi, e⟩ := List.getElem_of_mem ha
    have c := e5 i hi
    rw [List.getD_eq_getElem?_getD, List.getElem?_eq_getElem hi] at c
    have c2 := tC_y k _ _ c
    rw [← e]
    exact c2
/-- nodes of one row are one -/
theorem tC_nd {m : zM} {A : Int → Int} (w : tW m A) : ∀ (k j : Nat) (x y : Int) (l : List Int), 0 ≤ x → x < tn m → 0 ≤ y → y < tn m → tC m A k x l → tC m A j y l → y = x
  | 0, _, _, _, _, _, _, _, _, h, _ => h.elim
  | _ + 1, 0, _, _, _, _, _, _, _, _, h => h.elim
  | k + 1, j + 1, x, y, l, x0, x1, y0, y1, ⟨h, as, e1, e2, e3, e5⟩, ⟨h', as', f1, f2, f3, f5⟩ => by
    rw [e1] at f1
    have hh : h = h' := by injection f1
    have ff : as.flatten = as'.flatten := by injection f1
    subst hh
    have one : ∀ (k : Nat) (z : Int) (bs : List (List Int)), (∀ i : Nat, i < bs.length → tC m A k (m.1 63 (m.1 61 z + i)) (bs.getD i [])) → ∀ a ∈ bs, yone A a := fun k z bs hb a ha => by
      obtain ⟨i, hi, e⟩ := List.getElem_of_mem ha
      have c := hb i hi
      rw [List.getD_eq_getElem?_getD, List.getElem?_eq_getElem hi] at c
      have c2 := tC_y k _ _ c
      rw [← e]
      exact c2
    have ea : as = as' := yone_fe as as' (one k x as e5) (one j y as' f5) (by omega) ff
    subst ea
    have wx := w.2.2.1 x x0 x1
    have wy := w.2.2.1 y y0 y1
    refine w.2.2.2.2.2.2.2.2.2 x y x0 x1 ⟨⟨y0, y1⟩, f2.trans e2.symm, fun i i0 i1 => ?_⟩
    rw [e2] at i1
    obtain ⟨n, rfl⟩ : ∃ n : Nat, i = n := ⟨i.toNat, by omega⟩
    have ux := wx.2 n (by omega) (by rw [e2]; exact i1)
    have uy := wy.2 n (by omega) (by rw [f2]; exact i1)
    have r := tC_nd w k j _ _ _ ux.1 (by omega) uy.1 (by omega) (e5 n (by omega)) (f5 n (by omega))
    exact r.symm
theorem tE_1n {m : zM} {A : Int → Int} (w : tW m A) {x y : Int} {l : List Int} (h : tE m A x l) (h' : tE m A y l) : y = x := by
  obtain ⟨⟨a, b⟩, k, h⟩ := h
  obtain ⟨⟨c, d⟩, j, h'⟩ := h'
  exact tC_nd w k j x y l a b c d h h'
