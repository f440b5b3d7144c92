/-! ### parts of a node, and what stands within its row -/
def rRe (m : zM) : Nat → Int → Int → Prop
  | 0, x, y => x = y
  | k + 1, x, y => x = y ∨ ∃ i : Int, 0 ≤ i ∧ i < m.1 69 x ∧ rRe m k (m.1 70 (4 * x + i)) y
theorem rRe_0 {m : zM} {k : Nat} {x : Int} : rRe m k x x := by
  cases k with
  | zero => rfl
  | succ k => exact Or.inl rfl
theorem rRe_t {m : zM} : ∀ (k j : Nat) (x y z : Int), rRe m k x y → rRe m j y z → rRe m (k + j) x z
  | 0, j, x, y, z, h1, h2 => by
    have h1 : x = y := h1
    rw [h1, Nat.zero_add]; exact h2
  | k + 1, j, x, y, z, h1, h2 => by
    rw [show k + 1 + j = (k + j) + 1 by omega]
    rcases h1 with h1 | ⟨i, i0, i1, h1⟩
    · rw [h1]
      rw [show k + j + 1 = (k + 1) + j by omega]
      clear h1
      -- more fuel
      have up : ∀ (a : Nat) (u v : Int), rRe m a u v → rRe m (a + 1) u v := by
        intro a
        induction a with
        | zero => intro u v h; exact Or.inl h
        | succ a ih =>
          intro u v h
          rcases h with h | ⟨i, i0, i1, h⟩
          · exact Or.inl h
          · exact Or.inr ⟨i, i0, i1, ih _ _ h⟩
      have ups : ∀ (b a : Nat) (u v : Int), rRe m a u v → rRe m (b + a) u v := by
        intro b
        induction b with
        | zero => intro a u v h; rw [Nat.zero_add]; exact h
        | succ b ih => intro a u v h; rw [show b + 1 + a = (b + a) + 1 by omega]; exact up _ _ _ (ih a u v h)
      exact ups (k + 1) j y z h2
    · exact Or.inr ⟨i, i0, i1, rRe_t k j _ y z h1 h2⟩
theorem rfl_in {as : List (List Int)} {i : Nat} (h : i < as.length) : ∃ a b, as.flatten = a ++ as.getD i [] ++ b := by
  induction as generalizing i with
  | nil => simp at h
  | cons x as ih =>
    cases i with
    | zero => exact ⟨[], as.flatten, by simp⟩
    | succ i =>
      obtain ⟨a, b, e⟩ := ih (i := i) (by simpa using h)
      refine ⟨x ++ a, b, ?_⟩
      rw [List.flatten_cons, e]
      simp [List.append_assoc]
/-- a part's row stands within the row -/
theorem rC_in {m : zM} : ∀ (j k : Nat) (x y : Int) (L : List Int), rC m k x L → rRe m j x y → ∃ l a b, rE m y l ∧ L = a ++ l ++ b
  | 0, k, x, y, L, h, r => by
    have r : x = y := r
    exact ⟨L, [], [], by rw [← r]; exact ⟨k, h⟩, by simp⟩
  | j + 1, 0, x, y, L, h, r => h.elim
  | j + 1, k + 1, x, y, L, h, r => by
    rcases r with r | ⟨i, i0, i1, r⟩
    · exact ⟨L, [], [], by rw [← r]; exact ⟨k + 1, h⟩, by simp⟩
    · obtain ⟨hd, as, e1, e2, e3, e5⟩ := h
      have hi : i.toNat < as.length := by omega
      have e5 := e5 i.toNat hi
      rw [show ((i.toNat : Nat) : Int) = i by omega] at e5
      obtain ⟨l, a, b, h1, h2⟩ := rC_in j k _ y _ e5 r
      obtain ⟨a', b', h3⟩ := rfl_in hi
      refine ⟨l, hd :: (a' ++ a), b ++ b', h1, ?_⟩
      rw [e1, h3, h2]
      simp [List.append_assoc]
/-- a part that stands within the row is a part's row -/
theorem rC_oc {m : zM} {A : Int → Int} {lo T : Int} (hA0 : ∀ h, 0 ≤ A h) (wf : rLo m lo T) (hA : rAr m A lo T) : ∀ (k : Nat) (x : Int) (L a t b : List Int), lo ≤ x → x < T → rC m k x L → yone A t → L = a ++ t ++ b → ∃ (j : Nat) (y : Int), rRe m j x y ∧ (lo ≤ y ∧ y < T) ∧ rE m y t
  | 0, _, _, _, _, _, _, _, h, _, _ => h.elim
  | k + 1, x, L, a, t, b, x0, x1, h, ht, e => by
    have hL := rC_one wf hA (k + 1) x L x0 x1 h
    obtain ⟨hd, as, e1, e2, e3, e5⟩ := h
    have hx : rE m x L := ⟨k + 1, hd, as, e1, e2, e3, e5⟩
    cases a with
    | nil =>
      have q := yone_ap (r := []) (s := b) hL ht (by rw [List.append_nil, e]; simp)
      exact ⟨0, x, rfl, ⟨x0, x1⟩, by rw [← q.1]; exact hx⟩
    | cons c a =>
      rw [e1] at e
      have e : as.flatten = a ++ t ++ b := by
        have := List.cons.inj (show hd :: as.flatten = c :: (a ++ t ++ b) from by rw [e]; simp)
        exact this.2
      have ha : ∀ y ∈ as, yone A y := fun y hy => by
        obtain ⟨i, h1, h2⟩ := rmem hy
        rw [← h2]
        have w := wf x x0 x1 i (by omega) (by omega)
        exact rC_one wf hA k _ _ w.1 w.2 (e5 i h1)
      obtain ⟨y, hy, a', b', e6⟩ := yone_in hA0 as a t b ha ht e
      obtain ⟨i, h1, h2⟩ := rmem hy
      have w := wf x x0 x1 i (by omega) (by omega)
      obtain ⟨j, z, r1, r2, r3⟩ := rC_oc hA0 wf hA k _ y a' t b' w.1 w.2 (by rw [← h2]; exact e5 i h1) ht e6
      exact ⟨j + 1, z, Or.inr ⟨i, by omega, by omega, r1⟩, r2, r3⟩
