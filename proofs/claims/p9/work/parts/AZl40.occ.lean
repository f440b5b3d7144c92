/-! ### parts within a row of heads -/
theorem ybl_ap (A : Int → Int) (u s : List Int) : ybl A (u ++ s) = ybl A u + ybl A s - 1 := by
  unfold ybl
  rw [List.map_append, List.sum_append]
  omega
/-- what is behind some heads of a part begins with a part -/
theorem ybl_cut {A : Int → Int} (hA : ∀ h, 0 ≤ A h) : ∀ (s : List Int) (c : Int), 1 ≤ c → c + (s.map (fun h => A h - 1)).sum ≤ 0 → ∃ n : Nat, n ≤ s.length ∧ c + ((s.take n).map (fun h => A h - 1)).sum = 0 ∧ ∀ m : Nat, m < n → 1 ≤ c + ((s.take m).map (fun h => A h - 1)).sum
  | [], c, h1, h2 => by simp at h2; omega
  | h :: s, c, h1, h2 => by
    rw [List.map_cons, List.sum_cons] at h2
    have a := hA h
    by_cases q : c + (A h - 1) = 0
    · refine ⟨1, by simp, by simpa using q, fun m hm => ?_⟩
      have : m = 0 := by omega
      subst this
      simpa using h1
    · obtain ⟨n, n1, n2, n3⟩ := ybl_cut hA s (c + (A h - 1)) (by omega) (by omega)
      refine ⟨n + 1, by simp; omega, ?_, fun m hm => ?_⟩
      · rw [List.take_succ_cons, List.map_cons, List.sum_cons]; omega
      · cases m with
        | zero => simpa using h1
        | succ m =>
          have := n3 m (by omega)
          rw [List.take_succ_cons, List.map_cons, List.sum_cons]; omega
theorem yone_suf {A : Int → Int} (hA : ∀ h, 0 ≤ A h) {u s : List Int} (h : yone A (u ++ s)) (hs : s ≠ []) : ∃ t r, s = t ++ r ∧ yone A t := by
  have hl : 0 < s.length := List.length_pos_iff.mpr hs
  have h1 : 1 ≤ ybl A u := by
    have q := h.2 u.length (by rw [List.length_append]; omega)
    rw [List.take_left' rfl] at q
    exact q
  have h2 := h.1
  rw [ybl_ap] at h2
  obtain ⟨n, n1, n2, n3⟩ := ybl_cut hA s 1 (by omega) (by have : ybl A s = 1 + (s.map (fun h => A h - 1)).sum := rfl; omega)
  refine ⟨s.take n, s.drop n, (List.take_append_drop n s).symm, n2, fun m hm => ?_⟩
  rw [List.length_take] at hm
  rw [List.take_take, show min m n = m by omega]
  exact n3 m (by omega)
/-- a part within a row of parts lies in one of them -/
theorem yone_in {A : Int → Int} (hA : ∀ h, 0 ≤ A h) : ∀ (as : List (List Int)) (a t b : List Int), (∀ x ∈ as, yone A x) → yone A t → as.flatten = a ++ t ++ b → ∃ x ∈ as, ∃ a' b', x = a' ++ t ++ b'
  | [], a, t, b, _, ht, e => by
    have := yone_p ht
    have e := congrArg List.length e
    simp at e
    omega
  | x :: as, a, t, b, hx, ht, e => by
    rw [List.flatten_cons, List.append_assoc] at e
    by_cases q : x.length ≤ a.length
    · -- it begins behind x
      obtain ⟨c, rfl⟩ : ∃ c, a = x ++ c := by
        have h := congrArg (List.take x.length) e
        rw [List.take_left' rfl, List.take_append_of_le_length q] at h
        exact ⟨a.drop x.length, by conv => lhs; rw [← List.take_append_drop x.length a, ← h]⟩
      rw [List.append_assoc] at e
      have e := List.append_cancel_left e
      obtain ⟨y, hy, w⟩ := yone_in hA as c t b (fun y hy => hx y (List.mem_cons_of_mem _ hy)) ht (by rw [e, List.append_assoc])
      exact ⟨y, List.mem_cons_of_mem _ hy, w⟩
    · -- it begins within x
      obtain ⟨s, rfl⟩ : ∃ s, x = a ++ s := by
        have h := congrArg (List.take a.length) e
        rw [List.take_left' rfl, List.take_append_of_le_length (by omega)] at h
        exact ⟨x.drop a.length, by conv => lhs; rw [← List.take_append_drop a.length x, h]⟩
      have hs : s ≠ [] := by intro q'; rw [q'] at q; simp at q
      obtain ⟨t', r, rfl, ht'⟩ := yone_suf hA (hx _ (List.mem_cons_self ..)) hs
      rw [List.append_assoc, List.append_assoc] at e
      have e := List.append_cancel_left e
      have := yone_ap ht' ht e
      rw [this.1] 
      exact ⟨a ++ (t ++ r), by rw [← this.1]; exact List.mem_cons_self .., a, r, by rw [List.append_assoc]⟩
