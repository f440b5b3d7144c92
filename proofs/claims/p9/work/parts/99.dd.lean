/-! ### a dead cell behind the others, in the memory's picture -/
def zdd (μ : zM) (n : Nat) : zM := (fun i k => if i = 2000000 then (if k = 0 then μ.1 i k + 1 else if k = 1 then μ.1 i k + 6 else μ.1 i k) else μ.1 i k, fun t => if t = n then 0 else μ.2 t)
theorem zdd_n {μ : zM} {n i : Nat} (h : i ≠ 2000000) : (zdd μ n).1 i = μ.1 i := by
  funext k
  simp [zdd, h]
theorem zdd_2 {μ : zM} {n t : Nat} (h : t ≠ n) : (zdd μ n).2 t = μ.2 t := by simp [zdd, h]
theorem zdd_c {μ : zM} {n : Nat} : (zdd μ n).1 2000000 0 = μ.1 2000000 0 + 1 ∧ (zdd μ n).1 2000000 1 = μ.1 2000000 1 + 6 := by simp [zdd]
theorem zDyn_dd {μ : zM} {n t : Nat} (h : zDyn μ t) (ht : t ≠ n) : zDyn (zdd μ n) t := by
  unfold zDyn at h ⊢
  rw [zdd_2 ht]
  exact h
theorem zDyn_ddb {μ : zM} {n t : Nat} (h : zDyn (zdd μ n) t) : zDyn μ t ∧ t ≠ n := by
  have ht : t ≠ n := fun q => by
    subst q
    have h2 := h.2.1
    simp [zdd] at h2
  refine ⟨?_, ht⟩
  unfold zDyn at h ⊢
  rw [zdd_2 ht] at h
  exact h
theorem zchk_dd {μ : zM} {n y j : Nat} (hl : ∀ t, zDyn μ t → t ≠ n) (h : zchk μ y j True) : zchk (zdd μ n) y j True := by
  unfold zchk at h ⊢
  split
  · rename_i e
    rw [e] at h
    exact h
  · rename_i e
    rw [e] at h
    refine ⟨?_, trivial⟩
    have h := h.1
    unfold zIn at h ⊢
    split at h
    · exact zDyn_dd h (hl _ h)
    · exact h
    · cases h
theorem zRep_dead {μ : zM} {w : mW} (h : zRep μ w) (hl : w.1.length < 1048576) (h109 : 109 ≤ w.1.length) : zRep (zdd μ w.1.length) (zdead w) := by
  obtain ⟨g1, ⟨g2, g2'⟩, g3, g4⟩ := h
  have hd : ∀ t, zDyn μ t → t ≠ w.1.length := fun t ht q => by
    obtain ⟨n, a, e1, -⟩ := g4 t ht
    have := (List.getElem?_eq_some_iff.mp e1).1
    omega
  refine ⟨⟨by simp [zdead]; omega, fun t n a8 ha q hq => by
    have ha : (w.1 ++ [(.inr ((9, 0), .inl (0, [])) : mE)])[t]? = _ := ha
    rw [zdd_n (by omega)]
    by_cases e : t < w.1.length
    · rw [List.getElem?_append_left e] at ha
      exact g1.2.1 t n a8 ha q hq
    · rw [List.getElem?_append_right (by omega)] at ha
      have hz : t - w.1.length < 1 := by simpa using (List.getElem?_eq_some_iff.mp ha).1
      rw [show t - w.1.length = 0 by omega] at ha
      exact (by cases ha), fun t ci fs ha k v hv => by
    have ha : (w.1 ++ [(.inr ((9, 0), .inl (0, [])) : mE)])[t]? = _ := ha
    rw [zdd_n (by omega)]
    by_cases e : t < w.1.length
    · rw [List.getElem?_append_left e] at ha
      exact g1.2.2 t ci fs ha k v hv
    · rw [List.getElem?_append_right (by omega)] at ha
      have hz : t - w.1.length < 1 := by simpa using (List.getElem?_eq_some_iff.mp ha).1
      rw [show t - w.1.length = 0 by omega] at ha
      exact (by cases ha)⟩, ?_, fun t d hdd => ?_, fun t hdd => ?_⟩
  · rw [zdd_c.1, zdd_c.2]
    simp [zdead]
    omega
  · obtain ⟨c, e1, e2⟩ := g3 t d hdd
    have ht := (List.getElem?_eq_some_iff.mp e1).1
    have hn : t ≠ w.1.length := by omega
    have h2 : t ≠ 2000000 := by omega
    refine ⟨c, by show (w.1 ++ _)[t]? = _; rw [List.getElem?_append_left ht]; exact e1, ?_⟩
    unfold zCe at e2 ⊢
    split
    · obtain ⟨fs, h1, fl, h3, h4, h5⟩ := e2
      refine ⟨fs, h1, fl, h3, h4, fun kf f v q1 q2 => ?_⟩
      have h6 := h5 kf f v q1 q2
      unfold zFt at h6 ⊢
      split
      · rw [zdd_n h2]; exact h6
      · exact h6
      · exact h6
      · obtain ⟨j, k1, k2, k3, k4⟩ := h6
        exact ⟨j, k1, k2, by rw [zdd_n h2]; exact k3, zchk_dd hd k4⟩
    · refine ⟨by rw [zdd_2 hn]; exact e2.1, ?_⟩
      have h3 := e2.2
      split at h3
      · exact h3
      · obtain ⟨a, h4, h5⟩ := h3
        refine ⟨a, h4, ?_⟩
        unfold zRw at h5 ⊢
        rw [zdd_n h2]
        exact h5
  · obtain ⟨hdy, hn⟩ := zDyn_ddb hdd
    obtain ⟨n, a, e1, e2, e3⟩ := g4 t hdy
    have ht := (List.getElem?_eq_some_iff.mp e1).1
    refine ⟨n, a, by show (w.1 ++ _)[t]? = _; rw [List.getElem?_append_left ht]; exact e1, by rw [zdd_2 hn]; exact e2, ?_⟩
    unfold zRw at e3 ⊢
    rw [zdd_n (by omega)]
    exact e3
