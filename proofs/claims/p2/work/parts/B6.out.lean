/-! ### the law's one long -/
theorem zRep_long {μ : zM} {w : mW} {a b : mJ} (h : zRep μ w) (h8 : w.1[108]? = some (.inr ((1, 1), .inr a))) : zRep (zu μ 2000001 0 (mx_g b 0).toInt) (w.1.set 108 (.inr ((1, 1), .inr b)), w.2) := by
  obtain ⟨g1, g2, g3, g4⟩ := h
  have hlt := (List.getElem?_eq_some_iff.mp h8).1
  refine ⟨⟨by simpa using g1.1, fun a8 ha => ?_⟩, by rw [zu_ne (by decide)]; simpa using g2, fun t d hd => ?_, fun t hd => ?_⟩
  · dsimp only at ha
    rw [show (w.1.set 108 (.inr ((1, 1), .inr b)))[108]? = some (.inr ((1, 1), .inr b)) by simp [hlt]] at ha
    cases ha
    rw [zu_at]
  · obtain ⟨c, e1, e2⟩ := g3 t d hd
    by_cases ht : t = 108
    · subst ht
      cases h8.symm.trans e1
      refine ⟨.inr ((1, 1), .inr b), by simp [hlt], ?_⟩
      unfold zCe at e2 ⊢
      split
      · obtain ⟨fs, q, -⟩ := e2
        cases q
      · refine ⟨e2.1, ?_⟩
        have e3 := e2.2
        split at e3
        · obtain ⟨a', q⟩ := e3
          cases q
          exact ⟨b, rfl⟩
        · obtain ⟨a', q, -⟩ := e3
          cases q
    · exact ⟨c, by dsimp only; rw [List.getElem?_set_ne (Ne.symm ht)]; exact e1, zCe_ne (by have := (List.getElem?_eq_some_iff.mp e1).1; have := g1.1; omega) e2⟩
  · have ht : t ≠ 108 := by have := hd.1; omega
    obtain ⟨n, a', e1, e2⟩ := g4 t hd
    exact ⟨n, a', by dsimp only; rw [List.getElem?_set_ne (Ne.symm ht)]; exact e1, e2.1, zRw_ne (by have := (List.getElem?_eq_some_iff.mp e1).1; have := g1.1; omega) e2.2⟩
