/-! ### the law's one long -/
theorem zRep_long {μ : zM} {w : mW} {a b : mJ} (h : zRep μ w) (h8 : w.1[108]? = some (.inr ((1, 1), .inr a))) : zRep (zu μ 3000108 0 (mx_g b 0).toInt) (w.1.set 108 (.inr ((1, 1), .inr b)), w.2) := by
  have hlt := (List.getElem?_eq_some_iff.mp h8).1
  have hn := h.1.1
  refine zRep_setG h hlt (fun i _ hi => zu_ne (by omega)) rfl (fun t n a' ht q hq => ?_) (fun t ci fs ht k v hv => ?_) (fun d hd => ?_) (fun hd => ?_)
  · by_cases q8 : t = 108
    · subst q8
      dsimp only at ht
      rw [show (w.1.set 108 (.inr ((1, 1), .inr b)))[108]? = some (.inr ((1, 1), .inr b)) by simp [hlt]] at ht
      cases ht
      have : q = 0 := by omega
      subst this
      show _ = (zu μ 3000108 0 _).1 3000108 ((0 : Nat) : Int)
      exact zu_at.symm
    · dsimp only at ht
      rw [List.getElem?_set_ne (Ne.symm q8)] at ht
      rw [zu_ne (by omega)]
      exact h.1.2.1 t n a' ht q hq
  · by_cases q8 : t = 108
    · subst q8
      dsimp only at ht
      rw [show (w.1.set 108 (.inr ((1, 1), .inr b)))[108]? = some (.inr ((1, 1), .inr b)) by simp [hlt]] at ht
      cases ht
    · dsimp only at ht
      rw [List.getElem?_set_ne (Ne.symm q8)] at ht
      rw [zu_ne (by omega)]
      exact h.1.2.2 t ci fs ht k v hv
  · obtain ⟨c, e1, e2⟩ := h.2.2.1 108 d hd
    cases h8.symm.trans e1
    unfold zCe at e2 ⊢
    split
    · obtain ⟨fs, q, -⟩ := e2
      cases q
    · refine ⟨e2.1, ?_⟩
      have e3 := e2.2
      split at e3
      · obtain ⟨a', q⟩ := e3
        cases q
        exact ⟨b, rfl⟩
      · obtain ⟨a', q, -⟩ := e3
        cases q
  · exfalso
    have := hd.1
    omega
