/-! ### questions of texts that are alike -/
theorem yqo_q {T T' : yT} (h : yTq T T') (h0 : 0 ≤ T.2) (B : yB) : yqo T B = yqo T' B ∧ ∀ o p : Int, yqo T B = .inl (o, p) → 0 ≤ p ∧ p ≤ T.2 := by
  have b0 : (0 : Int) ≤ 0 ∧ (0 : Int) ≤ T.2 := ⟨Int.le_refl _, h0⟩
  have b1 := (yPo_l b0).2
  have b2 := (yPo_l b1).2
  have b3 := (yPo_l b2).2
  have k0 := ykd_q h b0.1 b0.2
  have x0 := ynx_q h b0.1
  have c1 := b1
  have c2 := b2
  rw [x0] at c1 c2
  have k1 := ykd_q h c1.1 c1.2
  have n1 := ynm_q h c1.1 c1.2
  have l1 := ypl_q h c1.1
  have x1 := ynx_q h c1.1
  rw [x1] at c2
  have k2 := ykd_q h c2.1 c2.2
  have l2 := ypl_q h c2.1
  have x2 := ynx_q h c2.1
  refine ⟨?_, fun o p e => ?_⟩
  · simp only [yqo, yfq, k0, x0, k1, n1, l1, x1, k2, l2, x2]
  · unfold yqo at e
    split at e
    · cases e; exact b0
    · split at e
      · cases e
      · split at e
        · cases e
        · split at e
          · cases e
          · cases e; exact b3
theorem yfq_q {T T' : yT} (h : yTq T T') {p c : Int} (hp : 0 ≤ p ∧ p ≤ T.2) : yfq T p c = yfq T' p c := by
  unfold yfq
  rw [ykd_q h hp.1 hp.2, ypl_q h hp.1]
theorem yQq_q {T T' : yT} (h : yTq T T') (h0 : 0 ≤ T.2) {B : yB} {x l : Int} (a : yQq T B x l) : yQq T' B x l := by
  obtain ⟨e, eb⟩ := yqo_q h h0 B
  rcases a with a | ⟨o, p, a, a1⟩
  · exact Or.inl (by rw [← e]; exact a)
  · have pB := eb o p a
    refine Or.inr ⟨o, p, by rw [← e]; exact a, ?_⟩
    rcases a1 with ⟨B1, a1⟩ | ⟨p1, n1, f, a1, a2⟩
    · exact Or.inl ⟨B1, yR_q h pB a1⟩
    · have p1B : 0 ≤ p1 ∧ p1 ≤ T.2 := yPo_R (show yPo T (10, p, 0, [], _) from pB) a1
      have b1 := (yPo_l p1B).2
      have b2 := (yPo_l b1).2
      have e1 := ynx_q h p1B.1
      have e2 := ynx_q h b1.1
      refine Or.inr ⟨p1, n1, f, yR_q h pB a1, ?_⟩
      rw [← e1, ← e2, ← ykd_q h b1.1 b1.2, ← yfq_q h b1]
      rcases a2 with a2 | ⟨k, a2⟩
      · exact Or.inl a2
      · refine Or.inr ⟨k, ?_⟩
        rcases a2 with ⟨B2, a2⟩ | ⟨z, p2, n2, f2, a2⟩
        · exact Or.inl ⟨B2, yR_q h b2 a2⟩
        · exact Or.inr ⟨z, p2, n2, f2, yR_q h b2 a2⟩
