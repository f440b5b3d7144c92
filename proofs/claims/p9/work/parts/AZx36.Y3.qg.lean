/-! ### the rows of a question are TYPES -/
theorem yQ1_G {T : yT} {B : yB} {o p p1 n n1 r : Int} {f : yF} (hr : 2 ≤ r) (hI : yI0 B) (ho : -1 ≤ o ∧ o < B.1 0 0) (a2 : yR T (10, p, 0, [], yQB B n o r) (14, p1, 0, [f], yN (yQB B n o r) 0 2 n1)) : qY (yar B) (qH B o 0) (ycd f) := by
  have v := yQB_v B n o r
  have q := yKs_R (s := (10, p, 0, [], yQB B n o r)) (yKs_k ⟨⟨by decide, by decide⟩, yI0_q hI ho, by rw [v.1]; exact hr, ⟨fun f hf => absurd hf (by simp), fun f hf => absurd hf (by simp)⟩, fun f hf => by simp at hf, fun q => absurd q (by decide), fun q => absurd q (by decide), fun _ => ⟨Or.inl rfl, fun _ => rfl⟩⟩) a2
  rcases q with q | ⟨-, q0, -, ⟨qf, qn⟩, ql, q14, -, -⟩
  · exact absurd (show (14 : Nat) = 20 from q.1) (by decide)
  have q0 : yI0 (yN (yQB B n o r) 0 2 n1) := q0
  have qf : yGf (yN (yQB B n o r) 0 2 n1) f := qf f List.mem_cons_self
  have qn : yVf (yN (yQB B n o r) 0 2 n1) f := qn f List.mem_cons_self
  have ql : f.1 = 0 := ql f rfl
  obtain ⟨f', e1, e2⟩ := q14 rfl
  have e1 : f = f' := by simpa using e1
  subst e1
  have z := yVf_z q0.1.1.2 q0 qn qf.2.2 e2
  have e0 : (yN (yQB B n o r) 0 2 n1).1 0 0 = B.1 0 0 := by rw [yN_ne (by decide)]; exact v.2.2.2.2.1
  have e3 : (yN (yQB B n o r) 0 2 n1).1 0 3 = o := by rw [yN_ne (by decide)]; exact v.2.2.2.1
  have k2 : (yN (yQB B n o r) 0 2 n1).1 2 = B.1 2 := by rw [yN_nk (by decide)]; exact v.2.2.2.2.2.2.1 2 (by decide)
  have k3 : (yN (yQB B n o r) 0 2 n1).1 3 = B.1 3 := by rw [yN_nk (by decide)]; exact v.2.2.2.2.2.2.1 3 (by decide)
  have ea : yar (yN (yQB B n o r) 0 2 n1) = yar B := yar_e e0 k3
  rw [ea] at z
  refine ⟨qZ_m (fun x hx => ?_) z.1, z.2 ql⟩
  unfold yVh at hx
  rw [e0, e3, k2, k3] at hx
  rcases hx with w | ⟨w0, w1, w2⟩ | w
  · exact Or.inl w
  · refine Or.inr (Or.inl ?_)
    unfold aFs aNs
    rw [if_neg (by omega), if_neg (by omega)]
    exact ⟨w1, w2⟩
  · exact Or.inr (Or.inr (Or.inl w))
theorem yQg_mk {T : yT} {B : yB} (hI : yI0 B) : yQg T B := fun o L1 L2 h => by
  obtain ⟨p, p1, n1, f1, p2, n2, f2, a1, a2, a3, -, a5, a6⟩ := h
  have ho := yqo_o a1 (yqo_i a1 hI.1.1.1)
  refine ⟨ho, ?_, ?_⟩
  · rw [a3]; exact yQ1_G (by decide) hI ho a2
  · rw [a6]; exact yQ1_G (by decide) hI ho a5
