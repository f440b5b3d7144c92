/-! ### places are within the text -/
theorem yPo_l {T : yT} {p : Int} (h : 0 ≤ p ∧ p ≤ T.2) : (0 ≤ ypl T p ∧ ypl T p ≤ T.2) ∧ 0 ≤ ynx T p ∧ ynx T p ≤ T.2 := by
  have h1 := yru_ge yBl T p
  have h2 := yru_le (p := yBl) h.2
  have e : ypl T p = yru yBl T p := rfl
  refine ⟨⟨by omega, by omega⟩, ?_⟩
  unfold ynx ysz
  split
  · omega
  · split
    · have h3 := yru_ge yNb T (ypl T p + 1)
      have h4 := yru_le (p := yNb) (T := T) (i := ypl T p + 1) (by omega)
      omega
    · omega
def yPo (T : yT) (s : yS) : Prop := 0 ≤ s.2.1 ∧ s.2.1 ≤ T.2
theorem yPo_f {T : yT} {p c : Int} {B : yB} (h : 0 ≤ p ∧ p ≤ T.2) : yPo T (yflt T B p c) := (yPo_l h).1
theorem yPo_s {T : yT} {s : yS} (h : yPo T s) : yPo T (yms T s) := by
  obtain ⟨c, p, x, fr, B⟩ := s
  have h : 0 ≤ p ∧ p ≤ T.2 := h
  have h1 := (yPo_l h).2
  have h2 := (yPo_l h1).2
  have h3 := (yPo_l h2).2
  unfold yms
  split
  · rename_i q; cases q; unfold ym0; split; (exact yPo_f h); split; (exact yPo_f h); split; (exact yPo_f h); exact h1
  · rename_i q; cases q; split <;> exact h
  · rename_i q; cases q; unfold ym2; dsimp only; split; (exact yPo_f h1); split; (exact yPo_f h1); split; (exact yPo_f h1); split; (exact h3); split; (exact h2); exact yPo_f h2
  · rename_i q; cases q; split <;> exact h
  · rename_i q; cases q; unfold ym4; dsimp only; split; (exact yPo_f h1); split; (exact yPo_f h1); split; (exact yPo_f h1); split; (exact yPo_f h2); exact h2
  · rename_i q; cases q; exact h1
  · rename_i q; cases q; split <;> exact h
  · rename_i q; cases q; exact h1
  · rename_i q; cases q; split; (exact yPo_f h); exact h
  · rename_i q; cases q; split <;> exact h
  · rename_i q; cases q; unfold ym10; dsimp only; split; (exact yPo_f h); split; (exact yPo_f h); split; (exact yPo_f h); split; (exact yPo_f h); split; (split; (exact yPo_f h1); exact h2); exact h1
  · rename_i q; cases q; unfold ym11; split; (split; (exact yPo_f h); split; (exact yPo_f h); dsimp only; split; (exact h2); split; (exact h2); exact h1); exact h
  · rename_i q; cases q; unfold ym12; split; (exact h); split; (exact yPo_f h); split; (exact yPo_f h); split; (exact h); exact h
  · rename_i q; cases q; split; (exact h1); split; (exact h1); exact yPo_f h
  · rename_i q; cases q; unfold ym14; split; (exact h); split; (dsimp only; split; (exact h); split; (exact h); exact h); split; (dsimp only; split; (exact h); exact h); exact h
  · rename_i q; cases q; unfold ym15; split; (exact h1); split; (exact h); dsimp only; split; (exact h); split; (exact yPo_f h); exact h
  · exact h
theorem yPo_R {T : yT} {s s' : yS} (h : yPo T s) (hr : yR T s s') : yPo T s' := by
  obtain ⟨k, rfl⟩ := hr
  induction k generalizing s with
  | zero => exact h
  | succ k ih => exact ih (yPo_s h)
theorem yPo_20 {T : yT} {c : Nat} {p x : Int} {fr : List yF} {B : yB} (h : 0 ≤ T.2 ∧ T.2 ≤ 800) (hr : yR T (0, 0, 0, [], yB0) (c, p, x, fr, B)) : 0 ≤ p ∧ p ≤ 800 := by
  have := yPo_R (T := T) (s := (0, 0, 0, [], yB0)) ⟨by decide, h.1⟩ hr
  have h1 : 0 ≤ p ∧ p ≤ T.2 := this
  omega
