/-- where a TYPE of a question stands -/
def yQi (T : yT) (r : Int) (s : yS) : Prop := s.2.2.2.2.1 0 4 = r ∧ (s.1 = 10 ∨ s.1 = 11 ∨ s.1 = 12 ∨ s.1 = 13 ∨ s.1 = 20 ∨ (s.1 = 14 ∧ s.2.2.2.1.length = 1 ∧ ymay s.2.2.2.2 0 (ykd T s.2.1) = true))
theorem yQi_f {T : yT} {r p c : Int} {B : yB} (h : B.1 0 4 = r) : yQi T r (yflt T B p c) := ⟨h, Or.inr (Or.inr (Or.inr (Or.inr (Or.inl rfl))))⟩
theorem yQi_s {T : yT} {r : Int} (hr : 2 ≤ r) {s : yS} (h : yQi T r s) : yQi T r (yms T s) := by
  obtain ⟨c, p, w, fr, B⟩ := s
  obtain ⟨h1, h2⟩ := h
  have h1 : B.1 0 4 = r := h1
  have hN : ∀ n : Int, (yN B 0 2 n).1 0 4 = r := fun n => by rw [yN_ne (by decide)]; exact h1
  rcases h2 with h2 | h2 | h2 | h2 | h2 | ⟨h2, h3, h4⟩
  · have h2 : c = 10 := h2
    subst h2
    show yQi T r (ym10 T p w fr B)
    unfold ym10
    dsimp only
    split
    · exact yQi_f h1
    · split
      · exact yQi_f h1
      · split
        · exact yQi_f h1
        · split
          · exact yQi_f h1
          · split
            · split
              · exact yQi_f (hN _)
              · exact ⟨hN _, Or.inr (Or.inl rfl)⟩
            · exact ⟨hN _, Or.inr (Or.inr (Or.inl rfl))⟩
  · have h2 : c = 11 := h2
    subst h2
    show yQi T r (ym11 T p fr B)
    unfold ym11
    dsimp only
    split
    · split
      · exact yQi_f h1
      · split
        · exact yQi_f h1
        · split
          · exact ⟨hN _, Or.inl rfl⟩
          · split
            · exact ⟨hN _, Or.inl rfl⟩
            · exact ⟨hN _, Or.inr (Or.inr (Or.inr (Or.inl rfl)))⟩
    · exact ⟨h1, Or.inl rfl⟩
  · have h2 : c = 12 := h2
    subst h2
    show yQi T r (ym12 T p fr B)
    unfold ym12
    cases fr with
    | nil => exact ⟨h1, Or.inr (Or.inr (Or.inl rfl))⟩
    | cons f q =>
      dsimp only
      split
      · exact yQi_f h1
      · rename_i hm
        split
        · exact yQi_f h1
        · cases q with
          | nil => exact ⟨h1, Or.inr (Or.inr (Or.inr (Or.inr (Or.inr ⟨rfl, rfl, by
              cases hq : ymay B 0 (ykd T p) with
              | true => rfl
              | false => exact absurd hq hm⟩))))⟩
          | cons f2 q2 => exact ⟨h1, Or.inr (Or.inr (Or.inr (Or.inl rfl)))⟩
  · have h2 : c = 13 := h2
    subst h2
    show yQi T r (if ykd T p = 44 then (11, ynx T p, 0, fr, B) else if ykd T p = 62 then (12, ynx T p, 0, fr, B) else yflt T B p 2)
    split
    · exact ⟨h1, Or.inr (Or.inl rfl)⟩
    · split
      · exact ⟨h1, Or.inr (Or.inr (Or.inl rfl))⟩
      · exact yQi_f h1
  · have h2 : c = 20 := h2
    subst h2
    exact ⟨h1, Or.inr (Or.inr (Or.inr (Or.inr (Or.inl rfl))))⟩
  · have h2 : c = 14 := h2
    subst h2
    have h3 : fr.length = 1 := h3
    obtain ⟨f, rfl⟩ : ∃ f, fr = [f] := by
      match fr, h3 with
      | [f], _ => exact ⟨f, rfl⟩
    have e : ∀ q : Int, (q = w ∨ True) → yms T (14, p, q, [f], B) = (14, p, 0, [f], B) := fun q _ => by
      show ym14 T p [f] B = _
      unfold ym14
      dsimp only
      rw [if_neg (by omega), if_neg (by omega)]
    rw [e w (Or.inl rfl)]
    exact ⟨h1, Or.inr (Or.inr (Or.inr (Or.inr (Or.inr ⟨rfl, rfl, h4⟩))))⟩
theorem yQi_R {T : yT} {r : Int} (hr : 2 ≤ r) {s s' : yS} (h : yQi T r s) (hR : yR T s s') : yQi T r s' := by
  obtain ⟨k, rfl⟩ := hR
  induction k generalizing s with
  | zero => exact h
  | succ k ih => exact ih (yQi_s hr h)
/-- what stands behind a TYPE of a question may stand there -/
theorem rTm {T : yT} {p w p1 x r : Int} {fr fr1 : List yF} {B B1 : yB} (h : B.1 0 4 = r) (hr : 2 ≤ r) (hR : yR T (10, p, w, fr, B) (14, p1, x, fr1, B1)) : B1.1 0 4 = r ∧ ymay B1 0 (ykd T p1) = true := by
  obtain ⟨h1, h2⟩ := yQi_R (s := (10, p, w, fr, B)) hr ⟨h, Or.inl rfl⟩ hR
  refine ⟨h1, ?_⟩
  rcases h2 with h2 | h2 | h2 | h2 | h2 | ⟨h2, h3, h4⟩
  · exact absurd (show (14 : Nat) = 10 from h2) (by decide)
  · exact absurd (show (14 : Nat) = 11 from h2) (by decide)
  · exact absurd (show (14 : Nat) = 12 from h2) (by decide)
  · exact absurd (show (14 : Nat) = 13 from h2) (by decide)
  · exact absurd (show (14 : Nat) = 20 from h2) (by decide)
  · exact h4
theorem rTm_2 {T : yT} {p w p1 x : Int} {fr fr1 : List yF} {B B1 : yB} (h : B.1 0 4 = 2) (hR : yR T (10, p, w, fr, B) (14, p1, x, fr1, B1)) : ykd T p1 = 60 := by
  have q := rTm h (by decide) hR
  exact (ymay_2 q.1).mp q.2
theorem rTm_4 {T : yT} {p w p1 x : Int} {fr fr1 : List yF} {B B1 : yB} (h : B.1 0 4 = 4) (hR : yR T (10, p, w, fr, B) (14, p1, x, fr1, B1)) : ykd T p1 = 5 := by
  have q := rTm h (by decide) hR
  exact (ymay_4 q.1).mp q.2
