/-! ### the reference's table grows -/
theorem rNu_ac {μ m : zM} {B : yB} {x : Int} (h : rNu μ B) (h75 : ∀ k : Int, m.1 3000075 k = if k = 21 + B.1 0 0 then x else μ.1 3000075 k) (h76 : ∀ k : Int, m.1 76 k = if k = 21 + B.1 0 0 then B.1 0 1 else μ.1 76 k) (h77 : ∀ k : Int, m.1 77 k = if k = 21 + B.1 0 0 then 0 else μ.1 77 k) (h79 : ∀ k : Int, m.1 79 k = if k = 21 + B.1 0 0 then 0 else μ.1 79 k) (h81 : m.1 3000081 = μ.1 3000081) (h84 : m.1 84 = μ.1 84) (hk : ∀ k : Nat, k = 24 ∨ k = 25 ∨ k = 27 ∨ k = 38 ∨ k = 35 → m.1 66 ((k : Nat) : Int) = μ.1 66 ((k : Nat) : Int)) (h26 : m.1 66 ((26 : Nat) : Int) = B.1 0 0 + 1) : rNu m (yB1 B x) := by
  obtain ⟨⟨v0, v1, v2, v3⟩, ⟨w1, w2, w3, w4⟩, w5, w6, w7⟩ := yB1_v B x
  refine ⟨⟨by rw [hk 24 (by decide)]; exact h.1.1, by rw [hk 25 (by decide)]; exact h.1.2.1, by rw [h26, v0], by rw [hk 27 (by decide), v1]; exact h.1.2.2.2.1, by rw [hk 38 (by decide), v2]; exact h.1.2.2.2.2.1, by rw [hk 35 (by decide)]; exact h.1.2.2.2.2.2⟩, fun k k0 k1 => ?_, fun q q0 q1 => ?_⟩
  · rw [v0] at k1
    rw [h75, h76, h77, h79]
    by_cases e : k = B.1 0 0
    · subst e
      rw [if_pos rfl, if_pos rfl, if_pos rfl, if_pos rfl, w1, w2, w3, w4]
      exact ⟨rfl, rfl, rfl, rfl⟩
    · rw [if_neg (by omega), if_neg (by omega), if_neg (by omega), if_neg (by omega), w5 1 k (by decide) e, w5 2 k (by decide) e, w5 3 k (by decide) e, w5 4 k (by decide) e]
      exact h.2.1 k k0 (by omega)
  · rw [v1] at q1
    rw [h81, h84, w6 5 (by decide), w6 6 (by decide)]
    exact h.2.2 q q0 q1
theorem rNu_ap {μ m : zM} {B : yB} {x o : Int} (h : rNu μ B) (ho : o = B.1 0 3) (hb : 0 ≤ o ∧ o < B.1 0 0) (h81 : ∀ k : Int, m.1 3000081 k = if k = 80 + B.1 0 1 then x else μ.1 3000081 k) (h84 : ∀ k : Int, m.1 84 k = if k = 80 + B.1 0 1 then 0 else μ.1 84 k) (h77 : ∀ k : Int, m.1 77 k = if k = 21 + o then μ.1 77 (21 + o) + 1 else μ.1 77 k) (h75 : m.1 3000075 = μ.1 3000075) (h76 : m.1 76 = μ.1 76) (h79 : m.1 79 = μ.1 79) (hk : ∀ k : Nat, k = 24 ∨ k = 25 ∨ k = 26 ∨ k = 38 ∨ k = 35 → m.1 66 ((k : Nat) : Int) = μ.1 66 ((k : Nat) : Int)) (h27 : m.1 66 ((27 : Nat) : Int) = B.1 0 1 + 1) : rNu m (yap B x) := by
  obtain ⟨⟨v0, v1, v2, v3⟩, ⟨w1, w2, w3, w4⟩, w5, w6, ⟨w7, w8, w9⟩, w10⟩ := yap_v B x
  refine ⟨⟨by rw [hk 24 (by decide)]; exact h.1.1, by rw [hk 25 (by decide)]; exact h.1.2.1, by rw [hk 26 (by decide), v0]; exact h.1.2.2.1, by rw [h27, v1], by rw [hk 38 (by decide), v2]; exact h.1.2.2.2.2.1, by rw [hk 35 (by decide)]; exact h.1.2.2.2.2.2⟩, fun k k0 k1 => ?_, fun q q0 q1 => ?_⟩
  · rw [v0] at k1
    rw [h75, h76, h79, h77, w7, w8, w9]
    have z := h.2.1 k k0 k1
    by_cases e : k = o
    · subst e
      rw [if_pos rfl, ho, w4, ← ho]
      exact ⟨z.1, z.2.1, by rw [z.2.2.1], z.2.2.2⟩
    · rw [if_neg (by omega), w6 k (by omega)]
      exact z
  · rw [v1] at q1
    rw [h81, h84]
    by_cases e : q = B.1 0 1
    · subst e
      rw [if_pos rfl, if_pos rfl, w1, w3]
      exact ⟨rfl, fun _ => rfl⟩
    · rw [if_neg (by omega), if_neg (by omega), (w5 q e).1, (w5 q e).2.1]
      exact h.2.2 q q0 (by omega)
/-- a BOUND, a super is counted -/
theorem rNu_bb {μ m : zM} {B : yB} {r : Int} {l : List (List Int)} (h : rNu μ B) (h84 : ∀ k : Int, m.1 84 k = if k = 80 + r then μ.1 84 (80 + r) + 1 else μ.1 84 k) (hr : 0 ≤ r ∧ r < B.1 0 1) (hj : ∀ j : Nat, j = 3000075 ∨ j = 3000081 ∨ j = 76 ∨ j = 77 ∨ j = 79 → m.1 j = μ.1 j) (hk : ∀ k : Nat, k = 24 ∨ k = 25 ∨ k = 26 ∨ k = 27 ∨ k = 38 ∨ k = 35 → m.1 66 ((k : Nat) : Int) = μ.1 66 ((k : Nat) : Int)) : rNu m (yBb B r l) := by
  have v := yBb_v B r l
  unfold rNu rNg
  rw [hj 3000075 (by decide), hj 3000081 (by decide), hj 76 (by decide), hj 77 (by decide), hj 79 (by decide), hk 24 (by decide), hk 25 (by decide), hk 26 (by decide), hk 27 (by decide), hk 38 (by decide), hk 35 (by decide), v.1 0 (by decide), v.1 1 (by decide), v.1 2 (by decide), v.1 3 (by decide), v.1 4 (by decide), v.1 5 (by decide)]
  refine ⟨h.1, h.2.1, fun q q0 q1 => ?_⟩
  rw [h84, v.2]
  have z := h.2.2 q q0 q1
  by_cases e : q = r
  · subst e
    rw [if_pos rfl, if_pos rfl]
    exact ⟨z.1, fun w => by rw [z.2 w]⟩
  · rw [if_neg (by omega), if_neg e]; exact z
theorem rNu_bs {μ m : zM} {B : yB} {r : Int} {l : List (List Int)} (h : rNu μ B) (h79 : ∀ k : Int, m.1 79 k = if k = 21 + r then μ.1 79 (21 + r) + 1 else μ.1 79 k) (hr : 0 ≤ r ∧ r < B.1 0 0) (hj : ∀ j : Nat, j = 3000075 ∨ j = 3000081 ∨ j = 76 ∨ j = 77 ∨ j = 84 → m.1 j = μ.1 j) (hk : ∀ k : Nat, k = 24 ∨ k = 25 ∨ k = 26 ∨ k = 27 ∨ k = 38 ∨ k = 35 → m.1 66 ((k : Nat) : Int) = μ.1 66 ((k : Nat) : Int)) : rNu m (yBs B r l) := by
  have v := yBs_v B r l
  unfold rNu rNg
  rw [hj 3000075 (by decide), hj 3000081 (by decide), hj 76 (by decide), hj 77 (by decide), hj 84 (by decide), hk 24 (by decide), hk 25 (by decide), hk 26 (by decide), hk 27 (by decide), hk 38 (by decide), hk 35 (by decide), v.1 0 (by decide), v.1 1 (by decide), v.1 2 (by decide), v.1 3 (by decide), v.1 5 (by decide), v.1 6 (by decide)]
  refine ⟨h.1, fun k k0 k1 => ?_, h.2.2⟩
  rw [h79, v.2]
  have z := h.2.1 k k0 k1
  by_cases e : k = r
  · subst e
    rw [if_pos rfl, if_pos rfl]
    exact ⟨z.1, z.2.1, z.2.2.1, by rw [z.2.2.2]⟩
  · rw [if_neg (by omega), if_neg e]; exact z
theorem zu_if {μ : zM} {j : Nat} {k x q : Int} : (zu μ j k x).1 j q = if q = k then x else μ.1 j q := by
  by_cases h : q = k
  · rw [if_pos h, h, zu_at]
  · rw [if_neg h, zu_nk h]
