/-! ### all anew -/
def zA0 (m : zM) : Prop := zND m 0 ∧ zTop m = 1 ∧ (m.1 67 0 = 0 ∧ m.1 68 0 = 0 ∧ m.1 69 0 = 0) ∧ (m.1 76 0 = 0 ∧ m.1 77 0 = 0 ∧ m.1 79 0 = 0 ∧ m.1 80 0 = 0) ∧ (∀ d : Int, 1 ≤ d → d ≤ 20 → m.1 80 d = -1) ∧ m.1 66 ((20 : Nat) : Int) = 1 ∧ m.1 66 ((21 : Nat) : Int) = 0
theorem zA0_fr {m m' : zM} (h : zA0 m) (hc : ∀ j : Nat, 67 ≤ j → j ≤ 84 → m'.1 j = m.1 j) (f8 : m'.1 66 ((8 : Nat) : Int) = m.1 66 ((8 : Nat) : Int)) (f20 : m'.1 66 ((20 : Nat) : Int) = m.1 66 ((20 : Nat) : Int)) (f21 : m'.1 66 ((21 : Nat) : Int) = m.1 66 ((21 : Nat) : Int)) : zA0 m' := by
  have ht : zTop m' = zTop m := f8
  obtain ⟨h1, h2, h3, h4, h5, h6, h7⟩ := h
  refine ⟨zND_t.2 (by rw [ht]; exact zNDt_same (fun j a b => hc j a (by omega)) (zND_t.1 h1)), by rw [ht]; exact h2, ?_, ?_, ?_, by rw [f20]; exact h6, by rw [f21]; exact h7⟩
  · rw [hc 67 (by omega) (by omega), hc 68 (by omega) (by omega), hc 69 (by omega) (by omega)]; exact h3
  · rw [hc 76 (by omega) (by omega), hc 77 (by omega) (by omega), hc 79 (by omega) (by omega), hc 80 (by omega) (by omega)]; exact h4
  · rw [hc 80 (by omega) (by omega)]; exact h5
theorem zA0_RI {m : zM} {K : Int} (h : zA0 m) (f23 : m.1 66 ((23 : Nat) : Int) = 1) (f45 : m.1 66 ((45 : Nat) : Int) = 0) (f48 : m.1 66 ((48 : Nat) : Int) = 0) (h60 : 0 ≤ m.1 66 ((60 : Nat) : Int) ∧ m.1 66 ((60 : Nat) : Int) ≤ K) (hK : K ≤ 1999990000) (h98 : ∀ x : Int, 0 ≤ x → x < 20000 → m.1 98 x ≤ m.1 66 ((60 : Nat) : Int)) (h105 : ∀ x : Int, 0 ≤ x → x < 20000 → m.1 105 x ≤ m.1 66 ((68 : Nat) : Int)) (h68 : 0 ≤ m.1 66 ((68 : Nat) : Int) ∧ m.1 66 ((68 : Nat) : Int) ≤ K) : zRI m K := by
  obtain ⟨h1, h2, ⟨k1, k2, k3⟩, ⟨c1, c2, c3, c4⟩, h5, h6, h7⟩ := h
  have nd := h1.2.1 0 (by omega) (by omega)
  have sz : m.1 71 0 = 1 := by
    have := nd.2.2.2.2
    rw [k3] at this
    rw [this]
    rfl
  have wf : ∀ F : Int, zWf m 0 1 1 0 F (m.1 77) := fun F x a b => by
    rw [show x = 0 by omega]
    refine ⟨fun i i0 i1 => by omega, fun _ => ⟨by omega, by rw [k2, k3, c2]⟩, fun e => by omega, fun e => by omega, fun e => by omega, fun e => by omega⟩
  unfold zRI
  rw [h6, h7, f23]
  refine ⟨⟨⟨h1, ⟨⟨by omega, by omega, by omega, by omega, by omega, by omega⟩, fun c a b => ?_, fun c i a b d e => ?_, fun p i a b => by omega, fun c d a b e g => ?_, by omega⟩, by omega, wf 0, ?_, ?_, h98⟩, ?_, ?_, ?_, ?_, hK⟩, h105, h68.1, h68.2, fun p a b => by omega⟩
  · rw [show c = 0 by omega, c1, c2, c3]; exact ⟨by omega, by omega, by omega, by omega, by omega, by omega⟩
  · rw [show c = 0 by omega, c3] at e; omega
  · rw [show c = 0 by omega]
    by_cases hd : d = 0
    · subst hd
      rw [show (21 * 0 + 0 : Int) = 0 by omega, c4]
      exact Or.inr ⟨⟨⟨by omega, by omega⟩, by omega⟩, k1, k2, fun i i0 i1 => by omega⟩
    · refine Or.inl ?_
      rw [show (21 * 0 + d : Int) = d by omega]
      exact h5 d (by omega) (by omega)
  · rw [h2]; exact wf _
  · rw [f45]; exact fun v a b => by omega
  · rw [h2, f45, f48]; omega
  · rw [f45]; omega
  · rw [f48]; omega
  · rw [f48]; omega
