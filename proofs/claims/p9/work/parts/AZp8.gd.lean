/-! ### heads of TYPES told are such as may stand there -/
def yhk (B : yB) (h : Int) : Prop := (0 ≤ h ∧ h < B.1 0 0) ∨ (32 ≤ h ∧ h < 112) ∨ (200 ≤ h ∧ h ≤ 202)
def yGl (B : yB) (L : List Int) : Prop := yone (yar B) L ∧ ∀ h ∈ L, yhk B h
def yGd (B : yB) : Prop := (∀ k i : Int, 0 ≤ k → k < B.1 0 0 → 0 ≤ i → i < B.1 4 k → yGl B (B.2 1 k i).flatten) ∧ ∀ p i : Int, 0 ≤ p → p < B.1 0 1 → 0 ≤ i → i < B.1 6 p → yGl B (B.2 0 p i).flatten
theorem yGd_0 : yGd yB0 := by
  refine ⟨fun k i a b c d => ?_, fun p i a b c d => ?_⟩
  · exact absurd d (by show ¬ i < 0; omega)
  · exact absurd b (by show ¬ p < 0; omega)
theorem rC_hk {m : zM} {B : yB} {T P F : Int} {cf : Int → Int} (wf : rLo m 0 T) (w : zWf m 0 T (B.1 0 0) P F cf) : ∀ (k : Nat) (x : Int) (l : List Int), 0 ≤ x → x < T → rC m k x l → ∀ h ∈ l, yhk B h
  | 0, _, _, _, _, q => q.elim
  | k + 1, x, l, x0, x1, ⟨hd, as, e1, e2, e3, e5⟩ => fun h hh => by
    rw [e1] at hh
    rcases List.mem_cons.mp hh with q | q
    · subst q
      have w0 := (w x x0 x1).2.1
      unfold rHd at e2
      unfold yhk
      rcases e2 with ⟨a, b, c, d⟩ | ⟨a, b, c, d⟩ | ⟨a, b, c⟩ | ⟨a, b, c⟩ | ⟨a, b, c⟩
      · have := (w0 a).1; omega
      · omega
      · omega
      · omega
      · omega
    · obtain ⟨a, ha, hm⟩ := List.mem_flatten.mp q
      obtain ⟨i, h1, h2⟩ := rmem ha
      have p := wf x x0 x1 i (by omega) (by omega)
      exact rC_hk wf w k _ _ p.1 p.2 (e5 i h1) h (by rw [h2]; exact hm)
