/-! ### the reference's table between the calls -/
theorem rGo_mk {m : zM} {B : yB} {K : Int} (hQ : rTq m B) (hP : rPc m B (zTop m)) (hR : zRI m K) (hI : yI0 B) : yGo B := by
  have I := hR.1.1
  have wf : rLo m 0 (zTop m) := rLo_W I.2.2.2.2.1 I.1.2.1 (by decide)
  have y2 := yar_w hI.1.1.2
  have hA : rAr m (yar B) 0 (zTop m) := rAr_W I.2.2.2.2.1 ⟨fun v v0 v1 => by
      have v1 : v < B.1 0 0 := by rw [← hQ.1.1]; exact v1
      rw [(hQ.2.1 v v0 v1).2.2.1]
      unfold yar; rw [if_pos ⟨v0, v1⟩], fun v v0 v1 => by
      have := yar_p hI (v - 32) (by omega) (by omega)
      rw [show 32 + (v - 32) = v by omega] at this; exact this, y2.1, y2.2.1, y2.2.2⟩
  have key : ∀ (x : Int) (l : List Int), rN1 m (zTop m) x l → yGl B l := fun x l h => by
    obtain ⟨k, hE⟩ := h.2
    have W := I.2.2.2.2.1
    rw [hQ.1.1] at W
    exact ⟨rC_one wf hA k x l h.1.1 h.1.2 hE, rC_hk wf W k x l h.1.1 h.1.2 hE⟩
  intro k d k0 k1 d0 d1 ne
  rcases hP.2.2.1 k d k0 k1 d0 (by omega) with ⟨-, e⟩ | ⟨l, e, n⟩
  · exact absurd e ne
  · rw [e]
    have := key _ _ n
    simpa using this
theorem rE0_mk {m : zM} {B : yB} {K : Int} (hR : zRI m K) (hQ : rTq m B) (h0 : B.1 3 0 = 0) (hI : yI0 B) : (0 ≤ m.1 80 0 ∧ m.1 80 0 < m.1 66 ((23 : Nat) : Int)) ∧ rE m (m.1 80 0) [0] := by
  have I := hR.1.1
  have i1 := hI.1.1
  have t1 := I.2.1.2.2.2.2.2
  have t2 := I.2.1.2.2.2.2.1 0 0 (by decide) (by have := I.2.1.1.1; omega) (by decide) (by decide)
  rcases t2 with t2 | ⟨ts, a, b, -⟩
  · have e : m.1 80 (21 * 0 + 0) = m.1 80 0 := congrArg (m.1 80) (by decide)
    rw [e] at t2; omega
  · have e : m.1 80 (21 * 0 + 0) = m.1 80 0 := congrArg (m.1 80) (by decide)
    rw [e] at ts a b
    refine ⟨ts.1, 1, 0, [], by simp, Or.inl ⟨a, b, by decide, by decide⟩, ?_, fun i hi => absurd hi (by simp)⟩
    have w := (I.2.2.2.1 _ ts.1.1 ts.1.2).2.1 a
    have w2 := w.2
    rw [b] at w2
    have q := (hQ.2.1 0 (by decide) (by omega)).2.2.1
    rw [w2, q, h0]; rfl
theorem rPc_0 {m : zM} {K : Int} (hR : zRI m K) (hQ : rTq m yB0) : rPc m yB0 (m.1 66 ((23 : Nat) : Int)) := by
  have I := hR.1.1
  have c0 : m.1 66 ((20 : Nat) : Int) = 1 := hQ.1.1
  have hI : yI0 yB0 := by
    refine ⟨⟨⟨by decide, by decide⟩, ⟨by decide, by decide⟩, by decide, by decide⟩, fun k a b => ?_⟩
    have e : k = 0 := by
      have : yB0.1 0 0 = 1 := rfl
      omega
    subst e
    exact ⟨by decide, by decide, by decide, by decide⟩
  refine ⟨fun k i a b c d => ?_, fun p i a b => ?_, fun k d a b c e => ?_, fun p a b => ?_⟩
  · have e : k = 0 := by
      have : yB0.1 0 0 = 1 := rfl
      omega
    subst e
    have : yB0.1 4 0 = 0 := rfl
    omega
  · have : yB0.1 0 1 = 0 := rfl
    omega
  · have k0 : k = 0 := by
      have : yB0.1 0 0 = 1 := rfl
      omega
    subst k0
    by_cases q : d = 0
    · subst q
      right
      have R0 := rE0_mk hR hQ (by rfl) hI
      have e1 : m.1 80 (21 * 0 + 0) = m.1 80 0 := congrArg (m.1 80) (by decide)
      rw [e1]
      exact ⟨[0], rfl, R0⟩
    · left
      refine ⟨?_, ?_⟩
      · rcases I.2.1.2.2.2.2.1 0 d (by decide) (by omega) c e with h | ⟨ts, h1, h2, -⟩
        · omega
        · have w := ((I.2.2.2.1 _ ts.1.1 ts.1.2).2.1 h1).1
          rw [h2] at w
          omega
      · simp [yB0, q]
  · have : yB0.1 0 1 = 0 := rfl
    omega
/-- what is told of the reference's table stays where nodes and rows stay -/
theorem rPc_ot {μ m : zM} {B : yB} {K : Int} (hR : zRI μ K) (hQ : rTq μ B) (hP : rPc μ B (μ.1 66 ((23 : Nat) : Int))) (ot : zOt μ m) (ho : zOld μ m (μ.1 66 ((23 : Nat) : Int))) (h23 : m.1 66 ((23 : Nat) : Int) = μ.1 66 ((23 : Nat) : Int)) : rPc m B (m.1 66 ((23 : Nat) : Int)) := by
  have I := hR.1.1
  have T := I.2.1
  have nd : ∀ x : Int, 0 ≤ x → x < μ.1 66 ((23 : Nat) : Int) → zNd μ x := fun x a b => I.1.2.1 x a (by have := I.2.2.1; omega)
  have key : ∀ (x : Int) (l : List Int), rN1 μ (μ.1 66 ((23 : Nat) : Int)) x l → rN1 m (μ.1 66 ((23 : Nat) : Int)) x l := fun x l h => ⟨h.1, rE_old ho nd h.1.1 h.1.2 h.2⟩
  rw [h23]
  have c1 : B.1 0 0 ≤ 21 := by have := T.1.2.1; have := hQ.1.1; omega
  have p1 : B.1 0 1 ≤ 80 := by have := T.1.2.2.2.1; have := hQ.1.2; omega
  refine ⟨fun k i a b c d => ?_, fun p i a b c d => ?_, fun k d a b c e => ?_, fun p a b => ?_⟩
  · have s4 : B.1 4 k ≤ 4 := by have := (hQ.2.1 k a b).2.2.2; have := (T.2.1 k a (by have := hQ.1.1; omega)).2.2.2.2.2; omega
    rw [ot.2.1 (4 * k + i) (by omega)]
    exact key _ _ (hP.1 k i a b c d)
  · have s2 := (hP.2.2.2 p a b).2
    rw [ot.2.2.2.1 (2 * p + i) (by omega)]
    exact key _ _ (hP.2.1 p i a b c d)
  · rw [ot.2.2.1 (21 * k + d) (by omega)]
    rcases hP.2.2.1 k d a b c e with h | ⟨l, h1, h2⟩
    · exact Or.inl h
    · exact Or.inr ⟨l, h1, key _ _ h2⟩
  · rw [ot.2.2.2.2 p (by omega)]
    exact hP.2.2.2 p a b
theorem zOt_c {μ m : zM} (h : ∀ j : Nat, j = 76 ∨ j = 77 ∨ j = 78 ∨ j = 79 ∨ j = 80 ∨ j = 83 ∨ j = 84 → m.1 j = μ.1 j) : zOt μ m := zOt_fr (zOt_r μ) (h 76 (by omega)) (h 77 (by omega)) (h 78 (by omega)) (h 79 (by omega)) (h 80 (by omega)) (h 83 (by omega)) (h 84 (by omega))
