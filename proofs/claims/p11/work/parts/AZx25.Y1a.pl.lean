/-! ### a place: what was read -/
/-- the words of a place: the class behind in, the TYPE's row, the class behind above -/
def yPl (T : yT) (B : yB) (o : Int) (L : List Int) (k : Int) : Prop := ∃ p p1 n1 f, yqo T B = .inl (o, p) ∧ yR T (10, p, 0, [], yQB B 0 o 4) (14, p1, 0, [f], yN (yQB B 0 o 4) 0 2 n1) ∧ L = ycd f ∧ k = yfc B (ynm T (ynx T p1)).toInt ∧ 0 ≤ k
def yTq2 (m : zM) (o : Int) (L : List Int) (k : Int) : Prop := m.1 50 ((3 : Nat) : Int) = 51 ∧ (m.1 50 ((4 : Nat) : Int) = (L.length : Int) ∧ L.length ≤ 300) ∧ m.1 50 ((5 : Nat) : Int) = o ∧ m.1 50 ((7 : Nat) : Int) = k ∧ yRow m 51 0 L
theorem yPl_one {T : yT} {B : yB} {o o' k k' : Int} {L L' : List Int} (a : yPl T B o L k) (b : yPl T B o' L' k') : o = o' ∧ L = L' ∧ k = k' := by
  obtain ⟨p, p1, n1, f, a1, a2, a3, a4, -⟩ := a
  obtain ⟨p', p1', n1', f', b1, b2, b3, b4, -⟩ := b
  rw [a1] at b1
  cases b1
  have r4 : 2 ≤ (yQB B 0 o 4).1 0 4 := by rw [(yQB_v B 0 o 4).1]; decide
  have q := yR_one a2 b2 (ym14_q (by rw [yN_ne (by decide)]; exact r4)) (ym14_q (by rw [yN_ne (by decide)]; exact r4))
  have e1 : p1 = p1' := congrArg (fun s : yS => s.2.1) q
  have e2 : [f] = [f'] := congrArg (fun s : yS => s.2.2.2.1) q
  have e3 : f = f' := by simpa using e2
  exact ⟨rfl, by rw [a3, b3, e3], by rw [a4, b4, e1]⟩
theorem yPl_mk {T : yT} {B : yB} {o p0 p6 n6 h x k7 : Int} {as : List (List Int)} {m18 m22 m31 m35 : zM} {t : Nat} (QP : yqo T B = .inl (o, p0)) (r6 : yR T (10, p0, 0, [], yQB B 0 o 4) (14, p6, 0, [((0, h, as) : yF)], yN (yQB B 0 o 4) 0 2 n6)) (h0 : 0 ≤ yfc B (ynm T (ynx T p6)).toInt) (I6 : yTI T m18 p6 (yN (yQB B 0 o 4) 0 2 n6) t 51 0 (([h] :: as).flatten)) (e22 : m22 = ystM m18) (e31 : m31 = zu m22 50 ((7 : Nat) : Int) x) (FC : x = yfc B (ynm T (ynx T p6)).toInt) (C : yRC T m35 k7 (yN (yQB B 0 o 4) 0 2 n6) t 51) (e35 : m35 = ystM m31) : ∃ (o k : Int) (L : List Int), yPl T B o L k ∧ yTq2 m35 o L k := by
  have el : ([h] :: as).flatten = ycd ((0, h, as) : yF) := by simp [ycd, ywr]
  have v := yQB_v B 0 o 4
  refine ⟨o, _, ycd ((0, h, as) : yF), ⟨p0, p6, n6, _, QP, r6, rfl, rfl, h0⟩, ?_⟩
  have c1 := C.2.1
  have i3 := I6.2.2.1.1
  rw [el, yN_at] at i3
  refine ⟨c1.2.2.1, ?_, ?_, ?_, ?_⟩
  · have c2 := c1.2.2.2.2.2.2
    have c3 := c1.2.2.2.1
    rw [yN_at] at c2 c3
    exact ⟨by omega, by omega⟩
  · rw [c1.2.2.2.2.1, yN_ne (by decide)]; exact v.2.2.2.1
  · rw [e35, ystM_ne _ _ (by decide) (by decide), e31, zu_at]; exact FC
  · have r := I6.2.1
    rw [el] at r
    refine yRow_e r ?_
    rw [e35, ystM_ne _ _ (by decide) (by decide), e31, zu_ne (by decide), e22, ystM_ne _ _ (by decide) (by decide)]
