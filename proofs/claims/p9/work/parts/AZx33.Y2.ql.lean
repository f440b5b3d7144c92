/-! ### a question: what was read -/
def yQl (T : yT) (B : yB) (o : Int) (L1 L2 : List Int) : Prop := ∃ p p1 n1 f1 p2 n2 f2, yqo T B = .inl (o, p) ∧ yR T (10, p, 0, [], yQB B 0 o 2) (14, p1, 0, [f1], yN (yQB B 0 o 2) 0 2 n1) ∧ L1 = ycd f1 ∧ ykd T (ynx T p1) = 61 ∧ yR T (10, ynx T (ynx T p1), 0, [], yQB B n1 o 3) (14, p2, 0, [f2], yN (yQB B n1 o 3) 0 2 n2) ∧ L2 = ycd f2
def yTl (m : zM) (o : Int) (L1 L2 : List Int) : Prop := m.1 50 ((3 : Nat) : Int) = 51 ∧ (m.1 50 ((4 : Nat) : Int) = (L1.length : Int) + L2.length ∧ L1.length + L2.length ≤ 300) ∧ m.1 50 ((5 : Nat) : Int) = o ∧ m.1 50 ((6 : Nat) : Int) = (L1.length : Int) ∧ yRow m 51 0 L1 ∧ yRow m 51 (L1.length : Int) L2
theorem yQl_one {T : yT} {B : yB} {o o' : Int} {L1 L1' L2 L2' : List Int} (a : yQl T B o L1 L2) (b : yQl T B o' L1' L2') : o = o' ∧ L1 = L1' ∧ L2 = L2' := by
  obtain ⟨p, p1, n1, f1, p2, n2, f2, a1, a2, a3, -, a5, a6⟩ := a
  obtain ⟨p', p1', n1', f1', p2', n2', f2', b1, b2, b3, -, b5, b6⟩ := b
  rw [a1] at b1
  cases b1
  have r2 : 2 ≤ (yQB B 0 o 2).1 0 4 := by rw [(yQB_v B 0 o 2).1]; decide
  have q := yR_one a2 b2 (ym14_q (by rw [yN_ne (by decide)]; exact r2)) (ym14_q (by rw [yN_ne (by decide)]; exact r2))
  have e1 : p1 = p1' := congrArg (fun s : yS => s.2.1) q
  have e2 : [f1] = [f1'] := congrArg (fun s : yS => s.2.2.2.1) q
  have e3 : f1 = f1' := by simpa using e2
  have e4 : (yN (yQB B 0 o 2) 0 2 n1).1 0 2 = (yN (yQB B 0 o 2) 0 2 n1').1 0 2 := congrArg (fun s : yS => s.2.2.2.2.1 0 2) q
  rw [yN_at, yN_at] at e4
  subst e1 e4
  have r3 : 2 ≤ (yQB B n1 o 3).1 0 4 := by rw [(yQB_v B n1 o 3).1]; decide
  have w := yR_one a5 b5 (ym14_q (by rw [yN_ne (by decide)]; exact r3)) (ym14_q (by rw [yN_ne (by decide)]; exact r3))
  have e5 : [f2] = [f2'] := congrArg (fun s : yS => s.2.2.2.1) w
  have e6 : f2 = f2' := by simpa using e5
  exact ⟨rfl, by rw [a3, b3, e3], by rw [a6, b6, e6]⟩
theorem yQl_mk {T : yT} {B : yB} {o p0 p6 n6 h p9 n9 h9 x30 : Int} {as as9 : List (List Int)} {m18 m22 m27 m31 m34 m42 : zM} {t : Nat} (QP : yqo T B = .inl (o, p0)) (r6 : yR T (10, p0, 0, [], yQB B 0 o 2) (14, p6, 0, [((0, h, as) : yF)], yN (yQB B 0 o 2) 0 2 n6)) (k61 : ykd T (ynx T p6) = 61) (I6 : yTI T m18 p6 (yN (yQB B 0 o 2) 0 2 n6) t 51 0 (([h] :: as).flatten)) (e22 : m22 = ystM m18) (e27 : m27 = ystM m22) (e31 : m31 = zu m27 50 ((6 : Nat) : Int) x30) (hx30 : x30 = m27.1 50 ((4 : Nat) : Int)) (P1 : m31.1 50 ((4 : Nat) : Int) ≤ m34.1 50 ((4 : Nat) : Int) ∧ (∀ k : Int, k < m31.1 50 ((4 : Nat) : Int) → m34.1 51 k = m31.1 51 k) ∧ m34.1 50 ((6 : Nat) : Int) = m31.1 50 ((6 : Nat) : Int)) (P2 : m34.1 50 ((4 : Nat) : Int) ≤ m42.1 50 ((4 : Nat) : Int) ∧ (∀ k : Int, k < m34.1 50 ((4 : Nat) : Int) → m42.1 51 k = m34.1 51 k) ∧ m42.1 50 ((6 : Nat) : Int) = m34.1 50 ((6 : Nat) : Int)) (r9 : yR T (10, ynx T (ynx T p6), 0, [], yQB B n6 o 3) (14, p9, 0, [((0, h9, as9) : yF)], yN (yQB B n6 o 3) 0 2 n9)) (I9 : yTI T m42 p9 (yN (yQB B n6 o 3) 0 2 n9) t 51 n6 (([h9] :: as9).flatten)) : ∃ (o : Int) (L1 L2 : List Int), yQl T B o L1 L2 ∧ yTl m42 o L1 L2 := by
  have el : ([h] :: as).flatten = ycd ((0, h, as) : yF) := by simp [ycd, ywr]
  have el9 : ([h9] :: as9).flatten = ycd ((0, h9, as9) : yF) := by simp [ycd, ywr]
  have v := yQB_v B n6 o 3
  refine ⟨o, ycd ((0, h, as) : yF), ycd ((0, h9, as9) : yF), ⟨p0, p6, n6, _, p9, n9, _, QP, r6, rfl, k61, r9, rfl⟩, ?_⟩
  have c1 := I9.1.2.1
  have d1 := I6.1.2.1
  have i3 := I6.2.2.1.1
  have i9 := I9.2.2.1.1
  rw [el, yN_at] at i3
  rw [el9, yN_at] at i9
  have d3 := d1.2.2.2.1
  have c2 := c1.2.2.2.2.2.2
  have c3 := c1.2.2.2.1
  rw [yN_at] at c2 c3 d3
  have t27 : m27.1 50 = m18.1 50 := by rw [e27, ystM_ne _ _ (by decide) (by decide), e22, ystM_ne _ _ (by decide) (by decide)]
  have u31 : m31.1 50 ((4 : Nat) : Int) = n6 := by rw [e31, zu_nk (by decide), t27]; exact d3
  have w31 : m31.1 51 = m18.1 51 := by rw [e31, zu_ne (by decide), e27, ystM_ne _ _ (by decide) (by decide), e22, ystM_ne _ _ (by decide) (by decide)]
  refine ⟨c1.2.2.1, ⟨by omega, by omega⟩, ?_, ?_, ?_, ?_⟩
  · rw [c1.2.2.2.2.1, yN_ne (by decide)]; exact v.2.2.2.1
  · rw [P2.2.2, P1.2.2, e31, zu_at, hx30, t27, d3]; omega
  · have r := I6.2.1
    rw [el] at r
    intro j hj
    rw [P2.2.1 _ (by omega), P1.2.1 _ (by omega), w31]
    exact r j hj
  · have r := I9.2.1
    rw [el9, show n6 = ((ycd ((0, h, as) : yF)).length : Int) by omega] at r
    exact r
