/-! ### a question, over rows of heads -/
/-- how many questions were asked, NODES put together, the NEW variables: BOUNDS, FLOOR (or []) -/
abbrev qS : Type := Int × Int × List (List (List Int) × List Int)
abbrev qR : Type := List Int
/-- the ARGS of a TYPE -/
noncomputable def qPa (A : Int → Int) (l : qR) : List qR := @dite (List qR) (∃ as : List qR, l.tail = as.flatten ∧ (as.length : Int) = A (l.headD 0) ∧ ∀ a ∈ as, yone A a) (Classical.propDecidable _) (fun h => h.choose) (fun _ => [])
theorem qPa_e {A : Int → Int} {h : Int} {as : List qR} (n : (as.length : Int) = A h) (o : ∀ a ∈ as, yone A a) : qPa A (h :: as.flatten) = as := by
  have ex : ∃ bs : List qR, (h :: as.flatten).tail = bs.flatten ∧ (bs.length : Int) = A ((h :: as.flatten).headD 0) ∧ ∀ b ∈ bs, yone A b := ⟨as, rfl, n, o⟩
  unfold qPa
  rw [dif_pos ex]
  have c := ex.choose_spec
  exact (yone_fe as ex.choose o c.2.2 (by have q : (ex.choose.length : Int) = A h := c.2.1; omega) c.1).symm
/-- the FLOOR of a variable -/
def qFl (S : qS) (t : qR) : qR := if 300 ≤ t.headD 0 then (S.2.2.getD (t.headD 0 - 300).toNat ([], [])).2 else []
/-- the BOUNDS of a PARAMETER as they are told -/
def qPb (B : yB) (p : Int) : List qR := (List.range (B.1 6 p).toNat).map (fun i : Nat => (B.2 0 p i).flatten)
/-- the BOUNDS of a variable -/
def qBo (B : yB) (S : qS) (s : qR) : List qR := if 300 ≤ s.headD 0 then (S.2.2.getD (s.headD 0 - 300).toNat ([], [])).1 else if qPb B (s.headD 0 - 32) = [] then [[0]] else qPb B (s.headD 0 - 32)
/-- BOUNDS put together: the NODES are counted -/
def qBd (f : Int) (cs : List qR) : List qR → Int → Option (Int × List qR)
  | [], g => some (g, [])
  | r :: rs, g => if 6000 < g + (r.length : Int) then none else match qBd f cs rs (g + (r.length : Int)) with
    | none => none
    | some (g', bs) => some (g', ysub f cs r :: bs)
def qUp (a : qR) : List qR := if a.headD 0 = 201 then [a.tail] else []
def qDn (a : qR) : qR := if a.headD 0 = 202 then a.tail else []
def qNb (a : qR) (bs : List qR) : List qR := if qUp a ++ bs = [] then [[0]] else qUp a ++ bs
/-- the ? of a TYPE are bound, one after another -/
def qCb (B : yB) (c : Int) (cs : List qR) : List qR → Int → Int → Option (Int × List (List qR × qR))
  | [], _, g => some (g, [])
  | a :: as, i, g => if ywl a then (match qBd (B.1 2 c) cs (qPb B (B.1 2 c + i)) g with
      | none => none
      | some (g1, bs) => match qCb B c cs as (i + 1) g1 with
        | none => none
        | some (g2, N) => some (g2, (qNb a bs, qDn a) :: N))
    else qCb B c cs as (i + 1) g
/-- each ? of a TYPE becomes a NEW variable -/
def qCp (B : yB) (S : qS) (c : Int) (as : List qR) : Option (qS × List qR) := if 300 < (S.2.2.length : Int) + ((as.countP ywl : Nat) : Int) then none
  else match qCb B c (ycap (S.2.2.length : Int) as) as 0 S.2.1 with
    | none => none
    | some (g, N) => some ((S.1, g, S.2.2 ++ N), ycap (S.2.2.length : Int) as)
/-- the ARGS of the TYPE above -/
noncomputable def qRs (B : yB) (S : qS) (c d : Int) (cs : List qR) : Option (qS × List qR) := if c = d then some (S, cs)
  else if 6000 < S.2.1 + ((B.2 2 c d).flatten.length : Int) then none
  else some ((S.1, S.2.1 + ((B.2 2 c d).flatten.length : Int), S.2.2), qPa (yar B) (ysub (B.1 2 c) cs (B.2 2 c d).flatten))
abbrev qF : Type := qS → qR → qR → qS × Int
def qArg (f : qF) (S : qS) (q b : qR) : qS × Int := if b.headD 0 = 200 then (S, 1) else if b.headD 0 = 201 then f S q b.tail else if b.headD 0 = 202 then f S b.tail q else (S, if q = b then 1 else 0)
def qAs (f : qF) : List qR → List qR → qS → qS × Int
  | q :: qs, b :: bs, S => if (qArg f S q b).2 = 1 then qAs f qs bs (qArg f S q b).1 else qArg f S q b
  | _, _, S => (S, 1)
def qBs (f : qF) (t : qR) : List qR → qS → qS × Int
  | [], S => (S, 0)
  | b :: bs, S => if (f S b t).2 = 0 then qBs f t bs (f S b t).1 else f S b t
noncomputable def qCl (B : yB) (f : qF) (S : qS) (s t : qR) : qS × Int := match qCp B S (s.headD 0) (qPa (yar B) s) with
  | none => (S, -4)
  | some (S1, cs) => if B.2 2 (s.headD 0) (t.headD 0) = [] then (S1, 0) else match qRs B S1 (s.headD 0) (t.headD 0) cs with
    | none => (S1, -4)
    | some (S2, qs) => qAs f qs (qPa (yar B) t) S2
/-- behind the FLOOR -/
noncomputable def qRe (B : yB) (f : qF) (S : qS) (s t : qR) : qS × Int := if ¬ (s.headD 0 < 21) then qBs f t (qBo B S s) S else if t.headD 0 < 21 then qCl B f S s t else (S, 0)
/-- one question; so many levels are left -/
noncomputable def qB (B : yB) (u : Int) : Nat → qF
  | 0, S, _, _ => if u ≤ S.1 then (S, -3) else (S, -2)
  | n + 1, S, s, t => if u ≤ S.1 then (S, -3) else if s = t ∨ t = [0] then ((S.1 + 1, S.2), 1) else
    if qFl S t = [] then qRe B (qB B u n) (S.1 + 1, S.2) s t
    else if (qB B u n (S.1 + 1, S.2) s (qFl S t)).2 = 0 then qRe B (qB B u n) (qB B u n (S.1 + 1, S.2) s (qFl S t)).1 s t else qB B u n (S.1 + 1, S.2) s (qFl S t)
/-- NEW variables that are there stay -/
def qLe (S S' : qS) : Prop := S.1 ≤ S'.1 ∧ S.2.1 ≤ S'.2.1 ∧ ∃ N, S'.2.2 = S.2.2 ++ N
theorem qLe_r (S : qS) : qLe S S := ⟨Int.le_refl _, Int.le_refl _, [], by simp⟩
theorem qLe_t {a b c : qS} (h1 : qLe a b) (h2 : qLe b c) : qLe a c := by
  obtain ⟨p1, p2, N, p3⟩ := h1
  obtain ⟨q1, q2, M, q3⟩ := h2
  exact ⟨by omega, by omega, N ++ M, by rw [q3, p3, List.append_assoc]⟩
theorem qLe_f {a b : qS} {t : qR} (h : qLe a b) (ht : t.headD 0 - 300 < a.2.2.length) : qFl b t = qFl a t ∧ (300 ≤ t.headD 0 → (b.2.2.getD (t.headD 0 - 300).toNat ([], [])).1 = (a.2.2.getD (t.headD 0 - 300).toNat ([], [])).1) := by
  obtain ⟨-, -, N, e⟩ := h
  have key : 300 ≤ t.headD 0 → b.2.2.getD (t.headD 0 - 300).toNat ([], []) = a.2.2.getD (t.headD 0 - 300).toNat ([], []) := fun q => by
    rw [e, List.getD_eq_getElem?_getD, List.getD_eq_getElem?_getD, List.getElem?_append_left (by omega)]
  refine ⟨?_, fun q => by rw [key q]⟩
  unfold qFl
  split
  · rename_i q; rw [key q]
  · rfl
theorem qBd_g {f : Int} {cs : List qR} : ∀ (rs : List qR) (g g' : Int) (bs : List qR), qBd f cs rs g = some (g', bs) → g ≤ g' ∧ (g ≤ 6000 → g' ≤ 6000) ∧ bs = rs.map (ysub f cs)
  | [], g, g', bs, h => by
    simp only [qBd, Option.some.injEq, Prod.mk.injEq] at h
    obtain ⟨rfl, rfl⟩ := h
    exact ⟨Int.le_refl _, fun q => q, rfl⟩
  | r :: rs, g, g', bs, h => by
    unfold qBd at h
    split at h
    · cases h
    · rename_i q
      split at h
      · cases h
      · rename_i g1 b1 e
        cases h
        have := qBd_g rs _ _ _ e
        exact ⟨by omega, fun _ => this.2.1 (by omega), by rw [this.2.2]; rfl⟩
theorem qCb_g {B : yB} {c : Int} {cs : List qR} : ∀ (as : List qR) (i g g' : Int) (N : List (List qR × qR)), qCb B c cs as i g = some (g', N) → g ≤ g' ∧ (g ≤ 6000 → g' ≤ 6000) ∧ N.length = as.countP ywl
  | [], i, g, g', N, h => by
    simp only [qCb, Option.some.injEq, Prod.mk.injEq] at h
    obtain ⟨rfl, rfl⟩ := h
    exact ⟨Int.le_refl _, fun q => q, rfl⟩
  | a :: as, i, g, g', N, h => by
    unfold qCb at h
    split at h
    · rename_i q
      split at h
      · cases h
      · rename_i g1 bs e1
        split at h
        · cases h
        · rename_i g2 N2 e2
          cases h
          have u := qBd_g _ _ _ _ e1
          have v := qCb_g as _ _ _ _ e2
          exact ⟨by omega, fun w => v.2.1 (u.2.1 w), by rw [List.countP_cons_of_pos q, List.length_cons, v.2.2]⟩
    · rename_i q
      have v := qCb_g as _ _ _ _ h
      exact ⟨v.1, v.2.1, by rw [List.countP_cons_of_neg q, v.2.2]⟩
