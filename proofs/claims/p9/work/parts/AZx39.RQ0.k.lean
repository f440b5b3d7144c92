/-! ### the pile of the reference's questions: what is left to do -/
/-- stage (1: behind a FLOOR, 2: BOUNDS are left, 3: pairs are left), the two TYPES, what is left -/
abbrev qK : Type := Nat × qR × qR × List qR × List qR
noncomputable def qKr (B : yB) (f : qF) (k : qK) (r : qS × Int) : qS × Int := if k.1 = 1 then (if r.2 = 0 then qRe B f r.1 k.2.1 k.2.2.1 else r) else if k.1 = 2 then (if r.2 = 0 then qBs f k.2.2.1 k.2.2.2.1 r.1 else r) else (if r.2 = 1 then qAs f k.2.2.2.1 k.2.2.2.2 r.1 else r)
/-- the newest first; n levels are left below it -/
noncomputable def qKs (B : yB) (u : Int) : List qK → Nat → qS × Int → qS × Int
  | [], _, r => r
  | k :: ks, n, r => qKs B u ks (n + 1) (qKr B (qB B u n) k r)
theorem qKr_n {B : yB} {f : qF} {k : qK} {r : qS × Int} (h : r.2 < 0) : qKr B f k r = r := by
  unfold qKr
  rw [if_neg (show ¬ r.2 = 0 by omega), if_neg (show ¬ r.2 = 0 by omega), if_neg (show ¬ r.2 = 1 by omega)]
  split
  · rfl
  · split <;> rfl
/-- an end goes through -/
theorem qKs_n {B : yB} {u : Int} : ∀ (ks : List qK) (n : Nat) (r : qS × Int), r.2 < 0 → qKs B u ks n r = r
  | [], _, _, _ => rfl
  | k :: ks, n, r, h => by
    show qKs B u ks (n + 1) (qKr B (qB B u n) k r) = r
    rw [qKr_n h]
    exact qKs_n ks (n + 1) r h
/-- a question that was counted -/
noncomputable def qIn (B : yB) (u : Int) (n : Nat) (S : qS) (s t : qR) : qS × Int := if s = t ∨ t = [0] then (S, 1) else if qFl S t = [] then qRe B (qB B u n) S s t else qKr B (qB B u n) (1, s, t, [], []) (qB B u n S s (qFl S t))
theorem qB_in {B : yB} {u : Int} {n : Nat} {S : qS} {s t : qR} : qB B u (n + 1) S s t = if u ≤ S.1 then (S, -3) else qIn B u n (S.1 + 1, S.2) s t := by
  have e : qFl (S.1 + 1, S.2) t = qFl S t := rfl
  unfold qIn qKr
  rw [qB, e]
  rfl
theorem qBs_k {B : yB} {f : qF} {s t b : qR} {bs : List qR} {S : qS} : qBs f t (b :: bs) S = qKr B f (2, s, t, bs, []) (f S b t) := by
  unfold qKr
  rw [qBs]
  rfl
theorem qAs_up {B : yB} {f : qF} {s t q b : qR} {qs bs : List qR} {S : qS} (h : b.headD 0 = 201) : qAs f (q :: qs) (b :: bs) S = qKr B f (3, s, t, qs, bs) (f S q b.tail) := by
  have e : qArg f S q b = f S q b.tail := by unfold qArg; rw [if_neg (by omega), if_pos h]
  unfold qKr
  rw [qAs, e]
  rfl
theorem qAs_dn {B : yB} {f : qF} {s t q b : qR} {qs bs : List qR} {S : qS} (h : b.headD 0 = 202) : qAs f (q :: qs) (b :: bs) S = qKr B f (3, s, t, qs, bs) (f S b.tail q) := by
  have e : qArg f S q b = f S b.tail q := by unfold qArg; rw [if_neg (by omega), if_neg (by omega), if_pos h]
  unfold qKr
  rw [qAs, e]
  rfl
theorem qAs_eq {f : qF} {q b : qR} {qs bs : List qR} {S : qS} (h : b.headD 0 = 200 ∨ (¬ ywl b = true ∧ q = b)) : qAs f (q :: qs) (b :: bs) S = qAs f qs bs S := by
  have e : qArg f S q b = (S, 1) := by
    unfold qArg
    rcases h with h | ⟨h, e⟩
    · rw [if_pos h]
    · rw [ywl_i] at h
      rw [if_neg (by omega), if_neg (by omega), if_neg (by omega), if_pos e]
  rw [qAs, e, if_pos rfl]
theorem qAs_no {f : qF} {q b : qR} {qs bs : List qR} {S : qS} (h : ¬ ywl b = true ∧ q ≠ b) : qAs f (q :: qs) (b :: bs) S = (S, 0) := by
  have e : qArg f S q b = (S, 0) := by
    unfold qArg
    have h1 := h.1
    rw [ywl_i] at h1
    rw [if_neg (by omega), if_neg (by omega), if_neg (by omega), if_neg h.2]
  rw [qAs, e, if_neg (show ¬ ((0 : Int) = 1) by decide)]
