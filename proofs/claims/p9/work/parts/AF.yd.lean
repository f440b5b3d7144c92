theorem yv_n {T : yT} {j i x : Int} {v : Int64} (h : v = yv T j (i - j).toNat) (hi : j ≤ i) (hx : x = T.1 i) : (v <<< ((Int32.ofInt 8).toInt64 &&& 63)) ||| (Int32.ofInt x).toInt64 = yv T j (i + 1 - j).toNat := by
  obtain ⟨k, hk⟩ : ∃ k : Nat, (i - j).toNat = k := ⟨_, rfl⟩
  rw [show (i + 1 - j).toNat = k + 1 by omega]
  rw [hk] at h
  show _ = (yv T j k <<< _) ||| (Int32.ofInt (T.1 (j + k))).toInt64
  rw [h, hx, show j + (k : Int) = i by omega]
def yk_X5_nameSize : zC := fun As μ Q => ∃ (a1 : Int), As = [.inr (.inr (1, 1)), .inl a1] ∧ (0 ≤ a1 ∧ a1 ≤ 799) ∧ (∀ (v : Int), 0 ≤ v → v ≤ 800 → (v = if a1 < μ.1 1 ((4 : Nat) : Int) ∧ yLet (μ.1 2 a1) = true then yru yNb ((μ.1 2, μ.1 1 ((4 : Nat) : Int)) : yT) (a1 + 1) - a1 else 0) → Q (some (.inl v)) μ)
set_option maxHeartbeats 4000000 in
theorem ym_X5_nameSize {g : zΓ} (hg : zg g) (d : Nat) (hd : 3 ≤ d) : zOk g d 73 yk_X5_nameSize := by
  obtain ⟨d, rfl⟩ : ∃ d', d = d' + 1 := ⟨d - 1, by omega⟩
  refine zOk_loop hg (show mt_tab[73]? = some mt_X5_nameSize from rfl) ([(28, [0, 1, 2])], []) 37 rfl fun As μ Q hC => ?_
  obtain ⟨a1, rfl, ha1, hQ⟩ := hC
  refine ⟨rfl, fun pc vs μ' n => ∃ (v1 : Int) (v2 : Int), vs = [.inr (.inr (1, 1)), .inl v1, .inl v2] ∧ μ' = μ ∧ (0 ≤ v1 ∧ v1 ≤ 799) ∧ (1 ≤ v2 ∧ v2 ≤ 800) ∧ (v1 = a1) ∧ (v1 + 1 ≤ v2) ∧ (yru yNb ((μ.1 2, μ.1 1 ((4 : Nat) : Int)) : yT) (a1 + 1) = yru yNb ((μ.1 2, μ.1 1 ((4 : Nat) : Int)) : yT) v2) ∧ (a1 < μ.1 1 ((4 : Nat) : Int) ∧ yLet (μ.1 2 a1) = true) ∧ n = (Int.toNat (2147483648 - v2)), ?_, ?_, trivial⟩
  · intro x1 hx1 kx1 lx1
    refine And.intro ⟨⟨by omega, by omega⟩, ⟨by omega, by omega⟩⟩ (And.intro (fun c2 => ?_) (fun c2 => ?_))
    · exact And.intro trivial (And.intro ⟨by omega, by omega⟩ (hQ _ (by omega) (by omega) (by subst_vars; rw [if_neg (fun q => by have := q.1; first | omega | exact (by assumption : ¬ _) q.2)])))
    · refine ⟨zk_X8_at, zm_X8_at hg d (by omega), _, _, _, rfl, ⟨by omega, by omega⟩, ?_⟩
      intro x3 kx3 lx3 fx3 gx3
      have hx3 : x3 = μ.1 2 a1 := (fx3 ⟨by omega, by omega⟩).1
      have ix3 := (fx3 ⟨by omega, by omega⟩).2
      refine ⟨yk_X5_isLetter, ym_X5_isLetter hg d (by omega), _, rfl, ⟨by omega, by omega⟩, ?_⟩
      intro x4 kx4 lx4 p5
      refine And.intro ⟨by omega, by omega⟩ (And.intro (fun c6 => ?_) (fun c6 => ?_))
      · have bc6 := yp1 p5 c6
        refine Exists.intro (Int.toNat (2147483648 - (a1 + 1))) ?_
        exact ⟨_, _, rfl, rfl, ⟨by omega, by omega⟩, ⟨by omega, by omega⟩, (by omega), (by omega), rfl, (by subst_vars; exact ⟨by omega, by assumption⟩), rfl⟩
      · have bc6 := yp0 p5 c6
        exact And.intro trivial (And.intro ⟨by omega, by omega⟩ (hQ _ (by omega) (by omega) (by subst_vars; rw [if_neg (fun q => by have := q.1; first | omega | exact (by assumption : ¬ _) q.2)])))
  · intro vs m0 n hI
    obtain ⟨v1, v2, rfl, em0, hv1, hv2, i0, i1, i2, i3, rfl⟩ := hI
    replace em0 := em0.symm
    subst em0
    intro x7 hx7 kx7 lx7
    refine And.intro ⟨⟨by omega, by omega⟩, ⟨by omega, by omega⟩⟩ (And.intro (fun c8 => ?_) (fun c8 => ?_))
    · exact And.intro trivial (And.intro ⟨by omega, by omega⟩ (hQ _ (by omega) (by omega) (by rw [if_pos i3, i2, yru_st (by intro q; have q1 : v2 < μ.1 1 ((4 : Nat) : Int) := q.1; have q2 : yNb (μ.1 2 v2) = true := q.2; first | omega | (subst_vars; exact (by assumption : ¬ _) q2))]; subst_vars; rfl)))
    · refine ⟨zk_X8_at, zm_X8_at hg d (by omega), _, _, _, rfl, ⟨by omega, by omega⟩, ?_⟩
      intro x9 kx9 lx9 fx9 gx9
      have hx9 : x9 = μ.1 2 v2 := (fx9 ⟨by omega, by omega⟩).1
      have ix9 := (fx9 ⟨by omega, by omega⟩).2
      refine ⟨yk_X5_isNameByte, ym_X5_isNameByte hg d (by omega), _, rfl, ⟨by omega, by omega⟩, ?_⟩
      intro x10 kx10 lx10 p11
      refine And.intro ⟨by omega, by omega⟩ (And.intro (fun c12 => ?_) (fun c12 => ?_))
      · have bc12 := yp0 p11 c12
        exact And.intro trivial (And.intro ⟨by omega, by omega⟩ (hQ _ (by omega) (by omega) (by rw [if_pos i3, i2, yru_st (by intro q; have q1 : v2 < μ.1 1 ((4 : Nat) : Int) := q.1; have q2 : yNb (μ.1 2 v2) = true := q.2; first | omega | (subst_vars; exact (by assumption : ¬ _) q2))]; subst_vars; rfl)))
      · have bc12 := yp1 p11 c12
        refine Exists.intro (Int.toNat (2147483648 - (v2 + 1))) (And.intro (by omega) ?_)
        exact ⟨_, _, rfl, rfl, ⟨by omega, by omega⟩, ⟨by omega, by omega⟩, (by omega), (by omega), (i2.trans (yru_go (T := ((μ.1 2, μ.1 1 ((4 : Nat) : Int)) : yT)) (by show _ < μ.1 1 _; omega) (by subst_vars; assumption))), i3, rfl⟩
def yk_X5_nameOf : zC := fun As μ Q => ∃ (a1 : Int) (a2 : Int), As = [.inr (.inr (1, 1)), .inl a1, .inl a2] ∧ (0 ≤ a1 ∧ a1 ≤ 799) ∧ (1 ≤ a2 ∧ a2 ≤ 8) ∧ (a1 + a2 ≤ 800) ∧ (∀ (v : Int64), (v = yv ((μ.1 2, μ.1 1 ((4 : Nat) : Int)) : yT) a1 a2.toNat) → Q (some (.inr (.inl v))) μ)
set_option maxHeartbeats 4000000 in
theorem ym_X5_nameOf {g : zΓ} (hg : zg g) (d : Nat) (hd : 2 ≤ d) : zOk g d 74 yk_X5_nameOf := by
  obtain ⟨d, rfl⟩ : ∃ d', d = d' + 1 := ⟨d - 1, by omega⟩
  refine zOk_loop hg (show mt_tab[74]? = some mt_X5_nameOf from rfl) ([(5, [0, 1, 2, 3, 5])], []) 28 rfl fun As μ Q hC => ?_
  obtain ⟨a1, a2, rfl, ha1, ha2, hp0, hQ⟩ := hC
  refine ⟨rfl, fun pc vs μ' n => ∃ (v1 : Int) (v2 : Int) (v3 : Int64) (v5 : Int), vs = [.inr (.inr (1, 1)), .inl v1, .inl v2, .inr (.inl v3), .inl v5] ∧ μ' = μ ∧ (0 ≤ v1 ∧ v1 ≤ 799) ∧ (1 ≤ v2 ∧ v2 ≤ 8) ∧ (0 ≤ v5 ∧ v5 ≤ 2147483647) ∧ (v1 = a1 ∧ v2 = a2) ∧ (a1 ≤ v5 ∧ v5 ≤ a1 + a2) ∧ (v3 = yv ((μ.1 2, μ.1 1 ((4 : Nat) : Int)) : yT) a1 (v5 - a1).toNat) ∧ n = (Int.toNat (2147483648 - v5)), ?_, ?_, trivial⟩
  · refine Exists.intro (Int.toNat (2147483648 - a1)) ?_
    exact ⟨_, _, _, _, rfl, rfl, ⟨by omega, by omega⟩, ⟨by omega, by omega⟩, ⟨by omega, by omega⟩, (by omega), (by omega), (by rw [show (a1 - a1).toNat = 0 by omega]; rfl), rfl⟩
  · intro vs m0 n hI
    obtain ⟨v1, v2, v3, v5, rfl, em0, hv1, hv2, hv5, i0, i1, i2, rfl⟩ := hI
    replace em0 := em0.symm
    subst em0
    refine And.intro ⟨⟨by omega, by omega⟩, ⟨by omega, by omega⟩⟩ (And.intro (fun c1 => ?_) (fun c1 => ?_))
    · exact And.intro rfl (hQ _ (by rw [i2, show (v5 - a1).toNat = a2.toNat by omega]))
    · refine ⟨zk_X8_at, zm_X8_at hg d (by omega), _, _, _, rfl, ⟨by omega, by omega⟩, ?_⟩
      intro x2 kx2 lx2 fx2 gx2
      have hx2 : x2 = μ.1 2 v5 := (fx2 ⟨by omega, by omega⟩).1
      have ix2 := (fx2 ⟨by omega, by omega⟩).2
      refine Exists.intro (Int.toNat (2147483648 - (v5 + 1))) (And.intro (by omega) ?_)
      exact ⟨_, _, _, _, rfl, rfl, ⟨by omega, by omega⟩, ⟨by omega, by omega⟩, ⟨by omega, by omega⟩, (by omega), (by omega), (yv_n (T := ((μ.1 2, μ.1 1 ((4 : Nat) : Int)) : yT)) i2 (by omega) (by subst_vars; rfl)), rfl⟩
def yk_X4_findClass : zC := fun As μ Q => ∃ (t : Nat) (a1 : Int64), As = [.inr (.inr (t, 14)), .inr (.inl a1)] ∧ (t = 14 ∨ t = 32) ∧ (∀ (v : Int), (-1) ≤ v → v ≤ 20 → (v = yfd (μ.1 (Nat.add 3000000 (Nat.add t 1))) a1.toInt 0 (μ.1 t ((12 : Nat) : Int))) → Q (some (.inl v)) μ)
set_option maxHeartbeats 4000000 in
theorem ym_X4_findClass {g : zΓ} (hg : zg g) (d : Nat) (hd : 1 ≤ d) : zOk g d 60 yk_X4_findClass := by
  obtain ⟨d, rfl⟩ : ∃ d', d = d' + 1 := ⟨d - 1, by omega⟩
  refine zOk_loop hg (show mt_tab[60]? = some mt_X4_findClass from rfl) ([(2, [0, 1, 3])], []) 27 rfl fun As μ Q hC => ?_
  obtain ⟨t, a1, rfl, ht, hQ⟩ := hC
  refine ⟨rfl, fun pc vs μ' n => ∃ (v1 : Int64) (v3 : Int), vs = [.inr (.inr (t, 14)), .inr (.inl v1), .inl v3] ∧ μ' = μ ∧ (0 ≤ v3 ∧ v3 ≤ 2147483647) ∧ (v1 = a1) ∧ (yfd (μ.1 (Nat.add 3000000 (Nat.add t 1))) a1.toInt 0 (μ.1 t ((12 : Nat) : Int)) = yfd (μ.1 (Nat.add 3000000 (Nat.add t 1))) a1.toInt v3 (μ.1 t ((12 : Nat) : Int))) ∧ n = (Int.toNat (2147483648 - v3)), ?_, ?_, trivial⟩
  · refine Exists.intro (Int.toNat (2147483648 - 0)) ?_
    exact ⟨_, _, rfl, rfl, ⟨by omega, by omega⟩, rfl, rfl, rfl⟩
  · intro vs m0 n hI
    obtain ⟨v1, v3, rfl, em0, hv3, i0, i1, rfl⟩ := hI
    replace em0 := em0.symm
    subst em0
    refine And.intro ht ?_
    intro x1 hx1 kx1 lx1
    refine And.intro ⟨⟨by omega, by omega⟩, ⟨by omega, by omega⟩⟩ (And.intro (fun c2 => ?_) (fun c2 => ?_))
    · exact And.intro trivial (And.intro ⟨by omega, by omega⟩ (hQ _ (by omega) (by omega) (by rw [i1]; exact (yfd_no (by omega)).symm)))
    · refine And.intro ⟨⟨by omega, by omega⟩, ⟨by omega, by omega⟩⟩ (And.intro (fun c3 => ?_) (fun c3 => ?_))
      · exfalso; omega
      · refine And.intro ht ?_
        refine And.intro (zfa (o := 1) (y2 := 15) ht rfl) ?_
        refine And.intro ⟨by omega, by omega⟩ ?_
        intro x4 hx4
        intro x5 hx5 kx5 lx5
        refine And.intro ⟨by omega, by omega⟩ (And.intro (fun c6 => ?_) (fun c6 => ?_))
        · have bc6 := ylcn hx5 c6
          refine Exists.intro (Int.toNat (2147483648 - (v3 + 1))) (And.intro (by omega) ?_)
          exact ⟨_, _, rfl, rfl, ⟨by omega, by omega⟩, i0, (i1.trans (yfd_go (by omega) (fun q => by have e := (by assumption : Int64.toInt _ = _); rw [q] at e; exact (by assumption : ¬ _) (i0 ▸ Int64.toInt_inj.mp e)))), rfl⟩
        · have bc6 := ylc0 hx5 c6
          exact And.intro trivial (And.intro ⟨by omega, by omega⟩ (hQ _ (by omega) (by omega) (by rw [i1]; exact (yfd_at (by omega) (by subst_vars; first | (rw [← (by assumption : Int64.toInt _ = _)]; done) | (symm; assumption))).symm)))
def yk_X5_step : zC := fun As μ Q => As = [.inr (.inr (1, 1))] ∧ (∀ (μ' : zM), zl0 μ μ' → (¬ μ.1 1 ((6 : Nat) : Int) = 0 ∧ μ.1 1 ((5 : Nat) : Int) + 1 ≤ 800 → μ' = zu (zu (zu (zu μ 1 ((5 : Nat) : Int) (μ.1 1 ((5 : Nat) : Int) + 1)) 1 ((6 : Nat) : Int) (μ.1 3 (μ.1 1 ((5 : Nat) : Int) + 1))) 1 ((7 : Nat) : Int) (μ.1 4 (μ.1 1 ((5 : Nat) : Int) + 1))) 5000001 ((8 : Nat) : Int) (μ.1 3000005 (μ.1 1 ((5 : Nat) : Int) + 1))) → Q none μ')
set_option maxHeartbeats 4000000 in
theorem ym_X5_step {g : zΓ} (hg : zg g) (d : Nat) (hd : 1 ≤ d) : zOk g d 79 yk_X5_step := by
  obtain ⟨d, rfl⟩ : ∃ d', d = d' + 1 := ⟨d - 1, by omega⟩
  refine zOk_straight hg (show mt_tab[79]? = some mt_X5_step from rfl) [] 40 rfl fun As μ Q hC => ?_
  obtain ⟨rfl, hQ⟩ := hC
  refine ⟨rfl, ?_⟩
  have z0 : zl0 μ μ := zl0_r μ
  intro x1 hx1 kx1 lx1
  intro x2 hx2 kx2 lx2
  refine And.intro ⟨by omega, by omega⟩ (And.intro (fun c3 => ?_) (fun c3 => ?_))
  · exact And.intro rfl (hQ _ z0 (fun q => by subst_vars; simp [zu, *] <;> omega))
  · refine And.intro ⟨by omega, by omega⟩ (And.intro (fun c4 => ?_) (fun c4 => ?_))
    · exfalso; omega
    · refine And.intro ⟨⟨by omega, by omega⟩, ⟨by omega, by omega⟩⟩ (And.intro (fun c5 => ?_) (fun c5 => ?_))
      · exact And.intro rfl (hQ _ z0 (fun q => by subst_vars; simp [zu, *] <;> omega))
      · refine And.intro ⟨by omega, by omega⟩ ?_
        intro m6 em6
        have z7 := zl0_t z0 (zl0_u em6 (Or.inl (by decide)) (Or.inl ⟨by decide, by decide⟩))
        refine And.intro ⟨by omega, by omega⟩ ?_
        intro x8 hx8 kx8 lx8
        refine And.intro ⟨by omega, by omega⟩ ?_
        intro m9 em9
        have z10 := zl0_t z7 (zl0_u em9 (Or.inl (by decide)) (Or.inl ⟨by decide, by decide⟩))
        refine And.intro ⟨by omega, by omega⟩ ?_
        intro x11 hx11 kx11 lx11
        refine And.intro ⟨by omega, by omega⟩ ?_
        intro m12 em12
        have z13 := zl0_t z10 (zl0_u em12 (Or.inl (by decide)) (Or.inl ⟨by decide, by decide⟩))
        refine And.intro ⟨by omega, by omega⟩ ?_
        intro x14 hx14
        intro m15 em15
        have z16 := zl0_t z13 (zl0_u em15 (by simp only [Nat.add_eq] at *; omega) (Or.inl ⟨(by simp only [Nat.add_eq] at *; omega), (by simp only [Nat.add_eq] at *; omega)⟩) (Or.inl (by simp only [Nat.add_eq] at *; omega)))
        exact And.intro rfl (hQ _ z16 (fun q => by subst_vars; simp [zu, *] <;> omega))
def yk_X5_opensArgs : zC := fun As μ Q => As = [.inr (.inr (1, 1))] ∧ (μ.1 1 ((6 : Nat) : Int) = 60 → 0 ≤ μ.1 1 ((5 : Nat) : Int) ∧ μ.1 1 ((5 : Nat) : Int) ≤ 799) ∧ (∀ (v : Int), 0 ≤ v → v ≤ 1 → ((v = 1 ∧ (μ.1 1 ((6 : Nat) : Int) = 60 ∧ ¬ μ.1 3 (μ.1 1 ((5 : Nat) : Int) + 1) = 61)) ∨ (v = 0 ∧ ¬ (μ.1 1 ((6 : Nat) : Int) = 60 ∧ ¬ μ.1 3 (μ.1 1 ((5 : Nat) : Int) + 1) = 61))) → Q (some (.inl v)) μ)
set_option maxHeartbeats 4000000 in
theorem ym_X5_opensArgs {g : zΓ} (hg : zg g) (d : Nat) (hd : 2 ≤ d) : zOk g d 78 yk_X5_opensArgs := by
  obtain ⟨d, rfl⟩ : ∃ d', d = d' + 1 := ⟨d - 1, by omega⟩
  refine zOk_straight hg (show mt_tab[78]? = some mt_X5_opensArgs from rfl) [] 22 rfl fun As μ Q hC => ?_
  obtain ⟨rfl, hp0, hQ⟩ := hC
  refine ⟨rfl, ?_⟩
  intro x1 hx1 kx1 lx1
  refine And.intro ⟨⟨by omega, by omega⟩, ⟨by omega, by omega⟩⟩ (And.intro (fun c2 => ?_) (fun c2 => ?_))
  · exact And.intro (zrtb (by omega)) (And.intro ⟨by omega, by omega⟩ (hQ _ (by omega) (by omega) (by first | exact Or.inl ⟨rfl, by subst_vars; omega⟩ | exact Or.inr ⟨rfl, by subst_vars; omega⟩)))
  · intro x3 hx3 kx3 lx3
    refine ⟨zk_X8_at, zm_X8_at hg d (by omega), _, _, _, rfl, ⟨by omega, by omega⟩, ?_⟩
    intro x4 kx4 lx4 fx4 gx4
    have hx4 : x4 = μ.1 3 (x3 + 1) := (fx4 ⟨by omega, by omega⟩).1
    have ix4 := (fx4 ⟨by omega, by omega⟩).2
    refine And.intro ⟨⟨by omega, by omega⟩, ⟨by omega, by omega⟩⟩ (And.intro (fun c5 => ?_) (fun c5 => ?_))
    · exact And.intro (zrtb (by omega)) (And.intro ⟨by omega, by omega⟩ (hQ _ (by omega) (by omega) (by first | exact Or.inl ⟨rfl, by subst_vars; omega⟩ | exact Or.inr ⟨rfl, by subst_vars; omega⟩)))
    · exact And.intro (zrtb (by omega)) (And.intro ⟨by omega, by omega⟩ (hQ _ (by omega) (by omega) (by first | exact Or.inl ⟨rfl, by subst_vars; omega⟩ | exact Or.inr ⟨rfl, by subst_vars; omega⟩)))
