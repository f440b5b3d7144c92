/-! ### the class: more contracts -/
def zk_J7_fill_53178 : zC := fun As μ Q => ∃ (a1 : Nat) (a2 : Int), As = [.inr (.inr (a1, 1001)), .inl a2] ∧ zIa μ a1 ∧ ((-2147483648) ≤ a2 ∧ a2 ≤ 2147483647) ∧ (zrg a1 a2) ∧ (a1 < 66 ∧ (a1 ≠ 26 ∧ a1 ≠ 44) ∧ a1 ≠ 1) ∧ (∀ (μ' : zM), zl0 μ μ' → Q none μ')
set_option maxHeartbeats 4000000 in
theorem zm_J7_fill_53178 {g : zΓ} (hg : zg g) (d : Nat) (hd : 1 ≤ d) : zOk g d 191 zk_J7_fill_53178 := by
  obtain ⟨d, rfl⟩ : ∃ d', d = d' + 1 := ⟨d - 1, by omega⟩
  refine zOk_loop hg (show mt_tab[191]? = some mt_J7_fill_53178 from rfl) ([(5, [0, 1, 2, 3])], []) 20 rfl fun As μ Q hC => ?_
  obtain ⟨a1, a2, rfl, ha1, ha2, hp0, hp1, hQ⟩ := hC
  have z0 : zl0 μ μ := zl0_r μ
  refine ⟨rfl, fun pc vs μ' n => ∃ (v1 : Int) (v2 : Int) (v3 : Int), vs = [.inr (.inr (a1, 1001)), .inl v1, .inl v2, .inl v3] ∧ zl0 μ μ' ∧ ((-2147483648) ≤ v1 ∧ v1 ≤ 2147483647) ∧ (0 ≤ v2 ∧ v2 ≤ 2147483647) ∧ ((-2147483648) ≤ v3 ∧ v3 ≤ 2147483647) ∧ (v3 = μ.2 a1) ∧ (v1 = a2) ∧ n = (Int.toNat (2147483648 - v2)), ?_, ?_, trivial⟩
  · refine And.intro (zIa_m ha1 z0) ?_
    intro x1 hx1 kx1 lx1
    refine Exists.intro (Int.toNat (2147483648 - 0)) ?_
    exact ⟨_, _, _, rfl, z0, ⟨by omega, by omega⟩, ⟨by omega, by omega⟩, ⟨by omega, by omega⟩, (by omega), (by omega), rfl⟩
  · intro vs m0 n hI
    clear z0
    obtain ⟨v1, v2, v3, rfl, z0, hv1, hv2, hv3, i0, i1, rfl⟩ := hI
    have hl0 : m0.2 a1 = μ.2 a1 := by rw [z0.2]
    subst i1
    refine And.intro ⟨⟨by omega, by omega⟩, ⟨by omega, by omega⟩⟩ (And.intro (fun c2 => ?_) (fun c2 => ?_))
    · exact And.intro rfl (hQ _ z0)
    · refine And.intro (zIa_m ha1 z0) ?_
      refine And.intro ⟨by omega, by omega⟩ (And.intro (by exact hp0) ?_)
      intro m3 em3
      have z4 := zl0_t z0 (zl0_u em3 (Or.inl hp1.1) (Or.inl hp1.2.1) (Or.inl hp1.2.2))
      refine Exists.intro (Int.toNat (2147483648 - (v2 + 1))) (And.intro (by omega) ?_)
      exact ⟨_, _, _, rfl, z4, ⟨by omega, by omega⟩, ⟨by omega, by omega⟩, ⟨by omega, by omega⟩, (by omega), (by omega), rfl⟩
def zk_X5_append : zC := fun As μ Q => ∃ (a1 : Int64) (a2 : Int), As = [.inr (.inr (1, 1)), .inr (.inl a1), .inl a2] ∧ (1 ≤ a2 ∧ a2 ≤ 8) ∧ (μ.1 1 ((4 : Nat) : Int) + a2 ≤ 800) ∧ (∀ (μ' : zM), zf0 μ μ' → (μ'.1 1 ((4 : Nat) : Int) = μ.1 1 ((4 : Nat) : Int) + a2) → Q none μ')
set_option maxHeartbeats 4000000 in
theorem zm_X5_append {g : zΓ} (hg : zg g) (d : Nat) (hd : 2 ≤ d) : zOk g d 71 zk_X5_append := by
  obtain ⟨d, rfl⟩ : ∃ d', d = d' + 1 := ⟨d - 1, by omega⟩
  refine zOk_loop hg (show mt_tab[71]? = some mt_X5_append from rfl) ([(5, [0, 1, 4])], []) 33 rfl fun As μ Q hC => ?_
  obtain ⟨a1, a2, rfl, ha2, hp0, hQ⟩ := hC
  have z0 : zf0 μ μ := zf0_r μ
  refine ⟨rfl, fun pc vs μ' n => ∃ (v1 : Int64) (v4 : Int), vs = [.inr (.inr (1, 1)), .inr (.inl v1), .inl v4] ∧ zf0 μ μ' ∧ ((-1) ≤ v4 ∧ v4 ≤ 7) ∧ (μ'.1 1 ((4 : Nat) : Int) + v4 + 1 = μ.1 1 ((4 : Nat) : Int) + a2) ∧ n = (Int.toNat (v4 + 1)), ?_, ?_, trivial⟩
  · refine Exists.intro (Int.toNat ((a2 - 1) + 1)) ?_
    exact ⟨_, _, rfl, z0, ⟨by omega, by omega⟩, (by omega), rfl⟩
  · intro vs m0 n hI
    clear z0
    obtain ⟨v1, v4, rfl, z0, hv4, i0, rfl⟩ := hI
    refine And.intro ⟨by omega, by omega⟩ (And.intro (fun c1 => ?_) (fun c1 => ?_))
    · exact And.intro rfl (hQ _ z0 (by omega))
    · intro x2 hx2 kx2 lx2
      intro x3 hx3 kx3 lx3
      intro x4 hx4 kx4 lx4
      refine ⟨zk_X8_set, zm_X8_set hg d (by omega), _, _, _, _, rfl, ⟨by omega, by omega⟩, ?_⟩
      refine And.intro ⟨by omega, by omega⟩ ?_
      intro m5 qm5 fm5 gm5
      have z6 := zf0_t z0 ⟨zle_lf qm5, gm5⟩
      have : m5.1 1 ((4 : Nat) : Int) = m0.1 1 ((4 : Nat) : Int) := congrFun (fm5 1 (show (1 : Nat) ≠ 2 by omega)) _
      intro x7 hx7 kx7 lx7
      refine And.intro ⟨by omega, by omega⟩ ?_
      intro m8 em8
      have z9 := zf0_t z6 (zf0_u em8 (Or.inl (by decide)) (Or.inl ⟨by decide, by decide⟩))
      have : m8.1 1 ((4 : Nat) : Int) = (x7 + 1) := by rw [em8]; exact zu_at
      refine Exists.intro (Int.toNat ((v4 + (-1)) + 1)) (And.intro (by omega) ?_)
      exact ⟨_, _, rfl, z9, ⟨by omega, by omega⟩, (by omega), rfl⟩
def zk_X5_nameSize : zC := fun As μ Q => ∃ (a1 : Int), As = [.inr (.inr (1, 1)), .inl a1] ∧ (0 ≤ a1 ∧ a1 ≤ 799) ∧ (∀ (v : Int), 0 ≤ v → v ≤ 800 → Q (some (.inl v)) μ)
set_option maxHeartbeats 4000000 in
theorem zm_X5_nameSize {g : zΓ} (hg : zg g) (d : Nat) (hd : 3 ≤ d) : zOk g d 73 zk_X5_nameSize := by
  obtain ⟨d, rfl⟩ : ∃ d', d = d' + 1 := ⟨d - 1, by omega⟩
  refine zOk_loop hg (show mt_tab[73]? = some mt_X5_nameSize from rfl) ([(28, [0, 1, 2])], []) 37 rfl fun As μ Q hC => ?_
  obtain ⟨a1, rfl, ha1, hQ⟩ := hC
  refine ⟨rfl, fun pc vs μ' n => ∃ (v1 : Int) (v2 : Int), vs = [.inr (.inr (1, 1)), .inl v1, .inl v2] ∧ μ' = μ ∧ (0 ≤ v1 ∧ v1 ≤ 799) ∧ (1 ≤ v2 ∧ v2 ≤ 800) ∧ (v1 + 1 ≤ v2) ∧ n = (Int.toNat (2147483648 - v2)), ?_, ?_, trivial⟩
  · intro x1 hx1 kx1 lx1
    refine And.intro ⟨⟨by omega, by omega⟩, ⟨by omega, by omega⟩⟩ (And.intro (fun c2 => ?_) (fun c2 => ?_))
    · exact And.intro trivial (And.intro ⟨by omega, by omega⟩ (hQ _ (by omega) (by omega)))
    · refine ⟨zk_X8_at, zm_X8_at hg d (by omega), _, _, _, rfl, ⟨by omega, by omega⟩, ?_⟩
      intro x3 kx3 lx3 fx3 gx3
      refine ⟨zk_X5_isLetter, zm_X5_isLetter hg d (by omega), _, rfl, ⟨by omega, by omega⟩, ?_⟩
      intro x4 kx4 lx4
      refine And.intro ⟨by omega, by omega⟩ (And.intro (fun c5 => ?_) (fun c5 => ?_))
      · refine Exists.intro (Int.toNat (2147483648 - (a1 + 1))) ?_
        exact ⟨_, _, rfl, rfl, ⟨by omega, by omega⟩, ⟨by omega, by omega⟩, (by omega), rfl⟩
      · exact And.intro trivial (And.intro ⟨by omega, by omega⟩ (hQ _ (by omega) (by omega)))
  · intro vs m0 n hI
    obtain ⟨v1, v2, rfl, rfl, hv1, hv2, i0, rfl⟩ := hI
    intro x6 hx6 kx6 lx6
    refine And.intro ⟨⟨by omega, by omega⟩, ⟨by omega, by omega⟩⟩ (And.intro (fun c7 => ?_) (fun c7 => ?_))
    · exact And.intro trivial (And.intro ⟨by omega, by omega⟩ (hQ _ (by omega) (by omega)))
    · refine ⟨zk_X8_at, zm_X8_at hg d (by omega), _, _, _, rfl, ⟨by omega, by omega⟩, ?_⟩
      intro x8 kx8 lx8 fx8 gx8
      refine ⟨zk_X5_isNameByte, zm_X5_isNameByte hg d (by omega), _, rfl, ⟨by omega, by omega⟩, ?_⟩
      intro x9 kx9 lx9
      refine And.intro ⟨by omega, by omega⟩ (And.intro (fun c10 => ?_) (fun c10 => ?_))
      · exact And.intro trivial (And.intro ⟨by omega, by omega⟩ (hQ _ (by omega) (by omega)))
      · refine Exists.intro (Int.toNat (2147483648 - (v2 + 1))) (And.intro (by omega) ?_)
        exact ⟨_, _, rfl, rfl, ⟨by omega, by omega⟩, ⟨by omega, by omega⟩, (by omega), rfl⟩
def zk_X5_nameOf : zC := fun As μ Q => ∃ (a1 : Int) (a2 : Int), As = [.inr (.inr (1, 1)), .inl a1, .inl a2] ∧ (0 ≤ a1 ∧ a1 ≤ 799) ∧ (1 ≤ a2 ∧ a2 ≤ 8) ∧ (∀ (v : Int64), Q (some (.inr (.inl v))) μ)
set_option maxHeartbeats 4000000 in
theorem zm_X5_nameOf {g : zΓ} (hg : zg g) (d : Nat) (hd : 2 ≤ d) : zOk g d 74 zk_X5_nameOf := by
  obtain ⟨d, rfl⟩ : ∃ d', d = d' + 1 := ⟨d - 1, by omega⟩
  refine zOk_loop hg (show mt_tab[74]? = some mt_X5_nameOf from rfl) ([(5, [0, 1, 2, 3, 5])], []) 28 rfl fun As μ Q hC => ?_
  obtain ⟨a1, a2, rfl, ha1, ha2, hQ⟩ := hC
  refine ⟨rfl, fun pc vs μ' n => ∃ (v1 : Int) (v2 : Int) (v3 : Int64) (v5 : Int), vs = [.inr (.inr (1, 1)), .inl v1, .inl v2, .inr (.inl v3), .inl v5] ∧ μ' = μ ∧ (0 ≤ v1 ∧ v1 ≤ 799) ∧ (1 ≤ v2 ∧ v2 ≤ 8) ∧ (0 ≤ v5 ∧ v5 ≤ 2147483647) ∧ n = (Int.toNat (2147483648 - v5)), ?_, ?_, trivial⟩
  · refine Exists.intro (Int.toNat (2147483648 - a1)) ?_
    exact ⟨_, _, _, _, rfl, rfl, ⟨by omega, by omega⟩, ⟨by omega, by omega⟩, ⟨by omega, by omega⟩, rfl⟩
  · intro vs m0 n hI
    obtain ⟨v1, v2, v3, v5, rfl, rfl, hv1, hv2, hv5, rfl⟩ := hI
    refine And.intro ⟨⟨by omega, by omega⟩, ⟨by omega, by omega⟩⟩ (And.intro (fun c1 => ?_) (fun c1 => ?_))
    · exact And.intro rfl (hQ _)
    · refine ⟨zk_X8_at, zm_X8_at hg d (by omega), _, _, _, rfl, ⟨by omega, by omega⟩, ?_⟩
      intro x2 kx2 lx2 fx2 gx2
      refine Exists.intro (Int.toNat (2147483648 - (v5 + 1))) (And.intro (by omega) ?_)
      exact ⟨_, _, _, _, rfl, rfl, ⟨by omega, by omega⟩, ⟨by omega, by omega⟩, ⟨by omega, by omega⟩, rfl⟩
def zk_X5_step : zC := fun As μ Q => As = [.inr (.inr (1, 1))] ∧ (∀ (μ' : zM), zl0 μ μ' → (∀ j : Nat, j ≠ 1 → j ≠ 5000001 → μ'.1 j = μ.1 j) → Q none μ')
set_option maxHeartbeats 4000000 in
theorem zm_X5_step {g : zΓ} (hg : zg g) (d : Nat) (hd : 1 ≤ d) : zOk g d 79 zk_X5_step := by
  obtain ⟨d, rfl⟩ : ∃ d', d = d' + 1 := ⟨d - 1, by omega⟩
  refine zOk_straight hg (show mt_tab[79]? = some mt_X5_step from rfl) [] 40 rfl fun As μ Q hC => ?_
  obtain ⟨rfl, hQ⟩ := hC
  refine ⟨rfl, ?_⟩
  have z0 : zl0 μ μ := zl0_r μ
  intro x1 hx1 kx1 lx1
  intro x2 hx2 kx2 lx2
  refine And.intro ⟨by omega, by omega⟩ (And.intro (fun c3 => ?_) (fun c3 => ?_))
  · exact And.intro rfl (hQ _ z0 (fun _ _ _ => rfl))
  · refine And.intro ⟨by omega, by omega⟩ (And.intro (fun c4 => ?_) (fun c4 => ?_))
    · exfalso; omega
    · refine And.intro ⟨⟨by omega, by omega⟩, ⟨by omega, by omega⟩⟩ (And.intro (fun c5 => ?_) (fun c5 => ?_))
      · exact And.intro rfl (hQ _ z0 (fun _ _ _ => rfl))
      · refine And.intro ⟨by omega, by omega⟩ ?_
        intro m6 em6
        have z7 := zl0_t z0 (zl0_u em6 (Or.inl (by decide)) (Or.inl ⟨by decide, by decide⟩))
        refine And.intro ⟨by omega, by omega⟩ ?_
        intro x8 hx8 kx8 lx8
        refine And.intro ⟨by omega, by omega⟩ ?_
        intro m9 em9
        have z10 := zl0_t z7 (zl0_u em9 (Or.inl (by decide)) (Or.inl ⟨by decide, by decide⟩))
        refine And.intro ⟨by omega, by omega⟩ ?_
        intro x11 hx11 kx11 lx11
        refine And.intro ⟨by omega, by omega⟩ ?_
        intro m12 em12
        have z13 := zl0_t z10 (zl0_u em12 (Or.inl (by decide)) (Or.inl ⟨by decide, by decide⟩))
        refine And.intro ⟨by omega, by omega⟩ ?_
        intro x14 hx14
        intro m15 em15
        have z16 := zl0_t z13 (zl0_u em15 (by simp only [Nat.add_eq] at *; omega) (Or.inl ⟨(by simp only [Nat.add_eq] at *; omega), (by simp only [Nat.add_eq] at *; omega)⟩) (Or.inl (by simp only [Nat.add_eq] at *; omega)))
        exact And.intro rfl (hQ _ z16 (fun j hj hk => by rw [em15, zu_ne hk, em12, zu_ne hj, em9, zu_ne hj, em6, zu_ne hj]))
def zk_X5_opensArgs : zC := fun As μ Q => As = [.inr (.inr (1, 1))] ∧ (∀ (v : Int), 0 ≤ v → v ≤ 1 → Q (some (.inl v)) μ)
set_option maxHeartbeats 4000000 in
theorem zm_X5_opensArgs {g : zΓ} (hg : zg g) (d : Nat) (hd : 2 ≤ d) : zOk g d 78 zk_X5_opensArgs := by
  obtain ⟨d, rfl⟩ : ∃ d', d = d' + 1 := ⟨d - 1, by omega⟩
  refine zOk_straight hg (show mt_tab[78]? = some mt_X5_opensArgs from rfl) [] 22 rfl fun As μ Q hC => ?_
  obtain ⟨rfl, hQ⟩ := hC
  refine ⟨rfl, ?_⟩
  intro x1 hx1 kx1 lx1
  refine And.intro ⟨⟨by omega, by omega⟩, ⟨by omega, by omega⟩⟩ (And.intro (fun c2 => ?_) (fun c2 => ?_))
  · exact And.intro (zrtb (by omega)) (And.intro ⟨by omega, by omega⟩ (hQ _ (by omega) (by omega)))
  · intro x3 hx3 kx3 lx3
    refine ⟨zk_X8_at, zm_X8_at hg d (by omega), _, _, _, rfl, ⟨by omega, by omega⟩, ?_⟩
    intro x4 kx4 lx4 fx4 gx4
    refine And.intro ⟨⟨by omega, by omega⟩, ⟨by omega, by omega⟩⟩ (And.intro (fun c5 => ?_) (fun c5 => ?_))
    · exact And.intro (zrtb (by omega)) (And.intro ⟨by omega, by omega⟩ (hQ _ (by omega) (by omega)))
    · exact And.intro (zrtb (by omega)) (And.intro ⟨by omega, by omega⟩ (hQ _ (by omega) (by omega)))
def zk_X5_cut : zC := fun As μ Q => As = [.inr (.inr (1, 1))] ∧ (∀ (μ' : zM), zl0 μ μ' → (μ'.1 1 ((4 : Nat) : Int) = 0) → Q none μ')
set_option maxHeartbeats 4000000 in
theorem zm_X5_cut {g : zΓ} (hg : zg g) (d : Nat) (hd : 6 ≤ d) : zOk g d 72 zk_X5_cut := by
  obtain ⟨d, rfl⟩ : ∃ d', d = d' + 1 := ⟨d - 1, by omega⟩
  refine zOk_loop hg (show mt_tab[72]? = some mt_X5_cut from rfl) ([(4, [0, 1, 2])], []) 101 rfl fun As μ Q hC => ?_
  obtain ⟨rfl, hQ⟩ := hC
  have z0 : zl0 μ μ := zl0_r μ
  refine ⟨rfl, fun pc vs μ' n => ∃ (v1 : Int) (v2 : Int), vs = [.inr (.inr (1, 1)), .inl v1, .inl v2] ∧ zl0 μ μ' ∧ (0 ≤ v1 ∧ v1 ≤ 800) ∧ (0 ≤ v2 ∧ v2 ≤ 2147483647) ∧ n = (Int.toNat (2147483648 - v2)), ?_, ?_, trivial⟩
  · refine Exists.intro (Int.toNat (2147483648 - 0)) ?_
    exact ⟨_, _, rfl, z0, ⟨by omega, by omega⟩, ⟨by omega, by omega⟩, rfl⟩
  · intro vs m0 n hI
    clear z0
    obtain ⟨v1, v2, rfl, z0, hv1, hv2, rfl⟩ := hI
    intro x1 hx1 kx1 lx1
    refine And.intro ⟨⟨by omega, by omega⟩, ⟨by omega, by omega⟩⟩ (And.intro (fun c2 => ?_) (fun c2 => ?_))
    · intro x3 hx3 kx3 lx3
      refine And.intro ⟨by omega, by omega⟩ (And.intro ⟨by omega, by omega⟩ ?_)
      intro m4 em4
      have z5 := zl0_t z0 (zl0_u em4 (Or.inl (by decide)) (Or.inl ⟨by decide, by decide⟩))
      have : m4.1 1 ((4 : Nat) : Int) = m0.1 1 ((4 : Nat) : Int) := by rw [em4]; exact congrFun (zu_ne (show (1 : Nat) ≠ 4 by omega)) _
      refine And.intro ⟨by omega, by omega⟩ ?_
      intro m6 em6
      have z7 := zl0_t z5 (zl0_u em6 (by simp only [Nat.add_eq] at *; omega) (Or.inl ⟨(by simp only [Nat.add_eq] at *; omega), (by simp only [Nat.add_eq] at *; omega)⟩) (Or.inl (by simp only [Nat.add_eq] at *; omega)))
      have : m6.1 1 ((4 : Nat) : Int) = m4.1 1 ((4 : Nat) : Int) := by rw [em6]; exact congrFun (zu_ne (show (1 : Nat) ≠ Nat.add 3000000 5 from (by simp only [Nat.add_eq] at *; omega))) _
      refine And.intro ⟨by omega, by omega⟩ (And.intro ⟨by omega, by omega⟩ ?_)
      intro m8 em8
      have z9 := zl0_t z7 (zl0_u em8 (Or.inl (by decide)) (Or.inl ⟨by decide, by decide⟩))
      have : m8.1 1 ((4 : Nat) : Int) = m6.1 1 ((4 : Nat) : Int) := by rw [em8]; exact congrFun (zu_ne (show (1 : Nat) ≠ 3 by omega)) _
      refine And.intro ⟨by omega, by omega⟩ ?_
      intro m10 em10
      have z11 := zl0_t z9 (zl0_u em10 (Or.inl (by decide)) (Or.inl ⟨by decide, by decide⟩))
      have : m10.1 1 ((4 : Nat) : Int) = 0 := by rw [em10]; exact zu_at
      refine And.intro ⟨by omega, by omega⟩ ?_
      intro m12 em12
      have z13 := zl0_t z11 (zl0_u em12 (Or.inl (by decide)) (Or.inl ⟨by decide, by decide⟩))
      have : m12.1 1 ((4 : Nat) : Int) = m10.1 1 ((4 : Nat) : Int) := by rw [em12]; exact zu_nk (by decide)
      refine And.intro ⟨by omega, by omega⟩ ?_
      intro m14 em14
      have z15 := zl0_t z13 (zl0_u em14 (Or.inl (by decide)) (Or.inl ⟨by decide, by decide⟩))
      have : m14.1 1 ((4 : Nat) : Int) = m12.1 1 ((4 : Nat) : Int) := by rw [em14]; exact zu_nk (by decide)
      refine ⟨zk_X5_step, zm_X5_step hg d (by omega), rfl, ?_⟩
      intro m16 qm16 p17
      have z18 := zl0_t z15 qm16
      have : m16.1 1 ((4 : Nat) : Int) = m14.1 1 ((4 : Nat) : Int) ∨ m16.1 1 ((4 : Nat) : Int) = 0 := qm16.1.2.2.2.1
      exact And.intro rfl (hQ _ z18 (by omega))
    · refine And.intro ⟨⟨by omega, by omega⟩, ⟨by omega, by omega⟩⟩ (And.intro (fun c19 => ?_) (fun c19 => ?_))
      · exfalso; omega
      · refine And.intro ⟨⟨by omega, by omega⟩, ⟨by omega, by omega⟩⟩ (And.intro (fun c20 => ?_) (fun c20 => ?_))
        · intro x21 hx21 kx21 lx21
          refine And.intro ⟨by omega, by omega⟩ (And.intro ⟨by omega, by omega⟩ ?_)
          intro m22 em22
          have z23 := zl0_t z0 (zl0_u em22 (Or.inl (by decide)) (Or.inl ⟨by decide, by decide⟩))
          have : m22.1 1 ((4 : Nat) : Int) = m0.1 1 ((4 : Nat) : Int) := by rw [em22]; exact congrFun (zu_ne (show (1 : Nat) ≠ 4 by omega)) _
          refine And.intro ⟨by omega, by omega⟩ ?_
          intro m24 em24
          have z25 := zl0_t z23 (zl0_u em24 (by simp only [Nat.add_eq] at *; omega) (Or.inl ⟨(by simp only [Nat.add_eq] at *; omega), (by simp only [Nat.add_eq] at *; omega)⟩) (Or.inl (by simp only [Nat.add_eq] at *; omega)))
          have : m24.1 1 ((4 : Nat) : Int) = m22.1 1 ((4 : Nat) : Int) := by rw [em24]; exact congrFun (zu_ne (show (1 : Nat) ≠ Nat.add 3000000 5 from (by simp only [Nat.add_eq] at *; omega))) _
          refine And.intro ⟨by omega, by omega⟩ (And.intro ⟨by omega, by omega⟩ ?_)
          intro m26 em26
          have z27 := zl0_t z25 (zl0_u em26 (Or.inl (by decide)) (Or.inl ⟨by decide, by decide⟩))
          have : m26.1 1 ((4 : Nat) : Int) = m24.1 1 ((4 : Nat) : Int) := by rw [em26]; exact congrFun (zu_ne (show (1 : Nat) ≠ 3 by omega)) _
          refine And.intro ⟨by omega, by omega⟩ ?_
          intro m28 em28
          have z29 := zl0_t z27 (zl0_u em28 (Or.inl (by decide)) (Or.inl ⟨by decide, by decide⟩))
          have : m28.1 1 ((4 : Nat) : Int) = 0 := by rw [em28]; exact zu_at
          refine And.intro ⟨by omega, by omega⟩ ?_
          intro m30 em30
          have z31 := zl0_t z29 (zl0_u em30 (Or.inl (by decide)) (Or.inl ⟨by decide, by decide⟩))
          have : m30.1 1 ((4 : Nat) : Int) = m28.1 1 ((4 : Nat) : Int) := by rw [em30]; exact zu_nk (by decide)
          refine And.intro ⟨by omega, by omega⟩ ?_
          intro m32 em32
          have z33 := zl0_t z31 (zl0_u em32 (Or.inl (by decide)) (Or.inl ⟨by decide, by decide⟩))
          have : m32.1 1 ((4 : Nat) : Int) = m30.1 1 ((4 : Nat) : Int) := by rw [em32]; exact zu_nk (by decide)
          refine ⟨zk_X5_step, zm_X5_step hg d (by omega), rfl, ?_⟩
          intro m34 qm34 p35
          have z36 := zl0_t z33 qm34
          have : m34.1 1 ((4 : Nat) : Int) = m32.1 1 ((4 : Nat) : Int) ∨ m34.1 1 ((4 : Nat) : Int) = 0 := qm34.1.2.2.2.1
          exact And.intro rfl (hQ _ z36 (by omega))
        · refine And.intro ⟨by omega, by omega⟩ ?_
          intro x37 hx37 kx37 lx37
          refine And.intro ⟨⟨by omega, by omega⟩, ⟨by omega, by omega⟩⟩ (And.intro (fun c38 => ?_) (fun c38 => ?_))
          · refine Exists.intro (Int.toNat (2147483648 - (v2 + 1))) (And.intro (by omega) ?_)
            exact ⟨_, _, rfl, z0, ⟨by omega, by omega⟩, ⟨by omega, by omega⟩, rfl⟩
          · refine And.intro ⟨⟨by omega, by omega⟩, ⟨by omega, by omega⟩⟩ (And.intro (fun c39 => ?_) (fun c39 => ?_))
            · refine Exists.intro (Int.toNat (2147483648 - (v2 + 1))) (And.intro (by omega) ?_)
              exact ⟨_, _, rfl, z0, ⟨by omega, by omega⟩, ⟨by omega, by omega⟩, rfl⟩
            · refine ⟨zk_X5_nameSize, zm_X5_nameSize hg d (by omega), _, rfl, ⟨by omega, by omega⟩, ?_⟩
              intro x40 kx40 lx40
              refine ⟨zk_J9_max_7cf53, zm_J9_max_7cf53 hg d (by omega), _, _, rfl, ⟨by omega, by omega⟩, ⟨by omega, by omega⟩, ?_⟩
              intro x41 kx41 lx41 p42 p43 p44
              refine And.intro ⟨by omega, by omega⟩ (And.intro ⟨by omega, by omega⟩ ?_)
              intro m45 em45
              have z46 := zl0_t z0 (zl0_u em45 (Or.inl (by decide)) (Or.inl ⟨by decide, by decide⟩))
              have : m45.1 1 ((4 : Nat) : Int) = m0.1 1 ((4 : Nat) : Int) := by rw [em45]; exact congrFun (zu_ne (show (1 : Nat) ≠ 4 by omega)) _
              refine And.intro ⟨⟨by omega, by omega⟩, ⟨by omega, by omega⟩⟩ (And.intro (fun c47 => ?_) (fun c47 => ?_))
              · refine And.intro ⟨by omega, by omega⟩ ?_
                intro m48 em48
                have z49 := zl0_t z46 (zl0_u em48 (by simp only [Nat.add_eq] at *; omega) (Or.inl ⟨(by simp only [Nat.add_eq] at *; omega), (by simp only [Nat.add_eq] at *; omega)⟩) (Or.inl (by simp only [Nat.add_eq] at *; omega)))
                have : m48.1 1 ((4 : Nat) : Int) = m45.1 1 ((4 : Nat) : Int) := by rw [em48]; exact congrFun (zu_ne (show (1 : Nat) ≠ Nat.add 3000000 5 from (by simp only [Nat.add_eq] at *; omega))) _
                refine And.intro ⟨by omega, by omega⟩ ?_
                intro x50 hx50
                refine ⟨zk_X5_kindOf, zm_X5_kindOf hg d (by omega), _, _, _, rfl, ⟨by omega, by omega⟩, ⟨by omega, by omega⟩, ?_⟩
                intro x51 kx51 lx51
                refine And.intro ⟨by omega, by omega⟩ (And.intro ⟨by omega, by omega⟩ ?_)
                intro m52 em52
                have z53 := zl0_t z49 (zl0_u em52 (Or.inl (by decide)) (Or.inl ⟨by decide, by decide⟩))
                have : m52.1 1 ((4 : Nat) : Int) = m48.1 1 ((4 : Nat) : Int) := by rw [em52]; exact congrFun (zu_ne (show (1 : Nat) ≠ 3 by omega)) _
                refine Exists.intro (Int.toNat (2147483648 - (v2 + x41))) (And.intro (by omega) ?_)
                exact ⟨_, _, rfl, z53, ⟨by omega, by omega⟩, ⟨by omega, by omega⟩, rfl⟩
              · refine ⟨zk_X5_nameOf, zm_X5_nameOf hg d (by omega), _, _, rfl, ⟨by omega, by omega⟩, ⟨by omega, by omega⟩, ?_⟩
                intro j54
                refine And.intro ⟨by omega, by omega⟩ ?_
                intro m55 em55
                have z56 := zl0_t z46 (zl0_u em55 (by simp only [Nat.add_eq] at *; omega) (Or.inl ⟨(by simp only [Nat.add_eq] at *; omega), (by simp only [Nat.add_eq] at *; omega)⟩) (Or.inl (by simp only [Nat.add_eq] at *; omega)))
                have : m55.1 1 ((4 : Nat) : Int) = m45.1 1 ((4 : Nat) : Int) := by rw [em55]; exact congrFun (zu_ne (show (1 : Nat) ≠ Nat.add 3000000 5 from (by simp only [Nat.add_eq] at *; omega))) _
                refine And.intro ⟨by omega, by omega⟩ ?_
                intro x57 hx57
                refine ⟨zk_X5_kindOf, zm_X5_kindOf hg d (by omega), _, _, _, rfl, ⟨by omega, by omega⟩, ⟨by omega, by omega⟩, ?_⟩
                intro x58 kx58 lx58
                refine And.intro ⟨by omega, by omega⟩ (And.intro ⟨by omega, by omega⟩ ?_)
                intro m59 em59
                have z60 := zl0_t z56 (zl0_u em59 (Or.inl (by decide)) (Or.inl ⟨by decide, by decide⟩))
                have : m59.1 1 ((4 : Nat) : Int) = m55.1 1 ((4 : Nat) : Int) := by rw [em59]; exact congrFun (zu_ne (show (1 : Nat) ≠ 3 by omega)) _
                refine Exists.intro (Int.toNat (2147483648 - (v2 + x41))) (And.intro (by omega) ?_)
                exact ⟨_, _, rfl, z60, ⟨by omega, by omega⟩, ⟨by omega, by omega⟩, rfl⟩
def zk_X2_write : zC := fun As μ Q => ∃ (a1 : Int), As = [.inr (.inr (10, 10)), .inl a1] ∧ ((-2147483648) ≤ a1 ∧ a1 ≤ 2147483647) ∧ (∀ (μ' : zM), zl0 μ μ' → (μ'.1 1 ((4 : Nat) : Int) = μ.1 1 ((4 : Nat) : Int)) → Q none μ')
set_option maxHeartbeats 4000000 in
theorem zm_X2_write {g : zΓ} (hg : zg g) (d : Nat) (hd : 2 ≤ d) : zOk g d 35 zk_X2_write := by
  obtain ⟨d, rfl⟩ : ∃ d', d = d' + 1 := ⟨d - 1, by omega⟩
  refine zOk_straight hg (show mt_tab[35]? = some mt_X2_write from rfl) [] 22 rfl fun As μ Q hC => ?_
  obtain ⟨a1, rfl, ha1, hQ⟩ := hC
  refine ⟨rfl, ?_⟩
  have z0 : zl0 μ μ := zl0_r μ
  intro x1 hx1 kx1 lx1
  refine And.intro ⟨⟨by omega, by omega⟩, ⟨by omega, by omega⟩⟩ (And.intro (fun c2 => ?_) (fun c2 => ?_))
  · exact And.intro rfl (hQ _ z0 (by omega))
  · intro x3 hx3 kx3 lx3
    refine ⟨zk_X8_set, zm_X8_set hg d (by omega), _, _, _, _, rfl, ⟨by omega, by omega⟩, ?_⟩
    refine And.intro ⟨by omega, by omega⟩ ?_
    intro m4 qm4 fm4 gm4
    have z5 := zl0_t z0 ⟨qm4, gm4⟩
    have : m4.1 10 ((3 : Nat) : Int) = μ.1 10 ((3 : Nat) : Int) := congrFun (fm4 10 (show (10 : Nat) ≠ 11 by omega)) _
    have : m4.1 1 ((4 : Nat) : Int) = μ.1 1 ((4 : Nat) : Int) := congrFun (fm4 1 (show (1 : Nat) ≠ 11 by omega)) _
    intro x6 hx6 kx6 lx6
    refine And.intro ⟨by omega, by omega⟩ ?_
    intro m7 em7
    have z8 := zl0_t z5 (zl0_u em7 (Or.inl (by decide)) (Or.inl ⟨by decide, by decide⟩))
    have : m7.1 10 ((3 : Nat) : Int) = (x6 + 1) := by rw [em7]; exact zu_at
    have : m7.1 1 ((4 : Nat) : Int) = m4.1 1 ((4 : Nat) : Int) := by rw [em7]; exact congrFun (zu_ne (show (1 : Nat) ≠ 10 by omega)) _
    exact And.intro rfl (hQ _ z8 (by omega))
def zk_X2_writeName : zC := fun As μ Q => ∃ (a1 : Int64), As = [.inr (.inr (10, 10)), .inr (.inl a1)] ∧ (∀ (μ' : zM), zl0 μ μ' → (μ'.1 1 ((4 : Nat) : Int) = μ.1 1 ((4 : Nat) : Int)) → Q none μ')
set_option maxHeartbeats 4000000 in
theorem zm_X2_writeName {g : zΓ} (hg : zg g) (d : Nat) (hd : 3 ≤ d) : zOk g d 33 zk_X2_writeName := by
  obtain ⟨d, rfl⟩ : ∃ d', d = d' + 1 := ⟨d - 1, by omega⟩
  refine zOk_loop hg (show mt_tab[33]? = some mt_X2_writeName from rfl) ([(3, [0, 1, 3])], []) 26 rfl fun As μ Q hC => ?_
  obtain ⟨a1, rfl, hQ⟩ := hC
  have z0 : zl0 μ μ := zl0_r μ
  refine ⟨rfl, fun pc vs μ' n => ∃ (v1 : Int64) (v3 : Int), vs = [.inr (.inr (10, 10)), .inr (.inl v1), .inl v3] ∧ zl0 μ μ' ∧ ((-1) ≤ v3 ∧ v3 ≤ 7) ∧ (μ'.1 1 ((4 : Nat) : Int) = μ.1 1 ((4 : Nat) : Int)) ∧ n = (Int.toNat (v3 + 1)), ?_, ?_, trivial⟩
  · refine Exists.intro (Int.toNat (7 + 1)) ?_
    exact ⟨_, _, rfl, z0, ⟨by omega, by omega⟩, (by omega), rfl⟩
  · intro vs m0 n hI
    clear z0
    obtain ⟨v1, v3, rfl, z0, hv3, i0, rfl⟩ := hI
    refine And.intro ⟨by omega, by omega⟩ (And.intro (fun c1 => ?_) (fun c1 => ?_))
    · exact And.intro rfl (hQ _ z0 (by omega))
    · intro x2 hx2 kx2 lx2
      intro x3 hx3 kx3 lx3
      refine And.intro ⟨by omega, by omega⟩ (And.intro (fun c4 => ?_) (fun c4 => ?_))
      · refine Exists.intro (Int.toNat ((v3 + (-1)) + 1)) (And.intro (by omega) ?_)
        exact ⟨_, _, rfl, z0, ⟨by omega, by omega⟩, (by omega), rfl⟩
      · refine ⟨zk_X2_write, zm_X2_write hg d (by omega), _, rfl, ⟨by omega, by omega⟩, ?_⟩
        intro m5 qm5 p6
        have z7 := zl0_t z0 qm5
        have : m5.1 1 ((4 : Nat) : Int) = m0.1 1 ((4 : Nat) : Int) := p6
        refine Exists.intro (Int.toNat ((v3 + (-1)) + 1)) (And.intro (by omega) ?_)
        exact ⟨_, _, rfl, z7, ⟨by omega, by omega⟩, (by omega), rfl⟩
def zk_X2_writeNumber : zC := fun As μ Q => ∃ (a1 : Int), As = [.inr (.inr (10, 10)), .inl a1] ∧ ((-2147483648) ≤ a1 ∧ a1 ≤ 2147483647) ∧ (∀ (μ' : zM), zl0 μ μ' → (μ'.1 1 ((4 : Nat) : Int) = μ.1 1 ((4 : Nat) : Int)) → Q none μ')
set_option maxHeartbeats 4000000 in
theorem zm_X2_writeNumber {g : zΓ} (hg : zg g) (d : Nat) (hd : 3 ≤ d) : zOk g d 34 zk_X2_writeNumber := by
  obtain ⟨d, rfl⟩ : ∃ d', d = d' + 1 := ⟨d - 1, by omega⟩
  refine zOk_straight hg (show mt_tab[34]? = some mt_X2_writeNumber from rfl) [13, 33, 44] 35 rfl fun As μ Q hC => ?_
  obtain ⟨a1, rfl, ha1, hQ⟩ := hC
  refine ⟨rfl, ?_⟩
  have z0 : zl0 μ μ := zl0_r μ
  refine And.intro ⟨⟨by omega, by omega⟩, ⟨by omega, by omega⟩⟩ (And.intro (fun c1 => ?_) (fun c1 => ?_))
  · refine And.intro ⟨⟨by omega, by omega⟩, ⟨by omega, by omega⟩⟩ (And.intro (fun c2 => ?_) (fun c2 => ?_))
    · refine And.intro ⟨⟨by omega, by omega⟩, by omega⟩ ?_
      intro x3 hx3 kx3 lx3
      intro x4 hx4 kx4 lx4
      refine ⟨zk_X2_write, zm_X2_write hg d (by omega), _, rfl, ⟨by omega, by omega⟩, ?_⟩
      intro m5 qm5 p6
      have z7 := zl0_t z0 qm5
      have : m5.1 1 ((4 : Nat) : Int) = μ.1 1 ((4 : Nat) : Int) := p6
      exact And.intro rfl (hQ _ z7 (by omega))
    · refine And.intro ⟨⟨by omega, by omega⟩, by omega⟩ ?_
      intro x8 hx8 kx8 lx8
      refine And.intro ⟨⟨by omega, by omega⟩, by omega⟩ ?_
      intro x9 hx9 kx9 lx9
      intro x10 hx10 kx10 lx10
      refine ⟨zk_X2_write, zm_X2_write hg d (by omega), _, rfl, ⟨by omega, by omega⟩, ?_⟩
      intro m11 qm11 p12
      have z13 := zl0_t z0 qm11
      have : m11.1 1 ((4 : Nat) : Int) = μ.1 1 ((4 : Nat) : Int) := p12
      refine And.intro ⟨⟨by omega, by omega⟩, by omega⟩ ?_
      intro x14 hx14 kx14 lx14
      intro x15 hx15 kx15 lx15
      refine ⟨zk_X2_write, zm_X2_write hg d (by omega), _, rfl, ⟨by omega, by omega⟩, ?_⟩
      intro m16 qm16 p17
      have z18 := zl0_t z13 qm16
      have : m16.1 1 ((4 : Nat) : Int) = m11.1 1 ((4 : Nat) : Int) := p17
      exact And.intro rfl (hQ _ z18 (by omega))
  · refine And.intro ⟨⟨by omega, by omega⟩, by omega⟩ ?_
    intro x19 hx19 kx19 lx19
    intro x20 hx20 kx20 lx20
    refine ⟨zk_X2_write, zm_X2_write hg d (by omega), _, rfl, ⟨by omega, by omega⟩, ?_⟩
    intro m21 qm21 p22
    have z23 := zl0_t z0 qm21
    have : m21.1 1 ((4 : Nat) : Int) = μ.1 1 ((4 : Nat) : Int) := p22
    refine And.intro ⟨⟨by omega, by omega⟩, ⟨by omega, by omega⟩⟩ (And.intro (fun c24 => ?_) (fun c24 => ?_))
    · exfalso; omega
    · refine And.intro ⟨⟨by omega, by omega⟩, by omega⟩ ?_
      intro x25 hx25 kx25 lx25
      refine And.intro ⟨⟨by omega, by omega⟩, by omega⟩ ?_
      intro x26 hx26 kx26 lx26
      intro x27 hx27 kx27 lx27
      refine ⟨zk_X2_write, zm_X2_write hg d (by omega), _, rfl, ⟨by omega, by omega⟩, ?_⟩
      intro m28 qm28 p29
      have z30 := zl0_t z23 qm28
      have : m28.1 1 ((4 : Nat) : Int) = m21.1 1 ((4 : Nat) : Int) := p29
      refine And.intro ⟨⟨by omega, by omega⟩, by omega⟩ ?_
      intro x31 hx31 kx31 lx31
      intro x32 hx32 kx32 lx32
      refine ⟨zk_X2_write, zm_X2_write hg d (by omega), _, rfl, ⟨by omega, by omega⟩, ?_⟩
      intro m33 qm33 p34
      have z35 := zl0_t z30 qm33
      have : m33.1 1 ((4 : Nat) : Int) = m28.1 1 ((4 : Nat) : Int) := p34
      exact And.intro rfl (hQ _ z35 (by omega))
def zk_X2_writeHead : zC := fun As μ Q => ∃ (a1 : Nat) (a2 : Int), As = [.inr (.inr (10, 10)), .inr (.inr (a1, 14)), .inl a2] ∧ (a1 = 14 ∨ a1 = 32) ∧ ((-2147483648) ≤ a2 ∧ a2 ≤ 2147483647) ∧ (∀ (μ' : zM), zl0 μ μ' → (μ'.1 1 ((4 : Nat) : Int) = μ.1 1 ((4 : Nat) : Int)) → Q none μ')
set_option maxHeartbeats 4000000 in
theorem zm_X2_writeHead {g : zΓ} (hg : zg g) (d : Nat) (hd : 4 ≤ d) : zOk g d 32 zk_X2_writeHead := by
  obtain ⟨d, rfl⟩ : ∃ d', d = d' + 1 := ⟨d - 1, by omega⟩
  refine zOk_straight hg (show mt_tab[32]? = some mt_X2_writeHead from rfl) [81] 54 rfl fun As μ Q hC => ?_
  obtain ⟨a1, a2, rfl, ha1, ha2, hQ⟩ := hC
  refine ⟨rfl, ?_⟩
  have z0 : zl0 μ μ := zl0_r μ
  refine ⟨zk_X8_isWild, zm_X8_isWild hg d (by omega), _, rfl, ⟨by omega, by omega⟩, ?_⟩
  intro x1 kx1 lx1
  refine And.intro ⟨by omega, by omega⟩ (And.intro (fun c2 => ?_) (fun c2 => ?_))
  · refine And.intro ⟨⟨by omega, by omega⟩, ⟨by omega, by omega⟩⟩ (And.intro (fun c3 => ?_) (fun c3 => ?_))
    · refine ⟨zk_X8_isParameter, zm_X8_isParameter hg d (by omega), _, rfl, ⟨by omega, by omega⟩, ?_⟩
      intro x4 kx4 lx4
      refine And.intro ⟨by omega, by omega⟩ (And.intro (fun c5 => ?_) (fun c5 => ?_))
      · refine And.intro ha1 ?_
        refine ⟨zk_X8_nameAt, zm_X8_nameAt hg d (by omega), _, _, _, rfl, ⟨by omega, by omega⟩, by decide, (zfa (o := 1) (y2 := 15) ha1 rfl), ?_⟩
        intro j6 hj6
        refine ⟨zk_X2_writeName, zm_X2_writeName hg d (by omega), _, rfl, ?_⟩
        intro m7 qm7 p8
        have z9 := zl0_t z0 qm7
        have : m7.1 1 ((4 : Nat) : Int) = μ.1 1 ((4 : Nat) : Int) := p8
        exact And.intro rfl (hQ _ z9 (by omega))
      · refine And.intro ha1 ?_
        intro x10 hx10 kx10 lx10
        refine ⟨zk_X8_nameAt, zm_X8_nameAt hg d (by omega), _, _, _, rfl, ⟨by omega, by omega⟩, by decide, (zfa (o := 6) (y2 := 20) ha1 rfl), ?_⟩
        intro j11 hj11
        refine ⟨zk_X2_writeName, zm_X2_writeName hg d (by omega), _, rfl, ?_⟩
        intro m12 qm12 p13
        have z14 := zl0_t z0 qm12
        have : m12.1 1 ((4 : Nat) : Int) = μ.1 1 ((4 : Nat) : Int) := p13
        exact And.intro rfl (hQ _ z14 (by omega))
    · refine ⟨zk_X2_write, zm_X2_write hg d (by omega), _, rfl, ⟨by omega, by omega⟩, ?_⟩
      intro m15 qm15 p16
      have z17 := zl0_t z0 qm15
      have : m15.1 1 ((4 : Nat) : Int) = μ.1 1 ((4 : Nat) : Int) := p16
      refine ⟨zk_X2_writeNumber, zm_X2_writeNumber hg d (by omega), _, rfl, ⟨by omega, by omega⟩, ?_⟩
      intro m18 qm18 p19
      have z20 := zl0_t z17 qm18
      have : m18.1 1 ((4 : Nat) : Int) = m15.1 1 ((4 : Nat) : Int) := p19
      exact And.intro rfl (hQ _ z20 (by omega))
  · refine ⟨zk_X2_write, zm_X2_write hg d (by omega), _, rfl, ⟨by omega, by omega⟩, ?_⟩
    intro m21 qm21 p22
    have z23 := zl0_t z0 qm21
    have : m21.1 1 ((4 : Nat) : Int) = μ.1 1 ((4 : Nat) : Int) := p22
    refine And.intro ⟨⟨by omega, by omega⟩, ⟨by omega, by omega⟩⟩ (And.intro (fun c24 => ?_) (fun c24 => ?_))
    · exact And.intro rfl (hQ _ z23 (by omega))
    · refine And.intro ⟨⟨by omega, by omega⟩, ⟨by omega, by omega⟩⟩ (And.intro (fun c25 => ?_) (fun c25 => ?_))
      · refine ⟨zk_X2_write, zm_X2_write hg d (by omega), _, rfl, ⟨by omega, by omega⟩, ?_⟩
        intro m26 qm26 p27
        have z28 := zl0_t z23 qm26
        have : m26.1 1 ((4 : Nat) : Int) = m21.1 1 ((4 : Nat) : Int) := p27
        exact And.intro rfl (hQ _ z28 (by omega))
      · refine ⟨zk_X2_write, zm_X2_write hg d (by omega), _, rfl, ⟨by omega, by omega⟩, ?_⟩
        intro m29 qm29 p30
        have z31 := zl0_t z23 qm29
        have : m29.1 1 ((4 : Nat) : Int) = m21.1 1 ((4 : Nat) : Int) := p30
        exact And.intro rfl (hQ _ z31 (by omega))
def zk_X2_openType : zC := fun As μ Q => ∃ (a2 : Nat) (a3 : Int), As = [.inr (.inr (10, 10)), .inr (.inr (59, 59)), .inr (.inr (a2, 14)), .inl a3] ∧ (a2 = 14 ∨ a2 = 32) ∧ ((-2147483648) ≤ a3 ∧ a3 ≤ 2147483647) ∧ (∀ (μ' : zM), zl0 μ μ' → (μ'.1 1 ((4 : Nat) : Int) = μ.1 1 ((4 : Nat) : Int)) → Q none μ')
set_option maxHeartbeats 4000000 in
theorem zm_X2_openType {g : zΓ} (hg : zg g) (d : Nat) (hd : 5 ≤ d) : zOk g d 31 zk_X2_openType := by
  obtain ⟨d, rfl⟩ : ∃ d', d = d' + 1 := ⟨d - 1, by omega⟩
  refine zOk_straight hg (show mt_tab[31]? = some mt_X2_openType from rfl) [] 38 rfl fun As μ Q hC => ?_
  obtain ⟨a2, a3, rfl, ha2, ha3, hQ⟩ := hC
  refine ⟨rfl, ?_⟩
  have z0 : zl0 μ μ := zl0_r μ
  refine ⟨zk_X6_head, zm_X6_head hg d (by omega), _, rfl, ⟨by omega, by omega⟩, ?_⟩
  intro x1 kx1 lx1
  refine ⟨zk_X2_writeHead, zm_X2_writeHead hg d (by omega), _, _, rfl, ha2, ⟨by omega, by omega⟩, ?_⟩
  intro m2 qm2 p3
  have z4 := zl0_t z0 qm2
  have : m2.1 1 ((4 : Nat) : Int) = μ.1 1 ((4 : Nat) : Int) := p3
  refine ⟨zk_X6_partsOf, zm_X6_partsOf hg d (by omega), _, rfl, ⟨by omega, by omega⟩, ?_⟩
  intro x5 kx5 lx5
  refine And.intro ⟨by omega, by omega⟩ (And.intro (fun c6 => ?_) (fun c6 => ?_))
  · exact And.intro rfl (hQ _ z4 (by omega))
  · intro x7 hx7 kx7 lx7
    refine And.intro ⟨⟨by omega, by omega⟩, ⟨by omega, by omega⟩⟩ (And.intro (fun c8 => ?_) (fun c8 => ?_))
    · exact And.intro rfl (hQ _ z4 (by omega))
    · intro x9 hx9 kx9 lx9
      refine ⟨zk_X8_set, zm_X8_set hg d (by omega), _, _, _, _, rfl, ⟨by omega, by omega⟩, ?_⟩
      refine And.intro ⟨by omega, by omega⟩ ?_
      intro m10 qm10 fm10 gm10
      have z11 := zl0_t z4 ⟨qm10, gm10⟩
      have : m10.1 10 ((4 : Nat) : Int) = m2.1 10 ((4 : Nat) : Int) := congrFun (fm10 10 (show (10 : Nat) ≠ 12 by omega)) _
      have : m10.1 1 ((4 : Nat) : Int) = m2.1 1 ((4 : Nat) : Int) := congrFun (fm10 1 (show (1 : Nat) ≠ 12 by omega)) _
      intro x12 hx12 kx12 lx12
      refine ⟨zk_X8_set, zm_X8_set hg d (by omega), _, _, _, _, rfl, ⟨by omega, by omega⟩, ?_⟩
      refine And.intro ⟨by omega, by omega⟩ ?_
      intro m13 qm13 fm13 gm13
      have z14 := zl0_t z11 ⟨qm13, gm13⟩
      have : m13.1 10 ((4 : Nat) : Int) = m10.1 10 ((4 : Nat) : Int) := congrFun (fm13 10 (show (10 : Nat) ≠ 13 by omega)) _
      have : m13.1 1 ((4 : Nat) : Int) = m10.1 1 ((4 : Nat) : Int) := congrFun (fm13 1 (show (1 : Nat) ≠ 13 by omega)) _
      intro x15 hx15 kx15 lx15
      refine And.intro ⟨by omega, by omega⟩ ?_
      intro m16 em16
      have z17 := zl0_t z14 (zl0_u em16 (Or.inl (by decide)) (Or.inl ⟨by decide, by decide⟩))
      have : m16.1 10 ((4 : Nat) : Int) = (x15 + 1) := by rw [em16]; exact zu_at
      have : m16.1 1 ((4 : Nat) : Int) = m13.1 1 ((4 : Nat) : Int) := by rw [em16]; exact congrFun (zu_ne (show (1 : Nat) ≠ 10 by omega)) _
      exact And.intro rfl (hQ _ z17 (by omega))
def zk_X2_writeType : zC := fun As μ Q => ∃ (a2 : Nat) (a3 : Int), As = [.inr (.inr (10, 10)), .inr (.inr (59, 59)), .inr (.inr (a2, 14)), .inl a3] ∧ (a2 = 14 ∨ a2 = 32) ∧ ((-2147483648) ≤ a3 ∧ a3 ≤ 2147483647) ∧ (∀ (v : Int) (μ' : zM), zl0 μ μ' → (-2147483648) ≤ v → v ≤ 2147483647 → (μ'.1 1 ((4 : Nat) : Int) = μ.1 1 ((4 : Nat) : Int)) → Q (some (.inl v)) μ')
set_option maxHeartbeats 4000000 in
theorem zm_X2_writeType {g : zΓ} (hg : zg g) (d : Nat) (hd : 6 ≤ d) : zOk g d 30 zk_X2_writeType := by
  obtain ⟨d, rfl⟩ : ∃ d', d = d' + 1 := ⟨d - 1, by omega⟩
  refine zOk_loop hg (show mt_tab[30]? = some mt_X2_writeType from rfl) ([(20, [0, 1, 2, 4])], []) 98 rfl fun As μ Q hC => ?_
  obtain ⟨a2, a3, rfl, ha2, ha3, hQ⟩ := hC
  have z0 : zl0 μ μ := zl0_r μ
  refine ⟨rfl, fun pc vs μ' n => ∃ (v4 : Int), vs = [.inr (.inr (10, 10)), .inr (.inr (59, 59)), .inr (.inr (a2, 14)), .inl v4] ∧ zl0 μ μ' ∧ (0 ≤ v4 ∧ v4 ≤ 2147483647) ∧ (μ'.1 1 ((4 : Nat) : Int) = μ.1 1 ((4 : Nat) : Int)) ∧ n = (Int.toNat (2147483648 - v4)), ?_, ?_, trivial⟩
  · refine And.intro ⟨by omega, by omega⟩ ?_
    intro m1 em1
    have z2 := zl0_t z0 (zl0_u em1 (Or.inl (by decide)) (Or.inl ⟨by decide, by decide⟩))
    have : m1.1 1 ((4 : Nat) : Int) = μ.1 1 ((4 : Nat) : Int) := by rw [em1]; exact congrFun (zu_ne (show (1 : Nat) ≠ 10 by omega)) _
    refine And.intro ⟨by omega, by omega⟩ ?_
    intro m3 em3
    have z4 := zl0_t z2 (zl0_u em3 (Or.inl (by decide)) (Or.inl ⟨by decide, by decide⟩))
    have : m3.1 1 ((4 : Nat) : Int) = m1.1 1 ((4 : Nat) : Int) := by rw [em3]; exact congrFun (zu_ne (show (1 : Nat) ≠ 10 by omega)) _
    refine ⟨zk_X2_openType, zm_X2_openType hg d (by omega), _, _, rfl, ha2, ⟨by omega, by omega⟩, ?_⟩
    intro m5 qm5 p6
    have z7 := zl0_t z4 qm5
    have : m5.1 1 ((4 : Nat) : Int) = m3.1 1 ((4 : Nat) : Int) := p6
    refine Exists.intro (Int.toNat (2147483648 - 0)) ?_
    exact ⟨_, rfl, z7, ⟨by omega, by omega⟩, (by omega), rfl⟩
  · intro vs m0 n hI
    clear z0
    obtain ⟨v4, rfl, z0, hv4, i0, rfl⟩ := hI
    refine And.intro ⟨⟨by omega, by omega⟩, ⟨by omega, by omega⟩⟩ (And.intro (fun c8 => ?_) (fun c8 => ?_))
    · intro x9 hx9 kx9 lx9
      exact And.intro trivial (And.intro ⟨by omega, by omega⟩ (hQ _ _ z0 (by omega) (by omega) (by omega)))
    · intro x10 hx10 kx10 lx10
      refine And.intro ⟨by omega, by omega⟩ (And.intro (fun c11 => ?_) (fun c11 => ?_))
      · intro x12 hx12 kx12 lx12
        exact And.intro trivial (And.intro ⟨by omega, by omega⟩ (hQ _ _ z0 (by omega) (by omega) (by omega)))
      · intro x13 hx13 kx13 lx13
        refine And.intro ⟨⟨by omega, by omega⟩, ⟨by omega, by omega⟩⟩ (And.intro (fun c14 => ?_) (fun c14 => ?_))
        · intro x15 hx15 kx15 lx15
          exact And.intro trivial (And.intro ⟨by omega, by omega⟩ (hQ _ _ z0 (by omega) (by omega) (by omega)))
        · intro x16 hx16 kx16 lx16
          refine ⟨zk_X8_at, zm_X8_at hg d (by omega), _, _, _, rfl, ⟨by omega, by omega⟩, ?_⟩
          intro x17 kx17 lx17 fx17 gx17
          intro x18 hx18 kx18 lx18
          refine ⟨zk_X8_at, zm_X8_at hg d (by omega), _, _, _, rfl, ⟨by omega, by omega⟩, ?_⟩
          intro x19 kx19 lx19 fx19 gx19
          refine ⟨zk_X6_head, zm_X6_head hg d (by omega), _, rfl, ⟨by omega, by omega⟩, ?_⟩
          intro x20 kx20 lx20
          refine ⟨zk_X8_isClass, zm_X8_isClass hg d (by omega), _, rfl, ⟨by omega, by omega⟩, ?_⟩
          intro x21 kx21 lx21
          refine ⟨zk_X6_partsOf, zm_X6_partsOf hg d (by omega), _, rfl, ⟨by omega, by omega⟩, ?_⟩
          intro x22 kx22 lx22
          refine And.intro ⟨⟨by omega, by omega⟩, ⟨by omega, by omega⟩⟩ (And.intro (fun c23 => ?_) (fun c23 => ?_))
          · intro x24 hx24 kx24 lx24
            refine ⟨zk_X8_set, zm_X8_set hg d (by omega), _, _, _, _, rfl, ⟨by omega, by omega⟩, ?_⟩
            refine And.intro ⟨by omega, by omega⟩ ?_
            intro m25 qm25 fm25 gm25
            have z26 := zl0_t z0 ⟨qm25, gm25⟩
            have : m25.1 1 ((4 : Nat) : Int) = m0.1 1 ((4 : Nat) : Int) := congrFun (fm25 1 (show (1 : Nat) ≠ 13 by omega)) _
            refine And.intro ⟨by omega, by omega⟩ (And.intro (fun c27 => ?_) (fun c27 => ?_))
            · refine ⟨zk_X6_part, zm_X6_part hg d (by omega), _, _, rfl, ⟨by omega, by omega⟩, ⟨by omega, by omega⟩, ?_⟩
              intro x28 kx28 lx28
              refine ⟨zk_X2_openType, zm_X2_openType hg d (by omega), _, _, rfl, ha2, ⟨by omega, by omega⟩, ?_⟩
              intro m29 qm29 p30
              have z31 := zl0_t z26 qm29
              have : m29.1 1 ((4 : Nat) : Int) = m25.1 1 ((4 : Nat) : Int) := p30
              refine Exists.intro (Int.toNat (2147483648 - (v4 + 1))) (And.intro (by omega) ?_)
              exact ⟨_, rfl, z31, ⟨by omega, by omega⟩, (by omega), rfl⟩
            · refine And.intro ⟨by omega, by omega⟩ (And.intro (fun c32 => ?_) (fun c32 => ?_))
              · refine ⟨zk_X2_write, zm_X2_write hg d (by omega), _, rfl, ⟨by omega, by omega⟩, ?_⟩
                intro m33 qm33 p34
                have z35 := zl0_t z26 qm33
                have : m33.1 1 ((4 : Nat) : Int) = m25.1 1 ((4 : Nat) : Int) := p34
                refine ⟨zk_X6_part, zm_X6_part hg d (by omega), _, _, rfl, ⟨by omega, by omega⟩, ⟨by omega, by omega⟩, ?_⟩
                intro x36 kx36 lx36
                refine ⟨zk_X2_openType, zm_X2_openType hg d (by omega), _, _, rfl, ha2, ⟨by omega, by omega⟩, ?_⟩
                intro m37 qm37 p38
                have z39 := zl0_t z35 qm37
                have : m37.1 1 ((4 : Nat) : Int) = m33.1 1 ((4 : Nat) : Int) := p38
                refine Exists.intro (Int.toNat (2147483648 - (v4 + 1))) (And.intro (by omega) ?_)
                exact ⟨_, rfl, z39, ⟨by omega, by omega⟩, (by omega), rfl⟩
              · refine ⟨zk_X2_write, zm_X2_write hg d (by omega), _, rfl, ⟨by omega, by omega⟩, ?_⟩
                intro m40 qm40 p41
                have z42 := zl0_t z26 qm40
                have : m40.1 1 ((4 : Nat) : Int) = m25.1 1 ((4 : Nat) : Int) := p41
                refine ⟨zk_X6_part, zm_X6_part hg d (by omega), _, _, rfl, ⟨by omega, by omega⟩, ⟨by omega, by omega⟩, ?_⟩
                intro x43 kx43 lx43
                refine ⟨zk_X2_openType, zm_X2_openType hg d (by omega), _, _, rfl, ha2, ⟨by omega, by omega⟩, ?_⟩
                intro m44 qm44 p45
                have z46 := zl0_t z42 qm44
                have : m44.1 1 ((4 : Nat) : Int) = m40.1 1 ((4 : Nat) : Int) := p45
                refine Exists.intro (Int.toNat (2147483648 - (v4 + 1))) (And.intro (by omega) ?_)
                exact ⟨_, rfl, z46, ⟨by omega, by omega⟩, (by omega), rfl⟩
          · intro x47 hx47 kx47 lx47
            refine And.intro ⟨by omega, by omega⟩ ?_
            intro m48 em48
            have z49 := zl0_t z0 (zl0_u em48 (Or.inl (by decide)) (Or.inl ⟨by decide, by decide⟩))
            have : m48.1 1 ((4 : Nat) : Int) = m0.1 1 ((4 : Nat) : Int) := by rw [em48]; exact congrFun (zu_ne (show (1 : Nat) ≠ 10 by omega)) _
            refine And.intro ⟨by omega, by omega⟩ (And.intro (fun c50 => ?_) (fun c50 => ?_))
            · refine Exists.intro (Int.toNat (2147483648 - (v4 + 1))) (And.intro (by omega) ?_)
              exact ⟨_, rfl, z49, ⟨by omega, by omega⟩, (by omega), rfl⟩
            · refine ⟨zk_X2_write, zm_X2_write hg d (by omega), _, rfl, ⟨by omega, by omega⟩, ?_⟩
              intro m51 qm51 p52
              have z53 := zl0_t z49 qm51
              have : m51.1 1 ((4 : Nat) : Int) = m48.1 1 ((4 : Nat) : Int) := p52
              refine Exists.intro (Int.toNat (2147483648 - (v4 + 1))) (And.intro (by omega) ?_)
              exact ⟨_, rfl, z53, ⟨by omega, by omega⟩, (by omega), rfl⟩
def zk_X6_startOver : zC := fun As μ Q => ∃ (a1 : Nat), As = [.inr (.inr (59, 59)), .inr (.inr (a1, 14))] ∧ (a1 = 14 ∨ a1 = 32) ∧ (∀ (μ' : zM), zl0 μ μ' → Q none μ')
set_option maxHeartbeats 4000000 in
theorem zm_X6_startOver {g : zΓ} (hg : zg g) (d : Nat) (hd : 2 ≤ d) : zOk g d 81 zk_X6_startOver := by
  obtain ⟨d, rfl⟩ : ∃ d', d = d' + 1 := ⟨d - 1, by omega⟩
  refine zOk_straight hg (show mt_tab[81]? = some mt_X6_startOver from rfl) [] 19 rfl fun As μ Q hC => ?_
  obtain ⟨a1, rfl, ha1, hQ⟩ := hC
  refine ⟨rfl, ?_⟩
  have z0 : zl0 μ μ := zl0_r μ
  refine And.intro ⟨ha1, trivial⟩ ?_
  intro m1 em1
  have z2 := zl0_t z0 (zl0_u em1 (Or.inl (by decide)) (Or.inl ⟨by decide, by decide⟩))
  refine And.intro ⟨by omega, by omega⟩ ?_
  intro m3 em3
  have z4 := zl0_t z2 (zl0_u em3 (Or.inl (by decide)) (Or.inl ⟨by decide, by decide⟩))
  refine And.intro ⟨by omega, by omega⟩ ?_
  intro m5 em5
  have z6 := zl0_t z4 (zl0_u em5 (Or.inl (by decide)) (Or.inl ⟨by decide, by decide⟩))
  refine ⟨_, zOk_tag (zm_J7_fill_53178 hg d (by omega)), [.inr (.inr (64, 1001)), .inl (-1)], rfl, _, _, rfl, (Or.inr ⟨by decide, by decide⟩), ⟨by omega, by omega⟩, (show _ ∧ _ from ⟨by omega, by omega⟩), (by decide), ?_⟩
  intro m7 qm7
  have z8 := zl0_t z6 qm7
  exact And.intro rfl (hQ _ z8)
def zk_X6_hasParts : zC := fun As μ Q => ∃ (a1 : Int) (a2 : Int) (a3 : Int), As = [.inr (.inr (59, 59)), .inl a1, .inl a2, .inl a3] ∧ ((-2147483648) ≤ a1 ∧ a1 ≤ 2147483647) ∧ ((-100000) ≤ a2 ∧ a2 ≤ 300000) ∧ (0 ≤ a3 ∧ a3 ≤ 4) ∧ (∀ (v : Int), 0 ≤ v → v ≤ 1 → Q (some (.inl v)) μ)
set_option maxHeartbeats 4000000 in
theorem zm_X6_hasParts {g : zΓ} (hg : zg g) (d : Nat) (hd : 1 ≤ d) : zOk g d 88 zk_X6_hasParts := by
  obtain ⟨d, rfl⟩ : ∃ d', d = d' + 1 := ⟨d - 1, by omega⟩
  refine zOk_loop hg (show mt_tab[88]? = some mt_X6_hasParts from rfl) ([(66, [0, 2, 3, 4, 5])], []) 61 rfl fun As μ Q hC => ?_
  obtain ⟨a1, a2, a3, rfl, ha1, ha2, ha3, hQ⟩ := hC
  refine ⟨rfl, fun pc vs μ' n => ∃ (v2 : Int) (v3 : Int) (v4 : Int) (v5 : Int), vs = [.inr (.inr (59, 59)), .inl v2, .inl v3, .inl v4, .inl v5] ∧ μ' = μ ∧ (0 ≤ v2 ∧ v2 ≤ 300) ∧ (0 ≤ v3 ∧ v3 ≤ 4) ∧ (0 ≤ v4 ∧ v4 ≤ 7000) ∧ (0 ≤ v5 ∧ v5 ≤ 2147483647) ∧ (v2 + v3 ≤ 300) ∧ (v4 + v3 ≤ 7000) ∧ n = (Int.toNat (2147483648 - v5)), ?_, ?_, trivial⟩
  · refine And.intro ⟨by omega, by omega⟩ (And.intro (fun c1 => ?_) (fun c1 => ?_))
    · refine And.intro ⟨by omega, by omega⟩ (And.intro (fun c2 => ?_) (fun c2 => ?_))
      · refine And.intro ⟨by omega, by omega⟩ (And.intro (fun c3 => ?_) (fun c3 => ?_))
        · exact And.intro (zrtb (by omega)) (And.intro ⟨by omega, by omega⟩ (hQ _ (by omega) (by omega)))
        · exact And.intro (zrtb (by omega)) (And.intro ⟨by omega, by omega⟩ (hQ _ (by omega) (by omega)))
      · refine And.intro ⟨by omega, by omega⟩ (And.intro (fun c4 => ?_) (fun c4 => ?_))
        · exfalso; omega
        · refine And.intro ⟨⟨by omega, by omega⟩, ⟨by omega, by omega⟩⟩ (And.intro (fun c5 => ?_) (fun c5 => ?_))
          · refine And.intro ⟨by omega, by omega⟩ (And.intro (fun c6 => ?_) (fun c6 => ?_))
            · exact And.intro (zrtb (by omega)) (And.intro ⟨by omega, by omega⟩ (hQ _ (by omega) (by omega)))
            · exact And.intro (zrtb (by omega)) (And.intro ⟨by omega, by omega⟩ (hQ _ (by omega) (by omega)))
          · refine And.intro ⟨⟨by omega, by omega⟩, ⟨by omega, by omega⟩⟩ (And.intro (fun c7 => ?_) (fun c7 => ?_))
            · refine Exists.intro (Int.toNat (2147483648 - 0)) ?_
              exact ⟨_, _, _, _, rfl, rfl, ⟨by omega, by omega⟩, ⟨by omega, by omega⟩, ⟨by omega, by omega⟩, ⟨by omega, by omega⟩, (by omega), (by omega), rfl⟩
            · refine And.intro ⟨by omega, by omega⟩ (And.intro (fun c8 => ?_) (fun c8 => ?_))
              · exact And.intro (zrtb (by omega)) (And.intro ⟨by omega, by omega⟩ (hQ _ (by omega) (by omega)))
              · exact And.intro (zrtb (by omega)) (And.intro ⟨by omega, by omega⟩ (hQ _ (by omega) (by omega)))
    · refine And.intro ⟨⟨by omega, by omega⟩, ⟨by omega, by omega⟩⟩ (And.intro (fun c9 => ?_) (fun c9 => ?_))
      · refine And.intro ⟨by omega, by omega⟩ (And.intro (fun c10 => ?_) (fun c10 => ?_))
        · refine And.intro ⟨by omega, by omega⟩ (And.intro (fun c11 => ?_) (fun c11 => ?_))
          · exact And.intro (zrtb (by omega)) (And.intro ⟨by omega, by omega⟩ (hQ _ (by omega) (by omega)))
          · exact And.intro (zrtb (by omega)) (And.intro ⟨by omega, by omega⟩ (hQ _ (by omega) (by omega)))
        · refine And.intro ⟨by omega, by omega⟩ (And.intro (fun c12 => ?_) (fun c12 => ?_))
          · exfalso; omega
          · refine And.intro ⟨⟨by omega, by omega⟩, ⟨by omega, by omega⟩⟩ (And.intro (fun c13 => ?_) (fun c13 => ?_))
            · refine And.intro ⟨by omega, by omega⟩ (And.intro (fun c14 => ?_) (fun c14 => ?_))
              · exact And.intro (zrtb (by omega)) (And.intro ⟨by omega, by omega⟩ (hQ _ (by omega) (by omega)))
              · exact And.intro (zrtb (by omega)) (And.intro ⟨by omega, by omega⟩ (hQ _ (by omega) (by omega)))
            · refine And.intro ⟨⟨by omega, by omega⟩, ⟨by omega, by omega⟩⟩ (And.intro (fun c15 => ?_) (fun c15 => ?_))
              · refine Exists.intro (Int.toNat (2147483648 - 0)) ?_
                exact ⟨_, _, _, _, rfl, rfl, ⟨by omega, by omega⟩, ⟨by omega, by omega⟩, ⟨by omega, by omega⟩, ⟨by omega, by omega⟩, (by omega), (by omega), rfl⟩
              · refine And.intro ⟨by omega, by omega⟩ (And.intro (fun c16 => ?_) (fun c16 => ?_))
                · exact And.intro (zrtb (by omega)) (And.intro ⟨by omega, by omega⟩ (hQ _ (by omega) (by omega)))
                · exact And.intro (zrtb (by omega)) (And.intro ⟨by omega, by omega⟩ (hQ _ (by omega) (by omega)))
      · refine And.intro ⟨by omega, by omega⟩ ?_
        intro x17 hx17 kx17 lx17
        refine And.intro ⟨by omega, by omega⟩ (And.intro (fun c18 => ?_) (fun c18 => ?_))
        · refine And.intro ⟨by omega, by omega⟩ (And.intro (fun c19 => ?_) (fun c19 => ?_))
          · exact And.intro (zrtb (by omega)) (And.intro ⟨by omega, by omega⟩ (hQ _ (by omega) (by omega)))
          · exact And.intro (zrtb (by omega)) (And.intro ⟨by omega, by omega⟩ (hQ _ (by omega) (by omega)))
        · refine And.intro ⟨by omega, by omega⟩ (And.intro (fun c20 => ?_) (fun c20 => ?_))
          · exfalso; omega
          · refine And.intro ⟨⟨by omega, by omega⟩, ⟨by omega, by omega⟩⟩ (And.intro (fun c21 => ?_) (fun c21 => ?_))
            · refine And.intro ⟨by omega, by omega⟩ (And.intro (fun c22 => ?_) (fun c22 => ?_))
              · exact And.intro (zrtb (by omega)) (And.intro ⟨by omega, by omega⟩ (hQ _ (by omega) (by omega)))
              · exact And.intro (zrtb (by omega)) (And.intro ⟨by omega, by omega⟩ (hQ _ (by omega) (by omega)))
            · refine And.intro ⟨⟨by omega, by omega⟩, ⟨by omega, by omega⟩⟩ (And.intro (fun c23 => ?_) (fun c23 => ?_))
              · refine Exists.intro (Int.toNat (2147483648 - 0)) ?_
                exact ⟨_, _, _, _, rfl, rfl, ⟨by omega, by omega⟩, ⟨by omega, by omega⟩, ⟨by omega, by omega⟩, ⟨by omega, by omega⟩, (by omega), (by omega), rfl⟩
              · refine And.intro ⟨by omega, by omega⟩ (And.intro (fun c24 => ?_) (fun c24 => ?_))
                · exact And.intro (zrtb (by omega)) (And.intro ⟨by omega, by omega⟩ (hQ _ (by omega) (by omega)))
                · exact And.intro (zrtb (by omega)) (And.intro ⟨by omega, by omega⟩ (hQ _ (by omega) (by omega)))
  · intro vs m0 n hI
    obtain ⟨v2, v3, v4, v5, rfl, rfl, hv2, hv3, hv4, hv5, i0, i1, rfl⟩ := hI
    refine And.intro ⟨⟨by omega, by omega⟩, ⟨by omega, by omega⟩⟩ (And.intro (fun c25 => ?_) (fun c25 => ?_))
    · exact And.intro (zrtb (by omega)) (And.intro ⟨by omega, by omega⟩ (hQ _ (by omega) (by omega)))
    · refine And.intro ⟨by omega, by omega⟩ ?_
      intro x26 hx26 kx26 lx26
      refine And.intro ⟨by omega, by omega⟩ ?_
      intro x27 hx27 kx27 lx27
      refine And.intro ⟨⟨by omega, by omega⟩, ⟨by omega, by omega⟩⟩ (And.intro (fun c28 => ?_) (fun c28 => ?_))
      · refine Exists.intro (Int.toNat (2147483648 - (v5 + 1))) (And.intro (by omega) ?_)
        exact ⟨_, _, _, _, rfl, rfl, ⟨by omega, by omega⟩, ⟨by omega, by omega⟩, ⟨by omega, by omega⟩, ⟨by omega, by omega⟩, (by omega), (by omega), rfl⟩
      · exact And.intro (zrtb (by omega)) (And.intro ⟨by omega, by omega⟩ (hQ _ (by omega) (by omega)))
def zk_X6_make : zC := fun As μ Q => ∃ (a1 : Int) (a2 : Int), As = [.inr (.inr (59, 59)), .inl a1, .inl a2] ∧ ((-2147483648) ≤ a1 ∧ a1 ≤ 2147483647) ∧ ((-100000) ≤ a2 ∧ a2 ≤ 300000) ∧ (∀ (v : Int) (μ' : zM), zl0 μ μ' → (-2147483648) ≤ v → v ≤ 2147483647 → (μ'.1 52 ((13 : Nat) : Int) = μ.1 52 ((13 : Nat) : Int)) → Q (some (.inl v)) μ')
set_option maxHeartbeats 4000000 in
theorem zm_X6_make {g : zΓ} (hg : zg g) (d : Nat) (hd : 2 ≤ d) : zOk g d 87 zk_X6_make := by
  obtain ⟨d, rfl⟩ : ∃ d', d = d' + 1 := ⟨d - 1, by omega⟩
  refine zOk_loop hg (show mt_tab[87]? = some mt_X6_make from rfl) ([(15, [0, 1, 2, 3, 4, 5]), (74, [0, 1, 2, 3, 5, 6, 7]), (214, [0, 2, 3, 6, 7])], [25, 37]) 143 rfl fun As μ Q hC => ?_
  obtain ⟨a1, a2, rfl, ha1, ha2, hQ⟩ := hC
  have z0 : zl0 μ μ := zl0_r μ
  refine ⟨rfl, fun pc vs μ' n => (pc = 15 → ∃ (v1 : Int) (v2 : Int) (v3 : Int) (v4 : Int) (v5 : Int), vs = [.inr (.inr (59, 59)), .inl v1, .inl v2, .inl v3, .inl v4, .inl v5] ∧ zl0 μ μ' ∧ ((-2147483648) ≤ v1 ∧ v1 ≤ 2147483647) ∧ ((-100000) ≤ v2 ∧ v2 ≤ 300000) ∧ (0 ≤ v3 ∧ v3 ≤ 4) ∧ ((-2147483648) ≤ v4 ∧ v4 ≤ 2147483647) ∧ (0 ≤ v5 ∧ v5 ≤ 2147483647) ∧ (μ' = μ) ∧ n = (Int.toNat (2147483648 - v5 + 3 * 4294967296))) ∧ (pc = 74 → ∃ (v1 : Int) (v2 : Int) (v3 : Int) (v5 : Int) (v6 : Int) (v7 : Int), vs = [.inr (.inr (59, 59)), .inl v1, .inl v2, .inl v3, .inl v5, .inl v6, .inl v7] ∧ zl0 μ μ' ∧ ((-2147483648) ≤ v1 ∧ v1 ≤ 2147483647) ∧ ((-100000) ≤ v2 ∧ v2 ≤ 300000) ∧ (0 ≤ v3 ∧ v3 ≤ 4) ∧ ((-2147483648) ≤ v5 ∧ v5 ≤ 2147483647) ∧ ((-2147483648) ≤ v6 ∧ v6 ≤ 2147483647) ∧ (0 ≤ v7 ∧ v7 ≤ 2147483647) ∧ (μ' = μ) ∧ n = (Int.toNat (2147483648 - v7 + 2 * 4294967296))) ∧ (pc = 214 → ∃ (v2 : Int) (v3 : Int) (v6 : Int) (v7 : Int), vs = [.inr (.inr (59, 59)), .inl v2, .inl v3, .inl v6, .inl v7] ∧ zl0 μ μ' ∧ ((-100000) ≤ v2 ∧ v2 ≤ 300000) ∧ (0 ≤ v3 ∧ v3 ≤ 4) ∧ (0 ≤ v6 ∧ v6 ≤ 6999) ∧ (0 ≤ v7 ∧ v7 ≤ 2147483647) ∧ (μ'.1 59 ((8 : Nat) : Int) + v3 ≤ 7000) ∧ (μ'.1 59 ((7 : Nat) : Int) = v6) ∧ (μ'.1 52 ((13 : Nat) : Int) = μ.1 52 ((13 : Nat) : Int)) ∧ n = (Int.toNat (2147483648 - v7))), ?_, ?_, ?_, ?_, trivial⟩
  · intro t1 et1 ht1
    refine And.intro ht1.1 ⟨zk_X4_arity, zm_X4_arity hg d (by omega), _, _, rfl, ht1.1, ⟨by omega, by omega⟩, ?_⟩
    intro x2 kx2 lx2
    refine Exists.intro (Int.toNat (2147483648 - 0 + 3 * 4294967296)) ?_
    exact ⟨(fun _ => ⟨_, _, _, _, _, rfl, z0, ⟨by omega, by omega⟩, ⟨by omega, by omega⟩, ⟨by omega, by omega⟩, ⟨by omega, by omega⟩, ⟨by omega, by omega⟩, (by first | rfl | assumption), rfl⟩), (fun h => absurd h (by decide)), (fun h => absurd h (by decide))⟩
  · intro vs m0 n hI
    replace hI := hI.1 rfl
    clear z0
    obtain ⟨v1, v2, v3, v4, v5, rfl, z0, hv1, hv2, hv3, hv4, hv5, i0, rfl⟩ := hI
    subst i0
    refine And.intro ⟨⟨by omega, by omega⟩, ⟨by omega, by omega⟩⟩ (And.intro (fun c3 => ?_) (fun c3 => ?_))
    · intro x4 hx4 kx4 lx4
      intro x5 hx5 kx5 lx5
      intro x6 hx6 kx6 lx6
      refine ⟨zk_X8_at, zm_X8_at hg d (by omega), _, _, _, rfl, ⟨by omega, by omega⟩, ?_⟩
      intro x7 kx7 lx7 fx7 gx7
      refine Exists.intro (Int.toNat (2147483648 - 0 + 2 * 4294967296)) (And.intro (by omega) ?_)
      exact ⟨(fun h => absurd h (by decide)), (fun _ => ⟨_, _, _, _, _, _, rfl, z0, ⟨by omega, by omega⟩, ⟨by omega, by omega⟩, ⟨by omega, by omega⟩, ⟨by omega, by omega⟩, ⟨by omega, by omega⟩, ⟨by omega, by omega⟩, (by first | rfl | assumption), rfl⟩), (fun h => absurd h (by decide))⟩
    · intro x8 hx8 kx8 lx8
      refine ⟨zk_X8_at, zm_X8_at hg d (by omega), _, _, _, rfl, ⟨by omega, by omega⟩, ?_⟩
      intro x9 kx9 lx9 fx9 gx9
      intro x10 hx10 kx10 lx10
      refine Exists.intro (Int.toNat (2147483648 - (v5 + 1) + 3 * 4294967296)) (And.intro (by omega) ?_)
      exact ⟨(fun _ => ⟨_, _, _, _, _, rfl, z0, ⟨by omega, by omega⟩, ⟨by omega, by omega⟩, ⟨by omega, by omega⟩, ⟨by omega, by omega⟩, ⟨by omega, by omega⟩, (by first | rfl | assumption), rfl⟩), (fun h => absurd h (by decide)), (fun h => absurd h (by decide))⟩
  · intro vs m0 n hI
    replace hI := hI.2.1 rfl
    clear z0
    obtain ⟨v1, v2, v3, v5, v6, v7, rfl, z0, hv1, hv2, hv3, hv5, hv6, hv7, i0, rfl⟩ := hI
    subst i0
    refine And.intro ⟨⟨by omega, by omega⟩, ⟨by omega, by omega⟩⟩ (And.intro (fun c11 => ?_) (fun c11 => ?_))
    · intro x12 hx12 kx12 lx12
      refine And.intro ⟨⟨by omega, by omega⟩, ⟨by omega, by omega⟩⟩ (And.intro (fun c13 => ?_) (fun c13 => ?_))
      · exact And.intro trivial (And.intro ⟨by omega, by omega⟩ (hQ _ _ z0 (by omega) (by omega) (by omega)))
      · intro x14 hx14 kx14 lx14
        refine And.intro ⟨⟨by omega, by omega⟩, ⟨by omega, by omega⟩⟩ (And.intro (fun c15 => ?_) (fun c15 => ?_))
        · refine ⟨zk_X8_set, zm_X8_set hg d (by omega), _, _, _, _, rfl, ⟨by omega, by omega⟩, ?_⟩
          refine And.intro ⟨by omega, by omega⟩ ?_
          intro m16 qm16 fm16 gm16
          have z17 := zl0_t z0 ⟨qm16, gm16⟩
          have : m16.1 59 ((8 : Nat) : Int) = m0.1 59 ((8 : Nat) : Int) := congrFun (fm16 59 (show (59 : Nat) ≠ 60 by omega)) _
          have : m16.1 59 ((7 : Nat) : Int) = m0.1 59 ((7 : Nat) : Int) := congrFun (fm16 59 (show (59 : Nat) ≠ 60 by omega)) _
          have : m16.1 52 ((13 : Nat) : Int) = m0.1 52 ((13 : Nat) : Int) := congrFun (fm16 52 (show (52 : Nat) ≠ 60 by omega)) _
          intro x18 hx18 kx18 lx18
          refine ⟨zk_X8_set, zm_X8_set hg d (by omega), _, _, _, _, rfl, ⟨by omega, by omega⟩, ?_⟩
          refine And.intro ⟨by omega, by omega⟩ ?_
          intro m19 qm19 fm19 gm19
          have z20 := zl0_t z17 ⟨qm19, gm19⟩
          have : m19.1 59 ((8 : Nat) : Int) = m16.1 59 ((8 : Nat) : Int) := congrFun (fm19 59 (show (59 : Nat) ≠ 61 by omega)) _
          have : m19.1 59 ((7 : Nat) : Int) = m16.1 59 ((7 : Nat) : Int) := congrFun (fm19 59 (show (59 : Nat) ≠ 61 by omega)) _
          have : m19.1 52 ((13 : Nat) : Int) = m16.1 52 ((13 : Nat) : Int) := congrFun (fm19 52 (show (52 : Nat) ≠ 61 by omega)) _
          refine ⟨zk_X8_at, zm_X8_at hg d (by omega), _, _, _, rfl, ⟨by omega, by omega⟩, ?_⟩
          intro x21 kx21 lx21 fx21 gx21
          refine ⟨zk_X8_set, zm_X8_set hg d (by omega), _, _, _, _, rfl, ⟨by omega, by omega⟩, ?_⟩
          refine And.intro ⟨by omega, by omega⟩ ?_
          intro m22 qm22 fm22 gm22
          have z23 := zl0_t z20 ⟨qm22, gm22⟩
          have : m22.1 59 ((8 : Nat) : Int) = m19.1 59 ((8 : Nat) : Int) := congrFun (fm22 59 (show (59 : Nat) ≠ 62 by omega)) _
          have : m22.1 59 ((7 : Nat) : Int) = m19.1 59 ((7 : Nat) : Int) := congrFun (fm22 59 (show (59 : Nat) ≠ 62 by omega)) _
          have : m22.1 52 ((13 : Nat) : Int) = m19.1 52 ((13 : Nat) : Int) := congrFun (fm22 52 (show (52 : Nat) ≠ 62 by omega)) _
          refine ⟨zk_X8_set, zm_X8_set hg d (by omega), _, _, _, _, rfl, ⟨by omega, by omega⟩, ?_⟩
          refine And.intro ⟨by omega, by omega⟩ ?_
          intro m24 qm24 fm24 gm24
          have z25 := zl0_t z23 ⟨qm24, gm24⟩
          have : m24.1 59 ((8 : Nat) : Int) = m22.1 59 ((8 : Nat) : Int) := congrFun (fm24 59 (show (59 : Nat) ≠ 64 by omega)) _
          have : m24.1 59 ((7 : Nat) : Int) = m22.1 59 ((7 : Nat) : Int) := congrFun (fm24 59 (show (59 : Nat) ≠ 64 by omega)) _
          have : m24.1 52 ((13 : Nat) : Int) = m22.1 52 ((13 : Nat) : Int) := congrFun (fm24 52 (show (52 : Nat) ≠ 64 by omega)) _
          refine Exists.intro (Int.toNat (2147483648 - 0)) (And.intro (by omega) ?_)
          exact ⟨(fun h => absurd h (by decide)), (fun h => absurd h (by decide)), (fun _ => ⟨_, _, _, _, rfl, z25, ⟨by omega, by omega⟩, ⟨by omega, by omega⟩, ⟨by omega, by omega⟩, ⟨by omega, by omega⟩, (by omega), (by omega), (by omega), rfl⟩)⟩
        · exact And.intro trivial (And.intro ⟨by omega, by omega⟩ (hQ _ _ z0 (by omega) (by omega) (by omega)))
    · refine And.intro ⟨by omega, by omega⟩ (And.intro (fun c26 => ?_) (fun c26 => ?_))
      · intro x27 hx27 kx27 lx27
        refine And.intro ⟨⟨by omega, by omega⟩, ⟨by omega, by omega⟩⟩ (And.intro (fun c28 => ?_) (fun c28 => ?_))
        · exact And.intro trivial (And.intro ⟨by omega, by omega⟩ (hQ _ _ z0 (by omega) (by omega) (by omega)))
        · intro x29 hx29 kx29 lx29
          refine And.intro ⟨⟨by omega, by omega⟩, ⟨by omega, by omega⟩⟩ (And.intro (fun c30 => ?_) (fun c30 => ?_))
          · refine ⟨zk_X8_set, zm_X8_set hg d (by omega), _, _, _, _, rfl, ⟨by omega, by omega⟩, ?_⟩
            refine And.intro ⟨by omega, by omega⟩ ?_
            intro m31 qm31 fm31 gm31
            have z32 := zl0_t z0 ⟨qm31, gm31⟩
            have : m31.1 59 ((8 : Nat) : Int) = m0.1 59 ((8 : Nat) : Int) := congrFun (fm31 59 (show (59 : Nat) ≠ 60 by omega)) _
            have : m31.1 59 ((7 : Nat) : Int) = m0.1 59 ((7 : Nat) : Int) := congrFun (fm31 59 (show (59 : Nat) ≠ 60 by omega)) _
            have : m31.1 52 ((13 : Nat) : Int) = m0.1 52 ((13 : Nat) : Int) := congrFun (fm31 52 (show (52 : Nat) ≠ 60 by omega)) _
            intro x33 hx33 kx33 lx33
            refine ⟨zk_X8_set, zm_X8_set hg d (by omega), _, _, _, _, rfl, ⟨by omega, by omega⟩, ?_⟩
            refine And.intro ⟨by omega, by omega⟩ ?_
            intro m34 qm34 fm34 gm34
            have z35 := zl0_t z32 ⟨qm34, gm34⟩
            have : m34.1 59 ((8 : Nat) : Int) = m31.1 59 ((8 : Nat) : Int) := congrFun (fm34 59 (show (59 : Nat) ≠ 61 by omega)) _
            have : m34.1 59 ((7 : Nat) : Int) = m31.1 59 ((7 : Nat) : Int) := congrFun (fm34 59 (show (59 : Nat) ≠ 61 by omega)) _
            have : m34.1 52 ((13 : Nat) : Int) = m31.1 52 ((13 : Nat) : Int) := congrFun (fm34 52 (show (52 : Nat) ≠ 61 by omega)) _
            refine ⟨zk_X8_at, zm_X8_at hg d (by omega), _, _, _, rfl, ⟨by omega, by omega⟩, ?_⟩
            intro x36 kx36 lx36 fx36 gx36
            refine ⟨zk_X8_set, zm_X8_set hg d (by omega), _, _, _, _, rfl, ⟨by omega, by omega⟩, ?_⟩
            refine And.intro ⟨by omega, by omega⟩ ?_
            intro m37 qm37 fm37 gm37
            have z38 := zl0_t z35 ⟨qm37, gm37⟩
            have : m37.1 59 ((8 : Nat) : Int) = m34.1 59 ((8 : Nat) : Int) := congrFun (fm37 59 (show (59 : Nat) ≠ 62 by omega)) _
            have : m37.1 59 ((7 : Nat) : Int) = m34.1 59 ((7 : Nat) : Int) := congrFun (fm37 59 (show (59 : Nat) ≠ 62 by omega)) _
            have : m37.1 52 ((13 : Nat) : Int) = m34.1 52 ((13 : Nat) : Int) := congrFun (fm37 52 (show (52 : Nat) ≠ 62 by omega)) _
            refine ⟨zk_X8_set, zm_X8_set hg d (by omega), _, _, _, _, rfl, ⟨by omega, by omega⟩, ?_⟩
            refine And.intro ⟨by omega, by omega⟩ ?_
            intro m39 qm39 fm39 gm39
            have z40 := zl0_t z38 ⟨qm39, gm39⟩
            have : m39.1 59 ((8 : Nat) : Int) = m37.1 59 ((8 : Nat) : Int) := congrFun (fm39 59 (show (59 : Nat) ≠ 64 by omega)) _
            have : m39.1 59 ((7 : Nat) : Int) = m37.1 59 ((7 : Nat) : Int) := congrFun (fm39 59 (show (59 : Nat) ≠ 64 by omega)) _
            have : m39.1 52 ((13 : Nat) : Int) = m37.1 52 ((13 : Nat) : Int) := congrFun (fm39 52 (show (52 : Nat) ≠ 64 by omega)) _
            refine Exists.intro (Int.toNat (2147483648 - 0)) (And.intro (by omega) ?_)
            exact ⟨(fun h => absurd h (by decide)), (fun h => absurd h (by decide)), (fun _ => ⟨_, _, _, _, rfl, z40, ⟨by omega, by omega⟩, ⟨by omega, by omega⟩, ⟨by omega, by omega⟩, ⟨by omega, by omega⟩, (by omega), (by omega), (by omega), rfl⟩)⟩
          · exact And.intro trivial (And.intro ⟨by omega, by omega⟩ (hQ _ _ z0 (by omega) (by omega) (by omega)))
      · refine ⟨zk_X8_at, zm_X8_at hg d (by omega), _, _, _, rfl, ⟨by omega, by omega⟩, ?_⟩
        intro x41 kx41 lx41 fx41 gx41
        refine And.intro ⟨⟨by omega, by omega⟩, ⟨by omega, by omega⟩⟩ (And.intro (fun c42 => ?_) (fun c42 => ?_))
        · refine ⟨zk_X8_at, zm_X8_at hg d (by omega), _, _, _, rfl, ⟨by omega, by omega⟩, ?_⟩
          intro x43 kx43 lx43 fx43 gx43
          refine Exists.intro (Int.toNat (2147483648 - (v7 + 1) + 2 * 4294967296)) (And.intro (by omega) ?_)
          exact ⟨(fun h => absurd h (by decide)), (fun _ => ⟨_, _, _, _, _, _, rfl, z0, ⟨by omega, by omega⟩, ⟨by omega, by omega⟩, ⟨by omega, by omega⟩, ⟨by omega, by omega⟩, ⟨by omega, by omega⟩, ⟨by omega, by omega⟩, (by first | rfl | assumption), rfl⟩), (fun h => absurd h (by decide))⟩
        · refine ⟨zk_X6_hasParts, zm_X6_hasParts hg d (by omega), _, _, _, rfl, ⟨by omega, by omega⟩, ⟨by omega, by omega⟩, ⟨by omega, by omega⟩, ?_⟩
          intro x44 kx44 lx44
          refine And.intro ⟨by omega, by omega⟩ (And.intro (fun c45 => ?_) (fun c45 => ?_))
          · refine ⟨zk_X8_at, zm_X8_at hg d (by omega), _, _, _, rfl, ⟨by omega, by omega⟩, ?_⟩
            intro x46 kx46 lx46 fx46 gx46
            refine Exists.intro (Int.toNat (2147483648 - (v7 + 1) + 2 * 4294967296)) (And.intro (by omega) ?_)
            exact ⟨(fun h => absurd h (by decide)), (fun _ => ⟨_, _, _, _, _, _, rfl, z0, ⟨by omega, by omega⟩, ⟨by omega, by omega⟩, ⟨by omega, by omega⟩, ⟨by omega, by omega⟩, ⟨by omega, by omega⟩, ⟨by omega, by omega⟩, (by first | rfl | assumption), rfl⟩), (fun h => absurd h (by decide))⟩
          · exact And.intro trivial (And.intro ⟨by omega, by omega⟩ (hQ _ _ z0 (by omega) (by omega) (by omega)))
  · intro vs m0 n hI
    replace hI := hI.2.2 rfl
    clear z0
    obtain ⟨v2, v3, v6, v7, rfl, z0, hv2, hv3, hv6, hv7, i0, i1, i2, rfl⟩ := hI
    refine And.intro ⟨⟨by omega, by omega⟩, ⟨by omega, by omega⟩⟩ (And.intro (fun c47 => ?_) (fun c47 => ?_))
    · intro x48 hx48 kx48 lx48
      refine And.intro ⟨by omega, by omega⟩ ?_
      intro m49 em49
      have z50 := zl0_t z0 (zl0_u em49 (Or.inl (by decide)) (Or.inl ⟨by decide, by decide⟩))
      have : m49.1 59 ((8 : Nat) : Int) = (x48 + v3) := by rw [em49]; exact zu_at
      have : m49.1 59 ((7 : Nat) : Int) = m0.1 59 ((7 : Nat) : Int) := by rw [em49]; exact zu_nk (by decide)
      have : m49.1 52 ((13 : Nat) : Int) = m0.1 52 ((13 : Nat) : Int) := by rw [em49]; exact congrFun (zu_ne (show (52 : Nat) ≠ 59 by omega)) _
      intro x51 hx51 kx51 lx51
      refine And.intro ⟨by omega, by omega⟩ ?_
      intro m52 em52
      have z53 := zl0_t z50 (zl0_u em52 (Or.inl (by decide)) (Or.inl ⟨by decide, by decide⟩))
      have : m52.1 59 ((8 : Nat) : Int) = m49.1 59 ((8 : Nat) : Int) := by rw [em52]; exact zu_nk (by decide)
      have : m52.1 59 ((7 : Nat) : Int) = (x51 + 1) := by rw [em52]; exact zu_at
      have : m52.1 52 ((13 : Nat) : Int) = m49.1 52 ((13 : Nat) : Int) := by rw [em52]; exact congrFun (zu_ne (show (52 : Nat) ≠ 59 by omega)) _
      exact And.intro trivial (And.intro ⟨by omega, by omega⟩ (hQ _ _ z53 (by omega) (by omega) (by omega)))
    · intro x54 hx54 kx54 lx54
      refine ⟨zk_X8_at, zm_X8_at hg d (by omega), _, _, _, rfl, ⟨by omega, by omega⟩, ?_⟩
      intro x55 kx55 lx55 fx55 gx55
      refine ⟨zk_X8_set, zm_X8_set hg d (by omega), _, _, _, _, rfl, ⟨by omega, by omega⟩, ?_⟩
      refine And.intro ⟨by omega, by omega⟩ ?_
      intro m56 qm56 fm56 gm56
      have z57 := zl0_t z0 ⟨qm56, gm56⟩
      have : m56.1 59 ((8 : Nat) : Int) = m0.1 59 ((8 : Nat) : Int) := congrFun (fm56 59 (show (59 : Nat) ≠ 63 by omega)) _
      have : m56.1 59 ((7 : Nat) : Int) = m0.1 59 ((7 : Nat) : Int) := congrFun (fm56 59 (show (59 : Nat) ≠ 63 by omega)) _
      have : m56.1 52 ((13 : Nat) : Int) = m0.1 52 ((13 : Nat) : Int) := congrFun (fm56 52 (show (52 : Nat) ≠ 63 by omega)) _
      refine Exists.intro (Int.toNat (2147483648 - (v7 + 1))) (And.intro (by omega) ?_)
      exact ⟨(fun h => absurd h (by decide)), (fun h => absurd h (by decide)), (fun _ => ⟨_, _, _, _, rfl, z57, ⟨by omega, by omega⟩, ⟨by omega, by omega⟩, ⟨by omega, by omega⟩, ⟨by omega, by omega⟩, (by omega), (by omega), (by omega), rfl⟩)⟩
def zk_X6_leaf : zC := fun As μ Q => ∃ (a1 : Int), As = [.inr (.inr (59, 59)), .inl a1] ∧ ((-2147483648) ≤ a1 ∧ a1 ≤ 2147483647) ∧ (∀ (v : Int) (μ' : zM), zl0 μ μ' → (-2147483648) ≤ v → v ≤ 2147483647 → (μ'.1 52 ((13 : Nat) : Int) = μ.1 52 ((13 : Nat) : Int)) → Q (some (.inl v)) μ')
set_option maxHeartbeats 4000000 in
theorem zm_X6_leaf {g : zΓ} (hg : zg g) (d : Nat) (hd : 3 ≤ d) : zOk g d 85 zk_X6_leaf := by
  obtain ⟨d, rfl⟩ : ∃ d', d = d' + 1 := ⟨d - 1, by omega⟩
  refine zOk_straight hg (show mt_tab[85]? = some mt_X6_leaf from rfl) [] 10 rfl fun As μ Q hC => ?_
  obtain ⟨a1, rfl, ha1, hQ⟩ := hC
  refine ⟨rfl, ?_⟩
  have z0 : zl0 μ μ := zl0_r μ
  refine ⟨zk_X6_make, zm_X6_make hg d (by omega), _, _, rfl, ⟨by omega, by omega⟩, ⟨by omega, by omega⟩, ?_⟩
  intro x1 m2 qm2 kx1 lx1 p3
  have z4 := zl0_t z0 qm2
  have : m2.1 52 ((13 : Nat) : Int) = μ.1 52 ((13 : Nat) : Int) := p3
  exact And.intro trivial (And.intro ⟨by omega, by omega⟩ (hQ _ _ z4 (by omega) (by omega) (by omega)))
def zk_X6_put : zC := fun As μ Q => ∃ (a1 : Nat) (a2 : Int) (a3 : Int) (a4 : Nat) (a5 : Int) (a6 : Int), As = [.inr (.inr (59, 59)), .inr (.inr (a1, 1001)), .inl a2, .inl a3, .inr (.inr (a4, 1001)), .inl a5, .inl a6] ∧ zIa μ a1 ∧ ((-1) ≤ a2 ∧ a2 ≤ 88400) ∧ ((-2147483646) ≤ a3 ∧ a3 ≤ 88400) ∧ zIa μ a4 ∧ ((-2147483648) ≤ a5 ∧ a5 ≤ 2147483647) ∧ ((-2147483648) ≤ a6 ∧ a6 ≤ 2147483647) ∧ (∀ (v : Int) (μ' : zM), zl0 μ μ' → (-2147483648) ≤ v → v ≤ 2147483647 → (μ'.1 52 ((13 : Nat) : Int) = μ.1 52 ((13 : Nat) : Int)) → Q (some (.inl v)) μ')
set_option maxHeartbeats 4000000 in
theorem zm_X6_put {g : zΓ} (hg : zg g) (d : Nat) (hd : 3 ≤ d) : zOk g d 86 zk_X6_put := by
  obtain ⟨d, rfl⟩ : ∃ d', d = d' + 1 := ⟨d - 1, by omega⟩
  refine zOk_loop hg (show mt_tab[86]? = some mt_X6_put from rfl) ([(12, [0, 1, 2, 4, 5, 6, 7, 8])], [40, 43, 46]) 59 rfl fun As μ Q hC => ?_
  obtain ⟨a1, a2, a3, a4, a5, a6, rfl, ha1, ha2, ha3, ha4, ha5, ha6, hQ⟩ := hC
  have z0 : zl0 μ μ := zl0_r μ
  refine ⟨rfl, fun pc vs μ' n => ∃ (v2 : Int) (v5 : Int) (v6 : Int) (v7 : Int) (v8 : Int), vs = [.inr (.inr (59, 59)), .inr (.inr (a1, 1001)), .inl v2, .inr (.inr (a4, 1001)), .inl v5, .inl v6, .inl v7, .inl v8] ∧ zl0 μ μ' ∧ ((-2147483648) ≤ v2 ∧ v2 ≤ 2147483647) ∧ ((-2147483648) ≤ v5 ∧ v5 ≤ 2147483647) ∧ ((-2147483648) ≤ v6 ∧ v6 ≤ 2147483647) ∧ ((-100000) ≤ v7 ∧ v7 ≤ 300000) ∧ ((-2147483648) ≤ v8 ∧ v8 ≤ 2147483647) ∧ (v2 = a2) ∧ (v8 ≤ a2 + a3 - 1) ∧ (a2 - 1 ≤ v8 ∨ v7 = 300) ∧ (300 - (a2 + a3 - 1 - v8) ≤ v7) ∧ (v7 ≤ 300 + 3 * (a2 + a3 - 1 - v8)) ∧ (μ'.1 52 ((13 : Nat) : Int) = μ.1 52 ((13 : Nat) : Int)) ∧ n = (Int.toNat (v8 + 2147483650)), ?_, ?_, trivial⟩
  · refine Exists.intro (Int.toNat (((a2 + a3) - 1) + 2147483650)) ?_
    exact ⟨_, _, _, _, _, rfl, z0, ⟨by omega, by omega⟩, ⟨by omega, by omega⟩, ⟨by omega, by omega⟩, ⟨by omega, by omega⟩, ⟨by omega, by omega⟩, (by omega), (by omega), (by omega), (by omega), (by omega), (by omega), rfl⟩
  · intro vs m0 n hI
    clear z0
    obtain ⟨v2, v5, v6, v7, v8, rfl, z0, hv2, hv5, hv6, hv7, hv8, i0, i1, i2, i3, i4, i5, rfl⟩ := hI
    refine And.intro ⟨⟨by omega, by omega⟩, ⟨by omega, by omega⟩⟩ (And.intro (fun c1 => ?_) (fun c1 => ?_))
    · refine ⟨zk_X8_at, zm_X8_at hg d (by omega), _, _, _, rfl, ⟨by omega, by omega⟩, ?_⟩
      intro x2 kx2 lx2 fx2 gx2
      exact And.intro trivial (And.intro ⟨by omega, by omega⟩ (hQ _ _ z0 (by omega) (by omega) (by omega)))
    · refine ⟨zk_X8_at, zm_X8_at hg d (by omega), _, _, _, rfl, ⟨by omega, by omega⟩, ?_⟩
      refine And.intro (zIa_m ha1 z0) ?_
      intro n3 hn3 kn3 ln3
      intro x4 kx4 lx4 fx4 gx4
      refine ⟨zk_X8_isParameter, zm_X8_isParameter hg d (by omega), _, rfl, ⟨by omega, by omega⟩, ?_⟩
      intro x5 kx5 lx5
      refine And.intro ⟨by omega, by omega⟩ (And.intro (fun c6 => ?_) (fun c6 => ?_))
      · refine ⟨zk_X6_make, zm_X6_make hg d (by omega), _, _, rfl, ⟨by omega, by omega⟩, ⟨by omega, by omega⟩, ?_⟩
        intro x7 m8 qm8 kx7 lx7 p9
        have z10 := zl0_t z0 qm8
        have : m8.1 52 ((13 : Nat) : Int) = m0.1 52 ((13 : Nat) : Int) := p9
        intro t11 et11 ht11
        refine And.intro ht11.1 ⟨zk_X4_arity, zm_X4_arity hg d (by omega), _, _, rfl, ht11.1, ⟨by omega, by omega⟩, ?_⟩
        intro x12 kx12 lx12
        refine ⟨zk_X8_set, zm_X8_set hg d (by omega), _, _, _, _, rfl, ⟨by omega, by omega⟩, ?_⟩
        refine And.intro ⟨by omega, by omega⟩ ?_
        intro m13 qm13 fm13 gm13
        have z14 := zl0_t z10 ⟨qm13, gm13⟩
        have : m13.1 52 ((13 : Nat) : Int) = m8.1 52 ((13 : Nat) : Int) := congrFun (fm13 52 (show (52 : Nat) ≠ 65 by omega)) _
        refine Exists.intro (Int.toNat ((v8 + (-1)) + 2147483650)) (And.intro (by omega) ?_)
        exact ⟨_, _, _, _, _, rfl, z14, ⟨by omega, by omega⟩, ⟨by omega, by omega⟩, ⟨by omega, by omega⟩, ⟨by omega, by omega⟩, ⟨by omega, by omega⟩, (by omega), (by omega), (by omega), (by omega), (by omega), (by omega), rfl⟩
      · intro x15 hx15 kx15 lx15
        intro x16 hx16 kx16 lx16
        intro x17 hx17 kx17 lx17
        refine ⟨zk_X8_at, zm_X8_at hg d (by omega), _, _, _, rfl, ⟨by omega, by omega⟩, ?_⟩
        refine And.intro (zIa_m ha4 z0) ?_
        intro n18 hn18 kn18 ln18
        intro x19 kx19 lx19 fx19 gx19
        refine ⟨zk_X8_set, zm_X8_set hg d (by omega), _, _, _, _, rfl, ⟨by omega, by omega⟩, ?_⟩
        refine And.intro ⟨by omega, by omega⟩ ?_
        intro m20 qm20 fm20 gm20
        have z21 := zl0_t z0 ⟨qm20, gm20⟩
        have : m20.1 52 ((13 : Nat) : Int) = m0.1 52 ((13 : Nat) : Int) := congrFun (fm20 52 (show (52 : Nat) ≠ 65 by omega)) _
        refine Exists.intro (Int.toNat ((v8 + (-1)) + 2147483650)) (And.intro (by omega) ?_)
        exact ⟨_, _, _, _, _, rfl, z21, ⟨by omega, by omega⟩, ⟨by omega, by omega⟩, ⟨by omega, by omega⟩, ⟨by omega, by omega⟩, ⟨by omega, by omega⟩, (by omega), (by omega), (by omega), (by omega), (by omega), (by omega), rfl⟩
def zk_X7_leads : zC := fun As μ Q => ∃ (a1 : Int) (a2 : Int), As = [.inr (.inr (6, 6)), .inl a1, .inl a2] ∧ ((-2147483648) ≤ a1 ∧ a1 ≤ 2147483647) ∧ ((-2147483648) ≤ a2 ∧ a2 ≤ 2147483647) ∧ (∀ (v : Int), 0 ≤ v → v ≤ 1 → Q (some (.inl v)) μ)
set_option maxHeartbeats 4000000 in
theorem zm_X7_leads {g : zΓ} (hg : zg g) (d : Nat) (hd : 2 ≤ d) : zOk g d 96 zk_X7_leads := by
  obtain ⟨d, rfl⟩ : ∃ d', d = d' + 1 := ⟨d - 1, by omega⟩
  refine zOk_straight hg (show mt_tab[96]? = some mt_X7_leads from rfl) [12, 14] 21 rfl fun As μ Q hC => ?_
  obtain ⟨a1, a2, rfl, ha1, ha2, hQ⟩ := hC
  refine ⟨rfl, ?_⟩
  refine And.intro ⟨⟨by omega, by omega⟩, ⟨by omega, by omega⟩⟩ (And.intro (fun c1 => ?_) (fun c1 => ?_))
  · exact And.intro (zrtb (by omega)) (And.intro ⟨by omega, by omega⟩ (hQ _ (by omega) (by omega)))
  · intro x2 hx2 kx2 lx2
    intro x3 hx3 kx3 lx3
    refine ⟨zk_X8_at, zm_X8_at hg d (by omega), _, _, _, rfl, ⟨by omega, by omega⟩, ?_⟩
    intro x4 kx4 lx4 fx4 gx4
    refine And.intro ⟨by omega, by omega⟩ (And.intro (fun c5 => ?_) (fun c5 => ?_))
    · exact And.intro (zrtb (by omega)) (And.intro ⟨by omega, by omega⟩ (hQ _ (by omega) (by omega)))
    · exact And.intro (zrtb (by omega)) (And.intro ⟨by omega, by omega⟩ (hQ _ (by omega) (by omega)))
def zk_X7_addWays : zC := fun As μ Q => ∃ (a1 : Nat) (a2 : Int) (a3 : Int) (a4 : Int), As = [.inr (.inr (6, 6)), .inr (.inr (a1, 1001)), .inl a2, .inl a3, .inl a4] ∧ zIa μ a1 ∧ ((-2147483648) ≤ a2 ∧ a2 ≤ 2147483647) ∧ ((-2147483648) ≤ a3 ∧ a3 ≤ 2147483647) ∧ ((-2147483648) ≤ a4 ∧ a4 ≤ 2147483647) ∧ (∀ (μ' : zM), zl0 μ μ' → Q none μ')
set_option maxHeartbeats 4000000 in
theorem zm_X7_addWays {g : zΓ} (hg : zg g) (d : Nat) (hd : 2 ≤ d) : zOk g d 91 zk_X7_addWays := by
  obtain ⟨d, rfl⟩ : ∃ d', d = d' + 1 := ⟨d - 1, by omega⟩
  refine zOk_loop hg (show mt_tab[91]? = some mt_X7_addWays from rfl) ([(17, [0, 1, 3, 4, 5, 6])], [2, 43, 46, 49]) 47 rfl fun As μ Q hC => ?_
  obtain ⟨a1, a2, a3, a4, rfl, ha1, ha2, ha3, ha4, hQ⟩ := hC
  have z0 : zl0 μ μ := zl0_r μ
  refine ⟨rfl, fun pc vs μ' n => ∃ (v3 : Int) (v4 : Int) (v5 : Int) (v6 : Int), vs = [.inr (.inr (6, 6)), .inr (.inr (a1, 1001)), .inl v3, .inl v4, .inl v5, .inl v6] ∧ zl0 μ μ' ∧ ((-2147483648) ≤ v3 ∧ v3 ≤ 2147483647) ∧ ((-2147483648) ≤ v4 ∧ v4 ≤ 2147483647) ∧ ((-2147483648) ≤ v5 ∧ v5 ≤ 2147483647) ∧ ((-2147483648) ≤ v6 ∧ v6 ≤ 2147483647) ∧ n = (Int.toNat (2147483648 - v6)), ?_, ?_, trivial⟩
  · intro x1 hx1 kx1 lx1
    refine And.intro ⟨⟨by omega, by omega⟩, ⟨by omega, by omega⟩⟩ (And.intro (fun c2 => ?_) (fun c2 => ?_))
    · refine Exists.intro (Int.toNat (2147483648 - a2)) ?_
      exact ⟨_, _, _, _, rfl, z0, ⟨by omega, by omega⟩, ⟨by omega, by omega⟩, ⟨by omega, by omega⟩, ⟨by omega, by omega⟩, rfl⟩
    · refine Exists.intro (Int.toNat (2147483648 - a2)) ?_
      exact ⟨_, _, _, _, rfl, z0, ⟨by omega, by omega⟩, ⟨by omega, by omega⟩, ⟨by omega, by omega⟩, ⟨by omega, by omega⟩, rfl⟩
  · intro vs m0 n hI
    clear z0
    obtain ⟨v3, v4, v5, v6, rfl, z0, hv3, hv4, hv5, hv6, rfl⟩ := hI
    refine And.intro ⟨⟨by omega, by omega⟩, ⟨by omega, by omega⟩⟩ (And.intro (fun c3 => ?_) (fun c3 => ?_))
    · exact And.intro rfl (hQ _ z0)
    · refine ⟨zk_X8_at, zm_X8_at hg d (by omega), _, _, _, rfl, ⟨by omega, by omega⟩, ?_⟩
      refine And.intro (zIa_m ha1 z0) ?_
      intro n4 hn4 kn4 ln4
      intro x5 kx5 lx5 fx5 gx5
      refine ⟨zk_X8_isParameter, zm_X8_isParameter hg d (by omega), _, rfl, ⟨by omega, by omega⟩, ?_⟩
      intro x6 kx6 lx6
      refine And.intro ⟨by omega, by omega⟩ (And.intro (fun c7 => ?_) (fun c7 => ?_))
      · refine Exists.intro (Int.toNat (2147483648 - (v6 + 1))) (And.intro (by omega) ?_)
        exact ⟨_, _, _, _, rfl, z0, ⟨by omega, by omega⟩, ⟨by omega, by omega⟩, ⟨by omega, by omega⟩, ⟨by omega, by omega⟩, rfl⟩
      · intro x8 hx8 kx8 lx8
        intro x9 hx9 kx9 lx9
        intro x10 hx10 kx10 lx10
        refine ⟨zk_X8_at, zm_X8_at hg d (by omega), _, _, _, rfl, ⟨by omega, by omega⟩, ?_⟩
        intro x11 kx11 lx11 fx11 gx11
        refine ⟨zk_J9_max_7cf53, zm_J9_max_7cf53 hg d (by omega), _, _, rfl, ⟨by omega, by omega⟩, ⟨by omega, by omega⟩, ?_⟩
        intro x12 kx12 lx12 p13 p14 p15
        refine ⟨zk_X8_set, zm_X8_set hg d (by omega), _, _, _, _, rfl, ⟨by omega, by omega⟩, ?_⟩
        refine And.intro ⟨by omega, by omega⟩ ?_
        intro m16 qm16 fm16 gm16
        have z17 := zl0_t z0 ⟨qm16, gm16⟩
        refine Exists.intro (Int.toNat (2147483648 - (v6 + 1))) (And.intro (by omega) ?_)
        exact ⟨_, _, _, _, rfl, z17, ⟨by omega, by omega⟩, ⟨by omega, by omega⟩, ⟨by omega, by omega⟩, ⟨by omega, by omega⟩, rfl⟩
def zk_X7_markRound : zC := fun As μ Q => ∃ (a1 : Int) (a2 : Int), As = [.inr (.inr (6, 6)), .inl a1, .inl a2] ∧ ((-2147483648) ≤ a1 ∧ a1 ≤ 2147483647) ∧ ((-2147483648) ≤ a2 ∧ a2 ≤ 2147483647) ∧ (∀ (μ' : zM), zl0 μ μ' → Q none μ')
set_option maxHeartbeats 4000000 in
theorem zm_X7_markRound {g : zΓ} (hg : zg g) (d : Nat) (hd : 3 ≤ d) : zOk g d 95 zk_X7_markRound := by
  obtain ⟨d, rfl⟩ : ∃ d', d = d' + 1 := ⟨d - 1, by omega⟩
  refine zOk_loop hg (show mt_tab[95]? = some mt_X7_markRound from rfl) ([(2, [0, 1, 2, 3])], []) 28 rfl fun As μ Q hC => ?_
  obtain ⟨a1, a2, rfl, ha1, ha2, hQ⟩ := hC
  have z0 : zl0 μ μ := zl0_r μ
  refine ⟨rfl, fun pc vs μ' n => ∃ (v1 : Int) (v2 : Int) (v3 : Int), vs = [.inr (.inr (6, 6)), .inl v1, .inl v2, .inl v3] ∧ zl0 μ μ' ∧ ((-2147483648) ≤ v1 ∧ v1 ≤ 2147483647) ∧ ((-2147483648) ≤ v2 ∧ v2 ≤ 2147483647) ∧ (0 ≤ v3 ∧ v3 ≤ 2147483647) ∧ n = (Int.toNat (2147483648 - v3)), ?_, ?_, trivial⟩
  · refine Exists.intro (Int.toNat (2147483648 - 0)) ?_
    exact ⟨_, _, _, rfl, z0, ⟨by omega, by omega⟩, ⟨by omega, by omega⟩, ⟨by omega, by omega⟩, rfl⟩
  · intro vs m0 n hI
    clear z0
    obtain ⟨v1, v2, v3, rfl, z0, hv1, hv2, hv3, rfl⟩ := hI
    refine And.intro ⟨⟨by omega, by omega⟩, ⟨by omega, by omega⟩⟩ (And.intro (fun c1 => ?_) (fun c1 => ?_))
    · exact And.intro rfl (hQ _ z0)
    · refine ⟨zk_X7_leads, zm_X7_leads hg d (by omega), _, _, rfl, ⟨by omega, by omega⟩, ⟨by omega, by omega⟩, ?_⟩
      intro x2 kx2 lx2
      refine And.intro ⟨by omega, by omega⟩ (And.intro (fun c3 => ?_) (fun c3 => ?_))
      · refine Exists.intro (Int.toNat (2147483648 - (v3 + 1))) (And.intro (by omega) ?_)
        exact ⟨_, _, _, rfl, z0, ⟨by omega, by omega⟩, ⟨by omega, by omega⟩, ⟨by omega, by omega⟩, rfl⟩
      · refine ⟨zk_X7_leads, zm_X7_leads hg d (by omega), _, _, rfl, ⟨by omega, by omega⟩, ⟨by omega, by omega⟩, ?_⟩
        intro x4 kx4 lx4
        refine And.intro ⟨by omega, by omega⟩ (And.intro (fun c5 => ?_) (fun c5 => ?_))
        · refine Exists.intro (Int.toNat (2147483648 - (v3 + 1))) (And.intro (by omega) ?_)
          exact ⟨_, _, _, rfl, z0, ⟨by omega, by omega⟩, ⟨by omega, by omega⟩, ⟨by omega, by omega⟩, rfl⟩
        · refine ⟨zk_X8_set, zm_X8_set hg d (by omega), _, _, _, _, rfl, ⟨by omega, by omega⟩, ?_⟩
          refine And.intro ⟨by omega, by omega⟩ ?_
          intro m6 qm6 fm6 gm6
          have z7 := zl0_t z0 ⟨qm6, gm6⟩
          refine Exists.intro (Int.toNat (2147483648 - (v3 + 1))) (And.intro (by omega) ?_)
          exact ⟨_, _, _, rfl, z7, ⟨by omega, by omega⟩, ⟨by omega, by omega⟩, ⟨by omega, by omega⟩, rfl⟩
def zk_X7_markRounds : zC := fun As μ Q => ∃ (a1 : Int), As = [.inr (.inr (6, 6)), .inl a1] ∧ ((-2147483648) ≤ a1 ∧ a1 ≤ 2147483647) ∧ (∀ (μ' : zM), zl0 μ μ' → Q none μ')
set_option maxHeartbeats 4000000 in
theorem zm_X7_markRounds {g : zΓ} (hg : zg g) (d : Nat) (hd : 4 ≤ d) : zOk g d 94 zk_X7_markRounds := by
  obtain ⟨d, rfl⟩ : ∃ d', d = d' + 1 := ⟨d - 1, by omega⟩
  refine zOk_loop hg (show mt_tab[94]? = some mt_X7_markRounds from rfl) ([(2, [0, 1, 2]), (9, [0, 1, 2, 3])], [21, 23]) 42 rfl fun As μ Q hC => ?_
  obtain ⟨a1, rfl, ha1, hQ⟩ := hC
  have z0 : zl0 μ μ := zl0_r μ
  refine ⟨rfl, fun pc vs μ' n => (pc = 2 → ∃ (v1 : Int) (v2 : Int), vs = [.inr (.inr (6, 6)), .inl v1, .inl v2] ∧ zl0 μ μ' ∧ ((-2147483648) ≤ v1 ∧ v1 ≤ 2147483647) ∧ (0 ≤ v2 ∧ v2 ≤ 2147483647) ∧ n = (Int.toNat ((2147483648 - v2) * 4294967296 + 4294967295))) ∧ (pc = 9 → ∃ (v1 : Int) (v2 : Int) (v3 : Int), vs = [.inr (.inr (6, 6)), .inl v1, .inl v2, .inl v3] ∧ zl0 μ μ' ∧ ((-2147483648) ≤ v1 ∧ v1 ≤ 2147483647) ∧ (0 ≤ v2 ∧ v2 ≤ 2147483646) ∧ (0 ≤ v3 ∧ v3 ≤ 2147483647) ∧ n = (Int.toNat ((2147483648 - v2) * 4294967296 + (2147483648 - v3)))), ?_, ?_, ?_, trivial⟩
  · refine Exists.intro (Int.toNat ((2147483648 - 0) * 4294967296 + 4294967295)) ?_
    exact ⟨(fun _ => ⟨_, _, rfl, z0, ⟨by omega, by omega⟩, ⟨by omega, by omega⟩, rfl⟩), (fun h => absurd h (by decide))⟩
  · intro vs m0 n hI
    replace hI := hI.1 rfl
    clear z0
    obtain ⟨v1, v2, rfl, z0, hv1, hv2, rfl⟩ := hI
    refine And.intro ⟨⟨by omega, by omega⟩, ⟨by omega, by omega⟩⟩ (And.intro (fun c1 => ?_) (fun c1 => ?_))
    · exact And.intro rfl (hQ _ z0)
    · refine Exists.intro (Int.toNat ((2147483648 - v2) * 4294967296 + (2147483648 - 0))) (And.intro (by omega) ?_)
      exact ⟨(fun h => absurd h (by decide)), (fun _ => ⟨_, _, _, rfl, z0, ⟨by omega, by omega⟩, ⟨by omega, by omega⟩, ⟨by omega, by omega⟩, rfl⟩)⟩
  · intro vs m0 n hI
    replace hI := hI.2 rfl
    clear z0
    obtain ⟨v1, v2, v3, rfl, z0, hv1, hv2, hv3, rfl⟩ := hI
    refine And.intro ⟨⟨by omega, by omega⟩, ⟨by omega, by omega⟩⟩ (And.intro (fun c2 => ?_) (fun c2 => ?_))
    · refine Exists.intro (Int.toNat ((2147483648 - (v2 + 1)) * 4294967296 + 4294967295)) (And.intro (by omega) ?_)
      exact ⟨(fun _ => ⟨_, _, rfl, z0, ⟨by omega, by omega⟩, ⟨by omega, by omega⟩, rfl⟩), (fun h => absurd h (by decide))⟩
    · intro x3 hx3 kx3 lx3
      intro x4 hx4 kx4 lx4
      refine ⟨zk_X8_at, zm_X8_at hg d (by omega), _, _, _, rfl, ⟨by omega, by omega⟩, ?_⟩
      intro x5 kx5 lx5 fx5 gx5
      refine And.intro ⟨⟨by omega, by omega⟩, ⟨by omega, by omega⟩⟩ (And.intro (fun c6 => ?_) (fun c6 => ?_))
      · refine Exists.intro (Int.toNat ((2147483648 - v2) * 4294967296 + (2147483648 - (v3 + 1)))) (And.intro (by omega) ?_)
        exact ⟨(fun h => absurd h (by decide)), (fun _ => ⟨_, _, _, rfl, z0, ⟨by omega, by omega⟩, ⟨by omega, by omega⟩, ⟨by omega, by omega⟩, rfl⟩)⟩
      · refine ⟨zk_X7_leads, zm_X7_leads hg d (by omega), _, _, rfl, ⟨by omega, by omega⟩, ⟨by omega, by omega⟩, ?_⟩
        intro x7 kx7 lx7
        refine And.intro ⟨by omega, by omega⟩ (And.intro (fun c8 => ?_) (fun c8 => ?_))
        · refine Exists.intro (Int.toNat ((2147483648 - v2) * 4294967296 + (2147483648 - (v3 + 1)))) (And.intro (by omega) ?_)
          exact ⟨(fun h => absurd h (by decide)), (fun _ => ⟨_, _, _, rfl, z0, ⟨by omega, by omega⟩, ⟨by omega, by omega⟩, ⟨by omega, by omega⟩, rfl⟩)⟩
        · refine And.intro ⟨by omega, by omega⟩ ?_
          intro m9 em9
          have z10 := zl0_t z0 (zl0_u em9 (Or.inl (by decide)) (Or.inl ⟨by decide, by decide⟩))
          refine ⟨zk_X7_markRound, zm_X7_markRound hg d (by omega), _, _, rfl, ⟨by omega, by omega⟩, ⟨by omega, by omega⟩, ?_⟩
          intro m11 qm11
          have z12 := zl0_t z10 qm11
          refine Exists.intro (Int.toNat ((2147483648 - v2) * 4294967296 + (2147483648 - (v3 + 1)))) (And.intro (by omega) ?_)
          exact ⟨(fun h => absurd h (by decide)), (fun _ => ⟨_, _, _, rfl, z12, ⟨by omega, by omega⟩, ⟨by omega, by omega⟩, ⟨by omega, by omega⟩, rfl⟩)⟩
def zk_X7_measure : zC := fun As μ Q => ∃ (a1 : Nat), As = [.inr (.inr (6, 6)), .inr (.inr (a1, 14))] ∧ (a1 = 14 ∨ a1 = 32) ∧ (∀ (μ' : zM), zl0 μ μ' → Q none μ')
set_option maxHeartbeats 4000000 in
theorem zm_X7_measure {g : zΓ} (hg : zg g) (d : Nat) (hd : 5 ≤ d) : zOk g d 90 zk_X7_measure := by
  obtain ⟨d, rfl⟩ : ∃ d', d = d' + 1 := ⟨d - 1, by omega⟩
  refine zOk_loop hg (show mt_tab[90]? = some mt_X7_measure from rfl) ([(23, [0, 1, 2]), (48, [0, 1, 2, 3, 4, 5])], [92]) 72 rfl fun As μ Q hC => ?_
  obtain ⟨a1, rfl, ha1, hQ⟩ := hC
  have z0 : zl0 μ μ := zl0_r μ
  refine ⟨rfl, fun pc vs μ' n => (pc = 23 → ∃ (v2 : Int), vs = [.inr (.inr (6, 6)), .inr (.inr (a1, 14)), .inl v2] ∧ zl0 μ μ' ∧ (0 ≤ v2 ∧ v2 ≤ 300) ∧ n = (Int.toNat ((2147483648 - v2) * 4294967296 + 4294967295))) ∧ (pc = 48 → ∃ (v2 : Int) (v3 : Int) (v4 : Int) (v5 : Int), vs = [.inr (.inr (6, 6)), .inr (.inr (a1, 14)), .inl v2, .inl v3, .inl v4, .inl v5] ∧ zl0 μ μ' ∧ (0 ≤ v2 ∧ v2 ≤ 299) ∧ ((-2147483648) ≤ v3 ∧ v3 ≤ 2147483647) ∧ (0 ≤ v4 ∧ v4 ≤ 301) ∧ (0 ≤ v5 ∧ v5 ≤ 2147483647) ∧ n = (Int.toNat ((2147483648 - v2) * 4294967296 + (2147483648 - v5)))), ?_, ?_, ?_, trivial⟩
  · refine ⟨_, zOk_tag (zm_J7_fill_53178 hg d (by omega)), [.inr (.inr (7, 1001)), .inl 0], rfl, _, _, rfl, (Or.inr ⟨by decide, by decide⟩), ⟨by omega, by omega⟩, (show _ ∧ _ from ⟨by omega, by omega⟩), (by decide), ?_⟩
    intro m1 qm1
    have z2 := zl0_t z0 qm1
    refine ⟨_, zOk_tag (zm_J7_fill_53178 hg d (by omega)), [.inr (.inr (9, 1001)), .inl 0], rfl, _, _, rfl, (Or.inr ⟨by decide, by decide⟩), ⟨by omega, by omega⟩, (show _ ∧ _ from ⟨by omega, by omega⟩), (by decide), ?_⟩
    intro m3 qm3
    have z4 := zl0_t z2 qm3
    refine And.intro ⟨by omega, by omega⟩ ?_
    intro m5 em5
    have z6 := zl0_t z4 (zl0_u em5 (Or.inl (by decide)) (Or.inl ⟨by decide, by decide⟩))
    refine Exists.intro (Int.toNat ((2147483648 - 0) * 4294967296 + 4294967295)) ?_
    exact ⟨(fun _ => ⟨_, rfl, z6, ⟨by omega, by omega⟩, rfl⟩), (fun h => absurd h (by decide))⟩
  · intro vs m0 n hI
    replace hI := hI.1 rfl
    clear z0
    obtain ⟨v2, rfl, z0, hv2, rfl⟩ := hI
    refine And.intro ha1 ?_
    intro x7 hx7 kx7 lx7
    refine And.intro ⟨⟨by omega, by omega⟩, ⟨by omega, by omega⟩⟩ (And.intro (fun c8 => ?_) (fun c8 => ?_))
    · refine And.intro ha1 ?_
      intro x9 hx9 kx9 lx9
      refine ⟨zk_X7_closeReach, zm_X7_closeReach hg d (by omega), _, rfl, ⟨by omega, by omega⟩, ?_⟩
      intro m10 qm10
      have z11 := zl0_t z0 qm10
      refine And.intro ha1 ?_
      intro x12 hx12 kx12 lx12
      refine ⟨zk_X7_markRounds, zm_X7_markRounds hg d (by omega), _, rfl, ⟨by omega, by omega⟩, ?_⟩
      intro m13 qm13
      have z14 := zl0_t z11 qm13
      exact And.intro rfl (hQ _ z14)
    · refine And.intro ha1 ?_
      refine ⟨zk_X8_at, zm_X8_at hg d (by omega), _, _, _, rfl, ⟨by omega, by omega⟩, ?_⟩
      refine And.intro (zfa (o := 11) (y2 := 25) ha1 rfl) ?_
      intro x15 kx15 lx15 fx15 gx15
      refine Exists.intro (Int.toNat ((2147483648 - v2) * 4294967296 + (2147483648 - 0))) (And.intro (by omega) ?_)
      exact ⟨(fun h => absurd h (by decide)), (fun _ => ⟨_, _, _, _, rfl, z0, ⟨by omega, by omega⟩, ⟨by omega, by omega⟩, ⟨by omega, by omega⟩, ⟨by omega, by omega⟩, rfl⟩)⟩
  · intro vs m0 n hI
    replace hI := hI.2 rfl
    clear z0
    obtain ⟨v2, v3, v4, v5, rfl, z0, hv2, hv3, hv4, hv5, rfl⟩ := hI
    refine ⟨zk_X8_isClass, zm_X8_isClass hg d (by omega), _, rfl, ⟨by omega, by omega⟩, ?_⟩
    intro x16 kx16 lx16
    refine And.intro ⟨by omega, by omega⟩ (And.intro (fun c17 => ?_) (fun c17 => ?_))
    · refine Exists.intro (Int.toNat ((2147483648 - (v2 + 1)) * 4294967296 + 4294967295)) (And.intro (by omega) ?_)
      exact ⟨(fun _ => ⟨_, rfl, z0, ⟨by omega, by omega⟩, rfl⟩), (fun h => absurd h (by decide))⟩
    · refine And.intro ha1 ⟨zk_X4_arity, zm_X4_arity hg d (by omega), _, _, rfl, ha1, ⟨by omega, by omega⟩, ?_⟩
      intro x18 kx18 lx18
      refine And.intro ⟨⟨by omega, by omega⟩, ⟨by omega, by omega⟩⟩ (And.intro (fun c19 => ?_) (fun c19 => ?_))
      · refine Exists.intro (Int.toNat ((2147483648 - (v2 + 1)) * 4294967296 + 4294967295)) (And.intro (by omega) ?_)
        exact ⟨(fun _ => ⟨_, rfl, z0, ⟨by omega, by omega⟩, rfl⟩), (fun h => absurd h (by decide))⟩
      · refine And.intro ha1 ⟨zk_X4_endOfPart, zm_X4_endOfPart hg d (by omega), _, _, rfl, ha1, ⟨by omega, by omega⟩, ?_⟩
        intro x20 kx20 lx20
        refine And.intro ha1 ?_
        refine And.intro ha1 ?_
        refine ⟨zk_X8_at, zm_X8_at hg d (by omega), _, _, _, rfl, ⟨by omega, by omega⟩, ?_⟩
        refine And.intro (zfa (o := 2) (y2 := 16) ha1 rfl) ?_
        intro x21 kx21 lx21 fx21 gx21
        intro x22 hx22 kx22 lx22
        refine ⟨_, zOk_tag (zm_X7_addWays hg d (by omega)), [.inr (.inr (6, 6)), .inr (.inr ((Nat.add a1 11), 1001)), .inl v4, .inl x20, .inl x22], rfl, _, _, _, _, rfl, (zIa_f (zfa (o := 11) (y2 := 25) ha1 rfl) (by decide) (by decide)), ⟨by omega, by omega⟩, ⟨by omega, by omega⟩, ⟨by omega, by omega⟩, ?_⟩
        intro m23 qm23
        have z24 := zl0_t z0 qm23
        refine Exists.intro (Int.toNat ((2147483648 - v2) * 4294967296 + (2147483648 - (v5 + 1)))) (And.intro (by omega) ?_)
        exact ⟨(fun h => absurd h (by decide)), (fun _ => ⟨_, _, _, _, rfl, z24, ⟨by omega, by omega⟩, ⟨by omega, by omega⟩, ⟨by omega, by omega⟩, ⟨by omega, by omega⟩, rfl⟩)⟩
def zk_X1_startOver : zC := fun As μ Q => ∃ (t : Nat), As = [.inr (.inr (t, 26))] ∧ (t = 26 ∨ t = 44) ∧ (∀ (μ' : zM), zl0 μ μ' → Q none μ')
set_option maxHeartbeats 4000000 in
theorem zm_X1_startOver {g : zΓ} (hg : zg g) (d : Nat) (hd : 2 ≤ d) : zOk g d 18 zk_X1_startOver := by
  obtain ⟨d, rfl⟩ : ∃ d', d = d' + 1 := ⟨d - 1, by omega⟩
  refine zOk_straight hg (show mt_tab[18]? = some mt_X1_startOver from rfl) [] 13 rfl fun As μ Q hC => ?_
  obtain ⟨t, rfl, ht, hQ⟩ := hC
  refine ⟨rfl, ?_⟩
  have z0 : zl0 μ μ := zl0_r μ
  refine And.intro ht ?_
  refine And.intro ⟨by omega, by omega⟩ ?_
  intro m1 em1
  have z2 := zl0_t z0 (zl0_f em1 ht (by decide) (Or.inr (by decide)))
  refine And.intro ht ?_
  refine ⟨_, zOk_tag (zm_J7_fill_53178 hg d (by omega)), [.inr (.inr ((Nat.add t 2), 1001)), .inl 0], rfl, _, _, rfl, (zIa_f (zfa (o := 2) (y2 := 28) ht rfl) (by decide) (by decide)), ⟨by omega, by omega⟩, (by rcases (zfa (o := 2) (y2 := 28) ht rfl) with e | e <;> (rw [e]; exact ⟨by omega, by omega⟩)), (by have := (zfa (o := 2) (y2 := 28) ht rfl); simp only [Nat.add_eq] at this; show _ + _ < 66 ∧ (_ + _ ≠ 26 ∧ _ + _ ≠ 44) ∧ _ + _ ≠ 1; omega), ?_⟩
  intro m3 qm3
  have z4 := zl0_t z2 qm3
  exact And.intro rfl (hQ _ z4)
def zk_X1_addOwn : zC := fun As μ Q => ∃ (t : Nat) (a1 : Int) (a2 : Int) (a3 : Int), As = [.inr (.inr (t, 26)), .inl a1, .inl a2, .inl a3] ∧ (t = 26 ∨ t = 44) ∧ ((-2147483648) ≤ a1 ∧ a1 ≤ 2147483647) ∧ ((-2147483648) ≤ a2 ∧ a2 ≤ 2147483647) ∧ (0 ≤ a3 ∧ a3 ≤ 4) ∧ (zcq μ) ∧ (∀ (μ' : zM), zle μ μ' → Q none μ')
set_option maxHeartbeats 4000000 in
theorem zm_X1_addOwn {g : zΓ} (hg : zg g) (d : Nat) (hd : 4 ≤ d) : zOk g d 21 zk_X1_addOwn := by
  obtain ⟨d, rfl⟩ : ∃ d', d = d' + 1 := ⟨d - 1, by omega⟩
  refine zOk_loop hg (show mt_tab[21]? = some mt_X1_addOwn from rfl) ([(48, [0, 2, 3, 4])], [14, 16, 31, 33, 58, 61]) 49 rfl fun As μ Q hC => ?_
  obtain ⟨t, a1, a2, a3, rfl, ht, ha1, ha2, ha3, hp0, hQ⟩ := hC
  have z0 : zle μ μ := zle_r μ
  refine ⟨rfl, fun pc vs μ' n => ∃ (v2 : Int) (v3 : Int) (v4 : Int), vs = [.inr (.inr (t, 26)), .inl v2, .inl v3, .inl v4] ∧ zle μ μ' ∧ ((-2147483648) ≤ v2 ∧ v2 ≤ 2147483647) ∧ ((-2147483648) ≤ v3 ∧ v3 ≤ 2147483647) ∧ (0 ≤ v4 ∧ v4 ≤ 2147483647) ∧ n = (Int.toNat (2147483648 - v4)), ?_, ?_, trivial⟩
  · refine And.intro ht ⟨zk_X1_makeRoom, zm_X1_makeRoom hg d (by omega), _, _, rfl, ht, ⟨by omega, by omega⟩, (zcq_t hp0 z0), ?_⟩
    intro m1 qm1
    have z2 := zle_t z0 qm1
    refine And.intro ht ?_
    intro x3 hx3 kx3 lx3
    intro x4 hx4 kx4 lx4
    refine And.intro ht ?_
    intro x5 hx5 kx5 lx5
    refine ⟨zk_X8_set, zm_X8_set hg d (by omega), _, _, _, _, rfl, ⟨by omega, by omega⟩, ?_⟩
    refine And.intro (zfa (o := 1) (y2 := 27) ht rfl) ?_
    refine And.intro ⟨by omega, by omega⟩ ?_
    intro m6 qm6 fm6 gm6
    have z7 := zle_0 z2 ⟨qm6, gm6⟩
    refine And.intro ht ?_
    intro x8 hx8 kx8 lx8
    intro x9 hx9 kx9 lx9
    refine ⟨zk_X8_set, zm_X8_set hg d (by omega), _, _, _, _, rfl, ⟨by omega, by omega⟩, ?_⟩
    refine And.intro (zfa (o := 2) (y2 := 28) ht rfl) ?_
    refine And.intro ⟨by omega, by omega⟩ ?_
    intro m10 qm10 fm10 gm10
    have z11 := zle_0 z7 ⟨qm10, gm10⟩
    refine And.intro ht ⟨zk_X1_write, zm_X1_write hg d (by omega), _, _, rfl, ht, ⟨by omega, by omega⟩, ?_⟩
    intro m12 qm12
    have z13 := zle_0 z11 qm12
    refine Exists.intro (Int.toNat (2147483648 - 0)) ?_
    exact ⟨_, _, _, rfl, z13, ⟨by omega, by omega⟩, ⟨by omega, by omega⟩, ⟨by omega, by omega⟩, rfl⟩
  · intro vs m0 n hI
    clear z0
    obtain ⟨v2, v3, v4, rfl, z0, hv2, hv3, hv4, rfl⟩ := hI
    refine And.intro ⟨⟨by omega, by omega⟩, ⟨by omega, by omega⟩⟩ (And.intro (fun c14 => ?_) (fun c14 => ?_))
    · exact And.intro rfl (hQ _ z0)
    · intro x15 hx15 kx15 lx15
      intro x16 hx16 kx16 lx16
      refine And.intro ht ⟨zk_X1_write, zm_X1_write hg d (by omega), _, _, rfl, ht, ⟨by omega, by omega⟩, ?_⟩
      intro m17 qm17
      have z18 := zle_0 z0 qm17
      refine Exists.intro (Int.toNat (2147483648 - (v4 + 1))) (And.intro (by omega) ?_)
      exact ⟨_, _, _, rfl, z18, ⟨by omega, by omega⟩, ⟨by omega, by omega⟩, ⟨by omega, by omega⟩, rfl⟩
def zk_X1_addAny : zC := fun As μ Q => ∃ (t : Nat) (a1 : Int), As = [.inr (.inr (t, 26)), .inl a1] ∧ (t = 26 ∨ t = 44) ∧ ((-2147483648) ≤ a1 ∧ a1 ≤ 2147483647) ∧ (zcq μ) ∧ (∀ (μ' : zM), zle μ μ' → Q none μ')
set_option maxHeartbeats 4000000 in
theorem zm_X1_addAny {g : zΓ} (hg : zg g) (d : Nat) (hd : 4 ≤ d) : zOk g d 22 zk_X1_addAny := by
  obtain ⟨d, rfl⟩ : ∃ d', d = d' + 1 := ⟨d - 1, by omega⟩
  refine zOk_straight hg (show mt_tab[22]? = some mt_X1_addAny from rfl) [7, 28, 45] 40 rfl fun As μ Q hC => ?_
  obtain ⟨t, a1, rfl, ht, ha1, hp0, hQ⟩ := hC
  refine ⟨rfl, ?_⟩
  have z0 : zle μ μ := zle_r μ
  refine And.intro ht ?_
  intro x1 hx1 kx1 lx1
  refine ⟨zk_X8_at, zm_X8_at hg d (by omega), _, _, _, rfl, ⟨by omega, by omega⟩, ?_⟩
  refine And.intro (zfa (o := 2) (y2 := 28) ht rfl) ?_
  intro x2 kx2 lx2 fx2 gx2
  refine And.intro ⟨by omega, by omega⟩ (And.intro (fun c3 => ?_) (fun c3 => ?_))
  · exact And.intro rfl (hQ _ z0)
  · refine And.intro ht ⟨zk_X1_makeRoom, zm_X1_makeRoom hg d (by omega), _, _, rfl, ht, ⟨by omega, by omega⟩, (zcq_t hp0 z0), ?_⟩
    intro m4 qm4
    have z5 := zle_t z0 qm4
    refine And.intro ht ?_
    intro x6 hx6 kx6 lx6
    refine And.intro ht ?_
    intro x7 hx7 kx7 lx7
    refine ⟨zk_X8_set, zm_X8_set hg d (by omega), _, _, _, _, rfl, ⟨by omega, by omega⟩, ?_⟩
    refine And.intro (zfa (o := 1) (y2 := 27) ht rfl) ?_
    refine And.intro ⟨by omega, by omega⟩ ?_
    intro m8 qm8 fm8 gm8
    have z9 := zle_0 z5 ⟨qm8, gm8⟩
    refine And.intro ht ?_
    intro x10 hx10 kx10 lx10
    refine ⟨zk_X8_set, zm_X8_set hg d (by omega), _, _, _, _, rfl, ⟨by omega, by omega⟩, ?_⟩
    refine And.intro (zfa (o := 2) (y2 := 28) ht rfl) ?_
    refine And.intro ⟨by omega, by omega⟩ ?_
    intro m11 qm11 fm11 gm11
    have z12 := zle_0 z9 ⟨qm11, gm11⟩
    refine And.intro ht ⟨zk_X1_write, zm_X1_write hg d (by omega), _, _, rfl, ht, ⟨by omega, by omega⟩, ?_⟩
    intro m13 qm13
    have z14 := zle_0 z12 qm13
    exact And.intro rfl (hQ _ z14)
def zk_X1_sizeWithArgs : zC := fun As μ Q => ∃ (t : Nat) (a1 : Int) (a2 : Int), As = [.inr (.inr (t, 26)), .inl a1, .inl a2] ∧ (t = 26 ∨ t = 44) ∧ ((-2147483648) ≤ a1 ∧ a1 ≤ 2147483647) ∧ ((-2147483648) ≤ a2 ∧ a2 ≤ 2147483647) ∧ (∀ (v : Int), (-60200) ≤ v → v ≤ 60200 → Q (some (.inl v)) μ)
set_option maxHeartbeats 4000000 in
theorem zm_X1_sizeWithArgs {g : zΓ} (hg : zg g) (d : Nat) (hd : 2 ≤ d) : zOk g d 24 zk_X1_sizeWithArgs := by
  obtain ⟨d, rfl⟩ : ∃ d', d = d' + 1 := ⟨d - 1, by omega⟩
  refine zOk_loop hg (show mt_tab[24]? = some mt_X1_sizeWithArgs from rfl) ([(31, [0, 2, 3, 4, 5])], [66, 68]) 50 rfl fun As μ Q hC => ?_
  obtain ⟨t, a1, a2, rfl, ht, ha1, ha2, hQ⟩ := hC
  refine ⟨rfl, fun pc vs μ' n => ∃ (v2 : Int) (v3 : Int) (v4 : Int) (v5 : Int), vs = [.inr (.inr (t, 26)), .inl v2, .inl v3, .inl v4, .inl v5] ∧ μ' = μ ∧ ((-2147483648) ≤ v2 ∧ v2 ≤ 2147483647) ∧ ((-60200) ≤ v3 ∧ v3 ≤ 60200) ∧ ((-2147483648) ≤ v4 ∧ v4 ≤ 2147483647) ∧ ((-2147483648) ≤ v5 ∧ v5 ≤ 2147483647) ∧ (v4 - v5 ≤ 200) ∧ (-(301 * (200 - (v4 - v5))) ≤ v3) ∧ (v3 ≤ 301 * (200 - (v4 - v5))) ∧ (v3 = 0 ∨ v5 ≤ v4) ∧ n = (Int.toNat (2147483648 - v5)), ?_, ?_, trivial⟩
  · refine And.intro ht ?_
    refine ⟨zk_X8_at, zm_X8_at hg d (by omega), _, _, _, rfl, ⟨by omega, by omega⟩, ?_⟩
    refine And.intro (zfa (o := 1) (y2 := 27) ht rfl) ?_
    intro x1 kx1 lx1 fx1 gx1
    refine And.intro ht ?_
    refine ⟨zk_X8_at, zm_X8_at hg d (by omega), _, _, _, rfl, ⟨by omega, by omega⟩, ?_⟩
    refine And.intro (zfa (o := 2) (y2 := 28) ht rfl) ?_
    intro x2 kx2 lx2 fx2 gx2
    refine And.intro ht ?_
    refine ⟨zk_X8_at, zm_X8_at hg d (by omega), _, _, _, rfl, ⟨by omega, by omega⟩, ?_⟩
    refine And.intro (zfa (o := 1) (y2 := 27) ht rfl) ?_
    intro x3 kx3 lx3 fx3 gx3
    refine Exists.intro (Int.toNat (2147483648 - x3)) ?_
    exact ⟨_, _, _, _, rfl, rfl, ⟨by omega, by omega⟩, ⟨by omega, by omega⟩, ⟨by omega, by omega⟩, ⟨by omega, by omega⟩, (by omega), (by omega), (by omega), (by omega), rfl⟩
  · intro vs m0 n hI
    obtain ⟨v2, v3, v4, v5, rfl, rfl, hv2, hv3, hv4, hv5, i0, i1, i2, i3, rfl⟩ := hI
    refine And.intro ⟨⟨by omega, by omega⟩, ⟨by omega, by omega⟩⟩ (And.intro (fun c4 => ?_) (fun c4 => ?_))
    · exact And.intro trivial (And.intro ⟨by omega, by omega⟩ (hQ _ (by omega) (by omega)))
    · refine And.intro ht ?_
      intro t5 et5 ht5
      refine ⟨zk_X8_at, zm_X8_at hg d (by omega), _, _, _, rfl, ⟨by omega, by omega⟩, ?_⟩
      refine And.intro ht5.1 ?_
      intro n6 hn6 kn6 ln6
      intro x7 kx7 lx7 fx7 gx7
      refine ⟨zk_X8_isParameter, zm_X8_isParameter hg d (by omega), _, rfl, ⟨by omega, by omega⟩, ?_⟩
      intro x8 kx8 lx8
      refine And.intro ⟨by omega, by omega⟩ (And.intro (fun c9 => ?_) (fun c9 => ?_))
      · refine Exists.intro (Int.toNat (2147483648 - (v5 + 1))) (And.intro (by omega) ?_)
        exact ⟨_, _, _, _, rfl, rfl, ⟨by omega, by omega⟩, ⟨by omega, by omega⟩, ⟨by omega, by omega⟩, ⟨by omega, by omega⟩, (by omega), (by omega), (by omega), (by omega), rfl⟩
      · refine And.intro ht ?_
        intro x10 hx10 kx10 lx10
        intro x11 hx11 kx11 lx11
        refine ⟨zk_X8_at, zm_X8_at hg d (by omega), _, _, _, rfl, ⟨by omega, by omega⟩, ?_⟩
        refine And.intro (zfa (o := 4) (y2 := 30) ht rfl) ?_
        intro x12 kx12 lx12 fx12 gx12
        refine Exists.intro (Int.toNat (2147483648 - (v5 + 1))) (And.intro (by omega) ?_)
        exact ⟨_, _, _, _, rfl, rfl, ⟨by omega, by omega⟩, ⟨by omega, by omega⟩, ⟨by omega, by omega⟩, ⟨by omega, by omega⟩, (by omega), (by omega), (by omega), (by omega), rfl⟩
def zk_X1_writeArg : zC := fun As μ Q => ∃ (t : Nat) (a1 : Int) (a2 : Nat), As = [.inr (.inr (t, 26)), .inl a1, .inr (.inr (a2, 1001))] ∧ (t = 26 ∨ t = 44) ∧ ((-2147483648) ≤ a1 ∧ a1 ≤ 2147483647) ∧ zIa μ a2 ∧ (∀ (μ' : zM), zl0 μ μ' → Q none μ')
set_option maxHeartbeats 4000000 in
theorem zm_X1_writeArg {g : zΓ} (hg : zg g) (d : Nat) (hd : 2 ≤ d) : zOk g d 25 zk_X1_writeArg := by
  obtain ⟨d, rfl⟩ : ∃ d', d = d' + 1 := ⟨d - 1, by omega⟩
  refine zOk_loop hg (show mt_tab[25]? = some mt_X1_writeArg from rfl) ([(24, [0, 2, 4, 5])], []) 30 rfl fun As μ Q hC => ?_
  obtain ⟨t, a1, a2, rfl, ht, ha1, ha2, hQ⟩ := hC
  have z0 : zl0 μ μ := zl0_r μ
  refine ⟨rfl, fun pc vs μ' n => ∃ (v4 : Int) (v5 : Int), vs = [.inr (.inr (t, 26)), .inr (.inr (a2, 1001)), .inl v4, .inl v5] ∧ zl0 μ μ' ∧ ((-2147483648) ≤ v4 ∧ v4 ≤ 2147483647) ∧ ((-2147483648) ≤ v5 ∧ v5 ≤ 2147483647) ∧ n = (Int.toNat (2147483648 - v5)), ?_, ?_, trivial⟩
  · refine And.intro ht ?_
    refine ⟨zk_X8_at, zm_X8_at hg d (by omega), _, _, _, rfl, ⟨by omega, by omega⟩, ?_⟩
    refine And.intro (zfa (o := 3) (y2 := 29) ht rfl) ?_
    intro x1 kx1 lx1 fx1 gx1
    refine And.intro ht ?_
    refine ⟨zk_X8_at, zm_X8_at hg d (by omega), _, _, _, rfl, ⟨by omega, by omega⟩, ?_⟩
    refine And.intro (zfa (o := 4) (y2 := 30) ht rfl) ?_
    intro x2 kx2 lx2 fx2 gx2
    refine Exists.intro (Int.toNat (2147483648 - x1)) ?_
    exact ⟨_, _, rfl, z0, ⟨by omega, by omega⟩, ⟨by omega, by omega⟩, rfl⟩
  · intro vs m0 n hI
    clear z0
    obtain ⟨v4, v5, rfl, z0, hv4, hv5, rfl⟩ := hI
    refine And.intro ⟨⟨by omega, by omega⟩, ⟨by omega, by omega⟩⟩ (And.intro (fun c3 => ?_) (fun c3 => ?_))
    · exact And.intro rfl (hQ _ z0)
    · refine ⟨zk_X8_at, zm_X8_at hg d (by omega), _, _, _, rfl, ⟨by omega, by omega⟩, ?_⟩
      refine And.intro (zIa_m ha2 z0) ?_
      intro n4 hn4 kn4 ln4
      intro x5 kx5 lx5 fx5 gx5
      refine And.intro ht ⟨zk_X1_write, zm_X1_write hg d (by omega), _, _, rfl, ht, ⟨by omega, by omega⟩, ?_⟩
      intro m6 qm6
      have z7 := zl0_t z0 qm6
      refine Exists.intro (Int.toNat (2147483648 - (v5 + 1))) (And.intro (by omega) ?_)
      exact ⟨_, _, rfl, z7, ⟨by omega, by omega⟩, ⟨by omega, by omega⟩, rfl⟩
def zk_X1_isSame : zC := fun As μ Q => ∃ (t : Nat) (a1 : Int) (a2 : Int) (a3 : Int) (a4 : Int), As = [.inr (.inr (t, 26)), .inl a1, .inl a2, .inl a3, .inl a4] ∧ (t = 26 ∨ t = 44) ∧ ((-2147483648) ≤ a1 ∧ a1 ≤ 2147483647) ∧ ((-2147483648) ≤ a2 ∧ a2 ≤ 2147483647) ∧ ((-2147483648) ≤ a3 ∧ a3 ≤ 2147483647) ∧ ((-2147483648) ≤ a4 ∧ a4 ≤ 2147483647) ∧ (∀ (v : Int), 0 ≤ v → v ≤ 1 → Q (some (.inl v)) μ)
set_option maxHeartbeats 4000000 in
theorem zm_X1_isSame {g : zΓ} (hg : zg g) (d : Nat) (hd : 2 ≤ d) : zOk g d 26 zk_X1_isSame := by
  obtain ⟨d, rfl⟩ : ∃ d', d = d' + 1 := ⟨d - 1, by omega⟩
  refine zOk_loop hg (show mt_tab[26]? = some mt_X1_isSame from rfl) ([(11, [0, 1, 2, 3, 5])], [24, 35]) 34 rfl fun As μ Q hC => ?_
  obtain ⟨t, a1, a2, a3, a4, rfl, ht, ha1, ha2, ha3, ha4, hQ⟩ := hC
  refine ⟨rfl, fun pc vs μ' n => ∃ (v1 : Int) (v2 : Int) (v3 : Int) (v5 : Int), vs = [.inr (.inr (t, 26)), .inl v1, .inl v2, .inl v3, .inl v5] ∧ μ' = μ ∧ ((-2147483648) ≤ v1 ∧ v1 ≤ 2147483647) ∧ ((-2147483648) ≤ v2 ∧ v2 ≤ 2147483647) ∧ ((-2147483648) ≤ v3 ∧ v3 ≤ 2147483647) ∧ (0 ≤ v5 ∧ v5 ≤ 2147483647) ∧ n = (Int.toNat (2147483648 - v5)), ?_, ?_, trivial⟩
  · refine And.intro ⟨⟨by omega, by omega⟩, ⟨by omega, by omega⟩⟩ (And.intro (fun c1 => ?_) (fun c1 => ?_))
    · refine Exists.intro (Int.toNat (2147483648 - 0)) ?_
      exact ⟨_, _, _, _, rfl, rfl, ⟨by omega, by omega⟩, ⟨by omega, by omega⟩, ⟨by omega, by omega⟩, ⟨by omega, by omega⟩, rfl⟩
    · exact And.intro (zrtb (by omega)) (And.intro ⟨by omega, by omega⟩ (hQ _ (by omega) (by omega)))
  · intro vs m0 n hI
    obtain ⟨v1, v2, v3, v5, rfl, rfl, hv1, hv2, hv3, hv5, rfl⟩ := hI
    refine And.intro ⟨⟨by omega, by omega⟩, ⟨by omega, by omega⟩⟩ (And.intro (fun c2 => ?_) (fun c2 => ?_))
    · exact And.intro (zrtb (by omega)) (And.intro ⟨by omega, by omega⟩ (hQ _ (by omega) (by omega)))
    · refine And.intro ht ?_
      intro t3 et3 ht3
      intro x4 hx4 kx4 lx4
      refine ⟨zk_X8_at, zm_X8_at hg d (by omega), _, _, _, rfl, ⟨by omega, by omega⟩, ?_⟩
      refine And.intro ht3.1 ?_
      intro n5 hn5 kn5 ln5
      intro x6 kx6 lx6 fx6 gx6
      refine And.intro ht ?_
      intro t7 et7 ht7
      have qt7 : t3 = t7 := by omega
      subst qt7
      intro x8 hx8 kx8 lx8
      refine ⟨zk_X8_at, zm_X8_at hg d (by omega), _, _, _, rfl, ⟨by omega, by omega⟩, ?_⟩
      refine And.intro ht3.1 ?_
      intro n9 hn9 kn9 ln9
      intro x10 kx10 lx10 fx10 gx10
      refine And.intro ⟨⟨by omega, by omega⟩, ⟨by omega, by omega⟩⟩ (And.intro (fun c11 => ?_) (fun c11 => ?_))
      · refine Exists.intro (Int.toNat (2147483648 - (v5 + 1))) (And.intro (by omega) ?_)
        exact ⟨_, _, _, _, rfl, rfl, ⟨by omega, by omega⟩, ⟨by omega, by omega⟩, ⟨by omega, by omega⟩, ⟨by omega, by omega⟩, rfl⟩
      · exact And.intro (zrtb (by omega)) (And.intro ⟨by omega, by omega⟩ (hQ _ (by omega) (by omega)))
def zk_X1_inherit : zC := fun As μ Q => ∃ (t : Nat) (a1 : Int) (a2 : Int) (a3 : Int) (a4 : Nat), As = [.inr (.inr (t, 26)), .inl a1, .inl a2, .inl a3, .inr (.inr (a4, 25))] ∧ (t = 26 ∨ t = 44) ∧ ((-2147483648) ≤ a1 ∧ a1 ≤ 2147483647) ∧ ((-2147483648) ≤ a2 ∧ a2 ≤ 2147483647) ∧ ((-2147483648) ≤ a3 ∧ a3 ≤ 2147483647) ∧ (a4 = 25 ∨ a4 = 43) ∧ (zcq μ) ∧ (∀ (v : Int) (μ' : zM), zle μ μ' → 0 ≤ v → v ≤ 1 → Q (some (.inl v)) μ')
set_option maxHeartbeats 4000000 in
theorem zm_X1_inherit {g : zΓ} (hg : zg g) (d : Nat) (hd : 4 ≤ d) : zOk g d 23 zk_X1_inherit := by
  obtain ⟨d, rfl⟩ : ∃ d', d = d' + 1 := ⟨d - 1, by omega⟩
  refine zOk_loop hg (show mt_tab[23]? = some mt_X1_inherit from rfl) ([(59, [0, 1, 3, 4, 5, 6, 7, 8])], [90, 92]) 94 rfl fun As μ Q hC => ?_
  obtain ⟨t, a1, a2, a3, a4, rfl, ht, ha1, ha2, ha3, ha4, hp0, hQ⟩ := hC
  have z0 : zle μ μ := zle_r μ
  refine ⟨rfl, fun pc vs μ' n => ∃ (v1 : Int) (v3 : Int) (v5 : Int) (v6 : Int) (v7 : Int) (v8 : Int), vs = [.inr (.inr (t, 26)), .inl v1, .inl v3, .inr (.inr (a4, 25)), .inl v5, .inl v6, .inl v7, .inl v8] ∧ zle μ μ' ∧ ((-2147483648) ≤ v1 ∧ v1 ≤ 2147483647) ∧ ((-2147483648) ≤ v3 ∧ v3 ≤ 2147483647) ∧ ((-60200) ≤ v5 ∧ v5 ≤ 200) ∧ (0 ≤ v6 ∧ v6 ≤ 88400) ∧ ((-2147483648) ≤ v7 ∧ v7 ≤ 2147483647) ∧ ((-2147483648) ≤ v8 ∧ v8 ≤ 2147483647) ∧ n = (Int.toNat (2147483648 - v8)), ?_, ?_, trivial⟩
  · refine And.intro ht ⟨zk_X1_sizeWithArgs, zm_X1_sizeWithArgs hg d (by omega), _, _, _, rfl, ht, ⟨by omega, by omega⟩, ⟨by omega, by omega⟩, ?_⟩
    intro x1 kx1 lx1
    refine And.intro ⟨⟨by omega, by omega⟩, ⟨by omega, by omega⟩⟩ (And.intro (fun c2 => ?_) (fun c2 => ?_))
    · refine And.intro ht ⟨zk_X1_makeRoom, zm_X1_makeRoom hg d (by omega), _, _, rfl, ht, ⟨by omega, by omega⟩, (zcq_t hp0 z0), ?_⟩
      intro m3 qm3
      have z4 := zle_t z0 qm3
      refine And.intro ht ?_
      intro x5 hx5 kx5 lx5
      refine And.intro ht ?_
      refine ⟨zk_X8_at, zm_X8_at hg d (by omega), _, _, _, rfl, ⟨by omega, by omega⟩, ?_⟩
      refine And.intro (zfa (o := 1) (y2 := 27) ht rfl) ?_
      intro x6 kx6 lx6 fx6 gx6
      refine And.intro ht ?_
      refine ⟨zk_X8_at, zm_X8_at hg d (by omega), _, _, _, rfl, ⟨by omega, by omega⟩, ?_⟩
      refine And.intro (zfa (o := 2) (y2 := 28) ht rfl) ?_
      intro x7 kx7 lx7 fx7 gx7
      refine And.intro ht ?_
      refine ⟨zk_X8_at, zm_X8_at hg d (by omega), _, _, _, rfl, ⟨by omega, by omega⟩, ?_⟩
      refine And.intro (zfa (o := 1) (y2 := 27) ht rfl) ?_
      intro x8 kx8 lx8 fx8 gx8
      refine Exists.intro (Int.toNat (2147483648 - x8)) ?_
      exact ⟨_, _, _, _, _, _, rfl, z4, ⟨by omega, by omega⟩, ⟨by omega, by omega⟩, ⟨by omega, by omega⟩, ⟨by omega, by omega⟩, ⟨by omega, by omega⟩, ⟨by omega, by omega⟩, rfl⟩
    · exact And.intro (zrtb (by omega)) (And.intro ⟨by omega, by omega⟩ (hQ _ _ z0 (by omega) (by omega)))
  · intro vs m0 n hI
    clear z0
    obtain ⟨v1, v3, v5, v6, v7, v8, rfl, z0, hv1, hv3, hv5, hv6, hv7, hv8, rfl⟩ := hI
    refine And.intro ⟨⟨by omega, by omega⟩, ⟨by omega, by omega⟩⟩ (And.intro (fun c9 => ?_) (fun c9 => ?_))
    · refine And.intro ht ?_
      refine ⟨zk_X8_at, zm_X8_at hg d (by omega), _, _, _, rfl, ⟨by omega, by omega⟩, ?_⟩
      refine And.intro (zfa (o := 2) (y2 := 28) ht rfl) ?_
      intro x10 kx10 lx10 fx10 gx10
      refine And.intro ⟨by omega, by omega⟩ (And.intro (fun c11 => ?_) (fun c11 => ?_))
      · refine And.intro ht ?_
        refine ⟨zk_X8_set, zm_X8_set hg d (by omega), _, _, _, _, rfl, ⟨by omega, by omega⟩, ?_⟩
        refine And.intro (zfa (o := 1) (y2 := 27) ht rfl) ?_
        refine And.intro ⟨by omega, by omega⟩ ?_
        intro m12 qm12 fm12 gm12
        have z13 := zle_0 z0 ⟨qm12, gm12⟩
        refine And.intro ht ?_
        refine ⟨zk_X8_set, zm_X8_set hg d (by omega), _, _, _, _, rfl, ⟨by omega, by omega⟩, ?_⟩
        refine And.intro (zfa (o := 2) (y2 := 28) ht rfl) ?_
        refine And.intro ⟨by omega, by omega⟩ ?_
        intro m14 qm14 fm14 gm14
        have z15 := zle_0 z13 ⟨qm14, gm14⟩
        exact And.intro (zrtb (by omega)) (And.intro ⟨by omega, by omega⟩ (hQ _ _ z15 (by omega) (by omega)))
      · refine And.intro ht ?_
        refine And.intro ⟨by omega, by omega⟩ ?_
        intro m16 em16
        have z17 := zle_0 z0 (zl0_f em16 ht (by decide) (Or.inr (by decide)))
        refine And.intro ht ?_
        refine ⟨zk_X8_at, zm_X8_at hg d (by omega), _, _, _, rfl, ⟨by omega, by omega⟩, ?_⟩
        refine And.intro (zfa (o := 1) (y2 := 27) ht rfl) ?_
        intro x18 kx18 lx18 fx18 gx18
        refine And.intro ht ?_
        refine ⟨zk_X8_at, zm_X8_at hg d (by omega), _, _, _, rfl, ⟨by omega, by omega⟩, ?_⟩
        refine And.intro (zfa (o := 2) (y2 := 28) ht rfl) ?_
        intro x19 kx19 lx19 fx19 gx19
        refine And.intro ht ⟨zk_X1_isSame, zm_X1_isSame hg d (by omega), _, _, _, _, _, rfl, ht, ⟨by omega, by omega⟩, ⟨by omega, by omega⟩, ⟨by omega, by omega⟩, ⟨by omega, by omega⟩, ?_⟩
        intro x20 kx20 lx20
        exact And.intro (zrtb (by omega)) (And.intro ⟨by omega, by omega⟩ (hQ _ _ z17 (by omega) (by omega)))
    · refine And.intro ht ?_
      intro t21 et21 ht21
      refine ⟨zk_X8_at, zm_X8_at hg d (by omega), _, _, _, rfl, ⟨by omega, by omega⟩, ?_⟩
      refine And.intro ht21.1 ?_
      intro n22 hn22 kn22 ln22
      intro x23 kx23 lx23 fx23 gx23
      refine ⟨zk_X8_isParameter, zm_X8_isParameter hg d (by omega), _, rfl, ⟨by omega, by omega⟩, ?_⟩
      intro x24 kx24 lx24
      refine And.intro ⟨by omega, by omega⟩ (And.intro (fun c25 => ?_) (fun c25 => ?_))
      · refine And.intro ht ⟨zk_X1_write, zm_X1_write hg d (by omega), _, _, rfl, ht, ⟨by omega, by omega⟩, ?_⟩
        intro m26 qm26
        have z27 := zle_0 z0 qm26
        refine Exists.intro (Int.toNat (2147483648 - (v8 + 1))) (And.intro (by omega) ?_)
        exact ⟨_, _, _, _, _, _, rfl, z27, ⟨by omega, by omega⟩, ⟨by omega, by omega⟩, ⟨by omega, by omega⟩, ⟨by omega, by omega⟩, ⟨by omega, by omega⟩, ⟨by omega, by omega⟩, rfl⟩
      · intro x28 hx28 kx28 lx28
        intro x29 hx29 kx29 lx29
        refine And.intro ht ⟨_, zOk_tag (zm_X1_writeArg hg d (by omega)), [.inr (.inr (t, 26)), .inl x29, .inr (.inr (a4, 1001))], rfl, _, _, _, rfl, ht, ⟨by omega, by omega⟩, (zIa_f ha4 (by decide) (by decide)), ?_⟩
        intro m30 qm30
        have z31 := zle_0 z0 qm30
        refine Exists.intro (Int.toNat (2147483648 - (v8 + 1))) (And.intro (by omega) ?_)
        exact ⟨_, _, _, _, _, _, rfl, z31, ⟨by omega, by omega⟩, ⟨by omega, by omega⟩, ⟨by omega, by omega⟩, ⟨by omega, by omega⟩, ⟨by omega, by omega⟩, ⟨by omega, by omega⟩, rfl⟩
def zk_X4_inheritAll : zC := fun As μ Q => ∃ (t : Nat) (a1 : Int) (a2 : Int), As = [.inr (.inr (t, 14)), .inl a1, .inl a2] ∧ (t = 14 ∨ t = 32) ∧ ((-2147483648) ≤ a1 ∧ a1 ≤ 2147483647) ∧ ((-2147483648) ≤ a2 ∧ a2 ≤ 2147483647) ∧ (zcq μ) ∧ (∀ (v : Int) (μ' : zM), zle μ μ' → 0 ≤ v → v ≤ 1 → Q (some (.inl v)) μ')
set_option maxHeartbeats 4000000 in
theorem zm_X4_inheritAll {g : zΓ} (hg : zg g) (d : Nat) (hd : 5 ≤ d) : zOk g d 69 zk_X4_inheritAll := by
  obtain ⟨d, rfl⟩ : ∃ d', d = d' + 1 := ⟨d - 1, by omega⟩
  refine zOk_loop hg (show mt_tab[69]? = some mt_X4_inheritAll from rfl) ([(12, [0, 1, 2, 3, 4])], [38, 41, 45, 48]) 44 rfl fun As μ Q hC => ?_
  obtain ⟨t, a1, a2, rfl, ht, ha1, ha2, hp0, hQ⟩ := hC
  have z0 : zle μ μ := zle_r μ
  refine ⟨rfl, fun pc vs μ' n => ∃ (v1 : Int) (v2 : Int) (v3 : Int) (v4 : Int), vs = [.inr (.inr (t, 14)), .inl v1, .inl v2, .inl v3, .inl v4] ∧ zle μ μ' ∧ ((-2147483648) ≤ v1 ∧ v1 ≤ 2147483647) ∧ ((-2147483648) ≤ v2 ∧ v2 ≤ 2147483647) ∧ ((-2147483648) ≤ v3 ∧ v3 ≤ 2147483647) ∧ (0 ≤ v4 ∧ v4 ≤ 2147483647) ∧ n = (Int.toNat (2147483648 - v4)), ?_, ?_, trivial⟩
  · refine And.intro ht ?_
    refine ⟨zk_X8_at, zm_X8_at hg d (by omega), _, _, _, rfl, ⟨by omega, by omega⟩, ?_⟩
    refine And.intro (zfa (o := 2) (y2 := 16) ht rfl) ?_
    intro x1 kx1 lx1 fx1 gx1
    refine Exists.intro (Int.toNat (2147483648 - 0)) ?_
    exact ⟨_, _, _, _, rfl, z0, ⟨by omega, by omega⟩, ⟨by omega, by omega⟩, ⟨by omega, by omega⟩, ⟨by omega, by omega⟩, rfl⟩
  · intro vs m0 n hI
    clear z0
    obtain ⟨v1, v2, v3, v4, rfl, z0, hv1, hv2, hv3, hv4, rfl⟩ := hI
    refine And.intro ht ?_
    intro x2 hx2 kx2 lx2
    refine And.intro ⟨⟨by omega, by omega⟩, ⟨by omega, by omega⟩⟩ (And.intro (fun c3 => ?_) (fun c3 => ?_))
    · exact And.intro (zrtb (by omega)) (And.intro ⟨by omega, by omega⟩ (hQ _ _ z0 (by omega) (by omega)))
    · refine And.intro ht ⟨zk_X4_overLength, zm_X4_overLength hg d (by omega), _, _, _, rfl, ht, ⟨by omega, by omega⟩, ⟨by omega, by omega⟩, ?_⟩
      intro x4 kx4 lx4
      refine And.intro ⟨by omega, by omega⟩ (And.intro (fun c5 => ?_) (fun c5 => ?_))
      · refine Exists.intro (Int.toNat (2147483648 - (v4 + 1))) (And.intro (by omega) ?_)
        exact ⟨_, _, _, _, rfl, z0, ⟨by omega, by omega⟩, ⟨by omega, by omega⟩, ⟨by omega, by omega⟩, ⟨by omega, by omega⟩, rfl⟩
      · refine And.intro ht ?_
        intro x6 hx6 kx6 lx6
        intro x7 hx7 kx7 lx7
        intro x8 hx8 kx8 lx8
        intro x9 hx9 kx9 lx9
        refine And.intro ht ?_
        refine And.intro (zfa (o := 12) (y2 := 26) ht rfl) ⟨zk_X1_inherit, zm_X1_inherit hg d (by omega), _, _, _, _, _, rfl, (zfa (o := 12) (y2 := 26) ht rfl), ⟨by omega, by omega⟩, ⟨by omega, by omega⟩, ⟨by omega, by omega⟩, (zfa (o := 11) (y2 := 25) ht rfl), (zcq_t hp0 z0), ?_⟩
        intro x10 m11 qm11 kx10 lx10
        have z12 := zle_t z0 qm11
        refine And.intro ⟨by omega, by omega⟩ (And.intro (fun c13 => ?_) (fun c13 => ?_))
        · refine Exists.intro (Int.toNat (2147483648 - (v4 + 1))) (And.intro (by omega) ?_)
          exact ⟨_, _, _, _, rfl, z12, ⟨by omega, by omega⟩, ⟨by omega, by omega⟩, ⟨by omega, by omega⟩, ⟨by omega, by omega⟩, rfl⟩
        · exact And.intro (zrtb (by omega)) (And.intro ⟨by omega, by omega⟩ (hQ _ _ z12 (by omega) (by omega)))
def zk_X4_closeClass : zC := fun As μ Q => ∃ (t : Nat) (a1 : Int), As = [.inr (.inr (t, 14)), .inl a1] ∧ (t = 14 ∨ t = 32) ∧ ((-2147483648) ≤ a1 ∧ a1 ≤ 2147483647) ∧ (zcq μ) ∧ (∀ (v : Int) (μ' : zM), zle μ μ' → 0 ≤ v → v ≤ 1 → Q (some (.inl v)) μ')
set_option maxHeartbeats 4000000 in
theorem zm_X4_closeClass {g : zΓ} (hg : zg g) (d : Nat) (hd : 6 ≤ d) : zOk g d 68 zk_X4_closeClass := by
  obtain ⟨d, rfl⟩ : ∃ d', d = d' + 1 := ⟨d - 1, by omega⟩
  refine zOk_loop hg (show mt_tab[68]? = some mt_X4_closeClass from rfl) ([(23, [0, 1, 2]), (73, [0, 1, 2, 4, 5, 6])], [41, 43]) 82 rfl fun As μ Q hC => ?_
  obtain ⟨t, a1, rfl, ht, ha1, hp0, hQ⟩ := hC
  have z0 : zle μ μ := zle_r μ
  refine ⟨rfl, fun pc vs μ' n => (pc = 23 → ∃ (v1 : Int) (v2 : Int), vs = [.inr (.inr (t, 14)), .inl v1, .inl v2] ∧ zle μ μ' ∧ ((-2147483648) ≤ v1 ∧ v1 ≤ 2147483647) ∧ (0 ≤ v2 ∧ v2 ≤ 2147483647) ∧ n = (Int.toNat ((2147483648 - v2) * 4294967296 + 4294967295))) ∧ (pc = 73 → ∃ (v1 : Int) (v2 : Int) (v4 : Int) (v5 : Int) (v6 : Int), vs = [.inr (.inr (t, 14)), .inl v1, .inl v2, .inl v4, .inl v5, .inl v6] ∧ zle μ μ' ∧ ((-2147483648) ≤ v1 ∧ v1 ≤ 2147483647) ∧ (0 ≤ v2 ∧ v2 ≤ 2147483646) ∧ ((-2147483648) ≤ v4 ∧ v4 ≤ 2147483647) ∧ (0 ≤ v5 ∧ v5 ≤ 301) ∧ (0 ≤ v6 ∧ v6 ≤ 2147483647) ∧ n = (Int.toNat ((2147483648 - v2) * 4294967296 + (2147483648 - v6)))), ?_, ?_, ?_, trivial⟩
  · refine And.intro ht ?_
    refine And.intro ht ?_
    refine ⟨zk_X8_at, zm_X8_at hg d (by omega), _, _, _, rfl, ⟨by omega, by omega⟩, ?_⟩
    refine And.intro (zfa (o := 2) (y2 := 16) ht rfl) ?_
    intro x1 kx1 lx1 fx1 gx1
    refine And.intro ht ⟨zk_X4_arity, zm_X4_arity hg d (by omega), _, _, rfl, ht, ⟨by omega, by omega⟩, ?_⟩
    intro x2 kx2 lx2
    refine And.intro (zfa (o := 12) (y2 := 26) ht rfl) ⟨zk_X1_addOwn, zm_X1_addOwn hg d (by omega), _, _, _, _, rfl, (zfa (o := 12) (y2 := 26) ht rfl), ⟨by omega, by omega⟩, ⟨by omega, by omega⟩, ⟨by omega, by omega⟩, (zcq_t hp0 z0), ?_⟩
    intro m3 qm3
    have z4 := zle_t z0 qm3
    refine Exists.intro (Int.toNat ((2147483648 - 0) * 4294967296 + 4294967295)) ?_
    exact ⟨(fun _ => ⟨_, _, rfl, z4, ⟨by omega, by omega⟩, ⟨by omega, by omega⟩, rfl⟩), (fun h => absurd h (by decide))⟩
  · intro vs m0 n hI
    replace hI := hI.1 rfl
    clear z0
    obtain ⟨v1, v2, rfl, z0, hv1, hv2, rfl⟩ := hI
    refine And.intro ht ?_
    refine ⟨zk_X8_at, zm_X8_at hg d (by omega), _, _, _, rfl, ⟨by omega, by omega⟩, ?_⟩
    refine And.intro (zfa (o := 4) (y2 := 18) ht rfl) ?_
    intro x5 kx5 lx5 fx5 gx5
    refine And.intro ⟨⟨by omega, by omega⟩, ⟨by omega, by omega⟩⟩ (And.intro (fun c6 => ?_) (fun c6 => ?_))
    · refine And.intro ht ?_
      refine And.intro (zfa (o := 12) (y2 := 26) ht rfl) ⟨zk_X1_addAny, zm_X1_addAny hg d (by omega), _, _, rfl, (zfa (o := 12) (y2 := 26) ht rfl), ⟨by omega, by omega⟩, (zcq_t hp0 z0), ?_⟩
      intro m7 qm7
      have z8 := zle_t z0 qm7
      exact And.intro (zrtb (by omega)) (And.intro ⟨by omega, by omega⟩ (hQ _ _ z8 (by omega) (by omega)))
    · refine And.intro ht ?_
      intro x9 hx9 kx9 lx9
      intro x10 hx10 kx10 lx10
      refine ⟨zk_X8_at, zm_X8_at hg d (by omega), _, _, _, rfl, ⟨by omega, by omega⟩, ?_⟩
      refine And.intro (zfa (o := 5) (y2 := 19) ht rfl) ?_
      intro x11 kx11 lx11 fx11 gx11
      refine And.intro ht ?_
      refine ⟨zk_X8_at, zm_X8_at hg d (by omega), _, _, _, rfl, ⟨by omega, by omega⟩, ?_⟩
      refine And.intro (zfa (o := 11) (y2 := 25) ht rfl) ?_
      intro x12 kx12 lx12 fx12 gx12
      refine And.intro ht ?_
      refine And.intro (zfa (o := 12) (y2 := 26) ht rfl) ⟨zk_X1_startArgs, zm_X1_startArgs hg d (by omega), _, rfl, (zfa (o := 12) (y2 := 26) ht rfl), ?_⟩
      intro m13 qm13
      have z14 := zle_0 z0 qm13
      refine Exists.intro (Int.toNat ((2147483648 - v2) * 4294967296 + (2147483648 - 0))) (And.intro (by omega) ?_)
      exact ⟨(fun h => absurd h (by decide)), (fun _ => ⟨_, _, _, _, _, rfl, z14, ⟨by omega, by omega⟩, ⟨by omega, by omega⟩, ⟨by omega, by omega⟩, ⟨by omega, by omega⟩, ⟨by omega, by omega⟩, rfl⟩)⟩
  · intro vs m0 n hI
    replace hI := hI.2 rfl
    clear z0
    obtain ⟨v1, v2, v4, v5, v6, rfl, z0, hv1, hv2, hv4, hv5, hv6, rfl⟩ := hI
    refine And.intro ht ⟨zk_X4_arity, zm_X4_arity hg d (by omega), _, _, rfl, ht, ⟨by omega, by omega⟩, ?_⟩
    intro x15 kx15 lx15
    refine And.intro ⟨⟨by omega, by omega⟩, ⟨by omega, by omega⟩⟩ (And.intro (fun c16 => ?_) (fun c16 => ?_))
    · refine And.intro ht ⟨zk_X4_inheritAll, zm_X4_inheritAll hg d (by omega), _, _, _, rfl, ht, ⟨by omega, by omega⟩, ⟨by omega, by omega⟩, (zcq_t hp0 z0), ?_⟩
      intro x17 m18 qm18 kx17 lx17
      have z19 := zle_t z0 qm18
      refine And.intro ⟨by omega, by omega⟩ (And.intro (fun c20 => ?_) (fun c20 => ?_))
      · refine Exists.intro (Int.toNat ((2147483648 - (v2 + 1)) * 4294967296 + 4294967295)) (And.intro (by omega) ?_)
        exact ⟨(fun _ => ⟨_, _, rfl, z19, ⟨by omega, by omega⟩, ⟨by omega, by omega⟩, rfl⟩), (fun h => absurd h (by decide))⟩
      · exact And.intro (zrtb (by omega)) (And.intro ⟨by omega, by omega⟩ (hQ _ _ z19 (by omega) (by omega)))
    · refine And.intro ht ⟨zk_X4_endOfPart, zm_X4_endOfPart hg d (by omega), _, _, rfl, ht, ⟨by omega, by omega⟩, ?_⟩
      intro x21 kx21 lx21
      refine And.intro ht ?_
      refine And.intro (zfa (o := 12) (y2 := 26) ht rfl) ⟨zk_X1_addArg, zm_X1_addArg hg d (by omega), _, _, _, rfl, (zfa (o := 12) (y2 := 26) ht rfl), ⟨by omega, by omega⟩, ⟨by omega, by omega⟩, ?_⟩
      intro m22 qm22
      have z23 := zle_0 z0 qm22
      refine Exists.intro (Int.toNat ((2147483648 - v2) * 4294967296 + (2147483648 - (v6 + 1)))) (And.intro (by omega) ?_)
      exact ⟨(fun h => absurd h (by decide)), (fun _ => ⟨_, _, _, _, _, rfl, z23, ⟨by omega, by omega⟩, ⟨by omega, by omega⟩, ⟨by omega, by omega⟩, ⟨by omega, by omega⟩, ⟨by omega, by omega⟩, rfl⟩)⟩
def zk_X4_startOver : zC := fun As μ Q => ∃ (t : Nat), As = [.inr (.inr (t, 14))] ∧ (t = 14 ∨ t = 32) ∧ (zcq μ) ∧ (∀ (μ' : zM), zle μ μ' → Q none μ')
set_option maxHeartbeats 4000000 in
theorem zm_X4_startOver {g : zΓ} (hg : zg g) (d : Nat) (hd : 5 ≤ d) : zOk g d 55 zk_X4_startOver := by
  obtain ⟨d, rfl⟩ : ∃ d', d = d' + 1 := ⟨d - 1, by omega⟩
  refine zOk_straight hg (show mt_tab[55]? = some mt_X4_startOver from rfl) [] 28 rfl fun As μ Q hC => ?_
  obtain ⟨t, rfl, ht, hp0, hQ⟩ := hC
  refine ⟨rfl, ?_⟩
  have z0 : zle μ μ := zle_r μ
  refine And.intro ht ?_
  refine And.intro ⟨by omega, by omega⟩ ?_
  intro m1 em1
  have z2 := zle_0 z0 (zl0_f em1 ht (by decide) (Or.inl (by decide)))
  refine And.intro ht ?_
  refine And.intro ⟨by omega, by omega⟩ ?_
  intro m3 em3
  have z4 := zle_0 z2 (zl0_f em3 ht (by decide) (Or.inl (by decide)))
  refine And.intro ht ?_
  refine And.intro ⟨by omega, by omega⟩ ?_
  intro m5 em5
  have z6 := zle_0 z4 (zl0_f em5 ht (by decide) (Or.inl (by decide)))
  refine And.intro ht ?_
  refine And.intro (zfa (o := 12) (y2 := 26) ht rfl) ⟨zk_X1_startOver, zm_X1_startOver hg d (by omega), _, rfl, (zfa (o := 12) (y2 := 26) ht rfl), ?_⟩
  intro m7 qm7
  have z8 := zle_0 z6 qm7
  refine And.intro ht ⟨zk_X4_addClass, zm_X4_addClass hg d (by omega), _, _, rfl, ht, ?_⟩
  intro x9 m10 qm10 kx9 lx9 p11 p12 p13
  have z14 := zle_0 z8 qm10
  refine And.intro ht ?_
  refine And.intro (zfa (o := 12) (y2 := 26) ht rfl) ⟨zk_X1_addOwn, zm_X1_addOwn hg d (by omega), _, _, _, _, rfl, (zfa (o := 12) (y2 := 26) ht rfl), ⟨by omega, by omega⟩, ⟨by omega, by omega⟩, ⟨by omega, by omega⟩, (zcq_t hp0 z14), ?_⟩
  intro m15 qm15
  have z16 := zle_t z14 qm15
  exact And.intro rfl (hQ _ z16)
