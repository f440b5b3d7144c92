/-! ### the class: contracts of its methods -/
def zk_X8_isClass : zC := fun As μ Q => ∃ (a1 : Int), As = [.inl a1] ∧ ((-2147483648) ≤ a1 ∧ a1 ≤ 2147483647) ∧ (∀ (v : Int), 0 ≤ v → v ≤ 1 → Q (some (.inl v)) μ)
set_option maxHeartbeats 4000000 in
theorem zm_X8_isClass {g : zΓ} (hg : zg g) (d : Nat) (hd : 1 ≤ d) : zOk g d 114 zk_X8_isClass := by
  obtain ⟨d, rfl⟩ : ∃ d', d = d' + 1 := ⟨d - 1, by omega⟩
  refine zOk_straight hg (show mt_tab[114]? = some mt_X8_isClass from rfl) [] 14 rfl fun As μ Q hC => ?_
  obtain ⟨a1, rfl, ha1, hQ⟩ := hC
  refine ⟨rfl, ?_⟩
  refine And.intro ⟨by omega, by omega⟩ (And.intro (fun c1 => ?_) (fun c1 => ?_))
  · exact And.intro (zrtb (by omega)) (And.intro ⟨by omega, by omega⟩ (hQ _ (by omega) (by omega)))
  · refine And.intro ⟨⟨by omega, by omega⟩, ⟨by omega, by omega⟩⟩ (And.intro (fun c2 => ?_) (fun c2 => ?_))
    · exact And.intro (zrtb (by omega)) (And.intro ⟨by omega, by omega⟩ (hQ _ (by omega) (by omega)))
    · exact And.intro (zrtb (by omega)) (And.intro ⟨by omega, by omega⟩ (hQ _ (by omega) (by omega)))
def zk_X8_isParameter : zC := fun As μ Q => ∃ (a1 : Int), As = [.inl a1] ∧ ((-2147483648) ≤ a1 ∧ a1 ≤ 2147483647) ∧ (∀ (v : Int), 0 ≤ v → v ≤ 1 → Q (some (.inl v)) μ)
set_option maxHeartbeats 4000000 in
theorem zm_X8_isParameter {g : zΓ} (hg : zg g) (d : Nat) (hd : 1 ≤ d) : zOk g d 115 zk_X8_isParameter := by
  obtain ⟨d, rfl⟩ : ∃ d', d = d' + 1 := ⟨d - 1, by omega⟩
  refine zOk_straight hg (show mt_tab[115]? = some mt_X8_isParameter from rfl) [] 15 rfl fun As μ Q hC => ?_
  obtain ⟨a1, rfl, ha1, hQ⟩ := hC
  refine ⟨rfl, ?_⟩
  refine And.intro ⟨⟨by omega, by omega⟩, ⟨by omega, by omega⟩⟩ (And.intro (fun c1 => ?_) (fun c1 => ?_))
  · exact And.intro (zrtb (by omega)) (And.intro ⟨by omega, by omega⟩ (hQ _ (by omega) (by omega)))
  · refine And.intro ⟨⟨by omega, by omega⟩, ⟨by omega, by omega⟩⟩ (And.intro (fun c2 => ?_) (fun c2 => ?_))
    · exact And.intro (zrtb (by omega)) (And.intro ⟨by omega, by omega⟩ (hQ _ (by omega) (by omega)))
    · exact And.intro (zrtb (by omega)) (And.intro ⟨by omega, by omega⟩ (hQ _ (by omega) (by omega)))
def zk_X8_isWild : zC := fun As μ Q => ∃ (a1 : Int), As = [.inl a1] ∧ ((-2147483648) ≤ a1 ∧ a1 ≤ 2147483647) ∧ (∀ (v : Int), 0 ≤ v → v ≤ 1 → Q (some (.inl v)) μ)
set_option maxHeartbeats 4000000 in
theorem zm_X8_isWild {g : zΓ} (hg : zg g) (d : Nat) (hd : 1 ≤ d) : zOk g d 116 zk_X8_isWild := by
  obtain ⟨d, rfl⟩ : ∃ d', d = d' + 1 := ⟨d - 1, by omega⟩
  refine zOk_straight hg (show mt_tab[116]? = some mt_X8_isWild from rfl) [] 15 rfl fun As μ Q hC => ?_
  obtain ⟨a1, rfl, ha1, hQ⟩ := hC
  refine ⟨rfl, ?_⟩
  refine And.intro ⟨⟨by omega, by omega⟩, ⟨by omega, by omega⟩⟩ (And.intro (fun c1 => ?_) (fun c1 => ?_))
  · exact And.intro (zrtb (by omega)) (And.intro ⟨by omega, by omega⟩ (hQ _ (by omega) (by omega)))
  · refine And.intro ⟨⟨by omega, by omega⟩, ⟨by omega, by omega⟩⟩ (And.intro (fun c2 => ?_) (fun c2 => ?_))
    · exact And.intro (zrtb (by omega)) (And.intro ⟨by omega, by omega⟩ (hQ _ (by omega) (by omega)))
    · exact And.intro (zrtb (by omega)) (And.intro ⟨by omega, by omega⟩ (hQ _ (by omega) (by omega)))
def zk_X5_isLetter : zC := fun As μ Q => ∃ (a1 : Int), As = [.inl a1] ∧ ((-2147483648) ≤ a1 ∧ a1 ≤ 2147483647) ∧ (∀ (v : Int), 0 ≤ v → v ≤ 1 → Q (some (.inl v)) μ)
set_option maxHeartbeats 4000000 in
theorem zm_X5_isLetter {g : zΓ} (hg : zg g) (d : Nat) (hd : 1 ≤ d) : zOk g d 76 zk_X5_isLetter := by
  obtain ⟨d, rfl⟩ : ∃ d', d = d' + 1 := ⟨d - 1, by omega⟩
  refine zOk_straight hg (show mt_tab[76]? = some mt_X5_isLetter from rfl) [] 21 rfl fun As μ Q hC => ?_
  obtain ⟨a1, rfl, ha1, hQ⟩ := hC
  refine ⟨rfl, ?_⟩
  refine And.intro ⟨⟨by omega, by omega⟩, ⟨by omega, by omega⟩⟩ (And.intro (fun c1 => ?_) (fun c1 => ?_))
  · refine And.intro ⟨⟨by omega, by omega⟩, ⟨by omega, by omega⟩⟩ (And.intro (fun c2 => ?_) (fun c2 => ?_))
    · exact And.intro (zrtb (by omega)) (And.intro ⟨by omega, by omega⟩ (hQ _ (by omega) (by omega)))
    · exfalso; omega
  · refine And.intro ⟨⟨by omega, by omega⟩, ⟨by omega, by omega⟩⟩ (And.intro (fun c3 => ?_) (fun c3 => ?_))
    · exact And.intro (zrtb (by omega)) (And.intro ⟨by omega, by omega⟩ (hQ _ (by omega) (by omega)))
    · refine And.intro ⟨⟨by omega, by omega⟩, ⟨by omega, by omega⟩⟩ (And.intro (fun c4 => ?_) (fun c4 => ?_))
      · exact And.intro (zrtb (by omega)) (And.intro ⟨by omega, by omega⟩ (hQ _ (by omega) (by omega)))
      · refine And.intro ⟨⟨by omega, by omega⟩, ⟨by omega, by omega⟩⟩ (And.intro (fun c5 => ?_) (fun c5 => ?_))
        · exact And.intro (zrtb (by omega)) (And.intro ⟨by omega, by omega⟩ (hQ _ (by omega) (by omega)))
        · exact And.intro (zrtb (by omega)) (And.intro ⟨by omega, by omega⟩ (hQ _ (by omega) (by omega)))
def zk_X5_isNameByte : zC := fun As μ Q => ∃ (a1 : Int), As = [.inl a1] ∧ ((-2147483648) ≤ a1 ∧ a1 ≤ 2147483647) ∧ (∀ (v : Int), 0 ≤ v → v ≤ 1 → Q (some (.inl v)) μ)
set_option maxHeartbeats 4000000 in
theorem zm_X5_isNameByte {g : zΓ} (hg : zg g) (d : Nat) (hd : 2 ≤ d) : zOk g d 77 zk_X5_isNameByte := by
  obtain ⟨d, rfl⟩ : ∃ d', d = d' + 1 := ⟨d - 1, by omega⟩
  refine zOk_straight hg (show mt_tab[77]? = some mt_X5_isNameByte from rfl) [] 18 rfl fun As μ Q hC => ?_
  obtain ⟨a1, rfl, ha1, hQ⟩ := hC
  refine ⟨rfl, ?_⟩
  refine ⟨zk_X5_isLetter, zm_X5_isLetter hg d (by omega), _, rfl, ⟨by omega, by omega⟩, ?_⟩
  intro x1 kx1 lx1
  refine And.intro ⟨by omega, by omega⟩ (And.intro (fun c2 => ?_) (fun c2 => ?_))
  · exact And.intro (zrtb (by omega)) (And.intro ⟨by omega, by omega⟩ (hQ _ (by omega) (by omega)))
  · refine And.intro ⟨⟨by omega, by omega⟩, ⟨by omega, by omega⟩⟩ (And.intro (fun c3 => ?_) (fun c3 => ?_))
    · exact And.intro (zrtb (by omega)) (And.intro ⟨by omega, by omega⟩ (hQ _ (by omega) (by omega)))
    · refine And.intro ⟨⟨by omega, by omega⟩, ⟨by omega, by omega⟩⟩ (And.intro (fun c4 => ?_) (fun c4 => ?_))
      · exact And.intro (zrtb (by omega)) (And.intro ⟨by omega, by omega⟩ (hQ _ (by omega) (by omega)))
      · exact And.intro (zrtb (by omega)) (And.intro ⟨by omega, by omega⟩ (hQ _ (by omega) (by omega)))
def zk_X3_isBehindBound : zC := fun As μ Q => ∃ (a1 : Int), As = [.inl a1] ∧ ((-2147483648) ≤ a1 ∧ a1 ≤ 2147483647) ∧ (∀ (v : Int), 0 ≤ v → v ≤ 1 → Q (some (.inl v)) μ)
set_option maxHeartbeats 4000000 in
theorem zm_X3_isBehindBound {g : zΓ} (hg : zg g) (d : Nat) (hd : 1 ≤ d) : zOk g d 45 zk_X3_isBehindBound := by
  obtain ⟨d, rfl⟩ : ∃ d', d = d' + 1 := ⟨d - 1, by omega⟩
  refine zOk_straight hg (show mt_tab[45]? = some mt_X3_isBehindBound from rfl) [] 21 rfl fun As μ Q hC => ?_
  obtain ⟨a1, rfl, ha1, hQ⟩ := hC
  refine ⟨rfl, ?_⟩
  refine And.intro ⟨⟨by omega, by omega⟩, ⟨by omega, by omega⟩⟩ (And.intro (fun c1 => ?_) (fun c1 => ?_))
  · exact And.intro (zrtb (by omega)) (And.intro ⟨by omega, by omega⟩ (hQ _ (by omega) (by omega)))
  · refine And.intro ⟨⟨by omega, by omega⟩, ⟨by omega, by omega⟩⟩ (And.intro (fun c2 => ?_) (fun c2 => ?_))
    · exact And.intro (zrtb (by omega)) (And.intro ⟨by omega, by omega⟩ (hQ _ (by omega) (by omega)))
    · refine And.intro ⟨⟨by omega, by omega⟩, ⟨by omega, by omega⟩⟩ (And.intro (fun c3 => ?_) (fun c3 => ?_))
      · exact And.intro (zrtb (by omega)) (And.intro ⟨by omega, by omega⟩ (hQ _ (by omega) (by omega)))
      · refine And.intro ⟨⟨by omega, by omega⟩, ⟨by omega, by omega⟩⟩ (And.intro (fun c4 => ?_) (fun c4 => ?_))
        · exact And.intro (zrtb (by omega)) (And.intro ⟨by omega, by omega⟩ (hQ _ (by omega) (by omega)))
        · exact And.intro (zrtb (by omega)) (And.intro ⟨by omega, by omega⟩ (hQ _ (by omega) (by omega)))
def zk_X4_arity : zC := fun As μ Q => ∃ (t : Nat) (a1 : Int), As = [.inr (.inr (t, 14)), .inl a1] ∧ (t = 14 ∨ t = 32) ∧ ((-2147483648) ≤ a1 ∧ a1 ≤ 2147483647) ∧ (∀ (v : Int), 0 ≤ v → v ≤ 4 → Q (some (.inl v)) μ)
set_option maxHeartbeats 4000000 in
theorem zm_X4_arity {g : zΓ} (hg : zg g) (d : Nat) (hd : 1 ≤ d) : zOk g d 63 zk_X4_arity := by
  obtain ⟨d, rfl⟩ : ∃ d', d = d' + 1 := ⟨d - 1, by omega⟩
  refine zOk_straight hg (show mt_tab[63]? = some mt_X4_arity from rfl) [] 29 rfl fun As μ Q hC => ?_
  obtain ⟨t, a1, rfl, ht, ha1, hQ⟩ := hC
  refine ⟨rfl, ?_⟩
  refine And.intro ⟨by omega, by omega⟩ (And.intro (fun c1 => ?_) (fun c1 => ?_))
  · refine And.intro ⟨⟨by omega, by omega⟩, ⟨by omega, by omega⟩⟩ (And.intro (fun c2 => ?_) (fun c2 => ?_))
    · exfalso; omega
    · refine And.intro ⟨⟨by omega, by omega⟩, ⟨by omega, by omega⟩⟩ (And.intro (fun c3 => ?_) (fun c3 => ?_))
      · exact And.intro trivial (And.intro ⟨by omega, by omega⟩ (hQ _ (by omega) (by omega)))
      · exfalso; omega
  · refine And.intro ht ?_
    intro x4 hx4 kx4 lx4
    refine And.intro ⟨⟨by omega, by omega⟩, ⟨by omega, by omega⟩⟩ (And.intro (fun c5 => ?_) (fun c5 => ?_))
    · refine And.intro ⟨⟨by omega, by omega⟩, ⟨by omega, by omega⟩⟩ (And.intro (fun c6 => ?_) (fun c6 => ?_))
      · exact And.intro trivial (And.intro ⟨by omega, by omega⟩ (hQ _ (by omega) (by omega)))
      · refine And.intro ⟨⟨by omega, by omega⟩, ⟨by omega, by omega⟩⟩ (And.intro (fun c7 => ?_) (fun c7 => ?_))
        · exact And.intro trivial (And.intro ⟨by omega, by omega⟩ (hQ _ (by omega) (by omega)))
        · exact And.intro trivial (And.intro ⟨by omega, by omega⟩ (hQ _ (by omega) (by omega)))
    · refine And.intro ⟨⟨by omega, by omega⟩, ⟨by omega, by omega⟩⟩ (And.intro (fun c8 => ?_) (fun c8 => ?_))
      · exfalso; omega
      · refine And.intro ht ?_
        refine And.intro (zfa (o := 3) (y2 := 17) ht rfl) ?_
        refine And.intro ⟨by omega, by omega⟩ ?_
        intro x9 hx9 kx9 lx9
        exact And.intro trivial (And.intro ⟨by omega, by omega⟩ (hQ _ (by omega) (by omega)))
def zk_X4_findClass : zC := fun As μ Q => ∃ (t : Nat) (a1 : Int64), As = [.inr (.inr (t, 14)), .inr (.inl a1)] ∧ (t = 14 ∨ t = 32) ∧ (∀ (v : Int), (-1) ≤ v → v ≤ 20 → Q (some (.inl v)) μ)
set_option maxHeartbeats 4000000 in
theorem zm_X4_findClass {g : zΓ} (hg : zg g) (d : Nat) (hd : 1 ≤ d) : zOk g d 60 zk_X4_findClass := by
  obtain ⟨d, rfl⟩ : ∃ d', d = d' + 1 := ⟨d - 1, by omega⟩
  refine zOk_loop hg (show mt_tab[60]? = some mt_X4_findClass from rfl) ([(2, [0, 1, 3])], []) 27 rfl fun As μ Q hC => ?_
  obtain ⟨t, a1, rfl, ht, hQ⟩ := hC
  refine ⟨rfl, fun pc vs μ' n => ∃ (v1 : Int64) (v3 : Int), vs = [.inr (.inr (t, 14)), .inr (.inl v1), .inl v3] ∧ μ' = μ ∧ (0 ≤ v3 ∧ v3 ≤ 2147483647) ∧ n = (Int.toNat (2147483648 - v3)), ?_, ?_, trivial⟩
  · refine Exists.intro (Int.toNat (2147483648 - 0)) ?_
    exact ⟨_, _, rfl, rfl, ⟨by omega, by omega⟩, rfl⟩
  · intro vs m0 n hI
    obtain ⟨v1, v3, rfl, rfl, hv3, rfl⟩ := hI
    refine And.intro ht ?_
    intro x1 hx1 kx1 lx1
    refine And.intro ⟨⟨by omega, by omega⟩, ⟨by omega, by omega⟩⟩ (And.intro (fun c2 => ?_) (fun c2 => ?_))
    · exact And.intro trivial (And.intro ⟨by omega, by omega⟩ (hQ _ (by omega) (by omega)))
    · refine And.intro ⟨⟨by omega, by omega⟩, ⟨by omega, by omega⟩⟩ (And.intro (fun c3 => ?_) (fun c3 => ?_))
      · exfalso; omega
      · refine And.intro ht ?_
        refine And.intro (zfa (o := 1) (y2 := 15) ht rfl) ?_
        refine And.intro ⟨by omega, by omega⟩ ?_
        intro x4 hx4
        intro x5 hx5 kx5 lx5
        refine And.intro ⟨by omega, by omega⟩ (And.intro (fun c6 => ?_) (fun c6 => ?_))
        · refine Exists.intro (Int.toNat (2147483648 - (v3 + 1))) (And.intro (by omega) ?_)
          exact ⟨_, _, rfl, rfl, ⟨by omega, by omega⟩, rfl⟩
        · exact And.intro trivial (And.intro ⟨by omega, by omega⟩ (hQ _ (by omega) (by omega)))
def zk_X4_findParameter : zC := fun As μ Q => ∃ (t : Nat) (a1 : Int) (a2 : Int64), As = [.inr (.inr (t, 14)), .inl a1, .inr (.inl a2)] ∧ (t = 14 ∨ t = 32) ∧ ((-2147483648) ≤ a1 ∧ a1 ≤ 2147483647) ∧ (∀ (v : Int), (-2147483648) ≤ v → v ≤ 2147483647 → Q (some (.inl v)) μ)
set_option maxHeartbeats 4000000 in
theorem zm_X4_findParameter {g : zΓ} (hg : zg g) (d : Nat) (hd : 2 ≤ d) : zOk g d 61 zk_X4_findParameter := by
  obtain ⟨d, rfl⟩ : ∃ d', d = d' + 1 := ⟨d - 1, by omega⟩
  refine zOk_loop hg (show mt_tab[61]? = some mt_X4_findParameter from rfl) ([(43, [0, 2, 5, 6])], [36]) 46 rfl fun As μ Q hC => ?_
  obtain ⟨t, a1, a2, rfl, ht, ha1, hQ⟩ := hC
  refine ⟨rfl, fun pc vs μ' n => ∃ (v2 : Int64) (v5 : Int) (v6 : Int), vs = [.inr (.inr (t, 14)), .inr (.inl v2), .inl v5, .inl v6] ∧ μ' = μ ∧ ((-2147483648) ≤ v5 ∧ v5 ≤ 2147483647) ∧ ((-2147483648) ≤ v6 ∧ v6 ≤ 2147483647) ∧ n = (Int.toNat (2147483648 - v6)), ?_, ?_, trivial⟩
  · refine And.intro ⟨by omega, by omega⟩ (And.intro (fun c1 => ?_) (fun c1 => ?_))
    · exact And.intro trivial (And.intro ⟨by omega, by omega⟩ (hQ _ (by omega) (by omega)))
    · refine And.intro ht ?_
      intro x2 hx2 kx2 lx2
      refine And.intro ⟨⟨by omega, by omega⟩, ⟨by omega, by omega⟩⟩ (And.intro (fun c3 => ?_) (fun c3 => ?_))
      · exact And.intro trivial (And.intro ⟨by omega, by omega⟩ (hQ _ (by omega) (by omega)))
      · refine And.intro ⟨⟨by omega, by omega⟩, ⟨by omega, by omega⟩⟩ (And.intro (fun c4 => ?_) (fun c4 => ?_))
        · refine And.intro ht ?_
          refine And.intro (zfa (o := 2) (y2 := 16) ht rfl) ?_
          refine And.intro ⟨by omega, by omega⟩ ?_
          intro x5 hx5 kx5 lx5
          refine And.intro ht ?_
          refine And.intro (zfa (o := 3) (y2 := 17) ht rfl) ?_
          refine And.intro ⟨by omega, by omega⟩ ?_
          intro x6 hx6 kx6 lx6
          intro x7 hx7 kx7 lx7
          refine Exists.intro (Int.toNat (2147483648 - x5)) ?_
          exact ⟨_, _, _, rfl, rfl, ⟨by omega, by omega⟩, ⟨by omega, by omega⟩, rfl⟩
        · exfalso; omega
  · intro vs m0 n hI
    obtain ⟨v2, v5, v6, rfl, rfl, hv5, hv6, rfl⟩ := hI
    refine And.intro ⟨⟨by omega, by omega⟩, ⟨by omega, by omega⟩⟩ (And.intro (fun c8 => ?_) (fun c8 => ?_))
    · exact And.intro trivial (And.intro ⟨by omega, by omega⟩ (hQ _ (by omega) (by omega)))
    · refine And.intro ht ?_
      refine ⟨zk_X8_nameAt, zm_X8_nameAt hg d (by omega), _, _, _, rfl, ⟨by omega, by omega⟩, by decide, (zfa (o := 6) (y2 := 20) ht rfl), ?_⟩
      intro j9 hj9
      intro x10 hx10 kx10 lx10
      refine And.intro ⟨by omega, by omega⟩ (And.intro (fun c11 => ?_) (fun c11 => ?_))
      · refine Exists.intro (Int.toNat (2147483648 - (v6 + 1))) (And.intro (by omega) ?_)
        exact ⟨_, _, _, rfl, rfl, ⟨by omega, by omega⟩, ⟨by omega, by omega⟩, rfl⟩
      · exact And.intro trivial (And.intro ⟨by omega, by omega⟩ (hQ _ (by omega) (by omega)))
def zk_X4_headOf : zC := fun As μ Q => ∃ (t : Nat) (a1 : Int) (a2 : Int64), As = [.inr (.inr (t, 14)), .inl a1, .inr (.inl a2)] ∧ (t = 14 ∨ t = 32) ∧ ((-2147483648) ≤ a1 ∧ a1 ≤ 2147483647) ∧ (∀ (v : Int), (-2147483648) ≤ v → v ≤ 2147483647 → Q (some (.inl v)) μ)
set_option maxHeartbeats 4000000 in
theorem zm_X4_headOf {g : zΓ} (hg : zg g) (d : Nat) (hd : 3 ≤ d) : zOk g d 62 zk_X4_headOf := by
  obtain ⟨d, rfl⟩ : ∃ d', d = d' + 1 := ⟨d - 1, by omega⟩
  refine zOk_straight hg (show mt_tab[62]? = some mt_X4_headOf from rfl) [17] 20 rfl fun As μ Q hC => ?_
  obtain ⟨t, a1, a2, rfl, ht, ha1, hQ⟩ := hC
  refine ⟨rfl, ?_⟩
  refine And.intro ht ⟨zk_X4_findParameter, zm_X4_findParameter hg d (by omega), _, _, _, rfl, ht, ⟨by omega, by omega⟩, ?_⟩
  intro x1 kx1 lx1
  refine And.intro ⟨by omega, by omega⟩ (And.intro (fun c2 => ?_) (fun c2 => ?_))
  · refine And.intro ht ⟨zk_X4_findClass, zm_X4_findClass hg d (by omega), _, _, rfl, ht, ?_⟩
    intro x3 kx3 lx3
    exact And.intro trivial (And.intro ⟨by omega, by omega⟩ (hQ _ (by omega) (by omega)))
  · intro x4 hx4 kx4 lx4
    exact And.intro trivial (And.intro ⟨by omega, by omega⟩ (hQ _ (by omega) (by omega)))
def zk_X4_overLength : zC := fun As μ Q => ∃ (t : Nat) (a1 : Int) (a2 : Int), As = [.inr (.inr (t, 14)), .inl a1, .inl a2] ∧ (t = 14 ∨ t = 32) ∧ ((-2147483648) ≤ a1 ∧ a1 ≤ 2147483647) ∧ ((-2147483648) ≤ a2 ∧ a2 ≤ 2147483647) ∧ (∀ (v : Int), (-60200) ≤ v → v ≤ 200 → Q (some (.inl v)) μ)
set_option maxHeartbeats 4000000 in
theorem zm_X4_overLength {g : zΓ} (hg : zg g) (d : Nat) (hd : 2 ≤ d) : zOk g d 65 zk_X4_overLength := by
  obtain ⟨d, rfl⟩ : ∃ d', d = d' + 1 := ⟨d - 1, by omega⟩
  refine zOk_straight hg (show mt_tab[65]? = some mt_X4_overLength from rfl) [10, 12] 15 rfl fun As μ Q hC => ?_
  obtain ⟨t, a1, a2, rfl, ht, ha1, ha2, hQ⟩ := hC
  refine ⟨rfl, ?_⟩
  refine And.intro ht ?_
  refine And.intro (zfa (o := 12) (y2 := 26) ht rfl) ?_
  intro x1 hx1 kx1 lx1
  intro x2 hx2 kx2 lx2
  refine ⟨zk_X8_at, zm_X8_at hg d (by omega), _, _, _, rfl, ⟨by omega, by omega⟩, ?_⟩
  refine And.intro (zfa (o := 2) (y2 := 28) (zfa (o := 12) (y2 := 26) ht rfl) rfl) ?_
  intro x3 kx3 lx3 fx3 gx3
  exact And.intro trivial (And.intro ⟨by omega, by omega⟩ (hQ _ (by omega) (by omega)))
def zk_X4_overStart : zC := fun As μ Q => ∃ (t : Nat) (a1 : Int) (a2 : Int), As = [.inr (.inr (t, 14)), .inl a1, .inl a2] ∧ (t = 14 ∨ t = 32) ∧ ((-2147483648) ≤ a1 ∧ a1 ≤ 2147483647) ∧ ((-2147483648) ≤ a2 ∧ a2 ≤ 2147483647) ∧ (∀ (v : Int), (-1) ≤ v → v ≤ 88400 → Q (some (.inl v)) μ)
set_option maxHeartbeats 4000000 in
theorem zm_X4_overStart {g : zΓ} (hg : zg g) (d : Nat) (hd : 2 ≤ d) : zOk g d 66 zk_X4_overStart := by
  obtain ⟨d, rfl⟩ : ∃ d', d = d' + 1 := ⟨d - 1, by omega⟩
  refine zOk_straight hg (show mt_tab[66]? = some mt_X4_overStart from rfl) [10, 12] 15 rfl fun As μ Q hC => ?_
  obtain ⟨t, a1, a2, rfl, ht, ha1, ha2, hQ⟩ := hC
  refine ⟨rfl, ?_⟩
  refine And.intro ht ?_
  refine And.intro (zfa (o := 12) (y2 := 26) ht rfl) ?_
  intro x1 hx1 kx1 lx1
  intro x2 hx2 kx2 lx2
  refine ⟨zk_X8_at, zm_X8_at hg d (by omega), _, _, _, rfl, ⟨by omega, by omega⟩, ?_⟩
  refine And.intro (zfa (o := 1) (y2 := 27) (zfa (o := 12) (y2 := 26) ht rfl) rfl) ?_
  intro x3 kx3 lx3 fx3 gx3
  exact And.intro trivial (And.intro ⟨by omega, by omega⟩ (hQ _ (by omega) (by omega)))
def zk_X4_endOfPart : zC := fun As μ Q => ∃ (t : Nat) (a1 : Int), As = [.inr (.inr (t, 14)), .inl a1] ∧ (t = 14 ∨ t = 32) ∧ (0 ≤ a1 ∧ a1 ≤ 301) ∧ (∀ (v : Int), 0 ≤ v → v ≤ 300 → Q (some (.inl v)) μ)
set_option maxHeartbeats 4000000 in
theorem zm_X4_endOfPart {g : zΓ} (hg : zg g) (d : Nat) (hd : 2 ≤ d) : zOk g d 64 zk_X4_endOfPart := by
  obtain ⟨d, rfl⟩ : ∃ d', d = d' + 1 := ⟨d - 1, by omega⟩
  refine zOk_loop hg (show mt_tab[64]? = some mt_X4_endOfPart from rfl) ([(4, [0, 2, 3])], [27]) 35 rfl fun As μ Q hC => ?_
  obtain ⟨t, a1, rfl, ht, ha1, hQ⟩ := hC
  refine ⟨rfl, fun pc vs μ' n => ∃ (v2 : Int) (v3 : Int), vs = [.inr (.inr (t, 14)), .inl v2, .inl v3] ∧ μ' = μ ∧ ((-2147483648) ≤ v2 ∧ v2 ≤ 2147483647) ∧ (0 ≤ v3 ∧ v3 ≤ 301) ∧ n = (Int.toNat (2147483648 - v3)), ?_, ?_, trivial⟩
  · refine Exists.intro (Int.toNat (2147483648 - a1)) ?_
    exact ⟨_, _, rfl, rfl, ⟨by omega, by omega⟩, ⟨by omega, by omega⟩, rfl⟩
  · intro vs m0 n hI
    obtain ⟨v2, v3, rfl, rfl, hv2, hv3, rfl⟩ := hI
    refine And.intro ht ?_
    intro x1 hx1 kx1 lx1
    refine And.intro ⟨⟨by omega, by omega⟩, ⟨by omega, by omega⟩⟩ (And.intro (fun c2 => ?_) (fun c2 => ?_))
    · refine And.intro ht ?_
      intro x3 hx3 kx3 lx3
      exact And.intro trivial (And.intro ⟨by omega, by omega⟩ (hQ _ (by omega) (by omega)))
    · refine And.intro ht ?_
      refine ⟨zk_X8_at, zm_X8_at hg d (by omega), _, _, _, rfl, ⟨by omega, by omega⟩, ?_⟩
      refine And.intro (zfa (o := 11) (y2 := 25) ht rfl) ?_
      intro x4 kx4 lx4 fx4 gx4
      refine And.intro ht ⟨zk_X4_arity, zm_X4_arity hg d (by omega), _, _, rfl, ht, ⟨by omega, by omega⟩, ?_⟩
      intro x5 kx5 lx5
      intro x6 hx6 kx6 lx6
      refine And.intro ⟨by omega, by omega⟩ (And.intro (fun c7 => ?_) (fun c7 => ?_))
      · refine Exists.intro (Int.toNat (2147483648 - (v3 + 1))) (And.intro (by omega) ?_)
        exact ⟨_, _, rfl, rfl, ⟨by omega, by omega⟩, ⟨by omega, by omega⟩, rfl⟩
      · exact And.intro trivial (And.intro ⟨by omega, by omega⟩ (hQ _ (by omega) (by omega)))
def zk_X4_countOver : zC := fun As μ Q => ∃ (t : Nat) (a1 : Int), As = [.inr (.inr (t, 14)), .inl a1] ∧ (t = 14 ∨ t = 32) ∧ ((-2147483648) ≤ a1 ∧ a1 ≤ 2147483647) ∧ (∀ (v : Int), (-2147483648) ≤ v → v ≤ 2147483647 → Q (some (.inl v)) μ)
set_option maxHeartbeats 4000000 in
theorem zm_X4_countOver {g : zΓ} (hg : zg g) (d : Nat) (hd : 3 ≤ d) : zOk g d 67 zk_X4_countOver := by
  obtain ⟨d, rfl⟩ : ∃ d', d = d' + 1 := ⟨d - 1, by omega⟩
  refine zOk_loop hg (show mt_tab[67]? = some mt_X4_countOver from rfl) ([(4, [0, 1, 2, 3])], []) 23 rfl fun As μ Q hC => ?_
  obtain ⟨t, a1, rfl, ht, ha1, hQ⟩ := hC
  refine ⟨rfl, fun pc vs μ' n => ∃ (v1 : Int) (v2 : Int) (v3 : Int), vs = [.inr (.inr (t, 14)), .inl v1, .inl v2, .inl v3] ∧ μ' = μ ∧ ((-2147483648) ≤ v1 ∧ v1 ≤ 2147483647) ∧ ((-2147483648) ≤ v2 ∧ v2 ≤ 2147483647) ∧ (0 ≤ v3 ∧ v3 ≤ 2147483647) ∧ (0 ≤ v2 ∧ v2 ≤ v3) ∧ n = (Int.toNat (2147483648 - v3)), ?_, ?_, trivial⟩
  · refine Exists.intro (Int.toNat (2147483648 - 0)) ?_
    exact ⟨_, _, _, rfl, rfl, ⟨by omega, by omega⟩, ⟨by omega, by omega⟩, ⟨by omega, by omega⟩, (by omega), rfl⟩
  · intro vs m0 n hI
    obtain ⟨v1, v2, v3, rfl, rfl, hv1, hv2, hv3, i0, rfl⟩ := hI
    refine And.intro ht ?_
    intro x1 hx1 kx1 lx1
    refine And.intro ⟨⟨by omega, by omega⟩, ⟨by omega, by omega⟩⟩ (And.intro (fun c2 => ?_) (fun c2 => ?_))
    · exact And.intro trivial (And.intro ⟨by omega, by omega⟩ (hQ _ (by omega) (by omega)))
    · refine And.intro ht ⟨zk_X4_overLength, zm_X4_overLength hg d (by omega), _, _, _, rfl, ht, ⟨by omega, by omega⟩, ⟨by omega, by omega⟩, ?_⟩
      intro x3 kx3 lx3
      refine And.intro ⟨by omega, by omega⟩ (And.intro (fun c4 => ?_) (fun c4 => ?_))
      · refine Exists.intro (Int.toNat (2147483648 - (v3 + 1))) (And.intro (by omega) ?_)
        exact ⟨_, _, _, rfl, rfl, ⟨by omega, by omega⟩, ⟨by omega, by omega⟩, ⟨by omega, by omega⟩, (by omega), rfl⟩
      · refine Exists.intro (Int.toNat (2147483648 - (v3 + 1))) (And.intro (by omega) ?_)
        exact ⟨_, _, _, rfl, rfl, ⟨by omega, by omega⟩, ⟨by omega, by omega⟩, ⟨by omega, by omega⟩, (by omega), rfl⟩
def zk_X6_head : zC := fun As μ Q => ∃ (a1 : Int), As = [.inr (.inr (59, 59)), .inl a1] ∧ ((-2147483648) ≤ a1 ∧ a1 ≤ 2147483647) ∧ (∀ (v : Int), (-2147483648) ≤ v → v ≤ 2147483647 → Q (some (.inl v)) μ)
set_option maxHeartbeats 4000000 in
theorem zm_X6_head {g : zΓ} (hg : zg g) (d : Nat) (hd : 2 ≤ d) : zOk g d 82 zk_X6_head := by
  obtain ⟨d, rfl⟩ : ∃ d', d = d' + 1 := ⟨d - 1, by omega⟩
  refine zOk_straight hg (show mt_tab[82]? = some mt_X6_head from rfl) [] 16 rfl fun As μ Q hC => ?_
  obtain ⟨a1, rfl, ha1, hQ⟩ := hC
  refine ⟨rfl, ?_⟩
  intro x1 hx1 kx1 lx1
  refine And.intro ⟨⟨by omega, by omega⟩, ⟨by omega, by omega⟩⟩ (And.intro (fun c2 => ?_) (fun c2 => ?_))
  · exact And.intro trivial (And.intro ⟨by omega, by omega⟩ (hQ _ (by omega) (by omega)))
  · refine ⟨zk_X8_at, zm_X8_at hg d (by omega), _, _, _, rfl, ⟨by omega, by omega⟩, ?_⟩
    intro x3 kx3 lx3 fx3 gx3
    exact And.intro trivial (And.intro ⟨by omega, by omega⟩ (hQ _ (by omega) (by omega)))
def zk_X6_part : zC := fun As μ Q => ∃ (a1 : Int) (a2 : Int), As = [.inr (.inr (59, 59)), .inl a1, .inl a2] ∧ ((-2147483648) ≤ a1 ∧ a1 ≤ 2147483647) ∧ ((-2147483648) ≤ a2 ∧ a2 ≤ 2147483647) ∧ (∀ (v : Int), (-2147483648) ≤ v → v ≤ 2147483647 → Q (some (.inl v)) μ)
set_option maxHeartbeats 4000000 in
theorem zm_X6_part {g : zΓ} (hg : zg g) (d : Nat) (hd : 2 ≤ d) : zOk g d 83 zk_X6_part := by
  obtain ⟨d, rfl⟩ : ∃ d', d = d' + 1 := ⟨d - 1, by omega⟩
  refine zOk_straight hg (show mt_tab[83]? = some mt_X6_part from rfl) [31, 45] 35 rfl fun As μ Q hC => ?_
  obtain ⟨a1, a2, rfl, ha1, ha2, hQ⟩ := hC
  refine ⟨rfl, ?_⟩
  intro x1 hx1 kx1 lx1
  refine And.intro ⟨⟨by omega, by omega⟩, ⟨by omega, by omega⟩⟩ (And.intro (fun c2 => ?_) (fun c2 => ?_))
  · refine And.intro ⟨by omega, by omega⟩ (And.intro (fun c3 => ?_) (fun c3 => ?_))
    · exact And.intro trivial (And.intro ⟨by omega, by omega⟩ (hQ _ (by omega) (by omega)))
    · exfalso; omega
  · refine ⟨zk_X8_at, zm_X8_at hg d (by omega), _, _, _, rfl, ⟨by omega, by omega⟩, ?_⟩
    intro x4 kx4 lx4 fx4 gx4
    refine And.intro ⟨by omega, by omega⟩ (And.intro (fun c5 => ?_) (fun c5 => ?_))
    · exact And.intro trivial (And.intro ⟨by omega, by omega⟩ (hQ _ (by omega) (by omega)))
    · refine And.intro ⟨by omega, by omega⟩ (And.intro (fun c6 => ?_) (fun c6 => ?_))
      · exact And.intro trivial (And.intro ⟨by omega, by omega⟩ (hQ _ (by omega) (by omega)))
      · intro x7 hx7 kx7 lx7
        intro x8 hx8 kx8 lx8
        refine And.intro ⟨⟨by omega, by omega⟩, ⟨by omega, by omega⟩⟩ (And.intro (fun c9 => ?_) (fun c9 => ?_))
        · exact And.intro trivial (And.intro ⟨by omega, by omega⟩ (hQ _ (by omega) (by omega)))
        · intro x10 hx10 kx10 lx10
          refine ⟨zk_X8_at, zm_X8_at hg d (by omega), _, _, _, rfl, ⟨by omega, by omega⟩, ?_⟩
          intro x11 kx11 lx11 fx11 gx11
          exact And.intro trivial (And.intro ⟨by omega, by omega⟩ (hQ _ (by omega) (by omega)))
def zk_X6_partsOf : zC := fun As μ Q => ∃ (a1 : Int), As = [.inr (.inr (59, 59)), .inl a1] ∧ ((-2147483648) ≤ a1 ∧ a1 ≤ 2147483647) ∧ (∀ (v : Int), 0 ≤ v → v ≤ 4 → Q (some (.inl v)) μ)
set_option maxHeartbeats 4000000 in
theorem zm_X6_partsOf {g : zΓ} (hg : zg g) (d : Nat) (hd : 3 ≤ d) : zOk g d 84 zk_X6_partsOf := by
  obtain ⟨d, rfl⟩ : ∃ d', d = d' + 1 := ⟨d - 1, by omega⟩
  refine zOk_straight hg (show mt_tab[84]? = some mt_X6_partsOf from rfl) [] 12 rfl fun As μ Q hC => ?_
  obtain ⟨a1, rfl, ha1, hQ⟩ := hC
  refine ⟨rfl, ?_⟩
  intro t1 et1 ht1
  refine ⟨zk_X6_head, zm_X6_head hg d (by omega), _, rfl, ⟨by omega, by omega⟩, ?_⟩
  intro x2 kx2 lx2
  refine And.intro ht1.1 ⟨zk_X4_arity, zm_X4_arity hg d (by omega), _, _, rfl, ht1.1, ⟨by omega, by omega⟩, ?_⟩
  intro x3 kx3 lx3
  exact And.intro trivial (And.intro ⟨by omega, by omega⟩ (hQ _ (by omega) (by omega)))
def zk_X1_startArgs : zC := fun As μ Q => ∃ (t : Nat), As = [.inr (.inr (t, 26))] ∧ (t = 26 ∨ t = 44) ∧ (∀ (μ' : zM), zl0 μ μ' → Q none μ')
set_option maxHeartbeats 4000000 in
theorem zm_X1_startArgs {g : zΓ} (hg : zg g) (d : Nat) (hd : 1 ≤ d) : zOk g d 19 zk_X1_startArgs := by
  obtain ⟨d, rfl⟩ : ∃ d', d = d' + 1 := ⟨d - 1, by omega⟩
  refine zOk_straight hg (show mt_tab[19]? = some mt_X1_startArgs from rfl) [] 9 rfl fun As μ Q hC => ?_
  obtain ⟨t, rfl, ht, hQ⟩ := hC
  refine ⟨rfl, ?_⟩
  have z0 : zl0 μ μ := zl0_r μ
  refine And.intro ht ?_
  refine And.intro ⟨by omega, by omega⟩ ?_
  intro m1 em1
  have z2 := zl0_t z0 (zl0_f em1 ht (by decide) (Or.inr (by decide)))
  exact And.intro rfl (hQ _ z2)
def zk_X1_write : zC := fun As μ Q => ∃ (t : Nat) (a1 : Int), As = [.inr (.inr (t, 26)), .inl a1] ∧ (t = 26 ∨ t = 44) ∧ ((-2147483648) ≤ a1 ∧ a1 ≤ 2147483647) ∧ (∀ (μ' : zM), zl0 μ μ' → Q none μ')
set_option maxHeartbeats 4000000 in
theorem zm_X1_write {g : zΓ} (hg : zg g) (d : Nat) (hd : 1 ≤ d) : zOk g d 28 zk_X1_write := by
  obtain ⟨d, rfl⟩ : ∃ d', d = d' + 1 := ⟨d - 1, by omega⟩
  refine zOk_straight hg (show mt_tab[28]? = some mt_X1_write from rfl) [] 27 rfl fun As μ Q hC => ?_
  obtain ⟨t, a1, rfl, ht, ha1, hQ⟩ := hC
  refine ⟨rfl, ?_⟩
  have z0 : zl0 μ μ := zl0_r μ
  refine And.intro ht ?_
  intro x1 hx1 kx1 lx1
  refine And.intro ⟨by omega, by omega⟩ (And.intro (fun c2 => ?_) (fun c2 => ?_))
  · exfalso; omega
  · refine And.intro ht ?_
    intro x3 hx3 kx3 lx3
    refine And.intro ht ?_
    intro t4 et4 ht4
    refine And.intro ht4.1 ?_
    intro x5 hx5 kx5 lx5
    refine And.intro ⟨⟨by omega, by omega⟩, ⟨by omega, by omega⟩⟩ (And.intro (fun c6 => ?_) (fun c6 => ?_))
    · exact And.intro rfl (hQ _ z0)
    · refine And.intro ht ?_
      intro t7 et7 ht7
      have qt7 : t4 = t7 := by omega
      subst qt7
      refine And.intro ht ?_
      intro x8 hx8 kx8 lx8
      refine And.intro ht4.1 ?_
      refine And.intro ⟨by omega, by omega⟩ (And.intro ⟨by omega, by omega⟩ ?_)
      intro m9 em9
      have z10 := zl0_t z0 (zl0_d em9 ht4.1)
      have : m9.1 t ((6 : Nat) : Int) = μ.1 t ((6 : Nat) : Int) := by rw [em9]; exact congrFun (zu_ne (show (t : Nat) ≠ t4 by have := ht4.1.1; omega)) _
      refine And.intro ht ?_
      intro x11 hx11 kx11 lx11
      refine And.intro ht ?_
      refine And.intro ⟨by omega, by omega⟩ ?_
      intro m12 em12
      have z13 := zl0_t z10 (zl0_f em12 ht (by decide) (Or.inr (by decide)))
      have : m12.1 t ((6 : Nat) : Int) = (x11 + 1) := by rw [em12]; exact zu_at
      exact And.intro rfl (hQ _ z13)
def zk_X4_addClass : zC := fun As μ Q => ∃ (t : Nat) (a1 : Int64), As = [.inr (.inr (t, 14)), .inr (.inl a1)] ∧ (t = 14 ∨ t = 32) ∧ (∀ (v : Int) (μ' : zM), zl0 μ μ' → 0 ≤ v → v ≤ 21 → (v = μ.1 t ((12 : Nat) : Int)) → (v ≤ 20 → μ'.1 (Nat.add t 3) v = 0) → (μ'.1 50 ((2 : Nat) : Int) = μ.1 50 ((2 : Nat) : Int)) → Q (some (.inl v)) μ')
set_option maxHeartbeats 4000000 in
theorem zm_X4_addClass {g : zΓ} (hg : zg g) (d : Nat) (hd : 1 ≤ d) : zOk g d 56 zk_X4_addClass := by
  obtain ⟨d, rfl⟩ : ∃ d', d = d' + 1 := ⟨d - 1, by omega⟩
  refine zOk_straight hg (show mt_tab[56]? = some mt_X4_addClass from rfl) [] 40 rfl fun As μ Q hC => ?_
  obtain ⟨t, a1, rfl, ht, hQ⟩ := hC
  refine ⟨rfl, ?_⟩
  have z0 : zl0 μ μ := zl0_r μ
  refine And.intro ht ?_
  intro x1 hx1 kx1 lx1
  refine And.intro ⟨⟨by omega, by omega⟩, ⟨by omega, by omega⟩⟩ (And.intro (fun c2 => ?_) (fun c2 => ?_))
  · exact And.intro trivial (And.intro ⟨by omega, by omega⟩ (hQ _ _ z0 (by omega) (by omega) (by omega) (by omega) (by omega)))
  · refine And.intro ht ?_
    refine And.intro (zfa (o := 1) (y2 := 15) ht rfl) ?_
    refine And.intro ⟨by omega, by omega⟩ ?_
    intro m3 em3
    have z4 := zl0_t z0 (zl0_u em3 (by have hq := (zfa (o := 1) (y2 := 15) ht rfl); simp only [Nat.add_eq] at *; omega) (Or.inl ⟨(by have hq := (zfa (o := 1) (y2 := 15) ht rfl); simp only [Nat.add_eq] at *; omega), (by have hq := (zfa (o := 1) (y2 := 15) ht rfl); simp only [Nat.add_eq] at *; omega)⟩) (Or.inl (by have hq := (zfa (o := 1) (y2 := 15) ht rfl); simp only [Nat.add_eq] at *; omega)))
    have : m3.1 t ((12 : Nat) : Int) = μ.1 t ((12 : Nat) : Int) := by rw [em3]; exact congrFun (zu_ne (show (t : Nat) ≠ Nat.add 3000000 (Nat.add t 1) from (by have hq := (zfa (o := 1) (y2 := 15) ht rfl); simp only [Nat.add_eq] at *; omega))) _
    have : m3.1 (Nat.add t 3) x1 = μ.1 (Nat.add t 3) x1 := by rw [em3]; exact congrFun (zu_ne (show ((Nat.add t 3) : Nat) ≠ Nat.add 3000000 (Nat.add t 1) from (by have hq := (zfa (o := 1) (y2 := 15) ht rfl); simp only [Nat.add_eq] at *; omega))) _
    have : m3.1 50 ((2 : Nat) : Int) = μ.1 50 ((2 : Nat) : Int) := by rw [em3]; exact congrFun (zu_ne (show (50 : Nat) ≠ Nat.add 3000000 (Nat.add t 1) from (by have hq := (zfa (o := 1) (y2 := 15) ht rfl); simp only [Nat.add_eq] at *; omega))) _
    refine And.intro ht ?_
    refine And.intro ht ?_
    intro x5 hx5 kx5 lx5
    refine And.intro (zfa (o := 2) (y2 := 16) ht rfl) ?_
    refine And.intro ⟨by omega, by omega⟩ (And.intro ⟨by omega, by omega⟩ ?_)
    intro m6 em6
    have z7 := zl0_t z4 (zl0_f em6 (zfa (o := 2) (y2 := 16) ht rfl) (by decide) (Or.inl (by decide)))
    have : m6.1 t ((12 : Nat) : Int) = m3.1 t ((12 : Nat) : Int) := by rw [em6]; exact congrFun (zu_ne (show (t : Nat) ≠ (t + 2) by omega)) _
    have : m6.1 (Nat.add t 3) x1 = m3.1 (Nat.add t 3) x1 := by rw [em6]; exact congrFun (zu_ne (show ((t + 3) : Nat) ≠ (t + 2) by omega)) _
    have : m6.1 50 ((2 : Nat) : Int) = m3.1 50 ((2 : Nat) : Int) := by rw [em6]; exact congrFun (zu_ne (show (50 : Nat) ≠ (t + 2) by omega)) _
    refine And.intro ht ?_
    refine And.intro (zfa (o := 3) (y2 := 17) ht rfl) ?_
    refine And.intro ⟨by omega, by omega⟩ (And.intro ⟨by omega, by omega⟩ ?_)
    intro m8 em8
    have z9 := zl0_t z7 (zl0_f em8 (zfa (o := 3) (y2 := 17) ht rfl) (by decide) (Or.inl (by decide)))
    have : m8.1 t ((12 : Nat) : Int) = m6.1 t ((12 : Nat) : Int) := by rw [em8]; exact congrFun (zu_ne (show (t : Nat) ≠ (t + 3) by omega)) _
    have : m8.1 (Nat.add t 3) x1 = 0 := by rw [em8]; exact zu_at
    have : m8.1 50 ((2 : Nat) : Int) = m6.1 50 ((2 : Nat) : Int) := by rw [em8]; exact congrFun (zu_ne (show (50 : Nat) ≠ (t + 3) by omega)) _
    refine And.intro ht ?_
    refine And.intro (zfa (o := 4) (y2 := 18) ht rfl) ?_
    refine And.intro ⟨by omega, by omega⟩ (And.intro ⟨by omega, by omega⟩ ?_)
    intro m10 em10
    have z11 := zl0_t z9 (zl0_f em10 (zfa (o := 4) (y2 := 18) ht rfl) (by decide) (Or.inl (by decide)))
    have : m10.1 t ((12 : Nat) : Int) = m8.1 t ((12 : Nat) : Int) := by rw [em10]; exact congrFun (zu_ne (show (t : Nat) ≠ (t + 4) by omega)) _
    have : m10.1 (Nat.add t 3) x1 = m8.1 (Nat.add t 3) x1 := by rw [em10]; exact congrFun (zu_ne (show ((t + 3) : Nat) ≠ (t + 4) by omega)) _
    have : m10.1 50 ((2 : Nat) : Int) = m8.1 50 ((2 : Nat) : Int) := by rw [em10]; exact congrFun (zu_ne (show (50 : Nat) ≠ (t + 4) by omega)) _
    refine And.intro ht ?_
    intro x12 hx12 kx12 lx12
    refine And.intro ht ?_
    refine And.intro ⟨by omega, by omega⟩ ?_
    intro m13 em13
    have z14 := zl0_t z11 (zl0_f em13 ht (by decide) (Or.inl (by decide)))
    have : m13.1 t ((12 : Nat) : Int) = (x12 + 1) := by rw [em13]; exact zu_at
    have : m13.1 (Nat.add t 3) x1 = m10.1 (Nat.add t 3) x1 := by rw [em13]; exact congrFun (zu_ne (show ((t + 3) : Nat) ≠ t by omega)) _
    have : m13.1 50 ((2 : Nat) : Int) = m10.1 50 ((2 : Nat) : Int) := by rw [em13]; exact congrFun (zu_ne (show (50 : Nat) ≠ t by omega)) _
    exact And.intro trivial (And.intro ⟨by omega, by omega⟩ (hQ _ _ z14 (by omega) (by omega) (by omega) (by omega) (by omega)))
def zk_X4_addParameter : zC := fun As μ Q => ∃ (t : Nat) (a1 : Int) (a2 : Int64), As = [.inr (.inr (t, 14)), .inl a1, .inr (.inl a2)] ∧ (t = 14 ∨ t = 32) ∧ ((-2147483648) ≤ a1 ∧ a1 ≤ 2147483647) ∧ (μ.1 (Nat.add t 3) a1 ≤ 3) ∧ (∀ (μ' : zM), zl0 μ μ' → (μ'.1 (Nat.add t 3) a1 ≤ μ.1 (Nat.add t 3) a1 + 1) → (μ'.1 50 ((2 : Nat) : Int) = μ.1 50 ((2 : Nat) : Int)) → (μ'.1 50 ((5 : Nat) : Int) = μ.1 50 ((5 : Nat) : Int)) → Q none μ')
set_option maxHeartbeats 4000000 in
theorem zm_X4_addParameter {g : zΓ} (hg : zg g) (d : Nat) (hd : 1 ≤ d) : zOk g d 57 zk_X4_addParameter := by
  obtain ⟨d, rfl⟩ : ∃ d', d = d' + 1 := ⟨d - 1, by omega⟩
  refine zOk_straight hg (show mt_tab[57]? = some mt_X4_addParameter from rfl) [] 46 rfl fun As μ Q hC => ?_
  obtain ⟨t, a1, a2, rfl, ht, ha1, hp0, hQ⟩ := hC
  refine ⟨rfl, ?_⟩
  have z0 : zl0 μ μ := zl0_r μ
  refine And.intro ht ?_
  intro x1 hx1 kx1 lx1
  refine And.intro ⟨⟨by omega, by omega⟩, ⟨by omega, by omega⟩⟩ (And.intro (fun c2 => ?_) (fun c2 => ?_))
  · exact And.intro rfl (hQ _ z0 (by omega) (by omega) (by omega))
  · refine And.intro ⟨by omega, by omega⟩ (And.intro (fun c3 => ?_) (fun c3 => ?_))
    · exact And.intro rfl (hQ _ z0 (by omega) (by omega) (by omega))
    · refine And.intro ⟨⟨by omega, by omega⟩, ⟨by omega, by omega⟩⟩ (And.intro (fun c4 => ?_) (fun c4 => ?_))
      · exact And.intro rfl (hQ _ z0 (by omega) (by omega) (by omega))
      · refine And.intro ht ?_
        refine And.intro (zfa (o := 6) (y2 := 20) ht rfl) ?_
        refine And.intro ⟨by omega, by omega⟩ ?_
        intro m5 em5
        have z6 := zl0_t z0 (zl0_u em5 (by have hq := (zfa (o := 6) (y2 := 20) ht rfl); simp only [Nat.add_eq] at *; omega) (Or.inl ⟨(by have hq := (zfa (o := 6) (y2 := 20) ht rfl); simp only [Nat.add_eq] at *; omega), (by have hq := (zfa (o := 6) (y2 := 20) ht rfl); simp only [Nat.add_eq] at *; omega)⟩) (Or.inl (by have hq := (zfa (o := 6) (y2 := 20) ht rfl); simp only [Nat.add_eq] at *; omega)))
        have : m5.1 t ((13 : Nat) : Int) = μ.1 t ((13 : Nat) : Int) := by rw [em5]; exact congrFun (zu_ne (show (t : Nat) ≠ Nat.add 3000000 (Nat.add t 6) from (by have hq := (zfa (o := 6) (y2 := 20) ht rfl); simp only [Nat.add_eq] at *; omega))) _
        have : m5.1 (Nat.add t 3) a1 = μ.1 (Nat.add t 3) a1 := by rw [em5]; exact congrFun (zu_ne (show ((Nat.add t 3) : Nat) ≠ Nat.add 3000000 (Nat.add t 6) from (by have hq := (zfa (o := 6) (y2 := 20) ht rfl); simp only [Nat.add_eq] at *; omega))) _
        have : m5.1 50 ((2 : Nat) : Int) = μ.1 50 ((2 : Nat) : Int) := by rw [em5]; exact congrFun (zu_ne (show (50 : Nat) ≠ Nat.add 3000000 (Nat.add t 6) from (by have hq := (zfa (o := 6) (y2 := 20) ht rfl); simp only [Nat.add_eq] at *; omega))) _
        have : m5.1 50 ((5 : Nat) : Int) = μ.1 50 ((5 : Nat) : Int) := by rw [em5]; exact congrFun (zu_ne (show (50 : Nat) ≠ Nat.add 3000000 (Nat.add t 6) from (by have hq := (zfa (o := 6) (y2 := 20) ht rfl); simp only [Nat.add_eq] at *; omega))) _
        refine And.intro ht ?_
        refine And.intro (zfa (o := 7) (y2 := 21) ht rfl) ?_
        refine And.intro ⟨by omega, by omega⟩ (And.intro ⟨by omega, by omega⟩ ?_)
        intro m7 em7
        have z8 := zl0_t z6 (zl0_f em7 (zfa (o := 7) (y2 := 21) ht rfl) (by decide) (Or.inl (by decide)))
        have : m7.1 t ((13 : Nat) : Int) = m5.1 t ((13 : Nat) : Int) := by rw [em7]; exact congrFun (zu_ne (show (t : Nat) ≠ (t + 7) by omega)) _
        have : m7.1 (Nat.add t 3) a1 = m5.1 (Nat.add t 3) a1 := by rw [em7]; exact congrFun (zu_ne (show ((t + 3) : Nat) ≠ (t + 7) by omega)) _
        have : m7.1 50 ((2 : Nat) : Int) = m5.1 50 ((2 : Nat) : Int) := by rw [em7]; exact congrFun (zu_ne (show (50 : Nat) ≠ (t + 7) by omega)) _
        have : m7.1 50 ((5 : Nat) : Int) = m5.1 50 ((5 : Nat) : Int) := by rw [em7]; exact congrFun (zu_ne (show (50 : Nat) ≠ (t + 7) by omega)) _
        refine And.intro ht ?_
        refine And.intro (zfa (o := 8) (y2 := 22) ht rfl) ?_
        refine And.intro ⟨by omega, by omega⟩ (And.intro ⟨by omega, by omega⟩ ?_)
        intro m9 em9
        have z10 := zl0_t z8 (zl0_f em9 (zfa (o := 8) (y2 := 22) ht rfl) (by decide) (Or.inl (by decide)))
        have : m9.1 t ((13 : Nat) : Int) = m7.1 t ((13 : Nat) : Int) := by rw [em9]; exact congrFun (zu_ne (show (t : Nat) ≠ (t + 8) by omega)) _
        have : m9.1 (Nat.add t 3) a1 = m7.1 (Nat.add t 3) a1 := by rw [em9]; exact congrFun (zu_ne (show ((t + 3) : Nat) ≠ (t + 8) by omega)) _
        have : m9.1 50 ((2 : Nat) : Int) = m7.1 50 ((2 : Nat) : Int) := by rw [em9]; exact congrFun (zu_ne (show (50 : Nat) ≠ (t + 8) by omega)) _
        have : m9.1 50 ((5 : Nat) : Int) = m7.1 50 ((5 : Nat) : Int) := by rw [em9]; exact congrFun (zu_ne (show (50 : Nat) ≠ (t + 8) by omega)) _
        refine And.intro ht ?_
        refine And.intro (zfa (o := 3) (y2 := 17) ht rfl) ?_
        refine And.intro ⟨by omega, by omega⟩ ?_
        intro x11 hx11 kx11 lx11
        refine And.intro (zfa (o := 3) (y2 := 17) ht rfl) ?_
        refine And.intro ⟨by omega, by omega⟩ (And.intro ⟨by omega, by omega⟩ ?_)
        intro m12 em12
        have z13 := zl0_t z10 (zl0_f em12 (zfa (o := 3) (y2 := 17) ht rfl) (by decide) (Or.inl (by decide)))
        have : m12.1 t ((13 : Nat) : Int) = m9.1 t ((13 : Nat) : Int) := by rw [em12]; exact congrFun (zu_ne (show (t : Nat) ≠ (t + 3) by omega)) _
        have : m12.1 (Nat.add t 3) a1 = (x11 + 1) := by rw [em12]; exact zu_at
        have : m12.1 50 ((2 : Nat) : Int) = m9.1 50 ((2 : Nat) : Int) := by rw [em12]; exact congrFun (zu_ne (show (50 : Nat) ≠ (t + 3) by omega)) _
        have : m12.1 50 ((5 : Nat) : Int) = m9.1 50 ((5 : Nat) : Int) := by rw [em12]; exact congrFun (zu_ne (show (50 : Nat) ≠ (t + 3) by omega)) _
        refine And.intro ht ?_
        intro x14 hx14 kx14 lx14
        refine And.intro ht ?_
        refine And.intro ⟨by omega, by omega⟩ ?_
        intro m15 em15
        have z16 := zl0_t z13 (zl0_f em15 ht (by decide) (Or.inl (by decide)))
        have : m15.1 t ((13 : Nat) : Int) = (x14 + 1) := by rw [em15]; exact zu_at
        have : m15.1 (Nat.add t 3) a1 = m12.1 (Nat.add t 3) a1 := by rw [em15]; exact congrFun (zu_ne (show ((t + 3) : Nat) ≠ t by omega)) _
        have : m15.1 50 ((2 : Nat) : Int) = m12.1 50 ((2 : Nat) : Int) := by rw [em15]; exact congrFun (zu_ne (show (50 : Nat) ≠ t by omega)) _
        have : m15.1 50 ((5 : Nat) : Int) = m12.1 50 ((5 : Nat) : Int) := by rw [em15]; exact congrFun (zu_ne (show (50 : Nat) ≠ t by omega)) _
        exact And.intro rfl (hQ _ z16 (by omega) (by omega) (by omega))
def zk_X4_addBound : zC := fun As μ Q => ∃ (t : Nat) (a1 : Int) (a2 : Int) (a3 : Int), As = [.inr (.inr (t, 14)), .inl a1, .inl a2, .inl a3] ∧ (t = 14 ∨ t = 32) ∧ ((-2147483648) ≤ a1 ∧ a1 ≤ 2147483647) ∧ (0 ≤ a2 ∧ a2 ≤ 300) ∧ ((-300) ≤ a3 ∧ a3 ≤ 300) ∧ (∀ (μ' : zM), zl0 μ μ' → Q none μ')
set_option maxHeartbeats 4000000 in
theorem zm_X4_addBound {g : zΓ} (hg : zg g) (d : Nat) (hd : 2 ≤ d) : zOk g d 58 zk_X4_addBound := by
  obtain ⟨d, rfl⟩ : ∃ d', d = d' + 1 := ⟨d - 1, by omega⟩
  refine zOk_straight hg (show mt_tab[58]? = some mt_X4_addBound from rfl) [27, 30, 41, 44] 41 rfl fun As μ Q hC => ?_
  obtain ⟨t, a1, a2, a3, rfl, ht, ha1, ha2, ha3, hQ⟩ := hC
  refine ⟨rfl, ?_⟩
  have z0 : zl0 μ μ := zl0_r μ
  refine And.intro ht ?_
  refine ⟨zk_X8_at, zm_X8_at hg d (by omega), _, _, _, rfl, ⟨by omega, by omega⟩, ?_⟩
  refine And.intro (zfa (o := 8) (y2 := 22) ht rfl) ?_
  intro x1 kx1 lx1 fx1 gx1
  refine And.intro ⟨by omega, by omega⟩ (And.intro (fun c2 => ?_) (fun c2 => ?_))
  · exact And.intro rfl (hQ _ z0)
  · refine And.intro ⟨⟨by omega, by omega⟩, ⟨by omega, by omega⟩⟩ (And.intro (fun c3 => ?_) (fun c3 => ?_))
    · exact And.intro rfl (hQ _ z0)
    · refine And.intro ht ?_
      intro x4 hx4 kx4 lx4
      intro x5 hx5 kx5 lx5
      refine ⟨zk_X8_set, zm_X8_set hg d (by omega), _, _, _, _, rfl, ⟨by omega, by omega⟩, ?_⟩
      refine And.intro (zfa (o := 9) (y2 := 23) ht rfl) ?_
      refine And.intro ⟨by omega, by omega⟩ ?_
      intro m6 qm6 fm6 gm6
      have z7 := zl0_t z0 ⟨qm6, gm6⟩
      refine And.intro ht ?_
      intro x8 hx8 kx8 lx8
      intro x9 hx9 kx9 lx9
      refine ⟨zk_X8_set, zm_X8_set hg d (by omega), _, _, _, _, rfl, ⟨by omega, by omega⟩, ?_⟩
      refine And.intro (zfa (o := 10) (y2 := 24) ht rfl) ?_
      refine And.intro ⟨by omega, by omega⟩ ?_
      intro m10 qm10 fm10 gm10
      have z11 := zl0_t z7 ⟨qm10, gm10⟩
      refine And.intro ht ?_
      refine ⟨zk_X8_set, zm_X8_set hg d (by omega), _, _, _, _, rfl, ⟨by omega, by omega⟩, ?_⟩
      refine And.intro (zfa (o := 8) (y2 := 22) ht rfl) ?_
      refine And.intro ⟨by omega, by omega⟩ ?_
      intro m12 qm12 fm12 gm12
      have z13 := zl0_t z11 ⟨qm12, gm12⟩
      exact And.intro rfl (hQ _ z13)
def zk_X4_addSuper : zC := fun As μ Q => ∃ (t : Nat) (a1 : Int) (a2 : Int), As = [.inr (.inr (t, 14)), .inl a1, .inl a2] ∧ (t = 14 ∨ t = 32) ∧ ((-2147483648) ≤ a1 ∧ a1 ≤ 2147483647) ∧ (0 ≤ a2 ∧ a2 ≤ 300) ∧ (∀ (μ' : zM), zl0 μ μ' → Q none μ')
set_option maxHeartbeats 4000000 in
theorem zm_X4_addSuper {g : zΓ} (hg : zg g) (d : Nat) (hd : 2 ≤ d) : zOk g d 59 zk_X4_addSuper := by
  obtain ⟨d, rfl⟩ : ∃ d', d = d' + 1 := ⟨d - 1, by omega⟩
  refine zOk_straight hg (show mt_tab[59]? = some mt_X4_addSuper from rfl) [24, 26] 32 rfl fun As μ Q hC => ?_
  obtain ⟨t, a1, a2, rfl, ht, ha1, ha2, hQ⟩ := hC
  refine ⟨rfl, ?_⟩
  have z0 : zl0 μ μ := zl0_r μ
  refine And.intro ht ?_
  refine ⟨zk_X8_at, zm_X8_at hg d (by omega), _, _, _, rfl, ⟨by omega, by omega⟩, ?_⟩
  refine And.intro (zfa (o := 4) (y2 := 18) ht rfl) ?_
  intro x1 kx1 lx1 fx1 gx1
  refine And.intro ⟨by omega, by omega⟩ (And.intro (fun c2 => ?_) (fun c2 => ?_))
  · exact And.intro rfl (hQ _ z0)
  · refine And.intro ⟨⟨by omega, by omega⟩, ⟨by omega, by omega⟩⟩ (And.intro (fun c3 => ?_) (fun c3 => ?_))
    · exact And.intro rfl (hQ _ z0)
    · refine And.intro ht ?_
      intro x4 hx4 kx4 lx4
      intro x5 hx5 kx5 lx5
      refine ⟨zk_X8_set, zm_X8_set hg d (by omega), _, _, _, _, rfl, ⟨by omega, by omega⟩, ?_⟩
      refine And.intro (zfa (o := 5) (y2 := 19) ht rfl) ?_
      refine And.intro ⟨by omega, by omega⟩ ?_
      intro m6 qm6 fm6 gm6
      have z7 := zl0_t z0 ⟨qm6, gm6⟩
      refine And.intro ht ?_
      refine ⟨zk_X8_set, zm_X8_set hg d (by omega), _, _, _, _, rfl, ⟨by omega, by omega⟩, ?_⟩
      refine And.intro (zfa (o := 4) (y2 := 18) ht rfl) ?_
      refine And.intro ⟨by omega, by omega⟩ ?_
      intro m8 qm8 fm8 gm8
      have z9 := zl0_t z7 ⟨qm8, gm8⟩
      exact And.intro rfl (hQ _ z9)
def zk_X1_addArg : zC := fun As μ Q => ∃ (t : Nat) (a1 : Int) (a2 : Int), As = [.inr (.inr (t, 26)), .inl a1, .inl a2] ∧ (t = 26 ∨ t = 44) ∧ (0 ≤ a1 ∧ a1 ≤ 301) ∧ ((-301) ≤ a2 ∧ a2 ≤ 301) ∧ (∀ (μ' : zM), zl0 μ μ' → Q none μ')
set_option maxHeartbeats 4000000 in
theorem zm_X1_addArg {g : zΓ} (hg : zg g) (d : Nat) (hd : 2 ≤ d) : zOk g d 20 zk_X1_addArg := by
  obtain ⟨d, rfl⟩ : ∃ d', d = d' + 1 := ⟨d - 1, by omega⟩
  refine zOk_straight hg (show mt_tab[20]? = some mt_X1_addArg from rfl) [30] 24 rfl fun As μ Q hC => ?_
  obtain ⟨t, a1, a2, rfl, ht, ha1, ha2, hQ⟩ := hC
  refine ⟨rfl, ?_⟩
  have z0 : zl0 μ μ := zl0_r μ
  refine And.intro ht ?_
  refine And.intro ht ?_
  intro x1 hx1 kx1 lx1
  refine ⟨zk_X8_set, zm_X8_set hg d (by omega), _, _, _, _, rfl, ⟨by omega, by omega⟩, ?_⟩
  refine And.intro (zfa (o := 3) (y2 := 29) ht rfl) ?_
  refine And.intro ⟨by omega, by omega⟩ ?_
  intro m2 qm2 fm2 gm2
  have z3 := zl0_t z0 ⟨qm2, gm2⟩
  refine And.intro ht ?_
  refine And.intro ht ?_
  intro x4 hx4 kx4 lx4
  refine ⟨zk_X8_set, zm_X8_set hg d (by omega), _, _, _, _, rfl, ⟨by omega, by omega⟩, ?_⟩
  refine And.intro (zfa (o := 4) (y2 := 30) ht rfl) ?_
  refine And.intro ⟨by omega, by omega⟩ ?_
  intro m5 qm5 fm5 gm5
  have z6 := zl0_t z3 ⟨qm5, gm5⟩
  refine And.intro ht ?_
  intro x7 hx7 kx7 lx7
  intro x8 hx8 kx8 lx8
  refine And.intro ht ?_
  refine And.intro ⟨by omega, by omega⟩ ?_
  intro m9 em9
  have z10 := zl0_t z6 (zl0_f em9 ht (by decide) (Or.inr (by decide)))
  exact And.intro rfl (hQ _ z10)
def zk_X7_joinReach : zC := fun As μ Q => ∃ (a1 : Int) (a2 : Int) (a3 : Int), As = [.inr (.inr (6, 6)), .inl a1, .inl a2, .inl a3] ∧ ((-2147483648) ≤ a1 ∧ a1 ≤ 2147483647) ∧ ((-2147483648) ≤ a2 ∧ a2 ≤ 2147483647) ∧ ((-2147483648) ≤ a3 ∧ a3 ≤ 2147483647) ∧ (∀ (μ' : zM), zl0 μ μ' → Q none μ')
set_option maxHeartbeats 4000000 in
theorem zm_X7_joinReach {g : zΓ} (hg : zg g) (d : Nat) (hd : 2 ≤ d) : zOk g d 93 zk_X7_joinReach := by
  obtain ⟨d, rfl⟩ : ∃ d', d = d' + 1 := ⟨d - 1, by omega⟩
  refine zOk_loop hg (show mt_tab[93]? = some mt_X7_joinReach from rfl) ([(3, [0, 1, 2, 3, 4])], [16, 19, 33, 36]) 31 rfl fun As μ Q hC => ?_
  obtain ⟨a1, a2, a3, rfl, ha1, ha2, ha3, hQ⟩ := hC
  have z0 : zl0 μ μ := zl0_r μ
  refine ⟨rfl, fun pc vs μ' n => ∃ (v1 : Int) (v2 : Int) (v3 : Int) (v4 : Int), vs = [.inr (.inr (6, 6)), .inl v1, .inl v2, .inl v3, .inl v4] ∧ zl0 μ μ' ∧ ((-2147483648) ≤ v1 ∧ v1 ≤ 2147483647) ∧ ((-2147483648) ≤ v2 ∧ v2 ≤ 2147483647) ∧ ((-2147483648) ≤ v3 ∧ v3 ≤ 2147483647) ∧ (0 ≤ v4 ∧ v4 ≤ 2147483647) ∧ n = (Int.toNat (2147483648 - v4)), ?_, ?_, trivial⟩
  · refine Exists.intro (Int.toNat (2147483648 - 0)) ?_
    exact ⟨_, _, _, _, rfl, z0, ⟨by omega, by omega⟩, ⟨by omega, by omega⟩, ⟨by omega, by omega⟩, ⟨by omega, by omega⟩, rfl⟩
  · intro vs m0 n hI
    clear z0
    obtain ⟨v1, v2, v3, v4, rfl, z0, hv1, hv2, hv3, hv4, rfl⟩ := hI
    refine And.intro ⟨⟨by omega, by omega⟩, ⟨by omega, by omega⟩⟩ (And.intro (fun c1 => ?_) (fun c1 => ?_))
    · exact And.intro rfl (hQ _ z0)
    · intro x2 hx2 kx2 lx2
      intro x3 hx3 kx3 lx3
      refine ⟨zk_X8_at, zm_X8_at hg d (by omega), _, _, _, rfl, ⟨by omega, by omega⟩, ?_⟩
      intro x4 kx4 lx4 fx4 gx4
      refine And.intro ⟨by omega, by omega⟩ (And.intro (fun c5 => ?_) (fun c5 => ?_))
      · refine Exists.intro (Int.toNat (2147483648 - (v4 + 1))) (And.intro (by omega) ?_)
        exact ⟨_, _, _, _, rfl, z0, ⟨by omega, by omega⟩, ⟨by omega, by omega⟩, ⟨by omega, by omega⟩, ⟨by omega, by omega⟩, rfl⟩
      · intro x6 hx6 kx6 lx6
        intro x7 hx7 kx7 lx7
        refine ⟨zk_X8_set, zm_X8_set hg d (by omega), _, _, _, _, rfl, ⟨by omega, by omega⟩, ?_⟩
        refine And.intro ⟨by omega, by omega⟩ ?_
        intro m8 qm8 fm8 gm8
        have z9 := zl0_t z0 ⟨qm8, gm8⟩
        refine Exists.intro (Int.toNat (2147483648 - (v4 + 1))) (And.intro (by omega) ?_)
        exact ⟨_, _, _, _, rfl, z9, ⟨by omega, by omega⟩, ⟨by omega, by omega⟩, ⟨by omega, by omega⟩, ⟨by omega, by omega⟩, rfl⟩
