/-! ### the class: contracts of its methods -/
def zk_X8_isClass : zC := fun As μ Q => ∃ (a1 : Int), As = [.inl a1] ∧ ((-2147483648) ≤ a1 ∧ a1 ≤ 2147483647) ∧ (∀ (v : Int), 0 ≤ v → v ≤ 1 → Q (some (.inl v)) μ)
set_option maxHeartbeats 4000000 in
theorem zm_X8_isClass {g : zΓ} (hg : zg g) (d : Nat) (hd : 1 ≤ d) : zOk g d 114 zk_X8_isClass := by
  obtain ⟨d, rfl⟩ : ∃ d', d = d' + 1 := ⟨d - 1, by omega⟩
  refine zOk_straight hg (show mt_tab[114]? = some mt_X8_isClass from rfl) [] 14 rfl fun As μ Q hC => ?_
  obtain ⟨a1, rfl, ha1, hQ⟩ := hC
  refine ⟨rfl, ?_⟩
  refine And.intro ⟨by omega, by omega⟩ (And.intro (fun c1 => ?_) (fun c1 => ?_))
  · exact And.intro (zrtb (by omega)) (And.intro ⟨by omega, by omega⟩ (hQ _ (by omega) (by omega)))
  · refine And.intro ⟨⟨by omega, by omega⟩, ⟨by omega, by omega⟩⟩ (And.intro (fun c2 => ?_) (fun c2 => ?_))
    · exact And.intro (zrtb (by omega)) (And.intro ⟨by omega, by omega⟩ (hQ _ (by omega) (by omega)))
    · exact And.intro (zrtb (by omega)) (And.intro ⟨by omega, by omega⟩ (hQ _ (by omega) (by omega)))
def zk_X8_isParameter : zC := fun As μ Q => ∃ (a1 : Int), As = [.inl a1] ∧ ((-2147483648) ≤ a1 ∧ a1 ≤ 2147483647) ∧ (∀ (v : Int), 0 ≤ v → v ≤ 1 → Q (some (.inl v)) μ)
set_option maxHeartbeats 4000000 in
theorem zm_X8_isParameter {g : zΓ} (hg : zg g) (d : Nat) (hd : 1 ≤ d) : zOk g d 115 zk_X8_isParameter := by
  obtain ⟨d, rfl⟩ : ∃ d', d = d' + 1 := ⟨d - 1, by omega⟩
  refine zOk_straight hg (show mt_tab[115]? = some mt_X8_isParameter from rfl) [] 15 rfl fun As μ Q hC => ?_
  obtain ⟨a1, rfl, ha1, hQ⟩ := hC
  refine ⟨rfl, ?_⟩
  refine And.intro ⟨⟨by omega, by omega⟩, ⟨by omega, by omega⟩⟩ (And.intro (fun c1 => ?_) (fun c1 => ?_))
  · exact And.intro (zrtb (by omega)) (And.intro ⟨by omega, by omega⟩ (hQ _ (by omega) (by omega)))
  · refine And.intro ⟨⟨by omega, by omega⟩, ⟨by omega, by omega⟩⟩ (And.intro (fun c2 => ?_) (fun c2 => ?_))
    · exact And.intro (zrtb (by omega)) (And.intro ⟨by omega, by omega⟩ (hQ _ (by omega) (by omega)))
    · exact And.intro (zrtb (by omega)) (And.intro ⟨by omega, by omega⟩ (hQ _ (by omega) (by omega)))
def zk_X8_isWild : zC := fun As μ Q => ∃ (a1 : Int), As = [.inl a1] ∧ ((-2147483648) ≤ a1 ∧ a1 ≤ 2147483647) ∧ (∀ (v : Int), 0 ≤ v → v ≤ 1 → Q (some (.inl v)) μ)
set_option maxHeartbeats 4000000 in
theorem zm_X8_isWild {g : zΓ} (hg : zg g) (d : Nat) (hd : 1 ≤ d) : zOk g d 116 zk_X8_isWild := by
  obtain ⟨d, rfl⟩ : ∃ d', d = d' + 1 := ⟨d - 1, by omega⟩
  refine zOk_straight hg (show mt_tab[116]? = some mt_X8_isWild from rfl) [] 15 rfl fun As μ Q hC => ?_
  obtain ⟨a1, rfl, ha1, hQ⟩ := hC
  refine ⟨rfl, ?_⟩
  refine And.intro ⟨⟨by omega, by omega⟩, ⟨by omega, by omega⟩⟩ (And.intro (fun c1 => ?_) (fun c1 => ?_))
  · exact And.intro (zrtb (by omega)) (And.intro ⟨by omega, by omega⟩ (hQ _ (by omega) (by omega)))
  · refine And.intro ⟨⟨by omega, by omega⟩, ⟨by omega, by omega⟩⟩ (And.intro (fun c2 => ?_) (fun c2 => ?_))
    · exact And.intro (zrtb (by omega)) (And.intro ⟨by omega, by omega⟩ (hQ _ (by omega) (by omega)))
    · exact And.intro (zrtb (by omega)) (And.intro ⟨by omega, by omega⟩ (hQ _ (by omega) (by omega)))
def zk_X4_arity : zC := fun As μ Q => ∃ (t : Nat) (a1 : Int), As = [.inr (.inr (t, 14)), .inl a1] ∧ (t = 14 ∨ t = 32) ∧ ((-2147483648) ≤ a1 ∧ a1 ≤ 2147483647) ∧ (∀ (v : Int), 0 ≤ v → v ≤ 4 → Q (some (.inl v)) μ)
set_option maxHeartbeats 4000000 in
theorem zm_X4_arity {g : zΓ} (hg : zg g) (d : Nat) (hd : 1 ≤ d) : zOk g d 63 zk_X4_arity := by
  obtain ⟨d, rfl⟩ : ∃ d', d = d' + 1 := ⟨d - 1, by omega⟩
  refine zOk_straight hg (show mt_tab[63]? = some mt_X4_arity from rfl) [] 29 rfl fun As μ Q hC => ?_
  obtain ⟨t, a1, rfl, ht, ha1, hQ⟩ := hC
  refine ⟨rfl, ?_⟩
  refine And.intro ⟨by omega, by omega⟩ (And.intro (fun c1 => ?_) (fun c1 => ?_))
  · refine And.intro ⟨⟨by omega, by omega⟩, ⟨by omega, by omega⟩⟩ (And.intro (fun c2 => ?_) (fun c2 => ?_))
    · exfalso; omega
    · refine And.intro ⟨⟨by omega, by omega⟩, ⟨by omega, by omega⟩⟩ (And.intro (fun c3 => ?_) (fun c3 => ?_))
      · exact And.intro trivial (And.intro ⟨by omega, by omega⟩ (hQ _ (by omega) (by omega)))
      · exfalso; omega
  · refine And.intro ht ?_
    intro x4 hx4 kx4 lx4
    refine And.intro ⟨⟨by omega, by omega⟩, ⟨by omega, by omega⟩⟩ (And.intro (fun c5 => ?_) (fun c5 => ?_))
    · refine And.intro ⟨⟨by omega, by omega⟩, ⟨by omega, by omega⟩⟩ (And.intro (fun c6 => ?_) (fun c6 => ?_))
      · exact And.intro trivial (And.intro ⟨by omega, by omega⟩ (hQ _ (by omega) (by omega)))
      · refine And.intro ⟨⟨by omega, by omega⟩, ⟨by omega, by omega⟩⟩ (And.intro (fun c7 => ?_) (fun c7 => ?_))
        · exact And.intro trivial (And.intro ⟨by omega, by omega⟩ (hQ _ (by omega) (by omega)))
        · exact And.intro trivial (And.intro ⟨by omega, by omega⟩ (hQ _ (by omega) (by omega)))
    · refine And.intro ⟨⟨by omega, by omega⟩, ⟨by omega, by omega⟩⟩ (And.intro (fun c8 => ?_) (fun c8 => ?_))
      · exfalso; omega
      · refine And.intro ht ?_
        refine And.intro (zfa (o := 3) (y2 := 17) ht rfl) ?_
        refine And.intro ⟨by omega, by omega⟩ ?_
        intro x9 hx9 kx9 lx9
        exact And.intro trivial (And.intro ⟨by omega, by omega⟩ (hQ _ (by omega) (by omega)))
def zk_X4_overLength : zC := fun As μ Q => ∃ (t : Nat) (a1 : Int) (a2 : Int), As = [.inr (.inr (t, 14)), .inl a1, .inl a2] ∧ (t = 14 ∨ t = 32) ∧ ((-2147483648) ≤ a1 ∧ a1 ≤ 2147483647) ∧ ((-2147483648) ≤ a2 ∧ a2 ≤ 2147483647) ∧ (∀ (v : Int), (-60200) ≤ v → v ≤ 200 → Q (some (.inl v)) μ)
set_option maxHeartbeats 4000000 in
theorem zm_X4_overLength {g : zΓ} (hg : zg g) (d : Nat) (hd : 2 ≤ d) : zOk g d 65 zk_X4_overLength := by
  obtain ⟨d, rfl⟩ : ∃ d', d = d' + 1 := ⟨d - 1, by omega⟩
  refine zOk_straight hg (show mt_tab[65]? = some mt_X4_overLength from rfl) [10, 12] 15 rfl fun As μ Q hC => ?_
  obtain ⟨t, a1, a2, rfl, ht, ha1, ha2, hQ⟩ := hC
  refine ⟨rfl, ?_⟩
  refine And.intro ht ?_
  refine And.intro (zfa (o := 12) (y2 := 26) ht rfl) ?_
  intro x1 hx1 kx1 lx1
  intro x2 hx2 kx2 lx2
  refine ⟨zk_X8_at, zm_X8_at hg d (by omega), _, _, _, rfl, ⟨by omega, by omega⟩, ?_⟩
  refine And.intro (zfa (o := 2) (y2 := 28) (zfa (o := 12) (y2 := 26) ht rfl) rfl) ?_
  intro x3 kx3 lx3 fx3 gx3
  exact And.intro trivial (And.intro ⟨by omega, by omega⟩ (hQ _ (by omega) (by omega)))
def zk_X4_overStart : zC := fun As μ Q => ∃ (t : Nat) (a1 : Int) (a2 : Int), As = [.inr (.inr (t, 14)), .inl a1, .inl a2] ∧ (t = 14 ∨ t = 32) ∧ ((-2147483648) ≤ a1 ∧ a1 ≤ 2147483647) ∧ ((-2147483648) ≤ a2 ∧ a2 ≤ 2147483647) ∧ (∀ (v : Int), (-1) ≤ v → v ≤ 88400 → Q (some (.inl v)) μ)
set_option maxHeartbeats 4000000 in
theorem zm_X4_overStart {g : zΓ} (hg : zg g) (d : Nat) (hd : 2 ≤ d) : zOk g d 66 zk_X4_overStart := by
  obtain ⟨d, rfl⟩ : ∃ d', d = d' + 1 := ⟨d - 1, by omega⟩
  refine zOk_straight hg (show mt_tab[66]? = some mt_X4_overStart from rfl) [10, 12] 15 rfl fun As μ Q hC => ?_
  obtain ⟨t, a1, a2, rfl, ht, ha1, ha2, hQ⟩ := hC
  refine ⟨rfl, ?_⟩
  refine And.intro ht ?_
  refine And.intro (zfa (o := 12) (y2 := 26) ht rfl) ?_
  intro x1 hx1 kx1 lx1
  intro x2 hx2 kx2 lx2
  refine ⟨zk_X8_at, zm_X8_at hg d (by omega), _, _, _, rfl, ⟨by omega, by omega⟩, ?_⟩
  refine And.intro (zfa (o := 1) (y2 := 27) (zfa (o := 12) (y2 := 26) ht rfl) rfl) ?_
  intro x3 kx3 lx3 fx3 gx3
  exact And.intro trivial (And.intro ⟨by omega, by omega⟩ (hQ _ (by omega) (by omega)))
def zk_X4_endOfPart : zC := fun As μ Q => ∃ (t : Nat) (a1 : Int), As = [.inr (.inr (t, 14)), .inl a1] ∧ (t = 14 ∨ t = 32) ∧ (0 ≤ a1 ∧ a1 ≤ 301) ∧ (∀ (v : Int), 0 ≤ v → v ≤ 300 → Q (some (.inl v)) μ)
set_option maxHeartbeats 4000000 in
theorem zm_X4_endOfPart {g : zΓ} (hg : zg g) (d : Nat) (hd : 2 ≤ d) : zOk g d 64 zk_X4_endOfPart := by
  obtain ⟨d, rfl⟩ : ∃ d', d = d' + 1 := ⟨d - 1, by omega⟩
  refine zOk_loop hg (show mt_tab[64]? = some mt_X4_endOfPart from rfl) ([(4, [0, 2, 3])], [27]) 35 rfl fun As μ Q hC => ?_
  obtain ⟨t, a1, rfl, ht, ha1, hQ⟩ := hC
  refine ⟨rfl, fun pc vs μ' n => ∃ (v2 : Int) (v3 : Int), vs = [.inr (.inr (t, 14)), .inl v2, .inl v3] ∧ μ' = μ ∧ ((-2147483648) ≤ v2 ∧ v2 ≤ 2147483647) ∧ (0 ≤ v3 ∧ v3 ≤ 301) ∧ n = (Int.toNat (2147483648 - v3)), ?_, ?_, trivial⟩
  · refine Exists.intro (Int.toNat (2147483648 - a1)) ?_
    exact ⟨_, _, rfl, rfl, ⟨by omega, by omega⟩, ⟨by omega, by omega⟩, rfl⟩
  · intro vs m0 n hI
    obtain ⟨v2, v3, rfl, rfl, hv2, hv3, rfl⟩ := hI
    refine And.intro ht ?_
    intro x1 hx1 kx1 lx1
    refine And.intro ⟨⟨by omega, by omega⟩, ⟨by omega, by omega⟩⟩ (And.intro (fun c2 => ?_) (fun c2 => ?_))
    · refine And.intro ht ?_
      intro x3 hx3 kx3 lx3
      exact And.intro trivial (And.intro ⟨by omega, by omega⟩ (hQ _ (by omega) (by omega)))
    · refine And.intro ht ?_
      refine ⟨zk_X8_at, zm_X8_at hg d (by omega), _, _, _, rfl, ⟨by omega, by omega⟩, ?_⟩
      refine And.intro (zfa (o := 11) (y2 := 25) ht rfl) ?_
      intro x4 kx4 lx4 fx4 gx4
      refine And.intro ht ⟨zk_X4_arity, zm_X4_arity hg d (by omega), _, _, rfl, ht, ⟨by omega, by omega⟩, ?_⟩
      intro x5 kx5 lx5
      intro x6 hx6 kx6 lx6
      refine And.intro ⟨by omega, by omega⟩ (And.intro (fun c7 => ?_) (fun c7 => ?_))
      · refine Exists.intro (Int.toNat (2147483648 - (v3 + 1))) (And.intro (by omega) ?_)
        exact ⟨_, _, rfl, rfl, ⟨by omega, by omega⟩, ⟨by omega, by omega⟩, rfl⟩
      · exact And.intro trivial (And.intro ⟨by omega, by omega⟩ (hQ _ (by omega) (by omega)))
def zk_X4_countOver : zC := fun As μ Q => ∃ (t : Nat) (a1 : Int), As = [.inr (.inr (t, 14)), .inl a1] ∧ (t = 14 ∨ t = 32) ∧ ((-2147483648) ≤ a1 ∧ a1 ≤ 2147483647) ∧ (∀ (v : Int), (-2147483648) ≤ v → v ≤ 2147483647 → Q (some (.inl v)) μ)
set_option maxHeartbeats 4000000 in
theorem zm_X4_countOver {g : zΓ} (hg : zg g) (d : Nat) (hd : 3 ≤ d) : zOk g d 67 zk_X4_countOver := by
  obtain ⟨d, rfl⟩ : ∃ d', d = d' + 1 := ⟨d - 1, by omega⟩
  refine zOk_loop hg (show mt_tab[67]? = some mt_X4_countOver from rfl) ([(4, [0, 1, 2, 3])], []) 23 rfl fun As μ Q hC => ?_
  obtain ⟨t, a1, rfl, ht, ha1, hQ⟩ := hC
  refine ⟨rfl, fun pc vs μ' n => ∃ (v1 : Int) (v2 : Int) (v3 : Int), vs = [.inr (.inr (t, 14)), .inl v1, .inl v2, .inl v3] ∧ μ' = μ ∧ ((-2147483648) ≤ v1 ∧ v1 ≤ 2147483647) ∧ ((-2147483648) ≤ v2 ∧ v2 ≤ 2147483647) ∧ (0 ≤ v3 ∧ v3 ≤ 2147483647) ∧ (0 ≤ v2 ∧ v2 ≤ v3) ∧ n = (Int.toNat (2147483648 - v3)), ?_, ?_, trivial⟩
  · refine Exists.intro (Int.toNat (2147483648 - 0)) ?_
    exact ⟨_, _, _, rfl, rfl, ⟨by omega, by omega⟩, ⟨by omega, by omega⟩, ⟨by omega, by omega⟩, (by omega), rfl⟩
  · intro vs m0 n hI
    obtain ⟨v1, v2, v3, rfl, rfl, hv1, hv2, hv3, i0, rfl⟩ := hI
    refine And.intro ht ?_
    intro x1 hx1 kx1 lx1
    refine And.intro ⟨⟨by omega, by omega⟩, ⟨by omega, by omega⟩⟩ (And.intro (fun c2 => ?_) (fun c2 => ?_))
    · exact And.intro trivial (And.intro ⟨by omega, by omega⟩ (hQ _ (by omega) (by omega)))
    · refine And.intro ht ⟨zk_X4_overLength, zm_X4_overLength hg d (by omega), _, _, _, rfl, ht, ⟨by omega, by omega⟩, ⟨by omega, by omega⟩, ?_⟩
      intro x3 kx3 lx3
      refine And.intro ⟨by omega, by omega⟩ (And.intro (fun c4 => ?_) (fun c4 => ?_))
      · refine Exists.intro (Int.toNat (2147483648 - (v3 + 1))) (And.intro (by omega) ?_)
        exact ⟨_, _, _, rfl, rfl, ⟨by omega, by omega⟩, ⟨by omega, by omega⟩, ⟨by omega, by omega⟩, (by omega), rfl⟩
      · refine Exists.intro (Int.toNat (2147483648 - (v3 + 1))) (And.intro (by omega) ?_)
        exact ⟨_, _, _, rfl, rfl, ⟨by omega, by omega⟩, ⟨by omega, by omega⟩, ⟨by omega, by omega⟩, (by omega), rfl⟩
def zk_X6_head : zC := fun As μ Q => ∃ (a1 : Int), As = [.inr (.inr (59, 59)), .inl a1] ∧ ((-2147483648) ≤ a1 ∧ a1 ≤ 2147483647) ∧ (∀ (v : Int), (-2147483648) ≤ v → v ≤ 2147483647 → Q (some (.inl v)) μ)
set_option maxHeartbeats 4000000 in
theorem zm_X6_head {g : zΓ} (hg : zg g) (d : Nat) (hd : 2 ≤ d) : zOk g d 82 zk_X6_head := by
  obtain ⟨d, rfl⟩ : ∃ d', d = d' + 1 := ⟨d - 1, by omega⟩
  refine zOk_straight hg (show mt_tab[82]? = some mt_X6_head from rfl) [] 16 rfl fun As μ Q hC => ?_
  obtain ⟨a1, rfl, ha1, hQ⟩ := hC
  refine ⟨rfl, ?_⟩
  intro x1 hx1 kx1 lx1
  refine And.intro ⟨⟨by omega, by omega⟩, ⟨by omega, by omega⟩⟩ (And.intro (fun c2 => ?_) (fun c2 => ?_))
  · exact And.intro trivial (And.intro ⟨by omega, by omega⟩ (hQ _ (by omega) (by omega)))
  · refine ⟨zk_X8_at, zm_X8_at hg d (by omega), _, _, _, rfl, ⟨by omega, by omega⟩, ?_⟩
    intro x3 kx3 lx3 fx3 gx3
    exact And.intro trivial (And.intro ⟨by omega, by omega⟩ (hQ _ (by omega) (by omega)))
def zk_X6_part : zC := fun As μ Q => ∃ (a1 : Int) (a2 : Int), As = [.inr (.inr (59, 59)), .inl a1, .inl a2] ∧ ((-2147483648) ≤ a1 ∧ a1 ≤ 2147483647) ∧ ((-2147483648) ≤ a2 ∧ a2 ≤ 2147483647) ∧ (∀ (v : Int), (-2147483648) ≤ v → v ≤ 2147483647 → Q (some (.inl v)) μ)
set_option maxHeartbeats 4000000 in
theorem zm_X6_part {g : zΓ} (hg : zg g) (d : Nat) (hd : 2 ≤ d) : zOk g d 83 zk_X6_part := by
  obtain ⟨d, rfl⟩ : ∃ d', d = d' + 1 := ⟨d - 1, by omega⟩
  refine zOk_straight hg (show mt_tab[83]? = some mt_X6_part from rfl) [31, 45] 35 rfl fun As μ Q hC => ?_
  obtain ⟨a1, a2, rfl, ha1, ha2, hQ⟩ := hC
  refine ⟨rfl, ?_⟩
  intro x1 hx1 kx1 lx1
  refine And.intro ⟨⟨by omega, by omega⟩, ⟨by omega, by omega⟩⟩ (And.intro (fun c2 => ?_) (fun c2 => ?_))
  · refine And.intro ⟨by omega, by omega⟩ (And.intro (fun c3 => ?_) (fun c3 => ?_))
    · exact And.intro trivial (And.intro ⟨by omega, by omega⟩ (hQ _ (by omega) (by omega)))
    · exfalso; omega
  · refine ⟨zk_X8_at, zm_X8_at hg d (by omega), _, _, _, rfl, ⟨by omega, by omega⟩, ?_⟩
    intro x4 kx4 lx4 fx4 gx4
    refine And.intro ⟨by omega, by omega⟩ (And.intro (fun c5 => ?_) (fun c5 => ?_))
    · exact And.intro trivial (And.intro ⟨by omega, by omega⟩ (hQ _ (by omega) (by omega)))
    · refine And.intro ⟨by omega, by omega⟩ (And.intro (fun c6 => ?_) (fun c6 => ?_))
      · exact And.intro trivial (And.intro ⟨by omega, by omega⟩ (hQ _ (by omega) (by omega)))
      · intro x7 hx7 kx7 lx7
        intro x8 hx8 kx8 lx8
        refine And.intro ⟨⟨by omega, by omega⟩, ⟨by omega, by omega⟩⟩ (And.intro (fun c9 => ?_) (fun c9 => ?_))
        · exact And.intro trivial (And.intro ⟨by omega, by omega⟩ (hQ _ (by omega) (by omega)))
        · intro x10 hx10 kx10 lx10
          refine ⟨zk_X8_at, zm_X8_at hg d (by omega), _, _, _, rfl, ⟨by omega, by omega⟩, ?_⟩
          intro x11 kx11 lx11 fx11 gx11
          exact And.intro trivial (And.intro ⟨by omega, by omega⟩ (hQ _ (by omega) (by omega)))
def zk_X6_partsOf : zC := fun As μ Q => ∃ (a1 : Int), As = [.inr (.inr (59, 59)), .inl a1] ∧ ((-2147483648) ≤ a1 ∧ a1 ≤ 2147483647) ∧ (∀ (v : Int), 0 ≤ v → v ≤ 4 → Q (some (.inl v)) μ)
set_option maxHeartbeats 4000000 in
theorem zm_X6_partsOf {g : zΓ} (hg : zg g) (d : Nat) (hd : 3 ≤ d) : zOk g d 84 zk_X6_partsOf := by
  obtain ⟨d, rfl⟩ : ∃ d', d = d' + 1 := ⟨d - 1, by omega⟩
  refine zOk_straight hg (show mt_tab[84]? = some mt_X6_partsOf from rfl) [] 12 rfl fun As μ Q hC => ?_
  obtain ⟨a1, rfl, ha1, hQ⟩ := hC
  refine ⟨rfl, ?_⟩
  intro t1 et1 ht1
  refine ⟨zk_X6_head, zm_X6_head hg d (by omega), _, rfl, ⟨by omega, by omega⟩, ?_⟩
  intro x2 kx2 lx2
  refine And.intro ht1.1 ⟨zk_X4_arity, zm_X4_arity hg d (by omega), _, _, rfl, ht1.1, ⟨by omega, by omega⟩, ?_⟩
  intro x3 kx3 lx3
  exact And.intro trivial (And.intro ⟨by omega, by omega⟩ (hQ _ (by omega) (by omega)))
