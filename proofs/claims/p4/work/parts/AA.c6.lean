/-! ### calls that throw nothing -/
def zk_X8_fault : zC := fun As μ Q => As = [.inr (.inr (0, 0))] ∧ (∀ (v : Int), (-2147483648) ≤ v → v ≤ 2147483647 → Q (some (.inl v)) μ)
set_option maxHeartbeats 4000000 in
theorem zm_X8_fault {g : zΓ} (hg : zg g) (d : Nat) (hd : 1 ≤ d) : zOk g d 100 zk_X8_fault := by
  obtain ⟨d, rfl⟩ : ∃ d', d = d' + 1 := ⟨d - 1, by omega⟩
  refine zOk_straight hg (show mt_tab[100]? = some mt_X8_fault from rfl) [] 8 rfl fun As μ Q hC => ?_
  obtain ⟨rfl, hQ⟩ := hC
  refine ⟨rfl, ?_⟩
  intro x1 hx1 kx1 lx1
  exact And.intro trivial (And.intro ⟨by omega, by omega⟩ (hQ _ (by omega) (by omega)))
def zk_X8_read : zC := fun As μ Q => As = [.inr (.inr (0, 0))] ∧ (zcq μ) ∧ (∀ (v : Int) (μ' : zM), zle μ μ' → (-2147483648) ≤ v → v ≤ 2147483647 → (μ'.1 1 ((4 : Nat) : Int) = 0) → Q (some (.inl v)) μ')
set_option maxHeartbeats 4000000 in
theorem zm_X8_read {g : zΓ} (hg : zg g) (d : Nat) (hd : 32 ≤ d) : zOk g d 99 zk_X8_read := by
  obtain ⟨d, rfl⟩ : ∃ d', d = d' + 1 := ⟨d - 1, by omega⟩
  refine zOk_straight hg (show mt_tab[99]? = some mt_X8_read from rfl) [36] 49 rfl fun As μ Q hC => ?_
  obtain ⟨rfl, hp0, hQ⟩ := hC
  refine ⟨rfl, ?_⟩
  have z0 : zle μ μ := zle_r μ
  intro t1 et1 ht1
  refine ⟨zk_X3_readTable, zm_X3_readTable hg d (by omega), _, rfl, ht1.1, (zcq_t hp0 z0), ?_⟩
  intro x2 m3 qm3 kx2 lx2 p4
  have z5 := zle_t z0 qm3
  intro x6 hx6 kx6 lx6
  refine And.intro ⟨by omega, by omega⟩ ?_
  intro m7 em7
  have z8 := zle_0 z5 (zl0_u em7 (Or.inl (by decide)) (Or.inl ⟨by decide, by decide⟩))
  have : m7.1 1 ((4 : Nat) : Int) = m3.1 1 ((4 : Nat) : Int) := by rw [em7]; exact congrFun (zu_ne (show (1 : Nat) ≠ 0 by omega)) _
  refine And.intro ⟨by omega, by omega⟩ (And.intro (fun c9 => ?_) (fun c9 => ?_))
  · intro t10 et10 ht10
    intro t11 et11 ht11
    refine And.intro ⟨ht11.1, trivial⟩ ?_
    intro m12 em12
    have z13 := zle_0 z8 (zl0_u em12 (Or.inl (by decide)) (Or.inl ⟨by decide, by decide⟩))
    have : m12.1 1 ((4 : Nat) : Int) = m7.1 1 ((4 : Nat) : Int) := by rw [em12]; exact congrFun (zu_ne (show (1 : Nat) ≠ 0 by omega)) _
    refine And.intro ⟨ht10.1, trivial⟩ ?_
    intro m14 em14
    have z15 := zle_0 z13 (zl0_u em14 (Or.inl (by decide)) (Or.inl ⟨by decide, by decide⟩))
    have : m14.1 1 ((4 : Nat) : Int) = m12.1 1 ((4 : Nat) : Int) := by rw [em14]; exact congrFun (zu_ne (show (1 : Nat) ≠ 0 by omega)) _
    intro t16 et16 ht16
    refine ⟨zk_X7_measure, zm_X7_measure hg d (by omega), _, rfl, ht16.1, ?_⟩
    intro m17 qm17
    have z18 := zle_0 z15 qm17
    have : m17.1 1 ((4 : Nat) : Int) = m14.1 1 ((4 : Nat) : Int) ∨ m17.1 1 ((4 : Nat) : Int) = 0 := qm17.1.2.2.2.1
    intro t19 et19 ht19
    refine ⟨zk_X0_startOver, zm_X0_startOver hg d (by omega), _, _, rfl, ht19.1, ⟨by omega, by omega⟩, ?_⟩
    intro m20 qm20
    have z21 := zle_0 z18 qm20
    have : m20.1 1 ((4 : Nat) : Int) = m17.1 1 ((4 : Nat) : Int) ∨ m20.1 1 ((4 : Nat) : Int) = 0 := qm20.1.2.2.2.1
    intro t22 et22 ht22
    refine And.intro ht22.1 ?_
    intro x23 hx23 kx23 lx23
    exact And.intro trivial (And.intro ⟨by omega, by omega⟩ (hQ _ _ z21 (by omega) (by omega) (by omega)))
  · intro x24 hx24 kx24 lx24
    intro x25 hx25 kx25 lx25
    exact And.intro trivial (And.intro ⟨by omega, by omega⟩ (hQ _ _ z8 (by omega) (by omega) (by omega)))
def zk_X8_above : zC := fun As μ Q => As = [.inr (.inr (0, 0))] ∧ (∀ (v : Int) (μ' : zM), zl0 μ μ' → (-2147483648) ≤ v → v ≤ 2147483647 → (μ'.1 1 ((4 : Nat) : Int) = 0) → Q (some (.inl v)) μ')
set_option maxHeartbeats 4000000 in
theorem zm_X8_above {g : zΓ} (hg : zg g) (d : Nat) (hd : 30 ≤ d) : zOk g d 107 zk_X8_above := by
  obtain ⟨d, rfl⟩ : ∃ d', d = d' + 1 := ⟨d - 1, by omega⟩
  refine zOk_straight hg (show mt_tab[107]? = some mt_X8_above from rfl) [36] 68 rfl fun As μ Q hC => ?_
  obtain ⟨rfl, hQ⟩ := hC
  refine ⟨rfl, ?_⟩
  have z0 : zl0 μ μ := zl0_r μ
  intro t1 et1 ht1
  refine ⟨zk_X3_readPlace, zm_X3_readPlace hg d (by omega), _, rfl, ht1.1, ?_⟩
  intro x2 m3 qm3 kx2 lx2 p4
  have z5 := zl0_t z0 qm3
  intro x6 hx6 kx6 lx6
  refine And.intro ⟨by omega, by omega⟩ ?_
  intro m7 em7
  have z8 := zl0_t z5 (zl0_u em7 (Or.inl (by decide)) (Or.inl ⟨by decide, by decide⟩))
  have : m7.1 1 ((4 : Nat) : Int) = m3.1 1 ((4 : Nat) : Int) := by rw [em7]; exact congrFun (zu_ne (show (1 : Nat) ≠ 0 by omega)) _
  refine And.intro ⟨by omega, by omega⟩ (And.intro (fun c9 => ?_) (fun c9 => ?_))
  · intro t10 et10 ht10
    intro x11 hx11 kx11 lx11
    refine ⟨zk_X0_startOver, zm_X0_startOver hg d (by omega), _, _, rfl, ht10.1, ⟨by omega, by omega⟩, ?_⟩
    intro m12 qm12
    have z13 := zl0_t z8 qm12
    have : m12.1 1 ((4 : Nat) : Int) = m7.1 1 ((4 : Nat) : Int) ∨ m12.1 1 ((4 : Nat) : Int) = 0 := qm12.1.2.2.2.1
    intro t14 et14 ht14
    intro x15 hx15 kx15 lx15
    refine ⟨_, zOk_tag (zm_X0_nodeOf hg d (by omega)), [.inr (.inr (52, 52)), .inr (.inr (t14, 1001)), .inl 0, .inl x15], rfl, _, _, _, rfl, (zIa_200 ht14.1), ⟨by omega, by omega⟩, ⟨by omega, by omega⟩, ?_⟩
    intro x16 m17 qm17 kx16 lx16
    have z18 := zl0_t z13 qm17
    have : m17.1 1 ((4 : Nat) : Int) = m12.1 1 ((4 : Nat) : Int) ∨ m17.1 1 ((4 : Nat) : Int) = 0 := qm17.1.2.2.2.1
    intro x19 hx19 kx19 lx19
    refine ⟨zk_X0_nodeAbove, zm_X0_nodeAbove hg d (by omega), _, _, rfl, ⟨by omega, by omega⟩, ⟨by omega, by omega⟩, ?_⟩
    intro x20 m21 qm21 kx20 lx20
    have z22 := zl0_t z18 qm21
    have : m21.1 1 ((4 : Nat) : Int) = m17.1 1 ((4 : Nat) : Int) ∨ m21.1 1 ((4 : Nat) : Int) = 0 := qm21.1.2.2.2.1
    refine And.intro ⟨⟨by omega, by omega⟩, ⟨by omega, by omega⟩⟩ (And.intro (fun c23 => ?_) (fun c23 => ?_))
    · refine And.intro ⟨by omega, by omega⟩ (And.intro (fun c24 => ?_) (fun c24 => ?_))
      · intro t25 et25 ht25
        refine ⟨zk_X2_writeType, zm_X2_writeType hg d (by omega), _, _, rfl, ht25.1, ⟨by omega, by omega⟩, ?_⟩
        intro x26 m27 qm27 kx26 lx26 p28
        have z29 := zl0_t z22 qm27
        have : m27.1 1 ((4 : Nat) : Int) = m21.1 1 ((4 : Nat) : Int) := p28
        exact And.intro trivial (And.intro ⟨by omega, by omega⟩ (hQ _ _ z29 (by omega) (by omega) (by omega)))
      · exact And.intro trivial (And.intro ⟨by omega, by omega⟩ (hQ _ _ z22 (by omega) (by omega) (by omega)))
    · exact And.intro trivial (And.intro ⟨by omega, by omega⟩ (hQ _ _ z22 (by omega) (by omega) (by omega)))
  · intro x30 hx30 kx30 lx30
    intro x31 hx31 kx31 lx31
    exact And.intro trivial (And.intro ⟨by omega, by omega⟩ (hQ _ _ z8 (by omega) (by omega) (by omega)))
def zk_X8_clear : zC := fun As μ Q => As = [.inr (.inr (0, 0))] ∧ (zcq μ) ∧ (∀ (μ' : zM), zle μ μ' → (μ'.1 1 ((4 : Nat) : Int) = 0) → Q none μ')
set_option maxHeartbeats 4000000 in
theorem zm_X8_clear {g : zΓ} (hg : zg g) (d : Nat) (hd : 7 ≤ d) : zOk g d 110 zk_X8_clear := by
  obtain ⟨d, rfl⟩ : ∃ d', d = d' + 1 := ⟨d - 1, by omega⟩
  refine zOk_straight hg (show mt_tab[110]? = some mt_X8_clear from rfl) [] 31 rfl fun As μ Q hC => ?_
  obtain ⟨rfl, hp0, hQ⟩ := hC
  refine ⟨rfl, ?_⟩
  have z0 : zle μ μ := zle_r μ
  refine And.intro ⟨by omega, by omega⟩ ?_
  intro m1 em1
  have z2 := zle_0 z0 (zl0_u em1 (Or.inl (by decide)) (Or.inl ⟨by decide, by decide⟩))
  have : m1.1 1 ((4 : Nat) : Int) = 0 := by rw [em1]; exact zu_at
  refine And.intro ⟨by omega, by omega⟩ ?_
  intro m3 em3
  have z4 := zle_0 z2 (zl0_u em3 (Or.inl (by decide)) (Or.inl ⟨by decide, by decide⟩))
  have : m3.1 1 ((4 : Nat) : Int) = m1.1 1 ((4 : Nat) : Int) := by rw [em3]; exact congrFun (zu_ne (show (1 : Nat) ≠ 10 by omega)) _
  refine And.intro ⟨by omega, by omega⟩ ?_
  intro m5 em5
  have z6 := zle_0 z4 (zl0_u em5 (Or.inl (by decide)) (Or.inl ⟨by decide, by decide⟩))
  have : m5.1 1 ((4 : Nat) : Int) = m3.1 1 ((4 : Nat) : Int) := by rw [em5]; exact congrFun (zu_ne (show (1 : Nat) ≠ 0 by omega)) _
  intro t7 et7 ht7
  refine And.intro ht7.1 ⟨zk_X4_startOver, zm_X4_startOver hg d (by omega), _, rfl, ht7.1, (zcq_t hp0 z6), ?_⟩
  intro m8 qm8
  have z9 := zle_t z6 qm8
  have : m8.1 1 ((4 : Nat) : Int) = m5.1 1 ((4 : Nat) : Int) ∨ m8.1 1 ((4 : Nat) : Int) = 0 := qm8.2.2.2.1
  intro t10 et10 ht10
  refine ⟨zk_X7_measure, zm_X7_measure hg d (by omega), _, rfl, ht10.1, ?_⟩
  intro m11 qm11
  have z12 := zle_0 z9 qm11
  have : m11.1 1 ((4 : Nat) : Int) = m8.1 1 ((4 : Nat) : Int) ∨ m11.1 1 ((4 : Nat) : Int) = 0 := qm11.1.2.2.2.1
  intro t13 et13 ht13
  refine ⟨zk_X0_startOver, zm_X0_startOver hg d (by omega), _, _, rfl, ht13.1, ⟨by omega, by omega⟩, ?_⟩
  intro m14 qm14
  have z15 := zle_0 z12 qm14
  have : m14.1 1 ((4 : Nat) : Int) = m11.1 1 ((4 : Nat) : Int) ∨ m14.1 1 ((4 : Nat) : Int) = 0 := qm14.1.2.2.2.1
  exact And.intro rfl (hQ _ z15 (by omega))
