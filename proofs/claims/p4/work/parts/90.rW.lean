/-! ### readSupers -/
def zk_X9_readSupers : zC := fun As μ Q => ∃ (a1 : Int) (lo : Int) (P : Int), As = [.inr (.inr (66, 66)), .inl a1] ∧ (1 ≤ a1 ∧ a1 ≤ 20) ∧ (0 ≤ μ.1 66 ((33 : Nat) : Int) ∧ 0 ≤ μ.1 66 ((34 : Nat) : Int) ∧ μ.1 66 ((33 : Nat) : Int) + μ.1 66 ((34 : Nat) : Int) ≤ μ.1 66 ((31 : Nat) : Int) ∧ μ.1 66 ((31 : Nat) : Int) ≤ μ.1 66 ((30 : Nat) : Int) ∧ μ.1 66 ((30 : Nat) : Int) ≤ 800) ∧ (zND μ lo) ∧ (zWf μ lo (zTop μ) (a1 + 1) P 0 (zXn μ)) ∧ (μ.1 66 ((24 : Nat) : Int) = 21 ∧ μ.1 66 ((25 : Nat) : Int) = 80 ∧ μ.1 66 ((26 : Nat) : Int) = a1 + 1) ∧ (0 ≤ zXf μ a1 ∧ zXf μ a1 + zXn μ a1 ≤ P ∧ P ≤ 80) ∧ (μ.1 66 ((8 : Nat) : Int) - μ.1 66 ((38 : Nat) : Int) ≤ 19699 ∧ 0 ≤ μ.1 66 ((38 : Nat) : Int) ∧ μ.1 66 ((38 : Nat) : Int) ≤ 300) ∧ (zCl μ lo a1 P ∧ μ.1 79 (21 + a1) = 0) ∧ (μ.1 66 ((32 : Nat) : Int) = 58) ∧ (∀ (v : Int) (μ' : zM), zfx [67, 68, 69, 70, 71, 72, 73, 74, 78, 79, 100, 101, 102, 103, 104] [8, 31, 32, 33, 34, 35, 36, 38] μ μ' → 0 ≤ v → v ≤ 1 → (0 ≤ μ'.1 66 ((33 : Nat) : Int) ∧ 0 ≤ μ'.1 66 ((34 : Nat) : Int) ∧ μ'.1 66 ((33 : Nat) : Int) + μ'.1 66 ((34 : Nat) : Int) ≤ μ'.1 66 ((31 : Nat) : Int) ∧ μ'.1 66 ((31 : Nat) : Int) ≤ μ'.1 66 ((30 : Nat) : Int) ∧ μ'.1 66 ((30 : Nat) : Int) ≤ 800) → (μ'.1 66 ((30 : Nat) : Int) = μ.1 66 ((30 : Nat) : Int)) → (zTE μ μ' lo (a1 + 1) P 0 (zXn μ)) → (0 ≤ μ'.1 66 ((38 : Nat) : Int) ∧ μ'.1 66 ((38 : Nat) : Int) ≤ 300) → (v = 1 → zSp μ μ' lo a1 P) → (v = 1 → zrm μ' < zrm μ) → (zOt μ μ') → Q (some (.inl v)) μ')
set_option maxHeartbeats 800000 in
theorem zm_X9_readSupers {g : zΓ} (hg : zg g) (d : Nat) (hd : 6 ≤ d) : zOk g d 145 zk_X9_readSupers := by
  obtain ⟨d, rfl⟩ : ∃ d', d = d' + 1 := ⟨d - 1, by omega⟩
  refine zOk_loop hg (show mt_tab[145]? = some mt_X9_readSupers from rfl) ([(0, [0, 1])], []) 63 rfl fun As μ Q hC => ?_
  obtain ⟨a1, lo, P, rfl, ha1, hp0, hp1, hp2, hp3, hp4, hp5, hp6, hp7, hQ⟩ := hC
  obtain ⟨g1, wg1⟩ : ∃ z : Int, μ.1 66 ((31 : Nat) : Int) = z := ⟨_, rfl⟩
  obtain ⟨g2, wg2⟩ : ∃ z : Int, μ.1 66 ((30 : Nat) : Int) = z := ⟨_, rfl⟩
  obtain ⟨g3, wg3⟩ : ∃ z : Int, μ.1 66 ((33 : Nat) : Int) = z := ⟨_, rfl⟩
  obtain ⟨g4, wg4⟩ : ∃ z : Int, μ.1 66 ((34 : Nat) : Int) = z := ⟨_, rfl⟩
  obtain ⟨g5, wg5⟩ : ∃ z : Int, μ.1 66 ((32 : Nat) : Int) = z := ⟨_, rfl⟩
  obtain ⟨g6, wg6⟩ : ∃ z : Int, μ.1 66 ((38 : Nat) : Int) = z := ⟨_, rfl⟩
  obtain ⟨g7, wg7⟩ : ∃ z : Int, μ.1 66 ((8 : Nat) : Int) = z := ⟨_, rfl⟩
  obtain ⟨g8, wg8⟩ : ∃ z : Int, μ.1 66 ((24 : Nat) : Int) = z := ⟨_, rfl⟩
  obtain ⟨g9, wg9⟩ : ∃ z : Int, μ.1 66 ((25 : Nat) : Int) = z := ⟨_, rfl⟩
  obtain ⟨g10, wg10⟩ : ∃ z : Int, μ.1 66 ((26 : Nat) : Int) = z := ⟨_, rfl⟩
  try rw [wg1] at hp0
  try rw [wg2] at hp0
  try rw [wg3] at hp0
  try rw [wg4] at hp0
  try rw [wg5] at hp0
  try rw [wg6] at hp0
  try rw [wg7] at hp0
  try rw [wg8] at hp0
  try rw [wg9] at hp0
  try rw [wg10] at hp0
  try rw [wg1] at hp1
  try rw [wg2] at hp1
  try rw [wg3] at hp1
  try rw [wg4] at hp1
  try rw [wg5] at hp1
  try rw [wg6] at hp1
  try rw [wg7] at hp1
  try rw [wg8] at hp1
  try rw [wg9] at hp1
  try rw [wg10] at hp1
  try rw [wg1] at hp2
  try rw [wg2] at hp2
  try rw [wg3] at hp2
  try rw [wg4] at hp2
  try rw [wg5] at hp2
  try rw [wg6] at hp2
  try rw [wg7] at hp2
  try rw [wg8] at hp2
  try rw [wg9] at hp2
  try rw [wg10] at hp2
  try rw [wg1] at hp3
  try rw [wg2] at hp3
  try rw [wg3] at hp3
  try rw [wg4] at hp3
  try rw [wg5] at hp3
  try rw [wg6] at hp3
  try rw [wg7] at hp3
  try rw [wg8] at hp3
  try rw [wg9] at hp3
  try rw [wg10] at hp3
  try rw [wg1] at hp4
  try rw [wg2] at hp4
  try rw [wg3] at hp4
  try rw [wg4] at hp4
  try rw [wg5] at hp4
  try rw [wg6] at hp4
  try rw [wg7] at hp4
  try rw [wg8] at hp4
  try rw [wg9] at hp4
  try rw [wg10] at hp4
  try rw [wg1] at hp5
  try rw [wg2] at hp5
  try rw [wg3] at hp5
  try rw [wg4] at hp5
  try rw [wg5] at hp5
  try rw [wg6] at hp5
  try rw [wg7] at hp5
  try rw [wg8] at hp5
  try rw [wg9] at hp5
  try rw [wg10] at hp5
  try rw [wg1] at hp6
  try rw [wg2] at hp6
  try rw [wg3] at hp6
  try rw [wg4] at hp6
  try rw [wg5] at hp6
  try rw [wg6] at hp6
  try rw [wg7] at hp6
  try rw [wg8] at hp6
  try rw [wg9] at hp6
  try rw [wg10] at hp6
  try rw [wg1] at hp7
  try rw [wg2] at hp7
  try rw [wg3] at hp7
  try rw [wg4] at hp7
  try rw [wg5] at hp7
  try rw [wg6] at hp7
  try rw [wg7] at hp7
  try rw [wg8] at hp7
  try rw [wg9] at hp7
  try rw [wg10] at hp7
  have z0 : zfx [67, 68, 69, 70, 71, 72, 73, 74, 78, 79, 100, 101, 102, 103, 104] [8, 31, 32, 33, 34, 35, 36, 38] μ μ := zfx_x μ
  refine ⟨rfl, fun pc vs μ' n => ∃ (v1 : Int), vs = [.inr (.inr (66, 66)), .inl v1] ∧ zfx [67, 68, 69, 70, 71, 72, 73, 74, 78, 79, 100, 101, 102, 103, 104] [8, 31, 32, 33, 34, 35, 36, 38] μ μ' ∧ (1 ≤ v1 ∧ v1 ≤ 20) ∧ (0 ≤ μ'.1 66 ((33 : Nat) : Int) ∧ 0 ≤ μ'.1 66 ((34 : Nat) : Int) ∧ μ'.1 66 ((33 : Nat) : Int) + μ'.1 66 ((34 : Nat) : Int) ≤ μ'.1 66 ((31 : Nat) : Int) ∧ μ'.1 66 ((31 : Nat) : Int) ≤ μ'.1 66 ((30 : Nat) : Int) ∧ μ'.1 66 ((30 : Nat) : Int) ≤ 800) ∧ (μ'.1 66 ((30 : Nat) : Int) = μ.1 66 ((30 : Nat) : Int)) ∧ (v1 = a1) ∧ (zTE μ μ' lo (a1 + 1) P 0 (zXn μ)) ∧ (zSp μ μ' lo a1 P) ∧ (0 ≤ μ'.1 66 ((38 : Nat) : Int) ∧ μ'.1 66 ((38 : Nat) : Int) ≤ 300) ∧ (μ'.1 66 ((32 : Nat) : Int) = 58 ∨ μ'.1 66 ((32 : Nat) : Int) = 44) ∧ (zrm μ' ≤ zrm μ) ∧ (μ'.1 66 ((24 : Nat) : Int) = 21 ∧ μ'.1 66 ((25 : Nat) : Int) = 80 ∧ μ'.1 66 ((26 : Nat) : Int) = a1 + 1) ∧ (zOt μ μ') ∧ n = (Int.toNat (zrm μ')), ?_, ?_, trivial⟩
  · refine Exists.intro (Int.toNat (zrm μ)) ?_
    exact ⟨_, rfl, z0, ⟨by omega, by omega⟩, (by (try rw [wg1]) <;> (try rw [wg2]) <;> (try rw [wg3]) <;> (try rw [wg4]) <;> (try rw [wg5]) <;> (try rw [wg6]) <;> (try rw [wg7]) <;> (try rw [wg8]) <;> (try rw [wg9]) <;> (try rw [wg10]) <;> omega), (by (try rw [wg1]) <;> (try rw [wg2]) <;> (try rw [wg3]) <;> (try rw [wg4]) <;> (try rw [wg5]) <;> (try rw [wg6]) <;> (try rw [wg7]) <;> (try rw [wg8]) <;> (try rw [wg9]) <;> (try rw [wg10]) <;> omega), rfl, (zTE_r hp1 hp2), (zSp_r hp6.1 hp6.2), (by (try rw [wg1]) <;> (try rw [wg2]) <;> (try rw [wg3]) <;> (try rw [wg4]) <;> (try rw [wg5]) <;> (try rw [wg6]) <;> (try rw [wg7]) <;> (try rw [wg8]) <;> (try rw [wg9]) <;> (try rw [wg10]) <;> omega), (Or.inl (by (try rw [wg1]) <;> (try rw [wg2]) <;> (try rw [wg3]) <;> (try rw [wg4]) <;> (try rw [wg5]) <;> (try rw [wg6]) <;> (try rw [wg7]) <;> (try rw [wg8]) <;> (try rw [wg9]) <;> (try rw [wg10]) <;> omega)), (Int.le_refl _), (by (try rw [wg1]) <;> (try rw [wg2]) <;> (try rw [wg3]) <;> (try rw [wg4]) <;> (try rw [wg5]) <;> (try rw [wg6]) <;> (try rw [wg7]) <;> (try rw [wg8]) <;> (try rw [wg9]) <;> (try rw [wg10]) <;> omega), (zOt_r μ), rfl⟩
  · intro vs m0 n hI
    clear z0
    obtain ⟨v1, rfl, z0, hv1, i0, i1, i2, i3, i4, i5, i6, i7, i8, i9, rfl⟩ := hI
    subst i2
    obtain ⟨g11, wg11⟩ : ∃ z : Int, m0.1 66 ((31 : Nat) : Int) = z := ⟨_, rfl⟩
    obtain ⟨g12, wg12⟩ : ∃ z : Int, m0.1 66 ((30 : Nat) : Int) = z := ⟨_, rfl⟩
    obtain ⟨g13, wg13⟩ : ∃ z : Int, m0.1 66 ((33 : Nat) : Int) = z := ⟨_, rfl⟩
    obtain ⟨g14, wg14⟩ : ∃ z : Int, m0.1 66 ((34 : Nat) : Int) = z := ⟨_, rfl⟩
    obtain ⟨g15, wg15⟩ : ∃ z : Int, m0.1 66 ((32 : Nat) : Int) = z := ⟨_, rfl⟩
    obtain ⟨g16, wg16⟩ : ∃ z : Int, m0.1 66 ((38 : Nat) : Int) = z := ⟨_, rfl⟩
    obtain ⟨g17, wg17⟩ : ∃ z : Int, m0.1 66 ((8 : Nat) : Int) = z := ⟨_, rfl⟩
    obtain ⟨g18, wg18⟩ : ∃ z : Int, m0.1 66 ((24 : Nat) : Int) = z := ⟨_, rfl⟩
    obtain ⟨g19, wg19⟩ : ∃ z : Int, m0.1 66 ((25 : Nat) : Int) = z := ⟨_, rfl⟩
    obtain ⟨g20, wg20⟩ : ∃ z : Int, m0.1 66 ((26 : Nat) : Int) = z := ⟨_, rfl⟩
    try rw [wg11] at i0
    try rw [wg12] at i0
    try rw [wg13] at i0
    try rw [wg14] at i0
    try rw [wg15] at i0
    try rw [wg16] at i0
    try rw [wg17] at i0
    try rw [wg18] at i0
    try rw [wg19] at i0
    try rw [wg20] at i0
    try rw [wg1] at i0
    try rw [wg2] at i0
    try rw [wg3] at i0
    try rw [wg4] at i0
    try rw [wg5] at i0
    try rw [wg6] at i0
    try rw [wg7] at i0
    try rw [wg8] at i0
    try rw [wg9] at i0
    try rw [wg10] at i0
    try rw [wg11] at i1
    try rw [wg12] at i1
    try rw [wg13] at i1
    try rw [wg14] at i1
    try rw [wg15] at i1
    try rw [wg16] at i1
    try rw [wg17] at i1
    try rw [wg18] at i1
    try rw [wg19] at i1
    try rw [wg20] at i1
    try rw [wg1] at i1
    try rw [wg2] at i1
    try rw [wg3] at i1
    try rw [wg4] at i1
    try rw [wg5] at i1
    try rw [wg6] at i1
    try rw [wg7] at i1
    try rw [wg8] at i1
    try rw [wg9] at i1
    try rw [wg10] at i1
    try rw [wg11] at i2
    try rw [wg12] at i2
    try rw [wg13] at i2
    try rw [wg14] at i2
    try rw [wg15] at i2
    try rw [wg16] at i2
    try rw [wg17] at i2
    try rw [wg18] at i2
    try rw [wg19] at i2
    try rw [wg20] at i2
    try rw [wg1] at i2
    try rw [wg2] at i2
    try rw [wg3] at i2
    try rw [wg4] at i2
    try rw [wg5] at i2
    try rw [wg6] at i2
    try rw [wg7] at i2
    try rw [wg8] at i2
    try rw [wg9] at i2
    try rw [wg10] at i2
    try rw [wg11] at i3
    try rw [wg12] at i3
    try rw [wg13] at i3
    try rw [wg14] at i3
    try rw [wg15] at i3
    try rw [wg16] at i3
    try rw [wg17] at i3
    try rw [wg18] at i3
    try rw [wg19] at i3
    try rw [wg20] at i3
    try rw [wg1] at i3
    try rw [wg2] at i3
    try rw [wg3] at i3
    try rw [wg4] at i3
    try rw [wg5] at i3
    try rw [wg6] at i3
    try rw [wg7] at i3
    try rw [wg8] at i3
    try rw [wg9] at i3
    try rw [wg10] at i3
    try rw [wg11] at i4
    try rw [wg12] at i4
    try rw [wg13] at i4
    try rw [wg14] at i4
    try rw [wg15] at i4
    try rw [wg16] at i4
    try rw [wg17] at i4
    try rw [wg18] at i4
    try rw [wg19] at i4
    try rw [wg20] at i4
    try rw [wg1] at i4
    try rw [wg2] at i4
    try rw [wg3] at i4
    try rw [wg4] at i4
    try rw [wg5] at i4
    try rw [wg6] at i4
    try rw [wg7] at i4
    try rw [wg8] at i4
    try rw [wg9] at i4
    try rw [wg10] at i4
    try rw [wg11] at i5
    try rw [wg12] at i5
    try rw [wg13] at i5
    try rw [wg14] at i5
    try rw [wg15] at i5
    try rw [wg16] at i5
    try rw [wg17] at i5
    try rw [wg18] at i5
    try rw [wg19] at i5
    try rw [wg20] at i5
    try rw [wg1] at i5
    try rw [wg2] at i5
    try rw [wg3] at i5
    try rw [wg4] at i5
    try rw [wg5] at i5
    try rw [wg6] at i5
    try rw [wg7] at i5
    try rw [wg8] at i5
    try rw [wg9] at i5
    try rw [wg10] at i5
    try rw [wg11] at i6
    try rw [wg12] at i6
    try rw [wg13] at i6
    try rw [wg14] at i6
    try rw [wg15] at i6
    try rw [wg16] at i6
    try rw [wg17] at i6
    try rw [wg18] at i6
    try rw [wg19] at i6
    try rw [wg20] at i6
    try rw [wg1] at i6
    try rw [wg2] at i6
    try rw [wg3] at i6
    try rw [wg4] at i6
    try rw [wg5] at i6
    try rw [wg6] at i6
    try rw [wg7] at i6
    try rw [wg8] at i6
    try rw [wg9] at i6
    try rw [wg10] at i6
    try rw [wg11] at i7
    try rw [wg12] at i7
    try rw [wg13] at i7
    try rw [wg14] at i7
    try rw [wg15] at i7
    try rw [wg16] at i7
    try rw [wg17] at i7
    try rw [wg18] at i7
    try rw [wg19] at i7
    try rw [wg20] at i7
    try rw [wg1] at i7
    try rw [wg2] at i7
    try rw [wg3] at i7
    try rw [wg4] at i7
    try rw [wg5] at i7
    try rw [wg6] at i7
    try rw [wg7] at i7
    try rw [wg8] at i7
    try rw [wg9] at i7
    try rw [wg10] at i7
    try rw [wg11] at i8
    try rw [wg12] at i8
    try rw [wg13] at i8
    try rw [wg14] at i8
    try rw [wg15] at i8
    try rw [wg16] at i8
    try rw [wg17] at i8
    try rw [wg18] at i8
    try rw [wg19] at i8
    try rw [wg20] at i8
    try rw [wg1] at i8
    try rw [wg2] at i8
    try rw [wg3] at i8
    try rw [wg4] at i8
    try rw [wg5] at i8
    try rw [wg6] at i8
    try rw [wg7] at i8
    try rw [wg8] at i8
    try rw [wg9] at i8
    try rw [wg10] at i8
    try rw [wg11] at i9
    try rw [wg12] at i9
    try rw [wg13] at i9
    try rw [wg14] at i9
    try rw [wg15] at i9
    try rw [wg16] at i9
    try rw [wg17] at i9
    try rw [wg18] at i9
    try rw [wg19] at i9
    try rw [wg20] at i9
    try rw [wg1] at i9
    try rw [wg2] at i9
    try rw [wg3] at i9
    try rw [wg4] at i9
    try rw [wg5] at i9
    try rw [wg6] at i9
    try rw [wg7] at i9
    try rw [wg8] at i9
    try rw [wg9] at i9
    try rw [wg10] at i9
    refine ⟨zk_X9_pass, zm_X9_pass hg d (by omega), rfl, (by (try rw [wg11]) <;> (try rw [wg12]) <;> (try rw [wg13]) <;> (try rw [wg14]) <;> (try rw [wg15]) <;> (try rw [wg16]) <;> (try rw [wg17]) <;> (try rw [wg18]) <;> (try rw [wg19]) <;> (try rw [wg20]) <;> (try rw [wg1]) <;> (try rw [wg2]) <;> (try rw [wg3]) <;> (try rw [wg4]) <;> (try rw [wg5]) <;> (try rw [wg6]) <;> (try rw [wg7]) <;> (try rw [wg8]) <;> (try rw [wg9]) <;> (try rw [wg10]) <;> omega), ?_⟩
    intro m21 qm21 p22 p23 p24 p25
    have z26 := zfx_t z0 qm21 rfl rfl
    have w27 : m21.1 66 ((30 : Nat) : Int) = g12 := (qm21.2.1 30 rfl).trans wg12
    have w28 : m21.1 66 ((38 : Nat) : Int) = g16 := (qm21.2.1 38 rfl).trans wg16
    have w29 : m21.1 66 ((8 : Nat) : Int) = g17 := (qm21.2.1 8 rfl).trans wg17
    have w30 : m21.1 66 ((24 : Nat) : Int) = g18 := (qm21.2.1 24 rfl).trans wg18
    have w31 : m21.1 66 ((25 : Nat) : Int) = g19 := (qm21.2.1 25 rfl).trans wg19
    have w32 : m21.1 66 ((26 : Nat) : Int) = g20 := (qm21.2.1 26 rfl).trans wg20
    obtain ⟨g33, wg33⟩ : ∃ z : Int, m21.1 66 ((31 : Nat) : Int) = z := ⟨_, rfl⟩
    obtain ⟨g34, wg34⟩ : ∃ z : Int, m21.1 66 ((33 : Nat) : Int) = z := ⟨_, rfl⟩
    obtain ⟨g35, wg35⟩ : ∃ z : Int, m21.1 66 ((34 : Nat) : Int) = z := ⟨_, rfl⟩
    obtain ⟨g36, wg36⟩ : ∃ z : Int, m21.1 66 ((32 : Nat) : Int) = z := ⟨_, rfl⟩
    try rw [wg33] at p22
    try rw [w27] at p22
    try rw [wg34] at p22
    try rw [wg35] at p22
    try rw [wg36] at p22
    try rw [w28] at p22
    try rw [w29] at p22
    try rw [w30] at p22
    try rw [w31] at p22
    try rw [w32] at p22
    try rw [wg11] at p22
    try rw [wg12] at p22
    try rw [wg13] at p22
    try rw [wg14] at p22
    try rw [wg15] at p22
    try rw [wg16] at p22
    try rw [wg17] at p22
    try rw [wg18] at p22
    try rw [wg19] at p22
    try rw [wg20] at p22
    try rw [wg1] at p22
    try rw [wg2] at p22
    try rw [wg3] at p22
    try rw [wg4] at p22
    try rw [wg5] at p22
    try rw [wg6] at p22
    try rw [wg7] at p22
    try rw [wg8] at p22
    try rw [wg9] at p22
    try rw [wg10] at p22
    try rw [wg33] at p23
    try rw [w27] at p23
    try rw [wg34] at p23
    try rw [wg35] at p23
    try rw [wg36] at p23
    try rw [w28] at p23
    try rw [w29] at p23
    try rw [w30] at p23
    try rw [w31] at p23
    try rw [w32] at p23
    try rw [wg11] at p23
    try rw [wg12] at p23
    try rw [wg13] at p23
    try rw [wg14] at p23
    try rw [wg15] at p23
    try rw [wg16] at p23
    try rw [wg17] at p23
    try rw [wg18] at p23
    try rw [wg19] at p23
    try rw [wg20] at p23
    try rw [wg1] at p23
    try rw [wg2] at p23
    try rw [wg3] at p23
    try rw [wg4] at p23
    try rw [wg5] at p23
    try rw [wg6] at p23
    try rw [wg7] at p23
    try rw [wg8] at p23
    try rw [wg9] at p23
    try rw [wg10] at p23
    try rw [wg33] at p24
    try rw [w27] at p24
    try rw [wg34] at p24
    try rw [wg35] at p24
    try rw [wg36] at p24
    try rw [w28] at p24
    try rw [w29] at p24
    try rw [w30] at p24
    try rw [w31] at p24
    try rw [w32] at p24
    try rw [wg11] at p24
    try rw [wg12] at p24
    try rw [wg13] at p24
    try rw [wg14] at p24
    try rw [wg15] at p24
    try rw [wg16] at p24
    try rw [wg17] at p24
    try rw [wg18] at p24
    try rw [wg19] at p24
    try rw [wg20] at p24
    try rw [wg1] at p24
    try rw [wg2] at p24
    try rw [wg3] at p24
    try rw [wg4] at p24
    try rw [wg5] at p24
    try rw [wg6] at p24
    try rw [wg7] at p24
    try rw [wg8] at p24
    try rw [wg9] at p24
    try rw [wg10] at p24
    try rw [wg33] at p25
    try rw [w27] at p25
    try rw [wg34] at p25
    try rw [wg35] at p25
    try rw [wg36] at p25
    try rw [w28] at p25
    try rw [w29] at p25
    try rw [w30] at p25
    try rw [w31] at p25
    try rw [w32] at p25
    try rw [wg11] at p25
    try rw [wg12] at p25
    try rw [wg13] at p25
    try rw [wg14] at p25
    try rw [wg15] at p25
    try rw [wg16] at p25
    try rw [wg17] at p25
    try rw [wg18] at p25
    try rw [wg19] at p25
    try rw [wg20] at p25
    try rw [wg1] at p25
    try rw [wg2] at p25
    try rw [wg3] at p25
    try rw [wg4] at p25
    try rw [wg5] at p25
    try rw [wg6] at p25
    try rw [wg7] at p25
    try rw [wg8] at p25
    try rw [wg9] at p25
    try rw [wg10] at p25
    have ot37 := zOt_fr i9 (qm21.1 76 (by decide) rfl) (qm21.1 77 (by decide) rfl) (qm21.1 78 (by decide) rfl) (qm21.1 79 (by decide) rfl) (qm21.1 80 (by decide) rfl) (qm21.1 83 (by decide) rfl) (qm21.1 84 (by decide) rfl)
    have TE38 := zTE_fr (m' := m21) i3 (fun j a b => qm21.1 j (by omega) (zanyF (by simp <;> omega))) (qm21.2.1 8 rfl) (qm21.2.1 38 rfl)
    have BD39 := zSp_fr i4 (fun j a b => qm21.1 j (by omega) (zanyF (by simp <;> omega))) (qm21.2.1 8 rfl) (qm21.2.1 38 rfl)
    have ZP : zrm m21 < zrm m0 := (by unfold zrm; simp only [wg33, w27, wg34, wg35, wg36, w28, w29, w30, w31, w32, wg11, wg12, wg13, wg14, wg15, wg16, wg17, wg18, wg19, wg20, wg1, wg2, wg3, wg4, wg5, wg6, wg7, wg8, wg9, wg10]; (repeat' split) <;> omega)
    intro x40 hx40 kx40 lx40
    rw [w30] at hx40
    refine And.intro ⟨by omega, by omega⟩ ?_
    intro x41 hx41 kx41 lx41
    rw [show (x40 + v1) = 21 + v1 by omega] at hx41
    refine And.intro ⟨⟨by omega, by omega⟩, ⟨by omega, by omega⟩⟩ (And.intro (fun c42 => ?_) (fun c42 => ?_))
    · have NM : 0 ≤ m21.1 66 ((38 : Nat) : Int) := (by (try rw [wg33]) <;> (try rw [w27]) <;> (try rw [wg34]) <;> (try rw [wg35]) <;> (try rw [wg36]) <;> (try rw [w28]) <;> (try rw [w29]) <;> (try rw [w30]) <;> (try rw [w31]) <;> (try rw [w32]) <;> (try rw [wg11]) <;> (try rw [wg12]) <;> (try rw [wg13]) <;> (try rw [wg14]) <;> (try rw [wg15]) <;> (try rw [wg16]) <;> (try rw [wg17]) <;> (try rw [wg18]) <;> (try rw [wg19]) <;> (try rw [wg20]) <;> (try rw [wg1]) <;> (try rw [wg2]) <;> (try rw [wg3]) <;> (try rw [wg4]) <;> (try rw [wg5]) <;> (try rw [wg6]) <;> (try rw [wg7]) <;> (try rw [wg8]) <;> (try rw [wg9]) <;> (try rw [wg10]) <;> omega)
      refine ⟨zk_X9_readType, zm_X9_readType hg d (by omega), _, _, _, _, _, _, _, _, _, _, rfl, ⟨by omega, by omega⟩, ⟨by omega, by omega⟩, ⟨by omega, by omega⟩, (by (try rw [wg33]) <;> (try rw [w27]) <;> (try rw [wg34]) <;> (try rw [wg35]) <;> (try rw [wg36]) <;> (try rw [w28]) <;> (try rw [w29]) <;> (try rw [w30]) <;> (try rw [w31]) <;> (try rw [w32]) <;> (try rw [wg11]) <;> (try rw [wg12]) <;> (try rw [wg13]) <;> (try rw [wg14]) <;> (try rw [wg15]) <;> (try rw [wg16]) <;> (try rw [wg17]) <;> (try rw [wg18]) <;> (try rw [wg19]) <;> (try rw [wg20]) <;> (try rw [wg1]) <;> (try rw [wg2]) <;> (try rw [wg3]) <;> (try rw [wg4]) <;> (try rw [wg5]) <;> (try rw [wg6]) <;> (try rw [wg7]) <;> (try rw [wg8]) <;> (try rw [wg9]) <;> (try rw [wg10]) <;> omega), TE38.1.1, TE38.1.2.1, (by rw [show m21.1 66 ((26 : Nat) : Int) = v1 + 1 by (try rw [w32]); omega, show m21.1 66 ((24 : Nat) : Int) = 21 by (try rw [w30]); omega, show m21.1 76 = μ.1 76 from z26.1 76 (by decide) rfl, show m21.1 77 = μ.1 77 from z26.1 77 (by decide) rfl]; exact ⟨Int.le_refl _, fun _ => hp4.2.1, by omega, hp4.2.2⟩), (fun v a b => by rw [show m21.1 66 ((24 : Nat) : Int) = 21 by (try rw [w30]); omega, show m21.1 77 = μ.1 77 from z26.1 77 (by decide) rfl]; rfl), (by (try rw [w29]); (try rw [w28]); exact ⟨zTE_pre TE38 w29 w28 wg7 wg6 hp5.1, by omega, by omega⟩), (fun _ => by rw [show m21.1 66 ((24 : Nat) : Int) = 21 by (try rw [w30]); omega, show m21.1 76 = μ.1 76 from z26.1 76 (by decide) rfl, show m21.1 77 = μ.1 77 from z26.1 77 (by decide) rfl]; exact ⟨Int.le_refl (zXf μ v1), Int.le_refl (zXf μ v1 + zXn μ v1)⟩), ?_⟩
      intro x43 m44 qm44 kx43 lx43 p45 p46 p47 p48 p49 p50 p51
      have z52 := zfx_t z26 qm44 rfl rfl
      have w53 : m44.1 66 ((30 : Nat) : Int) = g12 := (qm44.2.1 30 rfl).trans w27
      have w54 : m44.1 66 ((24 : Nat) : Int) = g18 := (qm44.2.1 24 rfl).trans w30
      have w55 : m44.1 66 ((25 : Nat) : Int) = g19 := (qm44.2.1 25 rfl).trans w31
      have w56 : m44.1 66 ((26 : Nat) : Int) = g20 := (qm44.2.1 26 rfl).trans w32
      obtain ⟨g57, wg57⟩ : ∃ z : Int, m44.1 66 ((31 : Nat) : Int) = z := ⟨_, rfl⟩
      obtain ⟨g58, wg58⟩ : ∃ z : Int, m44.1 66 ((33 : Nat) : Int) = z := ⟨_, rfl⟩
      obtain ⟨g59, wg59⟩ : ∃ z : Int, m44.1 66 ((34 : Nat) : Int) = z := ⟨_, rfl⟩
      obtain ⟨g60, wg60⟩ : ∃ z : Int, m44.1 66 ((32 : Nat) : Int) = z := ⟨_, rfl⟩
      obtain ⟨g61, wg61⟩ : ∃ z : Int, m44.1 66 ((38 : Nat) : Int) = z := ⟨_, rfl⟩
      obtain ⟨g62, wg62⟩ : ∃ z : Int, m44.1 66 ((8 : Nat) : Int) = z := ⟨_, rfl⟩
      try rw [wg57] at p45
      try rw [w53] at p45
      try rw [wg58] at p45
      try rw [wg59] at p45
      try rw [wg60] at p45
      try rw [wg61] at p45
      try rw [wg62] at p45
      try rw [w54] at p45
      try rw [w55] at p45
      try rw [w56] at p45
      try rw [wg33] at p45
      try rw [w27] at p45
      try rw [wg34] at p45
      try rw [wg35] at p45
      try rw [wg36] at p45
      try rw [w28] at p45
      try rw [w29] at p45
      try rw [w30] at p45
      try rw [w31] at p45
      try rw [w32] at p45
      try rw [wg1] at p45
      try rw [wg2] at p45
      try rw [wg3] at p45
      try rw [wg4] at p45
      try rw [wg5] at p45
      try rw [wg6] at p45
      try rw [wg7] at p45
      try rw [wg8] at p45
      try rw [wg9] at p45
      try rw [wg10] at p45
      try rw [wg57] at p46
      try rw [w53] at p46
      try rw [wg58] at p46
      try rw [wg59] at p46
      try rw [wg60] at p46
      try rw [wg61] at p46
      try rw [wg62] at p46
      try rw [w54] at p46
      try rw [w55] at p46
      try rw [w56] at p46
      try rw [wg33] at p46
      try rw [w27] at p46
      try rw [wg34] at p46
      try rw [wg35] at p46
      try rw [wg36] at p46
      try rw [w28] at p46
      try rw [w29] at p46
      try rw [w30] at p46
      try rw [w31] at p46
      try rw [w32] at p46
      try rw [wg1] at p46
      try rw [wg2] at p46
      try rw [wg3] at p46
      try rw [wg4] at p46
      try rw [wg5] at p46
      try rw [wg6] at p46
      try rw [wg7] at p46
      try rw [wg8] at p46
      try rw [wg9] at p46
      try rw [wg10] at p46
      try rw [wg57] at p47
      try rw [w53] at p47
      try rw [wg58] at p47
      try rw [wg59] at p47
      try rw [wg60] at p47
      try rw [wg61] at p47
      try rw [wg62] at p47
      try rw [w54] at p47
      try rw [w55] at p47
      try rw [w56] at p47
      try rw [wg33] at p47
      try rw [w27] at p47
      try rw [wg34] at p47
      try rw [wg35] at p47
      try rw [wg36] at p47
      try rw [w28] at p47
      try rw [w29] at p47
      try rw [w30] at p47
      try rw [w31] at p47
      try rw [w32] at p47
      try rw [wg1] at p47
      try rw [wg2] at p47
      try rw [wg3] at p47
      try rw [wg4] at p47
      try rw [wg5] at p47
      try rw [wg6] at p47
      try rw [wg7] at p47
      try rw [wg8] at p47
      try rw [wg9] at p47
      try rw [wg10] at p47
      try rw [wg57] at p48
      try rw [w53] at p48
      try rw [wg58] at p48
      try rw [wg59] at p48
      try rw [wg60] at p48
      try rw [wg61] at p48
      try rw [wg62] at p48
      try rw [w54] at p48
      try rw [w55] at p48
      try rw [w56] at p48
      try rw [wg33] at p48
      try rw [w27] at p48
      try rw [wg34] at p48
      try rw [wg35] at p48
      try rw [wg36] at p48
      try rw [w28] at p48
      try rw [w29] at p48
      try rw [w30] at p48
      try rw [w31] at p48
      try rw [w32] at p48
      try rw [wg1] at p48
      try rw [wg2] at p48
      try rw [wg3] at p48
      try rw [wg4] at p48
      try rw [wg5] at p48
      try rw [wg6] at p48
      try rw [wg7] at p48
      try rw [wg8] at p48
      try rw [wg9] at p48
      try rw [wg10] at p48
      try rw [wg57] at p49
      try rw [w53] at p49
      try rw [wg58] at p49
      try rw [wg59] at p49
      try rw [wg60] at p49
      try rw [wg61] at p49
      try rw [wg62] at p49
      try rw [w54] at p49
      try rw [w55] at p49
      try rw [w56] at p49
      try rw [wg33] at p49
      try rw [w27] at p49
      try rw [wg34] at p49
      try rw [wg35] at p49
      try rw [wg36] at p49
      try rw [w28] at p49
      try rw [w29] at p49
      try rw [w30] at p49
      try rw [w31] at p49
      try rw [w32] at p49
      try rw [wg1] at p49
      try rw [wg2] at p49
      try rw [wg3] at p49
      try rw [wg4] at p49
      try rw [wg5] at p49
      try rw [wg6] at p49
      try rw [wg7] at p49
      try rw [wg8] at p49
      try rw [wg9] at p49
      try rw [wg10] at p49
      try rw [wg57] at p50
      try rw [w53] at p50
      try rw [wg58] at p50
      try rw [wg59] at p50
      try rw [wg60] at p50
      try rw [wg61] at p50
      try rw [wg62] at p50
      try rw [w54] at p50
      try rw [w55] at p50
      try rw [w56] at p50
      try rw [wg33] at p50
      try rw [w27] at p50
      try rw [wg34] at p50
      try rw [wg35] at p50
      try rw [wg36] at p50
      try rw [w28] at p50
      try rw [w29] at p50
      try rw [w30] at p50
      try rw [w31] at p50
      try rw [w32] at p50
      try rw [wg1] at p50
      try rw [wg2] at p50
      try rw [wg3] at p50
      try rw [wg4] at p50
      try rw [wg5] at p50
      try rw [wg6] at p50
      try rw [wg7] at p50
      try rw [wg8] at p50
      try rw [wg9] at p50
      try rw [wg10] at p50
      try rw [wg57] at p51
      try rw [w53] at p51
      try rw [wg58] at p51
      try rw [wg59] at p51
      try rw [wg60] at p51
      try rw [wg61] at p51
      try rw [wg62] at p51
      try rw [w54] at p51
      try rw [w55] at p51
      try rw [w56] at p51
      try rw [wg33] at p51
      try rw [w27] at p51
      try rw [wg34] at p51
      try rw [wg35] at p51
      try rw [wg36] at p51
      try rw [w28] at p51
      try rw [w29] at p51
      try rw [w30] at p51
      try rw [w31] at p51
      try rw [w32] at p51
      try rw [wg1] at p51
      try rw [wg2] at p51
      try rw [wg3] at p51
      try rw [wg4] at p51
      try rw [wg5] at p51
      try rw [wg6] at p51
      try rw [wg7] at p51
      try rw [wg8] at p51
      try rw [wg9] at p51
      try rw [wg10] at p51
      clear wg33 w27 wg34 wg35 wg36 w28 w29 w30 w31 w32
      have ot63 := zOt_fr ot37 (qm44.1 76 (by decide) rfl) (qm44.1 77 (by decide) rfl) (qm44.1 78 (by decide) rfl) (qm44.1 79 (by decide) rfl) (qm44.1 80 (by decide) rfl) (qm44.1 83 (by decide) rfl) (qm44.1 84 (by decide) rfl)
      have W1 := zW1s_old BD39.1 TE38.1.1.1.1 p47.1.2.2.1 (qm44.1 78 (by decide) rfl) (qm44.1 79 (by decide) rfl)
      have W2 := BD39.2.1
      have TE2 := zTE_t TE38 p47
      have BD2 := zSp_old BD39 TE38.1.1.1.1 TE38.1.1.2.1 p47.1.2.2.1 p47.1.2.2.2.1 (fun j a b => qm44.1 j (by omega) (zanyF (by simp <;> omega))) (by have := p47.2.2; unfold zTn at this; omega)
      refine And.intro ⟨by omega, by omega⟩ (And.intro (fun c64 => ?_) (fun c64 => ?_))
      · have ZN : zTn m21 m44 ≤ 300 := by unfold zTn; (try rw [wg57]) <;> (try rw [w53]) <;> (try rw [wg58]) <;> (try rw [wg59]) <;> (try rw [wg60]) <;> (try rw [wg61]) <;> (try rw [wg62]) <;> (try rw [w54]) <;> (try rw [w55]) <;> (try rw [w56]) <;> (try rw [wg11]) <;> (try rw [wg12]) <;> (try rw [wg13]) <;> (try rw [wg14]) <;> (try rw [wg15]) <;> (try rw [wg16]) <;> (try rw [wg17]) <;> (try rw [wg18]) <;> (try rw [wg19]) <;> (try rw [wg20]) <;> (try rw [wg1]) <;> (try rw [wg2]) <;> (try rw [wg3]) <;> (try rw [wg4]) <;> (try rw [wg5]) <;> (try rw [wg6]) <;> (try rw [wg7]) <;> (try rw [wg8]) <;> (try rw [wg9]) <;> (try rw [wg10]) <;> omega
        have C5 : lo ≤ x43 ∧ x43 < zTop m44 ∧ m44.1 67 x43 = 0 ∧ m44.1 68 x43 ≠ v1 ∧ zA2 m44 x43 ∧ zPar m44 (zXf μ v1) (zXf μ v1 + zXn μ v1) x43 ∧ m44.1 71 x43 ≤ zTn m21 m44 := by rcases p50 with c | c; (exfalso; omega); exact ⟨c.1, c.2.1, c.2.2.2.1 (by omega), (c.2.2.2.2.1 rfl).1, (c.2.2.2.2.1 rfl).2, c.2.2.2.2.2.1, c.2.2.2.2.2.2⟩
        have TX : zTx m44 lo x43 := ⟨⟨C5.1, C5.2.1⟩, by have := C5.2.2.2.2.2.2; omega, C5.2.2.1⟩
        have VL := ((TE2.1.2.1 x43 C5.1 C5.2.1).2.1 C5.2.2.1).1
        have VN := C5.2.2.2.1
        have HS : zW1s m44 v1 + m44.1 71 x43 ≤ zTn μ m44 := by have h1 := C5.2.2.2.2.2.2; unfold zTn at h1 W2 ⊢; omega
        have ZQ : zrm m44 ≤ zrm m21 := by rcases p49 with c | c; (exfalso; omega); exact c
        have PX : zXf m44 v1 = zXf μ v1 ∧ zXn m44 v1 = zXn μ v1 := by unfold zXf zXn; rw [show m44.1 76 = μ.1 76 from z52.1 76 (by decide) rfl, show m44.1 77 = μ.1 77 from z52.1 77 (by decide) rfl]; exact ⟨rfl, rfl⟩
        intro x65 hx65 kx65 lx65
        rw [w54] at hx65
        intro x66 hx66 kx66 lx66
        rw [w54] at hx66
        refine And.intro ⟨by omega, by omega⟩ ?_
        intro x67 hx67 kx67 lx67
        rw [qm44.1 79 (by decide) rfl, show (x66 + v1) = 21 + v1 by omega] at hx67
        refine And.intro ⟨by omega, by omega⟩ (And.intro ⟨by omega, by omega⟩ ?_)
        intro m68 em68
        have z69 := zfx_r z52 em68 rfl (by decide)
        have w70 : m68.1 66 ((31 : Nat) : Int) = g57 := by rw [em68]; exact (congrFun (zu_ne (by decide)) _).trans wg57
        have w71 : m68.1 66 ((30 : Nat) : Int) = g12 := by rw [em68]; exact (congrFun (zu_ne (by decide)) _).trans w53
        have w72 : m68.1 66 ((33 : Nat) : Int) = g58 := by rw [em68]; exact (congrFun (zu_ne (by decide)) _).trans wg58
        have w73 : m68.1 66 ((34 : Nat) : Int) = g59 := by rw [em68]; exact (congrFun (zu_ne (by decide)) _).trans wg59
        have w74 : m68.1 66 ((32 : Nat) : Int) = g60 := by rw [em68]; exact (congrFun (zu_ne (by decide)) _).trans wg60
        have w75 : m68.1 66 ((38 : Nat) : Int) = g61 := by rw [em68]; exact (congrFun (zu_ne (by decide)) _).trans wg61
        have w76 : m68.1 66 ((8 : Nat) : Int) = g62 := by rw [em68]; exact (congrFun (zu_ne (by decide)) _).trans wg62
        have w77 : m68.1 66 ((24 : Nat) : Int) = g18 := by rw [em68]; exact (congrFun (zu_ne (by decide)) _).trans w54
        have w78 : m68.1 66 ((25 : Nat) : Int) = g19 := by rw [em68]; exact (congrFun (zu_ne (by decide)) _).trans w55
        have w79 : m68.1 66 ((26 : Nat) : Int) = g20 := by rw [em68]; exact (congrFun (zu_ne (by decide)) _).trans w56
        clear wg57 w53 wg58 wg59 wg60 wg61 wg62 w54 w55 w56
        have ot80 := zOt_w ot63 em68 (by have hk : (84 : Int) ≤ ((4 * (x65 + v1)) + x67) := (by omega); refine ⟨fun h => ?_, fun h => ?_, fun h => ?_, fun h => ?_, fun h => ?_⟩ <;> first | exact hk | (exfalso; revert h; decide))
        intro x81 hx81 kx81 lx81
        rw [w77] at hx81
        refine And.intro ⟨by omega, by omega⟩ ?_
        intro x82 hx82 kx82 lx82
        rw [em68, zu_ne (by decide), qm44.1 79 (by decide) rfl, show (x81 + v1) = 21 + v1 by omega] at hx82
        refine And.intro ⟨by omega, by omega⟩ (And.intro ⟨by omega, by omega⟩ ?_)
        intro m83 em83
        have z84 := zfx_r z69 em83 rfl (by decide)
        have w85 : m83.1 66 ((31 : Nat) : Int) = g57 := by rw [em83]; exact (congrFun (zu_ne (by decide)) _).trans w70
        have w86 : m83.1 66 ((30 : Nat) : Int) = g12 := by rw [em83]; exact (congrFun (zu_ne (by decide)) _).trans w71
        have w87 : m83.1 66 ((33 : Nat) : Int) = g58 := by rw [em83]; exact (congrFun (zu_ne (by decide)) _).trans w72
        have w88 : m83.1 66 ((34 : Nat) : Int) = g59 := by rw [em83]; exact (congrFun (zu_ne (by decide)) _).trans w73
        have w89 : m83.1 66 ((32 : Nat) : Int) = g60 := by rw [em83]; exact (congrFun (zu_ne (by decide)) _).trans w74
        have w90 : m83.1 66 ((38 : Nat) : Int) = g61 := by rw [em83]; exact (congrFun (zu_ne (by decide)) _).trans w75
        have w91 : m83.1 66 ((8 : Nat) : Int) = g62 := by rw [em83]; exact (congrFun (zu_ne (by decide)) _).trans w76
        have w92 : m83.1 66 ((24 : Nat) : Int) = g18 := by rw [em83]; exact (congrFun (zu_ne (by decide)) _).trans w77
        have w93 : m83.1 66 ((25 : Nat) : Int) = g19 := by rw [em83]; exact (congrFun (zu_ne (by decide)) _).trans w78
        have w94 : m83.1 66 ((26 : Nat) : Int) = g20 := by rw [em83]; exact (congrFun (zu_ne (by decide)) _).trans w79
        clear w70 w71 w72 w73 w74 w75 w76 w77 w78 w79
        have ot95 := zOt_w ot80 em83 (by have hk : (21 : Int) ≤ (x81 + v1) := (by omega); refine ⟨fun h => ?_, fun h => ?_, fun h => ?_, fun h => ?_, fun h => ?_⟩ <;> first | exact hk | (exfalso; revert h; decide))
        have Y79 : m44.1 79 (21 + v1) = x67 := by rw [qm44.1 79 (by decide) rfl]; omega
        have BD3 := zSp_w (c := v1) BD2 em68 (by omega) (by omega) TX (by omega) C5.2.2.2.2.1 (by rw [PX.1, PX.2]; exact C5.2.2.2.2.2.1) HS em83 (by omega) (by omega)
        have TE3 := zTE_fr (m' := m83) TE2 (fun j a b => by rw [em83, zu_ne (by omega), em68, zu_ne (by omega)]) (by rw [em83, zu_ne (by decide), em68, zu_ne (by decide)]) (by rw [em83, zu_ne (by decide), em68, zu_ne (by decide)])
        have ZR : zrm m83 ≤ zrm m44 := zrm_e (fun j => by rw [em83, zu_ne (by decide), em68, zu_ne (by decide)])
        have ZL : zrm m83 < zrm m0 := Int.lt_of_le_of_lt ZR (Int.lt_of_le_of_lt ZQ ZP)
        intro x96 hx96 kx96 lx96
        rw [w89] at hx96
        refine And.intro ⟨⟨by omega, by omega⟩, ⟨by omega, by omega⟩⟩ (And.intro (fun c97 => ?_) (fun c97 => ?_))
        · refine Exists.intro (Int.toNat (zrm m83)) (And.intro (zrN ZL (zrm_0 (by (try rw [w85]) <;> (try rw [w86]) <;> (try rw [w87]) <;> (try rw [w88]) <;> (try rw [w89]) <;> (try rw [w90]) <;> (try rw [w91]) <;> (try rw [w92]) <;> (try rw [w93]) <;> (try rw [w94]) <;> (try rw [wg11]) <;> (try rw [wg12]) <;> (try rw [wg13]) <;> (try rw [wg14]) <;> (try rw [wg15]) <;> (try rw [wg16]) <;> (try rw [wg17]) <;> (try rw [wg18]) <;> (try rw [wg19]) <;> (try rw [wg20]) <;> (try rw [wg1]) <;> (try rw [wg2]) <;> (try rw [wg3]) <;> (try rw [wg4]) <;> (try rw [wg5]) <;> (try rw [wg6]) <;> (try rw [wg7]) <;> (try rw [wg8]) <;> (try rw [wg9]) <;> (try rw [wg10]) <;> omega))) ?_)
          exact ⟨_, rfl, z84, ⟨by omega, by omega⟩, (by (try rw [w85]) <;> (try rw [w86]) <;> (try rw [w87]) <;> (try rw [w88]) <;> (try rw [w89]) <;> (try rw [w90]) <;> (try rw [w91]) <;> (try rw [w92]) <;> (try rw [w93]) <;> (try rw [w94]) <;> (try rw [wg11]) <;> (try rw [wg12]) <;> (try rw [wg13]) <;> (try rw [wg14]) <;> (try rw [wg15]) <;> (try rw [wg16]) <;> (try rw [wg17]) <;> (try rw [wg18]) <;> (try rw [wg19]) <;> (try rw [wg20]) <;> (try rw [wg1]) <;> (try rw [wg2]) <;> (try rw [wg3]) <;> (try rw [wg4]) <;> (try rw [wg5]) <;> (try rw [wg6]) <;> (try rw [wg7]) <;> (try rw [wg8]) <;> (try rw [wg9]) <;> (try rw [wg10]) <;> omega), (by (try rw [w85]) <;> (try rw [w86]) <;> (try rw [w87]) <;> (try rw [w88]) <;> (try rw [w89]) <;> (try rw [w90]) <;> (try rw [w91]) <;> (try rw [w92]) <;> (try rw [w93]) <;> (try rw [w94]) <;> (try rw [wg11]) <;> (try rw [wg12]) <;> (try rw [wg13]) <;> (try rw [wg14]) <;> (try rw [wg15]) <;> (try rw [wg16]) <;> (try rw [wg17]) <;> (try rw [wg18]) <;> (try rw [wg19]) <;> (try rw [wg20]) <;> (try rw [wg1]) <;> (try rw [wg2]) <;> (try rw [wg3]) <;> (try rw [wg4]) <;> (try rw [wg5]) <;> (try rw [wg6]) <;> (try rw [wg7]) <;> (try rw [wg8]) <;> (try rw [wg9]) <;> (try rw [wg10]) <;> omega), rfl, TE3, BD3, (by (try rw [w85]) <;> (try rw [w86]) <;> (try rw [w87]) <;> (try rw [w88]) <;> (try rw [w89]) <;> (try rw [w90]) <;> (try rw [w91]) <;> (try rw [w92]) <;> (try rw [w93]) <;> (try rw [w94]) <;> (try rw [wg11]) <;> (try rw [wg12]) <;> (try rw [wg13]) <;> (try rw [wg14]) <;> (try rw [wg15]) <;> (try rw [wg16]) <;> (try rw [wg17]) <;> (try rw [wg18]) <;> (try rw [wg19]) <;> (try rw [wg20]) <;> (try rw [wg1]) <;> (try rw [wg2]) <;> (try rw [wg3]) <;> (try rw [wg4]) <;> (try rw [wg5]) <;> (try rw [wg6]) <;> (try rw [wg7]) <;> (try rw [wg8]) <;> (try rw [wg9]) <;> (try rw [wg10]) <;> omega), (Or.inr (by (try rw [w85]) <;> (try rw [w86]) <;> (try rw [w87]) <;> (try rw [w88]) <;> (try rw [w89]) <;> (try rw [w90]) <;> (try rw [w91]) <;> (try rw [w92]) <;> (try rw [w93]) <;> (try rw [w94]) <;> (try rw [wg11]) <;> (try rw [wg12]) <;> (try rw [wg13]) <;> (try rw [wg14]) <;> (try rw [wg15]) <;> (try rw [wg16]) <;> (try rw [wg17]) <;> (try rw [wg18]) <;> (try rw [wg19]) <;> (try rw [wg20]) <;> (try rw [wg1]) <;> (try rw [wg2]) <;> (try rw [wg3]) <;> (try rw [wg4]) <;> (try rw [wg5]) <;> (try rw [wg6]) <;> (try rw [wg7]) <;> (try rw [wg8]) <;> (try rw [wg9]) <;> (try rw [wg10]) <;> omega)), (Int.le_of_lt (Int.lt_of_lt_of_le ZL i7)), (by (try rw [w85]) <;> (try rw [w86]) <;> (try rw [w87]) <;> (try rw [w88]) <;> (try rw [w89]) <;> (try rw [w90]) <;> (try rw [w91]) <;> (try rw [w92]) <;> (try rw [w93]) <;> (try rw [w94]) <;> (try rw [wg11]) <;> (try rw [wg12]) <;> (try rw [wg13]) <;> (try rw [wg14]) <;> (try rw [wg15]) <;> (try rw [wg16]) <;> (try rw [wg17]) <;> (try rw [wg18]) <;> (try rw [wg19]) <;> (try rw [wg20]) <;> (try rw [wg1]) <;> (try rw [wg2]) <;> (try rw [wg3]) <;> (try rw [wg4]) <;> (try rw [wg5]) <;> (try rw [wg6]) <;> (try rw [wg7]) <;> (try rw [wg8]) <;> (try rw [wg9]) <;> (try rw [wg10]) <;> omega), ot95, rfl⟩
        · exact And.intro (zrtb (by omega)) (And.intro ⟨by omega, by omega⟩ (hQ _ _ z84 (by omega) (by omega) (by (try rw [w85]) <;> (try rw [w86]) <;> (try rw [w87]) <;> (try rw [w88]) <;> (try rw [w89]) <;> (try rw [w90]) <;> (try rw [w91]) <;> (try rw [w92]) <;> (try rw [w93]) <;> (try rw [w94]) <;> (try rw [wg11]) <;> (try rw [wg12]) <;> (try rw [wg13]) <;> (try rw [wg14]) <;> (try rw [wg15]) <;> (try rw [wg16]) <;> (try rw [wg17]) <;> (try rw [wg18]) <;> (try rw [wg19]) <;> (try rw [wg20]) <;> (try rw [wg1]) <;> (try rw [wg2]) <;> (try rw [wg3]) <;> (try rw [wg4]) <;> (try rw [wg5]) <;> (try rw [wg6]) <;> (try rw [wg7]) <;> (try rw [wg8]) <;> (try rw [wg9]) <;> (try rw [wg10]) <;> omega) (by (try rw [w85]) <;> (try rw [w86]) <;> (try rw [w87]) <;> (try rw [w88]) <;> (try rw [w89]) <;> (try rw [w90]) <;> (try rw [w91]) <;> (try rw [w92]) <;> (try rw [w93]) <;> (try rw [w94]) <;> (try rw [wg11]) <;> (try rw [wg12]) <;> (try rw [wg13]) <;> (try rw [wg14]) <;> (try rw [wg15]) <;> (try rw [wg16]) <;> (try rw [wg17]) <;> (try rw [wg18]) <;> (try rw [wg19]) <;> (try rw [wg20]) <;> (try rw [wg1]) <;> (try rw [wg2]) <;> (try rw [wg3]) <;> (try rw [wg4]) <;> (try rw [wg5]) <;> (try rw [wg6]) <;> (try rw [wg7]) <;> (try rw [wg8]) <;> (try rw [wg9]) <;> (try rw [wg10]) <;> omega) TE3 (by (try rw [w85]) <;> (try rw [w86]) <;> (try rw [w87]) <;> (try rw [w88]) <;> (try rw [w89]) <;> (try rw [w90]) <;> (try rw [w91]) <;> (try rw [w92]) <;> (try rw [w93]) <;> (try rw [w94]) <;> (try rw [wg11]) <;> (try rw [wg12]) <;> (try rw [wg13]) <;> (try rw [wg14]) <;> (try rw [wg15]) <;> (try rw [wg16]) <;> (try rw [wg17]) <;> (try rw [wg18]) <;> (try rw [wg19]) <;> (try rw [wg20]) <;> (try rw [wg1]) <;> (try rw [wg2]) <;> (try rw [wg3]) <;> (try rw [wg4]) <;> (try rw [wg5]) <;> (try rw [wg6]) <;> (try rw [wg7]) <;> (try rw [wg8]) <;> (try rw [wg9]) <;> (try rw [wg10]) <;> omega) (fun h => BD3) (fun h => Int.lt_of_lt_of_le ZL i7) ot95))
      · exact And.intro (zrtb (by omega)) (And.intro ⟨by omega, by omega⟩ (hQ _ _ z52 (by omega) (by omega) (by (try rw [wg57]) <;> (try rw [w53]) <;> (try rw [wg58]) <;> (try rw [wg59]) <;> (try rw [wg60]) <;> (try rw [wg61]) <;> (try rw [wg62]) <;> (try rw [w54]) <;> (try rw [w55]) <;> (try rw [w56]) <;> (try rw [wg11]) <;> (try rw [wg12]) <;> (try rw [wg13]) <;> (try rw [wg14]) <;> (try rw [wg15]) <;> (try rw [wg16]) <;> (try rw [wg17]) <;> (try rw [wg18]) <;> (try rw [wg19]) <;> (try rw [wg20]) <;> (try rw [wg1]) <;> (try rw [wg2]) <;> (try rw [wg3]) <;> (try rw [wg4]) <;> (try rw [wg5]) <;> (try rw [wg6]) <;> (try rw [wg7]) <;> (try rw [wg8]) <;> (try rw [wg9]) <;> (try rw [wg10]) <;> omega) (by (try rw [wg57]) <;> (try rw [w53]) <;> (try rw [wg58]) <;> (try rw [wg59]) <;> (try rw [wg60]) <;> (try rw [wg61]) <;> (try rw [wg62]) <;> (try rw [w54]) <;> (try rw [w55]) <;> (try rw [w56]) <;> (try rw [wg11]) <;> (try rw [wg12]) <;> (try rw [wg13]) <;> (try rw [wg14]) <;> (try rw [wg15]) <;> (try rw [wg16]) <;> (try rw [wg17]) <;> (try rw [wg18]) <;> (try rw [wg19]) <;> (try rw [wg20]) <;> (try rw [wg1]) <;> (try rw [wg2]) <;> (try rw [wg3]) <;> (try rw [wg4]) <;> (try rw [wg5]) <;> (try rw [wg6]) <;> (try rw [wg7]) <;> (try rw [wg8]) <;> (try rw [wg9]) <;> (try rw [wg10]) <;> omega) TE2 (by (try rw [wg57]) <;> (try rw [w53]) <;> (try rw [wg58]) <;> (try rw [wg59]) <;> (try rw [wg60]) <;> (try rw [wg61]) <;> (try rw [wg62]) <;> (try rw [w54]) <;> (try rw [w55]) <;> (try rw [w56]) <;> (try rw [wg11]) <;> (try rw [wg12]) <;> (try rw [wg13]) <;> (try rw [wg14]) <;> (try rw [wg15]) <;> (try rw [wg16]) <;> (try rw [wg17]) <;> (try rw [wg18]) <;> (try rw [wg19]) <;> (try rw [wg20]) <;> (try rw [wg1]) <;> (try rw [wg2]) <;> (try rw [wg3]) <;> (try rw [wg4]) <;> (try rw [wg5]) <;> (try rw [wg6]) <;> (try rw [wg7]) <;> (try rw [wg8]) <;> (try rw [wg9]) <;> (try rw [wg10]) <;> omega) (fun h => by exfalso; omega) (fun h => by exfalso; omega) ot63))
    · have NM : 0 ≤ m21.1 66 ((38 : Nat) : Int) := (by (try rw [wg33]) <;> (try rw [w27]) <;> (try rw [wg34]) <;> (try rw [wg35]) <;> (try rw [wg36]) <;> (try rw [w28]) <;> (try rw [w29]) <;> (try rw [w30]) <;> (try rw [w31]) <;> (try rw [w32]) <;> (try rw [wg11]) <;> (try rw [wg12]) <;> (try rw [wg13]) <;> (try rw [wg14]) <;> (try rw [wg15]) <;> (try rw [wg16]) <;> (try rw [wg17]) <;> (try rw [wg18]) <;> (try rw [wg19]) <;> (try rw [wg20]) <;> (try rw [wg1]) <;> (try rw [wg2]) <;> (try rw [wg3]) <;> (try rw [wg4]) <;> (try rw [wg5]) <;> (try rw [wg6]) <;> (try rw [wg7]) <;> (try rw [wg8]) <;> (try rw [wg9]) <;> (try rw [wg10]) <;> omega)
      refine ⟨zk_X9_readType, zm_X9_readType hg d (by omega), _, _, _, _, _, _, _, _, _, _, rfl, ⟨by omega, by omega⟩, ⟨by omega, by omega⟩, ⟨by omega, by omega⟩, (by (try rw [wg33]) <;> (try rw [w27]) <;> (try rw [wg34]) <;> (try rw [wg35]) <;> (try rw [wg36]) <;> (try rw [w28]) <;> (try rw [w29]) <;> (try rw [w30]) <;> (try rw [w31]) <;> (try rw [w32]) <;> (try rw [wg11]) <;> (try rw [wg12]) <;> (try rw [wg13]) <;> (try rw [wg14]) <;> (try rw [wg15]) <;> (try rw [wg16]) <;> (try rw [wg17]) <;> (try rw [wg18]) <;> (try rw [wg19]) <;> (try rw [wg20]) <;> (try rw [wg1]) <;> (try rw [wg2]) <;> (try rw [wg3]) <;> (try rw [wg4]) <;> (try rw [wg5]) <;> (try rw [wg6]) <;> (try rw [wg7]) <;> (try rw [wg8]) <;> (try rw [wg9]) <;> (try rw [wg10]) <;> omega), TE38.1.1, TE38.1.2.1, (by rw [show m21.1 66 ((26 : Nat) : Int) = v1 + 1 by (try rw [w32]); omega, show m21.1 66 ((24 : Nat) : Int) = 21 by (try rw [w30]); omega, show m21.1 76 = μ.1 76 from z26.1 76 (by decide) rfl, show m21.1 77 = μ.1 77 from z26.1 77 (by decide) rfl]; exact ⟨Int.le_refl _, fun _ => hp4.2.1, by omega, hp4.2.2⟩), (fun v a b => by rw [show m21.1 66 ((24 : Nat) : Int) = 21 by (try rw [w30]); omega, show m21.1 77 = μ.1 77 from z26.1 77 (by decide) rfl]; rfl), (by (try rw [w29]); (try rw [w28]); exact ⟨zTE_pre TE38 w29 w28 wg7 wg6 hp5.1, by omega, by omega⟩), (fun _ => by rw [show m21.1 66 ((24 : Nat) : Int) = 21 by (try rw [w30]); omega, show m21.1 76 = μ.1 76 from z26.1 76 (by decide) rfl, show m21.1 77 = μ.1 77 from z26.1 77 (by decide) rfl]; exact ⟨Int.le_refl (zXf μ v1), Int.le_refl (zXf μ v1 + zXn μ v1)⟩), ?_⟩
      intro x98 m99 qm99 kx98 lx98 p100 p101 p102 p103 p104 p105 p106
      have z107 := zfx_t z26 qm99 rfl rfl
      have w108 : m99.1 66 ((30 : Nat) : Int) = g12 := (qm99.2.1 30 rfl).trans w27
      have w109 : m99.1 66 ((24 : Nat) : Int) = g18 := (qm99.2.1 24 rfl).trans w30
      have w110 : m99.1 66 ((25 : Nat) : Int) = g19 := (qm99.2.1 25 rfl).trans w31
      have w111 : m99.1 66 ((26 : Nat) : Int) = g20 := (qm99.2.1 26 rfl).trans w32
      obtain ⟨g112, wg112⟩ : ∃ z : Int, m99.1 66 ((31 : Nat) : Int) = z := ⟨_, rfl⟩
      obtain ⟨g113, wg113⟩ : ∃ z : Int, m99.1 66 ((33 : Nat) : Int) = z := ⟨_, rfl⟩
      obtain ⟨g114, wg114⟩ : ∃ z : Int, m99.1 66 ((34 : Nat) : Int) = z := ⟨_, rfl⟩
      obtain ⟨g115, wg115⟩ : ∃ z : Int, m99.1 66 ((32 : Nat) : Int) = z := ⟨_, rfl⟩
      obtain ⟨g116, wg116⟩ : ∃ z : Int, m99.1 66 ((38 : Nat) : Int) = z := ⟨_, rfl⟩
      obtain ⟨g117, wg117⟩ : ∃ z : Int, m99.1 66 ((8 : Nat) : Int) = z := ⟨_, rfl⟩
      try rw [wg112] at p100
      try rw [w108] at p100
      try rw [wg113] at p100
      try rw [wg114] at p100
      try rw [wg115] at p100
      try rw [wg116] at p100
      try rw [wg117] at p100
      try rw [w109] at p100
      try rw [w110] at p100
      try rw [w111] at p100
      try rw [wg33] at p100
      try rw [w27] at p100
      try rw [wg34] at p100
      try rw [wg35] at p100
      try rw [wg36] at p100
      try rw [w28] at p100
      try rw [w29] at p100
      try rw [w30] at p100
      try rw [w31] at p100
      try rw [w32] at p100
      try rw [wg1] at p100
      try rw [wg2] at p100
      try rw [wg3] at p100
      try rw [wg4] at p100
      try rw [wg5] at p100
      try rw [wg6] at p100
      try rw [wg7] at p100
      try rw [wg8] at p100
      try rw [wg9] at p100
      try rw [wg10] at p100
      try rw [wg112] at p101
      try rw [w108] at p101
      try rw [wg113] at p101
      try rw [wg114] at p101
      try rw [wg115] at p101
      try rw [wg116] at p101
      try rw [wg117] at p101
      try rw [w109] at p101
      try rw [w110] at p101
      try rw [w111] at p101
      try rw [wg33] at p101
      try rw [w27] at p101
      try rw [wg34] at p101
      try rw [wg35] at p101
      try rw [wg36] at p101
      try rw [w28] at p101
      try rw [w29] at p101
      try rw [w30] at p101
      try rw [w31] at p101
      try rw [w32] at p101
      try rw [wg1] at p101
      try rw [wg2] at p101
      try rw [wg3] at p101
      try rw [wg4] at p101
      try rw [wg5] at p101
      try rw [wg6] at p101
      try rw [wg7] at p101
      try rw [wg8] at p101
      try rw [wg9] at p101
      try rw [wg10] at p101
      try rw [wg112] at p102
      try rw [w108] at p102
      try rw [wg113] at p102
      try rw [wg114] at p102
      try rw [wg115] at p102
      try rw [wg116] at p102
      try rw [wg117] at p102
      try rw [w109] at p102
      try rw [w110] at p102
      try rw [w111] at p102
      try rw [wg33] at p102
      try rw [w27] at p102
      try rw [wg34] at p102
      try rw [wg35] at p102
      try rw [wg36] at p102
      try rw [w28] at p102
      try rw [w29] at p102
      try rw [w30] at p102
      try rw [w31] at p102
      try rw [w32] at p102
      try rw [wg1] at p102
      try rw [wg2] at p102
      try rw [wg3] at p102
      try rw [wg4] at p102
      try rw [wg5] at p102
      try rw [wg6] at p102
      try rw [wg7] at p102
      try rw [wg8] at p102
      try rw [wg9] at p102
      try rw [wg10] at p102
      try rw [wg112] at p103
      try rw [w108] at p103
      try rw [wg113] at p103
      try rw [wg114] at p103
      try rw [wg115] at p103
      try rw [wg116] at p103
      try rw [wg117] at p103
      try rw [w109] at p103
      try rw [w110] at p103
      try rw [w111] at p103
      try rw [wg33] at p103
      try rw [w27] at p103
      try rw [wg34] at p103
      try rw [wg35] at p103
      try rw [wg36] at p103
      try rw [w28] at p103
      try rw [w29] at p103
      try rw [w30] at p103
      try rw [w31] at p103
      try rw [w32] at p103
      try rw [wg1] at p103
      try rw [wg2] at p103
      try rw [wg3] at p103
      try rw [wg4] at p103
      try rw [wg5] at p103
      try rw [wg6] at p103
      try rw [wg7] at p103
      try rw [wg8] at p103
      try rw [wg9] at p103
      try rw [wg10] at p103
      try rw [wg112] at p104
      try rw [w108] at p104
      try rw [wg113] at p104
      try rw [wg114] at p104
      try rw [wg115] at p104
      try rw [wg116] at p104
      try rw [wg117] at p104
      try rw [w109] at p104
      try rw [w110] at p104
      try rw [w111] at p104
      try rw [wg33] at p104
      try rw [w27] at p104
      try rw [wg34] at p104
      try rw [wg35] at p104
      try rw [wg36] at p104
      try rw [w28] at p104
      try rw [w29] at p104
      try rw [w30] at p104
      try rw [w31] at p104
      try rw [w32] at p104
      try rw [wg1] at p104
      try rw [wg2] at p104
      try rw [wg3] at p104
      try rw [wg4] at p104
      try rw [wg5] at p104
      try rw [wg6] at p104
      try rw [wg7] at p104
      try rw [wg8] at p104
      try rw [wg9] at p104
      try rw [wg10] at p104
      try rw [wg112] at p105
      try rw [w108] at p105
      try rw [wg113] at p105
      try rw [wg114] at p105
      try rw [wg115] at p105
      try rw [wg116] at p105
      try rw [wg117] at p105
      try rw [w109] at p105
      try rw [w110] at p105
      try rw [w111] at p105
      try rw [wg33] at p105
      try rw [w27] at p105
      try rw [wg34] at p105
      try rw [wg35] at p105
      try rw [wg36] at p105
      try rw [w28] at p105
      try rw [w29] at p105
      try rw [w30] at p105
      try rw [w31] at p105
      try rw [w32] at p105
      try rw [wg1] at p105
      try rw [wg2] at p105
      try rw [wg3] at p105
      try rw [wg4] at p105
      try rw [wg5] at p105
      try rw [wg6] at p105
      try rw [wg7] at p105
      try rw [wg8] at p105
      try rw [wg9] at p105
      try rw [wg10] at p105
      try rw [wg112] at p106
      try rw [w108] at p106
      try rw [wg113] at p106
      try rw [wg114] at p106
      try rw [wg115] at p106
      try rw [wg116] at p106
      try rw [wg117] at p106
      try rw [w109] at p106
      try rw [w110] at p106
      try rw [w111] at p106
      try rw [wg33] at p106
      try rw [w27] at p106
      try rw [wg34] at p106
      try rw [wg35] at p106
      try rw [wg36] at p106
      try rw [w28] at p106
      try rw [w29] at p106
      try rw [w30] at p106
      try rw [w31] at p106
      try rw [w32] at p106
      try rw [wg1] at p106
      try rw [wg2] at p106
      try rw [wg3] at p106
      try rw [wg4] at p106
      try rw [wg5] at p106
      try rw [wg6] at p106
      try rw [wg7] at p106
      try rw [wg8] at p106
      try rw [wg9] at p106
      try rw [wg10] at p106
      clear wg33 w27 wg34 wg35 wg36 w28 w29 w30 w31 w32
      have ot118 := zOt_fr ot37 (qm99.1 76 (by decide) rfl) (qm99.1 77 (by decide) rfl) (qm99.1 78 (by decide) rfl) (qm99.1 79 (by decide) rfl) (qm99.1 80 (by decide) rfl) (qm99.1 83 (by decide) rfl) (qm99.1 84 (by decide) rfl)
      have W1 := zW1s_old BD39.1 TE38.1.1.1.1 p102.1.2.2.1 (qm99.1 78 (by decide) rfl) (qm99.1 79 (by decide) rfl)
      have W2 := BD39.2.1
      have TE2 := zTE_t TE38 p102
      have BD2 := zSp_old BD39 TE38.1.1.1.1 TE38.1.1.2.1 p102.1.2.2.1 p102.1.2.2.2.1 (fun j a b => qm99.1 j (by omega) (zanyF (by simp <;> omega))) (by have := p102.2.2; unfold zTn at this; omega)
      refine And.intro ⟨by omega, by omega⟩ (And.intro (fun c119 => ?_) (fun c119 => ?_))
      · have ZN : zTn m21 m99 ≤ 300 := by unfold zTn; (try rw [wg112]) <;> (try rw [w108]) <;> (try rw [wg113]) <;> (try rw [wg114]) <;> (try rw [wg115]) <;> (try rw [wg116]) <;> (try rw [wg117]) <;> (try rw [w109]) <;> (try rw [w110]) <;> (try rw [w111]) <;> (try rw [wg11]) <;> (try rw [wg12]) <;> (try rw [wg13]) <;> (try rw [wg14]) <;> (try rw [wg15]) <;> (try rw [wg16]) <;> (try rw [wg17]) <;> (try rw [wg18]) <;> (try rw [wg19]) <;> (try rw [wg20]) <;> (try rw [wg1]) <;> (try rw [wg2]) <;> (try rw [wg3]) <;> (try rw [wg4]) <;> (try rw [wg5]) <;> (try rw [wg6]) <;> (try rw [wg7]) <;> (try rw [wg8]) <;> (try rw [wg9]) <;> (try rw [wg10]) <;> omega
        have C5 : lo ≤ x98 ∧ x98 < zTop m99 ∧ m99.1 67 x98 = 0 ∧ m99.1 68 x98 ≠ v1 ∧ zA2 m99 x98 ∧ zPar m99 (zXf μ v1) (zXf μ v1 + zXn μ v1) x98 ∧ m99.1 71 x98 ≤ zTn m21 m99 := by rcases p105 with c | c; (exfalso; omega); exact ⟨c.1, c.2.1, c.2.2.2.1 (by omega), (c.2.2.2.2.1 rfl).1, (c.2.2.2.2.1 rfl).2, c.2.2.2.2.2.1, c.2.2.2.2.2.2⟩
        have TX : zTx m99 lo x98 := ⟨⟨C5.1, C5.2.1⟩, by have := C5.2.2.2.2.2.2; omega, C5.2.2.1⟩
        have VL := ((TE2.1.2.1 x98 C5.1 C5.2.1).2.1 C5.2.2.1).1
        have VN := C5.2.2.2.1
        have HS : zW1s m99 v1 + m99.1 71 x98 ≤ zTn μ m99 := by have h1 := C5.2.2.2.2.2.2; unfold zTn at h1 W2 ⊢; omega
        have ZQ : zrm m99 ≤ zrm m21 := by rcases p104 with c | c; (exfalso; omega); exact c
        have PX : zXf m99 v1 = zXf μ v1 ∧ zXn m99 v1 = zXn μ v1 := by unfold zXf zXn; rw [show m99.1 76 = μ.1 76 from z107.1 76 (by decide) rfl, show m99.1 77 = μ.1 77 from z107.1 77 (by decide) rfl]; exact ⟨rfl, rfl⟩
        have A3 : (1 : Int) = 0 := by rcases p106 with c | c; exact c; (exfalso; omega)
        intro x120 hx120 kx120 lx120
        rw [w109] at hx120
        intro x121 hx121 kx121 lx121
        rw [w109] at hx121
        refine And.intro ⟨by omega, by omega⟩ ?_
        intro x122 hx122 kx122 lx122
        rw [qm99.1 79 (by decide) rfl, show (x121 + v1) = 21 + v1 by omega] at hx122
        refine And.intro ⟨by omega, by omega⟩ (And.intro ⟨by omega, by omega⟩ ?_)
        intro m123 em123
        have z124 := zfx_r z107 em123 rfl (by decide)
        have w125 : m123.1 66 ((31 : Nat) : Int) = g112 := by rw [em123]; exact (congrFun (zu_ne (by decide)) _).trans wg112
        have w126 : m123.1 66 ((30 : Nat) : Int) = g12 := by rw [em123]; exact (congrFun (zu_ne (by decide)) _).trans w108
        have w127 : m123.1 66 ((33 : Nat) : Int) = g113 := by rw [em123]; exact (congrFun (zu_ne (by decide)) _).trans wg113
        have w128 : m123.1 66 ((34 : Nat) : Int) = g114 := by rw [em123]; exact (congrFun (zu_ne (by decide)) _).trans wg114
        have w129 : m123.1 66 ((32 : Nat) : Int) = g115 := by rw [em123]; exact (congrFun (zu_ne (by decide)) _).trans wg115
        have w130 : m123.1 66 ((38 : Nat) : Int) = g116 := by rw [em123]; exact (congrFun (zu_ne (by decide)) _).trans wg116
        have w131 : m123.1 66 ((8 : Nat) : Int) = g117 := by rw [em123]; exact (congrFun (zu_ne (by decide)) _).trans wg117
        have w132 : m123.1 66 ((24 : Nat) : Int) = g18 := by rw [em123]; exact (congrFun (zu_ne (by decide)) _).trans w109
        have w133 : m123.1 66 ((25 : Nat) : Int) = g19 := by rw [em123]; exact (congrFun (zu_ne (by decide)) _).trans w110
        have w134 : m123.1 66 ((26 : Nat) : Int) = g20 := by rw [em123]; exact (congrFun (zu_ne (by decide)) _).trans w111
        clear wg112 w108 wg113 wg114 wg115 wg116 wg117 w109 w110 w111
        have ot135 := zOt_w ot118 em123 (by have hk : (84 : Int) ≤ ((4 * (x120 + v1)) + x122) := (by omega); refine ⟨fun h => ?_, fun h => ?_, fun h => ?_, fun h => ?_, fun h => ?_⟩ <;> first | exact hk | (exfalso; revert h; decide))
        intro x136 hx136 kx136 lx136
        rw [w132] at hx136
        refine And.intro ⟨by omega, by omega⟩ ?_
        intro x137 hx137 kx137 lx137
        rw [em123, zu_ne (by decide), qm99.1 79 (by decide) rfl, show (x136 + v1) = 21 + v1 by omega] at hx137
        refine And.intro ⟨by omega, by omega⟩ (And.intro ⟨by omega, by omega⟩ ?_)
        intro m138 em138
        have z139 := zfx_r z124 em138 rfl (by decide)
        have w140 : m138.1 66 ((31 : Nat) : Int) = g112 := by rw [em138]; exact (congrFun (zu_ne (by decide)) _).trans w125
        have w141 : m138.1 66 ((30 : Nat) : Int) = g12 := by rw [em138]; exact (congrFun (zu_ne (by decide)) _).trans w126
        have w142 : m138.1 66 ((33 : Nat) : Int) = g113 := by rw [em138]; exact (congrFun (zu_ne (by decide)) _).trans w127
        have w143 : m138.1 66 ((34 : Nat) : Int) = g114 := by rw [em138]; exact (congrFun (zu_ne (by decide)) _).trans w128
        have w144 : m138.1 66 ((32 : Nat) : Int) = g115 := by rw [em138]; exact (congrFun (zu_ne (by decide)) _).trans w129
        have w145 : m138.1 66 ((38 : Nat) : Int) = g116 := by rw [em138]; exact (congrFun (zu_ne (by decide)) _).trans w130
        have w146 : m138.1 66 ((8 : Nat) : Int) = g117 := by rw [em138]; exact (congrFun (zu_ne (by decide)) _).trans w131
        have w147 : m138.1 66 ((24 : Nat) : Int) = g18 := by rw [em138]; exact (congrFun (zu_ne (by decide)) _).trans w132
        have w148 : m138.1 66 ((25 : Nat) : Int) = g19 := by rw [em138]; exact (congrFun (zu_ne (by decide)) _).trans w133
        have w149 : m138.1 66 ((26 : Nat) : Int) = g20 := by rw [em138]; exact (congrFun (zu_ne (by decide)) _).trans w134
        clear w125 w126 w127 w128 w129 w130 w131 w132 w133 w134
        have ot150 := zOt_w ot135 em138 (by have hk : (21 : Int) ≤ (x136 + v1) := (by omega); refine ⟨fun h => ?_, fun h => ?_, fun h => ?_, fun h => ?_, fun h => ?_⟩ <;> first | exact hk | (exfalso; revert h; decide))
        have Y79 : m99.1 79 (21 + v1) = x122 := by rw [qm99.1 79 (by decide) rfl]; omega
        have BD3 := zSp_w (c := v1) BD2 em123 (by omega) (by omega) TX (by omega) C5.2.2.2.2.1 (by rw [PX.1, PX.2]; exact C5.2.2.2.2.2.1) HS em138 (by omega) (by omega)
        have TE3 := zTE_fr (m' := m138) TE2 (fun j a b => by rw [em138, zu_ne (by omega), em123, zu_ne (by omega)]) (by rw [em138, zu_ne (by decide), em123, zu_ne (by decide)]) (by rw [em138, zu_ne (by decide), em123, zu_ne (by decide)])
        have ZR : zrm m138 ≤ zrm m99 := zrm_e (fun j => by rw [em138, zu_ne (by decide), em123, zu_ne (by decide)])
        have ZL : zrm m138 < zrm m0 := Int.lt_of_le_of_lt ZR (Int.lt_of_le_of_lt ZQ ZP)
        intro x151 hx151 kx151 lx151
        rw [w144] at hx151
        refine And.intro ⟨⟨by omega, by omega⟩, ⟨by omega, by omega⟩⟩ (And.intro (fun c152 => ?_) (fun c152 => ?_))
        · refine Exists.intro (Int.toNat (zrm m138)) (And.intro (zrN ZL (zrm_0 (by (try rw [w140]) <;> (try rw [w141]) <;> (try rw [w142]) <;> (try rw [w143]) <;> (try rw [w144]) <;> (try rw [w145]) <;> (try rw [w146]) <;> (try rw [w147]) <;> (try rw [w148]) <;> (try rw [w149]) <;> (try rw [wg11]) <;> (try rw [wg12]) <;> (try rw [wg13]) <;> (try rw [wg14]) <;> (try rw [wg15]) <;> (try rw [wg16]) <;> (try rw [wg17]) <;> (try rw [wg18]) <;> (try rw [wg19]) <;> (try rw [wg20]) <;> (try rw [wg1]) <;> (try rw [wg2]) <;> (try rw [wg3]) <;> (try rw [wg4]) <;> (try rw [wg5]) <;> (try rw [wg6]) <;> (try rw [wg7]) <;> (try rw [wg8]) <;> (try rw [wg9]) <;> (try rw [wg10]) <;> omega))) ?_)
          exact ⟨_, rfl, z139, ⟨by omega, by omega⟩, (by (try rw [w140]) <;> (try rw [w141]) <;> (try rw [w142]) <;> (try rw [w143]) <;> (try rw [w144]) <;> (try rw [w145]) <;> (try rw [w146]) <;> (try rw [w147]) <;> (try rw [w148]) <;> (try rw [w149]) <;> (try rw [wg11]) <;> (try rw [wg12]) <;> (try rw [wg13]) <;> (try rw [wg14]) <;> (try rw [wg15]) <;> (try rw [wg16]) <;> (try rw [wg17]) <;> (try rw [wg18]) <;> (try rw [wg19]) <;> (try rw [wg20]) <;> (try rw [wg1]) <;> (try rw [wg2]) <;> (try rw [wg3]) <;> (try rw [wg4]) <;> (try rw [wg5]) <;> (try rw [wg6]) <;> (try rw [wg7]) <;> (try rw [wg8]) <;> (try rw [wg9]) <;> (try rw [wg10]) <;> omega), (by (try rw [w140]) <;> (try rw [w141]) <;> (try rw [w142]) <;> (try rw [w143]) <;> (try rw [w144]) <;> (try rw [w145]) <;> (try rw [w146]) <;> (try rw [w147]) <;> (try rw [w148]) <;> (try rw [w149]) <;> (try rw [wg11]) <;> (try rw [wg12]) <;> (try rw [wg13]) <;> (try rw [wg14]) <;> (try rw [wg15]) <;> (try rw [wg16]) <;> (try rw [wg17]) <;> (try rw [wg18]) <;> (try rw [wg19]) <;> (try rw [wg20]) <;> (try rw [wg1]) <;> (try rw [wg2]) <;> (try rw [wg3]) <;> (try rw [wg4]) <;> (try rw [wg5]) <;> (try rw [wg6]) <;> (try rw [wg7]) <;> (try rw [wg8]) <;> (try rw [wg9]) <;> (try rw [wg10]) <;> omega), rfl, TE3, BD3, (by (try rw [w140]) <;> (try rw [w141]) <;> (try rw [w142]) <;> (try rw [w143]) <;> (try rw [w144]) <;> (try rw [w145]) <;> (try rw [w146]) <;> (try rw [w147]) <;> (try rw [w148]) <;> (try rw [w149]) <;> (try rw [wg11]) <;> (try rw [wg12]) <;> (try rw [wg13]) <;> (try rw [wg14]) <;> (try rw [wg15]) <;> (try rw [wg16]) <;> (try rw [wg17]) <;> (try rw [wg18]) <;> (try rw [wg19]) <;> (try rw [wg20]) <;> (try rw [wg1]) <;> (try rw [wg2]) <;> (try rw [wg3]) <;> (try rw [wg4]) <;> (try rw [wg5]) <;> (try rw [wg6]) <;> (try rw [wg7]) <;> (try rw [wg8]) <;> (try rw [wg9]) <;> (try rw [wg10]) <;> omega), (Or.inr (by (try rw [w140]) <;> (try rw [w141]) <;> (try rw [w142]) <;> (try rw [w143]) <;> (try rw [w144]) <;> (try rw [w145]) <;> (try rw [w146]) <;> (try rw [w147]) <;> (try rw [w148]) <;> (try rw [w149]) <;> (try rw [wg11]) <;> (try rw [wg12]) <;> (try rw [wg13]) <;> (try rw [wg14]) <;> (try rw [wg15]) <;> (try rw [wg16]) <;> (try rw [wg17]) <;> (try rw [wg18]) <;> (try rw [wg19]) <;> (try rw [wg20]) <;> (try rw [wg1]) <;> (try rw [wg2]) <;> (try rw [wg3]) <;> (try rw [wg4]) <;> (try rw [wg5]) <;> (try rw [wg6]) <;> (try rw [wg7]) <;> (try rw [wg8]) <;> (try rw [wg9]) <;> (try rw [wg10]) <;> omega)), (Int.le_of_lt (Int.lt_of_lt_of_le ZL i7)), (by (try rw [w140]) <;> (try rw [w141]) <;> (try rw [w142]) <;> (try rw [w143]) <;> (try rw [w144]) <;> (try rw [w145]) <;> (try rw [w146]) <;> (try rw [w147]) <;> (try rw [w148]) <;> (try rw [w149]) <;> (try rw [wg11]) <;> (try rw [wg12]) <;> (try rw [wg13]) <;> (try rw [wg14]) <;> (try rw [wg15]) <;> (try rw [wg16]) <;> (try rw [wg17]) <;> (try rw [wg18]) <;> (try rw [wg19]) <;> (try rw [wg20]) <;> (try rw [wg1]) <;> (try rw [wg2]) <;> (try rw [wg3]) <;> (try rw [wg4]) <;> (try rw [wg5]) <;> (try rw [wg6]) <;> (try rw [wg7]) <;> (try rw [wg8]) <;> (try rw [wg9]) <;> (try rw [wg10]) <;> omega), ot150, rfl⟩
        · exact And.intro (zrtb (by omega)) (And.intro ⟨by omega, by omega⟩ (hQ _ _ z139 (by omega) (by omega) (by (try rw [w140]) <;> (try rw [w141]) <;> (try rw [w142]) <;> (try rw [w143]) <;> (try rw [w144]) <;> (try rw [w145]) <;> (try rw [w146]) <;> (try rw [w147]) <;> (try rw [w148]) <;> (try rw [w149]) <;> (try rw [wg11]) <;> (try rw [wg12]) <;> (try rw [wg13]) <;> (try rw [wg14]) <;> (try rw [wg15]) <;> (try rw [wg16]) <;> (try rw [wg17]) <;> (try rw [wg18]) <;> (try rw [wg19]) <;> (try rw [wg20]) <;> (try rw [wg1]) <;> (try rw [wg2]) <;> (try rw [wg3]) <;> (try rw [wg4]) <;> (try rw [wg5]) <;> (try rw [wg6]) <;> (try rw [wg7]) <;> (try rw [wg8]) <;> (try rw [wg9]) <;> (try rw [wg10]) <;> omega) (by (try rw [w140]) <;> (try rw [w141]) <;> (try rw [w142]) <;> (try rw [w143]) <;> (try rw [w144]) <;> (try rw [w145]) <;> (try rw [w146]) <;> (try rw [w147]) <;> (try rw [w148]) <;> (try rw [w149]) <;> (try rw [wg11]) <;> (try rw [wg12]) <;> (try rw [wg13]) <;> (try rw [wg14]) <;> (try rw [wg15]) <;> (try rw [wg16]) <;> (try rw [wg17]) <;> (try rw [wg18]) <;> (try rw [wg19]) <;> (try rw [wg20]) <;> (try rw [wg1]) <;> (try rw [wg2]) <;> (try rw [wg3]) <;> (try rw [wg4]) <;> (try rw [wg5]) <;> (try rw [wg6]) <;> (try rw [wg7]) <;> (try rw [wg8]) <;> (try rw [wg9]) <;> (try rw [wg10]) <;> omega) TE3 (by (try rw [w140]) <;> (try rw [w141]) <;> (try rw [w142]) <;> (try rw [w143]) <;> (try rw [w144]) <;> (try rw [w145]) <;> (try rw [w146]) <;> (try rw [w147]) <;> (try rw [w148]) <;> (try rw [w149]) <;> (try rw [wg11]) <;> (try rw [wg12]) <;> (try rw [wg13]) <;> (try rw [wg14]) <;> (try rw [wg15]) <;> (try rw [wg16]) <;> (try rw [wg17]) <;> (try rw [wg18]) <;> (try rw [wg19]) <;> (try rw [wg20]) <;> (try rw [wg1]) <;> (try rw [wg2]) <;> (try rw [wg3]) <;> (try rw [wg4]) <;> (try rw [wg5]) <;> (try rw [wg6]) <;> (try rw [wg7]) <;> (try rw [wg8]) <;> (try rw [wg9]) <;> (try rw [wg10]) <;> omega) (fun h => BD3) (fun h => Int.lt_of_lt_of_le ZL i7) ot150))
      · exact And.intro (zrtb (by omega)) (And.intro ⟨by omega, by omega⟩ (hQ _ _ z107 (by omega) (by omega) (by (try rw [wg112]) <;> (try rw [w108]) <;> (try rw [wg113]) <;> (try rw [wg114]) <;> (try rw [wg115]) <;> (try rw [wg116]) <;> (try rw [wg117]) <;> (try rw [w109]) <;> (try rw [w110]) <;> (try rw [w111]) <;> (try rw [wg11]) <;> (try rw [wg12]) <;> (try rw [wg13]) <;> (try rw [wg14]) <;> (try rw [wg15]) <;> (try rw [wg16]) <;> (try rw [wg17]) <;> (try rw [wg18]) <;> (try rw [wg19]) <;> (try rw [wg20]) <;> (try rw [wg1]) <;> (try rw [wg2]) <;> (try rw [wg3]) <;> (try rw [wg4]) <;> (try rw [wg5]) <;> (try rw [wg6]) <;> (try rw [wg7]) <;> (try rw [wg8]) <;> (try rw [wg9]) <;> (try rw [wg10]) <;> omega) (by (try rw [wg112]) <;> (try rw [w108]) <;> (try rw [wg113]) <;> (try rw [wg114]) <;> (try rw [wg115]) <;> (try rw [wg116]) <;> (try rw [wg117]) <;> (try rw [w109]) <;> (try rw [w110]) <;> (try rw [w111]) <;> (try rw [wg11]) <;> (try rw [wg12]) <;> (try rw [wg13]) <;> (try rw [wg14]) <;> (try rw [wg15]) <;> (try rw [wg16]) <;> (try rw [wg17]) <;> (try rw [wg18]) <;> (try rw [wg19]) <;> (try rw [wg20]) <;> (try rw [wg1]) <;> (try rw [wg2]) <;> (try rw [wg3]) <;> (try rw [wg4]) <;> (try rw [wg5]) <;> (try rw [wg6]) <;> (try rw [wg7]) <;> (try rw [wg8]) <;> (try rw [wg9]) <;> (try rw [wg10]) <;> omega) TE2 (by (try rw [wg112]) <;> (try rw [w108]) <;> (try rw [wg113]) <;> (try rw [wg114]) <;> (try rw [wg115]) <;> (try rw [wg116]) <;> (try rw [wg117]) <;> (try rw [w109]) <;> (try rw [w110]) <;> (try rw [w111]) <;> (try rw [wg11]) <;> (try rw [wg12]) <;> (try rw [wg13]) <;> (try rw [wg14]) <;> (try rw [wg15]) <;> (try rw [wg16]) <;> (try rw [wg17]) <;> (try rw [wg18]) <;> (try rw [wg19]) <;> (try rw [wg20]) <;> (try rw [wg1]) <;> (try rw [wg2]) <;> (try rw [wg3]) <;> (try rw [wg4]) <;> (try rw [wg5]) <;> (try rw [wg6]) <;> (try rw [wg7]) <;> (try rw [wg8]) <;> (try rw [wg9]) <;> (try rw [wg10]) <;> omega) (fun h => by exfalso; omega) (fun h => by exfalso; omega) ot118))
