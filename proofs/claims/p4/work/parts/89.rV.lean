/-! ### readBounds -/
def zk_X9_readBounds : zC := fun As μ Q => ∃ (a1 : Int) (lo : Int) (P : Int), As = [.inr (.inr (66, 66)), .inl a1] ∧ (1 ≤ a1 ∧ a1 ≤ 20) ∧ (0 ≤ μ.1 66 ((33 : Nat) : Int) ∧ 0 ≤ μ.1 66 ((34 : Nat) : Int) ∧ μ.1 66 ((33 : Nat) : Int) + μ.1 66 ((34 : Nat) : Int) ≤ μ.1 66 ((31 : Nat) : Int) ∧ μ.1 66 ((31 : Nat) : Int) ≤ μ.1 66 ((30 : Nat) : Int) ∧ μ.1 66 ((30 : Nat) : Int) ≤ 800) ∧ (zND μ lo) ∧ (zWf μ lo (zTop μ) (a1 + 1) P 0 (zXn μ)) ∧ (μ.1 66 ((24 : Nat) : Int) = 21 ∧ μ.1 66 ((25 : Nat) : Int) = 80 ∧ μ.1 66 ((26 : Nat) : Int) = a1 + 1) ∧ (0 ≤ zXf μ a1 ∧ zXf μ a1 + zXn μ a1 ≤ P ∧ P ≤ 80) ∧ (μ.1 66 ((8 : Nat) : Int) - μ.1 66 ((38 : Nat) : Int) ≤ 19699 ∧ 0 ≤ μ.1 66 ((38 : Nat) : Int) ∧ μ.1 66 ((38 : Nat) : Int) ≤ 300) ∧ (zBd μ lo P) ∧ (μ.1 66 ((32 : Nat) : Int) = 259) ∧ (∀ (v : Int) (μ' : zM), zfx [67, 68, 69, 70, 71, 72, 73, 74, 83, 84, 100, 101, 102, 103, 104] [8, 31, 32, 33, 34, 35, 36, 38] μ μ' → 0 ≤ v → v ≤ 1 → (0 ≤ μ'.1 66 ((33 : Nat) : Int) ∧ 0 ≤ μ'.1 66 ((34 : Nat) : Int) ∧ μ'.1 66 ((33 : Nat) : Int) + μ'.1 66 ((34 : Nat) : Int) ≤ μ'.1 66 ((31 : Nat) : Int) ∧ μ'.1 66 ((31 : Nat) : Int) ≤ μ'.1 66 ((30 : Nat) : Int) ∧ μ'.1 66 ((30 : Nat) : Int) ≤ 800) → (μ'.1 66 ((30 : Nat) : Int) = μ.1 66 ((30 : Nat) : Int)) → (zTE μ μ' lo (a1 + 1) P 0 (zXn μ)) → (0 ≤ μ'.1 66 ((38 : Nat) : Int) ∧ μ'.1 66 ((38 : Nat) : Int) ≤ 300) → (v = 1 → zBd μ' lo P) → (v = 1 → zrm μ' < zrm μ) → (zOt μ μ') → Q (some (.inl v)) μ')
set_option maxHeartbeats 800000 in
theorem zm_X9_readBounds {g : zΓ} (hg : zg g) (d : Nat) (hd : 6 ≤ d) : zOk g d 144 zk_X9_readBounds := by
  obtain ⟨d, rfl⟩ : ∃ d', d = d' + 1 := ⟨d - 1, by omega⟩
  refine zOk_loop hg (show mt_tab[144]? = some mt_X9_readBounds from rfl) ([(0, [0, 1]), (79, [0, 1, 2])], []) 111 rfl fun As μ Q hC => ?_
  obtain ⟨a1, lo, P, rfl, ha1, hp0, hp1, hp2, hp3, hp4, hp5, hp6, hp7, hQ⟩ := hC
  obtain ⟨g1, wg1⟩ : ∃ z : Int, μ.1 66 ((31 : Nat) : Int) = z := ⟨_, rfl⟩
  obtain ⟨g2, wg2⟩ : ∃ z : Int, μ.1 66 ((30 : Nat) : Int) = z := ⟨_, rfl⟩
  obtain ⟨g3, wg3⟩ : ∃ z : Int, μ.1 66 ((33 : Nat) : Int) = z := ⟨_, rfl⟩
  obtain ⟨g4, wg4⟩ : ∃ z : Int, μ.1 66 ((34 : Nat) : Int) = z := ⟨_, rfl⟩
  obtain ⟨g5, wg5⟩ : ∃ z : Int, μ.1 66 ((32 : Nat) : Int) = z := ⟨_, rfl⟩
  obtain ⟨g6, wg6⟩ : ∃ z : Int, μ.1 66 ((38 : Nat) : Int) = z := ⟨_, rfl⟩
  obtain ⟨g7, wg7⟩ : ∃ z : Int, μ.1 66 ((8 : Nat) : Int) = z := ⟨_, rfl⟩
  obtain ⟨g8, wg8⟩ : ∃ z : Int, μ.1 66 ((24 : Nat) : Int) = z := ⟨_, rfl⟩
  obtain ⟨g9, wg9⟩ : ∃ z : Int, μ.1 66 ((25 : Nat) : Int) = z := ⟨_, rfl⟩
  obtain ⟨g10, wg10⟩ : ∃ z : Int, μ.1 66 ((26 : Nat) : Int) = z := ⟨_, rfl⟩
  try rw [wg1] at hp0
  try rw [wg2] at hp0
  try rw [wg3] at hp0
  try rw [wg4] at hp0
  try rw [wg5] at hp0
  try rw [wg6] at hp0
  try rw [wg7] at hp0
  try rw [wg8] at hp0
  try rw [wg9] at hp0
  try rw [wg10] at hp0
  try rw [wg1] at hp1
  try rw [wg2] at hp1
  try rw [wg3] at hp1
  try rw [wg4] at hp1
  try rw [wg5] at hp1
  try rw [wg6] at hp1
  try rw [wg7] at hp1
  try rw [wg8] at hp1
  try rw [wg9] at hp1
  try rw [wg10] at hp1
  try rw [wg1] at hp2
  try rw [wg2] at hp2
  try rw [wg3] at hp2
  try rw [wg4] at hp2
  try rw [wg5] at hp2
  try rw [wg6] at hp2
  try rw [wg7] at hp2
  try rw [wg8] at hp2
  try rw [wg9] at hp2
  try rw [wg10] at hp2
  try rw [wg1] at hp3
  try rw [wg2] at hp3
  try rw [wg3] at hp3
  try rw [wg4] at hp3
  try rw [wg5] at hp3
  try rw [wg6] at hp3
  try rw [wg7] at hp3
  try rw [wg8] at hp3
  try rw [wg9] at hp3
  try rw [wg10] at hp3
  try rw [wg1] at hp4
  try rw [wg2] at hp4
  try rw [wg3] at hp4
  try rw [wg4] at hp4
  try rw [wg5] at hp4
  try rw [wg6] at hp4
  try rw [wg7] at hp4
  try rw [wg8] at hp4
  try rw [wg9] at hp4
  try rw [wg10] at hp4
  try rw [wg1] at hp5
  try rw [wg2] at hp5
  try rw [wg3] at hp5
  try rw [wg4] at hp5
  try rw [wg5] at hp5
  try rw [wg6] at hp5
  try rw [wg7] at hp5
  try rw [wg8] at hp5
  try rw [wg9] at hp5
  try rw [wg10] at hp5
  try rw [wg1] at hp6
  try rw [wg2] at hp6
  try rw [wg3] at hp6
  try rw [wg4] at hp6
  try rw [wg5] at hp6
  try rw [wg6] at hp6
  try rw [wg7] at hp6
  try rw [wg8] at hp6
  try rw [wg9] at hp6
  try rw [wg10] at hp6
  try rw [wg1] at hp7
  try rw [wg2] at hp7
  try rw [wg3] at hp7
  try rw [wg4] at hp7
  try rw [wg5] at hp7
  try rw [wg6] at hp7
  try rw [wg7] at hp7
  try rw [wg8] at hp7
  try rw [wg9] at hp7
  try rw [wg10] at hp7
  have z0 : zfx [67, 68, 69, 70, 71, 72, 73, 74, 83, 84, 100, 101, 102, 103, 104] [8, 31, 32, 33, 34, 35, 36, 38] μ μ := zfx_x μ
  refine ⟨rfl, fun pc vs μ' n => (pc = 0 → ∃ (v1 : Int), vs = [.inr (.inr (66, 66)), .inl v1] ∧ zfx [67, 68, 69, 70, 71, 72, 73, 74, 83, 84, 100, 101, 102, 103, 104] [8, 31, 32, 33, 34, 35, 36, 38] μ μ' ∧ (1 ≤ v1 ∧ v1 ≤ 20) ∧ (0 ≤ μ'.1 66 ((33 : Nat) : Int) ∧ 0 ≤ μ'.1 66 ((34 : Nat) : Int) ∧ μ'.1 66 ((33 : Nat) : Int) + μ'.1 66 ((34 : Nat) : Int) ≤ μ'.1 66 ((31 : Nat) : Int) ∧ μ'.1 66 ((31 : Nat) : Int) ≤ μ'.1 66 ((30 : Nat) : Int) ∧ μ'.1 66 ((30 : Nat) : Int) ≤ 800) ∧ (μ'.1 66 ((30 : Nat) : Int) = μ.1 66 ((30 : Nat) : Int)) ∧ (v1 = a1) ∧ (zTE μ μ' lo (a1 + 1) P 0 (zXn μ)) ∧ (zBd μ' lo P) ∧ (0 ≤ μ'.1 66 ((38 : Nat) : Int) ∧ μ'.1 66 ((38 : Nat) : Int) ≤ 300) ∧ (μ'.1 66 ((32 : Nat) : Int) = 259 ∨ μ'.1 66 ((32 : Nat) : Int) = 44) ∧ (zrm μ' ≤ zrm μ) ∧ (μ'.1 66 ((24 : Nat) : Int) = 21 ∧ μ'.1 66 ((25 : Nat) : Int) = 80 ∧ μ'.1 66 ((26 : Nat) : Int) = a1 + 1) ∧ (zOt μ μ') ∧ n = (Int.toNat (zrm μ'))) ∧ (pc = 79 → ∃ (v1 : Int) (v2 : Int), vs = [.inr (.inr (66, 66)), .inl v1, .inl v2] ∧ zfx [67, 68, 69, 70, 71, 72, 73, 74, 83, 84, 100, 101, 102, 103, 104] [8, 31, 32, 33, 34, 35, 36, 38] μ μ' ∧ (1 ≤ v1 ∧ v1 ≤ 20) ∧ (0 ≤ v2 ∧ v2 ≤ 79) ∧ (0 ≤ μ'.1 66 ((33 : Nat) : Int) ∧ 0 ≤ μ'.1 66 ((34 : Nat) : Int) ∧ μ'.1 66 ((33 : Nat) : Int) + μ'.1 66 ((34 : Nat) : Int) ≤ μ'.1 66 ((31 : Nat) : Int) ∧ μ'.1 66 ((31 : Nat) : Int) ≤ μ'.1 66 ((30 : Nat) : Int) ∧ μ'.1 66 ((30 : Nat) : Int) ≤ 800) ∧ (μ'.1 66 ((30 : Nat) : Int) = μ.1 66 ((30 : Nat) : Int)) ∧ (v1 = a1) ∧ (zTE μ μ' lo (a1 + 1) P 0 (zXn μ)) ∧ (zBd μ' lo P) ∧ (0 ≤ μ'.1 66 ((38 : Nat) : Int) ∧ μ'.1 66 ((38 : Nat) : Int) ≤ 300) ∧ (μ'.1 66 ((32 : Nat) : Int) = 58 ∨ μ'.1 66 ((32 : Nat) : Int) = 38) ∧ (zrm μ' < zrm μ) ∧ (μ'.1 66 ((24 : Nat) : Int) = 21 ∧ μ'.1 66 ((25 : Nat) : Int) = 80 ∧ μ'.1 66 ((26 : Nat) : Int) = a1 + 1) ∧ (zXf μ a1 ≤ v2 ∧ v2 < zXf μ a1 + zXn μ a1) ∧ (zOt μ μ') ∧ n = (Int.toNat (zrm μ'))), ?_, ?_, ?_, trivial⟩
  · refine Exists.intro (Int.toNat (zrm μ)) ?_
    exact ⟨(fun _ => ⟨_, rfl, z0, ⟨by omega, by omega⟩, (by (try rw [wg1]) <;> (try rw [wg2]) <;> (try rw [wg3]) <;> (try rw [wg4]) <;> (try rw [wg5]) <;> (try rw [wg6]) <;> (try rw [wg7]) <;> (try rw [wg8]) <;> (try rw [wg9]) <;> (try rw [wg10]) <;> omega), (by (try rw [wg1]) <;> (try rw [wg2]) <;> (try rw [wg3]) <;> (try rw [wg4]) <;> (try rw [wg5]) <;> (try rw [wg6]) <;> (try rw [wg7]) <;> (try rw [wg8]) <;> (try rw [wg9]) <;> (try rw [wg10]) <;> omega), rfl, (zTE_r hp1 hp2), hp6, (by (try rw [wg1]) <;> (try rw [wg2]) <;> (try rw [wg3]) <;> (try rw [wg4]) <;> (try rw [wg5]) <;> (try rw [wg6]) <;> (try rw [wg7]) <;> (try rw [wg8]) <;> (try rw [wg9]) <;> (try rw [wg10]) <;> omega), (Or.inl (by (try rw [wg1]) <;> (try rw [wg2]) <;> (try rw [wg3]) <;> (try rw [wg4]) <;> (try rw [wg5]) <;> (try rw [wg6]) <;> (try rw [wg7]) <;> (try rw [wg8]) <;> (try rw [wg9]) <;> (try rw [wg10]) <;> omega)), (Int.le_refl _), (by (try rw [wg1]) <;> (try rw [wg2]) <;> (try rw [wg3]) <;> (try rw [wg4]) <;> (try rw [wg5]) <;> (try rw [wg6]) <;> (try rw [wg7]) <;> (try rw [wg8]) <;> (try rw [wg9]) <;> (try rw [wg10]) <;> omega), (zOt_r μ), rfl⟩), (fun h => absurd h (by decide))⟩
  · intro vs m0 n hI
    replace hI := hI.1 rfl
    clear z0
    obtain ⟨v1, rfl, z0, hv1, i0, i1, i2, i3, i4, i5, i6, i7, i8, i9, rfl⟩ := hI
    subst i2
    obtain ⟨g11, wg11⟩ : ∃ z : Int, m0.1 66 ((31 : Nat) : Int) = z := ⟨_, rfl⟩
    obtain ⟨g12, wg12⟩ : ∃ z : Int, m0.1 66 ((30 : Nat) : Int) = z := ⟨_, rfl⟩
    obtain ⟨g13, wg13⟩ : ∃ z : Int, m0.1 66 ((33 : Nat) : Int) = z := ⟨_, rfl⟩
    obtain ⟨g14, wg14⟩ : ∃ z : Int, m0.1 66 ((34 : Nat) : Int) = z := ⟨_, rfl⟩
    obtain ⟨g15, wg15⟩ : ∃ z : Int, m0.1 66 ((32 : Nat) : Int) = z := ⟨_, rfl⟩
    obtain ⟨g16, wg16⟩ : ∃ z : Int, m0.1 66 ((38 : Nat) : Int) = z := ⟨_, rfl⟩
    obtain ⟨g17, wg17⟩ : ∃ z : Int, m0.1 66 ((8 : Nat) : Int) = z := ⟨_, rfl⟩
    obtain ⟨g18, wg18⟩ : ∃ z : Int, m0.1 66 ((24 : Nat) : Int) = z := ⟨_, rfl⟩
    obtain ⟨g19, wg19⟩ : ∃ z : Int, m0.1 66 ((25 : Nat) : Int) = z := ⟨_, rfl⟩
    obtain ⟨g20, wg20⟩ : ∃ z : Int, m0.1 66 ((26 : Nat) : Int) = z := ⟨_, rfl⟩
    try rw [wg11] at i0
    try rw [wg12] at i0
    try rw [wg13] at i0
    try rw [wg14] at i0
    try rw [wg15] at i0
    try rw [wg16] at i0
    try rw [wg17] at i0
    try rw [wg18] at i0
    try rw [wg19] at i0
    try rw [wg20] at i0
    try rw [wg1] at i0
    try rw [wg2] at i0
    try rw [wg3] at i0
    try rw [wg4] at i0
    try rw [wg5] at i0
    try rw [wg6] at i0
    try rw [wg7] at i0
    try rw [wg8] at i0
    try rw [wg9] at i0
    try rw [wg10] at i0
    try rw [wg11] at i1
    try rw [wg12] at i1
    try rw [wg13] at i1
    try rw [wg14] at i1
    try rw [wg15] at i1
    try rw [wg16] at i1
    try rw [wg17] at i1
    try rw [wg18] at i1
    try rw [wg19] at i1
    try rw [wg20] at i1
    try rw [wg1] at i1
    try rw [wg2] at i1
    try rw [wg3] at i1
    try rw [wg4] at i1
    try rw [wg5] at i1
    try rw [wg6] at i1
    try rw [wg7] at i1
    try rw [wg8] at i1
    try rw [wg9] at i1
    try rw [wg10] at i1
    try rw [wg11] at i2
    try rw [wg12] at i2
    try rw [wg13] at i2
    try rw [wg14] at i2
    try rw [wg15] at i2
    try rw [wg16] at i2
    try rw [wg17] at i2
    try rw [wg18] at i2
    try rw [wg19] at i2
    try rw [wg20] at i2
    try rw [wg1] at i2
    try rw [wg2] at i2
    try rw [wg3] at i2
    try rw [wg4] at i2
    try rw [wg5] at i2
    try rw [wg6] at i2
    try rw [wg7] at i2
    try rw [wg8] at i2
    try rw [wg9] at i2
    try rw [wg10] at i2
    try rw [wg11] at i3
    try rw [wg12] at i3
    try rw [wg13] at i3
    try rw [wg14] at i3
    try rw [wg15] at i3
    try rw [wg16] at i3
    try rw [wg17] at i3
    try rw [wg18] at i3
    try rw [wg19] at i3
    try rw [wg20] at i3
    try rw [wg1] at i3
    try rw [wg2] at i3
    try rw [wg3] at i3
    try rw [wg4] at i3
    try rw [wg5] at i3
    try rw [wg6] at i3
    try rw [wg7] at i3
    try rw [wg8] at i3
    try rw [wg9] at i3
    try rw [wg10] at i3
    try rw [wg11] at i4
    try rw [wg12] at i4
    try rw [wg13] at i4
    try rw [wg14] at i4
    try rw [wg15] at i4
    try rw [wg16] at i4
    try rw [wg17] at i4
    try rw [wg18] at i4
    try rw [wg19] at i4
    try rw [wg20] at i4
    try rw [wg1] at i4
    try rw [wg2] at i4
    try rw [wg3] at i4
    try rw [wg4] at i4
    try rw [wg5] at i4
    try rw [wg6] at i4
    try rw [wg7] at i4
    try rw [wg8] at i4
    try rw [wg9] at i4
    try rw [wg10] at i4
    try rw [wg11] at i5
    try rw [wg12] at i5
    try rw [wg13] at i5
    try rw [wg14] at i5
    try rw [wg15] at i5
    try rw [wg16] at i5
    try rw [wg17] at i5
    try rw [wg18] at i5
    try rw [wg19] at i5
    try rw [wg20] at i5
    try rw [wg1] at i5
    try rw [wg2] at i5
    try rw [wg3] at i5
    try rw [wg4] at i5
    try rw [wg5] at i5
    try rw [wg6] at i5
    try rw [wg7] at i5
    try rw [wg8] at i5
    try rw [wg9] at i5
    try rw [wg10] at i5
    try rw [wg11] at i6
    try rw [wg12] at i6
    try rw [wg13] at i6
    try rw [wg14] at i6
    try rw [wg15] at i6
    try rw [wg16] at i6
    try rw [wg17] at i6
    try rw [wg18] at i6
    try rw [wg19] at i6
    try rw [wg20] at i6
    try rw [wg1] at i6
    try rw [wg2] at i6
    try rw [wg3] at i6
    try rw [wg4] at i6
    try rw [wg5] at i6
    try rw [wg6] at i6
    try rw [wg7] at i6
    try rw [wg8] at i6
    try rw [wg9] at i6
    try rw [wg10] at i6
    try rw [wg11] at i7
    try rw [wg12] at i7
    try rw [wg13] at i7
    try rw [wg14] at i7
    try rw [wg15] at i7
    try rw [wg16] at i7
    try rw [wg17] at i7
    try rw [wg18] at i7
    try rw [wg19] at i7
    try rw [wg20] at i7
    try rw [wg1] at i7
    try rw [wg2] at i7
    try rw [wg3] at i7
    try rw [wg4] at i7
    try rw [wg5] at i7
    try rw [wg6] at i7
    try rw [wg7] at i7
    try rw [wg8] at i7
    try rw [wg9] at i7
    try rw [wg10] at i7
    try rw [wg11] at i8
    try rw [wg12] at i8
    try rw [wg13] at i8
    try rw [wg14] at i8
    try rw [wg15] at i8
    try rw [wg16] at i8
    try rw [wg17] at i8
    try rw [wg18] at i8
    try rw [wg19] at i8
    try rw [wg20] at i8
    try rw [wg1] at i8
    try rw [wg2] at i8
    try rw [wg3] at i8
    try rw [wg4] at i8
    try rw [wg5] at i8
    try rw [wg6] at i8
    try rw [wg7] at i8
    try rw [wg8] at i8
    try rw [wg9] at i8
    try rw [wg10] at i8
    try rw [wg11] at i9
    try rw [wg12] at i9
    try rw [wg13] at i9
    try rw [wg14] at i9
    try rw [wg15] at i9
    try rw [wg16] at i9
    try rw [wg17] at i9
    try rw [wg18] at i9
    try rw [wg19] at i9
    try rw [wg20] at i9
    try rw [wg1] at i9
    try rw [wg2] at i9
    try rw [wg3] at i9
    try rw [wg4] at i9
    try rw [wg5] at i9
    try rw [wg6] at i9
    try rw [wg7] at i9
    try rw [wg8] at i9
    try rw [wg9] at i9
    try rw [wg10] at i9
    refine ⟨zk_X9_pass, zm_X9_pass hg d (by omega), rfl, (by (try rw [wg11]) <;> (try rw [wg12]) <;> (try rw [wg13]) <;> (try rw [wg14]) <;> (try rw [wg15]) <;> (try rw [wg16]) <;> (try rw [wg17]) <;> (try rw [wg18]) <;> (try rw [wg19]) <;> (try rw [wg20]) <;> (try rw [wg1]) <;> (try rw [wg2]) <;> (try rw [wg3]) <;> (try rw [wg4]) <;> (try rw [wg5]) <;> (try rw [wg6]) <;> (try rw [wg7]) <;> (try rw [wg8]) <;> (try rw [wg9]) <;> (try rw [wg10]) <;> omega), ?_⟩
    intro m21 qm21 p22 p23 p24 p25
    have z26 := zfx_t z0 qm21 rfl rfl
    have w27 : m21.1 66 ((30 : Nat) : Int) = g12 := (qm21.2.1 30 rfl).trans wg12
    have w28 : m21.1 66 ((38 : Nat) : Int) = g16 := (qm21.2.1 38 rfl).trans wg16
    have w29 : m21.1 66 ((8 : Nat) : Int) = g17 := (qm21.2.1 8 rfl).trans wg17
    have w30 : m21.1 66 ((24 : Nat) : Int) = g18 := (qm21.2.1 24 rfl).trans wg18
    have w31 : m21.1 66 ((25 : Nat) : Int) = g19 := (qm21.2.1 25 rfl).trans wg19
    have w32 : m21.1 66 ((26 : Nat) : Int) = g20 := (qm21.2.1 26 rfl).trans wg20
    obtain ⟨g33, wg33⟩ : ∃ z : Int, m21.1 66 ((31 : Nat) : Int) = z := ⟨_, rfl⟩
    obtain ⟨g34, wg34⟩ : ∃ z : Int, m21.1 66 ((33 : Nat) : Int) = z := ⟨_, rfl⟩
    obtain ⟨g35, wg35⟩ : ∃ z : Int, m21.1 66 ((34 : Nat) : Int) = z := ⟨_, rfl⟩
    obtain ⟨g36, wg36⟩ : ∃ z : Int, m21.1 66 ((32 : Nat) : Int) = z := ⟨_, rfl⟩
    try rw [wg33] at p22
    try rw [w27] at p22
    try rw [wg34] at p22
    try rw [wg35] at p22
    try rw [wg36] at p22
    try rw [w28] at p22
    try rw [w29] at p22
    try rw [w30] at p22
    try rw [w31] at p22
    try rw [w32] at p22
    try rw [wg11] at p22
    try rw [wg12] at p22
    try rw [wg13] at p22
    try rw [wg14] at p22
    try rw [wg15] at p22
    try rw [wg16] at p22
    try rw [wg17] at p22
    try rw [wg18] at p22
    try rw [wg19] at p22
    try rw [wg20] at p22
    try rw [wg1] at p22
    try rw [wg2] at p22
    try rw [wg3] at p22
    try rw [wg4] at p22
    try rw [wg5] at p22
    try rw [wg6] at p22
    try rw [wg7] at p22
    try rw [wg8] at p22
    try rw [wg9] at p22
    try rw [wg10] at p22
    try rw [wg33] at p23
    try rw [w27] at p23
    try rw [wg34] at p23
    try rw [wg35] at p23
    try rw [wg36] at p23
    try rw [w28] at p23
    try rw [w29] at p23
    try rw [w30] at p23
    try rw [w31] at p23
    try rw [w32] at p23
    try rw [wg11] at p23
    try rw [wg12] at p23
    try rw [wg13] at p23
    try rw [wg14] at p23
    try rw [wg15] at p23
    try rw [wg16] at p23
    try rw [wg17] at p23
    try rw [wg18] at p23
    try rw [wg19] at p23
    try rw [wg20] at p23
    try rw [wg1] at p23
    try rw [wg2] at p23
    try rw [wg3] at p23
    try rw [wg4] at p23
    try rw [wg5] at p23
    try rw [wg6] at p23
    try rw [wg7] at p23
    try rw [wg8] at p23
    try rw [wg9] at p23
    try rw [wg10] at p23
    try rw [wg33] at p24
    try rw [w27] at p24
    try rw [wg34] at p24
    try rw [wg35] at p24
    try rw [wg36] at p24
    try rw [w28] at p24
    try rw [w29] at p24
    try rw [w30] at p24
    try rw [w31] at p24
    try rw [w32] at p24
    try rw [wg11] at p24
    try rw [wg12] at p24
    try rw [wg13] at p24
    try rw [wg14] at p24
    try rw [wg15] at p24
    try rw [wg16] at p24
    try rw [wg17] at p24
    try rw [wg18] at p24
    try rw [wg19] at p24
    try rw [wg20] at p24
    try rw [wg1] at p24
    try rw [wg2] at p24
    try rw [wg3] at p24
    try rw [wg4] at p24
    try rw [wg5] at p24
    try rw [wg6] at p24
    try rw [wg7] at p24
    try rw [wg8] at p24
    try rw [wg9] at p24
    try rw [wg10] at p24
    try rw [wg33] at p25
    try rw [w27] at p25
    try rw [wg34] at p25
    try rw [wg35] at p25
    try rw [wg36] at p25
    try rw [w28] at p25
    try rw [w29] at p25
    try rw [w30] at p25
    try rw [w31] at p25
    try rw [w32] at p25
    try rw [wg11] at p25
    try rw [wg12] at p25
    try rw [wg13] at p25
    try rw [wg14] at p25
    try rw [wg15] at p25
    try rw [wg16] at p25
    try rw [wg17] at p25
    try rw [wg18] at p25
    try rw [wg19] at p25
    try rw [wg20] at p25
    try rw [wg1] at p25
    try rw [wg2] at p25
    try rw [wg3] at p25
    try rw [wg4] at p25
    try rw [wg5] at p25
    try rw [wg6] at p25
    try rw [wg7] at p25
    try rw [wg8] at p25
    try rw [wg9] at p25
    try rw [wg10] at p25
    have ot37 := zOt_fr i9 (qm21.1 76 (by decide) rfl) (qm21.1 77 (by decide) rfl) (qm21.1 78 (by decide) rfl) (qm21.1 79 (by decide) rfl) (qm21.1 80 (by decide) rfl) (qm21.1 83 (by decide) rfl) (qm21.1 84 (by decide) rfl)
    have TE38 := zTE_fr (m' := m21) i3 (fun j a b => qm21.1 j (by omega) (zanyF (by simp <;> omega))) (qm21.2.1 8 rfl) (qm21.2.1 38 rfl)
    have BD39 := zBd_fr i4 (qm21.1 67 (by decide) rfl) (qm21.1 71 (by decide) rfl) (qm21.1 83 (by decide) rfl) (qm21.1 84 (by decide) rfl) (qm21.2.1 8 rfl)
    intro x40 hx40 kx40 lx40
    rw [wg36] at hx40
    refine And.intro ⟨⟨by omega, by omega⟩, ⟨by omega, by omega⟩⟩ (And.intro (fun c41 => ?_) (fun c41 => ?_))
    · refine ⟨zk_X9_name, zm_X9_name hg d (by omega), rfl, (by (try rw [wg33]) <;> (try rw [w27]) <;> (try rw [wg34]) <;> (try rw [wg35]) <;> (try rw [wg36]) <;> (try rw [w28]) <;> (try rw [w29]) <;> (try rw [w30]) <;> (try rw [w31]) <;> (try rw [w32]) <;> (try rw [wg11]) <;> (try rw [wg12]) <;> (try rw [wg13]) <;> (try rw [wg14]) <;> (try rw [wg15]) <;> (try rw [wg16]) <;> (try rw [wg17]) <;> (try rw [wg18]) <;> (try rw [wg19]) <;> (try rw [wg20]) <;> (try rw [wg1]) <;> (try rw [wg2]) <;> (try rw [wg3]) <;> (try rw [wg4]) <;> (try rw [wg5]) <;> (try rw [wg6]) <;> (try rw [wg7]) <;> (try rw [wg8]) <;> (try rw [wg9]) <;> (try rw [wg10]) <;> omega), ?_⟩
      intro j42
      refine ⟨zk_X9_findParam, zm_X9_findParam hg d (by omega), _, _, rfl, ⟨by omega, by omega⟩, ?_⟩
      intro x43 kx43 lx43 p44
      try rw [wg33] at p44
      try rw [w27] at p44
      try rw [wg34] at p44
      try rw [wg35] at p44
      try rw [wg36] at p44
      try rw [w28] at p44
      try rw [w29] at p44
      try rw [w30] at p44
      try rw [w31] at p44
      try rw [w32] at p44
      try rw [wg1] at p44
      try rw [wg2] at p44
      try rw [wg3] at p44
      try rw [wg4] at p44
      try rw [wg5] at p44
      try rw [wg6] at p44
      try rw [wg7] at p44
      try rw [wg8] at p44
      try rw [wg9] at p44
      try rw [wg10] at p44
      have VP : x43 = -1 ∨ (zXf μ v1 ≤ x43 ∧ x43 < zXf μ v1 + zXn μ v1) := by rcases p44 with c | c; exact Or.inl c; refine Or.inr ?_; rw [show m21.1 76 = μ.1 76 from z26.1 76 (by decide) rfl, show m21.1 77 = μ.1 77 from z26.1 77 (by decide) rfl, show g18 = 21 by omega] at c; exact ⟨c.2.1, c.2.2⟩
      refine And.intro ⟨by omega, by omega⟩ (And.intro (fun c45 => ?_) (fun c45 => ?_))
      · intro x46 hx46 kx46 lx46
        rw [w31] at hx46
        refine And.intro ⟨by omega, by omega⟩ ?_
        intro x47 hx47 kx47 lx47
        refine And.intro ⟨by omega, by omega⟩ (And.intro (fun c48 => ?_) (fun c48 => ?_))
        · refine ⟨zk_X9_pass, zm_X9_pass hg d (by omega), rfl, (by (try rw [wg33]) <;> (try rw [w27]) <;> (try rw [wg34]) <;> (try rw [wg35]) <;> (try rw [wg36]) <;> (try rw [w28]) <;> (try rw [w29]) <;> (try rw [w30]) <;> (try rw [w31]) <;> (try rw [w32]) <;> (try rw [wg11]) <;> (try rw [wg12]) <;> (try rw [wg13]) <;> (try rw [wg14]) <;> (try rw [wg15]) <;> (try rw [wg16]) <;> (try rw [wg17]) <;> (try rw [wg18]) <;> (try rw [wg19]) <;> (try rw [wg20]) <;> (try rw [wg1]) <;> (try rw [wg2]) <;> (try rw [wg3]) <;> (try rw [wg4]) <;> (try rw [wg5]) <;> (try rw [wg6]) <;> (try rw [wg7]) <;> (try rw [wg8]) <;> (try rw [wg9]) <;> (try rw [wg10]) <;> omega), ?_⟩
          intro m49 qm49 p50 p51 p52 p53
          have z54 := zfx_t z26 qm49 rfl rfl
          have w55 : m49.1 66 ((30 : Nat) : Int) = g12 := (qm49.2.1 30 rfl).trans w27
          have w56 : m49.1 66 ((38 : Nat) : Int) = g16 := (qm49.2.1 38 rfl).trans w28
          have w57 : m49.1 66 ((8 : Nat) : Int) = g17 := (qm49.2.1 8 rfl).trans w29
          have w58 : m49.1 66 ((24 : Nat) : Int) = g18 := (qm49.2.1 24 rfl).trans w30
          have w59 : m49.1 66 ((25 : Nat) : Int) = g19 := (qm49.2.1 25 rfl).trans w31
          have w60 : m49.1 66 ((26 : Nat) : Int) = g20 := (qm49.2.1 26 rfl).trans w32
          obtain ⟨g61, wg61⟩ : ∃ z : Int, m49.1 66 ((31 : Nat) : Int) = z := ⟨_, rfl⟩
          obtain ⟨g62, wg62⟩ : ∃ z : Int, m49.1 66 ((33 : Nat) : Int) = z := ⟨_, rfl⟩
          obtain ⟨g63, wg63⟩ : ∃ z : Int, m49.1 66 ((34 : Nat) : Int) = z := ⟨_, rfl⟩
          obtain ⟨g64, wg64⟩ : ∃ z : Int, m49.1 66 ((32 : Nat) : Int) = z := ⟨_, rfl⟩
          try rw [wg61] at p50
          try rw [w55] at p50
          try rw [wg62] at p50
          try rw [wg63] at p50
          try rw [wg64] at p50
          try rw [w56] at p50
          try rw [w57] at p50
          try rw [w58] at p50
          try rw [w59] at p50
          try rw [w60] at p50
          try rw [wg33] at p50
          try rw [w27] at p50
          try rw [wg34] at p50
          try rw [wg35] at p50
          try rw [wg36] at p50
          try rw [w28] at p50
          try rw [w29] at p50
          try rw [w30] at p50
          try rw [w31] at p50
          try rw [w32] at p50
          try rw [wg1] at p50
          try rw [wg2] at p50
          try rw [wg3] at p50
          try rw [wg4] at p50
          try rw [wg5] at p50
          try rw [wg6] at p50
          try rw [wg7] at p50
          try rw [wg8] at p50
          try rw [wg9] at p50
          try rw [wg10] at p50
          try rw [wg61] at p51
          try rw [w55] at p51
          try rw [wg62] at p51
          try rw [wg63] at p51
          try rw [wg64] at p51
          try rw [w56] at p51
          try rw [w57] at p51
          try rw [w58] at p51
          try rw [w59] at p51
          try rw [w60] at p51
          try rw [wg33] at p51
          try rw [w27] at p51
          try rw [wg34] at p51
          try rw [wg35] at p51
          try rw [wg36] at p51
          try rw [w28] at p51
          try rw [w29] at p51
          try rw [w30] at p51
          try rw [w31] at p51
          try rw [w32] at p51
          try rw [wg1] at p51
          try rw [wg2] at p51
          try rw [wg3] at p51
          try rw [wg4] at p51
          try rw [wg5] at p51
          try rw [wg6] at p51
          try rw [wg7] at p51
          try rw [wg8] at p51
          try rw [wg9] at p51
          try rw [wg10] at p51
          try rw [wg61] at p52
          try rw [w55] at p52
          try rw [wg62] at p52
          try rw [wg63] at p52
          try rw [wg64] at p52
          try rw [w56] at p52
          try rw [w57] at p52
          try rw [w58] at p52
          try rw [w59] at p52
          try rw [w60] at p52
          try rw [wg33] at p52
          try rw [w27] at p52
          try rw [wg34] at p52
          try rw [wg35] at p52
          try rw [wg36] at p52
          try rw [w28] at p52
          try rw [w29] at p52
          try rw [w30] at p52
          try rw [w31] at p52
          try rw [w32] at p52
          try rw [wg1] at p52
          try rw [wg2] at p52
          try rw [wg3] at p52
          try rw [wg4] at p52
          try rw [wg5] at p52
          try rw [wg6] at p52
          try rw [wg7] at p52
          try rw [wg8] at p52
          try rw [wg9] at p52
          try rw [wg10] at p52
          try rw [wg61] at p53
          try rw [w55] at p53
          try rw [wg62] at p53
          try rw [wg63] at p53
          try rw [wg64] at p53
          try rw [w56] at p53
          try rw [w57] at p53
          try rw [w58] at p53
          try rw [w59] at p53
          try rw [w60] at p53
          try rw [wg33] at p53
          try rw [w27] at p53
          try rw [wg34] at p53
          try rw [wg35] at p53
          try rw [wg36] at p53
          try rw [w28] at p53
          try rw [w29] at p53
          try rw [w30] at p53
          try rw [w31] at p53
          try rw [w32] at p53
          try rw [wg1] at p53
          try rw [wg2] at p53
          try rw [wg3] at p53
          try rw [wg4] at p53
          try rw [wg5] at p53
          try rw [wg6] at p53
          try rw [wg7] at p53
          try rw [wg8] at p53
          try rw [wg9] at p53
          try rw [wg10] at p53
          clear wg33 w27 wg34 wg35 wg36 w28 w29 w30 w31 w32
          have ot65 := zOt_fr ot37 (qm49.1 76 (by decide) rfl) (qm49.1 77 (by decide) rfl) (qm49.1 78 (by decide) rfl) (qm49.1 79 (by decide) rfl) (qm49.1 80 (by decide) rfl) (qm49.1 83 (by decide) rfl) (qm49.1 84 (by decide) rfl)
          have TE66 := zTE_fr (m' := m49) TE38 (fun j a b => qm49.1 j (by omega) (zanyF (by simp <;> omega))) (qm49.2.1 8 rfl) (qm49.2.1 38 rfl)
          have BD67 := zBd_fr BD39 (qm49.1 67 (by decide) rfl) (qm49.1 71 (by decide) rfl) (qm49.1 83 (by decide) rfl) (qm49.1 84 (by decide) rfl) (qm49.2.1 8 rfl)
          have ZA : zrm m49 < zrm m0 := (by unfold zrm; simp only [wg61, w55, wg62, wg63, wg64, w56, w57, w58, w59, w60, wg11, wg12, wg13, wg14, wg15, wg16, wg17, wg18, wg19, wg20, wg1, wg2, wg3, wg4, wg5, wg6, wg7, wg8, wg9, wg10]; (repeat' split) <;> omega)
          intro x68 hx68 kx68 lx68
          rw [wg64] at hx68
          refine And.intro ⟨⟨by omega, by omega⟩, ⟨by omega, by omega⟩⟩ (And.intro (fun c69 => ?_) (fun c69 => ?_))
          · refine Exists.intro (Int.toNat (zrm m49)) (And.intro (zrN ZA (zrm_0 (by (try rw [wg61]) <;> (try rw [w55]) <;> (try rw [wg62]) <;> (try rw [wg63]) <;> (try rw [wg64]) <;> (try rw [w56]) <;> (try rw [w57]) <;> (try rw [w58]) <;> (try rw [w59]) <;> (try rw [w60]) <;> (try rw [wg11]) <;> (try rw [wg12]) <;> (try rw [wg13]) <;> (try rw [wg14]) <;> (try rw [wg15]) <;> (try rw [wg16]) <;> (try rw [wg17]) <;> (try rw [wg18]) <;> (try rw [wg19]) <;> (try rw [wg20]) <;> (try rw [wg1]) <;> (try rw [wg2]) <;> (try rw [wg3]) <;> (try rw [wg4]) <;> (try rw [wg5]) <;> (try rw [wg6]) <;> (try rw [wg7]) <;> (try rw [wg8]) <;> (try rw [wg9]) <;> (try rw [wg10]) <;> omega))) ?_)
            exact ⟨(fun h => absurd h (by decide)), (fun _ => ⟨_, _, rfl, z54, ⟨by omega, by omega⟩, ⟨by omega, by omega⟩, (by (try rw [wg61]) <;> (try rw [w55]) <;> (try rw [wg62]) <;> (try rw [wg63]) <;> (try rw [wg64]) <;> (try rw [w56]) <;> (try rw [w57]) <;> (try rw [w58]) <;> (try rw [w59]) <;> (try rw [w60]) <;> (try rw [wg11]) <;> (try rw [wg12]) <;> (try rw [wg13]) <;> (try rw [wg14]) <;> (try rw [wg15]) <;> (try rw [wg16]) <;> (try rw [wg17]) <;> (try rw [wg18]) <;> (try rw [wg19]) <;> (try rw [wg20]) <;> (try rw [wg1]) <;> (try rw [wg2]) <;> (try rw [wg3]) <;> (try rw [wg4]) <;> (try rw [wg5]) <;> (try rw [wg6]) <;> (try rw [wg7]) <;> (try rw [wg8]) <;> (try rw [wg9]) <;> (try rw [wg10]) <;> omega), (by (try rw [wg61]) <;> (try rw [w55]) <;> (try rw [wg62]) <;> (try rw [wg63]) <;> (try rw [wg64]) <;> (try rw [w56]) <;> (try rw [w57]) <;> (try rw [w58]) <;> (try rw [w59]) <;> (try rw [w60]) <;> (try rw [wg11]) <;> (try rw [wg12]) <;> (try rw [wg13]) <;> (try rw [wg14]) <;> (try rw [wg15]) <;> (try rw [wg16]) <;> (try rw [wg17]) <;> (try rw [wg18]) <;> (try rw [wg19]) <;> (try rw [wg20]) <;> (try rw [wg1]) <;> (try rw [wg2]) <;> (try rw [wg3]) <;> (try rw [wg4]) <;> (try rw [wg5]) <;> (try rw [wg6]) <;> (try rw [wg7]) <;> (try rw [wg8]) <;> (try rw [wg9]) <;> (try rw [wg10]) <;> omega), rfl, TE66, BD67, (by (try rw [wg61]) <;> (try rw [w55]) <;> (try rw [wg62]) <;> (try rw [wg63]) <;> (try rw [wg64]) <;> (try rw [w56]) <;> (try rw [w57]) <;> (try rw [w58]) <;> (try rw [w59]) <;> (try rw [w60]) <;> (try rw [wg11]) <;> (try rw [wg12]) <;> (try rw [wg13]) <;> (try rw [wg14]) <;> (try rw [wg15]) <;> (try rw [wg16]) <;> (try rw [wg17]) <;> (try rw [wg18]) <;> (try rw [wg19]) <;> (try rw [wg20]) <;> (try rw [wg1]) <;> (try rw [wg2]) <;> (try rw [wg3]) <;> (try rw [wg4]) <;> (try rw [wg5]) <;> (try rw [wg6]) <;> (try rw [wg7]) <;> (try rw [wg8]) <;> (try rw [wg9]) <;> (try rw [wg10]) <;> omega), (Or.inl (by (try rw [wg61]) <;> (try rw [w55]) <;> (try rw [wg62]) <;> (try rw [wg63]) <;> (try rw [wg64]) <;> (try rw [w56]) <;> (try rw [w57]) <;> (try rw [w58]) <;> (try rw [w59]) <;> (try rw [w60]) <;> (try rw [wg11]) <;> (try rw [wg12]) <;> (try rw [wg13]) <;> (try rw [wg14]) <;> (try rw [wg15]) <;> (try rw [wg16]) <;> (try rw [wg17]) <;> (try rw [wg18]) <;> (try rw [wg19]) <;> (try rw [wg20]) <;> (try rw [wg1]) <;> (try rw [wg2]) <;> (try rw [wg3]) <;> (try rw [wg4]) <;> (try rw [wg5]) <;> (try rw [wg6]) <;> (try rw [wg7]) <;> (try rw [wg8]) <;> (try rw [wg9]) <;> (try rw [wg10]) <;> omega)), (Int.lt_of_lt_of_le ZA i7), (by (try rw [wg61]) <;> (try rw [w55]) <;> (try rw [wg62]) <;> (try rw [wg63]) <;> (try rw [wg64]) <;> (try rw [w56]) <;> (try rw [w57]) <;> (try rw [w58]) <;> (try rw [w59]) <;> (try rw [w60]) <;> (try rw [wg11]) <;> (try rw [wg12]) <;> (try rw [wg13]) <;> (try rw [wg14]) <;> (try rw [wg15]) <;> (try rw [wg16]) <;> (try rw [wg17]) <;> (try rw [wg18]) <;> (try rw [wg19]) <;> (try rw [wg20]) <;> (try rw [wg1]) <;> (try rw [wg2]) <;> (try rw [wg3]) <;> (try rw [wg4]) <;> (try rw [wg5]) <;> (try rw [wg6]) <;> (try rw [wg7]) <;> (try rw [wg8]) <;> (try rw [wg9]) <;> (try rw [wg10]) <;> omega), (by rcases VP with c | c; (exfalso; omega); exact c), ot65, rfl⟩)⟩
          · refine ⟨zk_X9_fail, zm_X9_fail hg d (by omega), _, rfl, ⟨by omega, by omega⟩, ?_⟩
            intro x70 m71 qm71 kx70 lx70
            have z72 := zfx_t z54 qm71 rfl rfl
            have w73 : m71.1 66 ((31 : Nat) : Int) = g61 := (qm71.2.1 31 rfl).trans wg61
            have w74 : m71.1 66 ((30 : Nat) : Int) = g12 := (qm71.2.1 30 rfl).trans w55
            have w75 : m71.1 66 ((33 : Nat) : Int) = g62 := (qm71.2.1 33 rfl).trans wg62
            have w76 : m71.1 66 ((34 : Nat) : Int) = g63 := (qm71.2.1 34 rfl).trans wg63
            have w77 : m71.1 66 ((32 : Nat) : Int) = g64 := (qm71.2.1 32 rfl).trans wg64
            have w78 : m71.1 66 ((38 : Nat) : Int) = g16 := (qm71.2.1 38 rfl).trans w56
            have w79 : m71.1 66 ((8 : Nat) : Int) = g17 := (qm71.2.1 8 rfl).trans w57
            have w80 : m71.1 66 ((24 : Nat) : Int) = g18 := (qm71.2.1 24 rfl).trans w58
            have w81 : m71.1 66 ((25 : Nat) : Int) = g19 := (qm71.2.1 25 rfl).trans w59
            have w82 : m71.1 66 ((26 : Nat) : Int) = g20 := (qm71.2.1 26 rfl).trans w60
            clear wg61 w55 wg62 wg63 wg64 w56 w57 w58 w59 w60
            have ot83 := zOt_fr ot65 (qm71.1 76 (by decide) rfl) (qm71.1 77 (by decide) rfl) (qm71.1 78 (by decide) rfl) (qm71.1 79 (by decide) rfl) (qm71.1 80 (by decide) rfl) (qm71.1 83 (by decide) rfl) (qm71.1 84 (by decide) rfl)
            have TE84 := zTE_fr (m' := m71) TE66 (fun j a b => qm71.1 j (by omega) (zanyF (by simp <;> omega))) (qm71.2.1 8 rfl) (qm71.2.1 38 rfl)
            have BD85 := zBd_fr BD67 (qm71.1 67 (by decide) rfl) (qm71.1 71 (by decide) rfl) (qm71.1 83 (by decide) rfl) (qm71.1 84 (by decide) rfl) (qm71.2.1 8 rfl)
            exact And.intro (zrtb (by omega)) (And.intro ⟨by omega, by omega⟩ (hQ _ _ z72 (by omega) (by omega) (by (try rw [w73]) <;> (try rw [w74]) <;> (try rw [w75]) <;> (try rw [w76]) <;> (try rw [w77]) <;> (try rw [w78]) <;> (try rw [w79]) <;> (try rw [w80]) <;> (try rw [w81]) <;> (try rw [w82]) <;> (try rw [wg11]) <;> (try rw [wg12]) <;> (try rw [wg13]) <;> (try rw [wg14]) <;> (try rw [wg15]) <;> (try rw [wg16]) <;> (try rw [wg17]) <;> (try rw [wg18]) <;> (try rw [wg19]) <;> (try rw [wg20]) <;> (try rw [wg1]) <;> (try rw [wg2]) <;> (try rw [wg3]) <;> (try rw [wg4]) <;> (try rw [wg5]) <;> (try rw [wg6]) <;> (try rw [wg7]) <;> (try rw [wg8]) <;> (try rw [wg9]) <;> (try rw [wg10]) <;> omega) (by (try rw [w73]) <;> (try rw [w74]) <;> (try rw [w75]) <;> (try rw [w76]) <;> (try rw [w77]) <;> (try rw [w78]) <;> (try rw [w79]) <;> (try rw [w80]) <;> (try rw [w81]) <;> (try rw [w82]) <;> (try rw [wg11]) <;> (try rw [wg12]) <;> (try rw [wg13]) <;> (try rw [wg14]) <;> (try rw [wg15]) <;> (try rw [wg16]) <;> (try rw [wg17]) <;> (try rw [wg18]) <;> (try rw [wg19]) <;> (try rw [wg20]) <;> (try rw [wg1]) <;> (try rw [wg2]) <;> (try rw [wg3]) <;> (try rw [wg4]) <;> (try rw [wg5]) <;> (try rw [wg6]) <;> (try rw [wg7]) <;> (try rw [wg8]) <;> (try rw [wg9]) <;> (try rw [wg10]) <;> omega) TE84 (by (try rw [w73]) <;> (try rw [w74]) <;> (try rw [w75]) <;> (try rw [w76]) <;> (try rw [w77]) <;> (try rw [w78]) <;> (try rw [w79]) <;> (try rw [w80]) <;> (try rw [w81]) <;> (try rw [w82]) <;> (try rw [wg11]) <;> (try rw [wg12]) <;> (try rw [wg13]) <;> (try rw [wg14]) <;> (try rw [wg15]) <;> (try rw [wg16]) <;> (try rw [wg17]) <;> (try rw [wg18]) <;> (try rw [wg19]) <;> (try rw [wg20]) <;> (try rw [wg1]) <;> (try rw [wg2]) <;> (try rw [wg3]) <;> (try rw [wg4]) <;> (try rw [wg5]) <;> (try rw [wg6]) <;> (try rw [wg7]) <;> (try rw [wg8]) <;> (try rw [wg9]) <;> (try rw [wg10]) <;> omega) (fun h => by exfalso; omega) (fun h => by exfalso; omega) ot83))
        · refine ⟨zk_X9_fail, zm_X9_fail hg d (by omega), _, rfl, ⟨by omega, by omega⟩, ?_⟩
          intro x86 m87 qm87 kx86 lx86
          have z88 := zfx_t z26 qm87 rfl rfl
          have w89 : m87.1 66 ((31 : Nat) : Int) = g33 := (qm87.2.1 31 rfl).trans wg33
          have w90 : m87.1 66 ((30 : Nat) : Int) = g12 := (qm87.2.1 30 rfl).trans w27
          have w91 : m87.1 66 ((33 : Nat) : Int) = g34 := (qm87.2.1 33 rfl).trans wg34
          have w92 : m87.1 66 ((34 : Nat) : Int) = g35 := (qm87.2.1 34 rfl).trans wg35
          have w93 : m87.1 66 ((32 : Nat) : Int) = g36 := (qm87.2.1 32 rfl).trans wg36
          have w94 : m87.1 66 ((38 : Nat) : Int) = g16 := (qm87.2.1 38 rfl).trans w28
          have w95 : m87.1 66 ((8 : Nat) : Int) = g17 := (qm87.2.1 8 rfl).trans w29
          have w96 : m87.1 66 ((24 : Nat) : Int) = g18 := (qm87.2.1 24 rfl).trans w30
          have w97 : m87.1 66 ((25 : Nat) : Int) = g19 := (qm87.2.1 25 rfl).trans w31
          have w98 : m87.1 66 ((26 : Nat) : Int) = g20 := (qm87.2.1 26 rfl).trans w32
          clear wg33 w27 wg34 wg35 wg36 w28 w29 w30 w31 w32
          have ot99 := zOt_fr ot37 (qm87.1 76 (by decide) rfl) (qm87.1 77 (by decide) rfl) (qm87.1 78 (by decide) rfl) (qm87.1 79 (by decide) rfl) (qm87.1 80 (by decide) rfl) (qm87.1 83 (by decide) rfl) (qm87.1 84 (by decide) rfl)
          have TE100 := zTE_fr (m' := m87) TE38 (fun j a b => qm87.1 j (by omega) (zanyF (by simp <;> omega))) (qm87.2.1 8 rfl) (qm87.2.1 38 rfl)
          have BD101 := zBd_fr BD39 (qm87.1 67 (by decide) rfl) (qm87.1 71 (by decide) rfl) (qm87.1 83 (by decide) rfl) (qm87.1 84 (by decide) rfl) (qm87.2.1 8 rfl)
          exact And.intro (zrtb (by omega)) (And.intro ⟨by omega, by omega⟩ (hQ _ _ z88 (by omega) (by omega) (by (try rw [w89]) <;> (try rw [w90]) <;> (try rw [w91]) <;> (try rw [w92]) <;> (try rw [w93]) <;> (try rw [w94]) <;> (try rw [w95]) <;> (try rw [w96]) <;> (try rw [w97]) <;> (try rw [w98]) <;> (try rw [wg11]) <;> (try rw [wg12]) <;> (try rw [wg13]) <;> (try rw [wg14]) <;> (try rw [wg15]) <;> (try rw [wg16]) <;> (try rw [wg17]) <;> (try rw [wg18]) <;> (try rw [wg19]) <;> (try rw [wg20]) <;> (try rw [wg1]) <;> (try rw [wg2]) <;> (try rw [wg3]) <;> (try rw [wg4]) <;> (try rw [wg5]) <;> (try rw [wg6]) <;> (try rw [wg7]) <;> (try rw [wg8]) <;> (try rw [wg9]) <;> (try rw [wg10]) <;> omega) (by (try rw [w89]) <;> (try rw [w90]) <;> (try rw [w91]) <;> (try rw [w92]) <;> (try rw [w93]) <;> (try rw [w94]) <;> (try rw [w95]) <;> (try rw [w96]) <;> (try rw [w97]) <;> (try rw [w98]) <;> (try rw [wg11]) <;> (try rw [wg12]) <;> (try rw [wg13]) <;> (try rw [wg14]) <;> (try rw [wg15]) <;> (try rw [wg16]) <;> (try rw [wg17]) <;> (try rw [wg18]) <;> (try rw [wg19]) <;> (try rw [wg20]) <;> (try rw [wg1]) <;> (try rw [wg2]) <;> (try rw [wg3]) <;> (try rw [wg4]) <;> (try rw [wg5]) <;> (try rw [wg6]) <;> (try rw [wg7]) <;> (try rw [wg8]) <;> (try rw [wg9]) <;> (try rw [wg10]) <;> omega) TE100 (by (try rw [w89]) <;> (try rw [w90]) <;> (try rw [w91]) <;> (try rw [w92]) <;> (try rw [w93]) <;> (try rw [w94]) <;> (try rw [w95]) <;> (try rw [w96]) <;> (try rw [w97]) <;> (try rw [w98]) <;> (try rw [wg11]) <;> (try rw [wg12]) <;> (try rw [wg13]) <;> (try rw [wg14]) <;> (try rw [wg15]) <;> (try rw [wg16]) <;> (try rw [wg17]) <;> (try rw [wg18]) <;> (try rw [wg19]) <;> (try rw [wg20]) <;> (try rw [wg1]) <;> (try rw [wg2]) <;> (try rw [wg3]) <;> (try rw [wg4]) <;> (try rw [wg5]) <;> (try rw [wg6]) <;> (try rw [wg7]) <;> (try rw [wg8]) <;> (try rw [wg9]) <;> (try rw [wg10]) <;> omega) (fun h => by exfalso; omega) (fun h => by exfalso; omega) ot99))
      · refine ⟨zk_X9_fail, zm_X9_fail hg d (by omega), _, rfl, ⟨by omega, by omega⟩, ?_⟩
        intro x102 m103 qm103 kx102 lx102
        have z104 := zfx_t z26 qm103 rfl rfl
        have w105 : m103.1 66 ((31 : Nat) : Int) = g33 := (qm103.2.1 31 rfl).trans wg33
        have w106 : m103.1 66 ((30 : Nat) : Int) = g12 := (qm103.2.1 30 rfl).trans w27
        have w107 : m103.1 66 ((33 : Nat) : Int) = g34 := (qm103.2.1 33 rfl).trans wg34
        have w108 : m103.1 66 ((34 : Nat) : Int) = g35 := (qm103.2.1 34 rfl).trans wg35
        have w109 : m103.1 66 ((32 : Nat) : Int) = g36 := (qm103.2.1 32 rfl).trans wg36
        have w110 : m103.1 66 ((38 : Nat) : Int) = g16 := (qm103.2.1 38 rfl).trans w28
        have w111 : m103.1 66 ((8 : Nat) : Int) = g17 := (qm103.2.1 8 rfl).trans w29
        have w112 : m103.1 66 ((24 : Nat) : Int) = g18 := (qm103.2.1 24 rfl).trans w30
        have w113 : m103.1 66 ((25 : Nat) : Int) = g19 := (qm103.2.1 25 rfl).trans w31
        have w114 : m103.1 66 ((26 : Nat) : Int) = g20 := (qm103.2.1 26 rfl).trans w32
        clear wg33 w27 wg34 wg35 wg36 w28 w29 w30 w31 w32
        have ot115 := zOt_fr ot37 (qm103.1 76 (by decide) rfl) (qm103.1 77 (by decide) rfl) (qm103.1 78 (by decide) rfl) (qm103.1 79 (by decide) rfl) (qm103.1 80 (by decide) rfl) (qm103.1 83 (by decide) rfl) (qm103.1 84 (by decide) rfl)
        have TE116 := zTE_fr (m' := m103) TE38 (fun j a b => qm103.1 j (by omega) (zanyF (by simp <;> omega))) (qm103.2.1 8 rfl) (qm103.2.1 38 rfl)
        have BD117 := zBd_fr BD39 (qm103.1 67 (by decide) rfl) (qm103.1 71 (by decide) rfl) (qm103.1 83 (by decide) rfl) (qm103.1 84 (by decide) rfl) (qm103.2.1 8 rfl)
        exact And.intro (zrtb (by omega)) (And.intro ⟨by omega, by omega⟩ (hQ _ _ z104 (by omega) (by omega) (by (try rw [w105]) <;> (try rw [w106]) <;> (try rw [w107]) <;> (try rw [w108]) <;> (try rw [w109]) <;> (try rw [w110]) <;> (try rw [w111]) <;> (try rw [w112]) <;> (try rw [w113]) <;> (try rw [w114]) <;> (try rw [wg11]) <;> (try rw [wg12]) <;> (try rw [wg13]) <;> (try rw [wg14]) <;> (try rw [wg15]) <;> (try rw [wg16]) <;> (try rw [wg17]) <;> (try rw [wg18]) <;> (try rw [wg19]) <;> (try rw [wg20]) <;> (try rw [wg1]) <;> (try rw [wg2]) <;> (try rw [wg3]) <;> (try rw [wg4]) <;> (try rw [wg5]) <;> (try rw [wg6]) <;> (try rw [wg7]) <;> (try rw [wg8]) <;> (try rw [wg9]) <;> (try rw [wg10]) <;> omega) (by (try rw [w105]) <;> (try rw [w106]) <;> (try rw [w107]) <;> (try rw [w108]) <;> (try rw [w109]) <;> (try rw [w110]) <;> (try rw [w111]) <;> (try rw [w112]) <;> (try rw [w113]) <;> (try rw [w114]) <;> (try rw [wg11]) <;> (try rw [wg12]) <;> (try rw [wg13]) <;> (try rw [wg14]) <;> (try rw [wg15]) <;> (try rw [wg16]) <;> (try rw [wg17]) <;> (try rw [wg18]) <;> (try rw [wg19]) <;> (try rw [wg20]) <;> (try rw [wg1]) <;> (try rw [wg2]) <;> (try rw [wg3]) <;> (try rw [wg4]) <;> (try rw [wg5]) <;> (try rw [wg6]) <;> (try rw [wg7]) <;> (try rw [wg8]) <;> (try rw [wg9]) <;> (try rw [wg10]) <;> omega) TE116 (by (try rw [w105]) <;> (try rw [w106]) <;> (try rw [w107]) <;> (try rw [w108]) <;> (try rw [w109]) <;> (try rw [w110]) <;> (try rw [w111]) <;> (try rw [w112]) <;> (try rw [w113]) <;> (try rw [w114]) <;> (try rw [wg11]) <;> (try rw [wg12]) <;> (try rw [wg13]) <;> (try rw [wg14]) <;> (try rw [wg15]) <;> (try rw [wg16]) <;> (try rw [wg17]) <;> (try rw [wg18]) <;> (try rw [wg19]) <;> (try rw [wg20]) <;> (try rw [wg1]) <;> (try rw [wg2]) <;> (try rw [wg3]) <;> (try rw [wg4]) <;> (try rw [wg5]) <;> (try rw [wg6]) <;> (try rw [wg7]) <;> (try rw [wg8]) <;> (try rw [wg9]) <;> (try rw [wg10]) <;> omega) (fun h => by exfalso; omega) (fun h => by exfalso; omega) ot115))
    · refine ⟨zk_X9_fail, zm_X9_fail hg d (by omega), _, rfl, ⟨by omega, by omega⟩, ?_⟩
      intro x118 m119 qm119 kx118 lx118
      have z120 := zfx_t z26 qm119 rfl rfl
      have w121 : m119.1 66 ((31 : Nat) : Int) = g33 := (qm119.2.1 31 rfl).trans wg33
      have w122 : m119.1 66 ((30 : Nat) : Int) = g12 := (qm119.2.1 30 rfl).trans w27
      have w123 : m119.1 66 ((33 : Nat) : Int) = g34 := (qm119.2.1 33 rfl).trans wg34
      have w124 : m119.1 66 ((34 : Nat) : Int) = g35 := (qm119.2.1 34 rfl).trans wg35
      have w125 : m119.1 66 ((32 : Nat) : Int) = g36 := (qm119.2.1 32 rfl).trans wg36
      have w126 : m119.1 66 ((38 : Nat) : Int) = g16 := (qm119.2.1 38 rfl).trans w28
      have w127 : m119.1 66 ((8 : Nat) : Int) = g17 := (qm119.2.1 8 rfl).trans w29
      have w128 : m119.1 66 ((24 : Nat) : Int) = g18 := (qm119.2.1 24 rfl).trans w30
      have w129 : m119.1 66 ((25 : Nat) : Int) = g19 := (qm119.2.1 25 rfl).trans w31
      have w130 : m119.1 66 ((26 : Nat) : Int) = g20 := (qm119.2.1 26 rfl).trans w32
      clear wg33 w27 wg34 wg35 wg36 w28 w29 w30 w31 w32
      have ot131 := zOt_fr ot37 (qm119.1 76 (by decide) rfl) (qm119.1 77 (by decide) rfl) (qm119.1 78 (by decide) rfl) (qm119.1 79 (by decide) rfl) (qm119.1 80 (by decide) rfl) (qm119.1 83 (by decide) rfl) (qm119.1 84 (by decide) rfl)
      have TE132 := zTE_fr (m' := m119) TE38 (fun j a b => qm119.1 j (by omega) (zanyF (by simp <;> omega))) (qm119.2.1 8 rfl) (qm119.2.1 38 rfl)
      have BD133 := zBd_fr BD39 (qm119.1 67 (by decide) rfl) (qm119.1 71 (by decide) rfl) (qm119.1 83 (by decide) rfl) (qm119.1 84 (by decide) rfl) (qm119.2.1 8 rfl)
      exact And.intro (zrtb (by omega)) (And.intro ⟨by omega, by omega⟩ (hQ _ _ z120 (by omega) (by omega) (by (try rw [w121]) <;> (try rw [w122]) <;> (try rw [w123]) <;> (try rw [w124]) <;> (try rw [w125]) <;> (try rw [w126]) <;> (try rw [w127]) <;> (try rw [w128]) <;> (try rw [w129]) <;> (try rw [w130]) <;> (try rw [wg11]) <;> (try rw [wg12]) <;> (try rw [wg13]) <;> (try rw [wg14]) <;> (try rw [wg15]) <;> (try rw [wg16]) <;> (try rw [wg17]) <;> (try rw [wg18]) <;> (try rw [wg19]) <;> (try rw [wg20]) <;> (try rw [wg1]) <;> (try rw [wg2]) <;> (try rw [wg3]) <;> (try rw [wg4]) <;> (try rw [wg5]) <;> (try rw [wg6]) <;> (try rw [wg7]) <;> (try rw [wg8]) <;> (try rw [wg9]) <;> (try rw [wg10]) <;> omega) (by (try rw [w121]) <;> (try rw [w122]) <;> (try rw [w123]) <;> (try rw [w124]) <;> (try rw [w125]) <;> (try rw [w126]) <;> (try rw [w127]) <;> (try rw [w128]) <;> (try rw [w129]) <;> (try rw [w130]) <;> (try rw [wg11]) <;> (try rw [wg12]) <;> (try rw [wg13]) <;> (try rw [wg14]) <;> (try rw [wg15]) <;> (try rw [wg16]) <;> (try rw [wg17]) <;> (try rw [wg18]) <;> (try rw [wg19]) <;> (try rw [wg20]) <;> (try rw [wg1]) <;> (try rw [wg2]) <;> (try rw [wg3]) <;> (try rw [wg4]) <;> (try rw [wg5]) <;> (try rw [wg6]) <;> (try rw [wg7]) <;> (try rw [wg8]) <;> (try rw [wg9]) <;> (try rw [wg10]) <;> omega) TE132 (by (try rw [w121]) <;> (try rw [w122]) <;> (try rw [w123]) <;> (try rw [w124]) <;> (try rw [w125]) <;> (try rw [w126]) <;> (try rw [w127]) <;> (try rw [w128]) <;> (try rw [w129]) <;> (try rw [w130]) <;> (try rw [wg11]) <;> (try rw [wg12]) <;> (try rw [wg13]) <;> (try rw [wg14]) <;> (try rw [wg15]) <;> (try rw [wg16]) <;> (try rw [wg17]) <;> (try rw [wg18]) <;> (try rw [wg19]) <;> (try rw [wg20]) <;> (try rw [wg1]) <;> (try rw [wg2]) <;> (try rw [wg3]) <;> (try rw [wg4]) <;> (try rw [wg5]) <;> (try rw [wg6]) <;> (try rw [wg7]) <;> (try rw [wg8]) <;> (try rw [wg9]) <;> (try rw [wg10]) <;> omega) (fun h => by exfalso; omega) (fun h => by exfalso; omega) ot131))
  · intro vs m0 n hI
    replace hI := hI.2 rfl
    clear z0
    obtain ⟨v1, v2, rfl, z0, hv1, hv2, i0, i1, i2, i3, i4, i5, i6, i7, i8, i9, i10, rfl⟩ := hI
    subst i2
    obtain ⟨g134, wg134⟩ : ∃ z : Int, m0.1 66 ((31 : Nat) : Int) = z := ⟨_, rfl⟩
    obtain ⟨g135, wg135⟩ : ∃ z : Int, m0.1 66 ((30 : Nat) : Int) = z := ⟨_, rfl⟩
    obtain ⟨g136, wg136⟩ : ∃ z : Int, m0.1 66 ((33 : Nat) : Int) = z := ⟨_, rfl⟩
    obtain ⟨g137, wg137⟩ : ∃ z : Int, m0.1 66 ((34 : Nat) : Int) = z := ⟨_, rfl⟩
    obtain ⟨g138, wg138⟩ : ∃ z : Int, m0.1 66 ((32 : Nat) : Int) = z := ⟨_, rfl⟩
    obtain ⟨g139, wg139⟩ : ∃ z : Int, m0.1 66 ((38 : Nat) : Int) = z := ⟨_, rfl⟩
    obtain ⟨g140, wg140⟩ : ∃ z : Int, m0.1 66 ((8 : Nat) : Int) = z := ⟨_, rfl⟩
    obtain ⟨g141, wg141⟩ : ∃ z : Int, m0.1 66 ((24 : Nat) : Int) = z := ⟨_, rfl⟩
    obtain ⟨g142, wg142⟩ : ∃ z : Int, m0.1 66 ((25 : Nat) : Int) = z := ⟨_, rfl⟩
    obtain ⟨g143, wg143⟩ : ∃ z : Int, m0.1 66 ((26 : Nat) : Int) = z := ⟨_, rfl⟩
    try rw [wg134] at i0
    try rw [wg135] at i0
    try rw [wg136] at i0
    try rw [wg137] at i0
    try rw [wg138] at i0
    try rw [wg139] at i0
    try rw [wg140] at i0
    try rw [wg141] at i0
    try rw [wg142] at i0
    try rw [wg143] at i0
    try rw [wg1] at i0
    try rw [wg2] at i0
    try rw [wg3] at i0
    try rw [wg4] at i0
    try rw [wg5] at i0
    try rw [wg6] at i0
    try rw [wg7] at i0
    try rw [wg8] at i0
    try rw [wg9] at i0
    try rw [wg10] at i0
    try rw [wg134] at i1
    try rw [wg135] at i1
    try rw [wg136] at i1
    try rw [wg137] at i1
    try rw [wg138] at i1
    try rw [wg139] at i1
    try rw [wg140] at i1
    try rw [wg141] at i1
    try rw [wg142] at i1
    try rw [wg143] at i1
    try rw [wg1] at i1
    try rw [wg2] at i1
    try rw [wg3] at i1
    try rw [wg4] at i1
    try rw [wg5] at i1
    try rw [wg6] at i1
    try rw [wg7] at i1
    try rw [wg8] at i1
    try rw [wg9] at i1
    try rw [wg10] at i1
    try rw [wg134] at i2
    try rw [wg135] at i2
    try rw [wg136] at i2
    try rw [wg137] at i2
    try rw [wg138] at i2
    try rw [wg139] at i2
    try rw [wg140] at i2
    try rw [wg141] at i2
    try rw [wg142] at i2
    try rw [wg143] at i2
    try rw [wg1] at i2
    try rw [wg2] at i2
    try rw [wg3] at i2
    try rw [wg4] at i2
    try rw [wg5] at i2
    try rw [wg6] at i2
    try rw [wg7] at i2
    try rw [wg8] at i2
    try rw [wg9] at i2
    try rw [wg10] at i2
    try rw [wg134] at i3
    try rw [wg135] at i3
    try rw [wg136] at i3
    try rw [wg137] at i3
    try rw [wg138] at i3
    try rw [wg139] at i3
    try rw [wg140] at i3
    try rw [wg141] at i3
    try rw [wg142] at i3
    try rw [wg143] at i3
    try rw [wg1] at i3
    try rw [wg2] at i3
    try rw [wg3] at i3
    try rw [wg4] at i3
    try rw [wg5] at i3
    try rw [wg6] at i3
    try rw [wg7] at i3
    try rw [wg8] at i3
    try rw [wg9] at i3
    try rw [wg10] at i3
    try rw [wg134] at i4
    try rw [wg135] at i4
    try rw [wg136] at i4
    try rw [wg137] at i4
    try rw [wg138] at i4
    try rw [wg139] at i4
    try rw [wg140] at i4
    try rw [wg141] at i4
    try rw [wg142] at i4
    try rw [wg143] at i4
    try rw [wg1] at i4
    try rw [wg2] at i4
    try rw [wg3] at i4
    try rw [wg4] at i4
    try rw [wg5] at i4
    try rw [wg6] at i4
    try rw [wg7] at i4
    try rw [wg8] at i4
    try rw [wg9] at i4
    try rw [wg10] at i4
    try rw [wg134] at i5
    try rw [wg135] at i5
    try rw [wg136] at i5
    try rw [wg137] at i5
    try rw [wg138] at i5
    try rw [wg139] at i5
    try rw [wg140] at i5
    try rw [wg141] at i5
    try rw [wg142] at i5
    try rw [wg143] at i5
    try rw [wg1] at i5
    try rw [wg2] at i5
    try rw [wg3] at i5
    try rw [wg4] at i5
    try rw [wg5] at i5
    try rw [wg6] at i5
    try rw [wg7] at i5
    try rw [wg8] at i5
    try rw [wg9] at i5
    try rw [wg10] at i5
    try rw [wg134] at i6
    try rw [wg135] at i6
    try rw [wg136] at i6
    try rw [wg137] at i6
    try rw [wg138] at i6
    try rw [wg139] at i6
    try rw [wg140] at i6
    try rw [wg141] at i6
    try rw [wg142] at i6
    try rw [wg143] at i6
    try rw [wg1] at i6
    try rw [wg2] at i6
    try rw [wg3] at i6
    try rw [wg4] at i6
    try rw [wg5] at i6
    try rw [wg6] at i6
    try rw [wg7] at i6
    try rw [wg8] at i6
    try rw [wg9] at i6
    try rw [wg10] at i6
    try rw [wg134] at i7
    try rw [wg135] at i7
    try rw [wg136] at i7
    try rw [wg137] at i7
    try rw [wg138] at i7
    try rw [wg139] at i7
    try rw [wg140] at i7
    try rw [wg141] at i7
    try rw [wg142] at i7
    try rw [wg143] at i7
    try rw [wg1] at i7
    try rw [wg2] at i7
    try rw [wg3] at i7
    try rw [wg4] at i7
    try rw [wg5] at i7
    try rw [wg6] at i7
    try rw [wg7] at i7
    try rw [wg8] at i7
    try rw [wg9] at i7
    try rw [wg10] at i7
    try rw [wg134] at i8
    try rw [wg135] at i8
    try rw [wg136] at i8
    try rw [wg137] at i8
    try rw [wg138] at i8
    try rw [wg139] at i8
    try rw [wg140] at i8
    try rw [wg141] at i8
    try rw [wg142] at i8
    try rw [wg143] at i8
    try rw [wg1] at i8
    try rw [wg2] at i8
    try rw [wg3] at i8
    try rw [wg4] at i8
    try rw [wg5] at i8
    try rw [wg6] at i8
    try rw [wg7] at i8
    try rw [wg8] at i8
    try rw [wg9] at i8
    try rw [wg10] at i8
    try rw [wg134] at i9
    try rw [wg135] at i9
    try rw [wg136] at i9
    try rw [wg137] at i9
    try rw [wg138] at i9
    try rw [wg139] at i9
    try rw [wg140] at i9
    try rw [wg141] at i9
    try rw [wg142] at i9
    try rw [wg143] at i9
    try rw [wg1] at i9
    try rw [wg2] at i9
    try rw [wg3] at i9
    try rw [wg4] at i9
    try rw [wg5] at i9
    try rw [wg6] at i9
    try rw [wg7] at i9
    try rw [wg8] at i9
    try rw [wg9] at i9
    try rw [wg10] at i9
    try rw [wg134] at i10
    try rw [wg135] at i10
    try rw [wg136] at i10
    try rw [wg137] at i10
    try rw [wg138] at i10
    try rw [wg139] at i10
    try rw [wg140] at i10
    try rw [wg141] at i10
    try rw [wg142] at i10
    try rw [wg143] at i10
    try rw [wg1] at i10
    try rw [wg2] at i10
    try rw [wg3] at i10
    try rw [wg4] at i10
    try rw [wg5] at i10
    try rw [wg6] at i10
    try rw [wg7] at i10
    try rw [wg8] at i10
    try rw [wg9] at i10
    try rw [wg10] at i10
    refine ⟨zk_X9_pass, zm_X9_pass hg d (by omega), rfl, (by (try rw [wg134]) <;> (try rw [wg135]) <;> (try rw [wg136]) <;> (try rw [wg137]) <;> (try rw [wg138]) <;> (try rw [wg139]) <;> (try rw [wg140]) <;> (try rw [wg141]) <;> (try rw [wg142]) <;> (try rw [wg143]) <;> (try rw [wg1]) <;> (try rw [wg2]) <;> (try rw [wg3]) <;> (try rw [wg4]) <;> (try rw [wg5]) <;> (try rw [wg6]) <;> (try rw [wg7]) <;> (try rw [wg8]) <;> (try rw [wg9]) <;> (try rw [wg10]) <;> omega), ?_⟩
    intro m144 qm144 p145 p146 p147 p148
    have z149 := zfx_t z0 qm144 rfl rfl
    have w150 : m144.1 66 ((30 : Nat) : Int) = g135 := (qm144.2.1 30 rfl).trans wg135
    have w151 : m144.1 66 ((38 : Nat) : Int) = g139 := (qm144.2.1 38 rfl).trans wg139
    have w152 : m144.1 66 ((8 : Nat) : Int) = g140 := (qm144.2.1 8 rfl).trans wg140
    have w153 : m144.1 66 ((24 : Nat) : Int) = g141 := (qm144.2.1 24 rfl).trans wg141
    have w154 : m144.1 66 ((25 : Nat) : Int) = g142 := (qm144.2.1 25 rfl).trans wg142
    have w155 : m144.1 66 ((26 : Nat) : Int) = g143 := (qm144.2.1 26 rfl).trans wg143
    obtain ⟨g156, wg156⟩ : ∃ z : Int, m144.1 66 ((31 : Nat) : Int) = z := ⟨_, rfl⟩
    obtain ⟨g157, wg157⟩ : ∃ z : Int, m144.1 66 ((33 : Nat) : Int) = z := ⟨_, rfl⟩
    obtain ⟨g158, wg158⟩ : ∃ z : Int, m144.1 66 ((34 : Nat) : Int) = z := ⟨_, rfl⟩
    obtain ⟨g159, wg159⟩ : ∃ z : Int, m144.1 66 ((32 : Nat) : Int) = z := ⟨_, rfl⟩
    try rw [wg156] at p145
    try rw [w150] at p145
    try rw [wg157] at p145
    try rw [wg158] at p145
    try rw [wg159] at p145
    try rw [w151] at p145
    try rw [w152] at p145
    try rw [w153] at p145
    try rw [w154] at p145
    try rw [w155] at p145
    try rw [wg134] at p145
    try rw [wg135] at p145
    try rw [wg136] at p145
    try rw [wg137] at p145
    try rw [wg138] at p145
    try rw [wg139] at p145
    try rw [wg140] at p145
    try rw [wg141] at p145
    try rw [wg142] at p145
    try rw [wg143] at p145
    try rw [wg1] at p145
    try rw [wg2] at p145
    try rw [wg3] at p145
    try rw [wg4] at p145
    try rw [wg5] at p145
    try rw [wg6] at p145
    try rw [wg7] at p145
    try rw [wg8] at p145
    try rw [wg9] at p145
    try rw [wg10] at p145
    try rw [wg156] at p146
    try rw [w150] at p146
    try rw [wg157] at p146
    try rw [wg158] at p146
    try rw [wg159] at p146
    try rw [w151] at p146
    try rw [w152] at p146
    try rw [w153] at p146
    try rw [w154] at p146
    try rw [w155] at p146
    try rw [wg134] at p146
    try rw [wg135] at p146
    try rw [wg136] at p146
    try rw [wg137] at p146
    try rw [wg138] at p146
    try rw [wg139] at p146
    try rw [wg140] at p146
    try rw [wg141] at p146
    try rw [wg142] at p146
    try rw [wg143] at p146
    try rw [wg1] at p146
    try rw [wg2] at p146
    try rw [wg3] at p146
    try rw [wg4] at p146
    try rw [wg5] at p146
    try rw [wg6] at p146
    try rw [wg7] at p146
    try rw [wg8] at p146
    try rw [wg9] at p146
    try rw [wg10] at p146
    try rw [wg156] at p147
    try rw [w150] at p147
    try rw [wg157] at p147
    try rw [wg158] at p147
    try rw [wg159] at p147
    try rw [w151] at p147
    try rw [w152] at p147
    try rw [w153] at p147
    try rw [w154] at p147
    try rw [w155] at p147
    try rw [wg134] at p147
    try rw [wg135] at p147
    try rw [wg136] at p147
    try rw [wg137] at p147
    try rw [wg138] at p147
    try rw [wg139] at p147
    try rw [wg140] at p147
    try rw [wg141] at p147
    try rw [wg142] at p147
    try rw [wg143] at p147
    try rw [wg1] at p147
    try rw [wg2] at p147
    try rw [wg3] at p147
    try rw [wg4] at p147
    try rw [wg5] at p147
    try rw [wg6] at p147
    try rw [wg7] at p147
    try rw [wg8] at p147
    try rw [wg9] at p147
    try rw [wg10] at p147
    try rw [wg156] at p148
    try rw [w150] at p148
    try rw [wg157] at p148
    try rw [wg158] at p148
    try rw [wg159] at p148
    try rw [w151] at p148
    try rw [w152] at p148
    try rw [w153] at p148
    try rw [w154] at p148
    try rw [w155] at p148
    try rw [wg134] at p148
    try rw [wg135] at p148
    try rw [wg136] at p148
    try rw [wg137] at p148
    try rw [wg138] at p148
    try rw [wg139] at p148
    try rw [wg140] at p148
    try rw [wg141] at p148
    try rw [wg142] at p148
    try rw [wg143] at p148
    try rw [wg1] at p148
    try rw [wg2] at p148
    try rw [wg3] at p148
    try rw [wg4] at p148
    try rw [wg5] at p148
    try rw [wg6] at p148
    try rw [wg7] at p148
    try rw [wg8] at p148
    try rw [wg9] at p148
    try rw [wg10] at p148
    have ot160 := zOt_fr i10 (qm144.1 76 (by decide) rfl) (qm144.1 77 (by decide) rfl) (qm144.1 78 (by decide) rfl) (qm144.1 79 (by decide) rfl) (qm144.1 80 (by decide) rfl) (qm144.1 83 (by decide) rfl) (qm144.1 84 (by decide) rfl)
    have TE161 := zTE_fr (m' := m144) i3 (fun j a b => qm144.1 j (by omega) (zanyF (by simp <;> omega))) (qm144.2.1 8 rfl) (qm144.2.1 38 rfl)
    have BD162 := zBd_fr i4 (qm144.1 67 (by decide) rfl) (qm144.1 71 (by decide) rfl) (qm144.1 83 (by decide) rfl) (qm144.1 84 (by decide) rfl) (qm144.2.1 8 rfl)
    have ZP : zrm m144 < zrm m0 := (by unfold zrm; simp only [wg156, w150, wg157, wg158, wg159, w151, w152, w153, w154, w155, wg134, wg135, wg136, wg137, wg138, wg139, wg140, wg141, wg142, wg143, wg1, wg2, wg3, wg4, wg5, wg6, wg7, wg8, wg9, wg10]; (repeat' split) <;> omega)
    intro x163 hx163 kx163 lx163
    rw [w154] at hx163
    refine And.intro ⟨by omega, by omega⟩ ?_
    intro x164 hx164 kx164 lx164
    rw [show (x163 + v2) = 80 + v2 by omega] at hx164
    refine And.intro ⟨⟨by omega, by omega⟩, ⟨by omega, by omega⟩⟩ (And.intro (fun c165 => ?_) (fun c165 => ?_))
    · have NM : 0 ≤ m144.1 66 ((38 : Nat) : Int) := (by (try rw [wg156]) <;> (try rw [w150]) <;> (try rw [wg157]) <;> (try rw [wg158]) <;> (try rw [wg159]) <;> (try rw [w151]) <;> (try rw [w152]) <;> (try rw [w153]) <;> (try rw [w154]) <;> (try rw [w155]) <;> (try rw [wg134]) <;> (try rw [wg135]) <;> (try rw [wg136]) <;> (try rw [wg137]) <;> (try rw [wg138]) <;> (try rw [wg139]) <;> (try rw [wg140]) <;> (try rw [wg141]) <;> (try rw [wg142]) <;> (try rw [wg143]) <;> (try rw [wg1]) <;> (try rw [wg2]) <;> (try rw [wg3]) <;> (try rw [wg4]) <;> (try rw [wg5]) <;> (try rw [wg6]) <;> (try rw [wg7]) <;> (try rw [wg8]) <;> (try rw [wg9]) <;> (try rw [wg10]) <;> omega)
      refine ⟨zk_X9_readType, zm_X9_readType hg d (by omega), _, _, _, _, _, _, _, _, _, _, rfl, ⟨by omega, by omega⟩, ⟨by omega, by omega⟩, ⟨by omega, by omega⟩, (by (try rw [wg156]) <;> (try rw [w150]) <;> (try rw [wg157]) <;> (try rw [wg158]) <;> (try rw [wg159]) <;> (try rw [w151]) <;> (try rw [w152]) <;> (try rw [w153]) <;> (try rw [w154]) <;> (try rw [w155]) <;> (try rw [wg134]) <;> (try rw [wg135]) <;> (try rw [wg136]) <;> (try rw [wg137]) <;> (try rw [wg138]) <;> (try rw [wg139]) <;> (try rw [wg140]) <;> (try rw [wg141]) <;> (try rw [wg142]) <;> (try rw [wg143]) <;> (try rw [wg1]) <;> (try rw [wg2]) <;> (try rw [wg3]) <;> (try rw [wg4]) <;> (try rw [wg5]) <;> (try rw [wg6]) <;> (try rw [wg7]) <;> (try rw [wg8]) <;> (try rw [wg9]) <;> (try rw [wg10]) <;> omega), TE161.1.1, TE161.1.2.1, (by rw [show m144.1 66 ((26 : Nat) : Int) = v1 + 1 by (try rw [w155]); omega, show m144.1 66 ((24 : Nat) : Int) = 21 by (try rw [w153]); omega, show m144.1 76 = μ.1 76 from z149.1 76 (by decide) rfl, show m144.1 77 = μ.1 77 from z149.1 77 (by decide) rfl]; exact ⟨Int.le_refl _, fun _ => hp4.2.1, by omega, hp4.2.2⟩), (fun v a b => by rw [show m144.1 66 ((24 : Nat) : Int) = 21 by (try rw [w153]); omega, show m144.1 77 = μ.1 77 from z149.1 77 (by decide) rfl]; rfl), (by (try rw [w152]); (try rw [w151]); exact ⟨zTE_pre TE161 w152 w151 wg7 wg6 hp5.1, by omega, by omega⟩), (fun _ => by rw [show m144.1 66 ((24 : Nat) : Int) = 21 by (try rw [w153]); omega, show m144.1 76 = μ.1 76 from z149.1 76 (by decide) rfl, show m144.1 77 = μ.1 77 from z149.1 77 (by decide) rfl]; exact ⟨Int.le_refl (zXf μ v1), Int.le_refl (zXf μ v1 + zXn μ v1)⟩), ?_⟩
      intro x166 m167 qm167 kx166 lx166 p168 p169 p170 p171 p172 p173 p174
      have z175 := zfx_t z149 qm167 rfl rfl
      have w176 : m167.1 66 ((30 : Nat) : Int) = g135 := (qm167.2.1 30 rfl).trans w150
      have w177 : m167.1 66 ((24 : Nat) : Int) = g141 := (qm167.2.1 24 rfl).trans w153
      have w178 : m167.1 66 ((25 : Nat) : Int) = g142 := (qm167.2.1 25 rfl).trans w154
      have w179 : m167.1 66 ((26 : Nat) : Int) = g143 := (qm167.2.1 26 rfl).trans w155
      obtain ⟨g180, wg180⟩ : ∃ z : Int, m167.1 66 ((31 : Nat) : Int) = z := ⟨_, rfl⟩
      obtain ⟨g181, wg181⟩ : ∃ z : Int, m167.1 66 ((33 : Nat) : Int) = z := ⟨_, rfl⟩
      obtain ⟨g182, wg182⟩ : ∃ z : Int, m167.1 66 ((34 : Nat) : Int) = z := ⟨_, rfl⟩
      obtain ⟨g183, wg183⟩ : ∃ z : Int, m167.1 66 ((32 : Nat) : Int) = z := ⟨_, rfl⟩
      obtain ⟨g184, wg184⟩ : ∃ z : Int, m167.1 66 ((38 : Nat) : Int) = z := ⟨_, rfl⟩
      obtain ⟨g185, wg185⟩ : ∃ z : Int, m167.1 66 ((8 : Nat) : Int) = z := ⟨_, rfl⟩
      try rw [wg180] at p168
      try rw [w176] at p168
      try rw [wg181] at p168
      try rw [wg182] at p168
      try rw [wg183] at p168
      try rw [wg184] at p168
      try rw [wg185] at p168
      try rw [w177] at p168
      try rw [w178] at p168
      try rw [w179] at p168
      try rw [wg156] at p168
      try rw [w150] at p168
      try rw [wg157] at p168
      try rw [wg158] at p168
      try rw [wg159] at p168
      try rw [w151] at p168
      try rw [w152] at p168
      try rw [w153] at p168
      try rw [w154] at p168
      try rw [w155] at p168
      try rw [wg1] at p168
      try rw [wg2] at p168
      try rw [wg3] at p168
      try rw [wg4] at p168
      try rw [wg5] at p168
      try rw [wg6] at p168
      try rw [wg7] at p168
      try rw [wg8] at p168
      try rw [wg9] at p168
      try rw [wg10] at p168
      try rw [wg180] at p169
      try rw [w176] at p169
      try rw [wg181] at p169
      try rw [wg182] at p169
      try rw [wg183] at p169
      try rw [wg184] at p169
      try rw [wg185] at p169
      try rw [w177] at p169
      try rw [w178] at p169
      try rw [w179] at p169
      try rw [wg156] at p169
      try rw [w150] at p169
      try rw [wg157] at p169
      try rw [wg158] at p169
      try rw [wg159] at p169
      try rw [w151] at p169
      try rw [w152] at p169
      try rw [w153] at p169
      try rw [w154] at p169
      try rw [w155] at p169
      try rw [wg1] at p169
      try rw [wg2] at p169
      try rw [wg3] at p169
      try rw [wg4] at p169
      try rw [wg5] at p169
      try rw [wg6] at p169
      try rw [wg7] at p169
      try rw [wg8] at p169
      try rw [wg9] at p169
      try rw [wg10] at p169
      try rw [wg180] at p170
      try rw [w176] at p170
      try rw [wg181] at p170
      try rw [wg182] at p170
      try rw [wg183] at p170
      try rw [wg184] at p170
      try rw [wg185] at p170
      try rw [w177] at p170
      try rw [w178] at p170
      try rw [w179] at p170
      try rw [wg156] at p170
      try rw [w150] at p170
      try rw [wg157] at p170
      try rw [wg158] at p170
      try rw [wg159] at p170
      try rw [w151] at p170
      try rw [w152] at p170
      try rw [w153] at p170
      try rw [w154] at p170
      try rw [w155] at p170
      try rw [wg1] at p170
      try rw [wg2] at p170
      try rw [wg3] at p170
      try rw [wg4] at p170
      try rw [wg5] at p170
      try rw [wg6] at p170
      try rw [wg7] at p170
      try rw [wg8] at p170
      try rw [wg9] at p170
      try rw [wg10] at p170
      try rw [wg180] at p171
      try rw [w176] at p171
      try rw [wg181] at p171
      try rw [wg182] at p171
      try rw [wg183] at p171
      try rw [wg184] at p171
      try rw [wg185] at p171
      try rw [w177] at p171
      try rw [w178] at p171
      try rw [w179] at p171
      try rw [wg156] at p171
      try rw [w150] at p171
      try rw [wg157] at p171
      try rw [wg158] at p171
      try rw [wg159] at p171
      try rw [w151] at p171
      try rw [w152] at p171
      try rw [w153] at p171
      try rw [w154] at p171
      try rw [w155] at p171
      try rw [wg1] at p171
      try rw [wg2] at p171
      try rw [wg3] at p171
      try rw [wg4] at p171
      try rw [wg5] at p171
      try rw [wg6] at p171
      try rw [wg7] at p171
      try rw [wg8] at p171
      try rw [wg9] at p171
      try rw [wg10] at p171
      try rw [wg180] at p172
      try rw [w176] at p172
      try rw [wg181] at p172
      try rw [wg182] at p172
      try rw [wg183] at p172
      try rw [wg184] at p172
      try rw [wg185] at p172
      try rw [w177] at p172
      try rw [w178] at p172
      try rw [w179] at p172
      try rw [wg156] at p172
      try rw [w150] at p172
      try rw [wg157] at p172
      try rw [wg158] at p172
      try rw [wg159] at p172
      try rw [w151] at p172
      try rw [w152] at p172
      try rw [w153] at p172
      try rw [w154] at p172
      try rw [w155] at p172
      try rw [wg1] at p172
      try rw [wg2] at p172
      try rw [wg3] at p172
      try rw [wg4] at p172
      try rw [wg5] at p172
      try rw [wg6] at p172
      try rw [wg7] at p172
      try rw [wg8] at p172
      try rw [wg9] at p172
      try rw [wg10] at p172
      try rw [wg180] at p173
      try rw [w176] at p173
      try rw [wg181] at p173
      try rw [wg182] at p173
      try rw [wg183] at p173
      try rw [wg184] at p173
      try rw [wg185] at p173
      try rw [w177] at p173
      try rw [w178] at p173
      try rw [w179] at p173
      try rw [wg156] at p173
      try rw [w150] at p173
      try rw [wg157] at p173
      try rw [wg158] at p173
      try rw [wg159] at p173
      try rw [w151] at p173
      try rw [w152] at p173
      try rw [w153] at p173
      try rw [w154] at p173
      try rw [w155] at p173
      try rw [wg1] at p173
      try rw [wg2] at p173
      try rw [wg3] at p173
      try rw [wg4] at p173
      try rw [wg5] at p173
      try rw [wg6] at p173
      try rw [wg7] at p173
      try rw [wg8] at p173
      try rw [wg9] at p173
      try rw [wg10] at p173
      try rw [wg180] at p174
      try rw [w176] at p174
      try rw [wg181] at p174
      try rw [wg182] at p174
      try rw [wg183] at p174
      try rw [wg184] at p174
      try rw [wg185] at p174
      try rw [w177] at p174
      try rw [w178] at p174
      try rw [w179] at p174
      try rw [wg156] at p174
      try rw [w150] at p174
      try rw [wg157] at p174
      try rw [wg158] at p174
      try rw [wg159] at p174
      try rw [w151] at p174
      try rw [w152] at p174
      try rw [w153] at p174
      try rw [w154] at p174
      try rw [w155] at p174
      try rw [wg1] at p174
      try rw [wg2] at p174
      try rw [wg3] at p174
      try rw [wg4] at p174
      try rw [wg5] at p174
      try rw [wg6] at p174
      try rw [wg7] at p174
      try rw [wg8] at p174
      try rw [wg9] at p174
      try rw [wg10] at p174
      clear wg156 w150 wg157 wg158 wg159 w151 w152 w153 w154 w155
      have ot186 := zOt_fr ot160 (qm167.1 76 (by decide) rfl) (qm167.1 77 (by decide) rfl) (qm167.1 78 (by decide) rfl) (qm167.1 79 (by decide) rfl) (qm167.1 80 (by decide) rfl) (qm167.1 83 (by decide) rfl) (qm167.1 84 (by decide) rfl)
      have TE2 := zTE_t TE161 p170
      have BD2 := zBd_old BD162 TE161.1.1.1.1 p170.1.2.2.1 p170.1.2.2.2.1 (qm167.1 83 (by decide) rfl) (qm167.1 84 (by decide) rfl)
      refine And.intro ⟨by omega, by omega⟩ (And.intro (fun c187 => ?_) (fun c187 => ?_))
      · have ZN : zTn m144 m167 ≤ 300 := by unfold zTn; (try rw [wg180]) <;> (try rw [w176]) <;> (try rw [wg181]) <;> (try rw [wg182]) <;> (try rw [wg183]) <;> (try rw [wg184]) <;> (try rw [wg185]) <;> (try rw [w177]) <;> (try rw [w178]) <;> (try rw [w179]) <;> (try rw [wg134]) <;> (try rw [wg135]) <;> (try rw [wg136]) <;> (try rw [wg137]) <;> (try rw [wg138]) <;> (try rw [wg139]) <;> (try rw [wg140]) <;> (try rw [wg141]) <;> (try rw [wg142]) <;> (try rw [wg143]) <;> (try rw [wg1]) <;> (try rw [wg2]) <;> (try rw [wg3]) <;> (try rw [wg4]) <;> (try rw [wg5]) <;> (try rw [wg6]) <;> (try rw [wg7]) <;> (try rw [wg8]) <;> (try rw [wg9]) <;> (try rw [wg10]) <;> omega
        have TX : zTx m167 lo x166 := by rcases p173 with c | c; (exfalso; omega); exact ⟨⟨c.1, c.2.1⟩, by have := c.2.2.2.2.2.2; omega, c.2.2.2.1 (by omega)⟩
        have ZQ : zrm m167 ≤ zrm m144 := by rcases p172 with c | c; (exfalso; omega); exact c
        intro x188 hx188 kx188 lx188
        rw [w178] at hx188
        intro x189 hx189 kx189 lx189
        rw [w178] at hx189
        refine And.intro ⟨by omega, by omega⟩ ?_
        intro x190 hx190 kx190 lx190
        rw [qm167.1 84 (by decide) rfl, show (x189 + v2) = 80 + v2 by omega] at hx190
        refine And.intro ⟨by omega, by omega⟩ (And.intro ⟨by omega, by omega⟩ ?_)
        intro m191 em191
        have z192 := zfx_r z175 em191 rfl (by decide)
        have w193 : m191.1 66 ((31 : Nat) : Int) = g180 := by rw [em191]; exact (congrFun (zu_ne (by decide)) _).trans wg180
        have w194 : m191.1 66 ((30 : Nat) : Int) = g135 := by rw [em191]; exact (congrFun (zu_ne (by decide)) _).trans w176
        have w195 : m191.1 66 ((33 : Nat) : Int) = g181 := by rw [em191]; exact (congrFun (zu_ne (by decide)) _).trans wg181
        have w196 : m191.1 66 ((34 : Nat) : Int) = g182 := by rw [em191]; exact (congrFun (zu_ne (by decide)) _).trans wg182
        have w197 : m191.1 66 ((32 : Nat) : Int) = g183 := by rw [em191]; exact (congrFun (zu_ne (by decide)) _).trans wg183
        have w198 : m191.1 66 ((38 : Nat) : Int) = g184 := by rw [em191]; exact (congrFun (zu_ne (by decide)) _).trans wg184
        have w199 : m191.1 66 ((8 : Nat) : Int) = g185 := by rw [em191]; exact (congrFun (zu_ne (by decide)) _).trans wg185
        have w200 : m191.1 66 ((24 : Nat) : Int) = g141 := by rw [em191]; exact (congrFun (zu_ne (by decide)) _).trans w177
        have w201 : m191.1 66 ((25 : Nat) : Int) = g142 := by rw [em191]; exact (congrFun (zu_ne (by decide)) _).trans w178
        have w202 : m191.1 66 ((26 : Nat) : Int) = g143 := by rw [em191]; exact (congrFun (zu_ne (by decide)) _).trans w179
        clear wg180 w176 wg181 wg182 wg183 wg184 wg185 w177 w178 w179
        have ot203 := zOt_w ot186 em191 (by have hk : (160 : Int) ≤ ((2 * (x188 + v2)) + x190) := (by omega); refine ⟨fun h => ?_, fun h => ?_, fun h => ?_, fun h => ?_, fun h => ?_⟩ <;> first | exact hk | (exfalso; revert h; decide))
        intro x204 hx204 kx204 lx204
        rw [w201] at hx204
        refine And.intro ⟨by omega, by omega⟩ ?_
        intro x205 hx205 kx205 lx205
        rw [em191, zu_ne (by decide), qm167.1 84 (by decide) rfl, show (x204 + v2) = 80 + v2 by omega] at hx205
        refine And.intro ⟨by omega, by omega⟩ (And.intro ⟨by omega, by omega⟩ ?_)
        intro m206 em206
        have z207 := zfx_r z192 em206 rfl (by decide)
        have w208 : m206.1 66 ((31 : Nat) : Int) = g180 := by rw [em206]; exact (congrFun (zu_ne (by decide)) _).trans w193
        have w209 : m206.1 66 ((30 : Nat) : Int) = g135 := by rw [em206]; exact (congrFun (zu_ne (by decide)) _).trans w194
        have w210 : m206.1 66 ((33 : Nat) : Int) = g181 := by rw [em206]; exact (congrFun (zu_ne (by decide)) _).trans w195
        have w211 : m206.1 66 ((34 : Nat) : Int) = g182 := by rw [em206]; exact (congrFun (zu_ne (by decide)) _).trans w196
        have w212 : m206.1 66 ((32 : Nat) : Int) = g183 := by rw [em206]; exact (congrFun (zu_ne (by decide)) _).trans w197
        have w213 : m206.1 66 ((38 : Nat) : Int) = g184 := by rw [em206]; exact (congrFun (zu_ne (by decide)) _).trans w198
        have w214 : m206.1 66 ((8 : Nat) : Int) = g185 := by rw [em206]; exact (congrFun (zu_ne (by decide)) _).trans w199
        have w215 : m206.1 66 ((24 : Nat) : Int) = g141 := by rw [em206]; exact (congrFun (zu_ne (by decide)) _).trans w200
        have w216 : m206.1 66 ((25 : Nat) : Int) = g142 := by rw [em206]; exact (congrFun (zu_ne (by decide)) _).trans w201
        have w217 : m206.1 66 ((26 : Nat) : Int) = g143 := by rw [em206]; exact (congrFun (zu_ne (by decide)) _).trans w202
        clear w193 w194 w195 w196 w197 w198 w199 w200 w201 w202
        have ot218 := zOt_w ot203 em206 (by have hk : (80 : Int) ≤ (x204 + v2) := (by omega); refine ⟨fun h => ?_, fun h => ?_, fun h => ?_, fun h => ?_, fun h => ?_⟩ <;> first | exact hk | (exfalso; revert h; decide))
        have Y84 : m167.1 84 (80 + v2) = x190 := by rw [qm167.1 84 (by decide) rfl]; omega
        have BD3 := zBd_w (p := v2) BD2 ⟨by omega, by omega⟩ em191 (by omega) (by omega) (by omega) TX em206 (by omega) (by omega)
        have TE3 := zTE_fr (m' := m206) TE2 (fun j a b => by rw [em206, zu_ne (by omega), em191, zu_ne (by omega)]) (by rw [em206, zu_ne (by decide), em191, zu_ne (by decide)]) (by rw [em206, zu_ne (by decide), em191, zu_ne (by decide)])
        have ZR : zrm m206 ≤ zrm m167 := zrm_e (fun j => by rw [em206, zu_ne (by decide), em191, zu_ne (by decide)])
        have ZL : zrm m206 < zrm m0 := Int.lt_of_le_of_lt ZR (Int.lt_of_le_of_lt ZQ ZP)
        intro x219 hx219 kx219 lx219
        rw [w212] at hx219
        refine And.intro ⟨⟨by omega, by omega⟩, ⟨by omega, by omega⟩⟩ (And.intro (fun c220 => ?_) (fun c220 => ?_))
        · refine Exists.intro (Int.toNat (zrm m206)) (And.intro (zrN ZL (zrm_0 (by (try rw [w208]) <;> (try rw [w209]) <;> (try rw [w210]) <;> (try rw [w211]) <;> (try rw [w212]) <;> (try rw [w213]) <;> (try rw [w214]) <;> (try rw [w215]) <;> (try rw [w216]) <;> (try rw [w217]) <;> (try rw [wg134]) <;> (try rw [wg135]) <;> (try rw [wg136]) <;> (try rw [wg137]) <;> (try rw [wg138]) <;> (try rw [wg139]) <;> (try rw [wg140]) <;> (try rw [wg141]) <;> (try rw [wg142]) <;> (try rw [wg143]) <;> (try rw [wg1]) <;> (try rw [wg2]) <;> (try rw [wg3]) <;> (try rw [wg4]) <;> (try rw [wg5]) <;> (try rw [wg6]) <;> (try rw [wg7]) <;> (try rw [wg8]) <;> (try rw [wg9]) <;> (try rw [wg10]) <;> omega))) ?_)
          exact ⟨(fun h => absurd h (by decide)), (fun _ => ⟨_, _, rfl, z207, ⟨by omega, by omega⟩, ⟨by omega, by omega⟩, (by (try rw [w208]) <;> (try rw [w209]) <;> (try rw [w210]) <;> (try rw [w211]) <;> (try rw [w212]) <;> (try rw [w213]) <;> (try rw [w214]) <;> (try rw [w215]) <;> (try rw [w216]) <;> (try rw [w217]) <;> (try rw [wg134]) <;> (try rw [wg135]) <;> (try rw [wg136]) <;> (try rw [wg137]) <;> (try rw [wg138]) <;> (try rw [wg139]) <;> (try rw [wg140]) <;> (try rw [wg141]) <;> (try rw [wg142]) <;> (try rw [wg143]) <;> (try rw [wg1]) <;> (try rw [wg2]) <;> (try rw [wg3]) <;> (try rw [wg4]) <;> (try rw [wg5]) <;> (try rw [wg6]) <;> (try rw [wg7]) <;> (try rw [wg8]) <;> (try rw [wg9]) <;> (try rw [wg10]) <;> omega), (by (try rw [w208]) <;> (try rw [w209]) <;> (try rw [w210]) <;> (try rw [w211]) <;> (try rw [w212]) <;> (try rw [w213]) <;> (try rw [w214]) <;> (try rw [w215]) <;> (try rw [w216]) <;> (try rw [w217]) <;> (try rw [wg134]) <;> (try rw [wg135]) <;> (try rw [wg136]) <;> (try rw [wg137]) <;> (try rw [wg138]) <;> (try rw [wg139]) <;> (try rw [wg140]) <;> (try rw [wg141]) <;> (try rw [wg142]) <;> (try rw [wg143]) <;> (try rw [wg1]) <;> (try rw [wg2]) <;> (try rw [wg3]) <;> (try rw [wg4]) <;> (try rw [wg5]) <;> (try rw [wg6]) <;> (try rw [wg7]) <;> (try rw [wg8]) <;> (try rw [wg9]) <;> (try rw [wg10]) <;> omega), rfl, TE3, BD3, (by (try rw [w208]) <;> (try rw [w209]) <;> (try rw [w210]) <;> (try rw [w211]) <;> (try rw [w212]) <;> (try rw [w213]) <;> (try rw [w214]) <;> (try rw [w215]) <;> (try rw [w216]) <;> (try rw [w217]) <;> (try rw [wg134]) <;> (try rw [wg135]) <;> (try rw [wg136]) <;> (try rw [wg137]) <;> (try rw [wg138]) <;> (try rw [wg139]) <;> (try rw [wg140]) <;> (try rw [wg141]) <;> (try rw [wg142]) <;> (try rw [wg143]) <;> (try rw [wg1]) <;> (try rw [wg2]) <;> (try rw [wg3]) <;> (try rw [wg4]) <;> (try rw [wg5]) <;> (try rw [wg6]) <;> (try rw [wg7]) <;> (try rw [wg8]) <;> (try rw [wg9]) <;> (try rw [wg10]) <;> omega), (Or.inr (by (try rw [w208]) <;> (try rw [w209]) <;> (try rw [w210]) <;> (try rw [w211]) <;> (try rw [w212]) <;> (try rw [w213]) <;> (try rw [w214]) <;> (try rw [w215]) <;> (try rw [w216]) <;> (try rw [w217]) <;> (try rw [wg134]) <;> (try rw [wg135]) <;> (try rw [wg136]) <;> (try rw [wg137]) <;> (try rw [wg138]) <;> (try rw [wg139]) <;> (try rw [wg140]) <;> (try rw [wg141]) <;> (try rw [wg142]) <;> (try rw [wg143]) <;> (try rw [wg1]) <;> (try rw [wg2]) <;> (try rw [wg3]) <;> (try rw [wg4]) <;> (try rw [wg5]) <;> (try rw [wg6]) <;> (try rw [wg7]) <;> (try rw [wg8]) <;> (try rw [wg9]) <;> (try rw [wg10]) <;> omega)), (Int.lt_trans ZL i7), (by (try rw [w208]) <;> (try rw [w209]) <;> (try rw [w210]) <;> (try rw [w211]) <;> (try rw [w212]) <;> (try rw [w213]) <;> (try rw [w214]) <;> (try rw [w215]) <;> (try rw [w216]) <;> (try rw [w217]) <;> (try rw [wg134]) <;> (try rw [wg135]) <;> (try rw [wg136]) <;> (try rw [wg137]) <;> (try rw [wg138]) <;> (try rw [wg139]) <;> (try rw [wg140]) <;> (try rw [wg141]) <;> (try rw [wg142]) <;> (try rw [wg143]) <;> (try rw [wg1]) <;> (try rw [wg2]) <;> (try rw [wg3]) <;> (try rw [wg4]) <;> (try rw [wg5]) <;> (try rw [wg6]) <;> (try rw [wg7]) <;> (try rw [wg8]) <;> (try rw [wg9]) <;> (try rw [wg10]) <;> omega), i9, ot218, rfl⟩)⟩
        · intro x221 hx221 kx221 lx221
          rw [w212] at hx221
          refine And.intro ⟨⟨by omega, by omega⟩, ⟨by omega, by omega⟩⟩ (And.intro (fun c222 => ?_) (fun c222 => ?_))
          · refine Exists.intro (Int.toNat (zrm m206)) (And.intro (zrN ZL (zrm_0 (by (try rw [w208]) <;> (try rw [w209]) <;> (try rw [w210]) <;> (try rw [w211]) <;> (try rw [w212]) <;> (try rw [w213]) <;> (try rw [w214]) <;> (try rw [w215]) <;> (try rw [w216]) <;> (try rw [w217]) <;> (try rw [wg134]) <;> (try rw [wg135]) <;> (try rw [wg136]) <;> (try rw [wg137]) <;> (try rw [wg138]) <;> (try rw [wg139]) <;> (try rw [wg140]) <;> (try rw [wg141]) <;> (try rw [wg142]) <;> (try rw [wg143]) <;> (try rw [wg1]) <;> (try rw [wg2]) <;> (try rw [wg3]) <;> (try rw [wg4]) <;> (try rw [wg5]) <;> (try rw [wg6]) <;> (try rw [wg7]) <;> (try rw [wg8]) <;> (try rw [wg9]) <;> (try rw [wg10]) <;> omega))) ?_)
            exact ⟨(fun _ => ⟨_, rfl, z207, ⟨by omega, by omega⟩, (by (try rw [w208]) <;> (try rw [w209]) <;> (try rw [w210]) <;> (try rw [w211]) <;> (try rw [w212]) <;> (try rw [w213]) <;> (try rw [w214]) <;> (try rw [w215]) <;> (try rw [w216]) <;> (try rw [w217]) <;> (try rw [wg134]) <;> (try rw [wg135]) <;> (try rw [wg136]) <;> (try rw [wg137]) <;> (try rw [wg138]) <;> (try rw [wg139]) <;> (try rw [wg140]) <;> (try rw [wg141]) <;> (try rw [wg142]) <;> (try rw [wg143]) <;> (try rw [wg1]) <;> (try rw [wg2]) <;> (try rw [wg3]) <;> (try rw [wg4]) <;> (try rw [wg5]) <;> (try rw [wg6]) <;> (try rw [wg7]) <;> (try rw [wg8]) <;> (try rw [wg9]) <;> (try rw [wg10]) <;> omega), (by (try rw [w208]) <;> (try rw [w209]) <;> (try rw [w210]) <;> (try rw [w211]) <;> (try rw [w212]) <;> (try rw [w213]) <;> (try rw [w214]) <;> (try rw [w215]) <;> (try rw [w216]) <;> (try rw [w217]) <;> (try rw [wg134]) <;> (try rw [wg135]) <;> (try rw [wg136]) <;> (try rw [wg137]) <;> (try rw [wg138]) <;> (try rw [wg139]) <;> (try rw [wg140]) <;> (try rw [wg141]) <;> (try rw [wg142]) <;> (try rw [wg143]) <;> (try rw [wg1]) <;> (try rw [wg2]) <;> (try rw [wg3]) <;> (try rw [wg4]) <;> (try rw [wg5]) <;> (try rw [wg6]) <;> (try rw [wg7]) <;> (try rw [wg8]) <;> (try rw [wg9]) <;> (try rw [wg10]) <;> omega), rfl, TE3, BD3, (by (try rw [w208]) <;> (try rw [w209]) <;> (try rw [w210]) <;> (try rw [w211]) <;> (try rw [w212]) <;> (try rw [w213]) <;> (try rw [w214]) <;> (try rw [w215]) <;> (try rw [w216]) <;> (try rw [w217]) <;> (try rw [wg134]) <;> (try rw [wg135]) <;> (try rw [wg136]) <;> (try rw [wg137]) <;> (try rw [wg138]) <;> (try rw [wg139]) <;> (try rw [wg140]) <;> (try rw [wg141]) <;> (try rw [wg142]) <;> (try rw [wg143]) <;> (try rw [wg1]) <;> (try rw [wg2]) <;> (try rw [wg3]) <;> (try rw [wg4]) <;> (try rw [wg5]) <;> (try rw [wg6]) <;> (try rw [wg7]) <;> (try rw [wg8]) <;> (try rw [wg9]) <;> (try rw [wg10]) <;> omega), (Or.inr (by (try rw [w208]) <;> (try rw [w209]) <;> (try rw [w210]) <;> (try rw [w211]) <;> (try rw [w212]) <;> (try rw [w213]) <;> (try rw [w214]) <;> (try rw [w215]) <;> (try rw [w216]) <;> (try rw [w217]) <;> (try rw [wg134]) <;> (try rw [wg135]) <;> (try rw [wg136]) <;> (try rw [wg137]) <;> (try rw [wg138]) <;> (try rw [wg139]) <;> (try rw [wg140]) <;> (try rw [wg141]) <;> (try rw [wg142]) <;> (try rw [wg143]) <;> (try rw [wg1]) <;> (try rw [wg2]) <;> (try rw [wg3]) <;> (try rw [wg4]) <;> (try rw [wg5]) <;> (try rw [wg6]) <;> (try rw [wg7]) <;> (try rw [wg8]) <;> (try rw [wg9]) <;> (try rw [wg10]) <;> omega)), (Int.le_of_lt (Int.lt_trans ZL i7)), (by (try rw [w208]) <;> (try rw [w209]) <;> (try rw [w210]) <;> (try rw [w211]) <;> (try rw [w212]) <;> (try rw [w213]) <;> (try rw [w214]) <;> (try rw [w215]) <;> (try rw [w216]) <;> (try rw [w217]) <;> (try rw [wg134]) <;> (try rw [wg135]) <;> (try rw [wg136]) <;> (try rw [wg137]) <;> (try rw [wg138]) <;> (try rw [wg139]) <;> (try rw [wg140]) <;> (try rw [wg141]) <;> (try rw [wg142]) <;> (try rw [wg143]) <;> (try rw [wg1]) <;> (try rw [wg2]) <;> (try rw [wg3]) <;> (try rw [wg4]) <;> (try rw [wg5]) <;> (try rw [wg6]) <;> (try rw [wg7]) <;> (try rw [wg8]) <;> (try rw [wg9]) <;> (try rw [wg10]) <;> omega), ot218, rfl⟩), (fun h => absurd h (by decide))⟩
          · exact And.intro (zrtb (by omega)) (And.intro ⟨by omega, by omega⟩ (hQ _ _ z207 (by omega) (by omega) (by (try rw [w208]) <;> (try rw [w209]) <;> (try rw [w210]) <;> (try rw [w211]) <;> (try rw [w212]) <;> (try rw [w213]) <;> (try rw [w214]) <;> (try rw [w215]) <;> (try rw [w216]) <;> (try rw [w217]) <;> (try rw [wg134]) <;> (try rw [wg135]) <;> (try rw [wg136]) <;> (try rw [wg137]) <;> (try rw [wg138]) <;> (try rw [wg139]) <;> (try rw [wg140]) <;> (try rw [wg141]) <;> (try rw [wg142]) <;> (try rw [wg143]) <;> (try rw [wg1]) <;> (try rw [wg2]) <;> (try rw [wg3]) <;> (try rw [wg4]) <;> (try rw [wg5]) <;> (try rw [wg6]) <;> (try rw [wg7]) <;> (try rw [wg8]) <;> (try rw [wg9]) <;> (try rw [wg10]) <;> omega) (by (try rw [w208]) <;> (try rw [w209]) <;> (try rw [w210]) <;> (try rw [w211]) <;> (try rw [w212]) <;> (try rw [w213]) <;> (try rw [w214]) <;> (try rw [w215]) <;> (try rw [w216]) <;> (try rw [w217]) <;> (try rw [wg134]) <;> (try rw [wg135]) <;> (try rw [wg136]) <;> (try rw [wg137]) <;> (try rw [wg138]) <;> (try rw [wg139]) <;> (try rw [wg140]) <;> (try rw [wg141]) <;> (try rw [wg142]) <;> (try rw [wg143]) <;> (try rw [wg1]) <;> (try rw [wg2]) <;> (try rw [wg3]) <;> (try rw [wg4]) <;> (try rw [wg5]) <;> (try rw [wg6]) <;> (try rw [wg7]) <;> (try rw [wg8]) <;> (try rw [wg9]) <;> (try rw [wg10]) <;> omega) TE3 (by (try rw [w208]) <;> (try rw [w209]) <;> (try rw [w210]) <;> (try rw [w211]) <;> (try rw [w212]) <;> (try rw [w213]) <;> (try rw [w214]) <;> (try rw [w215]) <;> (try rw [w216]) <;> (try rw [w217]) <;> (try rw [wg134]) <;> (try rw [wg135]) <;> (try rw [wg136]) <;> (try rw [wg137]) <;> (try rw [wg138]) <;> (try rw [wg139]) <;> (try rw [wg140]) <;> (try rw [wg141]) <;> (try rw [wg142]) <;> (try rw [wg143]) <;> (try rw [wg1]) <;> (try rw [wg2]) <;> (try rw [wg3]) <;> (try rw [wg4]) <;> (try rw [wg5]) <;> (try rw [wg6]) <;> (try rw [wg7]) <;> (try rw [wg8]) <;> (try rw [wg9]) <;> (try rw [wg10]) <;> omega) (fun h => BD3) (fun h => Int.lt_trans ZL i7) ot218))
      · exact And.intro (zrtb (by omega)) (And.intro ⟨by omega, by omega⟩ (hQ _ _ z175 (by omega) (by omega) (by (try rw [wg180]) <;> (try rw [w176]) <;> (try rw [wg181]) <;> (try rw [wg182]) <;> (try rw [wg183]) <;> (try rw [wg184]) <;> (try rw [wg185]) <;> (try rw [w177]) <;> (try rw [w178]) <;> (try rw [w179]) <;> (try rw [wg134]) <;> (try rw [wg135]) <;> (try rw [wg136]) <;> (try rw [wg137]) <;> (try rw [wg138]) <;> (try rw [wg139]) <;> (try rw [wg140]) <;> (try rw [wg141]) <;> (try rw [wg142]) <;> (try rw [wg143]) <;> (try rw [wg1]) <;> (try rw [wg2]) <;> (try rw [wg3]) <;> (try rw [wg4]) <;> (try rw [wg5]) <;> (try rw [wg6]) <;> (try rw [wg7]) <;> (try rw [wg8]) <;> (try rw [wg9]) <;> (try rw [wg10]) <;> omega) (by (try rw [wg180]) <;> (try rw [w176]) <;> (try rw [wg181]) <;> (try rw [wg182]) <;> (try rw [wg183]) <;> (try rw [wg184]) <;> (try rw [wg185]) <;> (try rw [w177]) <;> (try rw [w178]) <;> (try rw [w179]) <;> (try rw [wg134]) <;> (try rw [wg135]) <;> (try rw [wg136]) <;> (try rw [wg137]) <;> (try rw [wg138]) <;> (try rw [wg139]) <;> (try rw [wg140]) <;> (try rw [wg141]) <;> (try rw [wg142]) <;> (try rw [wg143]) <;> (try rw [wg1]) <;> (try rw [wg2]) <;> (try rw [wg3]) <;> (try rw [wg4]) <;> (try rw [wg5]) <;> (try rw [wg6]) <;> (try rw [wg7]) <;> (try rw [wg8]) <;> (try rw [wg9]) <;> (try rw [wg10]) <;> omega) TE2 (by (try rw [wg180]) <;> (try rw [w176]) <;> (try rw [wg181]) <;> (try rw [wg182]) <;> (try rw [wg183]) <;> (try rw [wg184]) <;> (try rw [wg185]) <;> (try rw [w177]) <;> (try rw [w178]) <;> (try rw [w179]) <;> (try rw [wg134]) <;> (try rw [wg135]) <;> (try rw [wg136]) <;> (try rw [wg137]) <;> (try rw [wg138]) <;> (try rw [wg139]) <;> (try rw [wg140]) <;> (try rw [wg141]) <;> (try rw [wg142]) <;> (try rw [wg143]) <;> (try rw [wg1]) <;> (try rw [wg2]) <;> (try rw [wg3]) <;> (try rw [wg4]) <;> (try rw [wg5]) <;> (try rw [wg6]) <;> (try rw [wg7]) <;> (try rw [wg8]) <;> (try rw [wg9]) <;> (try rw [wg10]) <;> omega) (fun h => by exfalso; omega) (fun h => by exfalso; omega) ot186))
    · have NM : 0 ≤ m144.1 66 ((38 : Nat) : Int) := (by (try rw [wg156]) <;> (try rw [w150]) <;> (try rw [wg157]) <;> (try rw [wg158]) <;> (try rw [wg159]) <;> (try rw [w151]) <;> (try rw [w152]) <;> (try rw [w153]) <;> (try rw [w154]) <;> (try rw [w155]) <;> (try rw [wg134]) <;> (try rw [wg135]) <;> (try rw [wg136]) <;> (try rw [wg137]) <;> (try rw [wg138]) <;> (try rw [wg139]) <;> (try rw [wg140]) <;> (try rw [wg141]) <;> (try rw [wg142]) <;> (try rw [wg143]) <;> (try rw [wg1]) <;> (try rw [wg2]) <;> (try rw [wg3]) <;> (try rw [wg4]) <;> (try rw [wg5]) <;> (try rw [wg6]) <;> (try rw [wg7]) <;> (try rw [wg8]) <;> (try rw [wg9]) <;> (try rw [wg10]) <;> omega)
      refine ⟨zk_X9_readType, zm_X9_readType hg d (by omega), _, _, _, _, _, _, _, _, _, _, rfl, ⟨by omega, by omega⟩, ⟨by omega, by omega⟩, ⟨by omega, by omega⟩, (by (try rw [wg156]) <;> (try rw [w150]) <;> (try rw [wg157]) <;> (try rw [wg158]) <;> (try rw [wg159]) <;> (try rw [w151]) <;> (try rw [w152]) <;> (try rw [w153]) <;> (try rw [w154]) <;> (try rw [w155]) <;> (try rw [wg134]) <;> (try rw [wg135]) <;> (try rw [wg136]) <;> (try rw [wg137]) <;> (try rw [wg138]) <;> (try rw [wg139]) <;> (try rw [wg140]) <;> (try rw [wg141]) <;> (try rw [wg142]) <;> (try rw [wg143]) <;> (try rw [wg1]) <;> (try rw [wg2]) <;> (try rw [wg3]) <;> (try rw [wg4]) <;> (try rw [wg5]) <;> (try rw [wg6]) <;> (try rw [wg7]) <;> (try rw [wg8]) <;> (try rw [wg9]) <;> (try rw [wg10]) <;> omega), TE161.1.1, TE161.1.2.1, (by rw [show m144.1 66 ((26 : Nat) : Int) = v1 + 1 by (try rw [w155]); omega, show m144.1 66 ((24 : Nat) : Int) = 21 by (try rw [w153]); omega, show m144.1 76 = μ.1 76 from z149.1 76 (by decide) rfl, show m144.1 77 = μ.1 77 from z149.1 77 (by decide) rfl]; exact ⟨Int.le_refl _, fun _ => hp4.2.1, by omega, hp4.2.2⟩), (fun v a b => by rw [show m144.1 66 ((24 : Nat) : Int) = 21 by (try rw [w153]); omega, show m144.1 77 = μ.1 77 from z149.1 77 (by decide) rfl]; rfl), (by (try rw [w152]); (try rw [w151]); exact ⟨zTE_pre TE161 w152 w151 wg7 wg6 hp5.1, by omega, by omega⟩), (fun _ => by rw [show m144.1 66 ((24 : Nat) : Int) = 21 by (try rw [w153]); omega, show m144.1 76 = μ.1 76 from z149.1 76 (by decide) rfl, show m144.1 77 = μ.1 77 from z149.1 77 (by decide) rfl]; exact ⟨Int.le_refl (zXf μ v1), Int.le_refl (zXf μ v1 + zXn μ v1)⟩), ?_⟩
      intro x223 m224 qm224 kx223 lx223 p225 p226 p227 p228 p229 p230 p231
      have z232 := zfx_t z149 qm224 rfl rfl
      have w233 : m224.1 66 ((30 : Nat) : Int) = g135 := (qm224.2.1 30 rfl).trans w150
      have w234 : m224.1 66 ((24 : Nat) : Int) = g141 := (qm224.2.1 24 rfl).trans w153
      have w235 : m224.1 66 ((25 : Nat) : Int) = g142 := (qm224.2.1 25 rfl).trans w154
      have w236 : m224.1 66 ((26 : Nat) : Int) = g143 := (qm224.2.1 26 rfl).trans w155
      obtain ⟨g237, wg237⟩ : ∃ z : Int, m224.1 66 ((31 : Nat) : Int) = z := ⟨_, rfl⟩
      obtain ⟨g238, wg238⟩ : ∃ z : Int, m224.1 66 ((33 : Nat) : Int) = z := ⟨_, rfl⟩
      obtain ⟨g239, wg239⟩ : ∃ z : Int, m224.1 66 ((34 : Nat) : Int) = z := ⟨_, rfl⟩
      obtain ⟨g240, wg240⟩ : ∃ z : Int, m224.1 66 ((32 : Nat) : Int) = z := ⟨_, rfl⟩
      obtain ⟨g241, wg241⟩ : ∃ z : Int, m224.1 66 ((38 : Nat) : Int) = z := ⟨_, rfl⟩
      obtain ⟨g242, wg242⟩ : ∃ z : Int, m224.1 66 ((8 : Nat) : Int) = z := ⟨_, rfl⟩
      try rw [wg237] at p225
      try rw [w233] at p225
      try rw [wg238] at p225
      try rw [wg239] at p225
      try rw [wg240] at p225
      try rw [wg241] at p225
      try rw [wg242] at p225
      try rw [w234] at p225
      try rw [w235] at p225
      try rw [w236] at p225
      try rw [wg156] at p225
      try rw [w150] at p225
      try rw [wg157] at p225
      try rw [wg158] at p225
      try rw [wg159] at p225
      try rw [w151] at p225
      try rw [w152] at p225
      try rw [w153] at p225
      try rw [w154] at p225
      try rw [w155] at p225
      try rw [wg1] at p225
      try rw [wg2] at p225
      try rw [wg3] at p225
      try rw [wg4] at p225
      try rw [wg5] at p225
      try rw [wg6] at p225
      try rw [wg7] at p225
      try rw [wg8] at p225
      try rw [wg9] at p225
      try rw [wg10] at p225
      try rw [wg237] at p226
      try rw [w233] at p226
      try rw [wg238] at p226
      try rw [wg239] at p226
      try rw [wg240] at p226
      try rw [wg241] at p226
      try rw [wg242] at p226
      try rw [w234] at p226
      try rw [w235] at p226
      try rw [w236] at p226
      try rw [wg156] at p226
      try rw [w150] at p226
      try rw [wg157] at p226
      try rw [wg158] at p226
      try rw [wg159] at p226
      try rw [w151] at p226
      try rw [w152] at p226
      try rw [w153] at p226
      try rw [w154] at p226
      try rw [w155] at p226
      try rw [wg1] at p226
      try rw [wg2] at p226
      try rw [wg3] at p226
      try rw [wg4] at p226
      try rw [wg5] at p226
      try rw [wg6] at p226
      try rw [wg7] at p226
      try rw [wg8] at p226
      try rw [wg9] at p226
      try rw [wg10] at p226
      try rw [wg237] at p227
      try rw [w233] at p227
      try rw [wg238] at p227
      try rw [wg239] at p227
      try rw [wg240] at p227
      try rw [wg241] at p227
      try rw [wg242] at p227
      try rw [w234] at p227
      try rw [w235] at p227
      try rw [w236] at p227
      try rw [wg156] at p227
      try rw [w150] at p227
      try rw [wg157] at p227
      try rw [wg158] at p227
      try rw [wg159] at p227
      try rw [w151] at p227
      try rw [w152] at p227
      try rw [w153] at p227
      try rw [w154] at p227
      try rw [w155] at p227
      try rw [wg1] at p227
      try rw [wg2] at p227
      try rw [wg3] at p227
      try rw [wg4] at p227
      try rw [wg5] at p227
      try rw [wg6] at p227
      try rw [wg7] at p227
      try rw [wg8] at p227
      try rw [wg9] at p227
      try rw [wg10] at p227
      try rw [wg237] at p228
      try rw [w233] at p228
      try rw [wg238] at p228
      try rw [wg239] at p228
      try rw [wg240] at p228
      try rw [wg241] at p228
      try rw [wg242] at p228
      try rw [w234] at p228
      try rw [w235] at p228
      try rw [w236] at p228
      try rw [wg156] at p228
      try rw [w150] at p228
      try rw [wg157] at p228
      try rw [wg158] at p228
      try rw [wg159] at p228
      try rw [w151] at p228
      try rw [w152] at p228
      try rw [w153] at p228
      try rw [w154] at p228
      try rw [w155] at p228
      try rw [wg1] at p228
      try rw [wg2] at p228
      try rw [wg3] at p228
      try rw [wg4] at p228
      try rw [wg5] at p228
      try rw [wg6] at p228
      try rw [wg7] at p228
      try rw [wg8] at p228
      try rw [wg9] at p228
      try rw [wg10] at p228
      try rw [wg237] at p229
      try rw [w233] at p229
      try rw [wg238] at p229
      try rw [wg239] at p229
      try rw [wg240] at p229
      try rw [wg241] at p229
      try rw [wg242] at p229
      try rw [w234] at p229
      try rw [w235] at p229
      try rw [w236] at p229
      try rw [wg156] at p229
      try rw [w150] at p229
      try rw [wg157] at p229
      try rw [wg158] at p229
      try rw [wg159] at p229
      try rw [w151] at p229
      try rw [w152] at p229
      try rw [w153] at p229
      try rw [w154] at p229
      try rw [w155] at p229
      try rw [wg1] at p229
      try rw [wg2] at p229
      try rw [wg3] at p229
      try rw [wg4] at p229
      try rw [wg5] at p229
      try rw [wg6] at p229
      try rw [wg7] at p229
      try rw [wg8] at p229
      try rw [wg9] at p229
      try rw [wg10] at p229
      try rw [wg237] at p230
      try rw [w233] at p230
      try rw [wg238] at p230
      try rw [wg239] at p230
      try rw [wg240] at p230
      try rw [wg241] at p230
      try rw [wg242] at p230
      try rw [w234] at p230
      try rw [w235] at p230
      try rw [w236] at p230
      try rw [wg156] at p230
      try rw [w150] at p230
      try rw [wg157] at p230
      try rw [wg158] at p230
      try rw [wg159] at p230
      try rw [w151] at p230
      try rw [w152] at p230
      try rw [w153] at p230
      try rw [w154] at p230
      try rw [w155] at p230
      try rw [wg1] at p230
      try rw [wg2] at p230
      try rw [wg3] at p230
      try rw [wg4] at p230
      try rw [wg5] at p230
      try rw [wg6] at p230
      try rw [wg7] at p230
      try rw [wg8] at p230
      try rw [wg9] at p230
      try rw [wg10] at p230
      try rw [wg237] at p231
      try rw [w233] at p231
      try rw [wg238] at p231
      try rw [wg239] at p231
      try rw [wg240] at p231
      try rw [wg241] at p231
      try rw [wg242] at p231
      try rw [w234] at p231
      try rw [w235] at p231
      try rw [w236] at p231
      try rw [wg156] at p231
      try rw [w150] at p231
      try rw [wg157] at p231
      try rw [wg158] at p231
      try rw [wg159] at p231
      try rw [w151] at p231
      try rw [w152] at p231
      try rw [w153] at p231
      try rw [w154] at p231
      try rw [w155] at p231
      try rw [wg1] at p231
      try rw [wg2] at p231
      try rw [wg3] at p231
      try rw [wg4] at p231
      try rw [wg5] at p231
      try rw [wg6] at p231
      try rw [wg7] at p231
      try rw [wg8] at p231
      try rw [wg9] at p231
      try rw [wg10] at p231
      clear wg156 w150 wg157 wg158 wg159 w151 w152 w153 w154 w155
      have ot243 := zOt_fr ot160 (qm224.1 76 (by decide) rfl) (qm224.1 77 (by decide) rfl) (qm224.1 78 (by decide) rfl) (qm224.1 79 (by decide) rfl) (qm224.1 80 (by decide) rfl) (qm224.1 83 (by decide) rfl) (qm224.1 84 (by decide) rfl)
      have TE2 := zTE_t TE161 p227
      have BD2 := zBd_old BD162 TE161.1.1.1.1 p227.1.2.2.1 p227.1.2.2.2.1 (qm224.1 83 (by decide) rfl) (qm224.1 84 (by decide) rfl)
      refine And.intro ⟨by omega, by omega⟩ (And.intro (fun c244 => ?_) (fun c244 => ?_))
      · have ZN : zTn m144 m224 ≤ 300 := by unfold zTn; (try rw [wg237]) <;> (try rw [w233]) <;> (try rw [wg238]) <;> (try rw [wg239]) <;> (try rw [wg240]) <;> (try rw [wg241]) <;> (try rw [wg242]) <;> (try rw [w234]) <;> (try rw [w235]) <;> (try rw [w236]) <;> (try rw [wg134]) <;> (try rw [wg135]) <;> (try rw [wg136]) <;> (try rw [wg137]) <;> (try rw [wg138]) <;> (try rw [wg139]) <;> (try rw [wg140]) <;> (try rw [wg141]) <;> (try rw [wg142]) <;> (try rw [wg143]) <;> (try rw [wg1]) <;> (try rw [wg2]) <;> (try rw [wg3]) <;> (try rw [wg4]) <;> (try rw [wg5]) <;> (try rw [wg6]) <;> (try rw [wg7]) <;> (try rw [wg8]) <;> (try rw [wg9]) <;> (try rw [wg10]) <;> omega
        have TX : zTx m224 lo x223 := by rcases p230 with c | c; (exfalso; omega); exact ⟨⟨c.1, c.2.1⟩, by have := c.2.2.2.2.2.2; omega, c.2.2.2.1 (by omega)⟩
        have ZQ : zrm m224 ≤ zrm m144 := by rcases p229 with c | c; (exfalso; omega); exact c
        have A3 : (1 : Int) = 0 := by rcases p231 with c | c; exact c; (exfalso; omega)
        intro x245 hx245 kx245 lx245
        rw [w235] at hx245
        intro x246 hx246 kx246 lx246
        rw [w235] at hx246
        refine And.intro ⟨by omega, by omega⟩ ?_
        intro x247 hx247 kx247 lx247
        rw [qm224.1 84 (by decide) rfl, show (x246 + v2) = 80 + v2 by omega] at hx247
        refine And.intro ⟨by omega, by omega⟩ (And.intro ⟨by omega, by omega⟩ ?_)
        intro m248 em248
        have z249 := zfx_r z232 em248 rfl (by decide)
        have w250 : m248.1 66 ((31 : Nat) : Int) = g237 := by rw [em248]; exact (congrFun (zu_ne (by decide)) _).trans wg237
        have w251 : m248.1 66 ((30 : Nat) : Int) = g135 := by rw [em248]; exact (congrFun (zu_ne (by decide)) _).trans w233
        have w252 : m248.1 66 ((33 : Nat) : Int) = g238 := by rw [em248]; exact (congrFun (zu_ne (by decide)) _).trans wg238
        have w253 : m248.1 66 ((34 : Nat) : Int) = g239 := by rw [em248]; exact (congrFun (zu_ne (by decide)) _).trans wg239
        have w254 : m248.1 66 ((32 : Nat) : Int) = g240 := by rw [em248]; exact (congrFun (zu_ne (by decide)) _).trans wg240
        have w255 : m248.1 66 ((38 : Nat) : Int) = g241 := by rw [em248]; exact (congrFun (zu_ne (by decide)) _).trans wg241
        have w256 : m248.1 66 ((8 : Nat) : Int) = g242 := by rw [em248]; exact (congrFun (zu_ne (by decide)) _).trans wg242
        have w257 : m248.1 66 ((24 : Nat) : Int) = g141 := by rw [em248]; exact (congrFun (zu_ne (by decide)) _).trans w234
        have w258 : m248.1 66 ((25 : Nat) : Int) = g142 := by rw [em248]; exact (congrFun (zu_ne (by decide)) _).trans w235
        have w259 : m248.1 66 ((26 : Nat) : Int) = g143 := by rw [em248]; exact (congrFun (zu_ne (by decide)) _).trans w236
        clear wg237 w233 wg238 wg239 wg240 wg241 wg242 w234 w235 w236
        have ot260 := zOt_w ot243 em248 (by have hk : (160 : Int) ≤ ((2 * (x245 + v2)) + x247) := (by omega); refine ⟨fun h => ?_, fun h => ?_, fun h => ?_, fun h => ?_, fun h => ?_⟩ <;> first | exact hk | (exfalso; revert h; decide))
        intro x261 hx261 kx261 lx261
        rw [w258] at hx261
        refine And.intro ⟨by omega, by omega⟩ ?_
        intro x262 hx262 kx262 lx262
        rw [em248, zu_ne (by decide), qm224.1 84 (by decide) rfl, show (x261 + v2) = 80 + v2 by omega] at hx262
        refine And.intro ⟨by omega, by omega⟩ (And.intro ⟨by omega, by omega⟩ ?_)
        intro m263 em263
        have z264 := zfx_r z249 em263 rfl (by decide)
        have w265 : m263.1 66 ((31 : Nat) : Int) = g237 := by rw [em263]; exact (congrFun (zu_ne (by decide)) _).trans w250
        have w266 : m263.1 66 ((30 : Nat) : Int) = g135 := by rw [em263]; exact (congrFun (zu_ne (by decide)) _).trans w251
        have w267 : m263.1 66 ((33 : Nat) : Int) = g238 := by rw [em263]; exact (congrFun (zu_ne (by decide)) _).trans w252
        have w268 : m263.1 66 ((34 : Nat) : Int) = g239 := by rw [em263]; exact (congrFun (zu_ne (by decide)) _).trans w253
        have w269 : m263.1 66 ((32 : Nat) : Int) = g240 := by rw [em263]; exact (congrFun (zu_ne (by decide)) _).trans w254
        have w270 : m263.1 66 ((38 : Nat) : Int) = g241 := by rw [em263]; exact (congrFun (zu_ne (by decide)) _).trans w255
        have w271 : m263.1 66 ((8 : Nat) : Int) = g242 := by rw [em263]; exact (congrFun (zu_ne (by decide)) _).trans w256
        have w272 : m263.1 66 ((24 : Nat) : Int) = g141 := by rw [em263]; exact (congrFun (zu_ne (by decide)) _).trans w257
        have w273 : m263.1 66 ((25 : Nat) : Int) = g142 := by rw [em263]; exact (congrFun (zu_ne (by decide)) _).trans w258
        have w274 : m263.1 66 ((26 : Nat) : Int) = g143 := by rw [em263]; exact (congrFun (zu_ne (by decide)) _).trans w259
        clear w250 w251 w252 w253 w254 w255 w256 w257 w258 w259
        have ot275 := zOt_w ot260 em263 (by have hk : (80 : Int) ≤ (x261 + v2) := (by omega); refine ⟨fun h => ?_, fun h => ?_, fun h => ?_, fun h => ?_, fun h => ?_⟩ <;> first | exact hk | (exfalso; revert h; decide))
        have Y84 : m224.1 84 (80 + v2) = x247 := by rw [qm224.1 84 (by decide) rfl]; omega
        have BD3 := zBd_w (p := v2) BD2 ⟨by omega, by omega⟩ em248 (by omega) (by omega) (by omega) TX em263 (by omega) (by omega)
        have TE3 := zTE_fr (m' := m263) TE2 (fun j a b => by rw [em263, zu_ne (by omega), em248, zu_ne (by omega)]) (by rw [em263, zu_ne (by decide), em248, zu_ne (by decide)]) (by rw [em263, zu_ne (by decide), em248, zu_ne (by decide)])
        have ZR : zrm m263 ≤ zrm m224 := zrm_e (fun j => by rw [em263, zu_ne (by decide), em248, zu_ne (by decide)])
        have ZL : zrm m263 < zrm m0 := Int.lt_of_le_of_lt ZR (Int.lt_of_le_of_lt ZQ ZP)
        intro x276 hx276 kx276 lx276
        rw [w269] at hx276
        refine And.intro ⟨⟨by omega, by omega⟩, ⟨by omega, by omega⟩⟩ (And.intro (fun c277 => ?_) (fun c277 => ?_))
        · refine Exists.intro (Int.toNat (zrm m263)) (And.intro (zrN ZL (zrm_0 (by (try rw [w265]) <;> (try rw [w266]) <;> (try rw [w267]) <;> (try rw [w268]) <;> (try rw [w269]) <;> (try rw [w270]) <;> (try rw [w271]) <;> (try rw [w272]) <;> (try rw [w273]) <;> (try rw [w274]) <;> (try rw [wg134]) <;> (try rw [wg135]) <;> (try rw [wg136]) <;> (try rw [wg137]) <;> (try rw [wg138]) <;> (try rw [wg139]) <;> (try rw [wg140]) <;> (try rw [wg141]) <;> (try rw [wg142]) <;> (try rw [wg143]) <;> (try rw [wg1]) <;> (try rw [wg2]) <;> (try rw [wg3]) <;> (try rw [wg4]) <;> (try rw [wg5]) <;> (try rw [wg6]) <;> (try rw [wg7]) <;> (try rw [wg8]) <;> (try rw [wg9]) <;> (try rw [wg10]) <;> omega))) ?_)
          exact ⟨(fun h => absurd h (by decide)), (fun _ => ⟨_, _, rfl, z264, ⟨by omega, by omega⟩, ⟨by omega, by omega⟩, (by (try rw [w265]) <;> (try rw [w266]) <;> (try rw [w267]) <;> (try rw [w268]) <;> (try rw [w269]) <;> (try rw [w270]) <;> (try rw [w271]) <;> (try rw [w272]) <;> (try rw [w273]) <;> (try rw [w274]) <;> (try rw [wg134]) <;> (try rw [wg135]) <;> (try rw [wg136]) <;> (try rw [wg137]) <;> (try rw [wg138]) <;> (try rw [wg139]) <;> (try rw [wg140]) <;> (try rw [wg141]) <;> (try rw [wg142]) <;> (try rw [wg143]) <;> (try rw [wg1]) <;> (try rw [wg2]) <;> (try rw [wg3]) <;> (try rw [wg4]) <;> (try rw [wg5]) <;> (try rw [wg6]) <;> (try rw [wg7]) <;> (try rw [wg8]) <;> (try rw [wg9]) <;> (try rw [wg10]) <;> omega), (by (try rw [w265]) <;> (try rw [w266]) <;> (try rw [w267]) <;> (try rw [w268]) <;> (try rw [w269]) <;> (try rw [w270]) <;> (try rw [w271]) <;> (try rw [w272]) <;> (try rw [w273]) <;> (try rw [w274]) <;> (try rw [wg134]) <;> (try rw [wg135]) <;> (try rw [wg136]) <;> (try rw [wg137]) <;> (try rw [wg138]) <;> (try rw [wg139]) <;> (try rw [wg140]) <;> (try rw [wg141]) <;> (try rw [wg142]) <;> (try rw [wg143]) <;> (try rw [wg1]) <;> (try rw [wg2]) <;> (try rw [wg3]) <;> (try rw [wg4]) <;> (try rw [wg5]) <;> (try rw [wg6]) <;> (try rw [wg7]) <;> (try rw [wg8]) <;> (try rw [wg9]) <;> (try rw [wg10]) <;> omega), rfl, TE3, BD3, (by (try rw [w265]) <;> (try rw [w266]) <;> (try rw [w267]) <;> (try rw [w268]) <;> (try rw [w269]) <;> (try rw [w270]) <;> (try rw [w271]) <;> (try rw [w272]) <;> (try rw [w273]) <;> (try rw [w274]) <;> (try rw [wg134]) <;> (try rw [wg135]) <;> (try rw [wg136]) <;> (try rw [wg137]) <;> (try rw [wg138]) <;> (try rw [wg139]) <;> (try rw [wg140]) <;> (try rw [wg141]) <;> (try rw [wg142]) <;> (try rw [wg143]) <;> (try rw [wg1]) <;> (try rw [wg2]) <;> (try rw [wg3]) <;> (try rw [wg4]) <;> (try rw [wg5]) <;> (try rw [wg6]) <;> (try rw [wg7]) <;> (try rw [wg8]) <;> (try rw [wg9]) <;> (try rw [wg10]) <;> omega), (Or.inr (by (try rw [w265]) <;> (try rw [w266]) <;> (try rw [w267]) <;> (try rw [w268]) <;> (try rw [w269]) <;> (try rw [w270]) <;> (try rw [w271]) <;> (try rw [w272]) <;> (try rw [w273]) <;> (try rw [w274]) <;> (try rw [wg134]) <;> (try rw [wg135]) <;> (try rw [wg136]) <;> (try rw [wg137]) <;> (try rw [wg138]) <;> (try rw [wg139]) <;> (try rw [wg140]) <;> (try rw [wg141]) <;> (try rw [wg142]) <;> (try rw [wg143]) <;> (try rw [wg1]) <;> (try rw [wg2]) <;> (try rw [wg3]) <;> (try rw [wg4]) <;> (try rw [wg5]) <;> (try rw [wg6]) <;> (try rw [wg7]) <;> (try rw [wg8]) <;> (try rw [wg9]) <;> (try rw [wg10]) <;> omega)), (Int.lt_trans ZL i7), (by (try rw [w265]) <;> (try rw [w266]) <;> (try rw [w267]) <;> (try rw [w268]) <;> (try rw [w269]) <;> (try rw [w270]) <;> (try rw [w271]) <;> (try rw [w272]) <;> (try rw [w273]) <;> (try rw [w274]) <;> (try rw [wg134]) <;> (try rw [wg135]) <;> (try rw [wg136]) <;> (try rw [wg137]) <;> (try rw [wg138]) <;> (try rw [wg139]) <;> (try rw [wg140]) <;> (try rw [wg141]) <;> (try rw [wg142]) <;> (try rw [wg143]) <;> (try rw [wg1]) <;> (try rw [wg2]) <;> (try rw [wg3]) <;> (try rw [wg4]) <;> (try rw [wg5]) <;> (try rw [wg6]) <;> (try rw [wg7]) <;> (try rw [wg8]) <;> (try rw [wg9]) <;> (try rw [wg10]) <;> omega), i9, ot275, rfl⟩)⟩
        · intro x278 hx278 kx278 lx278
          rw [w269] at hx278
          refine And.intro ⟨⟨by omega, by omega⟩, ⟨by omega, by omega⟩⟩ (And.intro (fun c279 => ?_) (fun c279 => ?_))
          · refine Exists.intro (Int.toNat (zrm m263)) (And.intro (zrN ZL (zrm_0 (by (try rw [w265]) <;> (try rw [w266]) <;> (try rw [w267]) <;> (try rw [w268]) <;> (try rw [w269]) <;> (try rw [w270]) <;> (try rw [w271]) <;> (try rw [w272]) <;> (try rw [w273]) <;> (try rw [w274]) <;> (try rw [wg134]) <;> (try rw [wg135]) <;> (try rw [wg136]) <;> (try rw [wg137]) <;> (try rw [wg138]) <;> (try rw [wg139]) <;> (try rw [wg140]) <;> (try rw [wg141]) <;> (try rw [wg142]) <;> (try rw [wg143]) <;> (try rw [wg1]) <;> (try rw [wg2]) <;> (try rw [wg3]) <;> (try rw [wg4]) <;> (try rw [wg5]) <;> (try rw [wg6]) <;> (try rw [wg7]) <;> (try rw [wg8]) <;> (try rw [wg9]) <;> (try rw [wg10]) <;> omega))) ?_)
            exact ⟨(fun _ => ⟨_, rfl, z264, ⟨by omega, by omega⟩, (by (try rw [w265]) <;> (try rw [w266]) <;> (try rw [w267]) <;> (try rw [w268]) <;> (try rw [w269]) <;> (try rw [w270]) <;> (try rw [w271]) <;> (try rw [w272]) <;> (try rw [w273]) <;> (try rw [w274]) <;> (try rw [wg134]) <;> (try rw [wg135]) <;> (try rw [wg136]) <;> (try rw [wg137]) <;> (try rw [wg138]) <;> (try rw [wg139]) <;> (try rw [wg140]) <;> (try rw [wg141]) <;> (try rw [wg142]) <;> (try rw [wg143]) <;> (try rw [wg1]) <;> (try rw [wg2]) <;> (try rw [wg3]) <;> (try rw [wg4]) <;> (try rw [wg5]) <;> (try rw [wg6]) <;> (try rw [wg7]) <;> (try rw [wg8]) <;> (try rw [wg9]) <;> (try rw [wg10]) <;> omega), (by (try rw [w265]) <;> (try rw [w266]) <;> (try rw [w267]) <;> (try rw [w268]) <;> (try rw [w269]) <;> (try rw [w270]) <;> (try rw [w271]) <;> (try rw [w272]) <;> (try rw [w273]) <;> (try rw [w274]) <;> (try rw [wg134]) <;> (try rw [wg135]) <;> (try rw [wg136]) <;> (try rw [wg137]) <;> (try rw [wg138]) <;> (try rw [wg139]) <;> (try rw [wg140]) <;> (try rw [wg141]) <;> (try rw [wg142]) <;> (try rw [wg143]) <;> (try rw [wg1]) <;> (try rw [wg2]) <;> (try rw [wg3]) <;> (try rw [wg4]) <;> (try rw [wg5]) <;> (try rw [wg6]) <;> (try rw [wg7]) <;> (try rw [wg8]) <;> (try rw [wg9]) <;> (try rw [wg10]) <;> omega), rfl, TE3, BD3, (by (try rw [w265]) <;> (try rw [w266]) <;> (try rw [w267]) <;> (try rw [w268]) <;> (try rw [w269]) <;> (try rw [w270]) <;> (try rw [w271]) <;> (try rw [w272]) <;> (try rw [w273]) <;> (try rw [w274]) <;> (try rw [wg134]) <;> (try rw [wg135]) <;> (try rw [wg136]) <;> (try rw [wg137]) <;> (try rw [wg138]) <;> (try rw [wg139]) <;> (try rw [wg140]) <;> (try rw [wg141]) <;> (try rw [wg142]) <;> (try rw [wg143]) <;> (try rw [wg1]) <;> (try rw [wg2]) <;> (try rw [wg3]) <;> (try rw [wg4]) <;> (try rw [wg5]) <;> (try rw [wg6]) <;> (try rw [wg7]) <;> (try rw [wg8]) <;> (try rw [wg9]) <;> (try rw [wg10]) <;> omega), (Or.inr (by (try rw [w265]) <;> (try rw [w266]) <;> (try rw [w267]) <;> (try rw [w268]) <;> (try rw [w269]) <;> (try rw [w270]) <;> (try rw [w271]) <;> (try rw [w272]) <;> (try rw [w273]) <;> (try rw [w274]) <;> (try rw [wg134]) <;> (try rw [wg135]) <;> (try rw [wg136]) <;> (try rw [wg137]) <;> (try rw [wg138]) <;> (try rw [wg139]) <;> (try rw [wg140]) <;> (try rw [wg141]) <;> (try rw [wg142]) <;> (try rw [wg143]) <;> (try rw [wg1]) <;> (try rw [wg2]) <;> (try rw [wg3]) <;> (try rw [wg4]) <;> (try rw [wg5]) <;> (try rw [wg6]) <;> (try rw [wg7]) <;> (try rw [wg8]) <;> (try rw [wg9]) <;> (try rw [wg10]) <;> omega)), (Int.le_of_lt (Int.lt_trans ZL i7)), (by (try rw [w265]) <;> (try rw [w266]) <;> (try rw [w267]) <;> (try rw [w268]) <;> (try rw [w269]) <;> (try rw [w270]) <;> (try rw [w271]) <;> (try rw [w272]) <;> (try rw [w273]) <;> (try rw [w274]) <;> (try rw [wg134]) <;> (try rw [wg135]) <;> (try rw [wg136]) <;> (try rw [wg137]) <;> (try rw [wg138]) <;> (try rw [wg139]) <;> (try rw [wg140]) <;> (try rw [wg141]) <;> (try rw [wg142]) <;> (try rw [wg143]) <;> (try rw [wg1]) <;> (try rw [wg2]) <;> (try rw [wg3]) <;> (try rw [wg4]) <;> (try rw [wg5]) <;> (try rw [wg6]) <;> (try rw [wg7]) <;> (try rw [wg8]) <;> (try rw [wg9]) <;> (try rw [wg10]) <;> omega), ot275, rfl⟩), (fun h => absurd h (by decide))⟩
          · exact And.intro (zrtb (by omega)) (And.intro ⟨by omega, by omega⟩ (hQ _ _ z264 (by omega) (by omega) (by (try rw [w265]) <;> (try rw [w266]) <;> (try rw [w267]) <;> (try rw [w268]) <;> (try rw [w269]) <;> (try rw [w270]) <;> (try rw [w271]) <;> (try rw [w272]) <;> (try rw [w273]) <;> (try rw [w274]) <;> (try rw [wg134]) <;> (try rw [wg135]) <;> (try rw [wg136]) <;> (try rw [wg137]) <;> (try rw [wg138]) <;> (try rw [wg139]) <;> (try rw [wg140]) <;> (try rw [wg141]) <;> (try rw [wg142]) <;> (try rw [wg143]) <;> (try rw [wg1]) <;> (try rw [wg2]) <;> (try rw [wg3]) <;> (try rw [wg4]) <;> (try rw [wg5]) <;> (try rw [wg6]) <;> (try rw [wg7]) <;> (try rw [wg8]) <;> (try rw [wg9]) <;> (try rw [wg10]) <;> omega) (by (try rw [w265]) <;> (try rw [w266]) <;> (try rw [w267]) <;> (try rw [w268]) <;> (try rw [w269]) <;> (try rw [w270]) <;> (try rw [w271]) <;> (try rw [w272]) <;> (try rw [w273]) <;> (try rw [w274]) <;> (try rw [wg134]) <;> (try rw [wg135]) <;> (try rw [wg136]) <;> (try rw [wg137]) <;> (try rw [wg138]) <;> (try rw [wg139]) <;> (try rw [wg140]) <;> (try rw [wg141]) <;> (try rw [wg142]) <;> (try rw [wg143]) <;> (try rw [wg1]) <;> (try rw [wg2]) <;> (try rw [wg3]) <;> (try rw [wg4]) <;> (try rw [wg5]) <;> (try rw [wg6]) <;> (try rw [wg7]) <;> (try rw [wg8]) <;> (try rw [wg9]) <;> (try rw [wg10]) <;> omega) TE3 (by (try rw [w265]) <;> (try rw [w266]) <;> (try rw [w267]) <;> (try rw [w268]) <;> (try rw [w269]) <;> (try rw [w270]) <;> (try rw [w271]) <;> (try rw [w272]) <;> (try rw [w273]) <;> (try rw [w274]) <;> (try rw [wg134]) <;> (try rw [wg135]) <;> (try rw [wg136]) <;> (try rw [wg137]) <;> (try rw [wg138]) <;> (try rw [wg139]) <;> (try rw [wg140]) <;> (try rw [wg141]) <;> (try rw [wg142]) <;> (try rw [wg143]) <;> (try rw [wg1]) <;> (try rw [wg2]) <;> (try rw [wg3]) <;> (try rw [wg4]) <;> (try rw [wg5]) <;> (try rw [wg6]) <;> (try rw [wg7]) <;> (try rw [wg8]) <;> (try rw [wg9]) <;> (try rw [wg10]) <;> omega) (fun h => BD3) (fun h => Int.lt_trans ZL i7) ot275))
      · exact And.intro (zrtb (by omega)) (And.intro ⟨by omega, by omega⟩ (hQ _ _ z232 (by omega) (by omega) (by (try rw [wg237]) <;> (try rw [w233]) <;> (try rw [wg238]) <;> (try rw [wg239]) <;> (try rw [wg240]) <;> (try rw [wg241]) <;> (try rw [wg242]) <;> (try rw [w234]) <;> (try rw [w235]) <;> (try rw [w236]) <;> (try rw [wg134]) <;> (try rw [wg135]) <;> (try rw [wg136]) <;> (try rw [wg137]) <;> (try rw [wg138]) <;> (try rw [wg139]) <;> (try rw [wg140]) <;> (try rw [wg141]) <;> (try rw [wg142]) <;> (try rw [wg143]) <;> (try rw [wg1]) <;> (try rw [wg2]) <;> (try rw [wg3]) <;> (try rw [wg4]) <;> (try rw [wg5]) <;> (try rw [wg6]) <;> (try rw [wg7]) <;> (try rw [wg8]) <;> (try rw [wg9]) <;> (try rw [wg10]) <;> omega) (by (try rw [wg237]) <;> (try rw [w233]) <;> (try rw [wg238]) <;> (try rw [wg239]) <;> (try rw [wg240]) <;> (try rw [wg241]) <;> (try rw [wg242]) <;> (try rw [w234]) <;> (try rw [w235]) <;> (try rw [w236]) <;> (try rw [wg134]) <;> (try rw [wg135]) <;> (try rw [wg136]) <;> (try rw [wg137]) <;> (try rw [wg138]) <;> (try rw [wg139]) <;> (try rw [wg140]) <;> (try rw [wg141]) <;> (try rw [wg142]) <;> (try rw [wg143]) <;> (try rw [wg1]) <;> (try rw [wg2]) <;> (try rw [wg3]) <;> (try rw [wg4]) <;> (try rw [wg5]) <;> (try rw [wg6]) <;> (try rw [wg7]) <;> (try rw [wg8]) <;> (try rw [wg9]) <;> (try rw [wg10]) <;> omega) TE2 (by (try rw [wg237]) <;> (try rw [w233]) <;> (try rw [wg238]) <;> (try rw [wg239]) <;> (try rw [wg240]) <;> (try rw [wg241]) <;> (try rw [wg242]) <;> (try rw [w234]) <;> (try rw [w235]) <;> (try rw [w236]) <;> (try rw [wg134]) <;> (try rw [wg135]) <;> (try rw [wg136]) <;> (try rw [wg137]) <;> (try rw [wg138]) <;> (try rw [wg139]) <;> (try rw [wg140]) <;> (try rw [wg141]) <;> (try rw [wg142]) <;> (try rw [wg143]) <;> (try rw [wg1]) <;> (try rw [wg2]) <;> (try rw [wg3]) <;> (try rw [wg4]) <;> (try rw [wg5]) <;> (try rw [wg6]) <;> (try rw [wg7]) <;> (try rw [wg8]) <;> (try rw [wg9]) <;> (try rw [wg10]) <;> omega) (fun h => by exfalso; omega) (fun h => by exfalso; omega) ot243))
