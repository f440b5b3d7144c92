def yk_X9_readSupers : zC := fun As μ Q => ∃ (a1 : Int) (lo : Int) (P : Int) (τ : yT) (p : Int) (B : yB), As = [.inr (.inr (66, 66)), .inl a1] ∧ (1 ≤ a1 ∧ a1 ≤ 20) ∧ (0 ≤ μ.1 66 ((33 : Nat) : Int) ∧ 0 ≤ μ.1 66 ((34 : Nat) : Int) ∧ μ.1 66 ((33 : Nat) : Int) + μ.1 66 ((34 : Nat) : Int) ≤ μ.1 66 ((31 : Nat) : Int) ∧ μ.1 66 ((31 : Nat) : Int) ≤ μ.1 66 ((30 : Nat) : Int) ∧ μ.1 66 ((30 : Nat) : Int) ≤ 800) ∧ (zND μ lo) ∧ (zWf μ lo (zTop μ) (a1 + 1) P 0 (zXn μ)) ∧ (μ.1 66 ((24 : Nat) : Int) = 21 ∧ μ.1 66 ((25 : Nat) : Int) = 80 ∧ μ.1 66 ((26 : Nat) : Int) = a1 + 1) ∧ (0 ≤ zXf μ a1 ∧ zXf μ a1 + zXn μ a1 ≤ P ∧ P ≤ 80) ∧ (μ.1 66 ((8 : Nat) : Int) - μ.1 66 ((38 : Nat) : Int) ≤ 19699 ∧ 0 ≤ μ.1 66 ((38 : Nat) : Int) ∧ μ.1 66 ((38 : Nat) : Int) ≤ 300) ∧ (zCl μ lo a1 P ∧ μ.1 79 (21 + a1) = 0) ∧ (μ.1 66 ((32 : Nat) : Int) = 58) ∧ (rLx μ τ p) ∧ (rNu μ B) ∧ (yInv (7, p, 0, [], B)) ∧ (a1 = B.1 0 3) ∧ (rTd μ B) ∧ (∀ (v : Int) (μ' : zM), zfx [67, 68, 69, 70, 71, 72, 73, 74, 78, 79, 100, 101, 102, 103, 104] [8, 31, 32, 33, 34, 35, 36, 38] μ μ' → 0 ≤ v → v ≤ 1 → (0 ≤ μ'.1 66 ((33 : Nat) : Int) ∧ 0 ≤ μ'.1 66 ((34 : Nat) : Int) ∧ μ'.1 66 ((33 : Nat) : Int) + μ'.1 66 ((34 : Nat) : Int) ≤ μ'.1 66 ((31 : Nat) : Int) ∧ μ'.1 66 ((31 : Nat) : Int) ≤ μ'.1 66 ((30 : Nat) : Int) ∧ μ'.1 66 ((30 : Nat) : Int) ≤ 800) → (μ'.1 66 ((30 : Nat) : Int) = μ.1 66 ((30 : Nat) : Int)) → (zTE μ μ' lo (a1 + 1) P 0 (zXn μ)) → (0 ≤ μ'.1 66 ((38 : Nat) : Int) ∧ μ'.1 66 ((38 : Nat) : Int) ≤ 300) → (v = 1 → zSp μ μ' lo a1 P) → (v = 1 → zrm μ' < zrm μ) → (zOt μ μ') → ((v = 0 ∧ rFa τ (7, p, 0, [], B) μ') ∨ (v = 1 ∧ ∃ p' B', yR τ (7, p, 0, [], B) (8, p', 0, [], B') ∧ rLx μ' τ p' ∧ rNu μ' B' ∧ (B'.1 0 3 = a1 ∧ B'.2 2 = B.2 2) ∧ rSu μ' B' a1 lo ∧ rTd μ' B')) → Q (some (.inl v)) μ')
set_option maxHeartbeats 4000000 in
theorem ym_X9_readSupers {g : zΓ} (hg : zg g) (d : Nat) (hd : 6 ≤ d) : zOk g d 145 yk_X9_readSupers := by
  obtain ⟨d, rfl⟩ : ∃ d', d = d' + 1 := ⟨d - 1, by omega⟩
  refine zOk_loop hg (show mt_tab[145]? = some mt_X9_readSupers from rfl) ([(0, [0, 1])], []) 63 rfl fun As μ Q hC => ?_
  obtain ⟨a1, lo, P, τ, p, B, rfl, ha1, hp0, hp1, hp2, hp3, hp4, hp5, hp6, hp7, hp8, hp9, hp10, hp11, hp12, hQ⟩ := hC
  obtain ⟨g1, wg1⟩ : ∃ z : Int, μ.1 66 ((31 : Nat) : Int) = z := ⟨_, rfl⟩
  obtain ⟨g2, wg2⟩ : ∃ z : Int, μ.1 66 ((30 : Nat) : Int) = z := ⟨_, rfl⟩
  obtain ⟨g3, wg3⟩ : ∃ z : Int, μ.1 66 ((33 : Nat) : Int) = z := ⟨_, rfl⟩
  obtain ⟨g4, wg4⟩ : ∃ z : Int, μ.1 66 ((34 : Nat) : Int) = z := ⟨_, rfl⟩
  obtain ⟨g5, wg5⟩ : ∃ z : Int, μ.1 66 ((32 : Nat) : Int) = z := ⟨_, rfl⟩
  obtain ⟨g6, wg6⟩ : ∃ z : Int, μ.1 66 ((38 : Nat) : Int) = z := ⟨_, rfl⟩
  obtain ⟨g7, wg7⟩ : ∃ z : Int, μ.1 66 ((8 : Nat) : Int) = z := ⟨_, rfl⟩
  obtain ⟨g8, wg8⟩ : ∃ z : Int, μ.1 66 ((24 : Nat) : Int) = z := ⟨_, rfl⟩
  obtain ⟨g9, wg9⟩ : ∃ z : Int, μ.1 66 ((25 : Nat) : Int) = z := ⟨_, rfl⟩
  obtain ⟨g10, wg10⟩ : ∃ z : Int, μ.1 66 ((26 : Nat) : Int) = z := ⟨_, rfl⟩
  try rw [wg1] at hp0
  try rw [wg2] at hp0
  try rw [wg3] at hp0
  try rw [wg4] at hp0
  try rw [wg5] at hp0
  try rw [wg6] at hp0
  try rw [wg7] at hp0
  try rw [wg8] at hp0
  try rw [wg9] at hp0
  try rw [wg10] at hp0
  try rw [wg1] at hp1
  try rw [wg2] at hp1
  try rw [wg3] at hp1
  try rw [wg4] at hp1
  try rw [wg5] at hp1
  try rw [wg6] at hp1
  try rw [wg7] at hp1
  try rw [wg8] at hp1
  try rw [wg9] at hp1
  try rw [wg10] at hp1
  try rw [wg1] at hp2
  try rw [wg2] at hp2
  try rw [wg3] at hp2
  try rw [wg4] at hp2
  try rw [wg5] at hp2
  try rw [wg6] at hp2
  try rw [wg7] at hp2
  try rw [wg8] at hp2
  try rw [wg9] at hp2
  try rw [wg10] at hp2
  try rw [wg1] at hp3
  try rw [wg2] at hp3
  try rw [wg3] at hp3
  try rw [wg4] at hp3
  try rw [wg5] at hp3
  try rw [wg6] at hp3
  try rw [wg7] at hp3
  try rw [wg8] at hp3
  try rw [wg9] at hp3
  try rw [wg10] at hp3
  try rw [wg1] at hp4
  try rw [wg2] at hp4
  try rw [wg3] at hp4
  try rw [wg4] at hp4
  try rw [wg5] at hp4
  try rw [wg6] at hp4
  try rw [wg7] at hp4
  try rw [wg8] at hp4
  try rw [wg9] at hp4
  try rw [wg10] at hp4
  try rw [wg1] at hp5
  try rw [wg2] at hp5
  try rw [wg3] at hp5
  try rw [wg4] at hp5
  try rw [wg5] at hp5
  try rw [wg6] at hp5
  try rw [wg7] at hp5
  try rw [wg8] at hp5
  try rw [wg9] at hp5
  try rw [wg10] at hp5
  try rw [wg1] at hp6
  try rw [wg2] at hp6
  try rw [wg3] at hp6
  try rw [wg4] at hp6
  try rw [wg5] at hp6
  try rw [wg6] at hp6
  try rw [wg7] at hp6
  try rw [wg8] at hp6
  try rw [wg9] at hp6
  try rw [wg10] at hp6
  try rw [wg1] at hp7
  try rw [wg2] at hp7
  try rw [wg3] at hp7
  try rw [wg4] at hp7
  try rw [wg5] at hp7
  try rw [wg6] at hp7
  try rw [wg7] at hp7
  try rw [wg8] at hp7
  try rw [wg9] at hp7
  try rw [wg10] at hp7
  try rw [wg1] at hp8
  try rw [wg2] at hp8
  try rw [wg3] at hp8
  try rw [wg4] at hp8
  try rw [wg5] at hp8
  try rw [wg6] at hp8
  try rw [wg7] at hp8
  try rw [wg8] at hp8
  try rw [wg9] at hp8
  try rw [wg10] at hp8
  try rw [wg1] at hp9
  try rw [wg2] at hp9
  try rw [wg3] at hp9
  try rw [wg4] at hp9
  try rw [wg5] at hp9
  try rw [wg6] at hp9
  try rw [wg7] at hp9
  try rw [wg8] at hp9
  try rw [wg9] at hp9
  try rw [wg10] at hp9
  try rw [wg1] at hp10
  try rw [wg2] at hp10
  try rw [wg3] at hp10
  try rw [wg4] at hp10
  try rw [wg5] at hp10
  try rw [wg6] at hp10
  try rw [wg7] at hp10
  try rw [wg8] at hp10
  try rw [wg9] at hp10
  try rw [wg10] at hp10
  try rw [wg1] at hp11
  try rw [wg2] at hp11
  try rw [wg3] at hp11
  try rw [wg4] at hp11
  try rw [wg5] at hp11
  try rw [wg6] at hp11
  try rw [wg7] at hp11
  try rw [wg8] at hp11
  try rw [wg9] at hp11
  try rw [wg10] at hp11
  try rw [wg1] at hp12
  try rw [wg2] at hp12
  try rw [wg3] at hp12
  try rw [wg4] at hp12
  try rw [wg5] at hp12
  try rw [wg6] at hp12
  try rw [wg7] at hp12
  try rw [wg8] at hp12
  try rw [wg9] at hp12
  try rw [wg10] at hp12
  have z0 : zfx [67, 68, 69, 70, 71, 72, 73, 74, 78, 79, 100, 101, 102, 103, 104] [8, 31, 32, 33, 34, 35, 36, 38] μ μ := zfx_x μ
  refine ⟨rfl, fun pc vs μ' n => ∃ (v1 : Int), vs = [.inr (.inr (66, 66)), .inl v1] ∧ zfx [67, 68, 69, 70, 71, 72, 73, 74, 78, 79, 100, 101, 102, 103, 104] [8, 31, 32, 33, 34, 35, 36, 38] μ μ' ∧ (1 ≤ v1 ∧ v1 ≤ 20) ∧ (0 ≤ μ'.1 66 ((33 : Nat) : Int) ∧ 0 ≤ μ'.1 66 ((34 : Nat) : Int) ∧ μ'.1 66 ((33 : Nat) : Int) + μ'.1 66 ((34 : Nat) : Int) ≤ μ'.1 66 ((31 : Nat) : Int) ∧ μ'.1 66 ((31 : Nat) : Int) ≤ μ'.1 66 ((30 : Nat) : Int) ∧ μ'.1 66 ((30 : Nat) : Int) ≤ 800) ∧ (μ'.1 66 ((30 : Nat) : Int) = μ.1 66 ((30 : Nat) : Int)) ∧ (v1 = a1) ∧ (zTE μ μ' lo (a1 + 1) P 0 (zXn μ)) ∧ (zSp μ μ' lo a1 P) ∧ (0 ≤ μ'.1 66 ((38 : Nat) : Int) ∧ μ'.1 66 ((38 : Nat) : Int) ≤ 300) ∧ (μ'.1 66 ((32 : Nat) : Int) = 58 ∨ μ'.1 66 ((32 : Nat) : Int) = 44) ∧ (zrm μ' ≤ zrm μ) ∧ (μ'.1 66 ((24 : Nat) : Int) = 21 ∧ μ'.1 66 ((25 : Nat) : Int) = 80 ∧ μ'.1 66 ((26 : Nat) : Int) = a1 + 1) ∧ (zOt μ μ') ∧ (∃ pq Bq, yR τ (7, p, 0, [], B) (7, pq, 0, [], Bq) ∧ rLx μ' τ pq ∧ rNu μ' Bq ∧ (Bq.1 0 3 = a1 ∧ Bq.2 2 = B.2 2) ∧ rSu μ' Bq a1 lo ∧ rTd μ' Bq) ∧ n = (Int.toNat (zrm μ')), ?_, ?_, trivial⟩
  · refine Exists.intro (Int.toNat (zrm μ)) ?_
    exact ⟨_, rfl, z0, ⟨by omega, by omega⟩, (by (try rw [wg1]) <;> (try rw [wg2]) <;> (try rw [wg3]) <;> (try rw [wg4]) <;> (try rw [wg5]) <;> (try rw [wg6]) <;> (try rw [wg7]) <;> (try rw [wg8]) <;> (try rw [wg9]) <;> (try rw [wg10]) <;> omega), (by (try rw [wg1]) <;> (try rw [wg2]) <;> (try rw [wg3]) <;> (try rw [wg4]) <;> (try rw [wg5]) <;> (try rw [wg6]) <;> (try rw [wg7]) <;> (try rw [wg8]) <;> (try rw [wg9]) <;> (try rw [wg10]) <;> omega), rfl, (zTE_r hp1 hp2), (zSp_r hp6.1 hp6.2), (by (try rw [wg1]) <;> (try rw [wg2]) <;> (try rw [wg3]) <;> (try rw [wg4]) <;> (try rw [wg5]) <;> (try rw [wg6]) <;> (try rw [wg7]) <;> (try rw [wg8]) <;> (try rw [wg9]) <;> (try rw [wg10]) <;> omega), (Or.inl (by (try rw [wg1]) <;> (try rw [wg2]) <;> (try rw [wg3]) <;> (try rw [wg4]) <;> (try rw [wg5]) <;> (try rw [wg6]) <;> (try rw [wg7]) <;> (try rw [wg8]) <;> (try rw [wg9]) <;> (try rw [wg10]) <;> omega)), (Int.le_refl _), (by (try rw [wg1]) <;> (try rw [wg2]) <;> (try rw [wg3]) <;> (try rw [wg4]) <;> (try rw [wg5]) <;> (try rw [wg6]) <;> (try rw [wg7]) <;> (try rw [wg8]) <;> (try rw [wg9]) <;> (try rw [wg10]) <;> omega), (zOt_r μ), ⟨p, B, yR_r τ _, hp8, hp9, ⟨hp11.symm, rfl⟩, (fun i i0 i1 => by exfalso; have h0 := (hp9.2.1 a1 (by omega) (by have h1 := hp9.1.2.2.1; have h2 := hp3.2.2; omega)).2.2.2; have h3 := hp6.2; omega), hp12⟩, rfl⟩
  · intro vs m0 n hI
    clear z0
    obtain ⟨v1, rfl, z0, hv1, i0, i1, i2, i3, i4, i5, i6, i7, i8, i9, i10, rfl⟩ := hI
    subst i2
    obtain ⟨g11, wg11⟩ : ∃ z : Int, m0.1 66 ((31 : Nat) : Int) = z := ⟨_, rfl⟩
    obtain ⟨g12, wg12⟩ : ∃ z : Int, m0.1 66 ((30 : Nat) : Int) = z := ⟨_, rfl⟩
    obtain ⟨g13, wg13⟩ : ∃ z : Int, m0.1 66 ((33 : Nat) : Int) = z := ⟨_, rfl⟩
    obtain ⟨g14, wg14⟩ : ∃ z : Int, m0.1 66 ((34 : Nat) : Int) = z := ⟨_, rfl⟩
    obtain ⟨g15, wg15⟩ : ∃ z : Int, m0.1 66 ((32 : Nat) : Int) = z := ⟨_, rfl⟩
    obtain ⟨g16, wg16⟩ : ∃ z : Int, m0.1 66 ((38 : Nat) : Int) = z := ⟨_, rfl⟩
    obtain ⟨g17, wg17⟩ : ∃ z : Int, m0.1 66 ((8 : Nat) : Int) = z := ⟨_, rfl⟩
    obtain ⟨g18, wg18⟩ : ∃ z : Int, m0.1 66 ((24 : Nat) : Int) = z := ⟨_, rfl⟩
    obtain ⟨g19, wg19⟩ : ∃ z : Int, m0.1 66 ((25 : Nat) : Int) = z := ⟨_, rfl⟩
    obtain ⟨g20, wg20⟩ : ∃ z : Int, m0.1 66 ((26 : Nat) : Int) = z := ⟨_, rfl⟩
    try rw [wg11] at i0
    try rw [wg12] at i0
    try rw [wg13] at i0
    try rw [wg14] at i0
    try rw [wg15] at i0
    try rw [wg16] at i0
    try rw [wg17] at i0
    try rw [wg18] at i0
    try rw [wg19] at i0
    try rw [wg20] at i0
    try rw [wg1] at i0
    try rw [wg2] at i0
    try rw [wg3] at i0
    try rw [wg4] at i0
    try rw [wg5] at i0
    try rw [wg6] at i0
    try rw [wg7] at i0
    try rw [wg8] at i0
    try rw [wg9] at i0
    try rw [wg10] at i0
    try rw [wg11] at i1
    try rw [wg12] at i1
    try rw [wg13] at i1
    try rw [wg14] at i1
    try rw [wg15] at i1
    try rw [wg16] at i1
    try rw [wg17] at i1
    try rw [wg18] at i1
    try rw [wg19] at i1
    try rw [wg20] at i1
    try rw [wg1] at i1
    try rw [wg2] at i1
    try rw [wg3] at i1
    try rw [wg4] at i1
    try rw [wg5] at i1
    try rw [wg6] at i1
    try rw [wg7] at i1
    try rw [wg8] at i1
    try rw [wg9] at i1
    try rw [wg10] at i1
    try rw [wg11] at i2
    try rw [wg12] at i2
    try rw [wg13] at i2
    try rw [wg14] at i2
    try rw [wg15] at i2
    try rw [wg16] at i2
    try rw [wg17] at i2
    try rw [wg18] at i2
    try rw [wg19] at i2
    try rw [wg20] at i2
    try rw [wg1] at i2
    try rw [wg2] at i2
    try rw [wg3] at i2
    try rw [wg4] at i2
    try rw [wg5] at i2
    try rw [wg6] at i2
    try rw [wg7] at i2
    try rw [wg8] at i2
    try rw [wg9] at i2
    try rw [wg10] at i2
    try rw [wg11] at i3
    try rw [wg12] at i3
    try rw [wg13] at i3
    try rw [wg14] at i3
    try rw [wg15] at i3
    try rw [wg16] at i3
    try rw [wg17] at i3
    try rw [wg18] at i3
    try rw [wg19] at i3
    try rw [wg20] at i3
    try rw [wg1] at i3
    try rw [wg2] at i3
    try rw [wg3] at i3
    try rw [wg4] at i3
    try rw [wg5] at i3
    try rw [wg6] at i3
    try rw [wg7] at i3
    try rw [wg8] at i3
    try rw [wg9] at i3
    try rw [wg10] at i3
    try rw [wg11] at i4
    try rw [wg12] at i4
    try rw [wg13] at i4
    try rw [wg14] at i4
    try rw [wg15] at i4
    try rw [wg16] at i4
    try rw [wg17] at i4
    try rw [wg18] at i4
    try rw [wg19] at i4
    try rw [wg20] at i4
    try rw [wg1] at i4
    try rw [wg2] at i4
    try rw [wg3] at i4
    try rw [wg4] at i4
    try rw [wg5] at i4
    try rw [wg6] at i4
    try rw [wg7] at i4
    try rw [wg8] at i4
    try rw [wg9] at i4
    try rw [wg10] at i4
    try rw [wg11] at i5
    try rw [wg12] at i5
    try rw [wg13] at i5
    try rw [wg14] at i5
    try rw [wg15] at i5
    try rw [wg16] at i5
    try rw [wg17] at i5
    try rw [wg18] at i5
    try rw [wg19] at i5
    try rw [wg20] at i5
    try rw [wg1] at i5
    try rw [wg2] at i5
    try rw [wg3] at i5
    try rw [wg4] at i5
    try rw [wg5] at i5
    try rw [wg6] at i5
    try rw [wg7] at i5
    try rw [wg8] at i5
    try rw [wg9] at i5
    try rw [wg10] at i5
    try rw [wg11] at i6
    try rw [wg12] at i6
    try rw [wg13] at i6
    try rw [wg14] at i6
    try rw [wg15] at i6
    try rw [wg16] at i6
    try rw [wg17] at i6
    try rw [wg18] at i6
    try rw [wg19] at i6
    try rw [wg20] at i6
    try rw [wg1] at i6
    try rw [wg2] at i6
    try rw [wg3] at i6
    try rw [wg4] at i6
    try rw [wg5] at i6
    try rw [wg6] at i6
    try rw [wg7] at i6
    try rw [wg8] at i6
    try rw [wg9] at i6
    try rw [wg10] at i6
    try rw [wg11] at i7
    try rw [wg12] at i7
    try rw [wg13] at i7
    try rw [wg14] at i7
    try rw [wg15] at i7
    try rw [wg16] at i7
    try rw [wg17] at i7
    try rw [wg18] at i7
    try rw [wg19] at i7
    try rw [wg20] at i7
    try rw [wg1] at i7
    try rw [wg2] at i7
    try rw [wg3] at i7
    try rw [wg4] at i7
    try rw [wg5] at i7
    try rw [wg6] at i7
    try rw [wg7] at i7
    try rw [wg8] at i7
    try rw [wg9] at i7
    try rw [wg10] at i7
    try rw [wg11] at i8
    try rw [wg12] at i8
    try rw [wg13] at i8
    try rw [wg14] at i8
    try rw [wg15] at i8
    try rw [wg16] at i8
    try rw [wg17] at i8
    try rw [wg18] at i8
    try rw [wg19] at i8
    try rw [wg20] at i8
    try rw [wg1] at i8
    try rw [wg2] at i8
    try rw [wg3] at i8
    try rw [wg4] at i8
    try rw [wg5] at i8
    try rw [wg6] at i8
    try rw [wg7] at i8
    try rw [wg8] at i8
    try rw [wg9] at i8
    try rw [wg10] at i8
    try rw [wg11] at i9
    try rw [wg12] at i9
    try rw [wg13] at i9
    try rw [wg14] at i9
    try rw [wg15] at i9
    try rw [wg16] at i9
    try rw [wg17] at i9
    try rw [wg18] at i9
    try rw [wg19] at i9
    try rw [wg20] at i9
    try rw [wg1] at i9
    try rw [wg2] at i9
    try rw [wg3] at i9
    try rw [wg4] at i9
    try rw [wg5] at i9
    try rw [wg6] at i9
    try rw [wg7] at i9
    try rw [wg8] at i9
    try rw [wg9] at i9
    try rw [wg10] at i9
    try rw [wg11] at i10
    try rw [wg12] at i10
    try rw [wg13] at i10
    try rw [wg14] at i10
    try rw [wg15] at i10
    try rw [wg16] at i10
    try rw [wg17] at i10
    try rw [wg18] at i10
    try rw [wg19] at i10
    try rw [wg20] at i10
    try rw [wg1] at i10
    try rw [wg2] at i10
    try rw [wg3] at i10
    try rw [wg4] at i10
    try rw [wg5] at i10
    try rw [wg6] at i10
    try rw [wg7] at i10
    try rw [wg8] at i10
    try rw [wg9] at i10
    try rw [wg10] at i10
    obtain ⟨pq, Bq, RQ, LQ, NQ, OQ, SQ, DQ⟩ := i10
    have HI7 : yI 7 0 [] Bq := (by rcases yInv_R hp10 RQ with q | q; exact absurd (show (7 : Nat) = 20 from q) (by decide); exact q)
    refine ⟨yk_X9_pass, ym_X9_pass hg d (by omega), rfl, (by (try rw [wg11]) <;> (try rw [wg12]) <;> (try rw [wg13]) <;> (try rw [wg14]) <;> (try rw [wg15]) <;> (try rw [wg16]) <;> (try rw [wg17]) <;> (try rw [wg18]) <;> (try rw [wg19]) <;> (try rw [wg20]) <;> (try rw [wg1]) <;> (try rw [wg2]) <;> (try rw [wg3]) <;> (try rw [wg4]) <;> (try rw [wg5]) <;> (try rw [wg6]) <;> (try rw [wg7]) <;> (try rw [wg8]) <;> (try rw [wg9]) <;> (try rw [wg10]) <;> omega), ?_⟩
    intro m21 qm21 p22 p23 p24 p25 p26
    have z27 := zfx_t z0 qm21 rfl rfl
    have w28 : m21.1 66 ((30 : Nat) : Int) = g12 := (qm21.2.1 30 rfl).trans wg12
    have w29 : m21.1 66 ((38 : Nat) : Int) = g16 := (qm21.2.1 38 rfl).trans wg16
    have w30 : m21.1 66 ((8 : Nat) : Int) = g17 := (qm21.2.1 8 rfl).trans wg17
    have w31 : m21.1 66 ((24 : Nat) : Int) = g18 := (qm21.2.1 24 rfl).trans wg18
    have w32 : m21.1 66 ((25 : Nat) : Int) = g19 := (qm21.2.1 25 rfl).trans wg19
    have w33 : m21.1 66 ((26 : Nat) : Int) = g20 := (qm21.2.1 26 rfl).trans wg20
    obtain ⟨g34, wg34⟩ : ∃ z : Int, m21.1 66 ((31 : Nat) : Int) = z := ⟨_, rfl⟩
    obtain ⟨g35, wg35⟩ : ∃ z : Int, m21.1 66 ((33 : Nat) : Int) = z := ⟨_, rfl⟩
    obtain ⟨g36, wg36⟩ : ∃ z : Int, m21.1 66 ((34 : Nat) : Int) = z := ⟨_, rfl⟩
    obtain ⟨g37, wg37⟩ : ∃ z : Int, m21.1 66 ((32 : Nat) : Int) = z := ⟨_, rfl⟩
    try rw [wg34] at p22
    try rw [w28] at p22
    try rw [wg35] at p22
    try rw [wg36] at p22
    try rw [wg37] at p22
    try rw [w29] at p22
    try rw [w30] at p22
    try rw [w31] at p22
    try rw [w32] at p22
    try rw [w33] at p22
    try rw [wg11] at p22
    try rw [wg12] at p22
    try rw [wg13] at p22
    try rw [wg14] at p22
    try rw [wg15] at p22
    try rw [wg16] at p22
    try rw [wg17] at p22
    try rw [wg18] at p22
    try rw [wg19] at p22
    try rw [wg20] at p22
    try rw [wg1] at p22
    try rw [wg2] at p22
    try rw [wg3] at p22
    try rw [wg4] at p22
    try rw [wg5] at p22
    try rw [wg6] at p22
    try rw [wg7] at p22
    try rw [wg8] at p22
    try rw [wg9] at p22
    try rw [wg10] at p22
    try rw [wg34] at p23
    try rw [w28] at p23
    try rw [wg35] at p23
    try rw [wg36] at p23
    try rw [wg37] at p23
    try rw [w29] at p23
    try rw [w30] at p23
    try rw [w31] at p23
    try rw [w32] at p23
    try rw [w33] at p23
    try rw [wg11] at p23
    try rw [wg12] at p23
    try rw [wg13] at p23
    try rw [wg14] at p23
    try rw [wg15] at p23
    try rw [wg16] at p23
    try rw [wg17] at p23
    try rw [wg18] at p23
    try rw [wg19] at p23
    try rw [wg20] at p23
    try rw [wg1] at p23
    try rw [wg2] at p23
    try rw [wg3] at p23
    try rw [wg4] at p23
    try rw [wg5] at p23
    try rw [wg6] at p23
    try rw [wg7] at p23
    try rw [wg8] at p23
    try rw [wg9] at p23
    try rw [wg10] at p23
    try rw [wg34] at p24
    try rw [w28] at p24
    try rw [wg35] at p24
    try rw [wg36] at p24
    try rw [wg37] at p24
    try rw [w29] at p24
    try rw [w30] at p24
    try rw [w31] at p24
    try rw [w32] at p24
    try rw [w33] at p24
    try rw [wg11] at p24
    try rw [wg12] at p24
    try rw [wg13] at p24
    try rw [wg14] at p24
    try rw [wg15] at p24
    try rw [wg16] at p24
    try rw [wg17] at p24
    try rw [wg18] at p24
    try rw [wg19] at p24
    try rw [wg20] at p24
    try rw [wg1] at p24
    try rw [wg2] at p24
    try rw [wg3] at p24
    try rw [wg4] at p24
    try rw [wg5] at p24
    try rw [wg6] at p24
    try rw [wg7] at p24
    try rw [wg8] at p24
    try rw [wg9] at p24
    try rw [wg10] at p24
    try rw [wg34] at p25
    try rw [w28] at p25
    try rw [wg35] at p25
    try rw [wg36] at p25
    try rw [wg37] at p25
    try rw [w29] at p25
    try rw [w30] at p25
    try rw [w31] at p25
    try rw [w32] at p25
    try rw [w33] at p25
    try rw [wg11] at p25
    try rw [wg12] at p25
    try rw [wg13] at p25
    try rw [wg14] at p25
    try rw [wg15] at p25
    try rw [wg16] at p25
    try rw [wg17] at p25
    try rw [wg18] at p25
    try rw [wg19] at p25
    try rw [wg20] at p25
    try rw [wg1] at p25
    try rw [wg2] at p25
    try rw [wg3] at p25
    try rw [wg4] at p25
    try rw [wg5] at p25
    try rw [wg6] at p25
    try rw [wg7] at p25
    try rw [wg8] at p25
    try rw [wg9] at p25
    try rw [wg10] at p25
    have ot38 := zOt_fr i9 (qm21.1 76 (by decide) rfl) (qm21.1 77 (by decide) rfl) (qm21.1 78 (by decide) rfl) (qm21.1 79 (by decide) rfl) (qm21.1 80 (by decide) rfl) (qm21.1 83 (by decide) rfl) (qm21.1 84 (by decide) rfl)
    have TE39 := zTE_fr (m' := m21) i3 (fun j a b => qm21.1 j (by omega) (zanyF (by simp <;> omega))) (qm21.2.1 8 rfl) (qm21.2.1 38 rfl)
    have BD40 := zSp_fr i4 (fun j a b => qm21.1 j (by omega) (zanyF (by simp <;> omega))) (qm21.2.1 8 rfl) (qm21.2.1 38 rfl)
    have ZP : zrm m21 < zrm m0 := (by unfold zrm; simp only [wg34, w28, wg35, wg36, wg37, w29, w30, w31, w32, w33, wg11, wg12, wg13, wg14, wg15, wg16, wg17, wg18, wg19, wg20, wg1, wg2, wg3, wg4, wg5, wg6, wg7, wg8, wg9, wg10]; (repeat' split) <;> omega)
    have L2 := rLx_p LQ (qm21.1 85 (by decide) rfl) (qm21.2.1 30 rfl) p26
    have N2 := rNu_z NQ qm21 ⟨rfl, rfl, rfl, rfl, rfl, rfl⟩ ⟨rfl, rfl, rfl, rfl, rfl, rfl⟩
    have S2 := rSu_c SQ (fun j a b => qm21.1 j (by omega) (zanyF (by simp <;> omega))) (qm21.1 78 (by decide) rfl) (qm21.2.1 8 rfl)
    have CN : Bq.1 0 0 = v1 + 1 := by have h0 := N2.1.2.2.1; rw [w33] at h0; omega
    have V5 := rB5_v Bq 1 (rq7 Bq)
    have D2 := rTd_c DQ (fun j a b => qm21.1 j (by omega) (zanyF (by simp <;> omega))) (qm21.1 78 (by decide) rfl) (qm21.1 83 (by decide) rfl) (qm21.2.1 8 rfl)
    intro x41 hx41 kx41 lx41
    rw [w31] at hx41
    refine And.intro ⟨by omega, by omega⟩ ?_
    intro x42 hx42 kx42 lx42
    rw [show (x41 + v1) = 21 + v1 by omega] at hx42
    have BC : x42 = Bq.1 4 (Bq.1 0 3) := by rw [OQ.1, hx42]; exact (N2.2.1 v1 (by omega) (by omega)).2.2.2
    refine And.intro ⟨⟨by omega, by omega⟩, ⟨by omega, by omega⟩⟩ (And.intro (fun c43 => ?_) (fun c43 => ?_))
    · have NM : 0 ≤ m21.1 66 ((38 : Nat) : Int) := (by (try rw [wg34]) <;> (try rw [w28]) <;> (try rw [wg35]) <;> (try rw [wg36]) <;> (try rw [wg37]) <;> (try rw [w29]) <;> (try rw [w30]) <;> (try rw [w31]) <;> (try rw [w32]) <;> (try rw [w33]) <;> (try rw [wg11]) <;> (try rw [wg12]) <;> (try rw [wg13]) <;> (try rw [wg14]) <;> (try rw [wg15]) <;> (try rw [wg16]) <;> (try rw [wg17]) <;> (try rw [wg18]) <;> (try rw [wg19]) <;> (try rw [wg20]) <;> (try rw [wg1]) <;> (try rw [wg2]) <;> (try rw [wg3]) <;> (try rw [wg4]) <;> (try rw [wg5]) <;> (try rw [wg6]) <;> (try rw [wg7]) <;> (try rw [wg8]) <;> (try rw [wg9]) <;> (try rw [wg10]) <;> omega)
      refine ⟨yk_X9_readType, ym_X9_readType hg d (by omega), _, _, _, _, _, _, _, _, _, _, τ, (ynx τ pq), (rB5 Bq 1 (rq7 Bq)), _, _, rfl, ⟨by omega, by omega⟩, ⟨by omega, by omega⟩, ⟨by omega, by omega⟩, (by (try rw [wg34]) <;> (try rw [w28]) <;> (try rw [wg35]) <;> (try rw [wg36]) <;> (try rw [wg37]) <;> (try rw [w29]) <;> (try rw [w30]) <;> (try rw [w31]) <;> (try rw [w32]) <;> (try rw [w33]) <;> (try rw [wg11]) <;> (try rw [wg12]) <;> (try rw [wg13]) <;> (try rw [wg14]) <;> (try rw [wg15]) <;> (try rw [wg16]) <;> (try rw [wg17]) <;> (try rw [wg18]) <;> (try rw [wg19]) <;> (try rw [wg20]) <;> (try rw [wg1]) <;> (try rw [wg2]) <;> (try rw [wg3]) <;> (try rw [wg4]) <;> (try rw [wg5]) <;> (try rw [wg6]) <;> (try rw [wg7]) <;> (try rw [wg8]) <;> (try rw [wg9]) <;> (try rw [wg10]) <;> omega), TE39.1.1, TE39.1.2.1, (by rw [show m21.1 66 ((26 : Nat) : Int) = v1 + 1 by (try rw [w33]); omega, show m21.1 66 ((24 : Nat) : Int) = 21 by (try rw [w31]); omega, show m21.1 76 = μ.1 76 from z27.1 76 (by decide) rfl, show m21.1 77 = μ.1 77 from z27.1 77 (by decide) rfl]; exact ⟨Int.le_refl _, fun _ => hp4.2.1, by omega, hp4.2.2⟩), (fun v a b => by rw [show m21.1 66 ((24 : Nat) : Int) = 21 by (try rw [w31]); omega, show m21.1 77 = μ.1 77 from z27.1 77 (by decide) rfl]; rfl), (by (try rw [w30]); (try rw [w29]); exact ⟨zTE_pre TE39 w30 w29 wg7 wg6 hp5.1, by omega, by omega⟩), (fun _ => by rw [show m21.1 66 ((24 : Nat) : Int) = 21 by (try rw [w31]); omega, show m21.1 76 = μ.1 76 from z27.1 76 (by decide) rfl, show m21.1 77 = μ.1 77 from z27.1 77 (by decide) rfl]; exact ⟨Int.le_refl (zXf μ v1), Int.le_refl (zXf μ v1 + zXn μ v1)⟩), ⟨L2, rNu_5 N2⟩, ⟨yI0_5 HI7.1, by rw [V5.1.2.2.2]; exact OQ.1.symm⟩, ⟨V5.2.1.1.symm, r5_7 (by first | exact Or.inl ⟨rfl, by omega⟩ | exact Or.inr ⟨rfl, by omega⟩)⟩, (by rw [V5.1.1]; exact CN.symm), ?_⟩
      intro x44 m45 qm45 kx44 lx44 p46 p47 p48 p49 p50 p51 p52 p53
      have z54 := zfx_t z27 qm45 rfl rfl
      have w55 : m45.1 66 ((30 : Nat) : Int) = g12 := (qm45.2.1 30 rfl).trans w28
      have w56 : m45.1 66 ((24 : Nat) : Int) = g18 := (qm45.2.1 24 rfl).trans w31
      have w57 : m45.1 66 ((25 : Nat) : Int) = g19 := (qm45.2.1 25 rfl).trans w32
      have w58 : m45.1 66 ((26 : Nat) : Int) = g20 := (qm45.2.1 26 rfl).trans w33
      obtain ⟨g59, wg59⟩ : ∃ z : Int, m45.1 66 ((31 : Nat) : Int) = z := ⟨_, rfl⟩
      obtain ⟨g60, wg60⟩ : ∃ z : Int, m45.1 66 ((33 : Nat) : Int) = z := ⟨_, rfl⟩
      obtain ⟨g61, wg61⟩ : ∃ z : Int, m45.1 66 ((34 : Nat) : Int) = z := ⟨_, rfl⟩
      obtain ⟨g62, wg62⟩ : ∃ z : Int, m45.1 66 ((32 : Nat) : Int) = z := ⟨_, rfl⟩
      obtain ⟨g63, wg63⟩ : ∃ z : Int, m45.1 66 ((38 : Nat) : Int) = z := ⟨_, rfl⟩
      obtain ⟨g64, wg64⟩ : ∃ z : Int, m45.1 66 ((8 : Nat) : Int) = z := ⟨_, rfl⟩
      try rw [wg59] at p46
      try rw [w55] at p46
      try rw [wg60] at p46
      try rw [wg61] at p46
      try rw [wg62] at p46
      try rw [wg63] at p46
      try rw [wg64] at p46
      try rw [w56] at p46
      try rw [w57] at p46
      try rw [w58] at p46
      try rw [wg34] at p46
      try rw [w28] at p46
      try rw [wg35] at p46
      try rw [wg36] at p46
      try rw [wg37] at p46
      try rw [w29] at p46
      try rw [w30] at p46
      try rw [w31] at p46
      try rw [w32] at p46
      try rw [w33] at p46
      try rw [wg1] at p46
      try rw [wg2] at p46
      try rw [wg3] at p46
      try rw [wg4] at p46
      try rw [wg5] at p46
      try rw [wg6] at p46
      try rw [wg7] at p46
      try rw [wg8] at p46
      try rw [wg9] at p46
      try rw [wg10] at p46
      try rw [wg59] at p47
      try rw [w55] at p47
      try rw [wg60] at p47
      try rw [wg61] at p47
      try rw [wg62] at p47
      try rw [wg63] at p47
      try rw [wg64] at p47
      try rw [w56] at p47
      try rw [w57] at p47
      try rw [w58] at p47
      try rw [wg34] at p47
      try rw [w28] at p47
      try rw [wg35] at p47
      try rw [wg36] at p47
      try rw [wg37] at p47
      try rw [w29] at p47
      try rw [w30] at p47
      try rw [w31] at p47
      try rw [w32] at p47
      try rw [w33] at p47
      try rw [wg1] at p47
      try rw [wg2] at p47
      try rw [wg3] at p47
      try rw [wg4] at p47
      try rw [wg5] at p47
      try rw [wg6] at p47
      try rw [wg7] at p47
      try rw [wg8] at p47
      try rw [wg9] at p47
      try rw [wg10] at p47
      try rw [wg59] at p48
      try rw [w55] at p48
      try rw [wg60] at p48
      try rw [wg61] at p48
      try rw [wg62] at p48
      try rw [wg63] at p48
      try rw [wg64] at p48
      try rw [w56] at p48
      try rw [w57] at p48
      try rw [w58] at p48
      try rw [wg34] at p48
      try rw [w28] at p48
      try rw [wg35] at p48
      try rw [wg36] at p48
      try rw [wg37] at p48
      try rw [w29] at p48
      try rw [w30] at p48
      try rw [w31] at p48
      try rw [w32] at p48
      try rw [w33] at p48
      try rw [wg1] at p48
      try rw [wg2] at p48
      try rw [wg3] at p48
      try rw [wg4] at p48
      try rw [wg5] at p48
      try rw [wg6] at p48
      try rw [wg7] at p48
      try rw [wg8] at p48
      try rw [wg9] at p48
      try rw [wg10] at p48
      try rw [wg59] at p49
      try rw [w55] at p49
      try rw [wg60] at p49
      try rw [wg61] at p49
      try rw [wg62] at p49
      try rw [wg63] at p49
      try rw [wg64] at p49
      try rw [w56] at p49
      try rw [w57] at p49
      try rw [w58] at p49
      try rw [wg34] at p49
      try rw [w28] at p49
      try rw [wg35] at p49
      try rw [wg36] at p49
      try rw [wg37] at p49
      try rw [w29] at p49
      try rw [w30] at p49
      try rw [w31] at p49
      try rw [w32] at p49
      try rw [w33] at p49
      try rw [wg1] at p49
      try rw [wg2] at p49
      try rw [wg3] at p49
      try rw [wg4] at p49
      try rw [wg5] at p49
      try rw [wg6] at p49
      try rw [wg7] at p49
      try rw [wg8] at p49
      try rw [wg9] at p49
      try rw [wg10] at p49
      try rw [wg59] at p50
      try rw [w55] at p50
      try rw [wg60] at p50
      try rw [wg61] at p50
      try rw [wg62] at p50
      try rw [wg63] at p50
      try rw [wg64] at p50
      try rw [w56] at p50
      try rw [w57] at p50
      try rw [w58] at p50
      try rw [wg34] at p50
      try rw [w28] at p50
      try rw [wg35] at p50
      try rw [wg36] at p50
      try rw [wg37] at p50
      try rw [w29] at p50
      try rw [w30] at p50
      try rw [w31] at p50
      try rw [w32] at p50
      try rw [w33] at p50
      try rw [wg1] at p50
      try rw [wg2] at p50
      try rw [wg3] at p50
      try rw [wg4] at p50
      try rw [wg5] at p50
      try rw [wg6] at p50
      try rw [wg7] at p50
      try rw [wg8] at p50
      try rw [wg9] at p50
      try rw [wg10] at p50
      try rw [wg59] at p51
      try rw [w55] at p51
      try rw [wg60] at p51
      try rw [wg61] at p51
      try rw [wg62] at p51
      try rw [wg63] at p51
      try rw [wg64] at p51
      try rw [w56] at p51
      try rw [w57] at p51
      try rw [w58] at p51
      try rw [wg34] at p51
      try rw [w28] at p51
      try rw [wg35] at p51
      try rw [wg36] at p51
      try rw [wg37] at p51
      try rw [w29] at p51
      try rw [w30] at p51
      try rw [w31] at p51
      try rw [w32] at p51
      try rw [w33] at p51
      try rw [wg1] at p51
      try rw [wg2] at p51
      try rw [wg3] at p51
      try rw [wg4] at p51
      try rw [wg5] at p51
      try rw [wg6] at p51
      try rw [wg7] at p51
      try rw [wg8] at p51
      try rw [wg9] at p51
      try rw [wg10] at p51
      try rw [wg59] at p52
      try rw [w55] at p52
      try rw [wg60] at p52
      try rw [wg61] at p52
      try rw [wg62] at p52
      try rw [wg63] at p52
      try rw [wg64] at p52
      try rw [w56] at p52
      try rw [w57] at p52
      try rw [w58] at p52
      try rw [wg34] at p52
      try rw [w28] at p52
      try rw [wg35] at p52
      try rw [wg36] at p52
      try rw [wg37] at p52
      try rw [w29] at p52
      try rw [w30] at p52
      try rw [w31] at p52
      try rw [w32] at p52
      try rw [w33] at p52
      try rw [wg1] at p52
      try rw [wg2] at p52
      try rw [wg3] at p52
      try rw [wg4] at p52
      try rw [wg5] at p52
      try rw [wg6] at p52
      try rw [wg7] at p52
      try rw [wg8] at p52
      try rw [wg9] at p52
      try rw [wg10] at p52
      clear wg34 w28 wg35 wg36 wg37 w29 w30 w31 w32 w33
      have ot65 := zOt_fr ot38 (qm45.1 76 (by decide) rfl) (qm45.1 77 (by decide) rfl) (qm45.1 78 (by decide) rfl) (qm45.1 79 (by decide) rfl) (qm45.1 80 (by decide) rfl) (qm45.1 83 (by decide) rfl) (qm45.1 84 (by decide) rfl)
      have S4 := rSu_old S2 TE39.1.1.1.1 p48.1.2.2.1 TE39.1.1.2.1 (qm45.1 78 (by decide) rfl) p48.1.2.2.2.1
      have D4 := rTd_old D2 p48.1.2.2.1 TE39.1.1.2.1 (qm45.1 78 (by decide) rfl) (qm45.1 83 (by decide) rfl) p48.1.2.2.2.1
      have W1 := zW1s_old BD40.1 TE39.1.1.1.1 p48.1.2.2.1 (qm45.1 78 (by decide) rfl) (qm45.1 79 (by decide) rfl)
      have W2 := BD40.2.1
      have TE2 := zTE_t TE39 p48
      have BD2 := zSp_old BD40 TE39.1.1.1.1 TE39.1.1.2.1 p48.1.2.2.1 p48.1.2.2.2.1 (fun j a b => qm45.1 j (by omega) (zanyF (by simp <;> omega))) (by have := p48.2.2; unfold zTn at this; omega)
      refine And.intro ⟨by omega, by omega⟩ (And.intro (fun c66 => ?_) (fun c66 => ?_))
      · have ZN : zTn m21 m45 ≤ 300 := by unfold zTn; (try rw [wg59]) <;> (try rw [w55]) <;> (try rw [wg60]) <;> (try rw [wg61]) <;> (try rw [wg62]) <;> (try rw [wg63]) <;> (try rw [wg64]) <;> (try rw [w56]) <;> (try rw [w57]) <;> (try rw [w58]) <;> (try rw [wg11]) <;> (try rw [wg12]) <;> (try rw [wg13]) <;> (try rw [wg14]) <;> (try rw [wg15]) <;> (try rw [wg16]) <;> (try rw [wg17]) <;> (try rw [wg18]) <;> (try rw [wg19]) <;> (try rw [wg20]) <;> (try rw [wg1]) <;> (try rw [wg2]) <;> (try rw [wg3]) <;> (try rw [wg4]) <;> (try rw [wg5]) <;> (try rw [wg6]) <;> (try rw [wg7]) <;> (try rw [wg8]) <;> (try rw [wg9]) <;> (try rw [wg10]) <;> omega
        have C5 : lo ≤ x44 ∧ x44 < zTop m45 ∧ m45.1 67 x44 = 0 ∧ m45.1 68 x44 ≠ v1 ∧ zA2 m45 x44 ∧ zPar m45 (zXf μ v1) (zXf μ v1 + zXn μ v1) x44 ∧ m45.1 71 x44 ≤ zTn m21 m45 := by rcases p51 with c | c; (exfalso; omega); exact ⟨c.1, c.2.1, c.2.2.2.1 (by omega), (c.2.2.2.2.1 rfl).1, (c.2.2.2.2.1 rfl).2, c.2.2.2.2.2.1, c.2.2.2.2.2.2⟩
        have TX : zTx m45 lo x44 := ⟨⟨C5.1, C5.2.1⟩, by have := C5.2.2.2.2.2.2; omega, C5.2.2.1⟩
        have VL := ((TE2.1.2.1 x44 C5.1 C5.2.1).2.1 C5.2.2.1).1
        have VN := C5.2.2.2.1
        have HS : zW1s m45 v1 + m45.1 71 x44 ≤ zTn μ m45 := by have h1 := C5.2.2.2.2.2.2; unfold zTn at h1 W2 ⊢; omega
        have ZQ : zrm m45 ≤ zrm m21 := by rcases p50 with c | c; (exfalso; omega); exact c
        have PX : zXf m45 v1 = zXf μ v1 ∧ zXn m45 v1 = zXn μ v1 := by unfold zXf zXn; rw [show m45.1 76 = μ.1 76 from z54.1 76 (by decide) rfl, show m45.1 77 = μ.1 77 from z54.1 77 (by decide) rfl]; exact ⟨rfl, rfl⟩
        obtain ⟨-, p1, n1, h1, as1, RT, L4, N4, E4⟩ := Or.resolve_left p53 (fun h0 => by have h2 := h0.1; omega)
        have KK4 := rkd L4 wg62
        have BO := rbs RQ RT
        have WV := rWs_v Bq n1 ([h1] :: as1)
        intro x67 hx67 kx67 lx67
        rw [w56] at hx67
        intro x68 hx68 kx68 lx68
        rw [w56] at hx68
        refine And.intro ⟨by omega, by omega⟩ ?_
        intro x69 hx69 kx69 lx69
        rw [qm45.1 79 (by decide) rfl, show (x68 + v1) = 21 + v1 by omega] at hx69
        refine And.intro ⟨by omega, by omega⟩ (And.intro ⟨by omega, by omega⟩ ?_)
        intro m70 em70
        have z71 := zfx_r z54 em70 rfl (by decide)
        have w72 : m70.1 66 ((31 : Nat) : Int) = g59 := by rw [em70]; exact (congrFun (zu_ne (by decide)) _).trans wg59
        have w73 : m70.1 66 ((30 : Nat) : Int) = g12 := by rw [em70]; exact (congrFun (zu_ne (by decide)) _).trans w55
        have w74 : m70.1 66 ((33 : Nat) : Int) = g60 := by rw [em70]; exact (congrFun (zu_ne (by decide)) _).trans wg60
        have w75 : m70.1 66 ((34 : Nat) : Int) = g61 := by rw [em70]; exact (congrFun (zu_ne (by decide)) _).trans wg61
        have w76 : m70.1 66 ((32 : Nat) : Int) = g62 := by rw [em70]; exact (congrFun (zu_ne (by decide)) _).trans wg62
        have w77 : m70.1 66 ((38 : Nat) : Int) = g63 := by rw [em70]; exact (congrFun (zu_ne (by decide)) _).trans wg63
        have w78 : m70.1 66 ((8 : Nat) : Int) = g64 := by rw [em70]; exact (congrFun (zu_ne (by decide)) _).trans wg64
        have w79 : m70.1 66 ((24 : Nat) : Int) = g18 := by rw [em70]; exact (congrFun (zu_ne (by decide)) _).trans w56
        have w80 : m70.1 66 ((25 : Nat) : Int) = g19 := by rw [em70]; exact (congrFun (zu_ne (by decide)) _).trans w57
        have w81 : m70.1 66 ((26 : Nat) : Int) = g20 := by rw [em70]; exact (congrFun (zu_ne (by decide)) _).trans w58
        clear wg59 w55 wg60 wg61 wg62 wg63 wg64 w56 w57 w58
        have ot82 := zOt_w ot65 em70 (by have hk : (84 : Int) ≤ ((4 * (x67 + v1)) + x69) := (by omega); refine ⟨fun h => ?_, fun h => ?_, fun h => ?_, fun h => ?_, fun h => ?_⟩ <;> first | exact hk | (exfalso; revert h; decide))
        intro x83 hx83 kx83 lx83
        rw [w79] at hx83
        refine And.intro ⟨by omega, by omega⟩ ?_
        intro x84 hx84 kx84 lx84
        rw [em70, zu_ne (by decide), qm45.1 79 (by decide) rfl, show (x83 + v1) = 21 + v1 by omega] at hx84
        refine And.intro ⟨by omega, by omega⟩ (And.intro ⟨by omega, by omega⟩ ?_)
        intro m85 em85
        have z86 := zfx_r z71 em85 rfl (by decide)
        have w87 : m85.1 66 ((31 : Nat) : Int) = g59 := by rw [em85]; exact (congrFun (zu_ne (by decide)) _).trans w72
        have w88 : m85.1 66 ((30 : Nat) : Int) = g12 := by rw [em85]; exact (congrFun (zu_ne (by decide)) _).trans w73
        have w89 : m85.1 66 ((33 : Nat) : Int) = g60 := by rw [em85]; exact (congrFun (zu_ne (by decide)) _).trans w74
        have w90 : m85.1 66 ((34 : Nat) : Int) = g61 := by rw [em85]; exact (congrFun (zu_ne (by decide)) _).trans w75
        have w91 : m85.1 66 ((32 : Nat) : Int) = g62 := by rw [em85]; exact (congrFun (zu_ne (by decide)) _).trans w76
        have w92 : m85.1 66 ((38 : Nat) : Int) = g63 := by rw [em85]; exact (congrFun (zu_ne (by decide)) _).trans w77
        have w93 : m85.1 66 ((8 : Nat) : Int) = g64 := by rw [em85]; exact (congrFun (zu_ne (by decide)) _).trans w78
        have w94 : m85.1 66 ((24 : Nat) : Int) = g18 := by rw [em85]; exact (congrFun (zu_ne (by decide)) _).trans w79
        have w95 : m85.1 66 ((25 : Nat) : Int) = g19 := by rw [em85]; exact (congrFun (zu_ne (by decide)) _).trans w80
        have w96 : m85.1 66 ((26 : Nat) : Int) = g20 := by rw [em85]; exact (congrFun (zu_ne (by decide)) _).trans w81
        clear w72 w73 w74 w75 w76 w77 w78 w79 w80 w81
        have ot97 := zOt_w ot82 em85 (by have hk : (21 : Int) ≤ (x83 + v1) := (by omega); refine ⟨fun h => ?_, fun h => ?_, fun h => ?_, fun h => ?_, fun h => ?_⟩ <;> first | exact hk | (exfalso; revert h; decide))
        have Y79 : m45.1 79 (21 + v1) = x69 := by rw [qm45.1 79 (by decide) rfl]; omega
        have BD3 := zSp_w (c := v1) BD2 em70 (by omega) (by omega) TX (by omega) C5.2.2.2.2.1 (by rw [PX.1, PX.2]; exact C5.2.2.2.2.2.1) HS em85 (by omega) (by omega)
        have TE3 := zTE_fr (m' := m85) TE2 (fun j a b => by rw [em85, zu_ne (by omega), em70, zu_ne (by omega)]) (by rw [em85, zu_ne (by decide), em70, zu_ne (by decide)]) (by rw [em85, zu_ne (by decide), em70, zu_ne (by decide)])
        have ZR : zrm m85 ≤ zrm m45 := zrm_e (fun j => by rw [em85, zu_ne (by decide), em70, zu_ne (by decide)])
        have ZL : zrm m85 < zrm m0 := Int.lt_of_le_of_lt ZR (Int.lt_of_le_of_lt ZQ ZP)
        have N5 := rNu_bs (m := m85) (r := v1) (l := [h1] :: as1) N4 (fun k => by rw [em85, zu_if, em70, zu_ne (by decide)]; by_cases hk : k = 21 + v1; (rw [if_pos hk, if_pos (by omega)]; omega); (rw [if_neg hk, if_neg (by omega)])) ⟨by omega, by rw [yN_ne (by omega), V5.1.1]; omega⟩ (fun j hj => by rw [em85, zu_ne (by omega), em70, zu_ne (by omega)]) (fun k hk => by rw [em85, zu_ne (by decide), em70, zu_ne (by decide)])
        have N6 : rNu m85 (rWs Bq n1 ([h1] :: as1)) := by unfold rWs; rw [OQ.1]; exact N5
        have L5 : rLx m85 τ p1 := rLx_f L4 (by rw [em85, zu_ne (by decide), em70, zu_ne (by decide)]) (fun k a b => by rw [em85, zu_ne (by decide), em70, zu_ne (by decide)])
        have OX : (rWs Bq n1 ([h1] :: as1)).1 0 3 = v1 ∧ (rWs Bq n1 ([h1] :: as1)).2 2 = B.2 2 := ⟨WV.1.1.trans OQ.1, WV.1.2.trans OQ.2⟩
        have S5 : rSu m85 (rWs Bq n1 ([h1] :: as1)) (Bq.1 0 3) lo := rSu_w (by rw [OQ.1]; exact S4) em70 (by rw [← BC]; omega) (fun j hj => by rw [em85, zu_ne hj]) ⟨C5.1, C5.2.1⟩ E4
        rw [OQ.1] at S5
        have D5 : rTd m85 (rWs Bq n1 ([h1] :: as1)) := rTd_ws D4 em70 (by rw [← BC, OQ.1]; omega) ⟨by rw [← BC]; omega, by rw [← BC]; omega⟩ (fun j hj => by rw [em85, zu_ne hj]) ⟨by have h0 := C5.1; have h1 := hp1.1.1; omega, C5.2.1⟩ E4
        intro x98 hx98 kx98 lx98
        rw [w91] at hx98
        refine And.intro ⟨⟨by omega, by omega⟩, ⟨by omega, by omega⟩⟩ (And.intro (fun c99 => ?_) (fun c99 => ?_))
        · refine Exists.intro (Int.toNat (zrm m85)) (And.intro (zrN ZL (zrm_0 (by (try rw [w87]) <;> (try rw [w88]) <;> (try rw [w89]) <;> (try rw [w90]) <;> (try rw [w91]) <;> (try rw [w92]) <;> (try rw [w93]) <;> (try rw [w94]) <;> (try rw [w95]) <;> (try rw [w96]) <;> (try rw [wg11]) <;> (try rw [wg12]) <;> (try rw [wg13]) <;> (try rw [wg14]) <;> (try rw [wg15]) <;> (try rw [wg16]) <;> (try rw [wg17]) <;> (try rw [wg18]) <;> (try rw [wg19]) <;> (try rw [wg20]) <;> (try rw [wg1]) <;> (try rw [wg2]) <;> (try rw [wg3]) <;> (try rw [wg4]) <;> (try rw [wg5]) <;> (try rw [wg6]) <;> (try rw [wg7]) <;> (try rw [wg8]) <;> (try rw [wg9]) <;> (try rw [wg10]) <;> omega))) ?_)
          exact ⟨_, rfl, z86, ⟨by omega, by omega⟩, (by (try rw [w87]) <;> (try rw [w88]) <;> (try rw [w89]) <;> (try rw [w90]) <;> (try rw [w91]) <;> (try rw [w92]) <;> (try rw [w93]) <;> (try rw [w94]) <;> (try rw [w95]) <;> (try rw [w96]) <;> (try rw [wg11]) <;> (try rw [wg12]) <;> (try rw [wg13]) <;> (try rw [wg14]) <;> (try rw [wg15]) <;> (try rw [wg16]) <;> (try rw [wg17]) <;> (try rw [wg18]) <;> (try rw [wg19]) <;> (try rw [wg20]) <;> (try rw [wg1]) <;> (try rw [wg2]) <;> (try rw [wg3]) <;> (try rw [wg4]) <;> (try rw [wg5]) <;> (try rw [wg6]) <;> (try rw [wg7]) <;> (try rw [wg8]) <;> (try rw [wg9]) <;> (try rw [wg10]) <;> omega), (by (try rw [w87]) <;> (try rw [w88]) <;> (try rw [w89]) <;> (try rw [w90]) <;> (try rw [w91]) <;> (try rw [w92]) <;> (try rw [w93]) <;> (try rw [w94]) <;> (try rw [w95]) <;> (try rw [w96]) <;> (try rw [wg11]) <;> (try rw [wg12]) <;> (try rw [wg13]) <;> (try rw [wg14]) <;> (try rw [wg15]) <;> (try rw [wg16]) <;> (try rw [wg17]) <;> (try rw [wg18]) <;> (try rw [wg19]) <;> (try rw [wg20]) <;> (try rw [wg1]) <;> (try rw [wg2]) <;> (try rw [wg3]) <;> (try rw [wg4]) <;> (try rw [wg5]) <;> (try rw [wg6]) <;> (try rw [wg7]) <;> (try rw [wg8]) <;> (try rw [wg9]) <;> (try rw [wg10]) <;> omega), rfl, TE3, BD3, (by (try rw [w87]) <;> (try rw [w88]) <;> (try rw [w89]) <;> (try rw [w90]) <;> (try rw [w91]) <;> (try rw [w92]) <;> (try rw [w93]) <;> (try rw [w94]) <;> (try rw [w95]) <;> (try rw [w96]) <;> (try rw [wg11]) <;> (try rw [wg12]) <;> (try rw [wg13]) <;> (try rw [wg14]) <;> (try rw [wg15]) <;> (try rw [wg16]) <;> (try rw [wg17]) <;> (try rw [wg18]) <;> (try rw [wg19]) <;> (try rw [wg20]) <;> (try rw [wg1]) <;> (try rw [wg2]) <;> (try rw [wg3]) <;> (try rw [wg4]) <;> (try rw [wg5]) <;> (try rw [wg6]) <;> (try rw [wg7]) <;> (try rw [wg8]) <;> (try rw [wg9]) <;> (try rw [wg10]) <;> omega), (Or.inr (by (try rw [w87]) <;> (try rw [w88]) <;> (try rw [w89]) <;> (try rw [w90]) <;> (try rw [w91]) <;> (try rw [w92]) <;> (try rw [w93]) <;> (try rw [w94]) <;> (try rw [w95]) <;> (try rw [w96]) <;> (try rw [wg11]) <;> (try rw [wg12]) <;> (try rw [wg13]) <;> (try rw [wg14]) <;> (try rw [wg15]) <;> (try rw [wg16]) <;> (try rw [wg17]) <;> (try rw [wg18]) <;> (try rw [wg19]) <;> (try rw [wg20]) <;> (try rw [wg1]) <;> (try rw [wg2]) <;> (try rw [wg3]) <;> (try rw [wg4]) <;> (try rw [wg5]) <;> (try rw [wg6]) <;> (try rw [wg7]) <;> (try rw [wg8]) <;> (try rw [wg9]) <;> (try rw [wg10]) <;> omega)), (Int.le_of_lt (Int.lt_of_lt_of_le ZL i7)), (by (try rw [w87]) <;> (try rw [w88]) <;> (try rw [w89]) <;> (try rw [w90]) <;> (try rw [w91]) <;> (try rw [w92]) <;> (try rw [w93]) <;> (try rw [w94]) <;> (try rw [w95]) <;> (try rw [w96]) <;> (try rw [wg11]) <;> (try rw [wg12]) <;> (try rw [wg13]) <;> (try rw [wg14]) <;> (try rw [wg15]) <;> (try rw [wg16]) <;> (try rw [wg17]) <;> (try rw [wg18]) <;> (try rw [wg19]) <;> (try rw [wg20]) <;> (try rw [wg1]) <;> (try rw [wg2]) <;> (try rw [wg3]) <;> (try rw [wg4]) <;> (try rw [wg5]) <;> (try rw [wg6]) <;> (try rw [wg7]) <;> (try rw [wg8]) <;> (try rw [wg9]) <;> (try rw [wg10]) <;> omega), ot97, ⟨p1, _, BO.1 ((rKd_s 44 KK4 (by decide)).mp (by omega)), L5, N6, OX, S5, D5⟩, rfl⟩
        · exact And.intro (zrtb (by omega)) (And.intro ⟨by omega, by omega⟩ (hQ _ _ z86 (by omega) (by omega) (by (try rw [w87]) <;> (try rw [w88]) <;> (try rw [w89]) <;> (try rw [w90]) <;> (try rw [w91]) <;> (try rw [w92]) <;> (try rw [w93]) <;> (try rw [w94]) <;> (try rw [w95]) <;> (try rw [w96]) <;> (try rw [wg11]) <;> (try rw [wg12]) <;> (try rw [wg13]) <;> (try rw [wg14]) <;> (try rw [wg15]) <;> (try rw [wg16]) <;> (try rw [wg17]) <;> (try rw [wg18]) <;> (try rw [wg19]) <;> (try rw [wg20]) <;> (try rw [wg1]) <;> (try rw [wg2]) <;> (try rw [wg3]) <;> (try rw [wg4]) <;> (try rw [wg5]) <;> (try rw [wg6]) <;> (try rw [wg7]) <;> (try rw [wg8]) <;> (try rw [wg9]) <;> (try rw [wg10]) <;> omega) (by (try rw [w87]) <;> (try rw [w88]) <;> (try rw [w89]) <;> (try rw [w90]) <;> (try rw [w91]) <;> (try rw [w92]) <;> (try rw [w93]) <;> (try rw [w94]) <;> (try rw [w95]) <;> (try rw [w96]) <;> (try rw [wg11]) <;> (try rw [wg12]) <;> (try rw [wg13]) <;> (try rw [wg14]) <;> (try rw [wg15]) <;> (try rw [wg16]) <;> (try rw [wg17]) <;> (try rw [wg18]) <;> (try rw [wg19]) <;> (try rw [wg20]) <;> (try rw [wg1]) <;> (try rw [wg2]) <;> (try rw [wg3]) <;> (try rw [wg4]) <;> (try rw [wg5]) <;> (try rw [wg6]) <;> (try rw [wg7]) <;> (try rw [wg8]) <;> (try rw [wg9]) <;> (try rw [wg10]) <;> omega) TE3 (by (try rw [w87]) <;> (try rw [w88]) <;> (try rw [w89]) <;> (try rw [w90]) <;> (try rw [w91]) <;> (try rw [w92]) <;> (try rw [w93]) <;> (try rw [w94]) <;> (try rw [w95]) <;> (try rw [w96]) <;> (try rw [wg11]) <;> (try rw [wg12]) <;> (try rw [wg13]) <;> (try rw [wg14]) <;> (try rw [wg15]) <;> (try rw [wg16]) <;> (try rw [wg17]) <;> (try rw [wg18]) <;> (try rw [wg19]) <;> (try rw [wg20]) <;> (try rw [wg1]) <;> (try rw [wg2]) <;> (try rw [wg3]) <;> (try rw [wg4]) <;> (try rw [wg5]) <;> (try rw [wg6]) <;> (try rw [wg7]) <;> (try rw [wg8]) <;> (try rw [wg9]) <;> (try rw [wg10]) <;> omega) (fun h => BD3) (fun h => Int.lt_of_lt_of_le ZL i7) ot97 (Or.inr ⟨rfl, p1, _, BO.2 (fun h0 => by have h2 := (rKd_s 44 KK4 (by decide)).mpr h0; omega), L5, N6, OX, S5, D5⟩)))
      · exact And.intro (zrtb (by omega)) (And.intro ⟨by omega, by omega⟩ (hQ _ _ z54 (by omega) (by omega) (by (try rw [wg59]) <;> (try rw [w55]) <;> (try rw [wg60]) <;> (try rw [wg61]) <;> (try rw [wg62]) <;> (try rw [wg63]) <;> (try rw [wg64]) <;> (try rw [w56]) <;> (try rw [w57]) <;> (try rw [w58]) <;> (try rw [wg11]) <;> (try rw [wg12]) <;> (try rw [wg13]) <;> (try rw [wg14]) <;> (try rw [wg15]) <;> (try rw [wg16]) <;> (try rw [wg17]) <;> (try rw [wg18]) <;> (try rw [wg19]) <;> (try rw [wg20]) <;> (try rw [wg1]) <;> (try rw [wg2]) <;> (try rw [wg3]) <;> (try rw [wg4]) <;> (try rw [wg5]) <;> (try rw [wg6]) <;> (try rw [wg7]) <;> (try rw [wg8]) <;> (try rw [wg9]) <;> (try rw [wg10]) <;> omega) (by (try rw [wg59]) <;> (try rw [w55]) <;> (try rw [wg60]) <;> (try rw [wg61]) <;> (try rw [wg62]) <;> (try rw [wg63]) <;> (try rw [wg64]) <;> (try rw [w56]) <;> (try rw [w57]) <;> (try rw [w58]) <;> (try rw [wg11]) <;> (try rw [wg12]) <;> (try rw [wg13]) <;> (try rw [wg14]) <;> (try rw [wg15]) <;> (try rw [wg16]) <;> (try rw [wg17]) <;> (try rw [wg18]) <;> (try rw [wg19]) <;> (try rw [wg20]) <;> (try rw [wg1]) <;> (try rw [wg2]) <;> (try rw [wg3]) <;> (try rw [wg4]) <;> (try rw [wg5]) <;> (try rw [wg6]) <;> (try rw [wg7]) <;> (try rw [wg8]) <;> (try rw [wg9]) <;> (try rw [wg10]) <;> omega) TE2 (by (try rw [wg59]) <;> (try rw [w55]) <;> (try rw [wg60]) <;> (try rw [wg61]) <;> (try rw [wg62]) <;> (try rw [wg63]) <;> (try rw [wg64]) <;> (try rw [w56]) <;> (try rw [w57]) <;> (try rw [w58]) <;> (try rw [wg11]) <;> (try rw [wg12]) <;> (try rw [wg13]) <;> (try rw [wg14]) <;> (try rw [wg15]) <;> (try rw [wg16]) <;> (try rw [wg17]) <;> (try rw [wg18]) <;> (try rw [wg19]) <;> (try rw [wg20]) <;> (try rw [wg1]) <;> (try rw [wg2]) <;> (try rw [wg3]) <;> (try rw [wg4]) <;> (try rw [wg5]) <;> (try rw [wg6]) <;> (try rw [wg7]) <;> (try rw [wg8]) <;> (try rw [wg9]) <;> (try rw [wg10]) <;> omega) (fun h => by exfalso; omega) (fun h => by exfalso; omega) ot65 (Or.inl ⟨rfl, rFa_t (yR_s RQ (show yms τ (7, pq, 0, [], Bq) = (10, ynx τ pq, 0, [], rB5 Bq 1 (rq7 Bq)) from rfl)) (by rcases p53 with h0 | h0; exact h0.2; (exfalso; have h1 := h0.1; omega))⟩)))
    · have NM : 0 ≤ m21.1 66 ((38 : Nat) : Int) := (by (try rw [wg34]) <;> (try rw [w28]) <;> (try rw [wg35]) <;> (try rw [wg36]) <;> (try rw [wg37]) <;> (try rw [w29]) <;> (try rw [w30]) <;> (try rw [w31]) <;> (try rw [w32]) <;> (try rw [w33]) <;> (try rw [wg11]) <;> (try rw [wg12]) <;> (try rw [wg13]) <;> (try rw [wg14]) <;> (try rw [wg15]) <;> (try rw [wg16]) <;> (try rw [wg17]) <;> (try rw [wg18]) <;> (try rw [wg19]) <;> (try rw [wg20]) <;> (try rw [wg1]) <;> (try rw [wg2]) <;> (try rw [wg3]) <;> (try rw [wg4]) <;> (try rw [wg5]) <;> (try rw [wg6]) <;> (try rw [wg7]) <;> (try rw [wg8]) <;> (try rw [wg9]) <;> (try rw [wg10]) <;> omega)
      refine ⟨yk_X9_readType, ym_X9_readType hg d (by omega), _, _, _, _, _, _, _, _, _, _, τ, (ynx τ pq), (rB5 Bq 1 (rq7 Bq)), _, _, rfl, ⟨by omega, by omega⟩, ⟨by omega, by omega⟩, ⟨by omega, by omega⟩, (by (try rw [wg34]) <;> (try rw [w28]) <;> (try rw [wg35]) <;> (try rw [wg36]) <;> (try rw [wg37]) <;> (try rw [w29]) <;> (try rw [w30]) <;> (try rw [w31]) <;> (try rw [w32]) <;> (try rw [w33]) <;> (try rw [wg11]) <;> (try rw [wg12]) <;> (try rw [wg13]) <;> (try rw [wg14]) <;> (try rw [wg15]) <;> (try rw [wg16]) <;> (try rw [wg17]) <;> (try rw [wg18]) <;> (try rw [wg19]) <;> (try rw [wg20]) <;> (try rw [wg1]) <;> (try rw [wg2]) <;> (try rw [wg3]) <;> (try rw [wg4]) <;> (try rw [wg5]) <;> (try rw [wg6]) <;> (try rw [wg7]) <;> (try rw [wg8]) <;> (try rw [wg9]) <;> (try rw [wg10]) <;> omega), TE39.1.1, TE39.1.2.1, (by rw [show m21.1 66 ((26 : Nat) : Int) = v1 + 1 by (try rw [w33]); omega, show m21.1 66 ((24 : Nat) : Int) = 21 by (try rw [w31]); omega, show m21.1 76 = μ.1 76 from z27.1 76 (by decide) rfl, show m21.1 77 = μ.1 77 from z27.1 77 (by decide) rfl]; exact ⟨Int.le_refl _, fun _ => hp4.2.1, by omega, hp4.2.2⟩), (fun v a b => by rw [show m21.1 66 ((24 : Nat) : Int) = 21 by (try rw [w31]); omega, show m21.1 77 = μ.1 77 from z27.1 77 (by decide) rfl]; rfl), (by (try rw [w30]); (try rw [w29]); exact ⟨zTE_pre TE39 w30 w29 wg7 wg6 hp5.1, by omega, by omega⟩), (fun _ => by rw [show m21.1 66 ((24 : Nat) : Int) = 21 by (try rw [w31]); omega, show m21.1 76 = μ.1 76 from z27.1 76 (by decide) rfl, show m21.1 77 = μ.1 77 from z27.1 77 (by decide) rfl]; exact ⟨Int.le_refl (zXf μ v1), Int.le_refl (zXf μ v1 + zXn μ v1)⟩), ⟨L2, rNu_5 N2⟩, ⟨yI0_5 HI7.1, by rw [V5.1.2.2.2]; exact OQ.1.symm⟩, ⟨V5.2.1.1.symm, r5_7 (by first | exact Or.inl ⟨rfl, by omega⟩ | exact Or.inr ⟨rfl, by omega⟩)⟩, (by rw [V5.1.1]; exact CN.symm), ?_⟩
      intro x100 m101 qm101 kx100 lx100 p102 p103 p104 p105 p106 p107 p108 p109
      have z110 := zfx_t z27 qm101 rfl rfl
      have w111 : m101.1 66 ((30 : Nat) : Int) = g12 := (qm101.2.1 30 rfl).trans w28
      have w112 : m101.1 66 ((24 : Nat) : Int) = g18 := (qm101.2.1 24 rfl).trans w31
      have w113 : m101.1 66 ((25 : Nat) : Int) = g19 := (qm101.2.1 25 rfl).trans w32
      have w114 : m101.1 66 ((26 : Nat) : Int) = g20 := (qm101.2.1 26 rfl).trans w33
      obtain ⟨g115, wg115⟩ : ∃ z : Int, m101.1 66 ((31 : Nat) : Int) = z := ⟨_, rfl⟩
      obtain ⟨g116, wg116⟩ : ∃ z : Int, m101.1 66 ((33 : Nat) : Int) = z := ⟨_, rfl⟩
      obtain ⟨g117, wg117⟩ : ∃ z : Int, m101.1 66 ((34 : Nat) : Int) = z := ⟨_, rfl⟩
      obtain ⟨g118, wg118⟩ : ∃ z : Int, m101.1 66 ((32 : Nat) : Int) = z := ⟨_, rfl⟩
      obtain ⟨g119, wg119⟩ : ∃ z : Int, m101.1 66 ((38 : Nat) : Int) = z := ⟨_, rfl⟩
      obtain ⟨g120, wg120⟩ : ∃ z : Int, m101.1 66 ((8 : Nat) : Int) = z := ⟨_, rfl⟩
      try rw [wg115] at p102
      try rw [w111] at p102
      try rw [wg116] at p102
      try rw [wg117] at p102
      try rw [wg118] at p102
      try rw [wg119] at p102
      try rw [wg120] at p102
      try rw [w112] at p102
      try rw [w113] at p102
      try rw [w114] at p102
      try rw [wg34] at p102
      try rw [w28] at p102
      try rw [wg35] at p102
      try rw [wg36] at p102
      try rw [wg37] at p102
      try rw [w29] at p102
      try rw [w30] at p102
      try rw [w31] at p102
      try rw [w32] at p102
      try rw [w33] at p102
      try rw [wg1] at p102
      try rw [wg2] at p102
      try rw [wg3] at p102
      try rw [wg4] at p102
      try rw [wg5] at p102
      try rw [wg6] at p102
      try rw [wg7] at p102
      try rw [wg8] at p102
      try rw [wg9] at p102
      try rw [wg10] at p102
      try rw [wg115] at p103
      try rw [w111] at p103
      try rw [wg116] at p103
      try rw [wg117] at p103
      try rw [wg118] at p103
      try rw [wg119] at p103
      try rw [wg120] at p103
      try rw [w112] at p103
      try rw [w113] at p103
      try rw [w114] at p103
      try rw [wg34] at p103
      try rw [w28] at p103
      try rw [wg35] at p103
      try rw [wg36] at p103
      try rw [wg37] at p103
      try rw [w29] at p103
      try rw [w30] at p103
      try rw [w31] at p103
      try rw [w32] at p103
      try rw [w33] at p103
      try rw [wg1] at p103
      try rw [wg2] at p103
      try rw [wg3] at p103
      try rw [wg4] at p103
      try rw [wg5] at p103
      try rw [wg6] at p103
      try rw [wg7] at p103
      try rw [wg8] at p103
      try rw [wg9] at p103
      try rw [wg10] at p103
      try rw [wg115] at p104
      try rw [w111] at p104
      try rw [wg116] at p104
      try rw [wg117] at p104
      try rw [wg118] at p104
      try rw [wg119] at p104
      try rw [wg120] at p104
      try rw [w112] at p104
      try rw [w113] at p104
      try rw [w114] at p104
      try rw [wg34] at p104
      try rw [w28] at p104
      try rw [wg35] at p104
      try rw [wg36] at p104
      try rw [wg37] at p104
      try rw [w29] at p104
      try rw [w30] at p104
      try rw [w31] at p104
      try rw [w32] at p104
      try rw [w33] at p104
      try rw [wg1] at p104
      try rw [wg2] at p104
      try rw [wg3] at p104
      try rw [wg4] at p104
      try rw [wg5] at p104
      try rw [wg6] at p104
      try rw [wg7] at p104
      try rw [wg8] at p104
      try rw [wg9] at p104
      try rw [wg10] at p104
      try rw [wg115] at p105
      try rw [w111] at p105
      try rw [wg116] at p105
      try rw [wg117] at p105
      try rw [wg118] at p105
      try rw [wg119] at p105
      try rw [wg120] at p105
      try rw [w112] at p105
      try rw [w113] at p105
      try rw [w114] at p105
      try rw [wg34] at p105
      try rw [w28] at p105
      try rw [wg35] at p105
      try rw [wg36] at p105
      try rw [wg37] at p105
      try rw [w29] at p105
      try rw [w30] at p105
      try rw [w31] at p105
      try rw [w32] at p105
      try rw [w33] at p105
      try rw [wg1] at p105
      try rw [wg2] at p105
      try rw [wg3] at p105
      try rw [wg4] at p105
      try rw [wg5] at p105
      try rw [wg6] at p105
      try rw [wg7] at p105
      try rw [wg8] at p105
      try rw [wg9] at p105
      try rw [wg10] at p105
      try rw [wg115] at p106
      try rw [w111] at p106
      try rw [wg116] at p106
      try rw [wg117] at p106
      try rw [wg118] at p106
      try rw [wg119] at p106
      try rw [wg120] at p106
      try rw [w112] at p106
      try rw [w113] at p106
      try rw [w114] at p106
      try rw [wg34] at p106
      try rw [w28] at p106
      try rw [wg35] at p106
      try rw [wg36] at p106
      try rw [wg37] at p106
      try rw [w29] at p106
      try rw [w30] at p106
      try rw [w31] at p106
      try rw [w32] at p106
      try rw [w33] at p106
      try rw [wg1] at p106
      try rw [wg2] at p106
      try rw [wg3] at p106
      try rw [wg4] at p106
      try rw [wg5] at p106
      try rw [wg6] at p106
      try rw [wg7] at p106
      try rw [wg8] at p106
      try rw [wg9] at p106
      try rw [wg10] at p106
      try rw [wg115] at p107
      try rw [w111] at p107
      try rw [wg116] at p107
      try rw [wg117] at p107
      try rw [wg118] at p107
      try rw [wg119] at p107
      try rw [wg120] at p107
      try rw [w112] at p107
      try rw [w113] at p107
      try rw [w114] at p107
      try rw [wg34] at p107
      try rw [w28] at p107
      try rw [wg35] at p107
      try rw [wg36] at p107
      try rw [wg37] at p107
      try rw [w29] at p107
      try rw [w30] at p107
      try rw [w31] at p107
      try rw [w32] at p107
      try rw [w33] at p107
      try rw [wg1] at p107
      try rw [wg2] at p107
      try rw [wg3] at p107
      try rw [wg4] at p107
      try rw [wg5] at p107
      try rw [wg6] at p107
      try rw [wg7] at p107
      try rw [wg8] at p107
      try rw [wg9] at p107
      try rw [wg10] at p107
      try rw [wg115] at p108
      try rw [w111] at p108
      try rw [wg116] at p108
      try rw [wg117] at p108
      try rw [wg118] at p108
      try rw [wg119] at p108
      try rw [wg120] at p108
      try rw [w112] at p108
      try rw [w113] at p108
      try rw [w114] at p108
      try rw [wg34] at p108
      try rw [w28] at p108
      try rw [wg35] at p108
      try rw [wg36] at p108
      try rw [wg37] at p108
      try rw [w29] at p108
      try rw [w30] at p108
      try rw [w31] at p108
      try rw [w32] at p108
      try rw [w33] at p108
      try rw [wg1] at p108
      try rw [wg2] at p108
      try rw [wg3] at p108
      try rw [wg4] at p108
      try rw [wg5] at p108
      try rw [wg6] at p108
      try rw [wg7] at p108
      try rw [wg8] at p108
      try rw [wg9] at p108
      try rw [wg10] at p108
      clear wg34 w28 wg35 wg36 wg37 w29 w30 w31 w32 w33
      have ot121 := zOt_fr ot38 (qm101.1 76 (by decide) rfl) (qm101.1 77 (by decide) rfl) (qm101.1 78 (by decide) rfl) (qm101.1 79 (by decide) rfl) (qm101.1 80 (by decide) rfl) (qm101.1 83 (by decide) rfl) (qm101.1 84 (by decide) rfl)
      have S4 := rSu_old S2 TE39.1.1.1.1 p104.1.2.2.1 TE39.1.1.2.1 (qm101.1 78 (by decide) rfl) p104.1.2.2.2.1
      have D4 := rTd_old D2 p104.1.2.2.1 TE39.1.1.2.1 (qm101.1 78 (by decide) rfl) (qm101.1 83 (by decide) rfl) p104.1.2.2.2.1
      have W1 := zW1s_old BD40.1 TE39.1.1.1.1 p104.1.2.2.1 (qm101.1 78 (by decide) rfl) (qm101.1 79 (by decide) rfl)
      have W2 := BD40.2.1
      have TE2 := zTE_t TE39 p104
      have BD2 := zSp_old BD40 TE39.1.1.1.1 TE39.1.1.2.1 p104.1.2.2.1 p104.1.2.2.2.1 (fun j a b => qm101.1 j (by omega) (zanyF (by simp <;> omega))) (by have := p104.2.2; unfold zTn at this; omega)
      refine And.intro ⟨by omega, by omega⟩ (And.intro (fun c122 => ?_) (fun c122 => ?_))
      · have ZN : zTn m21 m101 ≤ 300 := by unfold zTn; (try rw [wg115]) <;> (try rw [w111]) <;> (try rw [wg116]) <;> (try rw [wg117]) <;> (try rw [wg118]) <;> (try rw [wg119]) <;> (try rw [wg120]) <;> (try rw [w112]) <;> (try rw [w113]) <;> (try rw [w114]) <;> (try rw [wg11]) <;> (try rw [wg12]) <;> (try rw [wg13]) <;> (try rw [wg14]) <;> (try rw [wg15]) <;> (try rw [wg16]) <;> (try rw [wg17]) <;> (try rw [wg18]) <;> (try rw [wg19]) <;> (try rw [wg20]) <;> (try rw [wg1]) <;> (try rw [wg2]) <;> (try rw [wg3]) <;> (try rw [wg4]) <;> (try rw [wg5]) <;> (try rw [wg6]) <;> (try rw [wg7]) <;> (try rw [wg8]) <;> (try rw [wg9]) <;> (try rw [wg10]) <;> omega
        have C5 : lo ≤ x100 ∧ x100 < zTop m101 ∧ m101.1 67 x100 = 0 ∧ m101.1 68 x100 ≠ v1 ∧ zA2 m101 x100 ∧ zPar m101 (zXf μ v1) (zXf μ v1 + zXn μ v1) x100 ∧ m101.1 71 x100 ≤ zTn m21 m101 := by rcases p107 with c | c; (exfalso; omega); exact ⟨c.1, c.2.1, c.2.2.2.1 (by omega), (c.2.2.2.2.1 rfl).1, (c.2.2.2.2.1 rfl).2, c.2.2.2.2.2.1, c.2.2.2.2.2.2⟩
        have TX : zTx m101 lo x100 := ⟨⟨C5.1, C5.2.1⟩, by have := C5.2.2.2.2.2.2; omega, C5.2.2.1⟩
        have VL := ((TE2.1.2.1 x100 C5.1 C5.2.1).2.1 C5.2.2.1).1
        have VN := C5.2.2.2.1
        have HS : zW1s m101 v1 + m101.1 71 x100 ≤ zTn μ m101 := by have h1 := C5.2.2.2.2.2.2; unfold zTn at h1 W2 ⊢; omega
        have ZQ : zrm m101 ≤ zrm m21 := by rcases p106 with c | c; (exfalso; omega); exact c
        have PX : zXf m101 v1 = zXf μ v1 ∧ zXn m101 v1 = zXn μ v1 := by unfold zXf zXn; rw [show m101.1 76 = μ.1 76 from z110.1 76 (by decide) rfl, show m101.1 77 = μ.1 77 from z110.1 77 (by decide) rfl]; exact ⟨rfl, rfl⟩
        have A3 : (1 : Int) = 0 := by rcases p108 with c | c; exact c; (exfalso; omega)
        obtain ⟨-, p1, n1, h1, as1, RT, L4, N4, E4⟩ := Or.resolve_left p109 (fun h0 => by have h2 := h0.1; omega)
        have KK4 := rkd L4 wg118
        have BO := rbs RQ RT
        have WV := rWs_v Bq n1 ([h1] :: as1)
        intro x123 hx123 kx123 lx123
        rw [w112] at hx123
        intro x124 hx124 kx124 lx124
        rw [w112] at hx124
        refine And.intro ⟨by omega, by omega⟩ ?_
        intro x125 hx125 kx125 lx125
        rw [qm101.1 79 (by decide) rfl, show (x124 + v1) = 21 + v1 by omega] at hx125
        refine And.intro ⟨by omega, by omega⟩ (And.intro ⟨by omega, by omega⟩ ?_)
        intro m126 em126
        have z127 := zfx_r z110 em126 rfl (by decide)
        have w128 : m126.1 66 ((31 : Nat) : Int) = g115 := by rw [em126]; exact (congrFun (zu_ne (by decide)) _).trans wg115
        have w129 : m126.1 66 ((30 : Nat) : Int) = g12 := by rw [em126]; exact (congrFun (zu_ne (by decide)) _).trans w111
        have w130 : m126.1 66 ((33 : Nat) : Int) = g116 := by rw [em126]; exact (congrFun (zu_ne (by decide)) _).trans wg116
        have w131 : m126.1 66 ((34 : Nat) : Int) = g117 := by rw [em126]; exact (congrFun (zu_ne (by decide)) _).trans wg117
        have w132 : m126.1 66 ((32 : Nat) : Int) = g118 := by rw [em126]; exact (congrFun (zu_ne (by decide)) _).trans wg118
        have w133 : m126.1 66 ((38 : Nat) : Int) = g119 := by rw [em126]; exact (congrFun (zu_ne (by decide)) _).trans wg119
        have w134 : m126.1 66 ((8 : Nat) : Int) = g120 := by rw [em126]; exact (congrFun (zu_ne (by decide)) _).trans wg120
        have w135 : m126.1 66 ((24 : Nat) : Int) = g18 := by rw [em126]; exact (congrFun (zu_ne (by decide)) _).trans w112
        have w136 : m126.1 66 ((25 : Nat) : Int) = g19 := by rw [em126]; exact (congrFun (zu_ne (by decide)) _).trans w113
        have w137 : m126.1 66 ((26 : Nat) : Int) = g20 := by rw [em126]; exact (congrFun (zu_ne (by decide)) _).trans w114
        clear wg115 w111 wg116 wg117 wg118 wg119 wg120 w112 w113 w114
        have ot138 := zOt_w ot121 em126 (by have hk : (84 : Int) ≤ ((4 * (x123 + v1)) + x125) := (by omega); refine ⟨fun h => ?_, fun h => ?_, fun h => ?_, fun h => ?_, fun h => ?_⟩ <;> first | exact hk | (exfalso; revert h; decide))
        intro x139 hx139 kx139 lx139
        rw [w135] at hx139
        refine And.intro ⟨by omega, by omega⟩ ?_
        intro x140 hx140 kx140 lx140
        rw [em126, zu_ne (by decide), qm101.1 79 (by decide) rfl, show (x139 + v1) = 21 + v1 by omega] at hx140
        refine And.intro ⟨by omega, by omega⟩ (And.intro ⟨by omega, by omega⟩ ?_)
        intro m141 em141
        have z142 := zfx_r z127 em141 rfl (by decide)
        have w143 : m141.1 66 ((31 : Nat) : Int) = g115 := by rw [em141]; exact (congrFun (zu_ne (by decide)) _).trans w128
        have w144 : m141.1 66 ((30 : Nat) : Int) = g12 := by rw [em141]; exact (congrFun (zu_ne (by decide)) _).trans w129
        have w145 : m141.1 66 ((33 : Nat) : Int) = g116 := by rw [em141]; exact (congrFun (zu_ne (by decide)) _).trans w130
        have w146 : m141.1 66 ((34 : Nat) : Int) = g117 := by rw [em141]; exact (congrFun (zu_ne (by decide)) _).trans w131
        have w147 : m141.1 66 ((32 : Nat) : Int) = g118 := by rw [em141]; exact (congrFun (zu_ne (by decide)) _).trans w132
        have w148 : m141.1 66 ((38 : Nat) : Int) = g119 := by rw [em141]; exact (congrFun (zu_ne (by decide)) _).trans w133
        have w149 : m141.1 66 ((8 : Nat) : Int) = g120 := by rw [em141]; exact (congrFun (zu_ne (by decide)) _).trans w134
        have w150 : m141.1 66 ((24 : Nat) : Int) = g18 := by rw [em141]; exact (congrFun (zu_ne (by decide)) _).trans w135
        have w151 : m141.1 66 ((25 : Nat) : Int) = g19 := by rw [em141]; exact (congrFun (zu_ne (by decide)) _).trans w136
        have w152 : m141.1 66 ((26 : Nat) : Int) = g20 := by rw [em141]; exact (congrFun (zu_ne (by decide)) _).trans w137
        clear w128 w129 w130 w131 w132 w133 w134 w135 w136 w137
        have ot153 := zOt_w ot138 em141 (by have hk : (21 : Int) ≤ (x139 + v1) := (by omega); refine ⟨fun h => ?_, fun h => ?_, fun h => ?_, fun h => ?_, fun h => ?_⟩ <;> first | exact hk | (exfalso; revert h; decide))
        have Y79 : m101.1 79 (21 + v1) = x125 := by rw [qm101.1 79 (by decide) rfl]; omega
        have BD3 := zSp_w (c := v1) BD2 em126 (by omega) (by omega) TX (by omega) C5.2.2.2.2.1 (by rw [PX.1, PX.2]; exact C5.2.2.2.2.2.1) HS em141 (by omega) (by omega)
        have TE3 := zTE_fr (m' := m141) TE2 (fun j a b => by rw [em141, zu_ne (by omega), em126, zu_ne (by omega)]) (by rw [em141, zu_ne (by decide), em126, zu_ne (by decide)]) (by rw [em141, zu_ne (by decide), em126, zu_ne (by decide)])
        have ZR : zrm m141 ≤ zrm m101 := zrm_e (fun j => by rw [em141, zu_ne (by decide), em126, zu_ne (by decide)])
        have ZL : zrm m141 < zrm m0 := Int.lt_of_le_of_lt ZR (Int.lt_of_le_of_lt ZQ ZP)
        have N5 := rNu_bs (m := m141) (r := v1) (l := [h1] :: as1) N4 (fun k => by rw [em141, zu_if, em126, zu_ne (by decide)]; by_cases hk : k = 21 + v1; (rw [if_pos hk, if_pos (by omega)]; omega); (rw [if_neg hk, if_neg (by omega)])) ⟨by omega, by rw [yN_ne (by omega), V5.1.1]; omega⟩ (fun j hj => by rw [em141, zu_ne (by omega), em126, zu_ne (by omega)]) (fun k hk => by rw [em141, zu_ne (by decide), em126, zu_ne (by decide)])
        have N6 : rNu m141 (rWs Bq n1 ([h1] :: as1)) := by unfold rWs; rw [OQ.1]; exact N5
        have L5 : rLx m141 τ p1 := rLx_f L4 (by rw [em141, zu_ne (by decide), em126, zu_ne (by decide)]) (fun k a b => by rw [em141, zu_ne (by decide), em126, zu_ne (by decide)])
        have OX : (rWs Bq n1 ([h1] :: as1)).1 0 3 = v1 ∧ (rWs Bq n1 ([h1] :: as1)).2 2 = B.2 2 := ⟨WV.1.1.trans OQ.1, WV.1.2.trans OQ.2⟩
        have S5 : rSu m141 (rWs Bq n1 ([h1] :: as1)) (Bq.1 0 3) lo := rSu_w (by rw [OQ.1]; exact S4) em126 (by rw [← BC]; omega) (fun j hj => by rw [em141, zu_ne hj]) ⟨C5.1, C5.2.1⟩ E4
        rw [OQ.1] at S5
        have D5 : rTd m141 (rWs Bq n1 ([h1] :: as1)) := rTd_ws D4 em126 (by rw [← BC, OQ.1]; omega) ⟨by rw [← BC]; omega, by rw [← BC]; omega⟩ (fun j hj => by rw [em141, zu_ne hj]) ⟨by have h0 := C5.1; have h1 := hp1.1.1; omega, C5.2.1⟩ E4
        intro x154 hx154 kx154 lx154
        rw [w147] at hx154
        refine And.intro ⟨⟨by omega, by omega⟩, ⟨by omega, by omega⟩⟩ (And.intro (fun c155 => ?_) (fun c155 => ?_))
        · refine Exists.intro (Int.toNat (zrm m141)) (And.intro (zrN ZL (zrm_0 (by (try rw [w143]) <;> (try rw [w144]) <;> (try rw [w145]) <;> (try rw [w146]) <;> (try rw [w147]) <;> (try rw [w148]) <;> (try rw [w149]) <;> (try rw [w150]) <;> (try rw [w151]) <;> (try rw [w152]) <;> (try rw [wg11]) <;> (try rw [wg12]) <;> (try rw [wg13]) <;> (try rw [wg14]) <;> (try rw [wg15]) <;> (try rw [wg16]) <;> (try rw [wg17]) <;> (try rw [wg18]) <;> (try rw [wg19]) <;> (try rw [wg20]) <;> (try rw [wg1]) <;> (try rw [wg2]) <;> (try rw [wg3]) <;> (try rw [wg4]) <;> (try rw [wg5]) <;> (try rw [wg6]) <;> (try rw [wg7]) <;> (try rw [wg8]) <;> (try rw [wg9]) <;> (try rw [wg10]) <;> omega))) ?_)
          exact ⟨_, rfl, z142, ⟨by omega, by omega⟩, (by (try rw [w143]) <;> (try rw [w144]) <;> (try rw [w145]) <;> (try rw [w146]) <;> (try rw [w147]) <;> (try rw [w148]) <;> (try rw [w149]) <;> (try rw [w150]) <;> (try rw [w151]) <;> (try rw [w152]) <;> (try rw [wg11]) <;> (try rw [wg12]) <;> (try rw [wg13]) <;> (try rw [wg14]) <;> (try rw [wg15]) <;> (try rw [wg16]) <;> (try rw [wg17]) <;> (try rw [wg18]) <;> (try rw [wg19]) <;> (try rw [wg20]) <;> (try rw [wg1]) <;> (try rw [wg2]) <;> (try rw [wg3]) <;> (try rw [wg4]) <;> (try rw [wg5]) <;> (try rw [wg6]) <;> (try rw [wg7]) <;> (try rw [wg8]) <;> (try rw [wg9]) <;> (try rw [wg10]) <;> omega), (by (try rw [w143]) <;> (try rw [w144]) <;> (try rw [w145]) <;> (try rw [w146]) <;> (try rw [w147]) <;> (try rw [w148]) <;> (try rw [w149]) <;> (try rw [w150]) <;> (try rw [w151]) <;> (try rw [w152]) <;> (try rw [wg11]) <;> (try rw [wg12]) <;> (try rw [wg13]) <;> (try rw [wg14]) <;> (try rw [wg15]) <;> (try rw [wg16]) <;> (try rw [wg17]) <;> (try rw [wg18]) <;> (try rw [wg19]) <;> (try rw [wg20]) <;> (try rw [wg1]) <;> (try rw [wg2]) <;> (try rw [wg3]) <;> (try rw [wg4]) <;> (try rw [wg5]) <;> (try rw [wg6]) <;> (try rw [wg7]) <;> (try rw [wg8]) <;> (try rw [wg9]) <;> (try rw [wg10]) <;> omega), rfl, TE3, BD3, (by (try rw [w143]) <;> (try rw [w144]) <;> (try rw [w145]) <;> (try rw [w146]) <;> (try rw [w147]) <;> (try rw [w148]) <;> (try rw [w149]) <;> (try rw [w150]) <;> (try rw [w151]) <;> (try rw [w152]) <;> (try rw [wg11]) <;> (try rw [wg12]) <;> (try rw [wg13]) <;> (try rw [wg14]) <;> (try rw [wg15]) <;> (try rw [wg16]) <;> (try rw [wg17]) <;> (try rw [wg18]) <;> (try rw [wg19]) <;> (try rw [wg20]) <;> (try rw [wg1]) <;> (try rw [wg2]) <;> (try rw [wg3]) <;> (try rw [wg4]) <;> (try rw [wg5]) <;> (try rw [wg6]) <;> (try rw [wg7]) <;> (try rw [wg8]) <;> (try rw [wg9]) <;> (try rw [wg10]) <;> omega), (Or.inr (by (try rw [w143]) <;> (try rw [w144]) <;> (try rw [w145]) <;> (try rw [w146]) <;> (try rw [w147]) <;> (try rw [w148]) <;> (try rw [w149]) <;> (try rw [w150]) <;> (try rw [w151]) <;> (try rw [w152]) <;> (try rw [wg11]) <;> (try rw [wg12]) <;> (try rw [wg13]) <;> (try rw [wg14]) <;> (try rw [wg15]) <;> (try rw [wg16]) <;> (try rw [wg17]) <;> (try rw [wg18]) <;> (try rw [wg19]) <;> (try rw [wg20]) <;> (try rw [wg1]) <;> (try rw [wg2]) <;> (try rw [wg3]) <;> (try rw [wg4]) <;> (try rw [wg5]) <;> (try rw [wg6]) <;> (try rw [wg7]) <;> (try rw [wg8]) <;> (try rw [wg9]) <;> (try rw [wg10]) <;> omega)), (Int.le_of_lt (Int.lt_of_lt_of_le ZL i7)), (by (try rw [w143]) <;> (try rw [w144]) <;> (try rw [w145]) <;> (try rw [w146]) <;> (try rw [w147]) <;> (try rw [w148]) <;> (try rw [w149]) <;> (try rw [w150]) <;> (try rw [w151]) <;> (try rw [w152]) <;> (try rw [wg11]) <;> (try rw [wg12]) <;> (try rw [wg13]) <;> (try rw [wg14]) <;> (try rw [wg15]) <;> (try rw [wg16]) <;> (try rw [wg17]) <;> (try rw [wg18]) <;> (try rw [wg19]) <;> (try rw [wg20]) <;> (try rw [wg1]) <;> (try rw [wg2]) <;> (try rw [wg3]) <;> (try rw [wg4]) <;> (try rw [wg5]) <;> (try rw [wg6]) <;> (try rw [wg7]) <;> (try rw [wg8]) <;> (try rw [wg9]) <;> (try rw [wg10]) <;> omega), ot153, ⟨p1, _, BO.1 ((rKd_s 44 KK4 (by decide)).mp (by omega)), L5, N6, OX, S5, D5⟩, rfl⟩
        · exact And.intro (zrtb (by omega)) (And.intro ⟨by omega, by omega⟩ (hQ _ _ z142 (by omega) (by omega) (by (try rw [w143]) <;> (try rw [w144]) <;> (try rw [w145]) <;> (try rw [w146]) <;> (try rw [w147]) <;> (try rw [w148]) <;> (try rw [w149]) <;> (try rw [w150]) <;> (try rw [w151]) <;> (try rw [w152]) <;> (try rw [wg11]) <;> (try rw [wg12]) <;> (try rw [wg13]) <;> (try rw [wg14]) <;> (try rw [wg15]) <;> (try rw [wg16]) <;> (try rw [wg17]) <;> (try rw [wg18]) <;> (try rw [wg19]) <;> (try rw [wg20]) <;> (try rw [wg1]) <;> (try rw [wg2]) <;> (try rw [wg3]) <;> (try rw [wg4]) <;> (try rw [wg5]) <;> (try rw [wg6]) <;> (try rw [wg7]) <;> (try rw [wg8]) <;> (try rw [wg9]) <;> (try rw [wg10]) <;> omega) (by (try rw [w143]) <;> (try rw [w144]) <;> (try rw [w145]) <;> (try rw [w146]) <;> (try rw [w147]) <;> (try rw [w148]) <;> (try rw [w149]) <;> (try rw [w150]) <;> (try rw [w151]) <;> (try rw [w152]) <;> (try rw [wg11]) <;> (try rw [wg12]) <;> (try rw [wg13]) <;> (try rw [wg14]) <;> (try rw [wg15]) <;> (try rw [wg16]) <;> (try rw [wg17]) <;> (try rw [wg18]) <;> (try rw [wg19]) <;> (try rw [wg20]) <;> (try rw [wg1]) <;> (try rw [wg2]) <;> (try rw [wg3]) <;> (try rw [wg4]) <;> (try rw [wg5]) <;> (try rw [wg6]) <;> (try rw [wg7]) <;> (try rw [wg8]) <;> (try rw [wg9]) <;> (try rw [wg10]) <;> omega) TE3 (by (try rw [w143]) <;> (try rw [w144]) <;> (try rw [w145]) <;> (try rw [w146]) <;> (try rw [w147]) <;> (try rw [w148]) <;> (try rw [w149]) <;> (try rw [w150]) <;> (try rw [w151]) <;> (try rw [w152]) <;> (try rw [wg11]) <;> (try rw [wg12]) <;> (try rw [wg13]) <;> (try rw [wg14]) <;> (try rw [wg15]) <;> (try rw [wg16]) <;> (try rw [wg17]) <;> (try rw [wg18]) <;> (try rw [wg19]) <;> (try rw [wg20]) <;> (try rw [wg1]) <;> (try rw [wg2]) <;> (try rw [wg3]) <;> (try rw [wg4]) <;> (try rw [wg5]) <;> (try rw [wg6]) <;> (try rw [wg7]) <;> (try rw [wg8]) <;> (try rw [wg9]) <;> (try rw [wg10]) <;> omega) (fun h => BD3) (fun h => Int.lt_of_lt_of_le ZL i7) ot153 (Or.inr ⟨rfl, p1, _, BO.2 (fun h0 => by have h2 := (rKd_s 44 KK4 (by decide)).mpr h0; omega), L5, N6, OX, S5, D5⟩)))
      · exact And.intro (zrtb (by omega)) (And.intro ⟨by omega, by omega⟩ (hQ _ _ z110 (by omega) (by omega) (by (try rw [wg115]) <;> (try rw [w111]) <;> (try rw [wg116]) <;> (try rw [wg117]) <;> (try rw [wg118]) <;> (try rw [wg119]) <;> (try rw [wg120]) <;> (try rw [w112]) <;> (try rw [w113]) <;> (try rw [w114]) <;> (try rw [wg11]) <;> (try rw [wg12]) <;> (try rw [wg13]) <;> (try rw [wg14]) <;> (try rw [wg15]) <;> (try rw [wg16]) <;> (try rw [wg17]) <;> (try rw [wg18]) <;> (try rw [wg19]) <;> (try rw [wg20]) <;> (try rw [wg1]) <;> (try rw [wg2]) <;> (try rw [wg3]) <;> (try rw [wg4]) <;> (try rw [wg5]) <;> (try rw [wg6]) <;> (try rw [wg7]) <;> (try rw [wg8]) <;> (try rw [wg9]) <;> (try rw [wg10]) <;> omega) (by (try rw [wg115]) <;> (try rw [w111]) <;> (try rw [wg116]) <;> (try rw [wg117]) <;> (try rw [wg118]) <;> (try rw [wg119]) <;> (try rw [wg120]) <;> (try rw [w112]) <;> (try rw [w113]) <;> (try rw [w114]) <;> (try rw [wg11]) <;> (try rw [wg12]) <;> (try rw [wg13]) <;> (try rw [wg14]) <;> (try rw [wg15]) <;> (try rw [wg16]) <;> (try rw [wg17]) <;> (try rw [wg18]) <;> (try rw [wg19]) <;> (try rw [wg20]) <;> (try rw [wg1]) <;> (try rw [wg2]) <;> (try rw [wg3]) <;> (try rw [wg4]) <;> (try rw [wg5]) <;> (try rw [wg6]) <;> (try rw [wg7]) <;> (try rw [wg8]) <;> (try rw [wg9]) <;> (try rw [wg10]) <;> omega) TE2 (by (try rw [wg115]) <;> (try rw [w111]) <;> (try rw [wg116]) <;> (try rw [wg117]) <;> (try rw [wg118]) <;> (try rw [wg119]) <;> (try rw [wg120]) <;> (try rw [w112]) <;> (try rw [w113]) <;> (try rw [w114]) <;> (try rw [wg11]) <;> (try rw [wg12]) <;> (try rw [wg13]) <;> (try rw [wg14]) <;> (try rw [wg15]) <;> (try rw [wg16]) <;> (try rw [wg17]) <;> (try rw [wg18]) <;> (try rw [wg19]) <;> (try rw [wg20]) <;> (try rw [wg1]) <;> (try rw [wg2]) <;> (try rw [wg3]) <;> (try rw [wg4]) <;> (try rw [wg5]) <;> (try rw [wg6]) <;> (try rw [wg7]) <;> (try rw [wg8]) <;> (try rw [wg9]) <;> (try rw [wg10]) <;> omega) (fun h => by exfalso; omega) (fun h => by exfalso; omega) ot121 (Or.inl ⟨rfl, rFa_t (yR_s RQ (show yms τ (7, pq, 0, [], Bq) = (10, ynx τ pq, 0, [], rB5 Bq 1 (rq7 Bq)) from rfl)) (by rcases p109 with h0 | h0; exact h0.2; (exfalso; have h1 := h0.1; omega))⟩)))
