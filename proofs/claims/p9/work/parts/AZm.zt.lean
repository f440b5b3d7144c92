def yk_X9_readBounds : zC := fun As μ Q => ∃ (a1 : Int) (lo : Int) (P : Int) (τ : yT) (p : Int) (B : yB), As = [.inr (.inr (66, 66)), .inl a1] ∧ (1 ≤ a1 ∧ a1 ≤ 20) ∧ (0 ≤ μ.1 66 ((33 : Nat) : Int) ∧ 0 ≤ μ.1 66 ((34 : Nat) : Int) ∧ μ.1 66 ((33 : Nat) : Int) + μ.1 66 ((34 : Nat) : Int) ≤ μ.1 66 ((31 : Nat) : Int) ∧ μ.1 66 ((31 : Nat) : Int) ≤ μ.1 66 ((30 : Nat) : Int) ∧ μ.1 66 ((30 : Nat) : Int) ≤ 800) ∧ (zND μ lo) ∧ (zWf μ lo (zTop μ) (a1 + 1) P 0 (zXn μ)) ∧ (μ.1 66 ((24 : Nat) : Int) = 21 ∧ μ.1 66 ((25 : Nat) : Int) = 80 ∧ μ.1 66 ((26 : Nat) : Int) = a1 + 1) ∧ (0 ≤ zXf μ a1 ∧ zXf μ a1 + zXn μ a1 ≤ P ∧ P ≤ 80) ∧ (μ.1 66 ((8 : Nat) : Int) - μ.1 66 ((38 : Nat) : Int) ≤ 19699 ∧ 0 ≤ μ.1 66 ((38 : Nat) : Int) ∧ μ.1 66 ((38 : Nat) : Int) ≤ 300) ∧ (zBd μ lo P) ∧ (μ.1 66 ((32 : Nat) : Int) = 259) ∧ (rLx μ τ p) ∧ (rNu μ B) ∧ (yInv (4, p, 0, [], B)) ∧ (a1 = B.1 0 3) ∧ (rTd μ B) ∧ (∀ (v : Int) (μ' : zM), zfx [67, 68, 69, 70, 71, 72, 73, 74, 83, 84, 100, 101, 102, 103, 104] [8, 31, 32, 33, 34, 35, 36, 38] μ μ' → 0 ≤ v → v ≤ 1 → (0 ≤ μ'.1 66 ((33 : Nat) : Int) ∧ 0 ≤ μ'.1 66 ((34 : Nat) : Int) ∧ μ'.1 66 ((33 : Nat) : Int) + μ'.1 66 ((34 : Nat) : Int) ≤ μ'.1 66 ((31 : Nat) : Int) ∧ μ'.1 66 ((31 : Nat) : Int) ≤ μ'.1 66 ((30 : Nat) : Int) ∧ μ'.1 66 ((30 : Nat) : Int) ≤ 800) → (μ'.1 66 ((30 : Nat) : Int) = μ.1 66 ((30 : Nat) : Int)) → (zTE μ μ' lo (a1 + 1) P 0 (zXn μ)) → (0 ≤ μ'.1 66 ((38 : Nat) : Int) ∧ μ'.1 66 ((38 : Nat) : Int) ≤ 300) → (v = 1 → zBd μ' lo P) → (v = 1 → zrm μ' < zrm μ) → (zOt μ μ') → ((v = 0 ∧ rFa τ (4, p, 0, [], B) μ') ∨ (v = 1 ∧ ∃ p' B', yR τ (4, p, 0, [], B) (6, p', 0, [], B') ∧ rLx μ' τ p' ∧ rNu μ' B' ∧ (B'.1 0 3 = a1 ∧ B'.2 1 = B.2 1 ∧ B'.2 2 = B.2 2) ∧ rTd μ' B')) → Q (some (.inl v)) μ')
abbrev yi_X9_readBounds (μ : zM) (a1 : Int) (lo : Int) (P : Int) (τ : yT) (p : Int) (B : yB) : Nat → List zV → zM → Nat → Prop := fun pc vs μ' n => (pc = 0 → ∃ (v1 : Int), vs = [.inr (.inr (66, 66)), .inl v1] ∧ zfx [67, 68, 69, 70, 71, 72, 73, 74, 83, 84, 100, 101, 102, 103, 104] [8, 31, 32, 33, 34, 35, 36, 38] μ μ' ∧ (1 ≤ v1 ∧ v1 ≤ 20) ∧ (0 ≤ μ'.1 66 ((33 : Nat) : Int) ∧ 0 ≤ μ'.1 66 ((34 : Nat) : Int) ∧ μ'.1 66 ((33 : Nat) : Int) + μ'.1 66 ((34 : Nat) : Int) ≤ μ'.1 66 ((31 : Nat) : Int) ∧ μ'.1 66 ((31 : Nat) : Int) ≤ μ'.1 66 ((30 : Nat) : Int) ∧ μ'.1 66 ((30 : Nat) : Int) ≤ 800) ∧ (μ'.1 66 ((30 : Nat) : Int) = μ.1 66 ((30 : Nat) : Int)) ∧ (v1 = a1) ∧ (zTE μ μ' lo (a1 + 1) P 0 (zXn μ)) ∧ (zBd μ' lo P) ∧ (0 ≤ μ'.1 66 ((38 : Nat) : Int) ∧ μ'.1 66 ((38 : Nat) : Int) ≤ 300) ∧ (μ'.1 66 ((32 : Nat) : Int) = 259 ∨ μ'.1 66 ((32 : Nat) : Int) = 44) ∧ (zrm μ' ≤ zrm μ) ∧ (μ'.1 66 ((24 : Nat) : Int) = 21 ∧ μ'.1 66 ((25 : Nat) : Int) = 80 ∧ μ'.1 66 ((26 : Nat) : Int) = a1 + 1) ∧ (zOt μ μ') ∧ (∃ pq Bq, yR τ (4, p, 0, [], B) (4, pq, 0, [], Bq) ∧ rLx μ' τ pq ∧ rNu μ' Bq ∧ (Bq.1 0 3 = a1 ∧ Bq.2 1 = B.2 1 ∧ Bq.2 2 = B.2 2) ∧ rTd μ' Bq) ∧ n = (Int.toNat (zrm μ'))) ∧ (pc = 79 → ∃ (v1 : Int) (v2 : Int), vs = [.inr (.inr (66, 66)), .inl v1, .inl v2] ∧ zfx [67, 68, 69, 70, 71, 72, 73, 74, 83, 84, 100, 101, 102, 103, 104] [8, 31, 32, 33, 34, 35, 36, 38] μ μ' ∧ (1 ≤ v1 ∧ v1 ≤ 20) ∧ (0 ≤ v2 ∧ v2 ≤ 79) ∧ (0 ≤ μ'.1 66 ((33 : Nat) : Int) ∧ 0 ≤ μ'.1 66 ((34 : Nat) : Int) ∧ μ'.1 66 ((33 : Nat) : Int) + μ'.1 66 ((34 : Nat) : Int) ≤ μ'.1 66 ((31 : Nat) : Int) ∧ μ'.1 66 ((31 : Nat) : Int) ≤ μ'.1 66 ((30 : Nat) : Int) ∧ μ'.1 66 ((30 : Nat) : Int) ≤ 800) ∧ (μ'.1 66 ((30 : Nat) : Int) = μ.1 66 ((30 : Nat) : Int)) ∧ (v1 = a1) ∧ (zTE μ μ' lo (a1 + 1) P 0 (zXn μ)) ∧ (zBd μ' lo P) ∧ (0 ≤ μ'.1 66 ((38 : Nat) : Int) ∧ μ'.1 66 ((38 : Nat) : Int) ≤ 300) ∧ (μ'.1 66 ((32 : Nat) : Int) = 58 ∨ μ'.1 66 ((32 : Nat) : Int) = 38) ∧ (zrm μ' < zrm μ) ∧ (μ'.1 66 ((24 : Nat) : Int) = 21 ∧ μ'.1 66 ((25 : Nat) : Int) = 80 ∧ μ'.1 66 ((26 : Nat) : Int) = a1 + 1) ∧ (zXf μ a1 ≤ v2 ∧ v2 < zXf μ a1 + zXn μ a1) ∧ (zOt μ μ') ∧ (∃ pq Bq, yR τ (4, p, 0, [], B) (5, pq, 0, [], Bq) ∧ rLx μ' τ pq ∧ rNu μ' Bq ∧ (Bq.1 0 3 = a1 ∧ Bq.2 1 = B.2 1 ∧ Bq.2 2 = B.2 2) ∧ rTd μ' Bq ∧ Bq.1 0 6 = v2 ∧ v2 < Bq.1 0 1) ∧ n = (Int.toNat (zrm μ')))
set_option maxHeartbeats 4000000 in
theorem ym_X9_readBounds_0 {g : zΓ} (hg : zg g) (d : Nat) (hd : 6 ≤ d + 1) (μ : zM) (Q : Option zV → zM → Prop) (a1 : Int) (lo : Int) (P : Int) (τ : yT) (p : Int) (B : yB) (ha1 : (1 ≤ a1 ∧ a1 ≤ 20)) (hp0 : (0 ≤ μ.1 66 ((33 : Nat) : Int) ∧ 0 ≤ μ.1 66 ((34 : Nat) : Int) ∧ μ.1 66 ((33 : Nat) : Int) + μ.1 66 ((34 : Nat) : Int) ≤ μ.1 66 ((31 : Nat) : Int) ∧ μ.1 66 ((31 : Nat) : Int) ≤ μ.1 66 ((30 : Nat) : Int) ∧ μ.1 66 ((30 : Nat) : Int) ≤ 800)) (hp1 : (zND μ lo)) (hp2 : (zWf μ lo (zTop μ) (a1 + 1) P 0 (zXn μ))) (hp3 : (μ.1 66 ((24 : Nat) : Int) = 21 ∧ μ.1 66 ((25 : Nat) : Int) = 80 ∧ μ.1 66 ((26 : Nat) : Int) = a1 + 1)) (hp4 : (0 ≤ zXf μ a1 ∧ zXf μ a1 + zXn μ a1 ≤ P ∧ P ≤ 80)) (hp5 : (μ.1 66 ((8 : Nat) : Int) - μ.1 66 ((38 : Nat) : Int) ≤ 19699 ∧ 0 ≤ μ.1 66 ((38 : Nat) : Int) ∧ μ.1 66 ((38 : Nat) : Int) ≤ 300)) (hp6 : (zBd μ lo P)) (hp7 : (μ.1 66 ((32 : Nat) : Int) = 259)) (hp8 : (rLx μ τ p)) (hp9 : (rNu μ B)) (hp10 : (yInv (4, p, 0, [], B))) (hp11 : (a1 = B.1 0 3)) (hp12 : (rTd μ B)) (hQ : ∀ (v : Int) (μ' : zM), zfx [67, 68, 69, 70, 71, 72, 73, 74, 83, 84, 100, 101, 102, 103, 104] [8, 31, 32, 33, 34, 35, 36, 38] μ μ' → 0 ≤ v → v ≤ 1 → (0 ≤ μ'.1 66 ((33 : Nat) : Int) ∧ 0 ≤ μ'.1 66 ((34 : Nat) : Int) ∧ μ'.1 66 ((33 : Nat) : Int) + μ'.1 66 ((34 : Nat) : Int) ≤ μ'.1 66 ((31 : Nat) : Int) ∧ μ'.1 66 ((31 : Nat) : Int) ≤ μ'.1 66 ((30 : Nat) : Int) ∧ μ'.1 66 ((30 : Nat) : Int) ≤ 800) → (μ'.1 66 ((30 : Nat) : Int) = μ.1 66 ((30 : Nat) : Int)) → (zTE μ μ' lo (a1 + 1) P 0 (zXn μ)) → (0 ≤ μ'.1 66 ((38 : Nat) : Int) ∧ μ'.1 66 ((38 : Nat) : Int) ≤ 300) → (v = 1 → zBd μ' lo P) → (v = 1 → zrm μ' < zrm μ) → (zOt μ μ') → ((v = 0 ∧ rFa τ (4, p, 0, [], B) μ') ∨ (v = 1 ∧ ∃ p' B', yR τ (4, p, 0, [], B) (6, p', 0, [], B') ∧ rLx μ' τ p' ∧ rNu μ' B' ∧ (B'.1 0 3 = a1 ∧ B'.2 1 = B.2 1 ∧ B'.2 2 = B.2 2) ∧ rTd μ' B')) → Q (some (.inl v)) μ') : ∀ (vs : List zV) (m0 : zM) (n : Nat), yi_X9_readBounds μ a1 lo P τ p B 0 vs m0 n → zw (zOk g d) mt_X9_readBounds ([(0, [0, 1]), (79, [0, 1, 2])], []) (fun pc' vs' μ'' => ∃ n', n' < n ∧ yi_X9_readBounds μ a1 lo P τ p B pc' vs' μ'' n') Q (fun _ _ => False) 111 true (zsuf 0 mt_X9_readBounds.2.2.2.2.1) (zzip [0, 1] vs) [] m0 := by
  obtain ⟨g1, wg1⟩ : ∃ z : Int, μ.1 66 ((31 : Nat) : Int) = z := ⟨_, rfl⟩
  obtain ⟨g2, wg2⟩ : ∃ z : Int, μ.1 66 ((30 : Nat) : Int) = z := ⟨_, rfl⟩
  obtain ⟨g3, wg3⟩ : ∃ z : Int, μ.1 66 ((33 : Nat) : Int) = z := ⟨_, rfl⟩
  obtain ⟨g4, wg4⟩ : ∃ z : Int, μ.1 66 ((34 : Nat) : Int) = z := ⟨_, rfl⟩
  obtain ⟨g5, wg5⟩ : ∃ z : Int, μ.1 66 ((32 : Nat) : Int) = z := ⟨_, rfl⟩
  obtain ⟨g6, wg6⟩ : ∃ z : Int, μ.1 66 ((38 : Nat) : Int) = z := ⟨_, rfl⟩
  obtain ⟨g7, wg7⟩ : ∃ z : Int, μ.1 66 ((8 : Nat) : Int) = z := ⟨_, rfl⟩
  obtain ⟨g8, wg8⟩ : ∃ z : Int, μ.1 66 ((24 : Nat) : Int) = z := ⟨_, rfl⟩
  obtain ⟨g9, wg9⟩ : ∃ z : Int, μ.1 66 ((25 : Nat) : Int) = z := ⟨_, rfl⟩
  obtain ⟨g10, wg10⟩ : ∃ z : Int, μ.1 66 ((26 : Nat) : Int) = z := ⟨_, rfl⟩
  try rw [wg1] at hp0
  try rw [wg2] at hp0
  try rw [wg3] at hp0
  try rw [wg4] at hp0
  try rw [wg5] at hp0
  try rw [wg6] at hp0
  try rw [wg7] at hp0
  try rw [wg8] at hp0
  try rw [wg9] at hp0
  try rw [wg10] at hp0
  try rw [wg1] at hp1
  try rw [wg2] at hp1
  try rw [wg3] at hp1
  try rw [wg4] at hp1
  try rw [wg5] at hp1
  try rw [wg6] at hp1
  try rw [wg7] at hp1
  try rw [wg8] at hp1
  try rw [wg9] at hp1
  try rw [wg10] at hp1
  try rw [wg1] at hp2
  try rw [wg2] at hp2
  try rw [wg3] at hp2
  try rw [wg4] at hp2
  try rw [wg5] at hp2
  try rw [wg6] at hp2
  try rw [wg7] at hp2
  try rw [wg8] at hp2
  try rw [wg9] at hp2
  try rw [wg10] at hp2
  try rw [wg1] at hp3
  try rw [wg2] at hp3
  try rw [wg3] at hp3
  try rw [wg4] at hp3
  try rw [wg5] at hp3
  try rw [wg6] at hp3
  try rw [wg7] at hp3
  try rw [wg8] at hp3
  try rw [wg9] at hp3
  try rw [wg10] at hp3
  try rw [wg1] at hp4
  try rw [wg2] at hp4
  try rw [wg3] at hp4
  try rw [wg4] at hp4
  try rw [wg5] at hp4
  try rw [wg6] at hp4
  try rw [wg7] at hp4
  try rw [wg8] at hp4
  try rw [wg9] at hp4
  try rw [wg10] at hp4
  try rw [wg1] at hp5
  try rw [wg2] at hp5
  try rw [wg3] at hp5
  try rw [wg4] at hp5
  try rw [wg5] at hp5
  try rw [wg6] at hp5
  try rw [wg7] at hp5
  try rw [wg8] at hp5
  try rw [wg9] at hp5
  try rw [wg10] at hp5
  try rw [wg1] at hp6
  try rw [wg2] at hp6
  try rw [wg3] at hp6
  try rw [wg4] at hp6
  try rw [wg5] at hp6
  try rw [wg6] at hp6
  try rw [wg7] at hp6
  try rw [wg8] at hp6
  try rw [wg9] at hp6
  try rw [wg10] at hp6
  try rw [wg1] at hp7
  try rw [wg2] at hp7
  try rw [wg3] at hp7
  try rw [wg4] at hp7
  try rw [wg5] at hp7
  try rw [wg6] at hp7
  try rw [wg7] at hp7
  try rw [wg8] at hp7
  try rw [wg9] at hp7
  try rw [wg10] at hp7
  try rw [wg1] at hp8
  try rw [wg2] at hp8
  try rw [wg3] at hp8
  try rw [wg4] at hp8
  try rw [wg5] at hp8
  try rw [wg6] at hp8
  try rw [wg7] at hp8
  try rw [wg8] at hp8
  try rw [wg9] at hp8
  try rw [wg10] at hp8
  try rw [wg1] at hp9
  try rw [wg2] at hp9
  try rw [wg3] at hp9
  try rw [wg4] at hp9
  try rw [wg5] at hp9
  try rw [wg6] at hp9
  try rw [wg7] at hp9
  try rw [wg8] at hp9
  try rw [wg9] at hp9
  try rw [wg10] at hp9
  try rw [wg1] at hp10
  try rw [wg2] at hp10
  try rw [wg3] at hp10
  try rw [wg4] at hp10
  try rw [wg5] at hp10
  try rw [wg6] at hp10
  try rw [wg7] at hp10
  try rw [wg8] at hp10
  try rw [wg9] at hp10
  try rw [wg10] at hp10
  try rw [wg1] at hp11
  try rw [wg2] at hp11
  try rw [wg3] at hp11
  try rw [wg4] at hp11
  try rw [wg5] at hp11
  try rw [wg6] at hp11
  try rw [wg7] at hp11
  try rw [wg8] at hp11
  try rw [wg9] at hp11
  try rw [wg10] at hp11
  try rw [wg1] at hp12
  try rw [wg2] at hp12
  try rw [wg3] at hp12
  try rw [wg4] at hp12
  try rw [wg5] at hp12
  try rw [wg6] at hp12
  try rw [wg7] at hp12
  try rw [wg8] at hp12
  try rw [wg9] at hp12
  try rw [wg10] at hp12
  have z0 : zfx [67, 68, 69, 70, 71, 72, 73, 74, 83, 84, 100, 101, 102, 103, 104] [8, 31, 32, 33, 34, 35, 36, 38] μ μ := zfx_x μ
  intro vs m0 n hI
  replace hI := hI.1 rfl
  clear z0
  obtain ⟨v1, rfl, z0, hv1, i0, i1, i2, i3, i4, i5, i6, i7, i8, i9, i10, rfl⟩ := hI
  subst i2
  obtain ⟨g11, wg11⟩ : ∃ z : Int, m0.1 66 ((31 : Nat) : Int) = z := ⟨_, rfl⟩
  obtain ⟨g12, wg12⟩ : ∃ z : Int, m0.1 66 ((30 : Nat) : Int) = z := ⟨_, rfl⟩
  obtain ⟨g13, wg13⟩ : ∃ z : Int, m0.1 66 ((33 : Nat) : Int) = z := ⟨_, rfl⟩
  obtain ⟨g14, wg14⟩ : ∃ z : Int, m0.1 66 ((34 : Nat) : Int) = z := ⟨_, rfl⟩
  obtain ⟨g15, wg15⟩ : ∃ z : Int, m0.1 66 ((32 : Nat) : Int) = z := ⟨_, rfl⟩
  obtain ⟨g16, wg16⟩ : ∃ z : Int, m0.1 66 ((38 : Nat) : Int) = z := ⟨_, rfl⟩
  obtain ⟨g17, wg17⟩ : ∃ z : Int, m0.1 66 ((8 : Nat) : Int) = z := ⟨_, rfl⟩
  obtain ⟨g18, wg18⟩ : ∃ z : Int, m0.1 66 ((24 : Nat) : Int) = z := ⟨_, rfl⟩
  obtain ⟨g19, wg19⟩ : ∃ z : Int, m0.1 66 ((25 : Nat) : Int) = z := ⟨_, rfl⟩
  obtain ⟨g20, wg20⟩ : ∃ z : Int, m0.1 66 ((26 : Nat) : Int) = z := ⟨_, rfl⟩
  try rw [wg11] at i0
  try rw [wg12] at i0
  try rw [wg13] at i0
  try rw [wg14] at i0
  try rw [wg15] at i0
  try rw [wg16] at i0
  try rw [wg17] at i0
  try rw [wg18] at i0
  try rw [wg19] at i0
  try rw [wg20] at i0
  try rw [wg1] at i0
  try rw [wg2] at i0
  try rw [wg3] at i0
  try rw [wg4] at i0
  try rw [wg5] at i0
  try rw [wg6] at i0
  try rw [wg7] at i0
  try rw [wg8] at i0
  try rw [wg9] at i0
  try rw [wg10] at i0
  try rw [wg11] at i1
  try rw [wg12] at i1
  try rw [wg13] at i1
  try rw [wg14] at i1
  try rw [wg15] at i1
  try rw [wg16] at i1
  try rw [wg17] at i1
  try rw [wg18] at i1
  try rw [wg19] at i1
  try rw [wg20] at i1
  try rw [wg1] at i1
  try rw [wg2] at i1
  try rw [wg3] at i1
  try rw [wg4] at i1
  try rw [wg5] at i1
  try rw [wg6] at i1
  try rw [wg7] at i1
  try rw [wg8] at i1
  try rw [wg9] at i1
  try rw [wg10] at i1
  try rw [wg11] at i2
  try rw [wg12] at i2
  try rw [wg13] at i2
  try rw [wg14] at i2
  try rw [wg15] at i2
  try rw [wg16] at i2
  try rw [wg17] at i2
  try rw [wg18] at i2
  try rw [wg19] at i2
  try rw [wg20] at i2
  try rw [wg1] at i2
  try rw [wg2] at i2
  try rw [wg3] at i2
  try rw [wg4] at i2
  try rw [wg5] at i2
  try rw [wg6] at i2
  try rw [wg7] at i2
  try rw [wg8] at i2
  try rw [wg9] at i2
  try rw [wg10] at i2
  try rw [wg11] at i3
  try rw [wg12] at i3
  try rw [wg13] at i3
  try rw [wg14] at i3
  try rw [wg15] at i3
  try rw [wg16] at i3
  try rw [wg17] at i3
  try rw [wg18] at i3
  try rw [wg19] at i3
  try rw [wg20] at i3
  try rw [wg1] at i3
  try rw [wg2] at i3
  try rw [wg3] at i3
  try rw [wg4] at i3
  try rw [wg5] at i3
  try rw [wg6] at i3
  try rw [wg7] at i3
  try rw [wg8] at i3
  try rw [wg9] at i3
  try rw [wg10] at i3
  try rw [wg11] at i4
  try rw [wg12] at i4
  try rw [wg13] at i4
  try rw [wg14] at i4
  try rw [wg15] at i4
  try rw [wg16] at i4
  try rw [wg17] at i4
  try rw [wg18] at i4
  try rw [wg19] at i4
  try rw [wg20] at i4
  try rw [wg1] at i4
  try rw [wg2] at i4
  try rw [wg3] at i4
  try rw [wg4] at i4
  try rw [wg5] at i4
  try rw [wg6] at i4
  try rw [wg7] at i4
  try rw [wg8] at i4
  try rw [wg9] at i4
  try rw [wg10] at i4
  try rw [wg11] at i5
  try rw [wg12] at i5
  try rw [wg13] at i5
  try rw [wg14] at i5
  try rw [wg15] at i5
  try rw [wg16] at i5
  try rw [wg17] at i5
  try rw [wg18] at i5
  try rw [wg19] at i5
  try rw [wg20] at i5
  try rw [wg1] at i5
  try rw [wg2] at i5
  try rw [wg3] at i5
  try rw [wg4] at i5
  try rw [wg5] at i5
  try rw [wg6] at i5
  try rw [wg7] at i5
  try rw [wg8] at i5
  try rw [wg9] at i5
  try rw [wg10] at i5
  try rw [wg11] at i6
  try rw [wg12] at i6
  try rw [wg13] at i6
  try rw [wg14] at i6
  try rw [wg15] at i6
  try rw [wg16] at i6
  try rw [wg17] at i6
  try rw [wg18] at i6
  try rw [wg19] at i6
  try rw [wg20] at i6
  try rw [wg1] at i6
  try rw [wg2] at i6
  try rw [wg3] at i6
  try rw [wg4] at i6
  try rw [wg5] at i6
  try rw [wg6] at i6
  try rw [wg7] at i6
  try rw [wg8] at i6
  try rw [wg9] at i6
  try rw [wg10] at i6
  try rw [wg11] at i7
  try rw [wg12] at i7
  try rw [wg13] at i7
  try rw [wg14] at i7
  try rw [wg15] at i7
  try rw [wg16] at i7
  try rw [wg17] at i7
  try rw [wg18] at i7
  try rw [wg19] at i7
  try rw [wg20] at i7
  try rw [wg1] at i7
  try rw [wg2] at i7
  try rw [wg3] at i7
  try rw [wg4] at i7
  try rw [wg5] at i7
  try rw [wg6] at i7
  try rw [wg7] at i7
  try rw [wg8] at i7
  try rw [wg9] at i7
  try rw [wg10] at i7
  try rw [wg11] at i8
  try rw [wg12] at i8
  try rw [wg13] at i8
  try rw [wg14] at i8
  try rw [wg15] at i8
  try rw [wg16] at i8
  try rw [wg17] at i8
  try rw [wg18] at i8
  try rw [wg19] at i8
  try rw [wg20] at i8
  try rw [wg1] at i8
  try rw [wg2] at i8
  try rw [wg3] at i8
  try rw [wg4] at i8
  try rw [wg5] at i8
  try rw [wg6] at i8
  try rw [wg7] at i8
  try rw [wg8] at i8
  try rw [wg9] at i8
  try rw [wg10] at i8
  try rw [wg11] at i9
  try rw [wg12] at i9
  try rw [wg13] at i9
  try rw [wg14] at i9
  try rw [wg15] at i9
  try rw [wg16] at i9
  try rw [wg17] at i9
  try rw [wg18] at i9
  try rw [wg19] at i9
  try rw [wg20] at i9
  try rw [wg1] at i9
  try rw [wg2] at i9
  try rw [wg3] at i9
  try rw [wg4] at i9
  try rw [wg5] at i9
  try rw [wg6] at i9
  try rw [wg7] at i9
  try rw [wg8] at i9
  try rw [wg9] at i9
  try rw [wg10] at i9
  try rw [wg11] at i10
  try rw [wg12] at i10
  try rw [wg13] at i10
  try rw [wg14] at i10
  try rw [wg15] at i10
  try rw [wg16] at i10
  try rw [wg17] at i10
  try rw [wg18] at i10
  try rw [wg19] at i10
  try rw [wg20] at i10
  try rw [wg1] at i10
  try rw [wg2] at i10
  try rw [wg3] at i10
  try rw [wg4] at i10
  try rw [wg5] at i10
  try rw [wg6] at i10
  try rw [wg7] at i10
  try rw [wg8] at i10
  try rw [wg9] at i10
  try rw [wg10] at i10
  obtain ⟨pq, Bq, RQ, LQ, NQ, OQ, DQ⟩ := i10
  have HI4 : yI 4 0 [] Bq := (by rcases yInv_R hp10 RQ with q | q; exact absurd (show (4 : Nat) = 20 from q) (by decide); exact q)
  refine ⟨yk_X9_pass, ym_X9_pass hg d (by omega), rfl, (by (try rw [wg11]) <;> (try rw [wg12]) <;> (try rw [wg13]) <;> (try rw [wg14]) <;> (try rw [wg15]) <;> (try rw [wg16]) <;> (try rw [wg17]) <;> (try rw [wg18]) <;> (try rw [wg19]) <;> (try rw [wg20]) <;> (try rw [wg1]) <;> (try rw [wg2]) <;> (try rw [wg3]) <;> (try rw [wg4]) <;> (try rw [wg5]) <;> (try rw [wg6]) <;> (try rw [wg7]) <;> (try rw [wg8]) <;> (try rw [wg9]) <;> (try rw [wg10]) <;> omega), ?_⟩
  intro m21 qm21 p22 p23 p24 p25 p26
  have z27 := zfx_t z0 qm21 rfl rfl
  have w28 : m21.1 66 ((30 : Nat) : Int) = g12 := (qm21.2.1 30 rfl).trans wg12
  have w29 : m21.1 66 ((38 : Nat) : Int) = g16 := (qm21.2.1 38 rfl).trans wg16
  have w30 : m21.1 66 ((8 : Nat) : Int) = g17 := (qm21.2.1 8 rfl).trans wg17
  have w31 : m21.1 66 ((24 : Nat) : Int) = g18 := (qm21.2.1 24 rfl).trans wg18
  have w32 : m21.1 66 ((25 : Nat) : Int) = g19 := (qm21.2.1 25 rfl).trans wg19
  have w33 : m21.1 66 ((26 : Nat) : Int) = g20 := (qm21.2.1 26 rfl).trans wg20
  obtain ⟨g34, wg34⟩ : ∃ z : Int, m21.1 66 ((31 : Nat) : Int) = z := ⟨_, rfl⟩
  obtain ⟨g35, wg35⟩ : ∃ z : Int, m21.1 66 ((33 : Nat) : Int) = z := ⟨_, rfl⟩
  obtain ⟨g36, wg36⟩ : ∃ z : Int, m21.1 66 ((34 : Nat) : Int) = z := ⟨_, rfl⟩
  obtain ⟨g37, wg37⟩ : ∃ z : Int, m21.1 66 ((32 : Nat) : Int) = z := ⟨_, rfl⟩
  try rw [wg34] at p22
  try rw [w28] at p22
  try rw [wg35] at p22
  try rw [wg36] at p22
  try rw [wg37] at p22
  try rw [w29] at p22
  try rw [w30] at p22
  try rw [w31] at p22
  try rw [w32] at p22
  try rw [w33] at p22
  try rw [wg11] at p22
  try rw [wg12] at p22
  try rw [wg13] at p22
  try rw [wg14] at p22
  try rw [wg15] at p22
  try rw [wg16] at p22
  try rw [wg17] at p22
  try rw [wg18] at p22
  try rw [wg19] at p22
  try rw [wg20] at p22
  try rw [wg1] at p22
  try rw [wg2] at p22
  try rw [wg3] at p22
  try rw [wg4] at p22
  try rw [wg5] at p22
  try rw [wg6] at p22
  try rw [wg7] at p22
  try rw [wg8] at p22
  try rw [wg9] at p22
  try rw [wg10] at p22
  try rw [wg34] at p23
  try rw [w28] at p23
  try rw [wg35] at p23
  try rw [wg36] at p23
  try rw [wg37] at p23
  try rw [w29] at p23
  try rw [w30] at p23
  try rw [w31] at p23
  try rw [w32] at p23
  try rw [w33] at p23
  try rw [wg11] at p23
  try rw [wg12] at p23
  try rw [wg13] at p23
  try rw [wg14] at p23
  try rw [wg15] at p23
  try rw [wg16] at p23
  try rw [wg17] at p23
  try rw [wg18] at p23
  try rw [wg19] at p23
  try rw [wg20] at p23
  try rw [wg1] at p23
  try rw [wg2] at p23
  try rw [wg3] at p23
  try rw [wg4] at p23
  try rw [wg5] at p23
  try rw [wg6] at p23
  try rw [wg7] at p23
  try rw [wg8] at p23
  try rw [wg9] at p23
  try rw [wg10] at p23
  try rw [wg34] at p24
  try rw [w28] at p24
  try rw [wg35] at p24
  try rw [wg36] at p24
  try rw [wg37] at p24
  try rw [w29] at p24
  try rw [w30] at p24
  try rw [w31] at p24
  try rw [w32] at p24
  try rw [w33] at p24
  try rw [wg11] at p24
  try rw [wg12] at p24
  try rw [wg13] at p24
  try rw [wg14] at p24
  try rw [wg15] at p24
  try rw [wg16] at p24
  try rw [wg17] at p24
  try rw [wg18] at p24
  try rw [wg19] at p24
  try rw [wg20] at p24
  try rw [wg1] at p24
  try rw [wg2] at p24
  try rw [wg3] at p24
  try rw [wg4] at p24
  try rw [wg5] at p24
  try rw [wg6] at p24
  try rw [wg7] at p24
  try rw [wg8] at p24
  try rw [wg9] at p24
  try rw [wg10] at p24
  try rw [wg34] at p25
  try rw [w28] at p25
  try rw [wg35] at p25
  try rw [wg36] at p25
  try rw [wg37] at p25
  try rw [w29] at p25
  try rw [w30] at p25
  try rw [w31] at p25
  try rw [w32] at p25
  try rw [w33] at p25
  try rw [wg11] at p25
  try rw [wg12] at p25
  try rw [wg13] at p25
  try rw [wg14] at p25
  try rw [wg15] at p25
  try rw [wg16] at p25
  try rw [wg17] at p25
  try rw [wg18] at p25
  try rw [wg19] at p25
  try rw [wg20] at p25
  try rw [wg1] at p25
  try rw [wg2] at p25
  try rw [wg3] at p25
  try rw [wg4] at p25
  try rw [wg5] at p25
  try rw [wg6] at p25
  try rw [wg7] at p25
  try rw [wg8] at p25
  try rw [wg9] at p25
  try rw [wg10] at p25
  have ot38 := zOt_fr i9 (qm21.1 76 (by decide) rfl) (qm21.1 77 (by decide) rfl) (qm21.1 78 (by decide) rfl) (qm21.1 79 (by decide) rfl) (qm21.1 80 (by decide) rfl) (qm21.1 83 (by decide) rfl) (qm21.1 84 (by decide) rfl)
  have TE39 := zTE_fr (m' := m21) i3 (fun j a b => qm21.1 j (by omega) (zanyF (by simp <;> omega))) (qm21.2.1 8 rfl) (qm21.2.1 38 rfl)
  have BD40 := zBd_fr i4 (qm21.1 67 (by decide) rfl) (qm21.1 71 (by decide) rfl) (qm21.1 83 (by decide) rfl) (qm21.1 84 (by decide) rfl) (qm21.2.1 8 rfl)
  have L2 := rLx_p LQ (qm21.1 85 (by decide) rfl) (qm21.2.1 30 rfl) p26
  have N2 := rNu_z NQ qm21 ⟨rfl, rfl, rfl, rfl, rfl, rfl⟩ ⟨rfl, rfl, rfl, rfl, rfl, rfl⟩
  have D2 := rTd_c DQ (fun j a b => qm21.1 j (by omega) (zanyF (by simp <;> omega))) (qm21.1 78 (by decide) rfl) (qm21.1 83 (by decide) rfl) (qm21.2.1 8 rfl)
  have KK2 := rkd L2 wg37
  intro x41 hx41 kx41 lx41
  rw [wg37] at hx41
  refine And.intro ⟨⟨by omega, by omega⟩, ⟨by omega, by omega⟩⟩ (And.intro (fun c42 => ?_) (fun c42 => ?_))
  · refine ⟨yk_X9_name, ym_X9_name hg d (by omega), rfl, (by (try rw [wg34]) <;> (try rw [w28]) <;> (try rw [wg35]) <;> (try rw [wg36]) <;> (try rw [wg37]) <;> (try rw [w29]) <;> (try rw [w30]) <;> (try rw [w31]) <;> (try rw [w32]) <;> (try rw [w33]) <;> (try rw [wg11]) <;> (try rw [wg12]) <;> (try rw [wg13]) <;> (try rw [wg14]) <;> (try rw [wg15]) <;> (try rw [wg16]) <;> (try rw [wg17]) <;> (try rw [wg18]) <;> (try rw [wg19]) <;> (try rw [wg20]) <;> (try rw [wg1]) <;> (try rw [wg2]) <;> (try rw [wg3]) <;> (try rw [wg4]) <;> (try rw [wg5]) <;> (try rw [wg6]) <;> (try rw [wg7]) <;> (try rw [wg8]) <;> (try rw [wg9]) <;> (try rw [wg10]) <;> omega), ?_⟩
    intro j43 p44
    refine ⟨yk_X9_findParam, ym_X9_findParam hg d (by omega), _, _, rfl, ⟨by omega, by omega⟩, ?_⟩
    intro x45 kx45 lx45 p46 p47
    try rw [wg34] at p46
    try rw [w28] at p46
    try rw [wg35] at p46
    try rw [wg36] at p46
    try rw [wg37] at p46
    try rw [w29] at p46
    try rw [w30] at p46
    try rw [w31] at p46
    try rw [w32] at p46
    try rw [w33] at p46
    try rw [wg1] at p46
    try rw [wg2] at p46
    try rw [wg3] at p46
    try rw [wg4] at p46
    try rw [wg5] at p46
    try rw [wg6] at p46
    try rw [wg7] at p46
    try rw [wg8] at p46
    try rw [wg9] at p46
    try rw [wg10] at p46
    have VP : x45 = -1 ∨ (zXf μ v1 ≤ x45 ∧ x45 < zXf μ v1 + zXn μ v1) := by rcases p46 with c | c; exact Or.inl c; refine Or.inr ?_; rw [show m21.1 76 = μ.1 76 from z27.1 76 (by decide) rfl, show m21.1 77 = μ.1 77 from z27.1 77 (by decide) rfl, show g18 = 21 by omega] at c; exact ⟨c.2.1, c.2.2⟩
    have FP : x45 = yfp Bq (ynm τ (ynx τ pq)).toInt := rNu_fp N2 HI4.1 OQ.1.symm (by have h1 := p47; rw [show j43 = ynm τ (ynx τ pq) from rLx_n L2 ((rKd_n KK2).mp (by omega)) p44] at h1; exact h1)
    refine And.intro ⟨by omega, by omega⟩ (And.intro (fun c48 => ?_) (fun c48 => ?_))
    · intro x49 hx49 kx49 lx49
      rw [w32] at hx49
      refine And.intro ⟨by omega, by omega⟩ ?_
      intro x50 hx50 kx50 lx50
      have FR := ryfp (x := (ynm τ (ynx τ pq)).toInt) HI4.1 (by omega)
      have BC : x50 = Bq.1 6 (yfp Bq (ynm τ (ynx τ pq)).toInt) := by rw [hx50, show (x49 + x45) = 80 + x45 by omega, ← FP]; exact (N2.2.2 x45 (by omega) (by omega)).2 rfl
      refine And.intro ⟨by omega, by omega⟩ (And.intro (fun c51 => ?_) (fun c51 => ?_))
      · refine ⟨yk_X9_pass, ym_X9_pass hg d (by omega), rfl, (by (try rw [wg34]) <;> (try rw [w28]) <;> (try rw [wg35]) <;> (try rw [wg36]) <;> (try rw [wg37]) <;> (try rw [w29]) <;> (try rw [w30]) <;> (try rw [w31]) <;> (try rw [w32]) <;> (try rw [w33]) <;> (try rw [wg11]) <;> (try rw [wg12]) <;> (try rw [wg13]) <;> (try rw [wg14]) <;> (try rw [wg15]) <;> (try rw [wg16]) <;> (try rw [wg17]) <;> (try rw [wg18]) <;> (try rw [wg19]) <;> (try rw [wg20]) <;> (try rw [wg1]) <;> (try rw [wg2]) <;> (try rw [wg3]) <;> (try rw [wg4]) <;> (try rw [wg5]) <;> (try rw [wg6]) <;> (try rw [wg7]) <;> (try rw [wg8]) <;> (try rw [wg9]) <;> (try rw [wg10]) <;> omega), ?_⟩
        intro m52 qm52 p53 p54 p55 p56 p57
        have z58 := zfx_t z27 qm52 rfl rfl
        have w59 : m52.1 66 ((30 : Nat) : Int) = g12 := (qm52.2.1 30 rfl).trans w28
        have w60 : m52.1 66 ((38 : Nat) : Int) = g16 := (qm52.2.1 38 rfl).trans w29
        have w61 : m52.1 66 ((8 : Nat) : Int) = g17 := (qm52.2.1 8 rfl).trans w30
        have w62 : m52.1 66 ((24 : Nat) : Int) = g18 := (qm52.2.1 24 rfl).trans w31
        have w63 : m52.1 66 ((25 : Nat) : Int) = g19 := (qm52.2.1 25 rfl).trans w32
        have w64 : m52.1 66 ((26 : Nat) : Int) = g20 := (qm52.2.1 26 rfl).trans w33
        obtain ⟨g65, wg65⟩ : ∃ z : Int, m52.1 66 ((31 : Nat) : Int) = z := ⟨_, rfl⟩
        obtain ⟨g66, wg66⟩ : ∃ z : Int, m52.1 66 ((33 : Nat) : Int) = z := ⟨_, rfl⟩
        obtain ⟨g67, wg67⟩ : ∃ z : Int, m52.1 66 ((34 : Nat) : Int) = z := ⟨_, rfl⟩
        obtain ⟨g68, wg68⟩ : ∃ z : Int, m52.1 66 ((32 : Nat) : Int) = z := ⟨_, rfl⟩
        try rw [wg65] at p53
        try rw [w59] at p53
        try rw [wg66] at p53
        try rw [wg67] at p53
        try rw [wg68] at p53
        try rw [w60] at p53
        try rw [w61] at p53
        try rw [w62] at p53
        try rw [w63] at p53
        try rw [w64] at p53
        try rw [wg34] at p53
        try rw [w28] at p53
        try rw [wg35] at p53
        try rw [wg36] at p53
        try rw [wg37] at p53
        try rw [w29] at p53
        try rw [w30] at p53
        try rw [w31] at p53
        try rw [w32] at p53
        try rw [w33] at p53
        try rw [wg1] at p53
        try rw [wg2] at p53
        try rw [wg3] at p53
        try rw [wg4] at p53
        try rw [wg5] at p53
        try rw [wg6] at p53
        try rw [wg7] at p53
        try rw [wg8] at p53
        try rw [wg9] at p53
        try rw [wg10] at p53
        try rw [wg65] at p54
        try rw [w59] at p54
        try rw [wg66] at p54
        try rw [wg67] at p54
        try rw [wg68] at p54
        try rw [w60] at p54
        try rw [w61] at p54
        try rw [w62] at p54
        try rw [w63] at p54
        try rw [w64] at p54
        try rw [wg34] at p54
        try rw [w28] at p54
        try rw [wg35] at p54
        try rw [wg36] at p54
        try rw [wg37] at p54
        try rw [w29] at p54
        try rw [w30] at p54
        try rw [w31] at p54
        try rw [w32] at p54
        try rw [w33] at p54
        try rw [wg1] at p54
        try rw [wg2] at p54
        try rw [wg3] at p54
        try rw [wg4] at p54
        try rw [wg5] at p54
        try rw [wg6] at p54
        try rw [wg7] at p54
        try rw [wg8] at p54
        try rw [wg9] at p54
        try rw [wg10] at p54
        try rw [wg65] at p55
        try rw [w59] at p55
        try rw [wg66] at p55
        try rw [wg67] at p55
        try rw [wg68] at p55
        try rw [w60] at p55
        try rw [w61] at p55
        try rw [w62] at p55
        try rw [w63] at p55
        try rw [w64] at p55
        try rw [wg34] at p55
        try rw [w28] at p55
        try rw [wg35] at p55
        try rw [wg36] at p55
        try rw [wg37] at p55
        try rw [w29] at p55
        try rw [w30] at p55
        try rw [w31] at p55
        try rw [w32] at p55
        try rw [w33] at p55
        try rw [wg1] at p55
        try rw [wg2] at p55
        try rw [wg3] at p55
        try rw [wg4] at p55
        try rw [wg5] at p55
        try rw [wg6] at p55
        try rw [wg7] at p55
        try rw [wg8] at p55
        try rw [wg9] at p55
        try rw [wg10] at p55
        try rw [wg65] at p56
        try rw [w59] at p56
        try rw [wg66] at p56
        try rw [wg67] at p56
        try rw [wg68] at p56
        try rw [w60] at p56
        try rw [w61] at p56
        try rw [w62] at p56
        try rw [w63] at p56
        try rw [w64] at p56
        try rw [wg34] at p56
        try rw [w28] at p56
        try rw [wg35] at p56
        try rw [wg36] at p56
        try rw [wg37] at p56
        try rw [w29] at p56
        try rw [w30] at p56
        try rw [w31] at p56
        try rw [w32] at p56
        try rw [w33] at p56
        try rw [wg1] at p56
        try rw [wg2] at p56
        try rw [wg3] at p56
        try rw [wg4] at p56
        try rw [wg5] at p56
        try rw [wg6] at p56
        try rw [wg7] at p56
        try rw [wg8] at p56
        try rw [wg9] at p56
        try rw [wg10] at p56
        clear wg34 w28 wg35 wg36 wg37 w29 w30 w31 w32 w33
        have ot69 := zOt_fr ot38 (qm52.1 76 (by decide) rfl) (qm52.1 77 (by decide) rfl) (qm52.1 78 (by decide) rfl) (qm52.1 79 (by decide) rfl) (qm52.1 80 (by decide) rfl) (qm52.1 83 (by decide) rfl) (qm52.1 84 (by decide) rfl)
        have TE70 := zTE_fr (m' := m52) TE39 (fun j a b => qm52.1 j (by omega) (zanyF (by simp <;> omega))) (qm52.2.1 8 rfl) (qm52.2.1 38 rfl)
        have BD71 := zBd_fr BD40 (qm52.1 67 (by decide) rfl) (qm52.1 71 (by decide) rfl) (qm52.1 83 (by decide) rfl) (qm52.1 84 (by decide) rfl) (qm52.2.1 8 rfl)
        have ZA : zrm m52 < zrm m0 := (by unfold zrm; simp only [wg65, w59, wg66, wg67, wg68, w60, w61, w62, w63, w64, wg11, wg12, wg13, wg14, wg15, wg16, wg17, wg18, wg19, wg20, wg1, wg2, wg3, wg4, wg5, wg6, wg7, wg8, wg9, wg10]; (repeat' split) <;> omega)
        have L3 := rLx_p L2 (qm52.1 85 (by decide) rfl) (qm52.2.1 30 rfl) p57
        have N3 := rNu_z N2 qm52 ⟨rfl, rfl, rfl, rfl, rfl, rfl⟩ ⟨rfl, rfl, rfl, rfl, rfl, rfl⟩
        have KK3 := rkd L3 wg68
        have D3 := rTd_c D2 (fun j a b => qm52.1 j (by omega) (zanyF (by simp <;> omega))) (qm52.1 78 (by decide) rfl) (qm52.1 83 (by decide) rfl) (qm52.2.1 8 rfl)
        intro x72 hx72 kx72 lx72
        rw [wg68] at hx72
        refine And.intro ⟨⟨by omega, by omega⟩, ⟨by omega, by omega⟩⟩ (And.intro (fun c73 => ?_) (fun c73 => ?_))
        · refine Exists.intro (Int.toNat (zrm m52)) (And.intro (zrN ZA (zrm_0 (by (try rw [wg65]) <;> (try rw [w59]) <;> (try rw [wg66]) <;> (try rw [wg67]) <;> (try rw [wg68]) <;> (try rw [w60]) <;> (try rw [w61]) <;> (try rw [w62]) <;> (try rw [w63]) <;> (try rw [w64]) <;> (try rw [wg11]) <;> (try rw [wg12]) <;> (try rw [wg13]) <;> (try rw [wg14]) <;> (try rw [wg15]) <;> (try rw [wg16]) <;> (try rw [wg17]) <;> (try rw [wg18]) <;> (try rw [wg19]) <;> (try rw [wg20]) <;> (try rw [wg1]) <;> (try rw [wg2]) <;> (try rw [wg3]) <;> (try rw [wg4]) <;> (try rw [wg5]) <;> (try rw [wg6]) <;> (try rw [wg7]) <;> (try rw [wg8]) <;> (try rw [wg9]) <;> (try rw [wg10]) <;> omega))) ?_)
          exact ⟨(fun h => absurd h (by decide)), (fun _ => ⟨_, _, rfl, z58, ⟨by omega, by omega⟩, ⟨by omega, by omega⟩, (by (try rw [wg65]) <;> (try rw [w59]) <;> (try rw [wg66]) <;> (try rw [wg67]) <;> (try rw [wg68]) <;> (try rw [w60]) <;> (try rw [w61]) <;> (try rw [w62]) <;> (try rw [w63]) <;> (try rw [w64]) <;> (try rw [wg11]) <;> (try rw [wg12]) <;> (try rw [wg13]) <;> (try rw [wg14]) <;> (try rw [wg15]) <;> (try rw [wg16]) <;> (try rw [wg17]) <;> (try rw [wg18]) <;> (try rw [wg19]) <;> (try rw [wg20]) <;> (try rw [wg1]) <;> (try rw [wg2]) <;> (try rw [wg3]) <;> (try rw [wg4]) <;> (try rw [wg5]) <;> (try rw [wg6]) <;> (try rw [wg7]) <;> (try rw [wg8]) <;> (try rw [wg9]) <;> (try rw [wg10]) <;> omega), (by (try rw [wg65]) <;> (try rw [w59]) <;> (try rw [wg66]) <;> (try rw [wg67]) <;> (try rw [wg68]) <;> (try rw [w60]) <;> (try rw [w61]) <;> (try rw [w62]) <;> (try rw [w63]) <;> (try rw [w64]) <;> (try rw [wg11]) <;> (try rw [wg12]) <;> (try rw [wg13]) <;> (try rw [wg14]) <;> (try rw [wg15]) <;> (try rw [wg16]) <;> (try rw [wg17]) <;> (try rw [wg18]) <;> (try rw [wg19]) <;> (try rw [wg20]) <;> (try rw [wg1]) <;> (try rw [wg2]) <;> (try rw [wg3]) <;> (try rw [wg4]) <;> (try rw [wg5]) <;> (try rw [wg6]) <;> (try rw [wg7]) <;> (try rw [wg8]) <;> (try rw [wg9]) <;> (try rw [wg10]) <;> omega), rfl, TE70, BD71, (by (try rw [wg65]) <;> (try rw [w59]) <;> (try rw [wg66]) <;> (try rw [wg67]) <;> (try rw [wg68]) <;> (try rw [w60]) <;> (try rw [w61]) <;> (try rw [w62]) <;> (try rw [w63]) <;> (try rw [w64]) <;> (try rw [wg11]) <;> (try rw [wg12]) <;> (try rw [wg13]) <;> (try rw [wg14]) <;> (try rw [wg15]) <;> (try rw [wg16]) <;> (try rw [wg17]) <;> (try rw [wg18]) <;> (try rw [wg19]) <;> (try rw [wg20]) <;> (try rw [wg1]) <;> (try rw [wg2]) <;> (try rw [wg3]) <;> (try rw [wg4]) <;> (try rw [wg5]) <;> (try rw [wg6]) <;> (try rw [wg7]) <;> (try rw [wg8]) <;> (try rw [wg9]) <;> (try rw [wg10]) <;> omega), (Or.inl (by (try rw [wg65]) <;> (try rw [w59]) <;> (try rw [wg66]) <;> (try rw [wg67]) <;> (try rw [wg68]) <;> (try rw [w60]) <;> (try rw [w61]) <;> (try rw [w62]) <;> (try rw [w63]) <;> (try rw [w64]) <;> (try rw [wg11]) <;> (try rw [wg12]) <;> (try rw [wg13]) <;> (try rw [wg14]) <;> (try rw [wg15]) <;> (try rw [wg16]) <;> (try rw [wg17]) <;> (try rw [wg18]) <;> (try rw [wg19]) <;> (try rw [wg20]) <;> (try rw [wg1]) <;> (try rw [wg2]) <;> (try rw [wg3]) <;> (try rw [wg4]) <;> (try rw [wg5]) <;> (try rw [wg6]) <;> (try rw [wg7]) <;> (try rw [wg8]) <;> (try rw [wg9]) <;> (try rw [wg10]) <;> omega)), (Int.lt_of_lt_of_le ZA i7), (by (try rw [wg65]) <;> (try rw [w59]) <;> (try rw [wg66]) <;> (try rw [wg67]) <;> (try rw [wg68]) <;> (try rw [w60]) <;> (try rw [w61]) <;> (try rw [w62]) <;> (try rw [w63]) <;> (try rw [w64]) <;> (try rw [wg11]) <;> (try rw [wg12]) <;> (try rw [wg13]) <;> (try rw [wg14]) <;> (try rw [wg15]) <;> (try rw [wg16]) <;> (try rw [wg17]) <;> (try rw [wg18]) <;> (try rw [wg19]) <;> (try rw [wg20]) <;> (try rw [wg1]) <;> (try rw [wg2]) <;> (try rw [wg3]) <;> (try rw [wg4]) <;> (try rw [wg5]) <;> (try rw [wg6]) <;> (try rw [wg7]) <;> (try rw [wg8]) <;> (try rw [wg9]) <;> (try rw [wg10]) <;> omega), (by rcases VP with c | c; (exfalso; omega); exact c), ot69, ⟨_, _, yR_s RQ (ym4_k ((rKd_n KK2).mp (by omega)) (by omega) (by omega) ((rKd_s 58 KK3 (by decide)).mp (by omega))), L3, rNu_6 N3 (by decide), ⟨(yN_ne (by omega)).trans OQ.1, OQ.2⟩, rTd_B D3 (yN_ne (by omega)) (yN_ne (by omega)) (yN_nk (by decide)) (yN_nk (by decide)) rfl rfl, yN_at.trans FP.symm, by rw [yN_ne (by omega)]; omega⟩, rfl⟩)⟩
        · refine ⟨yk_X9_fail, ym_X9_fail hg d (by omega), _, rfl, ⟨by omega, by omega⟩, ?_⟩
          intro x74 m75 qm75 kx74 lx74 p76
          have z77 := zfx_t z58 qm75 rfl rfl
          have w78 : m75.1 66 ((31 : Nat) : Int) = g65 := (qm75.2.1 31 rfl).trans wg65
          have w79 : m75.1 66 ((30 : Nat) : Int) = g12 := (qm75.2.1 30 rfl).trans w59
          have w80 : m75.1 66 ((33 : Nat) : Int) = g66 := (qm75.2.1 33 rfl).trans wg66
          have w81 : m75.1 66 ((34 : Nat) : Int) = g67 := (qm75.2.1 34 rfl).trans wg67
          have w82 : m75.1 66 ((32 : Nat) : Int) = g68 := (qm75.2.1 32 rfl).trans wg68
          have w83 : m75.1 66 ((38 : Nat) : Int) = g16 := (qm75.2.1 38 rfl).trans w60
          have w84 : m75.1 66 ((8 : Nat) : Int) = g17 := (qm75.2.1 8 rfl).trans w61
          have w85 : m75.1 66 ((24 : Nat) : Int) = g18 := (qm75.2.1 24 rfl).trans w62
          have w86 : m75.1 66 ((25 : Nat) : Int) = g19 := (qm75.2.1 25 rfl).trans w63
          have w87 : m75.1 66 ((26 : Nat) : Int) = g20 := (qm75.2.1 26 rfl).trans w64
          clear wg65 w59 wg66 wg67 wg68 w60 w61 w62 w63 w64
          have ot88 := zOt_fr ot69 (qm75.1 76 (by decide) rfl) (qm75.1 77 (by decide) rfl) (qm75.1 78 (by decide) rfl) (qm75.1 79 (by decide) rfl) (qm75.1 80 (by decide) rfl) (qm75.1 83 (by decide) rfl) (qm75.1 84 (by decide) rfl)
          have TE89 := zTE_fr (m' := m75) TE70 (fun j a b => qm75.1 j (by omega) (zanyF (by simp <;> omega))) (qm75.2.1 8 rfl) (qm75.2.1 38 rfl)
          have BD90 := zBd_fr BD71 (qm75.1 67 (by decide) rfl) (qm75.1 71 (by decide) rfl) (qm75.1 83 (by decide) rfl) (qm75.1 84 (by decide) rfl) (qm75.2.1 8 rfl)
          exact And.intro (zrtb (by omega)) (And.intro ⟨by omega, by omega⟩ (hQ _ _ z77 (by omega) (by omega) (by (try rw [w78]) <;> (try rw [w79]) <;> (try rw [w80]) <;> (try rw [w81]) <;> (try rw [w82]) <;> (try rw [w83]) <;> (try rw [w84]) <;> (try rw [w85]) <;> (try rw [w86]) <;> (try rw [w87]) <;> (try rw [wg11]) <;> (try rw [wg12]) <;> (try rw [wg13]) <;> (try rw [wg14]) <;> (try rw [wg15]) <;> (try rw [wg16]) <;> (try rw [wg17]) <;> (try rw [wg18]) <;> (try rw [wg19]) <;> (try rw [wg20]) <;> (try rw [wg1]) <;> (try rw [wg2]) <;> (try rw [wg3]) <;> (try rw [wg4]) <;> (try rw [wg5]) <;> (try rw [wg6]) <;> (try rw [wg7]) <;> (try rw [wg8]) <;> (try rw [wg9]) <;> (try rw [wg10]) <;> omega) (by (try rw [w78]) <;> (try rw [w79]) <;> (try rw [w80]) <;> (try rw [w81]) <;> (try rw [w82]) <;> (try rw [w83]) <;> (try rw [w84]) <;> (try rw [w85]) <;> (try rw [w86]) <;> (try rw [w87]) <;> (try rw [wg11]) <;> (try rw [wg12]) <;> (try rw [wg13]) <;> (try rw [wg14]) <;> (try rw [wg15]) <;> (try rw [wg16]) <;> (try rw [wg17]) <;> (try rw [wg18]) <;> (try rw [wg19]) <;> (try rw [wg20]) <;> (try rw [wg1]) <;> (try rw [wg2]) <;> (try rw [wg3]) <;> (try rw [wg4]) <;> (try rw [wg5]) <;> (try rw [wg6]) <;> (try rw [wg7]) <;> (try rw [wg8]) <;> (try rw [wg9]) <;> (try rw [wg10]) <;> omega) TE89 (by (try rw [w78]) <;> (try rw [w79]) <;> (try rw [w80]) <;> (try rw [w81]) <;> (try rw [w82]) <;> (try rw [w83]) <;> (try rw [w84]) <;> (try rw [w85]) <;> (try rw [w86]) <;> (try rw [w87]) <;> (try rw [wg11]) <;> (try rw [wg12]) <;> (try rw [wg13]) <;> (try rw [wg14]) <;> (try rw [wg15]) <;> (try rw [wg16]) <;> (try rw [wg17]) <;> (try rw [wg18]) <;> (try rw [wg19]) <;> (try rw [wg20]) <;> (try rw [wg1]) <;> (try rw [wg2]) <;> (try rw [wg3]) <;> (try rw [wg4]) <;> (try rw [wg5]) <;> (try rw [wg6]) <;> (try rw [wg7]) <;> (try rw [wg8]) <;> (try rw [wg9]) <;> (try rw [wg10]) <;> omega) (fun h => by exfalso; omega) (fun h => by exfalso; omega) ot88 (Or.inl ⟨by omega, rFa_t RQ (rFa_f L3 N3.1.2.2.2.2.2 (yR_s (yR_r τ _) (ym4_f ((rKd_n KK2).mp (by omega)) (by omega) (by omega) (fun h0 => by have h1 := (rKd_s 58 KK3 (by decide)).mpr h0; omega))) p76)⟩)))
      · refine ⟨yk_X9_fail, ym_X9_fail hg d (by omega), _, rfl, ⟨by omega, by omega⟩, ?_⟩
        intro x91 m92 qm92 kx91 lx91 p93
        have z94 := zfx_t z27 qm92 rfl rfl
        have w95 : m92.1 66 ((31 : Nat) : Int) = g34 := (qm92.2.1 31 rfl).trans wg34
        have w96 : m92.1 66 ((30 : Nat) : Int) = g12 := (qm92.2.1 30 rfl).trans w28
        have w97 : m92.1 66 ((33 : Nat) : Int) = g35 := (qm92.2.1 33 rfl).trans wg35
        have w98 : m92.1 66 ((34 : Nat) : Int) = g36 := (qm92.2.1 34 rfl).trans wg36
        have w99 : m92.1 66 ((32 : Nat) : Int) = g37 := (qm92.2.1 32 rfl).trans wg37
        have w100 : m92.1 66 ((38 : Nat) : Int) = g16 := (qm92.2.1 38 rfl).trans w29
        have w101 : m92.1 66 ((8 : Nat) : Int) = g17 := (qm92.2.1 8 rfl).trans w30
        have w102 : m92.1 66 ((24 : Nat) : Int) = g18 := (qm92.2.1 24 rfl).trans w31
        have w103 : m92.1 66 ((25 : Nat) : Int) = g19 := (qm92.2.1 25 rfl).trans w32
        have w104 : m92.1 66 ((26 : Nat) : Int) = g20 := (qm92.2.1 26 rfl).trans w33
        clear wg34 w28 wg35 wg36 wg37 w29 w30 w31 w32 w33
        have ot105 := zOt_fr ot38 (qm92.1 76 (by decide) rfl) (qm92.1 77 (by decide) rfl) (qm92.1 78 (by decide) rfl) (qm92.1 79 (by decide) rfl) (qm92.1 80 (by decide) rfl) (qm92.1 83 (by decide) rfl) (qm92.1 84 (by decide) rfl)
        have TE106 := zTE_fr (m' := m92) TE39 (fun j a b => qm92.1 j (by omega) (zanyF (by simp <;> omega))) (qm92.2.1 8 rfl) (qm92.2.1 38 rfl)
        have BD107 := zBd_fr BD40 (qm92.1 67 (by decide) rfl) (qm92.1 71 (by decide) rfl) (qm92.1 83 (by decide) rfl) (qm92.1 84 (by decide) rfl) (qm92.2.1 8 rfl)
        exact And.intro (zrtb (by omega)) (And.intro ⟨by omega, by omega⟩ (hQ _ _ z94 (by omega) (by omega) (by (try rw [w95]) <;> (try rw [w96]) <;> (try rw [w97]) <;> (try rw [w98]) <;> (try rw [w99]) <;> (try rw [w100]) <;> (try rw [w101]) <;> (try rw [w102]) <;> (try rw [w103]) <;> (try rw [w104]) <;> (try rw [wg11]) <;> (try rw [wg12]) <;> (try rw [wg13]) <;> (try rw [wg14]) <;> (try rw [wg15]) <;> (try rw [wg16]) <;> (try rw [wg17]) <;> (try rw [wg18]) <;> (try rw [wg19]) <;> (try rw [wg20]) <;> (try rw [wg1]) <;> (try rw [wg2]) <;> (try rw [wg3]) <;> (try rw [wg4]) <;> (try rw [wg5]) <;> (try rw [wg6]) <;> (try rw [wg7]) <;> (try rw [wg8]) <;> (try rw [wg9]) <;> (try rw [wg10]) <;> omega) (by (try rw [w95]) <;> (try rw [w96]) <;> (try rw [w97]) <;> (try rw [w98]) <;> (try rw [w99]) <;> (try rw [w100]) <;> (try rw [w101]) <;> (try rw [w102]) <;> (try rw [w103]) <;> (try rw [w104]) <;> (try rw [wg11]) <;> (try rw [wg12]) <;> (try rw [wg13]) <;> (try rw [wg14]) <;> (try rw [wg15]) <;> (try rw [wg16]) <;> (try rw [wg17]) <;> (try rw [wg18]) <;> (try rw [wg19]) <;> (try rw [wg20]) <;> (try rw [wg1]) <;> (try rw [wg2]) <;> (try rw [wg3]) <;> (try rw [wg4]) <;> (try rw [wg5]) <;> (try rw [wg6]) <;> (try rw [wg7]) <;> (try rw [wg8]) <;> (try rw [wg9]) <;> (try rw [wg10]) <;> omega) TE106 (by (try rw [w95]) <;> (try rw [w96]) <;> (try rw [w97]) <;> (try rw [w98]) <;> (try rw [w99]) <;> (try rw [w100]) <;> (try rw [w101]) <;> (try rw [w102]) <;> (try rw [w103]) <;> (try rw [w104]) <;> (try rw [wg11]) <;> (try rw [wg12]) <;> (try rw [wg13]) <;> (try rw [wg14]) <;> (try rw [wg15]) <;> (try rw [wg16]) <;> (try rw [wg17]) <;> (try rw [wg18]) <;> (try rw [wg19]) <;> (try rw [wg20]) <;> (try rw [wg1]) <;> (try rw [wg2]) <;> (try rw [wg3]) <;> (try rw [wg4]) <;> (try rw [wg5]) <;> (try rw [wg6]) <;> (try rw [wg7]) <;> (try rw [wg8]) <;> (try rw [wg9]) <;> (try rw [wg10]) <;> omega) (fun h => by exfalso; omega) (fun h => by exfalso; omega) ot105 (Or.inl ⟨by omega, rFa_t RQ (rFa_f L2 N2.1.2.2.2.2.2 (yR_s (yR_r τ _) (ym4_3 ((rKd_n KK2).mp (by omega)) (by omega) (by omega))) p93)⟩)))
    · refine ⟨yk_X9_fail, ym_X9_fail hg d (by omega), _, rfl, ⟨by omega, by omega⟩, ?_⟩
      intro x108 m109 qm109 kx108 lx108 p110
      have z111 := zfx_t z27 qm109 rfl rfl
      have w112 : m109.1 66 ((31 : Nat) : Int) = g34 := (qm109.2.1 31 rfl).trans wg34
      have w113 : m109.1 66 ((30 : Nat) : Int) = g12 := (qm109.2.1 30 rfl).trans w28
      have w114 : m109.1 66 ((33 : Nat) : Int) = g35 := (qm109.2.1 33 rfl).trans wg35
      have w115 : m109.1 66 ((34 : Nat) : Int) = g36 := (qm109.2.1 34 rfl).trans wg36
      have w116 : m109.1 66 ((32 : Nat) : Int) = g37 := (qm109.2.1 32 rfl).trans wg37
      have w117 : m109.1 66 ((38 : Nat) : Int) = g16 := (qm109.2.1 38 rfl).trans w29
      have w118 : m109.1 66 ((8 : Nat) : Int) = g17 := (qm109.2.1 8 rfl).trans w30
      have w119 : m109.1 66 ((24 : Nat) : Int) = g18 := (qm109.2.1 24 rfl).trans w31
      have w120 : m109.1 66 ((25 : Nat) : Int) = g19 := (qm109.2.1 25 rfl).trans w32
      have w121 : m109.1 66 ((26 : Nat) : Int) = g20 := (qm109.2.1 26 rfl).trans w33
      clear wg34 w28 wg35 wg36 wg37 w29 w30 w31 w32 w33
      have ot122 := zOt_fr ot38 (qm109.1 76 (by decide) rfl) (qm109.1 77 (by decide) rfl) (qm109.1 78 (by decide) rfl) (qm109.1 79 (by decide) rfl) (qm109.1 80 (by decide) rfl) (qm109.1 83 (by decide) rfl) (qm109.1 84 (by decide) rfl)
      have TE123 := zTE_fr (m' := m109) TE39 (fun j a b => qm109.1 j (by omega) (zanyF (by simp <;> omega))) (qm109.2.1 8 rfl) (qm109.2.1 38 rfl)
      have BD124 := zBd_fr BD40 (qm109.1 67 (by decide) rfl) (qm109.1 71 (by decide) rfl) (qm109.1 83 (by decide) rfl) (qm109.1 84 (by decide) rfl) (qm109.2.1 8 rfl)
      exact And.intro (zrtb (by omega)) (And.intro ⟨by omega, by omega⟩ (hQ _ _ z111 (by omega) (by omega) (by (try rw [w112]) <;> (try rw [w113]) <;> (try rw [w114]) <;> (try rw [w115]) <;> (try rw [w116]) <;> (try rw [w117]) <;> (try rw [w118]) <;> (try rw [w119]) <;> (try rw [w120]) <;> (try rw [w121]) <;> (try rw [wg11]) <;> (try rw [wg12]) <;> (try rw [wg13]) <;> (try rw [wg14]) <;> (try rw [wg15]) <;> (try rw [wg16]) <;> (try rw [wg17]) <;> (try rw [wg18]) <;> (try rw [wg19]) <;> (try rw [wg20]) <;> (try rw [wg1]) <;> (try rw [wg2]) <;> (try rw [wg3]) <;> (try rw [wg4]) <;> (try rw [wg5]) <;> (try rw [wg6]) <;> (try rw [wg7]) <;> (try rw [wg8]) <;> (try rw [wg9]) <;> (try rw [wg10]) <;> omega) (by (try rw [w112]) <;> (try rw [w113]) <;> (try rw [w114]) <;> (try rw [w115]) <;> (try rw [w116]) <;> (try rw [w117]) <;> (try rw [w118]) <;> (try rw [w119]) <;> (try rw [w120]) <;> (try rw [w121]) <;> (try rw [wg11]) <;> (try rw [wg12]) <;> (try rw [wg13]) <;> (try rw [wg14]) <;> (try rw [wg15]) <;> (try rw [wg16]) <;> (try rw [wg17]) <;> (try rw [wg18]) <;> (try rw [wg19]) <;> (try rw [wg20]) <;> (try rw [wg1]) <;> (try rw [wg2]) <;> (try rw [wg3]) <;> (try rw [wg4]) <;> (try rw [wg5]) <;> (try rw [wg6]) <;> (try rw [wg7]) <;> (try rw [wg8]) <;> (try rw [wg9]) <;> (try rw [wg10]) <;> omega) TE123 (by (try rw [w112]) <;> (try rw [w113]) <;> (try rw [w114]) <;> (try rw [w115]) <;> (try rw [w116]) <;> (try rw [w117]) <;> (try rw [w118]) <;> (try rw [w119]) <;> (try rw [w120]) <;> (try rw [w121]) <;> (try rw [wg11]) <;> (try rw [wg12]) <;> (try rw [wg13]) <;> (try rw [wg14]) <;> (try rw [wg15]) <;> (try rw [wg16]) <;> (try rw [wg17]) <;> (try rw [wg18]) <;> (try rw [wg19]) <;> (try rw [wg20]) <;> (try rw [wg1]) <;> (try rw [wg2]) <;> (try rw [wg3]) <;> (try rw [wg4]) <;> (try rw [wg5]) <;> (try rw [wg6]) <;> (try rw [wg7]) <;> (try rw [wg8]) <;> (try rw [wg9]) <;> (try rw [wg10]) <;> omega) (fun h => by exfalso; omega) (fun h => by exfalso; omega) ot122 (Or.inl ⟨by omega, rFa_t RQ (rFa_f L2 N2.1.2.2.2.2.2 (yR_s (yR_r τ _) (ym4_4 ((rKd_n KK2).mp (by omega)) (by omega))) p110)⟩)))
  · refine ⟨yk_X9_fail, ym_X9_fail hg d (by omega), _, rfl, ⟨by omega, by omega⟩, ?_⟩
    intro x125 m126 qm126 kx125 lx125 p127
    have z128 := zfx_t z27 qm126 rfl rfl
    have w129 : m126.1 66 ((31 : Nat) : Int) = g34 := (qm126.2.1 31 rfl).trans wg34
    have w130 : m126.1 66 ((30 : Nat) : Int) = g12 := (qm126.2.1 30 rfl).trans w28
    have w131 : m126.1 66 ((33 : Nat) : Int) = g35 := (qm126.2.1 33 rfl).trans wg35
    have w132 : m126.1 66 ((34 : Nat) : Int) = g36 := (qm126.2.1 34 rfl).trans wg36
    have w133 : m126.1 66 ((32 : Nat) : Int) = g37 := (qm126.2.1 32 rfl).trans wg37
    have w134 : m126.1 66 ((38 : Nat) : Int) = g16 := (qm126.2.1 38 rfl).trans w29
    have w135 : m126.1 66 ((8 : Nat) : Int) = g17 := (qm126.2.1 8 rfl).trans w30
    have w136 : m126.1 66 ((24 : Nat) : Int) = g18 := (qm126.2.1 24 rfl).trans w31
    have w137 : m126.1 66 ((25 : Nat) : Int) = g19 := (qm126.2.1 25 rfl).trans w32
    have w138 : m126.1 66 ((26 : Nat) : Int) = g20 := (qm126.2.1 26 rfl).trans w33
    clear wg34 w28 wg35 wg36 wg37 w29 w30 w31 w32 w33
    have ot139 := zOt_fr ot38 (qm126.1 76 (by decide) rfl) (qm126.1 77 (by decide) rfl) (qm126.1 78 (by decide) rfl) (qm126.1 79 (by decide) rfl) (qm126.1 80 (by decide) rfl) (qm126.1 83 (by decide) rfl) (qm126.1 84 (by decide) rfl)
    have TE140 := zTE_fr (m' := m126) TE39 (fun j a b => qm126.1 j (by omega) (zanyF (by simp <;> omega))) (qm126.2.1 8 rfl) (qm126.2.1 38 rfl)
    have BD141 := zBd_fr BD40 (qm126.1 67 (by decide) rfl) (qm126.1 71 (by decide) rfl) (qm126.1 83 (by decide) rfl) (qm126.1 84 (by decide) rfl) (qm126.2.1 8 rfl)
    exact And.intro (zrtb (by omega)) (And.intro ⟨by omega, by omega⟩ (hQ _ _ z128 (by omega) (by omega) (by (try rw [w129]) <;> (try rw [w130]) <;> (try rw [w131]) <;> (try rw [w132]) <;> (try rw [w133]) <;> (try rw [w134]) <;> (try rw [w135]) <;> (try rw [w136]) <;> (try rw [w137]) <;> (try rw [w138]) <;> (try rw [wg11]) <;> (try rw [wg12]) <;> (try rw [wg13]) <;> (try rw [wg14]) <;> (try rw [wg15]) <;> (try rw [wg16]) <;> (try rw [wg17]) <;> (try rw [wg18]) <;> (try rw [wg19]) <;> (try rw [wg20]) <;> (try rw [wg1]) <;> (try rw [wg2]) <;> (try rw [wg3]) <;> (try rw [wg4]) <;> (try rw [wg5]) <;> (try rw [wg6]) <;> (try rw [wg7]) <;> (try rw [wg8]) <;> (try rw [wg9]) <;> (try rw [wg10]) <;> omega) (by (try rw [w129]) <;> (try rw [w130]) <;> (try rw [w131]) <;> (try rw [w132]) <;> (try rw [w133]) <;> (try rw [w134]) <;> (try rw [w135]) <;> (try rw [w136]) <;> (try rw [w137]) <;> (try rw [w138]) <;> (try rw [wg11]) <;> (try rw [wg12]) <;> (try rw [wg13]) <;> (try rw [wg14]) <;> (try rw [wg15]) <;> (try rw [wg16]) <;> (try rw [wg17]) <;> (try rw [wg18]) <;> (try rw [wg19]) <;> (try rw [wg20]) <;> (try rw [wg1]) <;> (try rw [wg2]) <;> (try rw [wg3]) <;> (try rw [wg4]) <;> (try rw [wg5]) <;> (try rw [wg6]) <;> (try rw [wg7]) <;> (try rw [wg8]) <;> (try rw [wg9]) <;> (try rw [wg10]) <;> omega) TE140 (by (try rw [w129]) <;> (try rw [w130]) <;> (try rw [w131]) <;> (try rw [w132]) <;> (try rw [w133]) <;> (try rw [w134]) <;> (try rw [w135]) <;> (try rw [w136]) <;> (try rw [w137]) <;> (try rw [w138]) <;> (try rw [wg11]) <;> (try rw [wg12]) <;> (try rw [wg13]) <;> (try rw [wg14]) <;> (try rw [wg15]) <;> (try rw [wg16]) <;> (try rw [wg17]) <;> (try rw [wg18]) <;> (try rw [wg19]) <;> (try rw [wg20]) <;> (try rw [wg1]) <;> (try rw [wg2]) <;> (try rw [wg3]) <;> (try rw [wg4]) <;> (try rw [wg5]) <;> (try rw [wg6]) <;> (try rw [wg7]) <;> (try rw [wg8]) <;> (try rw [wg9]) <;> (try rw [wg10]) <;> omega) (fun h => by exfalso; omega) (fun h => by exfalso; omega) ot139 (Or.inl ⟨by omega, rFa_t RQ (rFa_f L2 N2.1.2.2.2.2.2 (yR_s (yR_r τ _) (ym4_2 (fun h0 => by have h1 := (rKd_n KK2).mpr h0; omega))) p127)⟩)))
set_option maxHeartbeats 4000000 in
theorem ym_X9_readBounds_79 {g : zΓ} (hg : zg g) (d : Nat) (hd : 6 ≤ d + 1) (μ : zM) (Q : Option zV → zM → Prop) (a1 : Int) (lo : Int) (P : Int) (τ : yT) (p : Int) (B : yB) (ha1 : (1 ≤ a1 ∧ a1 ≤ 20)) (hp0 : (0 ≤ μ.1 66 ((33 : Nat) : Int) ∧ 0 ≤ μ.1 66 ((34 : Nat) : Int) ∧ μ.1 66 ((33 : Nat) : Int) + μ.1 66 ((34 : Nat) : Int) ≤ μ.1 66 ((31 : Nat) : Int) ∧ μ.1 66 ((31 : Nat) : Int) ≤ μ.1 66 ((30 : Nat) : Int) ∧ μ.1 66 ((30 : Nat) : Int) ≤ 800)) (hp1 : (zND μ lo)) (hp2 : (zWf μ lo (zTop μ) (a1 + 1) P 0 (zXn μ))) (hp3 : (μ.1 66 ((24 : Nat) : Int) = 21 ∧ μ.1 66 ((25 : Nat) : Int) = 80 ∧ μ.1 66 ((26 : Nat) : Int) = a1 + 1)) (hp4 : (0 ≤ zXf μ a1 ∧ zXf μ a1 + zXn μ a1 ≤ P ∧ P ≤ 80)) (hp5 : (μ.1 66 ((8 : Nat) : Int) - μ.1 66 ((38 : Nat) : Int) ≤ 19699 ∧ 0 ≤ μ.1 66 ((38 : Nat) : Int) ∧ μ.1 66 ((38 : Nat) : Int) ≤ 300)) (hp6 : (zBd μ lo P)) (hp7 : (μ.1 66 ((32 : Nat) : Int) = 259)) (hp8 : (rLx μ τ p)) (hp9 : (rNu μ B)) (hp10 : (yInv (4, p, 0, [], B))) (hp11 : (a1 = B.1 0 3)) (hp12 : (rTd μ B)) (hQ : ∀ (v : Int) (μ' : zM), zfx [67, 68, 69, 70, 71, 72, 73, 74, 83, 84, 100, 101, 102, 103, 104] [8, 31, 32, 33, 34, 35, 36, 38] μ μ' → 0 ≤ v → v ≤ 1 → (0 ≤ μ'.1 66 ((33 : Nat) : Int) ∧ 0 ≤ μ'.1 66 ((34 : Nat) : Int) ∧ μ'.1 66 ((33 : Nat) : Int) + μ'.1 66 ((34 : Nat) : Int) ≤ μ'.1 66 ((31 : Nat) : Int) ∧ μ'.1 66 ((31 : Nat) : Int) ≤ μ'.1 66 ((30 : Nat) : Int) ∧ μ'.1 66 ((30 : Nat) : Int) ≤ 800) → (μ'.1 66 ((30 : Nat) : Int) = μ.1 66 ((30 : Nat) : Int)) → (zTE μ μ' lo (a1 + 1) P 0 (zXn μ)) → (0 ≤ μ'.1 66 ((38 : Nat) : Int) ∧ μ'.1 66 ((38 : Nat) : Int) ≤ 300) → (v = 1 → zBd μ' lo P) → (v = 1 → zrm μ' < zrm μ) → (zOt μ μ') → ((v = 0 ∧ rFa τ (4, p, 0, [], B) μ') ∨ (v = 1 ∧ ∃ p' B', yR τ (4, p, 0, [], B) (6, p', 0, [], B') ∧ rLx μ' τ p' ∧ rNu μ' B' ∧ (B'.1 0 3 = a1 ∧ B'.2 1 = B.2 1 ∧ B'.2 2 = B.2 2) ∧ rTd μ' B')) → Q (some (.inl v)) μ') : ∀ (vs : List zV) (m0 : zM) (n : Nat), yi_X9_readBounds μ a1 lo P τ p B 79 vs m0 n → zw (zOk g d) mt_X9_readBounds ([(0, [0, 1]), (79, [0, 1, 2])], []) (fun pc' vs' μ'' => ∃ n', n' < n ∧ yi_X9_readBounds μ a1 lo P τ p B pc' vs' μ'' n') Q (fun _ _ => False) 111 true (zsuf 79 mt_X9_readBounds.2.2.2.2.1) (zzip [0, 1, 2] vs) [] m0 := by
  obtain ⟨g1, wg1⟩ : ∃ z : Int, μ.1 66 ((31 : Nat) : Int) = z := ⟨_, rfl⟩
  obtain ⟨g2, wg2⟩ : ∃ z : Int, μ.1 66 ((30 : Nat) : Int) = z := ⟨_, rfl⟩
  obtain ⟨g3, wg3⟩ : ∃ z : Int, μ.1 66 ((33 : Nat) : Int) = z := ⟨_, rfl⟩
  obtain ⟨g4, wg4⟩ : ∃ z : Int, μ.1 66 ((34 : Nat) : Int) = z := ⟨_, rfl⟩
  obtain ⟨g5, wg5⟩ : ∃ z : Int, μ.1 66 ((32 : Nat) : Int) = z := ⟨_, rfl⟩
  obtain ⟨g6, wg6⟩ : ∃ z : Int, μ.1 66 ((38 : Nat) : Int) = z := ⟨_, rfl⟩
  obtain ⟨g7, wg7⟩ : ∃ z : Int, μ.1 66 ((8 : Nat) : Int) = z := ⟨_, rfl⟩
  obtain ⟨g8, wg8⟩ : ∃ z : Int, μ.1 66 ((24 : Nat) : Int) = z := ⟨_, rfl⟩
  obtain ⟨g9, wg9⟩ : ∃ z : Int, μ.1 66 ((25 : Nat) : Int) = z := ⟨_, rfl⟩
  obtain ⟨g10, wg10⟩ : ∃ z : Int, μ.1 66 ((26 : Nat) : Int) = z := ⟨_, rfl⟩
  try rw [wg1] at hp0
  try rw [wg2] at hp0
  try rw [wg3] at hp0
  try rw [wg4] at hp0
  try rw [wg5] at hp0
  try rw [wg6] at hp0
  try rw [wg7] at hp0
  try rw [wg8] at hp0
  try rw [wg9] at hp0
  try rw [wg10] at hp0
  try rw [wg1] at hp1
  try rw [wg2] at hp1
  try rw [wg3] at hp1
  try rw [wg4] at hp1
  try rw [wg5] at hp1
  try rw [wg6] at hp1
  try rw [wg7] at hp1
  try rw [wg8] at hp1
  try rw [wg9] at hp1
  try rw [wg10] at hp1
  try rw [wg1] at hp2
  try rw [wg2] at hp2
  try rw [wg3] at hp2
  try rw [wg4] at hp2
  try rw [wg5] at hp2
  try rw [wg6] at hp2
  try rw [wg7] at hp2
  try rw [wg8] at hp2
  try rw [wg9] at hp2
  try rw [wg10] at hp2
  try rw [wg1] at hp3
  try rw [wg2] at hp3
  try rw [wg3] at hp3
  try rw [wg4] at hp3
  try rw [wg5] at hp3
  try rw [wg6] at hp3
  try rw [wg7] at hp3
  try rw [wg8] at hp3
  try rw [wg9] at hp3
  try rw [wg10] at hp3
  try rw [wg1] at hp4
  try rw [wg2] at hp4
  try rw [wg3] at hp4
  try rw [wg4] at hp4
  try rw [wg5] at hp4
  try rw [wg6] at hp4
  try rw [wg7] at hp4
  try rw [wg8] at hp4
  try rw [wg9] at hp4
  try rw [wg10] at hp4
  try rw [wg1] at hp5
  try rw [wg2] at hp5
  try rw [wg3] at hp5
  try rw [wg4] at hp5
  try rw [wg5] at hp5
  try rw [wg6] at hp5
  try rw [wg7] at hp5
  try rw [wg8] at hp5
  try rw [wg9] at hp5
  try rw [wg10] at hp5
  try rw [wg1] at hp6
  try rw [wg2] at hp6
  try rw [wg3] at hp6
  try rw [wg4] at hp6
  try rw [wg5] at hp6
  try rw [wg6] at hp6
  try rw [wg7] at hp6
  try rw [wg8] at hp6
  try rw [wg9] at hp6
  try rw [wg10] at hp6
  try rw [wg1] at hp7
  try rw [wg2] at hp7
  try rw [wg3] at hp7
  try rw [wg4] at hp7
  try rw [wg5] at hp7
  try rw [wg6] at hp7
  try rw [wg7] at hp7
  try rw [wg8] at hp7
  try rw [wg9] at hp7
  try rw [wg10] at hp7
  try rw [wg1] at hp8
  try rw [wg2] at hp8
  try rw [wg3] at hp8
  try rw [wg4] at hp8
  try rw [wg5] at hp8
  try rw [wg6] at hp8
  try rw [wg7] at hp8
  try rw [wg8] at hp8
  try rw [wg9] at hp8
  try rw [wg10] at hp8
  try rw [wg1] at hp9
  try rw [wg2] at hp9
  try rw [wg3] at hp9
  try rw [wg4] at hp9
  try rw [wg5] at hp9
  try rw [wg6] at hp9
  try rw [wg7] at hp9
  try rw [wg8] at hp9
  try rw [wg9] at hp9
  try rw [wg10] at hp9
  try rw [wg1] at hp10
  try rw [wg2] at hp10
  try rw [wg3] at hp10
  try rw [wg4] at hp10
  try rw [wg5] at hp10
  try rw [wg6] at hp10
  try rw [wg7] at hp10
  try rw [wg8] at hp10
  try rw [wg9] at hp10
  try rw [wg10] at hp10
  try rw [wg1] at hp11
  try rw [wg2] at hp11
  try rw [wg3] at hp11
  try rw [wg4] at hp11
  try rw [wg5] at hp11
  try rw [wg6] at hp11
  try rw [wg7] at hp11
  try rw [wg8] at hp11
  try rw [wg9] at hp11
  try rw [wg10] at hp11
  try rw [wg1] at hp12
  try rw [wg2] at hp12
  try rw [wg3] at hp12
  try rw [wg4] at hp12
  try rw [wg5] at hp12
  try rw [wg6] at hp12
  try rw [wg7] at hp12
  try rw [wg8] at hp12
  try rw [wg9] at hp12
  try rw [wg10] at hp12
  have z0 : zfx [67, 68, 69, 70, 71, 72, 73, 74, 83, 84, 100, 101, 102, 103, 104] [8, 31, 32, 33, 34, 35, 36, 38] μ μ := zfx_x μ
  intro vs m0 n hI
  replace hI := hI.2 rfl
  clear z0
  obtain ⟨v1, v2, rfl, z0, hv1, hv2, i0, i1, i2, i3, i4, i5, i6, i7, i8, i9, i10, i11, rfl⟩ := hI
  subst i2
  obtain ⟨g142, wg142⟩ : ∃ z : Int, m0.1 66 ((31 : Nat) : Int) = z := ⟨_, rfl⟩
  obtain ⟨g143, wg143⟩ : ∃ z : Int, m0.1 66 ((30 : Nat) : Int) = z := ⟨_, rfl⟩
  obtain ⟨g144, wg144⟩ : ∃ z : Int, m0.1 66 ((33 : Nat) : Int) = z := ⟨_, rfl⟩
  obtain ⟨g145, wg145⟩ : ∃ z : Int, m0.1 66 ((34 : Nat) : Int) = z := ⟨_, rfl⟩
  obtain ⟨g146, wg146⟩ : ∃ z : Int, m0.1 66 ((32 : Nat) : Int) = z := ⟨_, rfl⟩
  obtain ⟨g147, wg147⟩ : ∃ z : Int, m0.1 66 ((38 : Nat) : Int) = z := ⟨_, rfl⟩
  obtain ⟨g148, wg148⟩ : ∃ z : Int, m0.1 66 ((8 : Nat) : Int) = z := ⟨_, rfl⟩
  obtain ⟨g149, wg149⟩ : ∃ z : Int, m0.1 66 ((24 : Nat) : Int) = z := ⟨_, rfl⟩
  obtain ⟨g150, wg150⟩ : ∃ z : Int, m0.1 66 ((25 : Nat) : Int) = z := ⟨_, rfl⟩
  obtain ⟨g151, wg151⟩ : ∃ z : Int, m0.1 66 ((26 : Nat) : Int) = z := ⟨_, rfl⟩
  try rw [wg142] at i0
  try rw [wg143] at i0
  try rw [wg144] at i0
  try rw [wg145] at i0
  try rw [wg146] at i0
  try rw [wg147] at i0
  try rw [wg148] at i0
  try rw [wg149] at i0
  try rw [wg150] at i0
  try rw [wg151] at i0
  try rw [wg1] at i0
  try rw [wg2] at i0
  try rw [wg3] at i0
  try rw [wg4] at i0
  try rw [wg5] at i0
  try rw [wg6] at i0
  try rw [wg7] at i0
  try rw [wg8] at i0
  try rw [wg9] at i0
  try rw [wg10] at i0
  try rw [wg142] at i1
  try rw [wg143] at i1
  try rw [wg144] at i1
  try rw [wg145] at i1
  try rw [wg146] at i1
  try rw [wg147] at i1
  try rw [wg148] at i1
  try rw [wg149] at i1
  try rw [wg150] at i1
  try rw [wg151] at i1
  try rw [wg1] at i1
  try rw [wg2] at i1
  try rw [wg3] at i1
  try rw [wg4] at i1
  try rw [wg5] at i1
  try rw [wg6] at i1
  try rw [wg7] at i1
  try rw [wg8] at i1
  try rw [wg9] at i1
  try rw [wg10] at i1
  try rw [wg142] at i2
  try rw [wg143] at i2
  try rw [wg144] at i2
  try rw [wg145] at i2
  try rw [wg146] at i2
  try rw [wg147] at i2
  try rw [wg148] at i2
  try rw [wg149] at i2
  try rw [wg150] at i2
  try rw [wg151] at i2
  try rw [wg1] at i2
  try rw [wg2] at i2
  try rw [wg3] at i2
  try rw [wg4] at i2
  try rw [wg5] at i2
  try rw [wg6] at i2
  try rw [wg7] at i2
  try rw [wg8] at i2
  try rw [wg9] at i2
  try rw [wg10] at i2
  try rw [wg142] at i3
  try rw [wg143] at i3
  try rw [wg144] at i3
  try rw [wg145] at i3
  try rw [wg146] at i3
  try rw [wg147] at i3
  try rw [wg148] at i3
  try rw [wg149] at i3
  try rw [wg150] at i3
  try rw [wg151] at i3
  try rw [wg1] at i3
  try rw [wg2] at i3
  try rw [wg3] at i3
  try rw [wg4] at i3
  try rw [wg5] at i3
  try rw [wg6] at i3
  try rw [wg7] at i3
  try rw [wg8] at i3
  try rw [wg9] at i3
  try rw [wg10] at i3
  try rw [wg142] at i4
  try rw [wg143] at i4
  try rw [wg144] at i4
  try rw [wg145] at i4
  try rw [wg146] at i4
  try rw [wg147] at i4
  try rw [wg148] at i4
  try rw [wg149] at i4
  try rw [wg150] at i4
  try rw [wg151] at i4
  try rw [wg1] at i4
  try rw [wg2] at i4
  try rw [wg3] at i4
  try rw [wg4] at i4
  try rw [wg5] at i4
  try rw [wg6] at i4
  try rw [wg7] at i4
  try rw [wg8] at i4
  try rw [wg9] at i4
  try rw [wg10] at i4
  try rw [wg142] at i5
  try rw [wg143] at i5
  try rw [wg144] at i5
  try rw [wg145] at i5
  try rw [wg146] at i5
  try rw [wg147] at i5
  try rw [wg148] at i5
  try rw [wg149] at i5
  try rw [wg150] at i5
  try rw [wg151] at i5
  try rw [wg1] at i5
  try rw [wg2] at i5
  try rw [wg3] at i5
  try rw [wg4] at i5
  try rw [wg5] at i5
  try rw [wg6] at i5
  try rw [wg7] at i5
  try rw [wg8] at i5
  try rw [wg9] at i5
  try rw [wg10] at i5
  try rw [wg142] at i6
  try rw [wg143] at i6
  try rw [wg144] at i6
  try rw [wg145] at i6
  try rw [wg146] at i6
  try rw [wg147] at i6
  try rw [wg148] at i6
  try rw [wg149] at i6
  try rw [wg150] at i6
  try rw [wg151] at i6
  try rw [wg1] at i6
  try rw [wg2] at i6
  try rw [wg3] at i6
  try rw [wg4] at i6
  try rw [wg5] at i6
  try rw [wg6] at i6
  try rw [wg7] at i6
  try rw [wg8] at i6
  try rw [wg9] at i6
  try rw [wg10] at i6
  try rw [wg142] at i7
  try rw [wg143] at i7
  try rw [wg144] at i7
  try rw [wg145] at i7
  try rw [wg146] at i7
  try rw [wg147] at i7
  try rw [wg148] at i7
  try rw [wg149] at i7
  try rw [wg150] at i7
  try rw [wg151] at i7
  try rw [wg1] at i7
  try rw [wg2] at i7
  try rw [wg3] at i7
  try rw [wg4] at i7
  try rw [wg5] at i7
  try rw [wg6] at i7
  try rw [wg7] at i7
  try rw [wg8] at i7
  try rw [wg9] at i7
  try rw [wg10] at i7
  try rw [wg142] at i8
  try rw [wg143] at i8
  try rw [wg144] at i8
  try rw [wg145] at i8
  try rw [wg146] at i8
  try rw [wg147] at i8
  try rw [wg148] at i8
  try rw [wg149] at i8
  try rw [wg150] at i8
  try rw [wg151] at i8
  try rw [wg1] at i8
  try rw [wg2] at i8
  try rw [wg3] at i8
  try rw [wg4] at i8
  try rw [wg5] at i8
  try rw [wg6] at i8
  try rw [wg7] at i8
  try rw [wg8] at i8
  try rw [wg9] at i8
  try rw [wg10] at i8
  try rw [wg142] at i9
  try rw [wg143] at i9
  try rw [wg144] at i9
  try rw [wg145] at i9
  try rw [wg146] at i9
  try rw [wg147] at i9
  try rw [wg148] at i9
  try rw [wg149] at i9
  try rw [wg150] at i9
  try rw [wg151] at i9
  try rw [wg1] at i9
  try rw [wg2] at i9
  try rw [wg3] at i9
  try rw [wg4] at i9
  try rw [wg5] at i9
  try rw [wg6] at i9
  try rw [wg7] at i9
  try rw [wg8] at i9
  try rw [wg9] at i9
  try rw [wg10] at i9
  try rw [wg142] at i10
  try rw [wg143] at i10
  try rw [wg144] at i10
  try rw [wg145] at i10
  try rw [wg146] at i10
  try rw [wg147] at i10
  try rw [wg148] at i10
  try rw [wg149] at i10
  try rw [wg150] at i10
  try rw [wg151] at i10
  try rw [wg1] at i10
  try rw [wg2] at i10
  try rw [wg3] at i10
  try rw [wg4] at i10
  try rw [wg5] at i10
  try rw [wg6] at i10
  try rw [wg7] at i10
  try rw [wg8] at i10
  try rw [wg9] at i10
  try rw [wg10] at i10
  try rw [wg142] at i11
  try rw [wg143] at i11
  try rw [wg144] at i11
  try rw [wg145] at i11
  try rw [wg146] at i11
  try rw [wg147] at i11
  try rw [wg148] at i11
  try rw [wg149] at i11
  try rw [wg150] at i11
  try rw [wg151] at i11
  try rw [wg1] at i11
  try rw [wg2] at i11
  try rw [wg3] at i11
  try rw [wg4] at i11
  try rw [wg5] at i11
  try rw [wg6] at i11
  try rw [wg7] at i11
  try rw [wg8] at i11
  try rw [wg9] at i11
  try rw [wg10] at i11
  obtain ⟨pq, Bq, RQ, LQ, NQ, OQ, DQ, O6⟩ := i11
  have HI5 : yI 5 0 [] Bq := (by rcases yInv_R hp10 RQ with q | q; exact absurd (show (5 : Nat) = 20 from q) (by decide); exact q)
  refine ⟨yk_X9_pass, ym_X9_pass hg d (by omega), rfl, (by (try rw [wg142]) <;> (try rw [wg143]) <;> (try rw [wg144]) <;> (try rw [wg145]) <;> (try rw [wg146]) <;> (try rw [wg147]) <;> (try rw [wg148]) <;> (try rw [wg149]) <;> (try rw [wg150]) <;> (try rw [wg151]) <;> (try rw [wg1]) <;> (try rw [wg2]) <;> (try rw [wg3]) <;> (try rw [wg4]) <;> (try rw [wg5]) <;> (try rw [wg6]) <;> (try rw [wg7]) <;> (try rw [wg8]) <;> (try rw [wg9]) <;> (try rw [wg10]) <;> omega), ?_⟩
  intro m152 qm152 p153 p154 p155 p156 p157
  have z158 := zfx_t z0 qm152 rfl rfl
  have w159 : m152.1 66 ((30 : Nat) : Int) = g143 := (qm152.2.1 30 rfl).trans wg143
  have w160 : m152.1 66 ((38 : Nat) : Int) = g147 := (qm152.2.1 38 rfl).trans wg147
  have w161 : m152.1 66 ((8 : Nat) : Int) = g148 := (qm152.2.1 8 rfl).trans wg148
  have w162 : m152.1 66 ((24 : Nat) : Int) = g149 := (qm152.2.1 24 rfl).trans wg149
  have w163 : m152.1 66 ((25 : Nat) : Int) = g150 := (qm152.2.1 25 rfl).trans wg150
  have w164 : m152.1 66 ((26 : Nat) : Int) = g151 := (qm152.2.1 26 rfl).trans wg151
  obtain ⟨g165, wg165⟩ : ∃ z : Int, m152.1 66 ((31 : Nat) : Int) = z := ⟨_, rfl⟩
  obtain ⟨g166, wg166⟩ : ∃ z : Int, m152.1 66 ((33 : Nat) : Int) = z := ⟨_, rfl⟩
  obtain ⟨g167, wg167⟩ : ∃ z : Int, m152.1 66 ((34 : Nat) : Int) = z := ⟨_, rfl⟩
  obtain ⟨g168, wg168⟩ : ∃ z : Int, m152.1 66 ((32 : Nat) : Int) = z := ⟨_, rfl⟩
  try rw [wg165] at p153
  try rw [w159] at p153
  try rw [wg166] at p153
  try rw [wg167] at p153
  try rw [wg168] at p153
  try rw [w160] at p153
  try rw [w161] at p153
  try rw [w162] at p153
  try rw [w163] at p153
  try rw [w164] at p153
  try rw [wg142] at p153
  try rw [wg143] at p153
  try rw [wg144] at p153
  try rw [wg145] at p153
  try rw [wg146] at p153
  try rw [wg147] at p153
  try rw [wg148] at p153
  try rw [wg149] at p153
  try rw [wg150] at p153
  try rw [wg151] at p153
  try rw [wg1] at p153
  try rw [wg2] at p153
  try rw [wg3] at p153
  try rw [wg4] at p153
  try rw [wg5] at p153
  try rw [wg6] at p153
  try rw [wg7] at p153
  try rw [wg8] at p153
  try rw [wg9] at p153
  try rw [wg10] at p153
  try rw [wg165] at p154
  try rw [w159] at p154
  try rw [wg166] at p154
  try rw [wg167] at p154
  try rw [wg168] at p154
  try rw [w160] at p154
  try rw [w161] at p154
  try rw [w162] at p154
  try rw [w163] at p154
  try rw [w164] at p154
  try rw [wg142] at p154
  try rw [wg143] at p154
  try rw [wg144] at p154
  try rw [wg145] at p154
  try rw [wg146] at p154
  try rw [wg147] at p154
  try rw [wg148] at p154
  try rw [wg149] at p154
  try rw [wg150] at p154
  try rw [wg151] at p154
  try rw [wg1] at p154
  try rw [wg2] at p154
  try rw [wg3] at p154
  try rw [wg4] at p154
  try rw [wg5] at p154
  try rw [wg6] at p154
  try rw [wg7] at p154
  try rw [wg8] at p154
  try rw [wg9] at p154
  try rw [wg10] at p154
  try rw [wg165] at p155
  try rw [w159] at p155
  try rw [wg166] at p155
  try rw [wg167] at p155
  try rw [wg168] at p155
  try rw [w160] at p155
  try rw [w161] at p155
  try rw [w162] at p155
  try rw [w163] at p155
  try rw [w164] at p155
  try rw [wg142] at p155
  try rw [wg143] at p155
  try rw [wg144] at p155
  try rw [wg145] at p155
  try rw [wg146] at p155
  try rw [wg147] at p155
  try rw [wg148] at p155
  try rw [wg149] at p155
  try rw [wg150] at p155
  try rw [wg151] at p155
  try rw [wg1] at p155
  try rw [wg2] at p155
  try rw [wg3] at p155
  try rw [wg4] at p155
  try rw [wg5] at p155
  try rw [wg6] at p155
  try rw [wg7] at p155
  try rw [wg8] at p155
  try rw [wg9] at p155
  try rw [wg10] at p155
  try rw [wg165] at p156
  try rw [w159] at p156
  try rw [wg166] at p156
  try rw [wg167] at p156
  try rw [wg168] at p156
  try rw [w160] at p156
  try rw [w161] at p156
  try rw [w162] at p156
  try rw [w163] at p156
  try rw [w164] at p156
  try rw [wg142] at p156
  try rw [wg143] at p156
  try rw [wg144] at p156
  try rw [wg145] at p156
  try rw [wg146] at p156
  try rw [wg147] at p156
  try rw [wg148] at p156
  try rw [wg149] at p156
  try rw [wg150] at p156
  try rw [wg151] at p156
  try rw [wg1] at p156
  try rw [wg2] at p156
  try rw [wg3] at p156
  try rw [wg4] at p156
  try rw [wg5] at p156
  try rw [wg6] at p156
  try rw [wg7] at p156
  try rw [wg8] at p156
  try rw [wg9] at p156
  try rw [wg10] at p156
  have ot169 := zOt_fr i10 (qm152.1 76 (by decide) rfl) (qm152.1 77 (by decide) rfl) (qm152.1 78 (by decide) rfl) (qm152.1 79 (by decide) rfl) (qm152.1 80 (by decide) rfl) (qm152.1 83 (by decide) rfl) (qm152.1 84 (by decide) rfl)
  have TE170 := zTE_fr (m' := m152) i3 (fun j a b => qm152.1 j (by omega) (zanyF (by simp <;> omega))) (qm152.2.1 8 rfl) (qm152.2.1 38 rfl)
  have BD171 := zBd_fr i4 (qm152.1 67 (by decide) rfl) (qm152.1 71 (by decide) rfl) (qm152.1 83 (by decide) rfl) (qm152.1 84 (by decide) rfl) (qm152.2.1 8 rfl)
  have L2 := rLx_p LQ (qm152.1 85 (by decide) rfl) (qm152.2.1 30 rfl) p157
  have N2 := rNu_z NQ qm152 ⟨rfl, rfl, rfl, rfl, rfl, rfl⟩ ⟨rfl, rfl, rfl, rfl, rfl, rfl⟩
  have D2 := rTd_c DQ (fun j a b => qm152.1 j (by omega) (zanyF (by simp <;> omega))) (qm152.1 78 (by decide) rfl) (qm152.1 83 (by decide) rfl) (qm152.2.1 8 rfl)
  have CN : Bq.1 0 0 = v1 + 1 := by have h0 := N2.1.2.2.1; rw [w164] at h0; omega
  have V5 := rB5_v Bq 0 (rq6 Bq)
  have ZP : zrm m152 < zrm m0 := (by unfold zrm; simp only [wg165, w159, wg166, wg167, wg168, w160, w161, w162, w163, w164, wg142, wg143, wg144, wg145, wg146, wg147, wg148, wg149, wg150, wg151, wg1, wg2, wg3, wg4, wg5, wg6, wg7, wg8, wg9, wg10]; (repeat' split) <;> omega)
  intro x172 hx172 kx172 lx172
  rw [w163] at hx172
  refine And.intro ⟨by omega, by omega⟩ ?_
  intro x173 hx173 kx173 lx173
  rw [show (x172 + v2) = 80 + v2 by omega] at hx173
  have BC : x173 = Bq.1 6 (Bq.1 0 6) := by rw [O6.1, hx173]; exact (N2.2.2 v2 (by omega) O6.2).2 rfl
  refine And.intro ⟨⟨by omega, by omega⟩, ⟨by omega, by omega⟩⟩ (And.intro (fun c174 => ?_) (fun c174 => ?_))
  · have NM : 0 ≤ m152.1 66 ((38 : Nat) : Int) := (by (try rw [wg165]) <;> (try rw [w159]) <;> (try rw [wg166]) <;> (try rw [wg167]) <;> (try rw [wg168]) <;> (try rw [w160]) <;> (try rw [w161]) <;> (try rw [w162]) <;> (try rw [w163]) <;> (try rw [w164]) <;> (try rw [wg142]) <;> (try rw [wg143]) <;> (try rw [wg144]) <;> (try rw [wg145]) <;> (try rw [wg146]) <;> (try rw [wg147]) <;> (try rw [wg148]) <;> (try rw [wg149]) <;> (try rw [wg150]) <;> (try rw [wg151]) <;> (try rw [wg1]) <;> (try rw [wg2]) <;> (try rw [wg3]) <;> (try rw [wg4]) <;> (try rw [wg5]) <;> (try rw [wg6]) <;> (try rw [wg7]) <;> (try rw [wg8]) <;> (try rw [wg9]) <;> (try rw [wg10]) <;> omega)
    refine ⟨yk_X9_readType, ym_X9_readType hg d (by omega), _, _, _, _, _, _, _, _, _, _, τ, (ynx τ pq), (rB5 Bq 0 (rq6 Bq)), _, _, rfl, ⟨by omega, by omega⟩, ⟨by omega, by omega⟩, ⟨by omega, by omega⟩, (by (try rw [wg165]) <;> (try rw [w159]) <;> (try rw [wg166]) <;> (try rw [wg167]) <;> (try rw [wg168]) <;> (try rw [w160]) <;> (try rw [w161]) <;> (try rw [w162]) <;> (try rw [w163]) <;> (try rw [w164]) <;> (try rw [wg142]) <;> (try rw [wg143]) <;> (try rw [wg144]) <;> (try rw [wg145]) <;> (try rw [wg146]) <;> (try rw [wg147]) <;> (try rw [wg148]) <;> (try rw [wg149]) <;> (try rw [wg150]) <;> (try rw [wg151]) <;> (try rw [wg1]) <;> (try rw [wg2]) <;> (try rw [wg3]) <;> (try rw [wg4]) <;> (try rw [wg5]) <;> (try rw [wg6]) <;> (try rw [wg7]) <;> (try rw [wg8]) <;> (try rw [wg9]) <;> (try rw [wg10]) <;> omega), TE170.1.1, TE170.1.2.1, (by rw [show m152.1 66 ((26 : Nat) : Int) = v1 + 1 by (try rw [w164]); omega, show m152.1 66 ((24 : Nat) : Int) = 21 by (try rw [w162]); omega, show m152.1 76 = μ.1 76 from z158.1 76 (by decide) rfl, show m152.1 77 = μ.1 77 from z158.1 77 (by decide) rfl]; exact ⟨Int.le_refl _, fun _ => hp4.2.1, by omega, hp4.2.2⟩), (fun v a b => by rw [show m152.1 66 ((24 : Nat) : Int) = 21 by (try rw [w162]); omega, show m152.1 77 = μ.1 77 from z158.1 77 (by decide) rfl]; rfl), (by (try rw [w161]); (try rw [w160]); exact ⟨zTE_pre TE170 w161 w160 wg7 wg6 hp5.1, by omega, by omega⟩), (fun _ => by rw [show m152.1 66 ((24 : Nat) : Int) = 21 by (try rw [w162]); omega, show m152.1 76 = μ.1 76 from z158.1 76 (by decide) rfl, show m152.1 77 = μ.1 77 from z158.1 77 (by decide) rfl]; exact ⟨Int.le_refl (zXf μ v1), Int.le_refl (zXf μ v1 + zXn μ v1)⟩), ⟨L2, rNu_5 N2⟩, ⟨yI0_5 HI5.1, by rw [V5.1.2.2.2]; exact OQ.1.symm⟩, ⟨V5.2.1.1.symm, r5_6 (by first | exact Or.inl ⟨rfl, by omega⟩ | exact Or.inr ⟨rfl, by omega⟩)⟩, (by rw [V5.1.1]; exact CN.symm), ?_⟩
    intro x175 m176 qm176 kx175 lx175 p177 p178 p179 p180 p181 p182 p183 p184
    have z185 := zfx_t z158 qm176 rfl rfl
    have w186 : m176.1 66 ((30 : Nat) : Int) = g143 := (qm176.2.1 30 rfl).trans w159
    have w187 : m176.1 66 ((24 : Nat) : Int) = g149 := (qm176.2.1 24 rfl).trans w162
    have w188 : m176.1 66 ((25 : Nat) : Int) = g150 := (qm176.2.1 25 rfl).trans w163
    have w189 : m176.1 66 ((26 : Nat) : Int) = g151 := (qm176.2.1 26 rfl).trans w164
    obtain ⟨g190, wg190⟩ : ∃ z : Int, m176.1 66 ((31 : Nat) : Int) = z := ⟨_, rfl⟩
    obtain ⟨g191, wg191⟩ : ∃ z : Int, m176.1 66 ((33 : Nat) : Int) = z := ⟨_, rfl⟩
    obtain ⟨g192, wg192⟩ : ∃ z : Int, m176.1 66 ((34 : Nat) : Int) = z := ⟨_, rfl⟩
    obtain ⟨g193, wg193⟩ : ∃ z : Int, m176.1 66 ((32 : Nat) : Int) = z := ⟨_, rfl⟩
    obtain ⟨g194, wg194⟩ : ∃ z : Int, m176.1 66 ((38 : Nat) : Int) = z := ⟨_, rfl⟩
    obtain ⟨g195, wg195⟩ : ∃ z : Int, m176.1 66 ((8 : Nat) : Int) = z := ⟨_, rfl⟩
    try rw [wg190] at p177
    try rw [w186] at p177
    try rw [wg191] at p177
    try rw [wg192] at p177
    try rw [wg193] at p177
    try rw [wg194] at p177
    try rw [wg195] at p177
    try rw [w187] at p177
    try rw [w188] at p177
    try rw [w189] at p177
    try rw [wg165] at p177
    try rw [w159] at p177
    try rw [wg166] at p177
    try rw [wg167] at p177
    try rw [wg168] at p177
    try rw [w160] at p177
    try rw [w161] at p177
    try rw [w162] at p177
    try rw [w163] at p177
    try rw [w164] at p177
    try rw [wg1] at p177
    try rw [wg2] at p177
    try rw [wg3] at p177
    try rw [wg4] at p177
    try rw [wg5] at p177
    try rw [wg6] at p177
    try rw [wg7] at p177
    try rw [wg8] at p177
    try rw [wg9] at p177
    try rw [wg10] at p177
    try rw [wg190] at p178
    try rw [w186] at p178
    try rw [wg191] at p178
    try rw [wg192] at p178
    try rw [wg193] at p178
    try rw [wg194] at p178
    try rw [wg195] at p178
    try rw [w187] at p178
    try rw [w188] at p178
    try rw [w189] at p178
    try rw [wg165] at p178
    try rw [w159] at p178
    try rw [wg166] at p178
    try rw [wg167] at p178
    try rw [wg168] at p178
    try rw [w160] at p178
    try rw [w161] at p178
    try rw [w162] at p178
    try rw [w163] at p178
    try rw [w164] at p178
    try rw [wg1] at p178
    try rw [wg2] at p178
    try rw [wg3] at p178
    try rw [wg4] at p178
    try rw [wg5] at p178
    try rw [wg6] at p178
    try rw [wg7] at p178
    try rw [wg8] at p178
    try rw [wg9] at p178
    try rw [wg10] at p178
    try rw [wg190] at p179
    try rw [w186] at p179
    try rw [wg191] at p179
    try rw [wg192] at p179
    try rw [wg193] at p179
    try rw [wg194] at p179
    try rw [wg195] at p179
    try rw [w187] at p179
    try rw [w188] at p179
    try rw [w189] at p179
    try rw [wg165] at p179
    try rw [w159] at p179
    try rw [wg166] at p179
    try rw [wg167] at p179
    try rw [wg168] at p179
    try rw [w160] at p179
    try rw [w161] at p179
    try rw [w162] at p179
    try rw [w163] at p179
    try rw [w164] at p179
    try rw [wg1] at p179
    try rw [wg2] at p179
    try rw [wg3] at p179
    try rw [wg4] at p179
    try rw [wg5] at p179
    try rw [wg6] at p179
    try rw [wg7] at p179
    try rw [wg8] at p179
    try rw [wg9] at p179
    try rw [wg10] at p179
    try rw [wg190] at p180
    try rw [w186] at p180
    try rw [wg191] at p180
    try rw [wg192] at p180
    try rw [wg193] at p180
    try rw [wg194] at p180
    try rw [wg195] at p180
    try rw [w187] at p180
    try rw [w188] at p180
    try rw [w189] at p180
    try rw [wg165] at p180
    try rw [w159] at p180
    try rw [wg166] at p180
    try rw [wg167] at p180
    try rw [wg168] at p180
    try rw [w160] at p180
    try rw [w161] at p180
    try rw [w162] at p180
    try rw [w163] at p180
    try rw [w164] at p180
    try rw [wg1] at p180
    try rw [wg2] at p180
    try rw [wg3] at p180
    try rw [wg4] at p180
    try rw [wg5] at p180
    try rw [wg6] at p180
    try rw [wg7] at p180
    try rw [wg8] at p180
    try rw [wg9] at p180
    try rw [wg10] at p180
    try rw [wg190] at p181
    try rw [w186] at p181
    try rw [wg191] at p181
    try rw [wg192] at p181
    try rw [wg193] at p181
    try rw [wg194] at p181
    try rw [wg195] at p181
    try rw [w187] at p181
    try rw [w188] at p181
    try rw [w189] at p181
    try rw [wg165] at p181
    try rw [w159] at p181
    try rw [wg166] at p181
    try rw [wg167] at p181
    try rw [wg168] at p181
    try rw [w160] at p181
    try rw [w161] at p181
    try rw [w162] at p181
    try rw [w163] at p181
    try rw [w164] at p181
    try rw [wg1] at p181
    try rw [wg2] at p181
    try rw [wg3] at p181
    try rw [wg4] at p181
    try rw [wg5] at p181
    try rw [wg6] at p181
    try rw [wg7] at p181
    try rw [wg8] at p181
    try rw [wg9] at p181
    try rw [wg10] at p181
    try rw [wg190] at p182
    try rw [w186] at p182
    try rw [wg191] at p182
    try rw [wg192] at p182
    try rw [wg193] at p182
    try rw [wg194] at p182
    try rw [wg195] at p182
    try rw [w187] at p182
    try rw [w188] at p182
    try rw [w189] at p182
    try rw [wg165] at p182
    try rw [w159] at p182
    try rw [wg166] at p182
    try rw [wg167] at p182
    try rw [wg168] at p182
    try rw [w160] at p182
    try rw [w161] at p182
    try rw [w162] at p182
    try rw [w163] at p182
    try rw [w164] at p182
    try rw [wg1] at p182
    try rw [wg2] at p182
    try rw [wg3] at p182
    try rw [wg4] at p182
    try rw [wg5] at p182
    try rw [wg6] at p182
    try rw [wg7] at p182
    try rw [wg8] at p182
    try rw [wg9] at p182
    try rw [wg10] at p182
    try rw [wg190] at p183
    try rw [w186] at p183
    try rw [wg191] at p183
    try rw [wg192] at p183
    try rw [wg193] at p183
    try rw [wg194] at p183
    try rw [wg195] at p183
    try rw [w187] at p183
    try rw [w188] at p183
    try rw [w189] at p183
    try rw [wg165] at p183
    try rw [w159] at p183
    try rw [wg166] at p183
    try rw [wg167] at p183
    try rw [wg168] at p183
    try rw [w160] at p183
    try rw [w161] at p183
    try rw [w162] at p183
    try rw [w163] at p183
    try rw [w164] at p183
    try rw [wg1] at p183
    try rw [wg2] at p183
    try rw [wg3] at p183
    try rw [wg4] at p183
    try rw [wg5] at p183
    try rw [wg6] at p183
    try rw [wg7] at p183
    try rw [wg8] at p183
    try rw [wg9] at p183
    try rw [wg10] at p183
    clear wg165 w159 wg166 wg167 wg168 w160 w161 w162 w163 w164
    have ot196 := zOt_fr ot169 (qm176.1 76 (by decide) rfl) (qm176.1 77 (by decide) rfl) (qm176.1 78 (by decide) rfl) (qm176.1 79 (by decide) rfl) (qm176.1 80 (by decide) rfl) (qm176.1 83 (by decide) rfl) (qm176.1 84 (by decide) rfl)
    have D4 := rTd_old D2 p179.1.2.2.1 TE170.1.1.2.1 (qm176.1 78 (by decide) rfl) (qm176.1 83 (by decide) rfl) p179.1.2.2.2.1
    have TE2 := zTE_t TE170 p179
    have BD2 := zBd_old BD171 TE170.1.1.1.1 p179.1.2.2.1 p179.1.2.2.2.1 (qm176.1 83 (by decide) rfl) (qm176.1 84 (by decide) rfl)
    refine And.intro ⟨by omega, by omega⟩ (And.intro (fun c197 => ?_) (fun c197 => ?_))
    · have ZN : zTn m152 m176 ≤ 300 := by unfold zTn; (try rw [wg190]) <;> (try rw [w186]) <;> (try rw [wg191]) <;> (try rw [wg192]) <;> (try rw [wg193]) <;> (try rw [wg194]) <;> (try rw [wg195]) <;> (try rw [w187]) <;> (try rw [w188]) <;> (try rw [w189]) <;> (try rw [wg142]) <;> (try rw [wg143]) <;> (try rw [wg144]) <;> (try rw [wg145]) <;> (try rw [wg146]) <;> (try rw [wg147]) <;> (try rw [wg148]) <;> (try rw [wg149]) <;> (try rw [wg150]) <;> (try rw [wg151]) <;> (try rw [wg1]) <;> (try rw [wg2]) <;> (try rw [wg3]) <;> (try rw [wg4]) <;> (try rw [wg5]) <;> (try rw [wg6]) <;> (try rw [wg7]) <;> (try rw [wg8]) <;> (try rw [wg9]) <;> (try rw [wg10]) <;> omega
      have TX : zTx m176 lo x175 := by rcases p182 with c | c; (exfalso; omega); exact ⟨⟨c.1, c.2.1⟩, by have := c.2.2.2.2.2.2; omega, c.2.2.2.1 (by omega)⟩
      have ZQ : zrm m176 ≤ zrm m152 := by rcases p181 with c | c; (exfalso; omega); exact c
      obtain ⟨-, p1, n1, h1, as1, RT, L4, N4, E4⟩ := Or.resolve_left p184 (fun h0 => by have h2 := h0.1; omega)
      have KK4 := rkd L4 wg193
      have BO := rbo RQ RT
      have WV := rWb_v Bq n1 ([h1] :: as1)
      intro x198 hx198 kx198 lx198
      rw [w188] at hx198
      intro x199 hx199 kx199 lx199
      rw [w188] at hx199
      refine And.intro ⟨by omega, by omega⟩ ?_
      intro x200 hx200 kx200 lx200
      rw [qm176.1 84 (by decide) rfl, show (x199 + v2) = 80 + v2 by omega] at hx200
      refine And.intro ⟨by omega, by omega⟩ (And.intro ⟨by omega, by omega⟩ ?_)
      intro m201 em201
      have z202 := zfx_r z185 em201 rfl (by decide)
      have w203 : m201.1 66 ((31 : Nat) : Int) = g190 := by rw [em201]; exact (congrFun (zu_ne (by decide)) _).trans wg190
      have w204 : m201.1 66 ((30 : Nat) : Int) = g143 := by rw [em201]; exact (congrFun (zu_ne (by decide)) _).trans w186
      have w205 : m201.1 66 ((33 : Nat) : Int) = g191 := by rw [em201]; exact (congrFun (zu_ne (by decide)) _).trans wg191
      have w206 : m201.1 66 ((34 : Nat) : Int) = g192 := by rw [em201]; exact (congrFun (zu_ne (by decide)) _).trans wg192
      have w207 : m201.1 66 ((32 : Nat) : Int) = g193 := by rw [em201]; exact (congrFun (zu_ne (by decide)) _).trans wg193
      have w208 : m201.1 66 ((38 : Nat) : Int) = g194 := by rw [em201]; exact (congrFun (zu_ne (by decide)) _).trans wg194
      have w209 : m201.1 66 ((8 : Nat) : Int) = g195 := by rw [em201]; exact (congrFun (zu_ne (by decide)) _).trans wg195
      have w210 : m201.1 66 ((24 : Nat) : Int) = g149 := by rw [em201]; exact (congrFun (zu_ne (by decide)) _).trans w187
      have w211 : m201.1 66 ((25 : Nat) : Int) = g150 := by rw [em201]; exact (congrFun (zu_ne (by decide)) _).trans w188
      have w212 : m201.1 66 ((26 : Nat) : Int) = g151 := by rw [em201]; exact (congrFun (zu_ne (by decide)) _).trans w189
      clear wg190 w186 wg191 wg192 wg193 wg194 wg195 w187 w188 w189
      have ot213 := zOt_w ot196 em201 (by have hk : (160 : Int) ≤ ((2 * (x198 + v2)) + x200) := (by omega); refine ⟨fun h => ?_, fun h => ?_, fun h => ?_, fun h => ?_, fun h => ?_⟩ <;> first | exact hk | (exfalso; revert h; decide))
      intro x214 hx214 kx214 lx214
      rw [w211] at hx214
      refine And.intro ⟨by omega, by omega⟩ ?_
      intro x215 hx215 kx215 lx215
      rw [em201, zu_ne (by decide), qm176.1 84 (by decide) rfl, show (x214 + v2) = 80 + v2 by omega] at hx215
      refine And.intro ⟨by omega, by omega⟩ (And.intro ⟨by omega, by omega⟩ ?_)
      intro m216 em216
      have z217 := zfx_r z202 em216 rfl (by decide)
      have w218 : m216.1 66 ((31 : Nat) : Int) = g190 := by rw [em216]; exact (congrFun (zu_ne (by decide)) _).trans w203
      have w219 : m216.1 66 ((30 : Nat) : Int) = g143 := by rw [em216]; exact (congrFun (zu_ne (by decide)) _).trans w204
      have w220 : m216.1 66 ((33 : Nat) : Int) = g191 := by rw [em216]; exact (congrFun (zu_ne (by decide)) _).trans w205
      have w221 : m216.1 66 ((34 : Nat) : Int) = g192 := by rw [em216]; exact (congrFun (zu_ne (by decide)) _).trans w206
      have w222 : m216.1 66 ((32 : Nat) : Int) = g193 := by rw [em216]; exact (congrFun (zu_ne (by decide)) _).trans w207
      have w223 : m216.1 66 ((38 : Nat) : Int) = g194 := by rw [em216]; exact (congrFun (zu_ne (by decide)) _).trans w208
      have w224 : m216.1 66 ((8 : Nat) : Int) = g195 := by rw [em216]; exact (congrFun (zu_ne (by decide)) _).trans w209
      have w225 : m216.1 66 ((24 : Nat) : Int) = g149 := by rw [em216]; exact (congrFun (zu_ne (by decide)) _).trans w210
      have w226 : m216.1 66 ((25 : Nat) : Int) = g150 := by rw [em216]; exact (congrFun (zu_ne (by decide)) _).trans w211
      have w227 : m216.1 66 ((26 : Nat) : Int) = g151 := by rw [em216]; exact (congrFun (zu_ne (by decide)) _).trans w212
      clear w203 w204 w205 w206 w207 w208 w209 w210 w211 w212
      have ot228 := zOt_w ot213 em216 (by have hk : (80 : Int) ≤ (x214 + v2) := (by omega); refine ⟨fun h => ?_, fun h => ?_, fun h => ?_, fun h => ?_, fun h => ?_⟩ <;> first | exact hk | (exfalso; revert h; decide))
      have Y84 : m176.1 84 (80 + v2) = x200 := by rw [qm176.1 84 (by decide) rfl]; omega
      have BD3 := zBd_w (p := v2) BD2 ⟨by omega, by omega⟩ em201 (by omega) (by omega) (by omega) TX em216 (by omega) (by omega)
      have TE3 := zTE_fr (m' := m216) TE2 (fun j a b => by rw [em216, zu_ne (by omega), em201, zu_ne (by omega)]) (by rw [em216, zu_ne (by decide), em201, zu_ne (by decide)]) (by rw [em216, zu_ne (by decide), em201, zu_ne (by decide)])
      have ZR : zrm m216 ≤ zrm m176 := zrm_e (fun j => by rw [em216, zu_ne (by decide), em201, zu_ne (by decide)])
      have ZL : zrm m216 < zrm m0 := Int.lt_of_le_of_lt ZR (Int.lt_of_le_of_lt ZQ ZP)
      have N5 := rNu_bb (m := m216) (r := v2) (l := [h1] :: as1) N4 (fun k => by rw [em216, zu_if, em201, zu_ne (by decide)]; by_cases hk : k = 80 + v2; (rw [if_pos hk, if_pos (by omega)]; omega); (rw [if_neg hk, if_neg (by omega)])) ⟨by omega, by rw [yN_ne (by omega), V5.1.2.1]; exact O6.2⟩ (fun j hj => by rw [em216, zu_ne (by omega), em201, zu_ne (by omega)]) (fun k hk => by rw [em216, zu_ne (by decide), em201, zu_ne (by decide)])
      have N6 : rNu m216 (rWb Bq n1 ([h1] :: as1)) := by unfold rWb; rw [O6.1]; exact N5
      have L5 : rLx m216 τ p1 := rLx_f L4 (by rw [em216, zu_ne (by decide), em201, zu_ne (by decide)]) (fun k a b => by rw [em216, zu_ne (by decide), em201, zu_ne (by decide)])
      have OX : (rWb Bq n1 ([h1] :: as1)).1 0 3 = v1 ∧ (rWb Bq n1 ([h1] :: as1)).2 1 = B.2 1 ∧ (rWb Bq n1 ([h1] :: as1)).2 2 = B.2 2 := ⟨WV.1.trans OQ.1, WV.2.2.1.trans OQ.2.1, WV.2.2.2.1.trans OQ.2.2⟩
      have D5 : rTd m216 (rWb Bq n1 ([h1] :: as1)) := rTd_wb D4 em201 (by rw [← BC, O6.1]; omega) ⟨by rw [← BC]; omega, by rw [← BC]; omega⟩ (fun j hj => by rw [em216, zu_ne hj]) ⟨by have h0 := TX.1.1; have h1 := hp1.1.1; omega, TX.1.2⟩ E4
      intro x229 hx229 kx229 lx229
      rw [w222] at hx229
      refine And.intro ⟨⟨by omega, by omega⟩, ⟨by omega, by omega⟩⟩ (And.intro (fun c230 => ?_) (fun c230 => ?_))
      · refine Exists.intro (Int.toNat (zrm m216)) (And.intro (zrN ZL (zrm_0 (by (try rw [w218]) <;> (try rw [w219]) <;> (try rw [w220]) <;> (try rw [w221]) <;> (try rw [w222]) <;> (try rw [w223]) <;> (try rw [w224]) <;> (try rw [w225]) <;> (try rw [w226]) <;> (try rw [w227]) <;> (try rw [wg142]) <;> (try rw [wg143]) <;> (try rw [wg144]) <;> (try rw [wg145]) <;> (try rw [wg146]) <;> (try rw [wg147]) <;> (try rw [wg148]) <;> (try rw [wg149]) <;> (try rw [wg150]) <;> (try rw [wg151]) <;> (try rw [wg1]) <;> (try rw [wg2]) <;> (try rw [wg3]) <;> (try rw [wg4]) <;> (try rw [wg5]) <;> (try rw [wg6]) <;> (try rw [wg7]) <;> (try rw [wg8]) <;> (try rw [wg9]) <;> (try rw [wg10]) <;> omega))) ?_)
        exact ⟨(fun h => absurd h (by decide)), (fun _ => ⟨_, _, rfl, z217, ⟨by omega, by omega⟩, ⟨by omega, by omega⟩, (by (try rw [w218]) <;> (try rw [w219]) <;> (try rw [w220]) <;> (try rw [w221]) <;> (try rw [w222]) <;> (try rw [w223]) <;> (try rw [w224]) <;> (try rw [w225]) <;> (try rw [w226]) <;> (try rw [w227]) <;> (try rw [wg142]) <;> (try rw [wg143]) <;> (try rw [wg144]) <;> (try rw [wg145]) <;> (try rw [wg146]) <;> (try rw [wg147]) <;> (try rw [wg148]) <;> (try rw [wg149]) <;> (try rw [wg150]) <;> (try rw [wg151]) <;> (try rw [wg1]) <;> (try rw [wg2]) <;> (try rw [wg3]) <;> (try rw [wg4]) <;> (try rw [wg5]) <;> (try rw [wg6]) <;> (try rw [wg7]) <;> (try rw [wg8]) <;> (try rw [wg9]) <;> (try rw [wg10]) <;> omega), (by (try rw [w218]) <;> (try rw [w219]) <;> (try rw [w220]) <;> (try rw [w221]) <;> (try rw [w222]) <;> (try rw [w223]) <;> (try rw [w224]) <;> (try rw [w225]) <;> (try rw [w226]) <;> (try rw [w227]) <;> (try rw [wg142]) <;> (try rw [wg143]) <;> (try rw [wg144]) <;> (try rw [wg145]) <;> (try rw [wg146]) <;> (try rw [wg147]) <;> (try rw [wg148]) <;> (try rw [wg149]) <;> (try rw [wg150]) <;> (try rw [wg151]) <;> (try rw [wg1]) <;> (try rw [wg2]) <;> (try rw [wg3]) <;> (try rw [wg4]) <;> (try rw [wg5]) <;> (try rw [wg6]) <;> (try rw [wg7]) <;> (try rw [wg8]) <;> (try rw [wg9]) <;> (try rw [wg10]) <;> omega), rfl, TE3, BD3, (by (try rw [w218]) <;> (try rw [w219]) <;> (try rw [w220]) <;> (try rw [w221]) <;> (try rw [w222]) <;> (try rw [w223]) <;> (try rw [w224]) <;> (try rw [w225]) <;> (try rw [w226]) <;> (try rw [w227]) <;> (try rw [wg142]) <;> (try rw [wg143]) <;> (try rw [wg144]) <;> (try rw [wg145]) <;> (try rw [wg146]) <;> (try rw [wg147]) <;> (try rw [wg148]) <;> (try rw [wg149]) <;> (try rw [wg150]) <;> (try rw [wg151]) <;> (try rw [wg1]) <;> (try rw [wg2]) <;> (try rw [wg3]) <;> (try rw [wg4]) <;> (try rw [wg5]) <;> (try rw [wg6]) <;> (try rw [wg7]) <;> (try rw [wg8]) <;> (try rw [wg9]) <;> (try rw [wg10]) <;> omega), (Or.inr (by (try rw [w218]) <;> (try rw [w219]) <;> (try rw [w220]) <;> (try rw [w221]) <;> (try rw [w222]) <;> (try rw [w223]) <;> (try rw [w224]) <;> (try rw [w225]) <;> (try rw [w226]) <;> (try rw [w227]) <;> (try rw [wg142]) <;> (try rw [wg143]) <;> (try rw [wg144]) <;> (try rw [wg145]) <;> (try rw [wg146]) <;> (try rw [wg147]) <;> (try rw [wg148]) <;> (try rw [wg149]) <;> (try rw [wg150]) <;> (try rw [wg151]) <;> (try rw [wg1]) <;> (try rw [wg2]) <;> (try rw [wg3]) <;> (try rw [wg4]) <;> (try rw [wg5]) <;> (try rw [wg6]) <;> (try rw [wg7]) <;> (try rw [wg8]) <;> (try rw [wg9]) <;> (try rw [wg10]) <;> omega)), (Int.lt_trans ZL i7), (by (try rw [w218]) <;> (try rw [w219]) <;> (try rw [w220]) <;> (try rw [w221]) <;> (try rw [w222]) <;> (try rw [w223]) <;> (try rw [w224]) <;> (try rw [w225]) <;> (try rw [w226]) <;> (try rw [w227]) <;> (try rw [wg142]) <;> (try rw [wg143]) <;> (try rw [wg144]) <;> (try rw [wg145]) <;> (try rw [wg146]) <;> (try rw [wg147]) <;> (try rw [wg148]) <;> (try rw [wg149]) <;> (try rw [wg150]) <;> (try rw [wg151]) <;> (try rw [wg1]) <;> (try rw [wg2]) <;> (try rw [wg3]) <;> (try rw [wg4]) <;> (try rw [wg5]) <;> (try rw [wg6]) <;> (try rw [wg7]) <;> (try rw [wg8]) <;> (try rw [wg9]) <;> (try rw [wg10]) <;> omega), i9, ot228, ⟨p1, _, BO.1 ((rKd_s 38 KK4 (by decide)).mp (by omega)), L5, N6, OX, D5, WV.2.1.trans O6.1, by rw [WV.2.2.2.2]; exact O6.2⟩, rfl⟩)⟩
      · intro x231 hx231 kx231 lx231
        rw [w222] at hx231
        refine And.intro ⟨⟨by omega, by omega⟩, ⟨by omega, by omega⟩⟩ (And.intro (fun c232 => ?_) (fun c232 => ?_))
        · refine Exists.intro (Int.toNat (zrm m216)) (And.intro (zrN ZL (zrm_0 (by (try rw [w218]) <;> (try rw [w219]) <;> (try rw [w220]) <;> (try rw [w221]) <;> (try rw [w222]) <;> (try rw [w223]) <;> (try rw [w224]) <;> (try rw [w225]) <;> (try rw [w226]) <;> (try rw [w227]) <;> (try rw [wg142]) <;> (try rw [wg143]) <;> (try rw [wg144]) <;> (try rw [wg145]) <;> (try rw [wg146]) <;> (try rw [wg147]) <;> (try rw [wg148]) <;> (try rw [wg149]) <;> (try rw [wg150]) <;> (try rw [wg151]) <;> (try rw [wg1]) <;> (try rw [wg2]) <;> (try rw [wg3]) <;> (try rw [wg4]) <;> (try rw [wg5]) <;> (try rw [wg6]) <;> (try rw [wg7]) <;> (try rw [wg8]) <;> (try rw [wg9]) <;> (try rw [wg10]) <;> omega))) ?_)
          exact ⟨(fun _ => ⟨_, rfl, z217, ⟨by omega, by omega⟩, (by (try rw [w218]) <;> (try rw [w219]) <;> (try rw [w220]) <;> (try rw [w221]) <;> (try rw [w222]) <;> (try rw [w223]) <;> (try rw [w224]) <;> (try rw [w225]) <;> (try rw [w226]) <;> (try rw [w227]) <;> (try rw [wg142]) <;> (try rw [wg143]) <;> (try rw [wg144]) <;> (try rw [wg145]) <;> (try rw [wg146]) <;> (try rw [wg147]) <;> (try rw [wg148]) <;> (try rw [wg149]) <;> (try rw [wg150]) <;> (try rw [wg151]) <;> (try rw [wg1]) <;> (try rw [wg2]) <;> (try rw [wg3]) <;> (try rw [wg4]) <;> (try rw [wg5]) <;> (try rw [wg6]) <;> (try rw [wg7]) <;> (try rw [wg8]) <;> (try rw [wg9]) <;> (try rw [wg10]) <;> omega), (by (try rw [w218]) <;> (try rw [w219]) <;> (try rw [w220]) <;> (try rw [w221]) <;> (try rw [w222]) <;> (try rw [w223]) <;> (try rw [w224]) <;> (try rw [w225]) <;> (try rw [w226]) <;> (try rw [w227]) <;> (try rw [wg142]) <;> (try rw [wg143]) <;> (try rw [wg144]) <;> (try rw [wg145]) <;> (try rw [wg146]) <;> (try rw [wg147]) <;> (try rw [wg148]) <;> (try rw [wg149]) <;> (try rw [wg150]) <;> (try rw [wg151]) <;> (try rw [wg1]) <;> (try rw [wg2]) <;> (try rw [wg3]) <;> (try rw [wg4]) <;> (try rw [wg5]) <;> (try rw [wg6]) <;> (try rw [wg7]) <;> (try rw [wg8]) <;> (try rw [wg9]) <;> (try rw [wg10]) <;> omega), rfl, TE3, BD3, (by (try rw [w218]) <;> (try rw [w219]) <;> (try rw [w220]) <;> (try rw [w221]) <;> (try rw [w222]) <;> (try rw [w223]) <;> (try rw [w224]) <;> (try rw [w225]) <;> (try rw [w226]) <;> (try rw [w227]) <;> (try rw [wg142]) <;> (try rw [wg143]) <;> (try rw [wg144]) <;> (try rw [wg145]) <;> (try rw [wg146]) <;> (try rw [wg147]) <;> (try rw [wg148]) <;> (try rw [wg149]) <;> (try rw [wg150]) <;> (try rw [wg151]) <;> (try rw [wg1]) <;> (try rw [wg2]) <;> (try rw [wg3]) <;> (try rw [wg4]) <;> (try rw [wg5]) <;> (try rw [wg6]) <;> (try rw [wg7]) <;> (try rw [wg8]) <;> (try rw [wg9]) <;> (try rw [wg10]) <;> omega), (Or.inr (by (try rw [w218]) <;> (try rw [w219]) <;> (try rw [w220]) <;> (try rw [w221]) <;> (try rw [w222]) <;> (try rw [w223]) <;> (try rw [w224]) <;> (try rw [w225]) <;> (try rw [w226]) <;> (try rw [w227]) <;> (try rw [wg142]) <;> (try rw [wg143]) <;> (try rw [wg144]) <;> (try rw [wg145]) <;> (try rw [wg146]) <;> (try rw [wg147]) <;> (try rw [wg148]) <;> (try rw [wg149]) <;> (try rw [wg150]) <;> (try rw [wg151]) <;> (try rw [wg1]) <;> (try rw [wg2]) <;> (try rw [wg3]) <;> (try rw [wg4]) <;> (try rw [wg5]) <;> (try rw [wg6]) <;> (try rw [wg7]) <;> (try rw [wg8]) <;> (try rw [wg9]) <;> (try rw [wg10]) <;> omega)), (Int.le_of_lt (Int.lt_trans ZL i7)), (by (try rw [w218]) <;> (try rw [w219]) <;> (try rw [w220]) <;> (try rw [w221]) <;> (try rw [w222]) <;> (try rw [w223]) <;> (try rw [w224]) <;> (try rw [w225]) <;> (try rw [w226]) <;> (try rw [w227]) <;> (try rw [wg142]) <;> (try rw [wg143]) <;> (try rw [wg144]) <;> (try rw [wg145]) <;> (try rw [wg146]) <;> (try rw [wg147]) <;> (try rw [wg148]) <;> (try rw [wg149]) <;> (try rw [wg150]) <;> (try rw [wg151]) <;> (try rw [wg1]) <;> (try rw [wg2]) <;> (try rw [wg3]) <;> (try rw [wg4]) <;> (try rw [wg5]) <;> (try rw [wg6]) <;> (try rw [wg7]) <;> (try rw [wg8]) <;> (try rw [wg9]) <;> (try rw [wg10]) <;> omega), ot228, ⟨p1, _, BO.2.1 ((rKd_s 44 KK4 (by decide)).mp (by omega)), L5, N6, OX, D5⟩, rfl⟩), (fun h => absurd h (by decide))⟩
        · exact And.intro (zrtb (by omega)) (And.intro ⟨by omega, by omega⟩ (hQ _ _ z217 (by omega) (by omega) (by (try rw [w218]) <;> (try rw [w219]) <;> (try rw [w220]) <;> (try rw [w221]) <;> (try rw [w222]) <;> (try rw [w223]) <;> (try rw [w224]) <;> (try rw [w225]) <;> (try rw [w226]) <;> (try rw [w227]) <;> (try rw [wg142]) <;> (try rw [wg143]) <;> (try rw [wg144]) <;> (try rw [wg145]) <;> (try rw [wg146]) <;> (try rw [wg147]) <;> (try rw [wg148]) <;> (try rw [wg149]) <;> (try rw [wg150]) <;> (try rw [wg151]) <;> (try rw [wg1]) <;> (try rw [wg2]) <;> (try rw [wg3]) <;> (try rw [wg4]) <;> (try rw [wg5]) <;> (try rw [wg6]) <;> (try rw [wg7]) <;> (try rw [wg8]) <;> (try rw [wg9]) <;> (try rw [wg10]) <;> omega) (by (try rw [w218]) <;> (try rw [w219]) <;> (try rw [w220]) <;> (try rw [w221]) <;> (try rw [w222]) <;> (try rw [w223]) <;> (try rw [w224]) <;> (try rw [w225]) <;> (try rw [w226]) <;> (try rw [w227]) <;> (try rw [wg142]) <;> (try rw [wg143]) <;> (try rw [wg144]) <;> (try rw [wg145]) <;> (try rw [wg146]) <;> (try rw [wg147]) <;> (try rw [wg148]) <;> (try rw [wg149]) <;> (try rw [wg150]) <;> (try rw [wg151]) <;> (try rw [wg1]) <;> (try rw [wg2]) <;> (try rw [wg3]) <;> (try rw [wg4]) <;> (try rw [wg5]) <;> (try rw [wg6]) <;> (try rw [wg7]) <;> (try rw [wg8]) <;> (try rw [wg9]) <;> (try rw [wg10]) <;> omega) TE3 (by (try rw [w218]) <;> (try rw [w219]) <;> (try rw [w220]) <;> (try rw [w221]) <;> (try rw [w222]) <;> (try rw [w223]) <;> (try rw [w224]) <;> (try rw [w225]) <;> (try rw [w226]) <;> (try rw [w227]) <;> (try rw [wg142]) <;> (try rw [wg143]) <;> (try rw [wg144]) <;> (try rw [wg145]) <;> (try rw [wg146]) <;> (try rw [wg147]) <;> (try rw [wg148]) <;> (try rw [wg149]) <;> (try rw [wg150]) <;> (try rw [wg151]) <;> (try rw [wg1]) <;> (try rw [wg2]) <;> (try rw [wg3]) <;> (try rw [wg4]) <;> (try rw [wg5]) <;> (try rw [wg6]) <;> (try rw [wg7]) <;> (try rw [wg8]) <;> (try rw [wg9]) <;> (try rw [wg10]) <;> omega) (fun h => BD3) (fun h => Int.lt_trans ZL i7) ot228 (Or.inr ⟨rfl, p1, _, BO.2.2 (fun h0 => by have h2 := (rKd_s 38 KK4 (by decide)).mpr h0; omega) (fun h0 => by have h2 := (rKd_s 44 KK4 (by decide)).mpr h0; omega), L5, N6, OX, D5⟩)))
    · exact And.intro (zrtb (by omega)) (And.intro ⟨by omega, by omega⟩ (hQ _ _ z185 (by omega) (by omega) (by (try rw [wg190]) <;> (try rw [w186]) <;> (try rw [wg191]) <;> (try rw [wg192]) <;> (try rw [wg193]) <;> (try rw [wg194]) <;> (try rw [wg195]) <;> (try rw [w187]) <;> (try rw [w188]) <;> (try rw [w189]) <;> (try rw [wg142]) <;> (try rw [wg143]) <;> (try rw [wg144]) <;> (try rw [wg145]) <;> (try rw [wg146]) <;> (try rw [wg147]) <;> (try rw [wg148]) <;> (try rw [wg149]) <;> (try rw [wg150]) <;> (try rw [wg151]) <;> (try rw [wg1]) <;> (try rw [wg2]) <;> (try rw [wg3]) <;> (try rw [wg4]) <;> (try rw [wg5]) <;> (try rw [wg6]) <;> (try rw [wg7]) <;> (try rw [wg8]) <;> (try rw [wg9]) <;> (try rw [wg10]) <;> omega) (by (try rw [wg190]) <;> (try rw [w186]) <;> (try rw [wg191]) <;> (try rw [wg192]) <;> (try rw [wg193]) <;> (try rw [wg194]) <;> (try rw [wg195]) <;> (try rw [w187]) <;> (try rw [w188]) <;> (try rw [w189]) <;> (try rw [wg142]) <;> (try rw [wg143]) <;> (try rw [wg144]) <;> (try rw [wg145]) <;> (try rw [wg146]) <;> (try rw [wg147]) <;> (try rw [wg148]) <;> (try rw [wg149]) <;> (try rw [wg150]) <;> (try rw [wg151]) <;> (try rw [wg1]) <;> (try rw [wg2]) <;> (try rw [wg3]) <;> (try rw [wg4]) <;> (try rw [wg5]) <;> (try rw [wg6]) <;> (try rw [wg7]) <;> (try rw [wg8]) <;> (try rw [wg9]) <;> (try rw [wg10]) <;> omega) TE2 (by (try rw [wg190]) <;> (try rw [w186]) <;> (try rw [wg191]) <;> (try rw [wg192]) <;> (try rw [wg193]) <;> (try rw [wg194]) <;> (try rw [wg195]) <;> (try rw [w187]) <;> (try rw [w188]) <;> (try rw [w189]) <;> (try rw [wg142]) <;> (try rw [wg143]) <;> (try rw [wg144]) <;> (try rw [wg145]) <;> (try rw [wg146]) <;> (try rw [wg147]) <;> (try rw [wg148]) <;> (try rw [wg149]) <;> (try rw [wg150]) <;> (try rw [wg151]) <;> (try rw [wg1]) <;> (try rw [wg2]) <;> (try rw [wg3]) <;> (try rw [wg4]) <;> (try rw [wg5]) <;> (try rw [wg6]) <;> (try rw [wg7]) <;> (try rw [wg8]) <;> (try rw [wg9]) <;> (try rw [wg10]) <;> omega) (fun h => by exfalso; omega) (fun h => by exfalso; omega) ot196 (Or.inl ⟨rfl, rFa_t (yR_s RQ (show yms τ (5, pq, 0, [], Bq) = (10, ynx τ pq, 0, [], rB5 Bq 0 (rq6 Bq)) from rfl)) (by rcases p184 with h0 | h0; exact h0.2; (exfalso; have h1 := h0.1; omega))⟩)))
  · have NM : 0 ≤ m152.1 66 ((38 : Nat) : Int) := (by (try rw [wg165]) <;> (try rw [w159]) <;> (try rw [wg166]) <;> (try rw [wg167]) <;> (try rw [wg168]) <;> (try rw [w160]) <;> (try rw [w161]) <;> (try rw [w162]) <;> (try rw [w163]) <;> (try rw [w164]) <;> (try rw [wg142]) <;> (try rw [wg143]) <;> (try rw [wg144]) <;> (try rw [wg145]) <;> (try rw [wg146]) <;> (try rw [wg147]) <;> (try rw [wg148]) <;> (try rw [wg149]) <;> (try rw [wg150]) <;> (try rw [wg151]) <;> (try rw [wg1]) <;> (try rw [wg2]) <;> (try rw [wg3]) <;> (try rw [wg4]) <;> (try rw [wg5]) <;> (try rw [wg6]) <;> (try rw [wg7]) <;> (try rw [wg8]) <;> (try rw [wg9]) <;> (try rw [wg10]) <;> omega)
    refine ⟨yk_X9_readType, ym_X9_readType hg d (by omega), _, _, _, _, _, _, _, _, _, _, τ, (ynx τ pq), (rB5 Bq 0 (rq6 Bq)), _, _, rfl, ⟨by omega, by omega⟩, ⟨by omega, by omega⟩, ⟨by omega, by omega⟩, (by (try rw [wg165]) <;> (try rw [w159]) <;> (try rw [wg166]) <;> (try rw [wg167]) <;> (try rw [wg168]) <;> (try rw [w160]) <;> (try rw [w161]) <;> (try rw [w162]) <;> (try rw [w163]) <;> (try rw [w164]) <;> (try rw [wg142]) <;> (try rw [wg143]) <;> (try rw [wg144]) <;> (try rw [wg145]) <;> (try rw [wg146]) <;> (try rw [wg147]) <;> (try rw [wg148]) <;> (try rw [wg149]) <;> (try rw [wg150]) <;> (try rw [wg151]) <;> (try rw [wg1]) <;> (try rw [wg2]) <;> (try rw [wg3]) <;> (try rw [wg4]) <;> (try rw [wg5]) <;> (try rw [wg6]) <;> (try rw [wg7]) <;> (try rw [wg8]) <;> (try rw [wg9]) <;> (try rw [wg10]) <;> omega), TE170.1.1, TE170.1.2.1, (by rw [show m152.1 66 ((26 : Nat) : Int) = v1 + 1 by (try rw [w164]); omega, show m152.1 66 ((24 : Nat) : Int) = 21 by (try rw [w162]); omega, show m152.1 76 = μ.1 76 from z158.1 76 (by decide) rfl, show m152.1 77 = μ.1 77 from z158.1 77 (by decide) rfl]; exact ⟨Int.le_refl _, fun _ => hp4.2.1, by omega, hp4.2.2⟩), (fun v a b => by rw [show m152.1 66 ((24 : Nat) : Int) = 21 by (try rw [w162]); omega, show m152.1 77 = μ.1 77 from z158.1 77 (by decide) rfl]; rfl), (by (try rw [w161]); (try rw [w160]); exact ⟨zTE_pre TE170 w161 w160 wg7 wg6 hp5.1, by omega, by omega⟩), (fun _ => by rw [show m152.1 66 ((24 : Nat) : Int) = 21 by (try rw [w162]); omega, show m152.1 76 = μ.1 76 from z158.1 76 (by decide) rfl, show m152.1 77 = μ.1 77 from z158.1 77 (by decide) rfl]; exact ⟨Int.le_refl (zXf μ v1), Int.le_refl (zXf μ v1 + zXn μ v1)⟩), ⟨L2, rNu_5 N2⟩, ⟨yI0_5 HI5.1, by rw [V5.1.2.2.2]; exact OQ.1.symm⟩, ⟨V5.2.1.1.symm, r5_6 (by first | exact Or.inl ⟨rfl, by omega⟩ | exact Or.inr ⟨rfl, by omega⟩)⟩, (by rw [V5.1.1]; exact CN.symm), ?_⟩
    intro x233 m234 qm234 kx233 lx233 p235 p236 p237 p238 p239 p240 p241 p242
    have z243 := zfx_t z158 qm234 rfl rfl
    have w244 : m234.1 66 ((30 : Nat) : Int) = g143 := (qm234.2.1 30 rfl).trans w159
    have w245 : m234.1 66 ((24 : Nat) : Int) = g149 := (qm234.2.1 24 rfl).trans w162
    have w246 : m234.1 66 ((25 : Nat) : Int) = g150 := (qm234.2.1 25 rfl).trans w163
    have w247 : m234.1 66 ((26 : Nat) : Int) = g151 := (qm234.2.1 26 rfl).trans w164
    obtain ⟨g248, wg248⟩ : ∃ z : Int, m234.1 66 ((31 : Nat) : Int) = z := ⟨_, rfl⟩
    obtain ⟨g249, wg249⟩ : ∃ z : Int, m234.1 66 ((33 : Nat) : Int) = z := ⟨_, rfl⟩
    obtain ⟨g250, wg250⟩ : ∃ z : Int, m234.1 66 ((34 : Nat) : Int) = z := ⟨_, rfl⟩
    obtain ⟨g251, wg251⟩ : ∃ z : Int, m234.1 66 ((32 : Nat) : Int) = z := ⟨_, rfl⟩
    obtain ⟨g252, wg252⟩ : ∃ z : Int, m234.1 66 ((38 : Nat) : Int) = z := ⟨_, rfl⟩
    obtain ⟨g253, wg253⟩ : ∃ z : Int, m234.1 66 ((8 : Nat) : Int) = z := ⟨_, rfl⟩
    try rw [wg248] at p235
    try rw [w244] at p235
    try rw [wg249] at p235
    try rw [wg250] at p235
    try rw [wg251] at p235
    try rw [wg252] at p235
    try rw [wg253] at p235
    try rw [w245] at p235
    try rw [w246] at p235
    try rw [w247] at p235
    try rw [wg165] at p235
    try rw [w159] at p235
    try rw [wg166] at p235
    try rw [wg167] at p235
    try rw [wg168] at p235
    try rw [w160] at p235
    try rw [w161] at p235
    try rw [w162] at p235
    try rw [w163] at p235
    try rw [w164] at p235
    try rw [wg1] at p235
    try rw [wg2] at p235
    try rw [wg3] at p235
    try rw [wg4] at p235
    try rw [wg5] at p235
    try rw [wg6] at p235
    try rw [wg7] at p235
    try rw [wg8] at p235
    try rw [wg9] at p235
    try rw [wg10] at p235
    try rw [wg248] at p236
    try rw [w244] at p236
    try rw [wg249] at p236
    try rw [wg250] at p236
    try rw [wg251] at p236
    try rw [wg252] at p236
    try rw [wg253] at p236
    try rw [w245] at p236
    try rw [w246] at p236
    try rw [w247] at p236
    try rw [wg165] at p236
    try rw [w159] at p236
    try rw [wg166] at p236
    try rw [wg167] at p236
    try rw [wg168] at p236
    try rw [w160] at p236
    try rw [w161] at p236
    try rw [w162] at p236
    try rw [w163] at p236
    try rw [w164] at p236
    try rw [wg1] at p236
    try rw [wg2] at p236
    try rw [wg3] at p236
    try rw [wg4] at p236
    try rw [wg5] at p236
    try rw [wg6] at p236
    try rw [wg7] at p236
    try rw [wg8] at p236
    try rw [wg9] at p236
    try rw [wg10] at p236
    try rw [wg248] at p237
    try rw [w244] at p237
    try rw [wg249] at p237
    try rw [wg250] at p237
    try rw [wg251] at p237
    try rw [wg252] at p237
    try rw [wg253] at p237
    try rw [w245] at p237
    try rw [w246] at p237
    try rw [w247] at p237
    try rw [wg165] at p237
    try rw [w159] at p237
    try rw [wg166] at p237
    try rw [wg167] at p237
    try rw [wg168] at p237
    try rw [w160] at p237
    try rw [w161] at p237
    try rw [w162] at p237
    try rw [w163] at p237
    try rw [w164] at p237
    try rw [wg1] at p237
    try rw [wg2] at p237
    try rw [wg3] at p237
    try rw [wg4] at p237
    try rw [wg5] at p237
    try rw [wg6] at p237
    try rw [wg7] at p237
    try rw [wg8] at p237
    try rw [wg9] at p237
    try rw [wg10] at p237
    try rw [wg248] at p238
    try rw [w244] at p238
    try rw [wg249] at p238
    try rw [wg250] at p238
    try rw [wg251] at p238
    try rw [wg252] at p238
    try rw [wg253] at p238
    try rw [w245] at p238
    try rw [w246] at p238
    try rw [w247] at p238
    try rw [wg165] at p238
    try rw [w159] at p238
    try rw [wg166] at p238
    try rw [wg167] at p238
    try rw [wg168] at p238
    try rw [w160] at p238
    try rw [w161] at p238
    try rw [w162] at p238
    try rw [w163] at p238
    try rw [w164] at p238
    try rw [wg1] at p238
    try rw [wg2] at p238
    try rw [wg3] at p238
    try rw [wg4] at p238
    try rw [wg5] at p238
    try rw [wg6] at p238
    try rw [wg7] at p238
    try rw [wg8] at p238
    try rw [wg9] at p238
    try rw [wg10] at p238
    try rw [wg248] at p239
    try rw [w244] at p239
    try rw [wg249] at p239
    try rw [wg250] at p239
    try rw [wg251] at p239
    try rw [wg252] at p239
    try rw [wg253] at p239
    try rw [w245] at p239
    try rw [w246] at p239
    try rw [w247] at p239
    try rw [wg165] at p239
    try rw [w159] at p239
    try rw [wg166] at p239
    try rw [wg167] at p239
    try rw [wg168] at p239
    try rw [w160] at p239
    try rw [w161] at p239
    try rw [w162] at p239
    try rw [w163] at p239
    try rw [w164] at p239
    try rw [wg1] at p239
    try rw [wg2] at p239
    try rw [wg3] at p239
    try rw [wg4] at p239
    try rw [wg5] at p239
    try rw [wg6] at p239
    try rw [wg7] at p239
    try rw [wg8] at p239
    try rw [wg9] at p239
    try rw [wg10] at p239
    try rw [wg248] at p240
    try rw [w244] at p240
    try rw [wg249] at p240
    try rw [wg250] at p240
    try rw [wg251] at p240
    try rw [wg252] at p240
    try rw [wg253] at p240
    try rw [w245] at p240
    try rw [w246] at p240
    try rw [w247] at p240
    try rw [wg165] at p240
    try rw [w159] at p240
    try rw [wg166] at p240
    try rw [wg167] at p240
    try rw [wg168] at p240
    try rw [w160] at p240
    try rw [w161] at p240
    try rw [w162] at p240
    try rw [w163] at p240
    try rw [w164] at p240
    try rw [wg1] at p240
    try rw [wg2] at p240
    try rw [wg3] at p240
    try rw [wg4] at p240
    try rw [wg5] at p240
    try rw [wg6] at p240
    try rw [wg7] at p240
    try rw [wg8] at p240
    try rw [wg9] at p240
    try rw [wg10] at p240
    try rw [wg248] at p241
    try rw [w244] at p241
    try rw [wg249] at p241
    try rw [wg250] at p241
    try rw [wg251] at p241
    try rw [wg252] at p241
    try rw [wg253] at p241
    try rw [w245] at p241
    try rw [w246] at p241
    try rw [w247] at p241
    try rw [wg165] at p241
    try rw [w159] at p241
    try rw [wg166] at p241
    try rw [wg167] at p241
    try rw [wg168] at p241
    try rw [w160] at p241
    try rw [w161] at p241
    try rw [w162] at p241
    try rw [w163] at p241
    try rw [w164] at p241
    try rw [wg1] at p241
    try rw [wg2] at p241
    try rw [wg3] at p241
    try rw [wg4] at p241
    try rw [wg5] at p241
    try rw [wg6] at p241
    try rw [wg7] at p241
    try rw [wg8] at p241
    try rw [wg9] at p241
    try rw [wg10] at p241
    clear wg165 w159 wg166 wg167 wg168 w160 w161 w162 w163 w164
    have ot254 := zOt_fr ot169 (qm234.1 76 (by decide) rfl) (qm234.1 77 (by decide) rfl) (qm234.1 78 (by decide) rfl) (qm234.1 79 (by decide) rfl) (qm234.1 80 (by decide) rfl) (qm234.1 83 (by decide) rfl) (qm234.1 84 (by decide) rfl)
    have D4 := rTd_old D2 p237.1.2.2.1 TE170.1.1.2.1 (qm234.1 78 (by decide) rfl) (qm234.1 83 (by decide) rfl) p237.1.2.2.2.1
    have TE2 := zTE_t TE170 p237
    have BD2 := zBd_old BD171 TE170.1.1.1.1 p237.1.2.2.1 p237.1.2.2.2.1 (qm234.1 83 (by decide) rfl) (qm234.1 84 (by decide) rfl)
    refine And.intro ⟨by omega, by omega⟩ (And.intro (fun c255 => ?_) (fun c255 => ?_))
    · have ZN : zTn m152 m234 ≤ 300 := by unfold zTn; (try rw [wg248]) <;> (try rw [w244]) <;> (try rw [wg249]) <;> (try rw [wg250]) <;> (try rw [wg251]) <;> (try rw [wg252]) <;> (try rw [wg253]) <;> (try rw [w245]) <;> (try rw [w246]) <;> (try rw [w247]) <;> (try rw [wg142]) <;> (try rw [wg143]) <;> (try rw [wg144]) <;> (try rw [wg145]) <;> (try rw [wg146]) <;> (try rw [wg147]) <;> (try rw [wg148]) <;> (try rw [wg149]) <;> (try rw [wg150]) <;> (try rw [wg151]) <;> (try rw [wg1]) <;> (try rw [wg2]) <;> (try rw [wg3]) <;> (try rw [wg4]) <;> (try rw [wg5]) <;> (try rw [wg6]) <;> (try rw [wg7]) <;> (try rw [wg8]) <;> (try rw [wg9]) <;> (try rw [wg10]) <;> omega
      have TX : zTx m234 lo x233 := by rcases p240 with c | c; (exfalso; omega); exact ⟨⟨c.1, c.2.1⟩, by have := c.2.2.2.2.2.2; omega, c.2.2.2.1 (by omega)⟩
      have ZQ : zrm m234 ≤ zrm m152 := by rcases p239 with c | c; (exfalso; omega); exact c
      have A3 : (1 : Int) = 0 := by rcases p241 with c | c; exact c; (exfalso; omega)
      obtain ⟨-, p1, n1, h1, as1, RT, L4, N4, E4⟩ := Or.resolve_left p242 (fun h0 => by have h2 := h0.1; omega)
      have KK4 := rkd L4 wg251
      have BO := rbo RQ RT
      have WV := rWb_v Bq n1 ([h1] :: as1)
      intro x256 hx256 kx256 lx256
      rw [w246] at hx256
      intro x257 hx257 kx257 lx257
      rw [w246] at hx257
      refine And.intro ⟨by omega, by omega⟩ ?_
      intro x258 hx258 kx258 lx258
      rw [qm234.1 84 (by decide) rfl, show (x257 + v2) = 80 + v2 by omega] at hx258
      refine And.intro ⟨by omega, by omega⟩ (And.intro ⟨by omega, by omega⟩ ?_)
      intro m259 em259
      have z260 := zfx_r z243 em259 rfl (by decide)
      have w261 : m259.1 66 ((31 : Nat) : Int) = g248 := by rw [em259]; exact (congrFun (zu_ne (by decide)) _).trans wg248
      have w262 : m259.1 66 ((30 : Nat) : Int) = g143 := by rw [em259]; exact (congrFun (zu_ne (by decide)) _).trans w244
      have w263 : m259.1 66 ((33 : Nat) : Int) = g249 := by rw [em259]; exact (congrFun (zu_ne (by decide)) _).trans wg249
      have w264 : m259.1 66 ((34 : Nat) : Int) = g250 := by rw [em259]; exact (congrFun (zu_ne (by decide)) _).trans wg250
      have w265 : m259.1 66 ((32 : Nat) : Int) = g251 := by rw [em259]; exact (congrFun (zu_ne (by decide)) _).trans wg251
      have w266 : m259.1 66 ((38 : Nat) : Int) = g252 := by rw [em259]; exact (congrFun (zu_ne (by decide)) _).trans wg252
      have w267 : m259.1 66 ((8 : Nat) : Int) = g253 := by rw [em259]; exact (congrFun (zu_ne (by decide)) _).trans wg253
      have w268 : m259.1 66 ((24 : Nat) : Int) = g149 := by rw [em259]; exact (congrFun (zu_ne (by decide)) _).trans w245
      have w269 : m259.1 66 ((25 : Nat) : Int) = g150 := by rw [em259]; exact (congrFun (zu_ne (by decide)) _).trans w246
      have w270 : m259.1 66 ((26 : Nat) : Int) = g151 := by rw [em259]; exact (congrFun (zu_ne (by decide)) _).trans w247
      clear wg248 w244 wg249 wg250 wg251 wg252 wg253 w245 w246 w247
      have ot271 := zOt_w ot254 em259 (by have hk : (160 : Int) ≤ ((2 * (x256 + v2)) + x258) := (by omega); refine ⟨fun h => ?_, fun h => ?_, fun h => ?_, fun h => ?_, fun h => ?_⟩ <;> first | exact hk | (exfalso; revert h; decide))
      intro x272 hx272 kx272 lx272
      rw [w269] at hx272
      refine And.intro ⟨by omega, by omega⟩ ?_
      intro x273 hx273 kx273 lx273
      rw [em259, zu_ne (by decide), qm234.1 84 (by decide) rfl, show (x272 + v2) = 80 + v2 by omega] at hx273
      refine And.intro ⟨by omega, by omega⟩ (And.intro ⟨by omega, by omega⟩ ?_)
      intro m274 em274
      have z275 := zfx_r z260 em274 rfl (by decide)
      have w276 : m274.1 66 ((31 : Nat) : Int) = g248 := by rw [em274]; exact (congrFun (zu_ne (by decide)) _).trans w261
      have w277 : m274.1 66 ((30 : Nat) : Int) = g143 := by rw [em274]; exact (congrFun (zu_ne (by decide)) _).trans w262
      have w278 : m274.1 66 ((33 : Nat) : Int) = g249 := by rw [em274]; exact (congrFun (zu_ne (by decide)) _).trans w263
      have w279 : m274.1 66 ((34 : Nat) : Int) = g250 := by rw [em274]; exact (congrFun (zu_ne (by decide)) _).trans w264
      have w280 : m274.1 66 ((32 : Nat) : Int) = g251 := by rw [em274]; exact (congrFun (zu_ne (by decide)) _).trans w265
      have w281 : m274.1 66 ((38 : Nat) : Int) = g252 := by rw [em274]; exact (congrFun (zu_ne (by decide)) _).trans w266
      have w282 : m274.1 66 ((8 : Nat) : Int) = g253 := by rw [em274]; exact (congrFun (zu_ne (by decide)) _).trans w267
      have w283 : m274.1 66 ((24 : Nat) : Int) = g149 := by rw [em274]; exact (congrFun (zu_ne (by decide)) _).trans w268
      have w284 : m274.1 66 ((25 : Nat) : Int) = g150 := by rw [em274]; exact (congrFun (zu_ne (by decide)) _).trans w269
      have w285 : m274.1 66 ((26 : Nat) : Int) = g151 := by rw [em274]; exact (congrFun (zu_ne (by decide)) _).trans w270
      clear w261 w262 w263 w264 w265 w266 w267 w268 w269 w270
      have ot286 := zOt_w ot271 em274 (by have hk : (80 : Int) ≤ (x272 + v2) := (by omega); refine ⟨fun h => ?_, fun h => ?_, fun h => ?_, fun h => ?_, fun h => ?_⟩ <;> first | exact hk | (exfalso; revert h; decide))
      have Y84 : m234.1 84 (80 + v2) = x258 := by rw [qm234.1 84 (by decide) rfl]; omega
      have BD3 := zBd_w (p := v2) BD2 ⟨by omega, by omega⟩ em259 (by omega) (by omega) (by omega) TX em274 (by omega) (by omega)
      have TE3 := zTE_fr (m' := m274) TE2 (fun j a b => by rw [em274, zu_ne (by omega), em259, zu_ne (by omega)]) (by rw [em274, zu_ne (by decide), em259, zu_ne (by decide)]) (by rw [em274, zu_ne (by decide), em259, zu_ne (by decide)])
      have ZR : zrm m274 ≤ zrm m234 := zrm_e (fun j => by rw [em274, zu_ne (by decide), em259, zu_ne (by decide)])
      have ZL : zrm m274 < zrm m0 := Int.lt_of_le_of_lt ZR (Int.lt_of_le_of_lt ZQ ZP)
      have N5 := rNu_bb (m := m274) (r := v2) (l := [h1] :: as1) N4 (fun k => by rw [em274, zu_if, em259, zu_ne (by decide)]; by_cases hk : k = 80 + v2; (rw [if_pos hk, if_pos (by omega)]; omega); (rw [if_neg hk, if_neg (by omega)])) ⟨by omega, by rw [yN_ne (by omega), V5.1.2.1]; exact O6.2⟩ (fun j hj => by rw [em274, zu_ne (by omega), em259, zu_ne (by omega)]) (fun k hk => by rw [em274, zu_ne (by decide), em259, zu_ne (by decide)])
      have N6 : rNu m274 (rWb Bq n1 ([h1] :: as1)) := by unfold rWb; rw [O6.1]; exact N5
      have L5 : rLx m274 τ p1 := rLx_f L4 (by rw [em274, zu_ne (by decide), em259, zu_ne (by decide)]) (fun k a b => by rw [em274, zu_ne (by decide), em259, zu_ne (by decide)])
      have OX : (rWb Bq n1 ([h1] :: as1)).1 0 3 = v1 ∧ (rWb Bq n1 ([h1] :: as1)).2 1 = B.2 1 ∧ (rWb Bq n1 ([h1] :: as1)).2 2 = B.2 2 := ⟨WV.1.trans OQ.1, WV.2.2.1.trans OQ.2.1, WV.2.2.2.1.trans OQ.2.2⟩
      have D5 : rTd m274 (rWb Bq n1 ([h1] :: as1)) := rTd_wb D4 em259 (by rw [← BC, O6.1]; omega) ⟨by rw [← BC]; omega, by rw [← BC]; omega⟩ (fun j hj => by rw [em274, zu_ne hj]) ⟨by have h0 := TX.1.1; have h1 := hp1.1.1; omega, TX.1.2⟩ E4
      intro x287 hx287 kx287 lx287
      rw [w280] at hx287
      refine And.intro ⟨⟨by omega, by omega⟩, ⟨by omega, by omega⟩⟩ (And.intro (fun c288 => ?_) (fun c288 => ?_))
      · refine Exists.intro (Int.toNat (zrm m274)) (And.intro (zrN ZL (zrm_0 (by (try rw [w276]) <;> (try rw [w277]) <;> (try rw [w278]) <;> (try rw [w279]) <;> (try rw [w280]) <;> (try rw [w281]) <;> (try rw [w282]) <;> (try rw [w283]) <;> (try rw [w284]) <;> (try rw [w285]) <;> (try rw [wg142]) <;> (try rw [wg143]) <;> (try rw [wg144]) <;> (try rw [wg145]) <;> (try rw [wg146]) <;> (try rw [wg147]) <;> (try rw [wg148]) <;> (try rw [wg149]) <;> (try rw [wg150]) <;> (try rw [wg151]) <;> (try rw [wg1]) <;> (try rw [wg2]) <;> (try rw [wg3]) <;> (try rw [wg4]) <;> (try rw [wg5]) <;> (try rw [wg6]) <;> (try rw [wg7]) <;> (try rw [wg8]) <;> (try rw [wg9]) <;> (try rw [wg10]) <;> omega))) ?_)
        exact ⟨(fun h => absurd h (by decide)), (fun _ => ⟨_, _, rfl, z275, ⟨by omega, by omega⟩, ⟨by omega, by omega⟩, (by (try rw [w276]) <;> (try rw [w277]) <;> (try rw [w278]) <;> (try rw [w279]) <;> (try rw [w280]) <;> (try rw [w281]) <;> (try rw [w282]) <;> (try rw [w283]) <;> (try rw [w284]) <;> (try rw [w285]) <;> (try rw [wg142]) <;> (try rw [wg143]) <;> (try rw [wg144]) <;> (try rw [wg145]) <;> (try rw [wg146]) <;> (try rw [wg147]) <;> (try rw [wg148]) <;> (try rw [wg149]) <;> (try rw [wg150]) <;> (try rw [wg151]) <;> (try rw [wg1]) <;> (try rw [wg2]) <;> (try rw [wg3]) <;> (try rw [wg4]) <;> (try rw [wg5]) <;> (try rw [wg6]) <;> (try rw [wg7]) <;> (try rw [wg8]) <;> (try rw [wg9]) <;> (try rw [wg10]) <;> omega), (by (try rw [w276]) <;> (try rw [w277]) <;> (try rw [w278]) <;> (try rw [w279]) <;> (try rw [w280]) <;> (try rw [w281]) <;> (try rw [w282]) <;> (try rw [w283]) <;> (try rw [w284]) <;> (try rw [w285]) <;> (try rw [wg142]) <;> (try rw [wg143]) <;> (try rw [wg144]) <;> (try rw [wg145]) <;> (try rw [wg146]) <;> (try rw [wg147]) <;> (try rw [wg148]) <;> (try rw [wg149]) <;> (try rw [wg150]) <;> (try rw [wg151]) <;> (try rw [wg1]) <;> (try rw [wg2]) <;> (try rw [wg3]) <;> (try rw [wg4]) <;> (try rw [wg5]) <;> (try rw [wg6]) <;> (try rw [wg7]) <;> (try rw [wg8]) <;> (try rw [wg9]) <;> (try rw [wg10]) <;> omega), rfl, TE3, BD3, (by (try rw [w276]) <;> (try rw [w277]) <;> (try rw [w278]) <;> (try rw [w279]) <;> (try rw [w280]) <;> (try rw [w281]) <;> (try rw [w282]) <;> (try rw [w283]) <;> (try rw [w284]) <;> (try rw [w285]) <;> (try rw [wg142]) <;> (try rw [wg143]) <;> (try rw [wg144]) <;> (try rw [wg145]) <;> (try rw [wg146]) <;> (try rw [wg147]) <;> (try rw [wg148]) <;> (try rw [wg149]) <;> (try rw [wg150]) <;> (try rw [wg151]) <;> (try rw [wg1]) <;> (try rw [wg2]) <;> (try rw [wg3]) <;> (try rw [wg4]) <;> (try rw [wg5]) <;> (try rw [wg6]) <;> (try rw [wg7]) <;> (try rw [wg8]) <;> (try rw [wg9]) <;> (try rw [wg10]) <;> omega), (Or.inr (by (try rw [w276]) <;> (try rw [w277]) <;> (try rw [w278]) <;> (try rw [w279]) <;> (try rw [w280]) <;> (try rw [w281]) <;> (try rw [w282]) <;> (try rw [w283]) <;> (try rw [w284]) <;> (try rw [w285]) <;> (try rw [wg142]) <;> (try rw [wg143]) <;> (try rw [wg144]) <;> (try rw [wg145]) <;> (try rw [wg146]) <;> (try rw [wg147]) <;> (try rw [wg148]) <;> (try rw [wg149]) <;> (try rw [wg150]) <;> (try rw [wg151]) <;> (try rw [wg1]) <;> (try rw [wg2]) <;> (try rw [wg3]) <;> (try rw [wg4]) <;> (try rw [wg5]) <;> (try rw [wg6]) <;> (try rw [wg7]) <;> (try rw [wg8]) <;> (try rw [wg9]) <;> (try rw [wg10]) <;> omega)), (Int.lt_trans ZL i7), (by (try rw [w276]) <;> (try rw [w277]) <;> (try rw [w278]) <;> (try rw [w279]) <;> (try rw [w280]) <;> (try rw [w281]) <;> (try rw [w282]) <;> (try rw [w283]) <;> (try rw [w284]) <;> (try rw [w285]) <;> (try rw [wg142]) <;> (try rw [wg143]) <;> (try rw [wg144]) <;> (try rw [wg145]) <;> (try rw [wg146]) <;> (try rw [wg147]) <;> (try rw [wg148]) <;> (try rw [wg149]) <;> (try rw [wg150]) <;> (try rw [wg151]) <;> (try rw [wg1]) <;> (try rw [wg2]) <;> (try rw [wg3]) <;> (try rw [wg4]) <;> (try rw [wg5]) <;> (try rw [wg6]) <;> (try rw [wg7]) <;> (try rw [wg8]) <;> (try rw [wg9]) <;> (try rw [wg10]) <;> omega), i9, ot286, ⟨p1, _, BO.1 ((rKd_s 38 KK4 (by decide)).mp (by omega)), L5, N6, OX, D5, WV.2.1.trans O6.1, by rw [WV.2.2.2.2]; exact O6.2⟩, rfl⟩)⟩
      · intro x289 hx289 kx289 lx289
        rw [w280] at hx289
        refine And.intro ⟨⟨by omega, by omega⟩, ⟨by omega, by omega⟩⟩ (And.intro (fun c290 => ?_) (fun c290 => ?_))
        · refine Exists.intro (Int.toNat (zrm m274)) (And.intro (zrN ZL (zrm_0 (by (try rw [w276]) <;> (try rw [w277]) <;> (try rw [w278]) <;> (try rw [w279]) <;> (try rw [w280]) <;> (try rw [w281]) <;> (try rw [w282]) <;> (try rw [w283]) <;> (try rw [w284]) <;> (try rw [w285]) <;> (try rw [wg142]) <;> (try rw [wg143]) <;> (try rw [wg144]) <;> (try rw [wg145]) <;> (try rw [wg146]) <;> (try rw [wg147]) <;> (try rw [wg148]) <;> (try rw [wg149]) <;> (try rw [wg150]) <;> (try rw [wg151]) <;> (try rw [wg1]) <;> (try rw [wg2]) <;> (try rw [wg3]) <;> (try rw [wg4]) <;> (try rw [wg5]) <;> (try rw [wg6]) <;> (try rw [wg7]) <;> (try rw [wg8]) <;> (try rw [wg9]) <;> (try rw [wg10]) <;> omega))) ?_)
          exact ⟨(fun _ => ⟨_, rfl, z275, ⟨by omega, by omega⟩, (by (try rw [w276]) <;> (try rw [w277]) <;> (try rw [w278]) <;> (try rw [w279]) <;> (try rw [w280]) <;> (try rw [w281]) <;> (try rw [w282]) <;> (try rw [w283]) <;> (try rw [w284]) <;> (try rw [w285]) <;> (try rw [wg142]) <;> (try rw [wg143]) <;> (try rw [wg144]) <;> (try rw [wg145]) <;> (try rw [wg146]) <;> (try rw [wg147]) <;> (try rw [wg148]) <;> (try rw [wg149]) <;> (try rw [wg150]) <;> (try rw [wg151]) <;> (try rw [wg1]) <;> (try rw [wg2]) <;> (try rw [wg3]) <;> (try rw [wg4]) <;> (try rw [wg5]) <;> (try rw [wg6]) <;> (try rw [wg7]) <;> (try rw [wg8]) <;> (try rw [wg9]) <;> (try rw [wg10]) <;> omega), (by (try rw [w276]) <;> (try rw [w277]) <;> (try rw [w278]) <;> (try rw [w279]) <;> (try rw [w280]) <;> (try rw [w281]) <;> (try rw [w282]) <;> (try rw [w283]) <;> (try rw [w284]) <;> (try rw [w285]) <;> (try rw [wg142]) <;> (try rw [wg143]) <;> (try rw [wg144]) <;> (try rw [wg145]) <;> (try rw [wg146]) <;> (try rw [wg147]) <;> (try rw [wg148]) <;> (try rw [wg149]) <;> (try rw [wg150]) <;> (try rw [wg151]) <;> (try rw [wg1]) <;> (try rw [wg2]) <;> (try rw [wg3]) <;> (try rw [wg4]) <;> (try rw [wg5]) <;> (try rw [wg6]) <;> (try rw [wg7]) <;> (try rw [wg8]) <;> (try rw [wg9]) <;> (try rw [wg10]) <;> omega), rfl, TE3, BD3, (by (try rw [w276]) <;> (try rw [w277]) <;> (try rw [w278]) <;> (try rw [w279]) <;> (try rw [w280]) <;> (try rw [w281]) <;> (try rw [w282]) <;> (try rw [w283]) <;> (try rw [w284]) <;> (try rw [w285]) <;> (try rw [wg142]) <;> (try rw [wg143]) <;> (try rw [wg144]) <;> (try rw [wg145]) <;> (try rw [wg146]) <;> (try rw [wg147]) <;> (try rw [wg148]) <;> (try rw [wg149]) <;> (try rw [wg150]) <;> (try rw [wg151]) <;> (try rw [wg1]) <;> (try rw [wg2]) <;> (try rw [wg3]) <;> (try rw [wg4]) <;> (try rw [wg5]) <;> (try rw [wg6]) <;> (try rw [wg7]) <;> (try rw [wg8]) <;> (try rw [wg9]) <;> (try rw [wg10]) <;> omega), (Or.inr (by (try rw [w276]) <;> (try rw [w277]) <;> (try rw [w278]) <;> (try rw [w279]) <;> (try rw [w280]) <;> (try rw [w281]) <;> (try rw [w282]) <;> (try rw [w283]) <;> (try rw [w284]) <;> (try rw [w285]) <;> (try rw [wg142]) <;> (try rw [wg143]) <;> (try rw [wg144]) <;> (try rw [wg145]) <;> (try rw [wg146]) <;> (try rw [wg147]) <;> (try rw [wg148]) <;> (try rw [wg149]) <;> (try rw [wg150]) <;> (try rw [wg151]) <;> (try rw [wg1]) <;> (try rw [wg2]) <;> (try rw [wg3]) <;> (try rw [wg4]) <;> (try rw [wg5]) <;> (try rw [wg6]) <;> (try rw [wg7]) <;> (try rw [wg8]) <;> (try rw [wg9]) <;> (try rw [wg10]) <;> omega)), (Int.le_of_lt (Int.lt_trans ZL i7)), (by (try rw [w276]) <;> (try rw [w277]) <;> (try rw [w278]) <;> (try rw [w279]) <;> (try rw [w280]) <;> (try rw [w281]) <;> (try rw [w282]) <;> (try rw [w283]) <;> (try rw [w284]) <;> (try rw [w285]) <;> (try rw [wg142]) <;> (try rw [wg143]) <;> (try rw [wg144]) <;> (try rw [wg145]) <;> (try rw [wg146]) <;> (try rw [wg147]) <;> (try rw [wg148]) <;> (try rw [wg149]) <;> (try rw [wg150]) <;> (try rw [wg151]) <;> (try rw [wg1]) <;> (try rw [wg2]) <;> (try rw [wg3]) <;> (try rw [wg4]) <;> (try rw [wg5]) <;> (try rw [wg6]) <;> (try rw [wg7]) <;> (try rw [wg8]) <;> (try rw [wg9]) <;> (try rw [wg10]) <;> omega), ot286, ⟨p1, _, BO.2.1 ((rKd_s 44 KK4 (by decide)).mp (by omega)), L5, N6, OX, D5⟩, rfl⟩), (fun h => absurd h (by decide))⟩
        · exact And.intro (zrtb (by omega)) (And.intro ⟨by omega, by omega⟩ (hQ _ _ z275 (by omega) (by omega) (by (try rw [w276]) <;> (try rw [w277]) <;> (try rw [w278]) <;> (try rw [w279]) <;> (try rw [w280]) <;> (try rw [w281]) <;> (try rw [w282]) <;> (try rw [w283]) <;> (try rw [w284]) <;> (try rw [w285]) <;> (try rw [wg142]) <;> (try rw [wg143]) <;> (try rw [wg144]) <;> (try rw [wg145]) <;> (try rw [wg146]) <;> (try rw [wg147]) <;> (try rw [wg148]) <;> (try rw [wg149]) <;> (try rw [wg150]) <;> (try rw [wg151]) <;> (try rw [wg1]) <;> (try rw [wg2]) <;> (try rw [wg3]) <;> (try rw [wg4]) <;> (try rw [wg5]) <;> (try rw [wg6]) <;> (try rw [wg7]) <;> (try rw [wg8]) <;> (try rw [wg9]) <;> (try rw [wg10]) <;> omega) (by (try rw [w276]) <;> (try rw [w277]) <;> (try rw [w278]) <;> (try rw [w279]) <;> (try rw [w280]) <;> (try rw [w281]) <;> (try rw [w282]) <;> (try rw [w283]) <;> (try rw [w284]) <;> (try rw [w285]) <;> (try rw [wg142]) <;> (try rw [wg143]) <;> (try rw [wg144]) <;> (try rw [wg145]) <;> (try rw [wg146]) <;> (try rw [wg147]) <;> (try rw [wg148]) <;> (try rw [wg149]) <;> (try rw [wg150]) <;> (try rw [wg151]) <;> (try rw [wg1]) <;> (try rw [wg2]) <;> (try rw [wg3]) <;> (try rw [wg4]) <;> (try rw [wg5]) <;> (try rw [wg6]) <;> (try rw [wg7]) <;> (try rw [wg8]) <;> (try rw [wg9]) <;> (try rw [wg10]) <;> omega) TE3 (by (try rw [w276]) <;> (try rw [w277]) <;> (try rw [w278]) <;> (try rw [w279]) <;> (try rw [w280]) <;> (try rw [w281]) <;> (try rw [w282]) <;> (try rw [w283]) <;> (try rw [w284]) <;> (try rw [w285]) <;> (try rw [wg142]) <;> (try rw [wg143]) <;> (try rw [wg144]) <;> (try rw [wg145]) <;> (try rw [wg146]) <;> (try rw [wg147]) <;> (try rw [wg148]) <;> (try rw [wg149]) <;> (try rw [wg150]) <;> (try rw [wg151]) <;> (try rw [wg1]) <;> (try rw [wg2]) <;> (try rw [wg3]) <;> (try rw [wg4]) <;> (try rw [wg5]) <;> (try rw [wg6]) <;> (try rw [wg7]) <;> (try rw [wg8]) <;> (try rw [wg9]) <;> (try rw [wg10]) <;> omega) (fun h => BD3) (fun h => Int.lt_trans ZL i7) ot286 (Or.inr ⟨rfl, p1, _, BO.2.2 (fun h0 => by have h2 := (rKd_s 38 KK4 (by decide)).mpr h0; omega) (fun h0 => by have h2 := (rKd_s 44 KK4 (by decide)).mpr h0; omega), L5, N6, OX, D5⟩)))
    · exact And.intro (zrtb (by omega)) (And.intro ⟨by omega, by omega⟩ (hQ _ _ z243 (by omega) (by omega) (by (try rw [wg248]) <;> (try rw [w244]) <;> (try rw [wg249]) <;> (try rw [wg250]) <;> (try rw [wg251]) <;> (try rw [wg252]) <;> (try rw [wg253]) <;> (try rw [w245]) <;> (try rw [w246]) <;> (try rw [w247]) <;> (try rw [wg142]) <;> (try rw [wg143]) <;> (try rw [wg144]) <;> (try rw [wg145]) <;> (try rw [wg146]) <;> (try rw [wg147]) <;> (try rw [wg148]) <;> (try rw [wg149]) <;> (try rw [wg150]) <;> (try rw [wg151]) <;> (try rw [wg1]) <;> (try rw [wg2]) <;> (try rw [wg3]) <;> (try rw [wg4]) <;> (try rw [wg5]) <;> (try rw [wg6]) <;> (try rw [wg7]) <;> (try rw [wg8]) <;> (try rw [wg9]) <;> (try rw [wg10]) <;> omega) (by (try rw [wg248]) <;> (try rw [w244]) <;> (try rw [wg249]) <;> (try rw [wg250]) <;> (try rw [wg251]) <;> (try rw [wg252]) <;> (try rw [wg253]) <;> (try rw [w245]) <;> (try rw [w246]) <;> (try rw [w247]) <;> (try rw [wg142]) <;> (try rw [wg143]) <;> (try rw [wg144]) <;> (try rw [wg145]) <;> (try rw [wg146]) <;> (try rw [wg147]) <;> (try rw [wg148]) <;> (try rw [wg149]) <;> (try rw [wg150]) <;> (try rw [wg151]) <;> (try rw [wg1]) <;> (try rw [wg2]) <;> (try rw [wg3]) <;> (try rw [wg4]) <;> (try rw [wg5]) <;> (try rw [wg6]) <;> (try rw [wg7]) <;> (try rw [wg8]) <;> (try rw [wg9]) <;> (try rw [wg10]) <;> omega) TE2 (by (try rw [wg248]) <;> (try rw [w244]) <;> (try rw [wg249]) <;> (try rw [wg250]) <;> (try rw [wg251]) <;> (try rw [wg252]) <;> (try rw [wg253]) <;> (try rw [w245]) <;> (try rw [w246]) <;> (try rw [w247]) <;> (try rw [wg142]) <;> (try rw [wg143]) <;> (try rw [wg144]) <;> (try rw [wg145]) <;> (try rw [wg146]) <;> (try rw [wg147]) <;> (try rw [wg148]) <;> (try rw [wg149]) <;> (try rw [wg150]) <;> (try rw [wg151]) <;> (try rw [wg1]) <;> (try rw [wg2]) <;> (try rw [wg3]) <;> (try rw [wg4]) <;> (try rw [wg5]) <;> (try rw [wg6]) <;> (try rw [wg7]) <;> (try rw [wg8]) <;> (try rw [wg9]) <;> (try rw [wg10]) <;> omega) (fun h => by exfalso; omega) (fun h => by exfalso; omega) ot254 (Or.inl ⟨rfl, rFa_t (yR_s RQ (show yms τ (5, pq, 0, [], Bq) = (10, ynx τ pq, 0, [], rB5 Bq 0 (rq6 Bq)) from rfl)) (by rcases p242 with h0 | h0; exact h0.2; (exfalso; have h1 := h0.1; omega))⟩)))
set_option maxHeartbeats 4000000 in
theorem ym_X9_readBounds {g : zΓ} (hg : zg g) (d : Nat) (hd : 6 ≤ d) : zOk g d 144 yk_X9_readBounds := by
  obtain ⟨d, rfl⟩ : ∃ d', d = d' + 1 := ⟨d - 1, by omega⟩
  refine zOk_loop hg (show mt_tab[144]? = some mt_X9_readBounds from rfl) ([(0, [0, 1]), (79, [0, 1, 2])], []) 111 rfl fun As μ Q hC => ?_
  obtain ⟨a1, lo, P, τ, p, B, rfl, ha1, hp0, hp1, hp2, hp3, hp4, hp5, hp6, hp7, hp8, hp9, hp10, hp11, hp12, hQ⟩ := hC
  have r_ha1 := ha1
  have r_hp0 := hp0
  have r_hp1 := hp1
  have r_hp2 := hp2
  have r_hp3 := hp3
  have r_hp4 := hp4
  have r_hp5 := hp5
  have r_hp6 := hp6
  have r_hp7 := hp7
  have r_hp8 := hp8
  have r_hp9 := hp9
  have r_hp10 := hp10
  have r_hp11 := hp11
  have r_hp12 := hp12
  obtain ⟨g1, wg1⟩ : ∃ z : Int, μ.1 66 ((31 : Nat) : Int) = z := ⟨_, rfl⟩
  obtain ⟨g2, wg2⟩ : ∃ z : Int, μ.1 66 ((30 : Nat) : Int) = z := ⟨_, rfl⟩
  obtain ⟨g3, wg3⟩ : ∃ z : Int, μ.1 66 ((33 : Nat) : Int) = z := ⟨_, rfl⟩
  obtain ⟨g4, wg4⟩ : ∃ z : Int, μ.1 66 ((34 : Nat) : Int) = z := ⟨_, rfl⟩
  obtain ⟨g5, wg5⟩ : ∃ z : Int, μ.1 66 ((32 : Nat) : Int) = z := ⟨_, rfl⟩
  obtain ⟨g6, wg6⟩ : ∃ z : Int, μ.1 66 ((38 : Nat) : Int) = z := ⟨_, rfl⟩
  obtain ⟨g7, wg7⟩ : ∃ z : Int, μ.1 66 ((8 : Nat) : Int) = z := ⟨_, rfl⟩
  obtain ⟨g8, wg8⟩ : ∃ z : Int, μ.1 66 ((24 : Nat) : Int) = z := ⟨_, rfl⟩
  obtain ⟨g9, wg9⟩ : ∃ z : Int, μ.1 66 ((25 : Nat) : Int) = z := ⟨_, rfl⟩
  obtain ⟨g10, wg10⟩ : ∃ z : Int, μ.1 66 ((26 : Nat) : Int) = z := ⟨_, rfl⟩
  try rw [wg1] at hp0
  try rw [wg2] at hp0
  try rw [wg3] at hp0
  try rw [wg4] at hp0
  try rw [wg5] at hp0
  try rw [wg6] at hp0
  try rw [wg7] at hp0
  try rw [wg8] at hp0
  try rw [wg9] at hp0
  try rw [wg10] at hp0
  try rw [wg1] at hp1
  try rw [wg2] at hp1
  try rw [wg3] at hp1
  try rw [wg4] at hp1
  try rw [wg5] at hp1
  try rw [wg6] at hp1
  try rw [wg7] at hp1
  try rw [wg8] at hp1
  try rw [wg9] at hp1
  try rw [wg10] at hp1
  try rw [wg1] at hp2
  try rw [wg2] at hp2
  try rw [wg3] at hp2
  try rw [wg4] at hp2
  try rw [wg5] at hp2
  try rw [wg6] at hp2
  try rw [wg7] at hp2
  try rw [wg8] at hp2
  try rw [wg9] at hp2
  try rw [wg10] at hp2
  try rw [wg1] at hp3
  try rw [wg2] at hp3
  try rw [wg3] at hp3
  try rw [wg4] at hp3
  try rw [wg5] at hp3
  try rw [wg6] at hp3
  try rw [wg7] at hp3
  try rw [wg8] at hp3
  try rw [wg9] at hp3
  try rw [wg10] at hp3
  try rw [wg1] at hp4
  try rw [wg2] at hp4
  try rw [wg3] at hp4
  try rw [wg4] at hp4
  try rw [wg5] at hp4
  try rw [wg6] at hp4
  try rw [wg7] at hp4
  try rw [wg8] at hp4
  try rw [wg9] at hp4
  try rw [wg10] at hp4
  try rw [wg1] at hp5
  try rw [wg2] at hp5
  try rw [wg3] at hp5
  try rw [wg4] at hp5
  try rw [wg5] at hp5
  try rw [wg6] at hp5
  try rw [wg7] at hp5
  try rw [wg8] at hp5
  try rw [wg9] at hp5
  try rw [wg10] at hp5
  try rw [wg1] at hp6
  try rw [wg2] at hp6
  try rw [wg3] at hp6
  try rw [wg4] at hp6
  try rw [wg5] at hp6
  try rw [wg6] at hp6
  try rw [wg7] at hp6
  try rw [wg8] at hp6
  try rw [wg9] at hp6
  try rw [wg10] at hp6
  try rw [wg1] at hp7
  try rw [wg2] at hp7
  try rw [wg3] at hp7
  try rw [wg4] at hp7
  try rw [wg5] at hp7
  try rw [wg6] at hp7
  try rw [wg7] at hp7
  try rw [wg8] at hp7
  try rw [wg9] at hp7
  try rw [wg10] at hp7
  try rw [wg1] at hp8
  try rw [wg2] at hp8
  try rw [wg3] at hp8
  try rw [wg4] at hp8
  try rw [wg5] at hp8
  try rw [wg6] at hp8
  try rw [wg7] at hp8
  try rw [wg8] at hp8
  try rw [wg9] at hp8
  try rw [wg10] at hp8
  try rw [wg1] at hp9
  try rw [wg2] at hp9
  try rw [wg3] at hp9
  try rw [wg4] at hp9
  try rw [wg5] at hp9
  try rw [wg6] at hp9
  try rw [wg7] at hp9
  try rw [wg8] at hp9
  try rw [wg9] at hp9
  try rw [wg10] at hp9
  try rw [wg1] at hp10
  try rw [wg2] at hp10
  try rw [wg3] at hp10
  try rw [wg4] at hp10
  try rw [wg5] at hp10
  try rw [wg6] at hp10
  try rw [wg7] at hp10
  try rw [wg8] at hp10
  try rw [wg9] at hp10
  try rw [wg10] at hp10
  try rw [wg1] at hp11
  try rw [wg2] at hp11
  try rw [wg3] at hp11
  try rw [wg4] at hp11
  try rw [wg5] at hp11
  try rw [wg6] at hp11
  try rw [wg7] at hp11
  try rw [wg8] at hp11
  try rw [wg9] at hp11
  try rw [wg10] at hp11
  try rw [wg1] at hp12
  try rw [wg2] at hp12
  try rw [wg3] at hp12
  try rw [wg4] at hp12
  try rw [wg5] at hp12
  try rw [wg6] at hp12
  try rw [wg7] at hp12
  try rw [wg8] at hp12
  try rw [wg9] at hp12
  try rw [wg10] at hp12
  have z0 : zfx [67, 68, 69, 70, 71, 72, 73, 74, 83, 84, 100, 101, 102, 103, 104] [8, 31, 32, 33, 34, 35, 36, 38] μ μ := zfx_x μ
  refine ⟨rfl, yi_X9_readBounds μ a1 lo P τ p B, ?_, ym_X9_readBounds_0 hg d hd μ Q a1 lo P τ p B r_ha1 r_hp0 r_hp1 r_hp2 r_hp3 r_hp4 r_hp5 r_hp6 r_hp7 r_hp8 r_hp9 r_hp10 r_hp11 r_hp12 hQ, ym_X9_readBounds_79 hg d hd μ Q a1 lo P τ p B r_ha1 r_hp0 r_hp1 r_hp2 r_hp3 r_hp4 r_hp5 r_hp6 r_hp7 r_hp8 r_hp9 r_hp10 r_hp11 r_hp12 hQ, trivial⟩
  · refine Exists.intro (Int.toNat (zrm μ)) ?_
    exact ⟨(fun _ => ⟨_, rfl, z0, ⟨by omega, by omega⟩, (by (try rw [wg1]) <;> (try rw [wg2]) <;> (try rw [wg3]) <;> (try rw [wg4]) <;> (try rw [wg5]) <;> (try rw [wg6]) <;> (try rw [wg7]) <;> (try rw [wg8]) <;> (try rw [wg9]) <;> (try rw [wg10]) <;> omega), (by (try rw [wg1]) <;> (try rw [wg2]) <;> (try rw [wg3]) <;> (try rw [wg4]) <;> (try rw [wg5]) <;> (try rw [wg6]) <;> (try rw [wg7]) <;> (try rw [wg8]) <;> (try rw [wg9]) <;> (try rw [wg10]) <;> omega), rfl, (zTE_r hp1 hp2), hp6, (by (try rw [wg1]) <;> (try rw [wg2]) <;> (try rw [wg3]) <;> (try rw [wg4]) <;> (try rw [wg5]) <;> (try rw [wg6]) <;> (try rw [wg7]) <;> (try rw [wg8]) <;> (try rw [wg9]) <;> (try rw [wg10]) <;> omega), (Or.inl (by (try rw [wg1]) <;> (try rw [wg2]) <;> (try rw [wg3]) <;> (try rw [wg4]) <;> (try rw [wg5]) <;> (try rw [wg6]) <;> (try rw [wg7]) <;> (try rw [wg8]) <;> (try rw [wg9]) <;> (try rw [wg10]) <;> omega)), (Int.le_refl _), (by (try rw [wg1]) <;> (try rw [wg2]) <;> (try rw [wg3]) <;> (try rw [wg4]) <;> (try rw [wg5]) <;> (try rw [wg6]) <;> (try rw [wg7]) <;> (try rw [wg8]) <;> (try rw [wg9]) <;> (try rw [wg10]) <;> omega), (zOt_r μ), ⟨p, B, yR_r τ _, hp8, hp9, ⟨hp11.symm, rfl, rfl⟩, hp12⟩, rfl⟩), (fun h => absurd h (by decide))⟩
