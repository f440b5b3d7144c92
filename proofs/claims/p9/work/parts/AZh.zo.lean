set_option maxHeartbeats 4000000 in
theorem ym_X9_readType_403 {g : zΓ} (hg : zg g) (d : Nat) (hd : 5 ≤ d + 1) (μ : zM) (Q : Option zV → zM → Prop) (a1 : Int) (a2 : Int) (a3 : Int) (lo : Int) (C : Int) (Pn : Int) (F : Int) (cf : Int → Int) (pa : Int) (pe : Int) (τ : yT) (p : Int) (B : yB) (cb : Int) (pb : Int) (ha1 : ((-1) ≤ a1 ∧ a1 ≤ 20)) (ha2 : (0 ≤ a2 ∧ a2 ≤ 4)) (ha3 : (0 ≤ a3 ∧ a3 ≤ 1)) (hp0 : (0 ≤ μ.1 66 ((33 : Nat) : Int) ∧ 0 ≤ μ.1 66 ((34 : Nat) : Int) ∧ μ.1 66 ((33 : Nat) : Int) + μ.1 66 ((34 : Nat) : Int) ≤ μ.1 66 ((31 : Nat) : Int) ∧ μ.1 66 ((31 : Nat) : Int) ≤ μ.1 66 ((30 : Nat) : Int) ∧ μ.1 66 ((30 : Nat) : Int) ≤ 800)) (hp1 : (zND μ lo)) (hp2 : (zWf μ lo (zTop μ) C Pn F cf)) (hp3 : (μ.1 66 ((26 : Nat) : Int) ≤ C ∧ (0 ≤ a1 → μ.1 76 (μ.1 66 ((24 : Nat) : Int) + a1) + μ.1 77 (μ.1 66 ((24 : Nat) : Int) + a1) ≤ Pn) ∧ C ≤ 21 ∧ Pn ≤ 80)) (hp4 : (∀ v : Int, 0 ≤ v → v < C → cf v = μ.1 77 (μ.1 66 ((24 : Nat) : Int) + v))) (hp5 : (μ.1 66 ((8 : Nat) : Int) - μ.1 66 ((38 : Nat) : Int) ≤ 19699 ∧ 0 ≤ μ.1 66 ((38 : Nat) : Int) ∧ μ.1 66 ((38 : Nat) : Int) ≤ 300)) (hp6 : (0 ≤ a1 → pa ≤ μ.1 76 (μ.1 66 ((24 : Nat) : Int) + a1) ∧ μ.1 76 (μ.1 66 ((24 : Nat) : Int) + a1) + μ.1 77 (μ.1 66 ((24 : Nat) : Int) + a1) ≤ pe)) (hp7 : (rLx μ τ p ∧ rNg cb pb μ B)) (hp8 : (yI0 B ∧ a1 = B.1 0 3)) (hp9 : (a2 = B.1 0 4 ∧ a3 = (if B.1 0 5 = 0 then 0 else 1))) (hp10 : (C = B.1 0 0)) (hQ : ∀ (v : Int) (μ' : zM), zfx [67, 68, 69, 70, 71, 72, 73, 74, 100, 101, 102, 103, 104] [8, 31, 32, 33, 34, 35, 36, 38] μ μ' → (-1) ≤ v → v ≤ 19999 → (0 ≤ μ'.1 66 ((33 : Nat) : Int) ∧ 0 ≤ μ'.1 66 ((34 : Nat) : Int) ∧ μ'.1 66 ((33 : Nat) : Int) + μ'.1 66 ((34 : Nat) : Int) ≤ μ'.1 66 ((31 : Nat) : Int) ∧ μ'.1 66 ((31 : Nat) : Int) ≤ μ'.1 66 ((30 : Nat) : Int) ∧ μ'.1 66 ((30 : Nat) : Int) ≤ 800) → (μ'.1 66 ((30 : Nat) : Int) = μ.1 66 ((30 : Nat) : Int)) → (zTE μ μ' lo C Pn F cf) → (0 ≤ μ'.1 66 ((38 : Nat) : Int) ∧ μ'.1 66 ((38 : Nat) : Int) ≤ 300) → (v = -1 ∨ zrm μ' ≤ zrm μ) → (v = -1 ∨ (lo ≤ v ∧ v < zTop μ' ∧ μ'.1 67 v ≤ 1 ∧ (a2 ≤ 1 → μ'.1 67 v = 0) ∧ (a2 = 1 → μ'.1 68 v ≠ a1 ∧ ∀ i : Int, 0 ≤ i → i < μ'.1 69 v → μ'.1 67 (μ'.1 70 (4 * v + i)) ≤ 2) ∧ zPar μ' pa pe v ∧ μ'.1 71 v ≤ zTn μ μ')) → (a3 = 0 ∨ v = -1) → ((v = -1 ∧ rFa τ (10, p, 0, [], B) μ') ∨ (0 ≤ v ∧ ∃ p' n h as, yR τ (10, p, 0, [], B) (14, p', 0, [(0, h, as)], yN B 0 2 n) ∧ rLx μ' τ p' ∧ rNg cb pb μ' (yN B 0 2 n) ∧ rE μ' v (h :: as.flatten))) → Q (some (.inl v)) μ') : ∀ (vs : List zV) (m0 : zM) (n : Nat), yi_X9_readType μ a1 a2 a3 lo C Pn F cf pa pe τ p B cb pb 403 vs m0 n → zw (zOk g d) mt_X9_readType ([(13, [0, 1, 2, 3, 4, 5]), (18, [0, 1, 2, 3, 4, 5]), (111, [0, 1, 2, 3, 4, 5]), (272, [0, 1, 2, 3, 4, 5]), (403, [0, 1, 2, 3, 4, 5])], []) (fun pc' vs' μ'' => ∃ n', n' < n ∧ yi_X9_readType μ a1 a2 a3 lo C Pn F cf pa pe τ p B cb pb pc' vs' μ'' n') Q (fun _ _ => False) 246 true (zsuf 403 mt_X9_readType.2.2.2.2.1) (zzip [0, 1, 2, 3, 4, 5] vs) [] m0 := by
  obtain ⟨g1, wg1⟩ : ∃ z : Int, μ.1 66 ((31 : Nat) : Int) = z := ⟨_, rfl⟩
  obtain ⟨g2, wg2⟩ : ∃ z : Int, μ.1 66 ((30 : Nat) : Int) = z := ⟨_, rfl⟩
  obtain ⟨g3, wg3⟩ : ∃ z : Int, μ.1 66 ((33 : Nat) : Int) = z := ⟨_, rfl⟩
  obtain ⟨g4, wg4⟩ : ∃ z : Int, μ.1 66 ((34 : Nat) : Int) = z := ⟨_, rfl⟩
  obtain ⟨g5, wg5⟩ : ∃ z : Int, μ.1 66 ((32 : Nat) : Int) = z := ⟨_, rfl⟩
  obtain ⟨g6, wg6⟩ : ∃ z : Int, μ.1 66 ((38 : Nat) : Int) = z := ⟨_, rfl⟩
  obtain ⟨g7, wg7⟩ : ∃ z : Int, μ.1 66 ((8 : Nat) : Int) = z := ⟨_, rfl⟩
  try rw [wg1] at hp0
  try rw [wg2] at hp0
  try rw [wg3] at hp0
  try rw [wg4] at hp0
  try rw [wg5] at hp0
  try rw [wg6] at hp0
  try rw [wg7] at hp0
  try rw [wg1] at hp1
  try rw [wg2] at hp1
  try rw [wg3] at hp1
  try rw [wg4] at hp1
  try rw [wg5] at hp1
  try rw [wg6] at hp1
  try rw [wg7] at hp1
  try rw [wg1] at hp2
  try rw [wg2] at hp2
  try rw [wg3] at hp2
  try rw [wg4] at hp2
  try rw [wg5] at hp2
  try rw [wg6] at hp2
  try rw [wg7] at hp2
  try rw [wg1] at hp3
  try rw [wg2] at hp3
  try rw [wg3] at hp3
  try rw [wg4] at hp3
  try rw [wg5] at hp3
  try rw [wg6] at hp3
  try rw [wg7] at hp3
  try rw [wg1] at hp4
  try rw [wg2] at hp4
  try rw [wg3] at hp4
  try rw [wg4] at hp4
  try rw [wg5] at hp4
  try rw [wg6] at hp4
  try rw [wg7] at hp4
  try rw [wg1] at hp5
  try rw [wg2] at hp5
  try rw [wg3] at hp5
  try rw [wg4] at hp5
  try rw [wg5] at hp5
  try rw [wg6] at hp5
  try rw [wg7] at hp5
  try rw [wg1] at hp6
  try rw [wg2] at hp6
  try rw [wg3] at hp6
  try rw [wg4] at hp6
  try rw [wg5] at hp6
  try rw [wg6] at hp6
  try rw [wg7] at hp6
  try rw [wg1] at hp7
  try rw [wg2] at hp7
  try rw [wg3] at hp7
  try rw [wg4] at hp7
  try rw [wg5] at hp7
  try rw [wg6] at hp7
  try rw [wg7] at hp7
  try rw [wg1] at hp8
  try rw [wg2] at hp8
  try rw [wg3] at hp8
  try rw [wg4] at hp8
  try rw [wg5] at hp8
  try rw [wg6] at hp8
  try rw [wg7] at hp8
  try rw [wg1] at hp9
  try rw [wg2] at hp9
  try rw [wg3] at hp9
  try rw [wg4] at hp9
  try rw [wg5] at hp9
  try rw [wg6] at hp9
  try rw [wg7] at hp9
  try rw [wg1] at hp10
  try rw [wg2] at hp10
  try rw [wg3] at hp10
  try rw [wg4] at hp10
  try rw [wg5] at hp10
  try rw [wg6] at hp10
  try rw [wg7] at hp10
  have z0 : zfx [67, 68, 69, 70, 71, 72, 73, 74, 100, 101, 102, 103, 104] [8, 31, 32, 33, 34, 35, 36, 38] μ μ := zfx_x μ
  intro vs m0 n hI
  replace hI := hI.2.2.2.2 rfl
  clear z0
  obtain ⟨v1, v2, v3, v4, v5, rfl, z0, hv1, hv2, hv3, hv4, hv5, i0, i1, i2, i3, i4, i5, i6, i7, i8, i9, i10, rfl⟩ := hI
  obtain ⟨j1, j2, j3⟩ := i0
  subst j1 j2 j3
  have vne : v5 ≠ 0 := by omega
  obtain ⟨g568, wg568⟩ : ∃ z : Int, m0.1 66 ((31 : Nat) : Int) = z := ⟨_, rfl⟩
  obtain ⟨g569, wg569⟩ : ∃ z : Int, m0.1 66 ((30 : Nat) : Int) = z := ⟨_, rfl⟩
  obtain ⟨g570, wg570⟩ : ∃ z : Int, m0.1 66 ((33 : Nat) : Int) = z := ⟨_, rfl⟩
  obtain ⟨g571, wg571⟩ : ∃ z : Int, m0.1 66 ((34 : Nat) : Int) = z := ⟨_, rfl⟩
  obtain ⟨g572, wg572⟩ : ∃ z : Int, m0.1 66 ((32 : Nat) : Int) = z := ⟨_, rfl⟩
  obtain ⟨g573, wg573⟩ : ∃ z : Int, m0.1 66 ((38 : Nat) : Int) = z := ⟨_, rfl⟩
  obtain ⟨g574, wg574⟩ : ∃ z : Int, m0.1 66 ((8 : Nat) : Int) = z := ⟨_, rfl⟩
  try rw [wg568] at i0
  try rw [wg569] at i0
  try rw [wg570] at i0
  try rw [wg571] at i0
  try rw [wg572] at i0
  try rw [wg573] at i0
  try rw [wg574] at i0
  try rw [wg1] at i0
  try rw [wg2] at i0
  try rw [wg3] at i0
  try rw [wg4] at i0
  try rw [wg5] at i0
  try rw [wg6] at i0
  try rw [wg7] at i0
  try rw [wg568] at i1
  try rw [wg569] at i1
  try rw [wg570] at i1
  try rw [wg571] at i1
  try rw [wg572] at i1
  try rw [wg573] at i1
  try rw [wg574] at i1
  try rw [wg1] at i1
  try rw [wg2] at i1
  try rw [wg3] at i1
  try rw [wg4] at i1
  try rw [wg5] at i1
  try rw [wg6] at i1
  try rw [wg7] at i1
  try rw [wg568] at i2
  try rw [wg569] at i2
  try rw [wg570] at i2
  try rw [wg571] at i2
  try rw [wg572] at i2
  try rw [wg573] at i2
  try rw [wg574] at i2
  try rw [wg1] at i2
  try rw [wg2] at i2
  try rw [wg3] at i2
  try rw [wg4] at i2
  try rw [wg5] at i2
  try rw [wg6] at i2
  try rw [wg7] at i2
  try rw [wg568] at i3
  try rw [wg569] at i3
  try rw [wg570] at i3
  try rw [wg571] at i3
  try rw [wg572] at i3
  try rw [wg573] at i3
  try rw [wg574] at i3
  try rw [wg1] at i3
  try rw [wg2] at i3
  try rw [wg3] at i3
  try rw [wg4] at i3
  try rw [wg5] at i3
  try rw [wg6] at i3
  try rw [wg7] at i3
  try rw [wg568] at i4
  try rw [wg569] at i4
  try rw [wg570] at i4
  try rw [wg571] at i4
  try rw [wg572] at i4
  try rw [wg573] at i4
  try rw [wg574] at i4
  try rw [wg1] at i4
  try rw [wg2] at i4
  try rw [wg3] at i4
  try rw [wg4] at i4
  try rw [wg5] at i4
  try rw [wg6] at i4
  try rw [wg7] at i4
  try rw [wg568] at i5
  try rw [wg569] at i5
  try rw [wg570] at i5
  try rw [wg571] at i5
  try rw [wg572] at i5
  try rw [wg573] at i5
  try rw [wg574] at i5
  try rw [wg1] at i5
  try rw [wg2] at i5
  try rw [wg3] at i5
  try rw [wg4] at i5
  try rw [wg5] at i5
  try rw [wg6] at i5
  try rw [wg7] at i5
  try rw [wg568] at i6
  try rw [wg569] at i6
  try rw [wg570] at i6
  try rw [wg571] at i6
  try rw [wg572] at i6
  try rw [wg573] at i6
  try rw [wg574] at i6
  try rw [wg1] at i6
  try rw [wg2] at i6
  try rw [wg3] at i6
  try rw [wg4] at i6
  try rw [wg5] at i6
  try rw [wg6] at i6
  try rw [wg7] at i6
  try rw [wg568] at i7
  try rw [wg569] at i7
  try rw [wg570] at i7
  try rw [wg571] at i7
  try rw [wg572] at i7
  try rw [wg573] at i7
  try rw [wg574] at i7
  try rw [wg1] at i7
  try rw [wg2] at i7
  try rw [wg3] at i7
  try rw [wg4] at i7
  try rw [wg5] at i7
  try rw [wg6] at i7
  try rw [wg7] at i7
  try rw [wg568] at i8
  try rw [wg569] at i8
  try rw [wg570] at i8
  try rw [wg571] at i8
  try rw [wg572] at i8
  try rw [wg573] at i8
  try rw [wg574] at i8
  try rw [wg1] at i8
  try rw [wg2] at i8
  try rw [wg3] at i8
  try rw [wg4] at i8
  try rw [wg5] at i8
  try rw [wg6] at i8
  try rw [wg7] at i8
  try rw [wg568] at i9
  try rw [wg569] at i9
  try rw [wg570] at i9
  try rw [wg571] at i9
  try rw [wg572] at i9
  try rw [wg573] at i9
  try rw [wg574] at i9
  try rw [wg1] at i9
  try rw [wg2] at i9
  try rw [wg3] at i9
  try rw [wg4] at i9
  try rw [wg5] at i9
  try rw [wg6] at i9
  try rw [wg7] at i9
  try rw [wg568] at i10
  try rw [wg569] at i10
  try rw [wg570] at i10
  try rw [wg571] at i10
  try rw [wg572] at i10
  try rw [wg573] at i10
  try rw [wg574] at i10
  try rw [wg1] at i10
  try rw [wg2] at i10
  try rw [wg3] at i10
  try rw [wg4] at i10
  try rw [wg5] at i10
  try rw [wg6] at i10
  try rw [wg7] at i10
  have T575 := i3.2 (by assumption)
  have O576 := i4 (by omega)
  have V3 : v3 = 0 := by omega
  clear i3 i4 i8
  obtain ⟨p0, n0, fr, L0, N0, S0, R0, D0⟩ := (rend i9).2.2.2 (by omega)
  clear i9
  have BV := rBv B n0
  have KK0 := rLx_k L0
  rw [wg572] at KK0
  have ZW0 : rW m0 := T575.1.1.2.1
  have N38 : g573 = n0 := by have h0 := N0.1.2.2.2.2.1; rw [BV.2.1, wg573] at h0; exact h0
  obtain ⟨f, r, rfl, D1⟩ := rfr D0 hv4.1
  intro x577 hx577 kx577 lx577
  rw [wg572] at hx577
  refine And.intro ⟨⟨by omega, by omega⟩, ⟨by omega, by omega⟩⟩ (And.intro (fun c578 => ?_) (fun c578 => ?_))
  · intro x579 hx579 kx579 lx579
    rw [wg572] at hx579
    refine And.intro ⟨⟨by omega, by omega⟩, ⟨by omega, by omega⟩⟩ (And.intro (fun c580 => ?_) (fun c580 => ?_))
    · exfalso; omega
    · refine ⟨yk_X9_pass, ym_X9_pass hg d (by omega), rfl, (by (try rw [wg568]) <;> (try rw [wg569]) <;> (try rw [wg570]) <;> (try rw [wg571]) <;> (try rw [wg572]) <;> (try rw [wg573]) <;> (try rw [wg574]) <;> (try rw [wg1]) <;> (try rw [wg2]) <;> (try rw [wg3]) <;> (try rw [wg4]) <;> (try rw [wg5]) <;> (try rw [wg6]) <;> (try rw [wg7]) <;> omega), ?_⟩
      intro m581 qm581 p582 p583 p584 p585 p586
      have z587 := zfx_t z0 qm581 rfl rfl
      have w588 : m581.1 66 ((30 : Nat) : Int) = g569 := (qm581.2.1 30 rfl).trans wg569
      have w589 : m581.1 66 ((38 : Nat) : Int) = g573 := (qm581.2.1 38 rfl).trans wg573
      have w590 : m581.1 66 ((8 : Nat) : Int) = g574 := (qm581.2.1 8 rfl).trans wg574
      obtain ⟨g591, wg591⟩ : ∃ z : Int, m581.1 66 ((31 : Nat) : Int) = z := ⟨_, rfl⟩
      obtain ⟨g592, wg592⟩ : ∃ z : Int, m581.1 66 ((33 : Nat) : Int) = z := ⟨_, rfl⟩
      obtain ⟨g593, wg593⟩ : ∃ z : Int, m581.1 66 ((34 : Nat) : Int) = z := ⟨_, rfl⟩
      obtain ⟨g594, wg594⟩ : ∃ z : Int, m581.1 66 ((32 : Nat) : Int) = z := ⟨_, rfl⟩
      try rw [wg591] at p582
      try rw [w588] at p582
      try rw [wg592] at p582
      try rw [wg593] at p582
      try rw [wg594] at p582
      try rw [w589] at p582
      try rw [w590] at p582
      try rw [wg568] at p582
      try rw [wg569] at p582
      try rw [wg570] at p582
      try rw [wg571] at p582
      try rw [wg572] at p582
      try rw [wg573] at p582
      try rw [wg574] at p582
      try rw [wg1] at p582
      try rw [wg2] at p582
      try rw [wg3] at p582
      try rw [wg4] at p582
      try rw [wg5] at p582
      try rw [wg6] at p582
      try rw [wg7] at p582
      try rw [wg591] at p583
      try rw [w588] at p583
      try rw [wg592] at p583
      try rw [wg593] at p583
      try rw [wg594] at p583
      try rw [w589] at p583
      try rw [w590] at p583
      try rw [wg568] at p583
      try rw [wg569] at p583
      try rw [wg570] at p583
      try rw [wg571] at p583
      try rw [wg572] at p583
      try rw [wg573] at p583
      try rw [wg574] at p583
      try rw [wg1] at p583
      try rw [wg2] at p583
      try rw [wg3] at p583
      try rw [wg4] at p583
      try rw [wg5] at p583
      try rw [wg6] at p583
      try rw [wg7] at p583
      try rw [wg591] at p584
      try rw [w588] at p584
      try rw [wg592] at p584
      try rw [wg593] at p584
      try rw [wg594] at p584
      try rw [w589] at p584
      try rw [w590] at p584
      try rw [wg568] at p584
      try rw [wg569] at p584
      try rw [wg570] at p584
      try rw [wg571] at p584
      try rw [wg572] at p584
      try rw [wg573] at p584
      try rw [wg574] at p584
      try rw [wg1] at p584
      try rw [wg2] at p584
      try rw [wg3] at p584
      try rw [wg4] at p584
      try rw [wg5] at p584
      try rw [wg6] at p584
      try rw [wg7] at p584
      try rw [wg591] at p585
      try rw [w588] at p585
      try rw [wg592] at p585
      try rw [wg593] at p585
      try rw [wg594] at p585
      try rw [w589] at p585
      try rw [w590] at p585
      try rw [wg568] at p585
      try rw [wg569] at p585
      try rw [wg570] at p585
      try rw [wg571] at p585
      try rw [wg572] at p585
      try rw [wg573] at p585
      try rw [wg574] at p585
      try rw [wg1] at p585
      try rw [wg2] at p585
      try rw [wg3] at p585
      try rw [wg4] at p585
      try rw [wg5] at p585
      try rw [wg6] at p585
      try rw [wg7] at p585
      have T595 := zTI_fr0 T575 (fun j a b => qm581.1 j (by omega) (zanyF (by simp <;> omega))) (fun j a b => qm581.1 j (by omega) (zanyF (by simp <;> omega))) (qm581.2.1 8 rfl) (qm581.2.1 38 rfl)
      have O596 : m581.1 100 v4 = 0 := by rw [qm581.1 100 (by decide) rfl]; exact O576
      have L1 := rLx_p L0 (qm581.1 85 (by decide) rfl) (qm581.2.1 30 rfl) p586
      have N1 := rNu_z N0 qm581 ⟨rfl, rfl, rfl, rfl, rfl, rfl⟩ ⟨rfl, rfl, rfl, rfl, rfl, rfl⟩
      obtain ⟨S1, ZW1⟩ := rFs_q S0 qm581 rfl rfl ZW0
      have R1 := yR_s R0 (ym13_c (by omega))
      refine Exists.intro (2 * zrT m581 1 + 1) (And.intro (zrd2 (zrT_lt (by unfold zrm; simp only [wg591, w588, wg592, wg593, wg594, w589, w590, wg568, wg569, wg570, wg571, wg572, wg573, wg574, wg1, wg2, wg3, wg4, wg5, wg6, wg7]; (repeat' split) <;> omega) (zrm_0 (by (try rw [wg591]) <;> (try rw [w588]) <;> (try rw [wg592]) <;> (try rw [wg593]) <;> (try rw [wg594]) <;> (try rw [w589]) <;> (try rw [w590]) <;> (try rw [wg568]) <;> (try rw [wg569]) <;> (try rw [wg570]) <;> (try rw [wg571]) <;> (try rw [wg572]) <;> (try rw [wg573]) <;> (try rw [wg574]) <;> (try rw [wg1]) <;> (try rw [wg2]) <;> (try rw [wg3]) <;> (try rw [wg4]) <;> (try rw [wg5]) <;> (try rw [wg6]) <;> (try rw [wg7]) <;> omega)))) ?_)
      exact ⟨(fun _ => ⟨_, _, _, _, _, rfl, z587, ⟨by omega, by omega⟩, ⟨by omega, by omega⟩, ⟨by omega, by omega⟩, ⟨by omega, by omega⟩, ⟨by omega, by omega⟩, ⟨rfl, rfl, rfl⟩, (by (try rw [wg591]) <;> (try rw [w588]) <;> (try rw [wg592]) <;> (try rw [wg593]) <;> (try rw [wg594]) <;> (try rw [w589]) <;> (try rw [w590]) <;> (try rw [wg568]) <;> (try rw [wg569]) <;> (try rw [wg570]) <;> (try rw [wg571]) <;> (try rw [wg572]) <;> (try rw [wg573]) <;> (try rw [wg574]) <;> (try rw [wg1]) <;> (try rw [wg2]) <;> (try rw [wg3]) <;> (try rw [wg4]) <;> (try rw [wg5]) <;> (try rw [wg6]) <;> (try rw [wg7]) <;> omega), (by (try rw [wg591]) <;> (try rw [w588]) <;> (try rw [wg592]) <;> (try rw [wg593]) <;> (try rw [wg594]) <;> (try rw [w589]) <;> (try rw [w590]) <;> (try rw [wg568]) <;> (try rw [wg569]) <;> (try rw [wg570]) <;> (try rw [wg571]) <;> (try rw [wg572]) <;> (try rw [wg573]) <;> (try rw [wg574]) <;> (try rw [wg1]) <;> (try rw [wg2]) <;> (try rw [wg3]) <;> (try rw [wg4]) <;> (try rw [wg5]) <;> (try rw [wg6]) <;> (try rw [wg7]) <;> omega), ⟨fun h => absurd h (by decide), fun _ => T595⟩, (fun h => O596), (Or.inr (by omega)), (by have h6 := i6; unfold zrm at h6 ⊢; simp only [wg591, w588, wg592, wg593, wg594, w589, w590, wg568, wg569, wg570, wg571, wg572, wg573, wg574, wg1, wg2, wg3, wg4, wg5, wg6, wg7] at h6 ⊢; (repeat' split at h6) <;> (repeat' split) <;> omega), (by (try rw [wg591]) <;> (try rw [w588]) <;> (try rw [wg592]) <;> (try rw [wg593]) <;> (try rw [wg594]) <;> (try rw [w589]) <;> (try rw [w590]) <;> (try rw [wg568]) <;> (try rw [wg569]) <;> (try rw [wg570]) <;> (try rw [wg571]) <;> (try rw [wg572]) <;> (try rw [wg573]) <;> (try rw [wg574]) <;> (try rw [wg1]) <;> (try rw [wg2]) <;> (try rw [wg3]) <;> (try rw [wg4]) <;> (try rw [wg5]) <;> (try rw [wg6]) <;> (try rw [wg7]) <;> omega), (Or.inr V3), ⟨_, _, _, L1, N1, S1, Or.inr (Or.inl ⟨rfl, R1, D0⟩)⟩, rfl⟩), (fun h => absurd h (by decide)), (fun h => absurd h (by decide)), (fun h => absurd h (by decide)), (fun h => absurd h (by decide))⟩
  · have nc578 : yNe x577 44 := c578
    clear c578
    intro x597 hx597 kx597 lx597
    rw [wg572] at hx597
    refine And.intro ⟨⟨by omega, by omega⟩, ⟨by omega, by omega⟩⟩ (And.intro (fun c598 => ?_) (fun c598 => ?_))
    · intro x599 hx599 kx599 lx599
      rw [wg572] at hx599
      refine And.intro ⟨⟨by omega, by omega⟩, ⟨by omega, by omega⟩⟩ (And.intro (fun c600 => ?_) (fun c600 => ?_))
      · clear c600
        refine ⟨yk_X9_pass, ym_X9_pass hg d (by omega), rfl, (by (try rw [wg568]) <;> (try rw [wg569]) <;> (try rw [wg570]) <;> (try rw [wg571]) <;> (try rw [wg572]) <;> (try rw [wg573]) <;> (try rw [wg574]) <;> (try rw [wg1]) <;> (try rw [wg2]) <;> (try rw [wg3]) <;> (try rw [wg4]) <;> (try rw [wg5]) <;> (try rw [wg6]) <;> (try rw [wg7]) <;> omega), ?_⟩
        intro m601 qm601 p602 p603 p604 p605 p606
        have z607 := zfx_t z0 qm601 rfl rfl
        have w608 : m601.1 66 ((30 : Nat) : Int) = g569 := (qm601.2.1 30 rfl).trans wg569
        have w609 : m601.1 66 ((38 : Nat) : Int) = g573 := (qm601.2.1 38 rfl).trans wg573
        have w610 : m601.1 66 ((8 : Nat) : Int) = g574 := (qm601.2.1 8 rfl).trans wg574
        obtain ⟨g611, wg611⟩ : ∃ z : Int, m601.1 66 ((31 : Nat) : Int) = z := ⟨_, rfl⟩
        obtain ⟨g612, wg612⟩ : ∃ z : Int, m601.1 66 ((33 : Nat) : Int) = z := ⟨_, rfl⟩
        obtain ⟨g613, wg613⟩ : ∃ z : Int, m601.1 66 ((34 : Nat) : Int) = z := ⟨_, rfl⟩
        obtain ⟨g614, wg614⟩ : ∃ z : Int, m601.1 66 ((32 : Nat) : Int) = z := ⟨_, rfl⟩
        try rw [wg611] at p602
        try rw [w608] at p602
        try rw [wg612] at p602
        try rw [wg613] at p602
        try rw [wg614] at p602
        try rw [w609] at p602
        try rw [w610] at p602
        try rw [wg568] at p602
        try rw [wg569] at p602
        try rw [wg570] at p602
        try rw [wg571] at p602
        try rw [wg572] at p602
        try rw [wg573] at p602
        try rw [wg574] at p602
        try rw [wg1] at p602
        try rw [wg2] at p602
        try rw [wg3] at p602
        try rw [wg4] at p602
        try rw [wg5] at p602
        try rw [wg6] at p602
        try rw [wg7] at p602
        try rw [wg611] at p603
        try rw [w608] at p603
        try rw [wg612] at p603
        try rw [wg613] at p603
        try rw [wg614] at p603
        try rw [w609] at p603
        try rw [w610] at p603
        try rw [wg568] at p603
        try rw [wg569] at p603
        try rw [wg570] at p603
        try rw [wg571] at p603
        try rw [wg572] at p603
        try rw [wg573] at p603
        try rw [wg574] at p603
        try rw [wg1] at p603
        try rw [wg2] at p603
        try rw [wg3] at p603
        try rw [wg4] at p603
        try rw [wg5] at p603
        try rw [wg6] at p603
        try rw [wg7] at p603
        try rw [wg611] at p604
        try rw [w608] at p604
        try rw [wg612] at p604
        try rw [wg613] at p604
        try rw [wg614] at p604
        try rw [w609] at p604
        try rw [w610] at p604
        try rw [wg568] at p604
        try rw [wg569] at p604
        try rw [wg570] at p604
        try rw [wg571] at p604
        try rw [wg572] at p604
        try rw [wg573] at p604
        try rw [wg574] at p604
        try rw [wg1] at p604
        try rw [wg2] at p604
        try rw [wg3] at p604
        try rw [wg4] at p604
        try rw [wg5] at p604
        try rw [wg6] at p604
        try rw [wg7] at p604
        try rw [wg611] at p605
        try rw [w608] at p605
        try rw [wg612] at p605
        try rw [wg613] at p605
        try rw [wg614] at p605
        try rw [w609] at p605
        try rw [w610] at p605
        try rw [wg568] at p605
        try rw [wg569] at p605
        try rw [wg570] at p605
        try rw [wg571] at p605
        try rw [wg572] at p605
        try rw [wg573] at p605
        try rw [wg574] at p605
        try rw [wg1] at p605
        try rw [wg2] at p605
        try rw [wg3] at p605
        try rw [wg4] at p605
        try rw [wg5] at p605
        try rw [wg6] at p605
        try rw [wg7] at p605
        have T615 := zTI_fr0 T575 (fun j a b => qm601.1 j (by omega) (zanyF (by simp <;> omega))) (fun j a b => qm601.1 j (by omega) (zanyF (by simp <;> omega))) (qm601.2.1 8 rfl) (qm601.2.1 38 rfl)
        have O616 : m601.1 100 v4 = 0 := by rw [qm601.1 100 (by decide) rfl]; exact O576
        have L1 := rLx_p L0 (qm601.1 85 (by decide) rfl) (qm601.2.1 30 rfl) p606
        have N1 := rNu_z N0 qm601 ⟨rfl, rfl, rfl, rfl, rfl, rfl⟩ ⟨rfl, rfl, rfl, rfl, rfl, rfl⟩
        obtain ⟨S1, ZW1⟩ := rFs_q S0 qm601 rfl rfl ZW0
        have R1 := yR_s R0 (ym13_g (by omega))
        refine Exists.intro (2 * zrT m601 2 + 1) (And.intro (zrd2 (zrT_lt (by unfold zrm; simp only [wg611, w608, wg612, wg613, wg614, w609, w610, wg568, wg569, wg570, wg571, wg572, wg573, wg574, wg1, wg2, wg3, wg4, wg5, wg6, wg7]; (repeat' split) <;> omega) (zrm_0 (by (try rw [wg611]) <;> (try rw [w608]) <;> (try rw [wg612]) <;> (try rw [wg613]) <;> (try rw [wg614]) <;> (try rw [w609]) <;> (try rw [w610]) <;> (try rw [wg568]) <;> (try rw [wg569]) <;> (try rw [wg570]) <;> (try rw [wg571]) <;> (try rw [wg572]) <;> (try rw [wg573]) <;> (try rw [wg574]) <;> (try rw [wg1]) <;> (try rw [wg2]) <;> (try rw [wg3]) <;> (try rw [wg4]) <;> (try rw [wg5]) <;> (try rw [wg6]) <;> (try rw [wg7]) <;> omega)))) ?_)
        exact ⟨(fun _ => ⟨_, _, _, _, _, rfl, z607, ⟨by omega, by omega⟩, ⟨by omega, by omega⟩, ⟨by omega, by omega⟩, ⟨by omega, by omega⟩, ⟨by omega, by omega⟩, ⟨rfl, rfl, rfl⟩, (by (try rw [wg611]) <;> (try rw [w608]) <;> (try rw [wg612]) <;> (try rw [wg613]) <;> (try rw [wg614]) <;> (try rw [w609]) <;> (try rw [w610]) <;> (try rw [wg568]) <;> (try rw [wg569]) <;> (try rw [wg570]) <;> (try rw [wg571]) <;> (try rw [wg572]) <;> (try rw [wg573]) <;> (try rw [wg574]) <;> (try rw [wg1]) <;> (try rw [wg2]) <;> (try rw [wg3]) <;> (try rw [wg4]) <;> (try rw [wg5]) <;> (try rw [wg6]) <;> (try rw [wg7]) <;> omega), (by (try rw [wg611]) <;> (try rw [w608]) <;> (try rw [wg612]) <;> (try rw [wg613]) <;> (try rw [wg614]) <;> (try rw [w609]) <;> (try rw [w610]) <;> (try rw [wg568]) <;> (try rw [wg569]) <;> (try rw [wg570]) <;> (try rw [wg571]) <;> (try rw [wg572]) <;> (try rw [wg573]) <;> (try rw [wg574]) <;> (try rw [wg1]) <;> (try rw [wg2]) <;> (try rw [wg3]) <;> (try rw [wg4]) <;> (try rw [wg5]) <;> (try rw [wg6]) <;> (try rw [wg7]) <;> omega), ⟨fun h => absurd h (by decide), fun _ => T615⟩, (fun h => absurd h (by decide)), (Or.inr (by omega)), (by have h6 := i6; unfold zrm at h6 ⊢; simp only [wg611, w608, wg612, wg613, wg614, w609, w610, wg568, wg569, wg570, wg571, wg572, wg573, wg574, wg1, wg2, wg3, wg4, wg5, wg6, wg7] at h6 ⊢; (repeat' split at h6) <;> (repeat' split) <;> omega), (by (try rw [wg611]) <;> (try rw [w608]) <;> (try rw [wg612]) <;> (try rw [wg613]) <;> (try rw [wg614]) <;> (try rw [w609]) <;> (try rw [w610]) <;> (try rw [wg568]) <;> (try rw [wg569]) <;> (try rw [wg570]) <;> (try rw [wg571]) <;> (try rw [wg572]) <;> (try rw [wg573]) <;> (try rw [wg574]) <;> (try rw [wg1]) <;> (try rw [wg2]) <;> (try rw [wg3]) <;> (try rw [wg4]) <;> (try rw [wg5]) <;> (try rw [wg6]) <;> (try rw [wg7]) <;> omega), (Or.inr V3), ⟨_, _, _, L1, N1, S1, Or.inr (Or.inr (Or.inl ⟨rfl, R1, D0⟩))⟩, rfl⟩), (fun h => absurd h (by decide)), (fun h => absurd h (by decide)), (fun h => absurd h (by decide)), (fun h => absurd h (by decide))⟩
      · exfalso; omega
    · have nc598 : yNe x597 62 := c598
      clear c598
      refine ⟨yk_X9_fail, ym_X9_fail hg d (by omega), _, rfl, ⟨by omega, by omega⟩, ?_⟩
      intro x617 m618 qm618 kx617 lx617 p619
      have z620 := zfx_t z0 qm618 rfl rfl
      have w621 : m618.1 66 ((31 : Nat) : Int) = g568 := (qm618.2.1 31 rfl).trans wg568
      have w622 : m618.1 66 ((30 : Nat) : Int) = g569 := (qm618.2.1 30 rfl).trans wg569
      have w623 : m618.1 66 ((33 : Nat) : Int) = g570 := (qm618.2.1 33 rfl).trans wg570
      have w624 : m618.1 66 ((34 : Nat) : Int) = g571 := (qm618.2.1 34 rfl).trans wg571
      have w625 : m618.1 66 ((32 : Nat) : Int) = g572 := (qm618.2.1 32 rfl).trans wg572
      have w626 : m618.1 66 ((38 : Nat) : Int) = g573 := (qm618.2.1 38 rfl).trans wg573
      have w627 : m618.1 66 ((8 : Nat) : Int) = g574 := (qm618.2.1 8 rfl).trans wg574
      exact And.intro trivial (And.intro ⟨by omega, by omega⟩ (hQ _ _ z620 (by omega) (by omega) (by (try rw [w621]) <;> (try rw [w622]) <;> (try rw [w623]) <;> (try rw [w624]) <;> (try rw [w625]) <;> (try rw [w626]) <;> (try rw [w627]) <;> (try rw [wg568]) <;> (try rw [wg569]) <;> (try rw [wg570]) <;> (try rw [wg571]) <;> (try rw [wg572]) <;> (try rw [wg573]) <;> (try rw [wg574]) <;> (try rw [wg1]) <;> (try rw [wg2]) <;> (try rw [wg3]) <;> (try rw [wg4]) <;> (try rw [wg5]) <;> (try rw [wg6]) <;> (try rw [wg7]) <;> omega) (by (try rw [w621]) <;> (try rw [w622]) <;> (try rw [w623]) <;> (try rw [w624]) <;> (try rw [w625]) <;> (try rw [w626]) <;> (try rw [w627]) <;> (try rw [wg568]) <;> (try rw [wg569]) <;> (try rw [wg570]) <;> (try rw [wg571]) <;> (try rw [wg572]) <;> (try rw [wg573]) <;> (try rw [wg574]) <;> (try rw [wg1]) <;> (try rw [wg2]) <;> (try rw [wg3]) <;> (try rw [wg4]) <;> (try rw [wg5]) <;> (try rw [wg6]) <;> (try rw [wg7]) <;> omega) (zTE_fr (zTE_of T575 (by omega) (by have := zwb_nn m0 v4; omega)) (fun j a b => qm618.1 j (by omega) (zanyF (by simp <;> omega))) (qm618.2.1 8 rfl) (by (try rw [w621]) <;> (try rw [w622]) <;> (try rw [w623]) <;> (try rw [w624]) <;> (try rw [w625]) <;> (try rw [w626]) <;> (try rw [w627]) <;> (try rw [wg568]) <;> (try rw [wg569]) <;> (try rw [wg570]) <;> (try rw [wg571]) <;> (try rw [wg572]) <;> (try rw [wg573]) <;> (try rw [wg574]) <;> (try rw [wg1]) <;> (try rw [wg2]) <;> (try rw [wg3]) <;> (try rw [wg4]) <;> (try rw [wg5]) <;> (try rw [wg6]) <;> (try rw [wg7]) <;> omega)) (by (try rw [w621]) <;> (try rw [w622]) <;> (try rw [w623]) <;> (try rw [w624]) <;> (try rw [w625]) <;> (try rw [w626]) <;> (try rw [w627]) <;> (try rw [wg568]) <;> (try rw [wg569]) <;> (try rw [wg570]) <;> (try rw [wg571]) <;> (try rw [wg572]) <;> (try rw [wg573]) <;> (try rw [wg574]) <;> (try rw [wg1]) <;> (try rw [wg2]) <;> (try rw [wg3]) <;> (try rw [wg4]) <;> (try rw [wg5]) <;> (try rw [wg6]) <;> (try rw [wg7]) <;> omega) (Or.inl rfl) (Or.inl rfl) (by omega) (Or.inl ⟨rfl, rFa_t R0 (rFa_f L0 N0.1.2.2.2.2.2 (yR_s (yR_r τ _) (ym13_2 (fun h0 => nc578 (by omega)) (fun h0 => nc598 (by omega)))) p619)⟩)))
