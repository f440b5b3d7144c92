set_option maxHeartbeats 4000000 in
theorem ym_X9_readType_272 {g : zΓ} (hg : zg g) (d : Nat) (hd : 5 ≤ d + 1) (μ : zM) (Q : Option zV → zM → Prop) (a1 : Int) (a2 : Int) (a3 : Int) (lo : Int) (C : Int) (Pn : Int) (F : Int) (cf : Int → Int) (pa : Int) (pe : Int) (τ : yT) (p : Int) (B : yB) (cb : Int) (pb : Int) (ha1 : ((-1) ≤ a1 ∧ a1 ≤ 20)) (ha2 : (0 ≤ a2 ∧ a2 ≤ 4)) (ha3 : (0 ≤ a3 ∧ a3 ≤ 1)) (hp0 : (0 ≤ μ.1 66 ((33 : Nat) : Int) ∧ 0 ≤ μ.1 66 ((34 : Nat) : Int) ∧ μ.1 66 ((33 : Nat) : Int) + μ.1 66 ((34 : Nat) : Int) ≤ μ.1 66 ((31 : Nat) : Int) ∧ μ.1 66 ((31 : Nat) : Int) ≤ μ.1 66 ((30 : Nat) : Int) ∧ μ.1 66 ((30 : Nat) : Int) ≤ 800)) (hp1 : (zND μ lo)) (hp2 : (zWf μ lo (zTop μ) C Pn F cf)) (hp3 : (μ.1 66 ((26 : Nat) : Int) ≤ C ∧ (0 ≤ a1 → μ.1 76 (μ.1 66 ((24 : Nat) : Int) + a1) + μ.1 77 (μ.1 66 ((24 : Nat) : Int) + a1) ≤ Pn) ∧ C ≤ 21 ∧ Pn ≤ 80)) (hp4 : (∀ v : Int, 0 ≤ v → v < C → cf v = μ.1 77 (μ.1 66 ((24 : Nat) : Int) + v))) (hp5 : (μ.1 66 ((8 : Nat) : Int) - μ.1 66 ((38 : Nat) : Int) ≤ 19699 ∧ 0 ≤ μ.1 66 ((38 : Nat) : Int) ∧ μ.1 66 ((38 : Nat) : Int) ≤ 300)) (hp6 : (0 ≤ a1 → pa ≤ μ.1 76 (μ.1 66 ((24 : Nat) : Int) + a1) ∧ μ.1 76 (μ.1 66 ((24 : Nat) : Int) + a1) + μ.1 77 (μ.1 66 ((24 : Nat) : Int) + a1) ≤ pe)) (hp7 : (rLx μ τ p ∧ rNg cb pb μ B)) (hp8 : (yI0 B ∧ a1 = B.1 0 3)) (hp9 : (a2 = B.1 0 4 ∧ a3 = (if B.1 0 5 = 0 then 0 else 1))) (hp10 : (C = B.1 0 0)) (hQ : ∀ (v : Int) (μ' : zM), zfx [67, 68, 69, 70, 71, 72, 73, 74, 100, 101, 102, 103, 104] [8, 31, 32, 33, 34, 35, 36, 38] μ μ' → (-1) ≤ v → v ≤ 19999 → (0 ≤ μ'.1 66 ((33 : Nat) : Int) ∧ 0 ≤ μ'.1 66 ((34 : Nat) : Int) ∧ μ'.1 66 ((33 : Nat) : Int) + μ'.1 66 ((34 : Nat) : Int) ≤ μ'.1 66 ((31 : Nat) : Int) ∧ μ'.1 66 ((31 : Nat) : Int) ≤ μ'.1 66 ((30 : Nat) : Int) ∧ μ'.1 66 ((30 : Nat) : Int) ≤ 800) → (μ'.1 66 ((30 : Nat) : Int) = μ.1 66 ((30 : Nat) : Int)) → (zTE μ μ' lo C Pn F cf) → (0 ≤ μ'.1 66 ((38 : Nat) : Int) ∧ μ'.1 66 ((38 : Nat) : Int) ≤ 300) → (v = -1 ∨ zrm μ' ≤ zrm μ) → (v = -1 ∨ (lo ≤ v ∧ v < zTop μ' ∧ μ'.1 67 v ≤ 1 ∧ (a2 ≤ 1 → μ'.1 67 v = 0) ∧ (a2 = 1 → μ'.1 68 v ≠ a1 ∧ ∀ i : Int, 0 ≤ i → i < μ'.1 69 v → μ'.1 67 (μ'.1 70 (4 * v + i)) ≤ 2) ∧ zPar μ' pa pe v ∧ μ'.1 71 v ≤ zTn μ μ')) → (a3 = 0 ∨ v = -1) → ((v = -1 ∧ rFa τ (10, p, 0, [], B) μ') ∨ (0 ≤ v ∧ ∃ p' n h as, yR τ (10, p, 0, [], B) (14, p', 0, [(0, h, as)], yN B 0 2 n) ∧ rLx μ' τ p' ∧ rNg cb pb μ' (yN B 0 2 n) ∧ rE μ' v (h :: as.flatten))) → Q (some (.inl v)) μ') : ∀ (vs : List zV) (m0 : zM) (n : Nat), yi_X9_readType μ a1 a2 a3 lo C Pn F cf pa pe τ p B cb pb 272 vs m0 n → zw (zOk g d) mt_X9_readType ([(13, [0, 1, 2, 3, 4, 5]), (18, [0, 1, 2, 3, 4, 5]), (111, [0, 1, 2, 3, 4, 5]), (272, [0, 1, 2, 3, 4, 5]), (403, [0, 1, 2, 3, 4, 5])], []) (fun pc' vs' μ'' => ∃ n', n' < n ∧ yi_X9_readType μ a1 a2 a3 lo C Pn F cf pa pe τ p B cb pb pc' vs' μ'' n') Q (fun _ _ => False) 246 true (zsuf 272 mt_X9_readType.2.2.2.2.1) (zzip [0, 1, 2, 3, 4, 5] vs) [] m0 := by
  obtain ⟨g1, wg1⟩ : ∃ z : Int, μ.1 66 ((31 : Nat) : Int) = z := ⟨_, rfl⟩
  obtain ⟨g2, wg2⟩ : ∃ z : Int, μ.1 66 ((30 : Nat) : Int) = z := ⟨_, rfl⟩
  obtain ⟨g3, wg3⟩ : ∃ z : Int, μ.1 66 ((33 : Nat) : Int) = z := ⟨_, rfl⟩
  obtain ⟨g4, wg4⟩ : ∃ z : Int, μ.1 66 ((34 : Nat) : Int) = z := ⟨_, rfl⟩
  obtain ⟨g5, wg5⟩ : ∃ z : Int, μ.1 66 ((32 : Nat) : Int) = z := ⟨_, rfl⟩
  obtain ⟨g6, wg6⟩ : ∃ z : Int, μ.1 66 ((38 : Nat) : Int) = z := ⟨_, rfl⟩
  obtain ⟨g7, wg7⟩ : ∃ z : Int, μ.1 66 ((8 : Nat) : Int) = z := ⟨_, rfl⟩
  try rw [wg1] at hp0
  try rw [wg2] at hp0
  try rw [wg3] at hp0
  try rw [wg4] at hp0
  try rw [wg5] at hp0
  try rw [wg6] at hp0
  try rw [wg7] at hp0
  try rw [wg1] at hp1
  try rw [wg2] at hp1
  try rw [wg3] at hp1
  try rw [wg4] at hp1
  try rw [wg5] at hp1
  try rw [wg6] at hp1
  try rw [wg7] at hp1
  try rw [wg1] at hp2
  try rw [wg2] at hp2
  try rw [wg3] at hp2
  try rw [wg4] at hp2
  try rw [wg5] at hp2
  try rw [wg6] at hp2
  try rw [wg7] at hp2
  try rw [wg1] at hp3
  try rw [wg2] at hp3
  try rw [wg3] at hp3
  try rw [wg4] at hp3
  try rw [wg5] at hp3
  try rw [wg6] at hp3
  try rw [wg7] at hp3
  try rw [wg1] at hp4
  try rw [wg2] at hp4
  try rw [wg3] at hp4
  try rw [wg4] at hp4
  try rw [wg5] at hp4
  try rw [wg6] at hp4
  try rw [wg7] at hp4
  try rw [wg1] at hp5
  try rw [wg2] at hp5
  try rw [wg3] at hp5
  try rw [wg4] at hp5
  try rw [wg5] at hp5
  try rw [wg6] at hp5
  try rw [wg7] at hp5
  try rw [wg1] at hp6
  try rw [wg2] at hp6
  try rw [wg3] at hp6
  try rw [wg4] at hp6
  try rw [wg5] at hp6
  try rw [wg6] at hp6
  try rw [wg7] at hp6
  try rw [wg1] at hp7
  try rw [wg2] at hp7
  try rw [wg3] at hp7
  try rw [wg4] at hp7
  try rw [wg5] at hp7
  try rw [wg6] at hp7
  try rw [wg7] at hp7
  try rw [wg1] at hp8
  try rw [wg2] at hp8
  try rw [wg3] at hp8
  try rw [wg4] at hp8
  try rw [wg5] at hp8
  try rw [wg6] at hp8
  try rw [wg7] at hp8
  try rw [wg1] at hp9
  try rw [wg2] at hp9
  try rw [wg3] at hp9
  try rw [wg4] at hp9
  try rw [wg5] at hp9
  try rw [wg6] at hp9
  try rw [wg7] at hp9
  try rw [wg1] at hp10
  try rw [wg2] at hp10
  try rw [wg3] at hp10
  try rw [wg4] at hp10
  try rw [wg5] at hp10
  try rw [wg6] at hp10
  try rw [wg7] at hp10
  have z0 : zfx [67, 68, 69, 70, 71, 72, 73, 74, 100, 101, 102, 103, 104] [8, 31, 32, 33, 34, 35, 36, 38] μ μ := zfx_x μ
  intro vs m0 n hI
  replace hI := hI.2.2.2.1 rfl
  clear z0
  obtain ⟨v1, v2, v3, v4, v5, rfl, z0, hv1, hv2, hv3, hv4, hv5, i0, i1, i2, i3, i4, i5, i6, i7, i8, i9, i10, rfl⟩ := hI
  obtain ⟨j1, j2, j3⟩ := i0
  subst j1 j2 j3
  have vne : v5 ≠ 0 := by omega
  obtain ⟨g378, wg378⟩ : ∃ z : Int, m0.1 66 ((31 : Nat) : Int) = z := ⟨_, rfl⟩
  obtain ⟨g379, wg379⟩ : ∃ z : Int, m0.1 66 ((30 : Nat) : Int) = z := ⟨_, rfl⟩
  obtain ⟨g380, wg380⟩ : ∃ z : Int, m0.1 66 ((33 : Nat) : Int) = z := ⟨_, rfl⟩
  obtain ⟨g381, wg381⟩ : ∃ z : Int, m0.1 66 ((34 : Nat) : Int) = z := ⟨_, rfl⟩
  obtain ⟨g382, wg382⟩ : ∃ z : Int, m0.1 66 ((32 : Nat) : Int) = z := ⟨_, rfl⟩
  obtain ⟨g383, wg383⟩ : ∃ z : Int, m0.1 66 ((38 : Nat) : Int) = z := ⟨_, rfl⟩
  obtain ⟨g384, wg384⟩ : ∃ z : Int, m0.1 66 ((8 : Nat) : Int) = z := ⟨_, rfl⟩
  try rw [wg378] at i0
  try rw [wg379] at i0
  try rw [wg380] at i0
  try rw [wg381] at i0
  try rw [wg382] at i0
  try rw [wg383] at i0
  try rw [wg384] at i0
  try rw [wg1] at i0
  try rw [wg2] at i0
  try rw [wg3] at i0
  try rw [wg4] at i0
  try rw [wg5] at i0
  try rw [wg6] at i0
  try rw [wg7] at i0
  try rw [wg378] at i1
  try rw [wg379] at i1
  try rw [wg380] at i1
  try rw [wg381] at i1
  try rw [wg382] at i1
  try rw [wg383] at i1
  try rw [wg384] at i1
  try rw [wg1] at i1
  try rw [wg2] at i1
  try rw [wg3] at i1
  try rw [wg4] at i1
  try rw [wg5] at i1
  try rw [wg6] at i1
  try rw [wg7] at i1
  try rw [wg378] at i2
  try rw [wg379] at i2
  try rw [wg380] at i2
  try rw [wg381] at i2
  try rw [wg382] at i2
  try rw [wg383] at i2
  try rw [wg384] at i2
  try rw [wg1] at i2
  try rw [wg2] at i2
  try rw [wg3] at i2
  try rw [wg4] at i2
  try rw [wg5] at i2
  try rw [wg6] at i2
  try rw [wg7] at i2
  try rw [wg378] at i3
  try rw [wg379] at i3
  try rw [wg380] at i3
  try rw [wg381] at i3
  try rw [wg382] at i3
  try rw [wg383] at i3
  try rw [wg384] at i3
  try rw [wg1] at i3
  try rw [wg2] at i3
  try rw [wg3] at i3
  try rw [wg4] at i3
  try rw [wg5] at i3
  try rw [wg6] at i3
  try rw [wg7] at i3
  try rw [wg378] at i4
  try rw [wg379] at i4
  try rw [wg380] at i4
  try rw [wg381] at i4
  try rw [wg382] at i4
  try rw [wg383] at i4
  try rw [wg384] at i4
  try rw [wg1] at i4
  try rw [wg2] at i4
  try rw [wg3] at i4
  try rw [wg4] at i4
  try rw [wg5] at i4
  try rw [wg6] at i4
  try rw [wg7] at i4
  try rw [wg378] at i5
  try rw [wg379] at i5
  try rw [wg380] at i5
  try rw [wg381] at i5
  try rw [wg382] at i5
  try rw [wg383] at i5
  try rw [wg384] at i5
  try rw [wg1] at i5
  try rw [wg2] at i5
  try rw [wg3] at i5
  try rw [wg4] at i5
  try rw [wg5] at i5
  try rw [wg6] at i5
  try rw [wg7] at i5
  try rw [wg378] at i6
  try rw [wg379] at i6
  try rw [wg380] at i6
  try rw [wg381] at i6
  try rw [wg382] at i6
  try rw [wg383] at i6
  try rw [wg384] at i6
  try rw [wg1] at i6
  try rw [wg2] at i6
  try rw [wg3] at i6
  try rw [wg4] at i6
  try rw [wg5] at i6
  try rw [wg6] at i6
  try rw [wg7] at i6
  try rw [wg378] at i7
  try rw [wg379] at i7
  try rw [wg380] at i7
  try rw [wg381] at i7
  try rw [wg382] at i7
  try rw [wg383] at i7
  try rw [wg384] at i7
  try rw [wg1] at i7
  try rw [wg2] at i7
  try rw [wg3] at i7
  try rw [wg4] at i7
  try rw [wg5] at i7
  try rw [wg6] at i7
  try rw [wg7] at i7
  try rw [wg378] at i8
  try rw [wg379] at i8
  try rw [wg380] at i8
  try rw [wg381] at i8
  try rw [wg382] at i8
  try rw [wg383] at i8
  try rw [wg384] at i8
  try rw [wg1] at i8
  try rw [wg2] at i8
  try rw [wg3] at i8
  try rw [wg4] at i8
  try rw [wg5] at i8
  try rw [wg6] at i8
  try rw [wg7] at i8
  try rw [wg378] at i9
  try rw [wg379] at i9
  try rw [wg380] at i9
  try rw [wg381] at i9
  try rw [wg382] at i9
  try rw [wg383] at i9
  try rw [wg384] at i9
  try rw [wg1] at i9
  try rw [wg2] at i9
  try rw [wg3] at i9
  try rw [wg4] at i9
  try rw [wg5] at i9
  try rw [wg6] at i9
  try rw [wg7] at i9
  try rw [wg378] at i10
  try rw [wg379] at i10
  try rw [wg380] at i10
  try rw [wg381] at i10
  try rw [wg382] at i10
  try rw [wg383] at i10
  try rw [wg384] at i10
  try rw [wg1] at i10
  try rw [wg2] at i10
  try rw [wg3] at i10
  try rw [wg4] at i10
  try rw [wg5] at i10
  try rw [wg6] at i10
  try rw [wg7] at i10
  have T385 := i3.2 (by assumption)
  have V3 : v3 = 0 := by omega
  clear i3 i4 i8
  obtain ⟨p0, n0, fr, L0, N0, S0, R0, D0⟩ := (rend i9).2.2.1 (by omega)
  clear i9
  have BV := rBv B n0
  have KK0 := rLx_k L0
  rw [wg382] at KK0
  have ZW0 : rW m0 := T385.1.1.2.1
  have N38 : g383 = n0 := by have h0 := N0.1.2.2.2.2.1; rw [BV.2.1, wg383] at h0; exact h0
  obtain ⟨f, r, rfl, D1⟩ := rfr D0 hv4.1
  have MY := rmay_y (d := r.length) (B := yN B 0 2 n0) (r := v2) L0 (by rw [BV.2.2.2.1]; exact hp9.1) ⟨by omega, by omega⟩
  rw [D1] at MY
  have F1 := S0.1
  rw [D1] at F1
  refine ⟨yk_X9_mayStandBehind, ym_X9_mayStandBehind hg d (by omega), _, _, rfl, ⟨by omega, by omega⟩, ⟨by omega, by omega⟩, ?_⟩
  intro x386 kx386 lx386 p387
  refine And.intro ⟨by omega, by omega⟩ (And.intro (fun c388 => ?_) (fun c388 => ?_))
  · have bc388 := yp1 p387 c388
    have MB := MY.mp bc388
    refine And.intro ⟨by omega, by omega⟩ ?_
    intro x389 hx389 kx389 lx389
    have Q4 := T385.2.1 v4 hv4.1 (by omega)
    refine And.intro ⟨by omega, by omega⟩ (And.intro (fun c390 => ?_) (fun c390 => ?_))
    · have H391 : m0.1 100 v4 = 0 → m0.1 102 v4 = cf (m0.1 101 v4) ∧ m0.1 102 v4 ≤ 4 := fun h => by exfalso; omega
      have H5 : (f.2.2.length : Int) = yar (yN B 0 2 n0) f.2.1 := by rcases F1.2.1 with h0 | h0; (rw [h0.2.2, h0.2.1, ryar_p (by rw [BV.1]; omega) (by have h1 := Q4.2.1 h0.1; have h2 := hp3; omega)]; rfl); (exfalso; omega)
      refine ⟨zk_X9_closed, zm_X9_closed hg d (by omega), _, _, rfl, ⟨by omega, by omega⟩, T385.1.1, (zTE_top (zTE_of T385 (by omega) (by omega)) wg384 wg383 wg7 wg6 hp5.1 (by omega)), (fun h => ⟨by have h1 := Q4.1 h; omega, (H391 h).2⟩), (fun h i a b => by have h1 := Q4.2.2.2.2 i a (by have := (H391 h).2; omega) b; have l0 := T385.1.1.1.1; omega), ?_⟩
      intro x392 m393 qm393 kx392 lx392 p394
      have z395 := zfx_t z0 qm393 rfl rfl
      have w396 : m393.1 66 ((31 : Nat) : Int) = g378 := (qm393.2.1 31 rfl).trans wg378
      have w397 : m393.1 66 ((30 : Nat) : Int) = g379 := (qm393.2.1 30 rfl).trans wg379
      have w398 : m393.1 66 ((33 : Nat) : Int) = g380 := (qm393.2.1 33 rfl).trans wg380
      have w399 : m393.1 66 ((34 : Nat) : Int) = g381 := (qm393.2.1 34 rfl).trans wg381
      have w400 : m393.1 66 ((32 : Nat) : Int) = g382 := (qm393.2.1 32 rfl).trans wg382
      have w401 : m393.1 66 ((38 : Nat) : Int) = g383 := (qm393.2.1 38 rfl).trans wg383
      obtain ⟨g402, wg402⟩ : ∃ z : Int, m393.1 66 ((8 : Nat) : Int) = z := ⟨_, rfl⟩
      try rw [w396] at p394
      try rw [w397] at p394
      try rw [w398] at p394
      try rw [w399] at p394
      try rw [w400] at p394
      try rw [w401] at p394
      try rw [wg402] at p394
      try rw [wg378] at p394
      try rw [wg379] at p394
      try rw [wg380] at p394
      try rw [wg381] at p394
      try rw [wg382] at p394
      try rw [wg383] at p394
      try rw [wg384] at p394
      try rw [wg1] at p394
      try rw [wg2] at p394
      try rw [wg3] at p394
      try rw [wg4] at p394
      try rw [wg5] at p394
      try rw [wg6] at p394
      try rw [wg7] at p394
      have CE := rcl (lo := lo) F1 ZW0 ⟨by have h0 := Q4.1; have h1 := Q4.2.1; have h2 := Q4.2.2.1; omega, fun h0 => ⟨by have h1 := Q4.1 h0; omega, (H391 h0).2⟩, fun h0 => by have h1 := Q4.2.1 h0; have h2 := hp3; omega⟩ p394
      have CT : zTop m0 ≤ zTop m393 ∧ zND m393 lo ∧ zOld m0 m393 (zTop m0) ∧ (0 ≤ x392 ∧ x392 < zTop m393) := by rcases p394 with h0 | h0 <;> exact ⟨zMd_t h0.2, h0.2.1, h0.2.2.2.2, by omega, by rcases h0.2.2.2.1 with h1 | h1 <;> omega⟩
      have L1 := rLx_z L0 qm393 rfl ⟨rfl, rfl, rfl, rfl, rfl⟩
      have N1 := rNu_z N0 qm393 ⟨rfl, rfl, rfl, rfl, rfl, rfl⟩ ⟨rfl, rfl, rfl, rfl, rfl, rfl⟩
      obtain ⟨S1, ZW1⟩ := rFs_m S0.2 qm393 rfl CT.2.2.1 CT.1 CT.2.1 ZW0
      have T403 := zTI_closed T385 hv4.1 (fun j a b => qm393.1 j (by omega) (zanyF (by simp <;> omega))) (qm393.2.1 38 rfl) p394 H391
      clear p394 H391
      refine And.intro ⟨by omega, by omega⟩ (And.intro (fun c404 => ?_) (fun c404 => ?_))
      · refine And.intro ⟨by omega, by omega⟩ ?_
        intro x405 hx405 kx405 lx405
        refine And.intro ⟨by omega, by omega⟩ (And.intro (fun c406 => ?_) (fun c406 => ?_))
        · have B1 : zwb m393 v4 = 0 := zwb_0 (by omega)
          have T407 := zTI_bk0 T403.1 B1
          have B4 : m393.1 71 x392 ≤ 1 + zwb m393 v4 + zoa m393 v4 (zok m393 v4) := by have h1 := T403.2.2.1; omega
          have B5 : v4 = 1 → v2 = 1 → m393.1 67 x392 ≤ 2 := fun a b => by have h := T403.2.2.2.1; omega
          have B6 := T403.2.1
          have B7 := T403.2.2.2.2.2
          have O1 : m393.1 100 (v4 + (-1)) = 0 := by rw [qm393.1 100 (by decide) rfl]; exact T385.2.2.1 _ (by omega) (by omega)
          obtain ⟨g, r, rfl, D2⟩ : ∃ g r2, r = g :: r2 ∧ (r2.length : Int) = v4 + (-1) := by cases r with | nil => simp at D1; omega | cons a b => exact ⟨a, b, rfl, by simp only [List.length_cons] at D1; omega⟩
          have R1 := yR_s R0 (rym12_s MB H5)
          have XW : x405 = m0.1 104 v4 := by rw [hx405, qm393.1 104 (by decide) rfl]
          have CY : rE m393 x392 (ycd f) := by unfold ycd ywr; rw [F1.1, if_neg (by omega), if_neg (by omega)]; exact CE
          refine ⟨zk_X9_addArg, zm_X9_addArg hg d (by omega), _, _, rfl, ⟨by omega, by omega⟩, ⟨by omega, by omega⟩, (zTI_cnt T407 (by omega) (by omega) (by decide) w401 wg6 (by omega) hp5.2.1), ?_⟩
          intro m408 qm408 p409 p410 p411 p412
          have z413 := zfx_t z395 qm408 rfl rfl
          have w414 : m408.1 66 ((31 : Nat) : Int) = g378 := (qm408.2.1 31 rfl).trans w396
          have w415 : m408.1 66 ((30 : Nat) : Int) = g379 := (qm408.2.1 30 rfl).trans w397
          have w416 : m408.1 66 ((33 : Nat) : Int) = g380 := (qm408.2.1 33 rfl).trans w398
          have w417 : m408.1 66 ((34 : Nat) : Int) = g381 := (qm408.2.1 34 rfl).trans w399
          have w418 : m408.1 66 ((32 : Nat) : Int) = g382 := (qm408.2.1 32 rfl).trans w400
          have w419 : m408.1 66 ((38 : Nat) : Int) = g383 := (qm408.2.1 38 rfl).trans w401
          have w420 : m408.1 66 ((8 : Nat) : Int) = g402 := (qm408.2.1 8 rfl).trans wg402
          try rw [w414] at p409
          try rw [w415] at p409
          try rw [w416] at p409
          try rw [w417] at p409
          try rw [w418] at p409
          try rw [w419] at p409
          try rw [w420] at p409
          try rw [w396] at p409
          try rw [w397] at p409
          try rw [w398] at p409
          try rw [w399] at p409
          try rw [w400] at p409
          try rw [w401] at p409
          try rw [wg402] at p409
          try rw [wg1] at p409
          try rw [wg2] at p409
          try rw [wg3] at p409
          try rw [wg4] at p409
          try rw [wg5] at p409
          try rw [wg6] at p409
          try rw [wg7] at p409
          try rw [w414] at p410
          try rw [w415] at p410
          try rw [w416] at p410
          try rw [w417] at p410
          try rw [w418] at p410
          try rw [w419] at p410
          try rw [w420] at p410
          try rw [w396] at p410
          try rw [w397] at p410
          try rw [w398] at p410
          try rw [w399] at p410
          try rw [w400] at p410
          try rw [w401] at p410
          try rw [wg402] at p410
          try rw [wg1] at p410
          try rw [wg2] at p410
          try rw [wg3] at p410
          try rw [wg4] at p410
          try rw [wg5] at p410
          try rw [wg6] at p410
          try rw [wg7] at p410
          try rw [w414] at p411
          try rw [w415] at p411
          try rw [w416] at p411
          try rw [w417] at p411
          try rw [w418] at p411
          try rw [w419] at p411
          try rw [w420] at p411
          try rw [w396] at p411
          try rw [w397] at p411
          try rw [w398] at p411
          try rw [w399] at p411
          try rw [w400] at p411
          try rw [w401] at p411
          try rw [wg402] at p411
          try rw [wg1] at p411
          try rw [wg2] at p411
          try rw [wg3] at p411
          try rw [wg4] at p411
          try rw [wg5] at p411
          try rw [wg6] at p411
          try rw [wg7] at p411
          try rw [w414] at p412
          try rw [w415] at p412
          try rw [w416] at p412
          try rw [w417] at p412
          try rw [w418] at p412
          try rw [w419] at p412
          try rw [w420] at p412
          try rw [w396] at p412
          try rw [w397] at p412
          try rw [w398] at p412
          try rw [w399] at p412
          try rw [w400] at p412
          try rw [w401] at p412
          try rw [wg402] at p412
          try rw [wg1] at p412
          try rw [wg2] at p412
          try rw [wg3] at p412
          try rw [wg4] at p412
          try rw [wg5] at p412
          try rw [wg6] at p412
          try rw [wg7] at p412
          clear w396 w397 w398 w399 w400 w401 wg402
          have T421 := zTI_back T407 (by omega) (show v4 + (-1) = v4 - 1 by omega) (fun j a b c => qm408.1 j a (zanyF (by simp <;> omega))) (qm408.2.1 8 rfl) (qm408.2.1 38 rfl) p409 p410 p411 p412 B6 B4 B5 B7
          have O422 : m408.1 100 (v4 + (-1)) = 0 := by rw [qm408.1 100 (by decide) rfl]; exact O1
          have L4 := rLx_z L1 qm408 rfl ⟨rfl, rfl, rfl, rfl, rfl⟩
          have N4 := rNu_z N1 qm408 ⟨rfl, rfl, rfl, rfl, rfl, rfl⟩ ⟨rfl, rfl, rfl, rfl, rfl, rfl⟩
          have S4 := rFs_add S1 D2.symm O1 p409 p410 p411 p412 (fun j hj => by rcases hj with h | h | h | h; (rcases (show j = 67 ∨ j = 68 ∨ j = 69 ∨ j = 70 ∨ j = 71 by omega) with e | e | e | e | e <;> subst e <;> exact qm408.1 _ (by decide) rfl); (subst h; exact qm408.1 100 (by decide) rfl); (subst h; exact qm408.1 101 (by decide) rfl); (subst h; exact qm408.1 104 (by decide) rfl)) (qm408.2.1 8 rfl) CT.2.2.2 CY ZW1
          refine Exists.intro (2 * zrT m408 3 + 1) (And.intro (zrd2 (zrT_st (by unfold zrm; simp only [w414, w415, w416, w417, w418, w419, w420, wg378, wg379, wg380, wg381, wg382, wg383, wg384, wg1, wg2, wg3, wg4, wg5, wg6, wg7]) (zrm_0 (by (try rw [w414]) <;> (try rw [w415]) <;> (try rw [w416]) <;> (try rw [w417]) <;> (try rw [w418]) <;> (try rw [w419]) <;> (try rw [w420]) <;> (try rw [wg378]) <;> (try rw [wg379]) <;> (try rw [wg380]) <;> (try rw [wg381]) <;> (try rw [wg382]) <;> (try rw [wg383]) <;> (try rw [wg384]) <;> (try rw [wg1]) <;> (try rw [wg2]) <;> (try rw [wg3]) <;> (try rw [wg4]) <;> (try rw [wg5]) <;> (try rw [wg6]) <;> (try rw [wg7]) <;> omega)) (by omega) (by omega))) ?_)
          exact ⟨(fun _ => ⟨_, _, _, _, _, rfl, z413, ⟨by omega, by omega⟩, ⟨by omega, by omega⟩, ⟨by omega, by omega⟩, ⟨by omega, by omega⟩, ⟨by omega, by omega⟩, ⟨rfl, rfl, rfl⟩, (by (try rw [w414]) <;> (try rw [w415]) <;> (try rw [w416]) <;> (try rw [w417]) <;> (try rw [w418]) <;> (try rw [w419]) <;> (try rw [w420]) <;> (try rw [wg378]) <;> (try rw [wg379]) <;> (try rw [wg380]) <;> (try rw [wg381]) <;> (try rw [wg382]) <;> (try rw [wg383]) <;> (try rw [wg384]) <;> (try rw [wg1]) <;> (try rw [wg2]) <;> (try rw [wg3]) <;> (try rw [wg4]) <;> (try rw [wg5]) <;> (try rw [wg6]) <;> (try rw [wg7]) <;> omega), (by (try rw [w414]) <;> (try rw [w415]) <;> (try rw [w416]) <;> (try rw [w417]) <;> (try rw [w418]) <;> (try rw [w419]) <;> (try rw [w420]) <;> (try rw [wg378]) <;> (try rw [wg379]) <;> (try rw [wg380]) <;> (try rw [wg381]) <;> (try rw [wg382]) <;> (try rw [wg383]) <;> (try rw [wg384]) <;> (try rw [wg1]) <;> (try rw [wg2]) <;> (try rw [wg3]) <;> (try rw [wg4]) <;> (try rw [wg5]) <;> (try rw [wg6]) <;> (try rw [wg7]) <;> omega), ⟨fun h => absurd h (by decide), fun _ => T421⟩, (fun h => O422), (Or.inr (by omega)), (by have h6 := i6; unfold zrm at h6 ⊢; simp only [w414, w415, w416, w417, w418, w419, w420, wg378, wg379, wg380, wg381, wg382, wg383, wg384, wg1, wg2, wg3, wg4, wg5, wg6, wg7] at h6 ⊢; (repeat' split at h6) <;> (repeat' split) <;> omega), (by (try rw [w414]) <;> (try rw [w415]) <;> (try rw [w416]) <;> (try rw [w417]) <;> (try rw [w418]) <;> (try rw [w419]) <;> (try rw [w420]) <;> (try rw [wg378]) <;> (try rw [wg379]) <;> (try rw [wg380]) <;> (try rw [wg381]) <;> (try rw [wg382]) <;> (try rw [wg383]) <;> (try rw [wg384]) <;> (try rw [wg1]) <;> (try rw [wg2]) <;> (try rw [wg3]) <;> (try rw [wg4]) <;> (try rw [wg5]) <;> (try rw [wg6]) <;> (try rw [wg7]) <;> omega), (Or.inr V3), ⟨_, _, _, L4, N4, S4, Or.inr (Or.inr (Or.inr ⟨rfl, R1, by simp only [yadd, List.length_cons]; omega⟩))⟩, rfl⟩), (fun h => absurd h (by decide)), (fun h => absurd h (by decide)), (fun h => absurd h (by decide)), (fun h => absurd h (by decide))⟩
        · refine And.intro ⟨by omega, by omega⟩ (And.intro ⟨by omega, by omega⟩ ?_)
          intro m423 em423
          have z424 := zfx_r z395 em423 rfl (by decide)
          have w425 : m423.1 66 ((31 : Nat) : Int) = g378 := by rw [em423]; exact (congrFun (zu_ne (by decide)) _).trans w396
          have w426 : m423.1 66 ((30 : Nat) : Int) = g379 := by rw [em423]; exact (congrFun (zu_ne (by decide)) _).trans w397
          have w427 : m423.1 66 ((33 : Nat) : Int) = g380 := by rw [em423]; exact (congrFun (zu_ne (by decide)) _).trans w398
          have w428 : m423.1 66 ((34 : Nat) : Int) = g381 := by rw [em423]; exact (congrFun (zu_ne (by decide)) _).trans w399
          have w429 : m423.1 66 ((32 : Nat) : Int) = g382 := by rw [em423]; exact (congrFun (zu_ne (by decide)) _).trans w400
          have w430 : m423.1 66 ((38 : Nat) : Int) = g383 := by rw [em423]; exact (congrFun (zu_ne (by decide)) _).trans w401
          have w431 : m423.1 66 ((8 : Nat) : Int) = g402 := by rw [em423]; exact (congrFun (zu_ne (by decide)) _).trans wg402
          clear w396 w397 w398 w399 w400 w401 wg402
          refine And.intro ⟨by omega, by omega⟩ ?_
          intro x432 hx432 kx432 lx432
          have W0 : x432 = x405 := by rw [hx432, hx405, em423, zu_ne (by decide)]
          have W1 := T403.1.2.2.2.1.2.2.2 v4 (by omega) (by omega)
          have W2 : zTop m423 = zTop m393 := by show m423.1 66 _ = m393.1 66 _; rw [em423, zu_ne (by decide)]
          have T433 := zTI_fr0 T403.1 (fun j a b => by rw [em423, zu_ne (by omega)]) (fun j a b => by rw [em423, zu_ne (by omega)]) W2 (by rw [em423, zu_ne (by decide)])
          refine ⟨zk_X9_make, zm_X9_make hg d (by omega), _, _, _, _, rfl, ⟨by omega, by omega⟩, ⟨by omega, by omega⟩, ⟨by omega, by omega⟩, T433.1.1, (zTE_top (zTE_of T433 (by omega) (by omega)) w431 w430 wg7 wg6 hp5.1 (by omega)), ⟨fun h => by omega, fun h => by omega⟩, (fun i a b => by rw [show i = 0 by omega, em423, zu_at]; have h1 := T403.2.1; have l0 := T403.1.1.1.1; have h2 := W2; rw [em423] at h2; omega), ?_⟩
          intro x434 m435 qm435 kx434 lx434 p436 p437 p438 p439
          have z440 := zfx_t z424 qm435 rfl rfl
          have w441 : m435.1 66 ((31 : Nat) : Int) = g378 := (qm435.2.1 31 rfl).trans w425
          have w442 : m435.1 66 ((30 : Nat) : Int) = g379 := (qm435.2.1 30 rfl).trans w426
          have w443 : m435.1 66 ((33 : Nat) : Int) = g380 := (qm435.2.1 33 rfl).trans w427
          have w444 : m435.1 66 ((34 : Nat) : Int) = g381 := (qm435.2.1 34 rfl).trans w428
          have w445 : m435.1 66 ((32 : Nat) : Int) = g382 := (qm435.2.1 32 rfl).trans w429
          have w446 : m435.1 66 ((38 : Nat) : Int) = g383 := (qm435.2.1 38 rfl).trans w430
          obtain ⟨g447, wg447⟩ : ∃ z : Int, m435.1 66 ((8 : Nat) : Int) = z := ⟨_, rfl⟩
          try rw [w441] at p436
          try rw [w442] at p436
          try rw [w443] at p436
          try rw [w444] at p436
          try rw [w445] at p436
          try rw [w446] at p436
          try rw [wg447] at p436
          try rw [w425] at p436
          try rw [w426] at p436
          try rw [w427] at p436
          try rw [w428] at p436
          try rw [w429] at p436
          try rw [w430] at p436
          try rw [w431] at p436
          try rw [wg1] at p436
          try rw [wg2] at p436
          try rw [wg3] at p436
          try rw [wg4] at p436
          try rw [wg5] at p436
          try rw [wg6] at p436
          try rw [wg7] at p436
          try rw [w441] at p437
          try rw [w442] at p437
          try rw [w443] at p437
          try rw [w444] at p437
          try rw [w445] at p437
          try rw [w446] at p437
          try rw [wg447] at p437
          try rw [w425] at p437
          try rw [w426] at p437
          try rw [w427] at p437
          try rw [w428] at p437
          try rw [w429] at p437
          try rw [w430] at p437
          try rw [w431] at p437
          try rw [wg1] at p437
          try rw [wg2] at p437
          try rw [wg3] at p437
          try rw [wg4] at p437
          try rw [wg5] at p437
          try rw [wg6] at p437
          try rw [wg7] at p437
          try rw [w441] at p438
          try rw [w442] at p438
          try rw [w443] at p438
          try rw [w444] at p438
          try rw [w445] at p438
          try rw [w446] at p438
          try rw [wg447] at p438
          try rw [w425] at p438
          try rw [w426] at p438
          try rw [w427] at p438
          try rw [w428] at p438
          try rw [w429] at p438
          try rw [w430] at p438
          try rw [w431] at p438
          try rw [wg1] at p438
          try rw [wg2] at p438
          try rw [wg3] at p438
          try rw [wg4] at p438
          try rw [wg5] at p438
          try rw [wg6] at p438
          try rw [wg7] at p438
          try rw [w441] at p439
          try rw [w442] at p439
          try rw [w443] at p439
          try rw [w444] at p439
          try rw [w445] at p439
          try rw [w446] at p439
          try rw [wg447] at p439
          try rw [w425] at p439
          try rw [w426] at p439
          try rw [w427] at p439
          try rw [w428] at p439
          try rw [w429] at p439
          try rw [w430] at p439
          try rw [w431] at p439
          try rw [wg1] at p439
          try rw [wg2] at p439
          try rw [wg3] at p439
          try rw [wg4] at p439
          try rw [wg5] at p439
          try rw [wg6] at p439
          try rw [wg7] at p439
          clear w425 w426 w427 w428 w429 w430 w431
          have CE2 : rE m423 x392 (f.2.1 :: f.2.2.flatten) := rE_c (fun j a b => by rw [em423, zu_ne (by omega)]) CE
          have T2 : zTop m423 = zTop m393 := by show m423.1 66 _ = m393.1 66 _; rw [em423, zu_ne (by decide)]
          have L2 := rLx_w L1 em423 (Or.inr (Or.inl rfl))
          have N2 := rNu_w N1 em423 (Or.inl rfl)
          obtain ⟨S2, ZW2⟩ := rFs_w S1 em423 (Or.inr (Or.inl rfl)) ZW1
          have WE := rwr (w := x432) CE2 CT.2.2.2.1 (by rw [T2]; exact CT.2.2.2.2) ZW2 (by omega) p437 (by rw [em423, zu_at]) p439
          have MT : zTop m423 ≤ zTop m435 := by rcases p438 with h0 | h0 <;> omega
          have MX : 0 ≤ x434 ∧ x434 < zTop m435 := ⟨by omega, by rcases p438 with h0 | h0 <;> omega⟩
          have L3 := rLx_z L2 qm435 rfl ⟨rfl, rfl, rfl, rfl, rfl⟩
          have N3 := rNu_z N2 qm435 ⟨rfl, rfl, rfl, rfl, rfl, rfl⟩ ⟨rfl, rfl, rfl, rfl, rfl, rfl⟩
          obtain ⟨S3, ZW3⟩ := rFs_m S2 qm435 rfl p439 MT p436 ZW2
          have T448 := (⟨p436, p437, p438, p439⟩ : zMd m423 m435 lo x432 0 1 (m423.1 74) x434)
          have T449 := zTI_wrap T403.1 T403.2.1 T403.2.2.2.1 T403.2.2.2.2.2 em423 rfl (fun j a b => qm435.1 j (by omega) (zanyF (by simp <;> omega))) (qm435.2.1 38 rfl) T448 (by omega)
          clear T448 p436 p437 p438 p439
          have B1 : zwb m393 v4 = 1 := zwb_1 (by omega)
          have B2 := T449.2.2.2.2 v4
          have B3 := B2.2 hv4.1 (by omega)
          have T450 := zTI_bk1 T449.1 B1 B2.1
          have B4 : m435.1 71 x434 ≤ 1 + zwb m435 v4 + zoa m435 v4 (zok m435 v4) := by have h1 := T449.2.2.1; have h2 := T403.2.2.1; omega
          have B5 : v4 = 1 → v2 = 1 → m435.1 67 x434 ≤ 2 := fun a b => by have h := T403.1.2.2.2.1.2.1 b (by omega); have h2 : m393.1 104 v4 = m393.1 104 1 := (by rw [a]); omega
          have B6 := T449.2.1
          have B7 := T449.2.2.2.1
          have O1 : m435.1 100 (v4 + (-1)) = 0 := by rw [qm435.1 100 (by decide) rfl, em423, zu_ne (by decide), qm393.1 100 (by decide) rfl]; exact T385.2.2.1 _ (by omega) (by omega)
          obtain ⟨g, r, rfl, D2⟩ : ∃ g r2, r = g :: r2 ∧ (r2.length : Int) = v4 + (-1) := by cases r with | nil => simp at D1; omega | cons a b => exact ⟨a, b, rfl, by simp only [List.length_cons] at D1; omega⟩
          have R1 := yR_s R0 (rym12_s MB H5)
          have XW : x405 = m0.1 104 v4 := by rw [hx405, qm393.1 104 (by decide) rfl]
          have CY : rE m435 x434 (ycd f) := by have h0 := WE; rw [W0, XW, ← F1.1] at h0; exact h0
          refine ⟨zk_X9_addArg, zm_X9_addArg hg d (by omega), _, _, rfl, ⟨by omega, by omega⟩, ⟨by omega, by omega⟩, (zTI_cnt T450 (by omega) (by omega) (by decide) w446 wg6 (by omega) hp5.2.1), ?_⟩
          intro m451 qm451 p452 p453 p454 p455
          have z456 := zfx_t z440 qm451 rfl rfl
          have w457 : m451.1 66 ((31 : Nat) : Int) = g378 := (qm451.2.1 31 rfl).trans w441
          have w458 : m451.1 66 ((30 : Nat) : Int) = g379 := (qm451.2.1 30 rfl).trans w442
          have w459 : m451.1 66 ((33 : Nat) : Int) = g380 := (qm451.2.1 33 rfl).trans w443
          have w460 : m451.1 66 ((34 : Nat) : Int) = g381 := (qm451.2.1 34 rfl).trans w444
          have w461 : m451.1 66 ((32 : Nat) : Int) = g382 := (qm451.2.1 32 rfl).trans w445
          have w462 : m451.1 66 ((38 : Nat) : Int) = g383 := (qm451.2.1 38 rfl).trans w446
          have w463 : m451.1 66 ((8 : Nat) : Int) = g447 := (qm451.2.1 8 rfl).trans wg447
          try rw [w457] at p452
          try rw [w458] at p452
          try rw [w459] at p452
          try rw [w460] at p452
          try rw [w461] at p452
          try rw [w462] at p452
          try rw [w463] at p452
          try rw [w441] at p452
          try rw [w442] at p452
          try rw [w443] at p452
          try rw [w444] at p452
          try rw [w445] at p452
          try rw [w446] at p452
          try rw [wg447] at p452
          try rw [wg1] at p452
          try rw [wg2] at p452
          try rw [wg3] at p452
          try rw [wg4] at p452
          try rw [wg5] at p452
          try rw [wg6] at p452
          try rw [wg7] at p452
          try rw [w457] at p453
          try rw [w458] at p453
          try rw [w459] at p453
          try rw [w460] at p453
          try rw [w461] at p453
          try rw [w462] at p453
          try rw [w463] at p453
          try rw [w441] at p453
          try rw [w442] at p453
          try rw [w443] at p453
          try rw [w444] at p453
          try rw [w445] at p453
          try rw [w446] at p453
          try rw [wg447] at p453
          try rw [wg1] at p453
          try rw [wg2] at p453
          try rw [wg3] at p453
          try rw [wg4] at p453
          try rw [wg5] at p453
          try rw [wg6] at p453
          try rw [wg7] at p453
          try rw [w457] at p454
          try rw [w458] at p454
          try rw [w459] at p454
          try rw [w460] at p454
          try rw [w461] at p454
          try rw [w462] at p454
          try rw [w463] at p454
          try rw [w441] at p454
          try rw [w442] at p454
          try rw [w443] at p454
          try rw [w444] at p454
          try rw [w445] at p454
          try rw [w446] at p454
          try rw [wg447] at p454
          try rw [wg1] at p454
          try rw [wg2] at p454
          try rw [wg3] at p454
          try rw [wg4] at p454
          try rw [wg5] at p454
          try rw [wg6] at p454
          try rw [wg7] at p454
          try rw [w457] at p455
          try rw [w458] at p455
          try rw [w459] at p455
          try rw [w460] at p455
          try rw [w461] at p455
          try rw [w462] at p455
          try rw [w463] at p455
          try rw [w441] at p455
          try rw [w442] at p455
          try rw [w443] at p455
          try rw [w444] at p455
          try rw [w445] at p455
          try rw [w446] at p455
          try rw [wg447] at p455
          try rw [wg1] at p455
          try rw [wg2] at p455
          try rw [wg3] at p455
          try rw [wg4] at p455
          try rw [wg5] at p455
          try rw [wg6] at p455
          try rw [wg7] at p455
          clear w441 w442 w443 w444 w445 w446 wg447
          have T464 := zTI_back T450 (by omega) (show v4 + (-1) = v4 - 1 by omega) (fun j a b c => qm451.1 j a (zanyF (by simp <;> omega))) (qm451.2.1 8 rfl) (qm451.2.1 38 rfl) p452 p453 p454 p455 B6 B4 B5 B7
          have O465 : m451.1 100 (v4 + (-1)) = 0 := by rw [qm451.1 100 (by decide) rfl]; exact O1
          have L4 := rLx_z L3 qm451 rfl ⟨rfl, rfl, rfl, rfl, rfl⟩
          have N4 := rNu_z N3 qm451 ⟨rfl, rfl, rfl, rfl, rfl, rfl⟩ ⟨rfl, rfl, rfl, rfl, rfl, rfl⟩
          have S4 := rFs_add S3 D2.symm O1 p452 p453 p454 p455 (fun j hj => by rcases hj with h | h | h | h; (rcases (show j = 67 ∨ j = 68 ∨ j = 69 ∨ j = 70 ∨ j = 71 by omega) with e | e | e | e | e <;> subst e <;> exact qm451.1 _ (by decide) rfl); (subst h; exact qm451.1 100 (by decide) rfl); (subst h; exact qm451.1 101 (by decide) rfl); (subst h; exact qm451.1 104 (by decide) rfl)) (qm451.2.1 8 rfl) MX CY ZW3
          refine Exists.intro (2 * zrT m451 3 + 1) (And.intro (zrd2 (zrT_st (by unfold zrm; simp only [w457, w458, w459, w460, w461, w462, w463, wg378, wg379, wg380, wg381, wg382, wg383, wg384, wg1, wg2, wg3, wg4, wg5, wg6, wg7]) (zrm_0 (by (try rw [w457]) <;> (try rw [w458]) <;> (try rw [w459]) <;> (try rw [w460]) <;> (try rw [w461]) <;> (try rw [w462]) <;> (try rw [w463]) <;> (try rw [wg378]) <;> (try rw [wg379]) <;> (try rw [wg380]) <;> (try rw [wg381]) <;> (try rw [wg382]) <;> (try rw [wg383]) <;> (try rw [wg384]) <;> (try rw [wg1]) <;> (try rw [wg2]) <;> (try rw [wg3]) <;> (try rw [wg4]) <;> (try rw [wg5]) <;> (try rw [wg6]) <;> (try rw [wg7]) <;> omega)) (by omega) (by omega))) ?_)
          exact ⟨(fun _ => ⟨_, _, _, _, _, rfl, z456, ⟨by omega, by omega⟩, ⟨by omega, by omega⟩, ⟨by omega, by omega⟩, ⟨by omega, by omega⟩, ⟨by omega, by omega⟩, ⟨rfl, rfl, rfl⟩, (by (try rw [w457]) <;> (try rw [w458]) <;> (try rw [w459]) <;> (try rw [w460]) <;> (try rw [w461]) <;> (try rw [w462]) <;> (try rw [w463]) <;> (try rw [wg378]) <;> (try rw [wg379]) <;> (try rw [wg380]) <;> (try rw [wg381]) <;> (try rw [wg382]) <;> (try rw [wg383]) <;> (try rw [wg384]) <;> (try rw [wg1]) <;> (try rw [wg2]) <;> (try rw [wg3]) <;> (try rw [wg4]) <;> (try rw [wg5]) <;> (try rw [wg6]) <;> (try rw [wg7]) <;> omega), (by (try rw [w457]) <;> (try rw [w458]) <;> (try rw [w459]) <;> (try rw [w460]) <;> (try rw [w461]) <;> (try rw [w462]) <;> (try rw [w463]) <;> (try rw [wg378]) <;> (try rw [wg379]) <;> (try rw [wg380]) <;> (try rw [wg381]) <;> (try rw [wg382]) <;> (try rw [wg383]) <;> (try rw [wg384]) <;> (try rw [wg1]) <;> (try rw [wg2]) <;> (try rw [wg3]) <;> (try rw [wg4]) <;> (try rw [wg5]) <;> (try rw [wg6]) <;> (try rw [wg7]) <;> omega), ⟨fun h => absurd h (by decide), fun _ => T464⟩, (fun h => O465), (Or.inr (by omega)), (by have h6 := i6; unfold zrm at h6 ⊢; simp only [w457, w458, w459, w460, w461, w462, w463, wg378, wg379, wg380, wg381, wg382, wg383, wg384, wg1, wg2, wg3, wg4, wg5, wg6, wg7] at h6 ⊢; (repeat' split at h6) <;> (repeat' split) <;> omega), (by (try rw [w457]) <;> (try rw [w458]) <;> (try rw [w459]) <;> (try rw [w460]) <;> (try rw [w461]) <;> (try rw [w462]) <;> (try rw [w463]) <;> (try rw [wg378]) <;> (try rw [wg379]) <;> (try rw [wg380]) <;> (try rw [wg381]) <;> (try rw [wg382]) <;> (try rw [wg383]) <;> (try rw [wg384]) <;> (try rw [wg1]) <;> (try rw [wg2]) <;> (try rw [wg3]) <;> (try rw [wg4]) <;> (try rw [wg5]) <;> (try rw [wg6]) <;> (try rw [wg7]) <;> omega), (Or.inr V3), ⟨_, _, _, L4, N4, S4, Or.inr (Or.inr (Or.inr ⟨rfl, R1, by simp only [yadd, List.length_cons]; omega⟩))⟩, rfl⟩), (fun h => absurd h (by decide)), (fun h => absurd h (by decide)), (fun h => absurd h (by decide)), (fun h => absurd h (by decide))⟩
      · obtain rfl : r = [] := List.length_eq_zero_iff.mp (by omega)
        have R1 := yR_s R0 (rym12_0 MB H5)
        have FW : f.1 = 0 := by rw [F1.1, show v4 = 0 by omega]; exact T385.2.2.2.1.2.2.1
        have EF : ((0, f.2.1, f.2.2) : yF) = f := by rw [← FW]
        exact And.intro trivial (And.intro ⟨by omega, by omega⟩ (hQ _ _ z395 (by omega) (by omega) (by (try rw [w396]) <;> (try rw [w397]) <;> (try rw [w398]) <;> (try rw [w399]) <;> (try rw [w400]) <;> (try rw [w401]) <;> (try rw [wg402]) <;> (try rw [wg378]) <;> (try rw [wg379]) <;> (try rw [wg380]) <;> (try rw [wg381]) <;> (try rw [wg382]) <;> (try rw [wg383]) <;> (try rw [wg384]) <;> (try rw [wg1]) <;> (try rw [wg2]) <;> (try rw [wg3]) <;> (try rw [wg4]) <;> (try rw [wg5]) <;> (try rw [wg6]) <;> (try rw [wg7]) <;> omega) (by (try rw [w396]) <;> (try rw [w397]) <;> (try rw [w398]) <;> (try rw [w399]) <;> (try rw [w400]) <;> (try rw [w401]) <;> (try rw [wg402]) <;> (try rw [wg378]) <;> (try rw [wg379]) <;> (try rw [wg380]) <;> (try rw [wg381]) <;> (try rw [wg382]) <;> (try rw [wg383]) <;> (try rw [wg384]) <;> (try rw [wg1]) <;> (try rw [wg2]) <;> (try rw [wg3]) <;> (try rw [wg4]) <;> (try rw [wg5]) <;> (try rw [wg6]) <;> (try rw [wg7]) <;> omega) (zTE_of T403.1 (by omega) (by omega)) (by (try rw [w396]) <;> (try rw [w397]) <;> (try rw [w398]) <;> (try rw [w399]) <;> (try rw [w400]) <;> (try rw [w401]) <;> (try rw [wg402]) <;> (try rw [wg378]) <;> (try rw [wg379]) <;> (try rw [wg380]) <;> (try rw [wg381]) <;> (try rw [wg382]) <;> (try rw [wg383]) <;> (try rw [wg384]) <;> (try rw [wg1]) <;> (try rw [wg2]) <;> (try rw [wg3]) <;> (try rw [wg4]) <;> (try rw [wg5]) <;> (try rw [wg6]) <;> (try rw [wg7]) <;> omega) (Or.inr (by have h6 := i6; unfold zrm at h6 ⊢; simp only [w396, w397, w398, w399, w400, w401, wg402, wg378, wg379, wg380, wg381, wg382, wg383, wg384, wg1, wg2, wg3, wg4, wg5, wg6, wg7] at h6 ⊢; (repeat' split at h6) <;> (repeat' split) <;> omega)) (Or.inr ⟨T403.2.1.1, T403.2.1.2, T403.2.2.2.1, (T403.2.2.2.2.1 (by omega)).1, (T403.2.2.2.2.1 (by omega)).2, T403.2.2.2.2.2, zTI_done T403.1 (by omega) T403.2.2.1⟩) (by omega) (Or.inr ⟨by omega, p0, n0, f.2.1, f.2.2, by rw [EF]; exact R1, L1, N1, CE⟩)))
    · have Q6 := Q4.1 (by omega)
      refine And.intro ⟨by omega, by omega⟩ ?_
      intro x466 hx466 kx466 lx466
      intro x467 hx467 kx467 lx467
      refine And.intro ⟨by omega, by omega⟩ ?_
      intro x468 hx468 kx468 lx468
      refine And.intro ⟨by omega, by omega⟩ ?_
      intro x469 hx469 kx469 lx469
      have OC : x466 = (f.2.2.length : Int) := by rw [hx466]; exact F1.2.2.1.symm
      have F0 : f.2.1 = m0.1 101 v4 := by rcases F1.2.1 with h0 | h0; (exfalso; omega); exact h0.2
      have CC : x469 = yar (yN B 0 2 n0) f.2.1 := by rw [F0, ryar_c N0 ⟨Q6.1, by rw [BV.1]; omega⟩, hx469, hx467, hx468, N0.1.1]
      refine And.intro ⟨⟨by omega, by omega⟩, ⟨by omega, by omega⟩⟩ (And.intro (fun c470 => ?_) (fun c470 => ?_))
      · have hcc : x469 = μ.1 77 (μ.1 66 ((24 : Nat) : Int) + m0.1 101 v4) := by rw [hx469, show m0.1 77 = μ.1 77 from z0.1 77 (by decide) rfl, hx467, show m0.1 66 ((24 : Nat) : Int) = μ.1 66 ((24 : Nat) : Int) from z0.2.1 24 rfl, hx468]
        have h2 := hp4 _ Q6.1 Q6.2
        have H471 : m0.1 100 v4 = 0 → m0.1 102 v4 = cf (m0.1 101 v4) ∧ m0.1 102 v4 ≤ 4 := fun h => by omega
        have H5 : (f.2.2.length : Int) = yar (yN B 0 2 n0) f.2.1 := by omega
        refine ⟨zk_X9_closed, zm_X9_closed hg d (by omega), _, _, rfl, ⟨by omega, by omega⟩, T385.1.1, (zTE_top (zTE_of T385 (by omega) (by omega)) wg384 wg383 wg7 wg6 hp5.1 (by omega)), (fun h => ⟨by have h1 := Q4.1 h; omega, (H471 h).2⟩), (fun h i a b => by have h1 := Q4.2.2.2.2 i a (by have := (H471 h).2; omega) b; have l0 := T385.1.1.1.1; omega), ?_⟩
        intro x472 m473 qm473 kx472 lx472 p474
        have z475 := zfx_t z0 qm473 rfl rfl
        have w476 : m473.1 66 ((31 : Nat) : Int) = g378 := (qm473.2.1 31 rfl).trans wg378
        have w477 : m473.1 66 ((30 : Nat) : Int) = g379 := (qm473.2.1 30 rfl).trans wg379
        have w478 : m473.1 66 ((33 : Nat) : Int) = g380 := (qm473.2.1 33 rfl).trans wg380
        have w479 : m473.1 66 ((34 : Nat) : Int) = g381 := (qm473.2.1 34 rfl).trans wg381
        have w480 : m473.1 66 ((32 : Nat) : Int) = g382 := (qm473.2.1 32 rfl).trans wg382
        have w481 : m473.1 66 ((38 : Nat) : Int) = g383 := (qm473.2.1 38 rfl).trans wg383
        obtain ⟨g482, wg482⟩ : ∃ z : Int, m473.1 66 ((8 : Nat) : Int) = z := ⟨_, rfl⟩
        try rw [w476] at p474
        try rw [w477] at p474
        try rw [w478] at p474
        try rw [w479] at p474
        try rw [w480] at p474
        try rw [w481] at p474
        try rw [wg482] at p474
        try rw [wg378] at p474
        try rw [wg379] at p474
        try rw [wg380] at p474
        try rw [wg381] at p474
        try rw [wg382] at p474
        try rw [wg383] at p474
        try rw [wg384] at p474
        try rw [wg1] at p474
        try rw [wg2] at p474
        try rw [wg3] at p474
        try rw [wg4] at p474
        try rw [wg5] at p474
        try rw [wg6] at p474
        try rw [wg7] at p474
        have CE := rcl (lo := lo) F1 ZW0 ⟨by have h0 := Q4.1; have h1 := Q4.2.1; have h2 := Q4.2.2.1; omega, fun h0 => ⟨by have h1 := Q4.1 h0; omega, (H471 h0).2⟩, fun h0 => by have h1 := Q4.2.1 h0; have h2 := hp3; omega⟩ p474
        have CT : zTop m0 ≤ zTop m473 ∧ zND m473 lo ∧ zOld m0 m473 (zTop m0) ∧ (0 ≤ x472 ∧ x472 < zTop m473) := by rcases p474 with h0 | h0 <;> exact ⟨zMd_t h0.2, h0.2.1, h0.2.2.2.2, by omega, by rcases h0.2.2.2.1 with h1 | h1 <;> omega⟩
        have L1 := rLx_z L0 qm473 rfl ⟨rfl, rfl, rfl, rfl, rfl⟩
        have N1 := rNu_z N0 qm473 ⟨rfl, rfl, rfl, rfl, rfl, rfl⟩ ⟨rfl, rfl, rfl, rfl, rfl, rfl⟩
        obtain ⟨S1, ZW1⟩ := rFs_m S0.2 qm473 rfl CT.2.2.1 CT.1 CT.2.1 ZW0
        have T483 := zTI_closed T385 hv4.1 (fun j a b => qm473.1 j (by omega) (zanyF (by simp <;> omega))) (qm473.2.1 38 rfl) p474 H471
        clear p474 H471
        refine And.intro ⟨by omega, by omega⟩ (And.intro (fun c484 => ?_) (fun c484 => ?_))
        · refine And.intro ⟨by omega, by omega⟩ ?_
          intro x485 hx485 kx485 lx485
          refine And.intro ⟨by omega, by omega⟩ (And.intro (fun c486 => ?_) (fun c486 => ?_))
          · have B1 : zwb m473 v4 = 0 := zwb_0 (by omega)
            have T487 := zTI_bk0 T483.1 B1
            have B4 : m473.1 71 x472 ≤ 1 + zwb m473 v4 + zoa m473 v4 (zok m473 v4) := by have h1 := T483.2.2.1; omega
            have B5 : v4 = 1 → v2 = 1 → m473.1 67 x472 ≤ 2 := fun a b => by have h := T483.2.2.2.1; omega
            have B6 := T483.2.1
            have B7 := T483.2.2.2.2.2
            have O1 : m473.1 100 (v4 + (-1)) = 0 := by rw [qm473.1 100 (by decide) rfl]; exact T385.2.2.1 _ (by omega) (by omega)
            obtain ⟨g, r, rfl, D2⟩ : ∃ g r2, r = g :: r2 ∧ (r2.length : Int) = v4 + (-1) := by cases r with | nil => simp at D1; omega | cons a b => exact ⟨a, b, rfl, by simp only [List.length_cons] at D1; omega⟩
            have R1 := yR_s R0 (rym12_s MB H5)
            have XW : x485 = m0.1 104 v4 := by rw [hx485, qm473.1 104 (by decide) rfl]
            have CY : rE m473 x472 (ycd f) := by unfold ycd ywr; rw [F1.1, if_neg (by omega), if_neg (by omega)]; exact CE
            refine ⟨zk_X9_addArg, zm_X9_addArg hg d (by omega), _, _, rfl, ⟨by omega, by omega⟩, ⟨by omega, by omega⟩, (zTI_cnt T487 (by omega) (by omega) (by decide) w481 wg6 (by omega) hp5.2.1), ?_⟩
            intro m488 qm488 p489 p490 p491 p492
            have z493 := zfx_t z475 qm488 rfl rfl
            have w494 : m488.1 66 ((31 : Nat) : Int) = g378 := (qm488.2.1 31 rfl).trans w476
            have w495 : m488.1 66 ((30 : Nat) : Int) = g379 := (qm488.2.1 30 rfl).trans w477
            have w496 : m488.1 66 ((33 : Nat) : Int) = g380 := (qm488.2.1 33 rfl).trans w478
            have w497 : m488.1 66 ((34 : Nat) : Int) = g381 := (qm488.2.1 34 rfl).trans w479
            have w498 : m488.1 66 ((32 : Nat) : Int) = g382 := (qm488.2.1 32 rfl).trans w480
            have w499 : m488.1 66 ((38 : Nat) : Int) = g383 := (qm488.2.1 38 rfl).trans w481
            have w500 : m488.1 66 ((8 : Nat) : Int) = g482 := (qm488.2.1 8 rfl).trans wg482
            try rw [w494] at p489
            try rw [w495] at p489
            try rw [w496] at p489
            try rw [w497] at p489
            try rw [w498] at p489
            try rw [w499] at p489
            try rw [w500] at p489
            try rw [w476] at p489
            try rw [w477] at p489
            try rw [w478] at p489
            try rw [w479] at p489
            try rw [w480] at p489
            try rw [w481] at p489
            try rw [wg482] at p489
            try rw [wg1] at p489
            try rw [wg2] at p489
            try rw [wg3] at p489
            try rw [wg4] at p489
            try rw [wg5] at p489
            try rw [wg6] at p489
            try rw [wg7] at p489
            try rw [w494] at p490
            try rw [w495] at p490
            try rw [w496] at p490
            try rw [w497] at p490
            try rw [w498] at p490
            try rw [w499] at p490
            try rw [w500] at p490
            try rw [w476] at p490
            try rw [w477] at p490
            try rw [w478] at p490
            try rw [w479] at p490
            try rw [w480] at p490
            try rw [w481] at p490
            try rw [wg482] at p490
            try rw [wg1] at p490
            try rw [wg2] at p490
            try rw [wg3] at p490
            try rw [wg4] at p490
            try rw [wg5] at p490
            try rw [wg6] at p490
            try rw [wg7] at p490
            try rw [w494] at p491
            try rw [w495] at p491
            try rw [w496] at p491
            try rw [w497] at p491
            try rw [w498] at p491
            try rw [w499] at p491
            try rw [w500] at p491
            try rw [w476] at p491
            try rw [w477] at p491
            try rw [w478] at p491
            try rw [w479] at p491
            try rw [w480] at p491
            try rw [w481] at p491
            try rw [wg482] at p491
            try rw [wg1] at p491
            try rw [wg2] at p491
            try rw [wg3] at p491
            try rw [wg4] at p491
            try rw [wg5] at p491
            try rw [wg6] at p491
            try rw [wg7] at p491
            try rw [w494] at p492
            try rw [w495] at p492
            try rw [w496] at p492
            try rw [w497] at p492
            try rw [w498] at p492
            try rw [w499] at p492
            try rw [w500] at p492
            try rw [w476] at p492
            try rw [w477] at p492
            try rw [w478] at p492
            try rw [w479] at p492
            try rw [w480] at p492
            try rw [w481] at p492
            try rw [wg482] at p492
            try rw [wg1] at p492
            try rw [wg2] at p492
            try rw [wg3] at p492
            try rw [wg4] at p492
            try rw [wg5] at p492
            try rw [wg6] at p492
            try rw [wg7] at p492
            clear w476 w477 w478 w479 w480 w481 wg482
            have T501 := zTI_back T487 (by omega) (show v4 + (-1) = v4 - 1 by omega) (fun j a b c => qm488.1 j a (zanyF (by simp <;> omega))) (qm488.2.1 8 rfl) (qm488.2.1 38 rfl) p489 p490 p491 p492 B6 B4 B5 B7
            have O502 : m488.1 100 (v4 + (-1)) = 0 := by rw [qm488.1 100 (by decide) rfl]; exact O1
            have L4 := rLx_z L1 qm488 rfl ⟨rfl, rfl, rfl, rfl, rfl⟩
            have N4 := rNu_z N1 qm488 ⟨rfl, rfl, rfl, rfl, rfl, rfl⟩ ⟨rfl, rfl, rfl, rfl, rfl, rfl⟩
            have S4 := rFs_add S1 D2.symm O1 p489 p490 p491 p492 (fun j hj => by rcases hj with h | h | h | h; (rcases (show j = 67 ∨ j = 68 ∨ j = 69 ∨ j = 70 ∨ j = 71 by omega) with e | e | e | e | e <;> subst e <;> exact qm488.1 _ (by decide) rfl); (subst h; exact qm488.1 100 (by decide) rfl); (subst h; exact qm488.1 101 (by decide) rfl); (subst h; exact qm488.1 104 (by decide) rfl)) (qm488.2.1 8 rfl) CT.2.2.2 CY ZW1
            refine Exists.intro (2 * zrT m488 3 + 1) (And.intro (zrd2 (zrT_st (by unfold zrm; simp only [w494, w495, w496, w497, w498, w499, w500, wg378, wg379, wg380, wg381, wg382, wg383, wg384, wg1, wg2, wg3, wg4, wg5, wg6, wg7]) (zrm_0 (by (try rw [w494]) <;> (try rw [w495]) <;> (try rw [w496]) <;> (try rw [w497]) <;> (try rw [w498]) <;> (try rw [w499]) <;> (try rw [w500]) <;> (try rw [wg378]) <;> (try rw [wg379]) <;> (try rw [wg380]) <;> (try rw [wg381]) <;> (try rw [wg382]) <;> (try rw [wg383]) <;> (try rw [wg384]) <;> (try rw [wg1]) <;> (try rw [wg2]) <;> (try rw [wg3]) <;> (try rw [wg4]) <;> (try rw [wg5]) <;> (try rw [wg6]) <;> (try rw [wg7]) <;> omega)) (by omega) (by omega))) ?_)
            exact ⟨(fun _ => ⟨_, _, _, _, _, rfl, z493, ⟨by omega, by omega⟩, ⟨by omega, by omega⟩, ⟨by omega, by omega⟩, ⟨by omega, by omega⟩, ⟨by omega, by omega⟩, ⟨rfl, rfl, rfl⟩, (by (try rw [w494]) <;> (try rw [w495]) <;> (try rw [w496]) <;> (try rw [w497]) <;> (try rw [w498]) <;> (try rw [w499]) <;> (try rw [w500]) <;> (try rw [wg378]) <;> (try rw [wg379]) <;> (try rw [wg380]) <;> (try rw [wg381]) <;> (try rw [wg382]) <;> (try rw [wg383]) <;> (try rw [wg384]) <;> (try rw [wg1]) <;> (try rw [wg2]) <;> (try rw [wg3]) <;> (try rw [wg4]) <;> (try rw [wg5]) <;> (try rw [wg6]) <;> (try rw [wg7]) <;> omega), (by (try rw [w494]) <;> (try rw [w495]) <;> (try rw [w496]) <;> (try rw [w497]) <;> (try rw [w498]) <;> (try rw [w499]) <;> (try rw [w500]) <;> (try rw [wg378]) <;> (try rw [wg379]) <;> (try rw [wg380]) <;> (try rw [wg381]) <;> (try rw [wg382]) <;> (try rw [wg383]) <;> (try rw [wg384]) <;> (try rw [wg1]) <;> (try rw [wg2]) <;> (try rw [wg3]) <;> (try rw [wg4]) <;> (try rw [wg5]) <;> (try rw [wg6]) <;> (try rw [wg7]) <;> omega), ⟨fun h => absurd h (by decide), fun _ => T501⟩, (fun h => O502), (Or.inr (by omega)), (by have h6 := i6; unfold zrm at h6 ⊢; simp only [w494, w495, w496, w497, w498, w499, w500, wg378, wg379, wg380, wg381, wg382, wg383, wg384, wg1, wg2, wg3, wg4, wg5, wg6, wg7] at h6 ⊢; (repeat' split at h6) <;> (repeat' split) <;> omega), (by (try rw [w494]) <;> (try rw [w495]) <;> (try rw [w496]) <;> (try rw [w497]) <;> (try rw [w498]) <;> (try rw [w499]) <;> (try rw [w500]) <;> (try rw [wg378]) <;> (try rw [wg379]) <;> (try rw [wg380]) <;> (try rw [wg381]) <;> (try rw [wg382]) <;> (try rw [wg383]) <;> (try rw [wg384]) <;> (try rw [wg1]) <;> (try rw [wg2]) <;> (try rw [wg3]) <;> (try rw [wg4]) <;> (try rw [wg5]) <;> (try rw [wg6]) <;> (try rw [wg7]) <;> omega), (Or.inr V3), ⟨_, _, _, L4, N4, S4, Or.inr (Or.inr (Or.inr ⟨rfl, R1, by simp only [yadd, List.length_cons]; omega⟩))⟩, rfl⟩), (fun h => absurd h (by decide)), (fun h => absurd h (by decide)), (fun h => absurd h (by decide)), (fun h => absurd h (by decide))⟩
          · refine And.intro ⟨by omega, by omega⟩ (And.intro ⟨by omega, by omega⟩ ?_)
            intro m503 em503
            have z504 := zfx_r z475 em503 rfl (by decide)
            have w505 : m503.1 66 ((31 : Nat) : Int) = g378 := by rw [em503]; exact (congrFun (zu_ne (by decide)) _).trans w476
            have w506 : m503.1 66 ((30 : Nat) : Int) = g379 := by rw [em503]; exact (congrFun (zu_ne (by decide)) _).trans w477
            have w507 : m503.1 66 ((33 : Nat) : Int) = g380 := by rw [em503]; exact (congrFun (zu_ne (by decide)) _).trans w478
            have w508 : m503.1 66 ((34 : Nat) : Int) = g381 := by rw [em503]; exact (congrFun (zu_ne (by decide)) _).trans w479
            have w509 : m503.1 66 ((32 : Nat) : Int) = g382 := by rw [em503]; exact (congrFun (zu_ne (by decide)) _).trans w480
            have w510 : m503.1 66 ((38 : Nat) : Int) = g383 := by rw [em503]; exact (congrFun (zu_ne (by decide)) _).trans w481
            have w511 : m503.1 66 ((8 : Nat) : Int) = g482 := by rw [em503]; exact (congrFun (zu_ne (by decide)) _).trans wg482
            clear w476 w477 w478 w479 w480 w481 wg482
            refine And.intro ⟨by omega, by omega⟩ ?_
            intro x512 hx512 kx512 lx512
            have W0 : x512 = x485 := by rw [hx512, hx485, em503, zu_ne (by decide)]
            have W1 := T483.1.2.2.2.1.2.2.2 v4 (by omega) (by omega)
            have W2 : zTop m503 = zTop m473 := by show m503.1 66 _ = m473.1 66 _; rw [em503, zu_ne (by decide)]
            have T513 := zTI_fr0 T483.1 (fun j a b => by rw [em503, zu_ne (by omega)]) (fun j a b => by rw [em503, zu_ne (by omega)]) W2 (by rw [em503, zu_ne (by decide)])
            refine ⟨zk_X9_make, zm_X9_make hg d (by omega), _, _, _, _, rfl, ⟨by omega, by omega⟩, ⟨by omega, by omega⟩, ⟨by omega, by omega⟩, T513.1.1, (zTE_top (zTE_of T513 (by omega) (by omega)) w511 w510 wg7 wg6 hp5.1 (by omega)), ⟨fun h => by omega, fun h => by omega⟩, (fun i a b => by rw [show i = 0 by omega, em503, zu_at]; have h1 := T483.2.1; have l0 := T483.1.1.1.1; have h2 := W2; rw [em503] at h2; omega), ?_⟩
            intro x514 m515 qm515 kx514 lx514 p516 p517 p518 p519
            have z520 := zfx_t z504 qm515 rfl rfl
            have w521 : m515.1 66 ((31 : Nat) : Int) = g378 := (qm515.2.1 31 rfl).trans w505
            have w522 : m515.1 66 ((30 : Nat) : Int) = g379 := (qm515.2.1 30 rfl).trans w506
            have w523 : m515.1 66 ((33 : Nat) : Int) = g380 := (qm515.2.1 33 rfl).trans w507
            have w524 : m515.1 66 ((34 : Nat) : Int) = g381 := (qm515.2.1 34 rfl).trans w508
            have w525 : m515.1 66 ((32 : Nat) : Int) = g382 := (qm515.2.1 32 rfl).trans w509
            have w526 : m515.1 66 ((38 : Nat) : Int) = g383 := (qm515.2.1 38 rfl).trans w510
            obtain ⟨g527, wg527⟩ : ∃ z : Int, m515.1 66 ((8 : Nat) : Int) = z := ⟨_, rfl⟩
            try rw [w521] at p516
            try rw [w522] at p516
            try rw [w523] at p516
            try rw [w524] at p516
            try rw [w525] at p516
            try rw [w526] at p516
            try rw [wg527] at p516
            try rw [w505] at p516
            try rw [w506] at p516
            try rw [w507] at p516
            try rw [w508] at p516
            try rw [w509] at p516
            try rw [w510] at p516
            try rw [w511] at p516
            try rw [wg1] at p516
            try rw [wg2] at p516
            try rw [wg3] at p516
            try rw [wg4] at p516
            try rw [wg5] at p516
            try rw [wg6] at p516
            try rw [wg7] at p516
            try rw [w521] at p517
            try rw [w522] at p517
            try rw [w523] at p517
            try rw [w524] at p517
            try rw [w525] at p517
            try rw [w526] at p517
            try rw [wg527] at p517
            try rw [w505] at p517
            try rw [w506] at p517
            try rw [w507] at p517
            try rw [w508] at p517
            try rw [w509] at p517
            try rw [w510] at p517
            try rw [w511] at p517
            try rw [wg1] at p517
            try rw [wg2] at p517
            try rw [wg3] at p517
            try rw [wg4] at p517
            try rw [wg5] at p517
            try rw [wg6] at p517
            try rw [wg7] at p517
            try rw [w521] at p518
            try rw [w522] at p518
            try rw [w523] at p518
            try rw [w524] at p518
            try rw [w525] at p518
            try rw [w526] at p518
            try rw [wg527] at p518
            try rw [w505] at p518
            try rw [w506] at p518
            try rw [w507] at p518
            try rw [w508] at p518
            try rw [w509] at p518
            try rw [w510] at p518
            try rw [w511] at p518
            try rw [wg1] at p518
            try rw [wg2] at p518
            try rw [wg3] at p518
            try rw [wg4] at p518
            try rw [wg5] at p518
            try rw [wg6] at p518
            try rw [wg7] at p518
            try rw [w521] at p519
            try rw [w522] at p519
            try rw [w523] at p519
            try rw [w524] at p519
            try rw [w525] at p519
            try rw [w526] at p519
            try rw [wg527] at p519
            try rw [w505] at p519
            try rw [w506] at p519
            try rw [w507] at p519
            try rw [w508] at p519
            try rw [w509] at p519
            try rw [w510] at p519
            try rw [w511] at p519
            try rw [wg1] at p519
            try rw [wg2] at p519
            try rw [wg3] at p519
            try rw [wg4] at p519
            try rw [wg5] at p519
            try rw [wg6] at p519
            try rw [wg7] at p519
            clear w505 w506 w507 w508 w509 w510 w511
            have CE2 : rE m503 x472 (f.2.1 :: f.2.2.flatten) := rE_c (fun j a b => by rw [em503, zu_ne (by omega)]) CE
            have T2 : zTop m503 = zTop m473 := by show m503.1 66 _ = m473.1 66 _; rw [em503, zu_ne (by decide)]
            have L2 := rLx_w L1 em503 (Or.inr (Or.inl rfl))
            have N2 := rNu_w N1 em503 (Or.inl rfl)
            obtain ⟨S2, ZW2⟩ := rFs_w S1 em503 (Or.inr (Or.inl rfl)) ZW1
            have WE := rwr (w := x512) CE2 CT.2.2.2.1 (by rw [T2]; exact CT.2.2.2.2) ZW2 (by omega) p517 (by rw [em503, zu_at]) p519
            have MT : zTop m503 ≤ zTop m515 := by rcases p518 with h0 | h0 <;> omega
            have MX : 0 ≤ x514 ∧ x514 < zTop m515 := ⟨by omega, by rcases p518 with h0 | h0 <;> omega⟩
            have L3 := rLx_z L2 qm515 rfl ⟨rfl, rfl, rfl, rfl, rfl⟩
            have N3 := rNu_z N2 qm515 ⟨rfl, rfl, rfl, rfl, rfl, rfl⟩ ⟨rfl, rfl, rfl, rfl, rfl, rfl⟩
            obtain ⟨S3, ZW3⟩ := rFs_m S2 qm515 rfl p519 MT p516 ZW2
            have T528 := (⟨p516, p517, p518, p519⟩ : zMd m503 m515 lo x512 0 1 (m503.1 74) x514)
            have T529 := zTI_wrap T483.1 T483.2.1 T483.2.2.2.1 T483.2.2.2.2.2 em503 rfl (fun j a b => qm515.1 j (by omega) (zanyF (by simp <;> omega))) (qm515.2.1 38 rfl) T528 (by omega)
            clear T528 p516 p517 p518 p519
            have B1 : zwb m473 v4 = 1 := zwb_1 (by omega)
            have B2 := T529.2.2.2.2 v4
            have B3 := B2.2 hv4.1 (by omega)
            have T530 := zTI_bk1 T529.1 B1 B2.1
            have B4 : m515.1 71 x514 ≤ 1 + zwb m515 v4 + zoa m515 v4 (zok m515 v4) := by have h1 := T529.2.2.1; have h2 := T483.2.2.1; omega
            have B5 : v4 = 1 → v2 = 1 → m515.1 67 x514 ≤ 2 := fun a b => by have h := T483.1.2.2.2.1.2.1 b (by omega); have h2 : m473.1 104 v4 = m473.1 104 1 := (by rw [a]); omega
            have B6 := T529.2.1
            have B7 := T529.2.2.2.1
            have O1 : m515.1 100 (v4 + (-1)) = 0 := by rw [qm515.1 100 (by decide) rfl, em503, zu_ne (by decide), qm473.1 100 (by decide) rfl]; exact T385.2.2.1 _ (by omega) (by omega)
            obtain ⟨g, r, rfl, D2⟩ : ∃ g r2, r = g :: r2 ∧ (r2.length : Int) = v4 + (-1) := by cases r with | nil => simp at D1; omega | cons a b => exact ⟨a, b, rfl, by simp only [List.length_cons] at D1; omega⟩
            have R1 := yR_s R0 (rym12_s MB H5)
            have XW : x485 = m0.1 104 v4 := by rw [hx485, qm473.1 104 (by decide) rfl]
            have CY : rE m515 x514 (ycd f) := by have h0 := WE; rw [W0, XW, ← F1.1] at h0; exact h0
            refine ⟨zk_X9_addArg, zm_X9_addArg hg d (by omega), _, _, rfl, ⟨by omega, by omega⟩, ⟨by omega, by omega⟩, (zTI_cnt T530 (by omega) (by omega) (by decide) w526 wg6 (by omega) hp5.2.1), ?_⟩
            intro m531 qm531 p532 p533 p534 p535
            have z536 := zfx_t z520 qm531 rfl rfl
            have w537 : m531.1 66 ((31 : Nat) : Int) = g378 := (qm531.2.1 31 rfl).trans w521
            have w538 : m531.1 66 ((30 : Nat) : Int) = g379 := (qm531.2.1 30 rfl).trans w522
            have w539 : m531.1 66 ((33 : Nat) : Int) = g380 := (qm531.2.1 33 rfl).trans w523
            have w540 : m531.1 66 ((34 : Nat) : Int) = g381 := (qm531.2.1 34 rfl).trans w524
            have w541 : m531.1 66 ((32 : Nat) : Int) = g382 := (qm531.2.1 32 rfl).trans w525
            have w542 : m531.1 66 ((38 : Nat) : Int) = g383 := (qm531.2.1 38 rfl).trans w526
            have w543 : m531.1 66 ((8 : Nat) : Int) = g527 := (qm531.2.1 8 rfl).trans wg527
            try rw [w537] at p532
            try rw [w538] at p532
            try rw [w539] at p532
            try rw [w540] at p532
            try rw [w541] at p532
            try rw [w542] at p532
            try rw [w543] at p532
            try rw [w521] at p532
            try rw [w522] at p532
            try rw [w523] at p532
            try rw [w524] at p532
            try rw [w525] at p532
            try rw [w526] at p532
            try rw [wg527] at p532
            try rw [wg1] at p532
            try rw [wg2] at p532
            try rw [wg3] at p532
            try rw [wg4] at p532
            try rw [wg5] at p532
            try rw [wg6] at p532
            try rw [wg7] at p532
            try rw [w537] at p533
            try rw [w538] at p533
            try rw [w539] at p533
            try rw [w540] at p533
            try rw [w541] at p533
            try rw [w542] at p533
            try rw [w543] at p533
            try rw [w521] at p533
            try rw [w522] at p533
            try rw [w523] at p533
            try rw [w524] at p533
            try rw [w525] at p533
            try rw [w526] at p533
            try rw [wg527] at p533
            try rw [wg1] at p533
            try rw [wg2] at p533
            try rw [wg3] at p533
            try rw [wg4] at p533
            try rw [wg5] at p533
            try rw [wg6] at p533
            try rw [wg7] at p533
            try rw [w537] at p534
            try rw [w538] at p534
            try rw [w539] at p534
            try rw [w540] at p534
            try rw [w541] at p534
            try rw [w542] at p534
            try rw [w543] at p534
            try rw [w521] at p534
            try rw [w522] at p534
            try rw [w523] at p534
            try rw [w524] at p534
            try rw [w525] at p534
            try rw [w526] at p534
            try rw [wg527] at p534
            try rw [wg1] at p534
            try rw [wg2] at p534
            try rw [wg3] at p534
            try rw [wg4] at p534
            try rw [wg5] at p534
            try rw [wg6] at p534
            try rw [wg7] at p534
            try rw [w537] at p535
            try rw [w538] at p535
            try rw [w539] at p535
            try rw [w540] at p535
            try rw [w541] at p535
            try rw [w542] at p535
            try rw [w543] at p535
            try rw [w521] at p535
            try rw [w522] at p535
            try rw [w523] at p535
            try rw [w524] at p535
            try rw [w525] at p535
            try rw [w526] at p535
            try rw [wg527] at p535
            try rw [wg1] at p535
            try rw [wg2] at p535
            try rw [wg3] at p535
            try rw [wg4] at p535
            try rw [wg5] at p535
            try rw [wg6] at p535
            try rw [wg7] at p535
            clear w521 w522 w523 w524 w525 w526 wg527
            have T544 := zTI_back T530 (by omega) (show v4 + (-1) = v4 - 1 by omega) (fun j a b c => qm531.1 j a (zanyF (by simp <;> omega))) (qm531.2.1 8 rfl) (qm531.2.1 38 rfl) p532 p533 p534 p535 B6 B4 B5 B7
            have O545 : m531.1 100 (v4 + (-1)) = 0 := by rw [qm531.1 100 (by decide) rfl]; exact O1
            have L4 := rLx_z L3 qm531 rfl ⟨rfl, rfl, rfl, rfl, rfl⟩
            have N4 := rNu_z N3 qm531 ⟨rfl, rfl, rfl, rfl, rfl, rfl⟩ ⟨rfl, rfl, rfl, rfl, rfl, rfl⟩
            have S4 := rFs_add S3 D2.symm O1 p532 p533 p534 p535 (fun j hj => by rcases hj with h | h | h | h; (rcases (show j = 67 ∨ j = 68 ∨ j = 69 ∨ j = 70 ∨ j = 71 by omega) with e | e | e | e | e <;> subst e <;> exact qm531.1 _ (by decide) rfl); (subst h; exact qm531.1 100 (by decide) rfl); (subst h; exact qm531.1 101 (by decide) rfl); (subst h; exact qm531.1 104 (by decide) rfl)) (qm531.2.1 8 rfl) MX CY ZW3
            refine Exists.intro (2 * zrT m531 3 + 1) (And.intro (zrd2 (zrT_st (by unfold zrm; simp only [w537, w538, w539, w540, w541, w542, w543, wg378, wg379, wg380, wg381, wg382, wg383, wg384, wg1, wg2, wg3, wg4, wg5, wg6, wg7]) (zrm_0 (by (try rw [w537]) <;> (try rw [w538]) <;> (try rw [w539]) <;> (try rw [w540]) <;> (try rw [w541]) <;> (try rw [w542]) <;> (try rw [w543]) <;> (try rw [wg378]) <;> (try rw [wg379]) <;> (try rw [wg380]) <;> (try rw [wg381]) <;> (try rw [wg382]) <;> (try rw [wg383]) <;> (try rw [wg384]) <;> (try rw [wg1]) <;> (try rw [wg2]) <;> (try rw [wg3]) <;> (try rw [wg4]) <;> (try rw [wg5]) <;> (try rw [wg6]) <;> (try rw [wg7]) <;> omega)) (by omega) (by omega))) ?_)
            exact ⟨(fun _ => ⟨_, _, _, _, _, rfl, z536, ⟨by omega, by omega⟩, ⟨by omega, by omega⟩, ⟨by omega, by omega⟩, ⟨by omega, by omega⟩, ⟨by omega, by omega⟩, ⟨rfl, rfl, rfl⟩, (by (try rw [w537]) <;> (try rw [w538]) <;> (try rw [w539]) <;> (try rw [w540]) <;> (try rw [w541]) <;> (try rw [w542]) <;> (try rw [w543]) <;> (try rw [wg378]) <;> (try rw [wg379]) <;> (try rw [wg380]) <;> (try rw [wg381]) <;> (try rw [wg382]) <;> (try rw [wg383]) <;> (try rw [wg384]) <;> (try rw [wg1]) <;> (try rw [wg2]) <;> (try rw [wg3]) <;> (try rw [wg4]) <;> (try rw [wg5]) <;> (try rw [wg6]) <;> (try rw [wg7]) <;> omega), (by (try rw [w537]) <;> (try rw [w538]) <;> (try rw [w539]) <;> (try rw [w540]) <;> (try rw [w541]) <;> (try rw [w542]) <;> (try rw [w543]) <;> (try rw [wg378]) <;> (try rw [wg379]) <;> (try rw [wg380]) <;> (try rw [wg381]) <;> (try rw [wg382]) <;> (try rw [wg383]) <;> (try rw [wg384]) <;> (try rw [wg1]) <;> (try rw [wg2]) <;> (try rw [wg3]) <;> (try rw [wg4]) <;> (try rw [wg5]) <;> (try rw [wg6]) <;> (try rw [wg7]) <;> omega), ⟨fun h => absurd h (by decide), fun _ => T544⟩, (fun h => O545), (Or.inr (by omega)), (by have h6 := i6; unfold zrm at h6 ⊢; simp only [w537, w538, w539, w540, w541, w542, w543, wg378, wg379, wg380, wg381, wg382, wg383, wg384, wg1, wg2, wg3, wg4, wg5, wg6, wg7] at h6 ⊢; (repeat' split at h6) <;> (repeat' split) <;> omega), (by (try rw [w537]) <;> (try rw [w538]) <;> (try rw [w539]) <;> (try rw [w540]) <;> (try rw [w541]) <;> (try rw [w542]) <;> (try rw [w543]) <;> (try rw [wg378]) <;> (try rw [wg379]) <;> (try rw [wg380]) <;> (try rw [wg381]) <;> (try rw [wg382]) <;> (try rw [wg383]) <;> (try rw [wg384]) <;> (try rw [wg1]) <;> (try rw [wg2]) <;> (try rw [wg3]) <;> (try rw [wg4]) <;> (try rw [wg5]) <;> (try rw [wg6]) <;> (try rw [wg7]) <;> omega), (Or.inr V3), ⟨_, _, _, L4, N4, S4, Or.inr (Or.inr (Or.inr ⟨rfl, R1, by simp only [yadd, List.length_cons]; omega⟩))⟩, rfl⟩), (fun h => absurd h (by decide)), (fun h => absurd h (by decide)), (fun h => absurd h (by decide)), (fun h => absurd h (by decide))⟩
        · obtain rfl : r = [] := List.length_eq_zero_iff.mp (by omega)
          have R1 := yR_s R0 (rym12_0 MB H5)
          have FW : f.1 = 0 := by rw [F1.1, show v4 = 0 by omega]; exact T385.2.2.2.1.2.2.1
          have EF : ((0, f.2.1, f.2.2) : yF) = f := by rw [← FW]
          exact And.intro trivial (And.intro ⟨by omega, by omega⟩ (hQ _ _ z475 (by omega) (by omega) (by (try rw [w476]) <;> (try rw [w477]) <;> (try rw [w478]) <;> (try rw [w479]) <;> (try rw [w480]) <;> (try rw [w481]) <;> (try rw [wg482]) <;> (try rw [wg378]) <;> (try rw [wg379]) <;> (try rw [wg380]) <;> (try rw [wg381]) <;> (try rw [wg382]) <;> (try rw [wg383]) <;> (try rw [wg384]) <;> (try rw [wg1]) <;> (try rw [wg2]) <;> (try rw [wg3]) <;> (try rw [wg4]) <;> (try rw [wg5]) <;> (try rw [wg6]) <;> (try rw [wg7]) <;> omega) (by (try rw [w476]) <;> (try rw [w477]) <;> (try rw [w478]) <;> (try rw [w479]) <;> (try rw [w480]) <;> (try rw [w481]) <;> (try rw [wg482]) <;> (try rw [wg378]) <;> (try rw [wg379]) <;> (try rw [wg380]) <;> (try rw [wg381]) <;> (try rw [wg382]) <;> (try rw [wg383]) <;> (try rw [wg384]) <;> (try rw [wg1]) <;> (try rw [wg2]) <;> (try rw [wg3]) <;> (try rw [wg4]) <;> (try rw [wg5]) <;> (try rw [wg6]) <;> (try rw [wg7]) <;> omega) (zTE_of T483.1 (by omega) (by omega)) (by (try rw [w476]) <;> (try rw [w477]) <;> (try rw [w478]) <;> (try rw [w479]) <;> (try rw [w480]) <;> (try rw [w481]) <;> (try rw [wg482]) <;> (try rw [wg378]) <;> (try rw [wg379]) <;> (try rw [wg380]) <;> (try rw [wg381]) <;> (try rw [wg382]) <;> (try rw [wg383]) <;> (try rw [wg384]) <;> (try rw [wg1]) <;> (try rw [wg2]) <;> (try rw [wg3]) <;> (try rw [wg4]) <;> (try rw [wg5]) <;> (try rw [wg6]) <;> (try rw [wg7]) <;> omega) (Or.inr (by have h6 := i6; unfold zrm at h6 ⊢; simp only [w476, w477, w478, w479, w480, w481, wg482, wg378, wg379, wg380, wg381, wg382, wg383, wg384, wg1, wg2, wg3, wg4, wg5, wg6, wg7] at h6 ⊢; (repeat' split at h6) <;> (repeat' split) <;> omega)) (Or.inr ⟨T483.2.1.1, T483.2.1.2, T483.2.2.2.1, (T483.2.2.2.2.1 (by omega)).1, (T483.2.2.2.2.1 (by omega)).2, T483.2.2.2.2.2, zTI_done T483.1 (by omega) T483.2.2.1⟩) (by omega) (Or.inr ⟨by omega, p0, n0, f.2.1, f.2.2, by rw [EF]; exact R1, L1, N1, CE⟩)))
      · have nc470 : yNe x466 x469 := c470
        clear c470
        refine ⟨yk_X9_fail, ym_X9_fail hg d (by omega), _, rfl, ⟨by omega, by omega⟩, ?_⟩
        intro x546 m547 qm547 kx546 lx546 p548
        have z549 := zfx_t z0 qm547 rfl rfl
        have w550 : m547.1 66 ((31 : Nat) : Int) = g378 := (qm547.2.1 31 rfl).trans wg378
        have w551 : m547.1 66 ((30 : Nat) : Int) = g379 := (qm547.2.1 30 rfl).trans wg379
        have w552 : m547.1 66 ((33 : Nat) : Int) = g380 := (qm547.2.1 33 rfl).trans wg380
        have w553 : m547.1 66 ((34 : Nat) : Int) = g381 := (qm547.2.1 34 rfl).trans wg381
        have w554 : m547.1 66 ((32 : Nat) : Int) = g382 := (qm547.2.1 32 rfl).trans wg382
        have w555 : m547.1 66 ((38 : Nat) : Int) = g383 := (qm547.2.1 38 rfl).trans wg383
        have w556 : m547.1 66 ((8 : Nat) : Int) = g384 := (qm547.2.1 8 rfl).trans wg384
        exact And.intro trivial (And.intro ⟨by omega, by omega⟩ (hQ _ _ z549 (by omega) (by omega) (by (try rw [w550]) <;> (try rw [w551]) <;> (try rw [w552]) <;> (try rw [w553]) <;> (try rw [w554]) <;> (try rw [w555]) <;> (try rw [w556]) <;> (try rw [wg378]) <;> (try rw [wg379]) <;> (try rw [wg380]) <;> (try rw [wg381]) <;> (try rw [wg382]) <;> (try rw [wg383]) <;> (try rw [wg384]) <;> (try rw [wg1]) <;> (try rw [wg2]) <;> (try rw [wg3]) <;> (try rw [wg4]) <;> (try rw [wg5]) <;> (try rw [wg6]) <;> (try rw [wg7]) <;> omega) (by (try rw [w550]) <;> (try rw [w551]) <;> (try rw [w552]) <;> (try rw [w553]) <;> (try rw [w554]) <;> (try rw [w555]) <;> (try rw [w556]) <;> (try rw [wg378]) <;> (try rw [wg379]) <;> (try rw [wg380]) <;> (try rw [wg381]) <;> (try rw [wg382]) <;> (try rw [wg383]) <;> (try rw [wg384]) <;> (try rw [wg1]) <;> (try rw [wg2]) <;> (try rw [wg3]) <;> (try rw [wg4]) <;> (try rw [wg5]) <;> (try rw [wg6]) <;> (try rw [wg7]) <;> omega) (zTE_fr (zTE_of T385 (by omega) (by have := zwb_nn m0 v4; omega)) (fun j a b => qm547.1 j (by omega) (zanyF (by simp <;> omega))) (qm547.2.1 8 rfl) (by (try rw [w550]) <;> (try rw [w551]) <;> (try rw [w552]) <;> (try rw [w553]) <;> (try rw [w554]) <;> (try rw [w555]) <;> (try rw [w556]) <;> (try rw [wg378]) <;> (try rw [wg379]) <;> (try rw [wg380]) <;> (try rw [wg381]) <;> (try rw [wg382]) <;> (try rw [wg383]) <;> (try rw [wg384]) <;> (try rw [wg1]) <;> (try rw [wg2]) <;> (try rw [wg3]) <;> (try rw [wg4]) <;> (try rw [wg5]) <;> (try rw [wg6]) <;> (try rw [wg7]) <;> omega)) (by (try rw [w550]) <;> (try rw [w551]) <;> (try rw [w552]) <;> (try rw [w553]) <;> (try rw [w554]) <;> (try rw [w555]) <;> (try rw [w556]) <;> (try rw [wg378]) <;> (try rw [wg379]) <;> (try rw [wg380]) <;> (try rw [wg381]) <;> (try rw [wg382]) <;> (try rw [wg383]) <;> (try rw [wg384]) <;> (try rw [wg1]) <;> (try rw [wg2]) <;> (try rw [wg3]) <;> (try rw [wg4]) <;> (try rw [wg5]) <;> (try rw [wg6]) <;> (try rw [wg7]) <;> omega) (Or.inl rfl) (Or.inl rfl) (by omega) (Or.inl ⟨rfl, rFa_t R0 (rFa_f L0 N0.1.2.2.2.2.2 (yR_s (yR_r τ _) (rym12_5 MB (fun h0 => nc470 (by omega)))) p548)⟩)))
  · have bc388 := yp0 p387 c388
    refine ⟨yk_X9_fail, ym_X9_fail hg d (by omega), _, rfl, ⟨by omega, by omega⟩, ?_⟩
    intro x557 m558 qm558 kx557 lx557 p559
    have z560 := zfx_t z0 qm558 rfl rfl
    have w561 : m558.1 66 ((31 : Nat) : Int) = g378 := (qm558.2.1 31 rfl).trans wg378
    have w562 : m558.1 66 ((30 : Nat) : Int) = g379 := (qm558.2.1 30 rfl).trans wg379
    have w563 : m558.1 66 ((33 : Nat) : Int) = g380 := (qm558.2.1 33 rfl).trans wg380
    have w564 : m558.1 66 ((34 : Nat) : Int) = g381 := (qm558.2.1 34 rfl).trans wg381
    have w565 : m558.1 66 ((32 : Nat) : Int) = g382 := (qm558.2.1 32 rfl).trans wg382
    have w566 : m558.1 66 ((38 : Nat) : Int) = g383 := (qm558.2.1 38 rfl).trans wg383
    have w567 : m558.1 66 ((8 : Nat) : Int) = g384 := (qm558.2.1 8 rfl).trans wg384
    exact And.intro trivial (And.intro ⟨by omega, by omega⟩ (hQ _ _ z560 (by omega) (by omega) (by (try rw [w561]) <;> (try rw [w562]) <;> (try rw [w563]) <;> (try rw [w564]) <;> (try rw [w565]) <;> (try rw [w566]) <;> (try rw [w567]) <;> (try rw [wg378]) <;> (try rw [wg379]) <;> (try rw [wg380]) <;> (try rw [wg381]) <;> (try rw [wg382]) <;> (try rw [wg383]) <;> (try rw [wg384]) <;> (try rw [wg1]) <;> (try rw [wg2]) <;> (try rw [wg3]) <;> (try rw [wg4]) <;> (try rw [wg5]) <;> (try rw [wg6]) <;> (try rw [wg7]) <;> omega) (by (try rw [w561]) <;> (try rw [w562]) <;> (try rw [w563]) <;> (try rw [w564]) <;> (try rw [w565]) <;> (try rw [w566]) <;> (try rw [w567]) <;> (try rw [wg378]) <;> (try rw [wg379]) <;> (try rw [wg380]) <;> (try rw [wg381]) <;> (try rw [wg382]) <;> (try rw [wg383]) <;> (try rw [wg384]) <;> (try rw [wg1]) <;> (try rw [wg2]) <;> (try rw [wg3]) <;> (try rw [wg4]) <;> (try rw [wg5]) <;> (try rw [wg6]) <;> (try rw [wg7]) <;> omega) (zTE_fr (zTE_of T385 (by omega) (by have := zwb_nn m0 v4; omega)) (fun j a b => qm558.1 j (by omega) (zanyF (by simp <;> omega))) (qm558.2.1 8 rfl) (by (try rw [w561]) <;> (try rw [w562]) <;> (try rw [w563]) <;> (try rw [w564]) <;> (try rw [w565]) <;> (try rw [w566]) <;> (try rw [w567]) <;> (try rw [wg378]) <;> (try rw [wg379]) <;> (try rw [wg380]) <;> (try rw [wg381]) <;> (try rw [wg382]) <;> (try rw [wg383]) <;> (try rw [wg384]) <;> (try rw [wg1]) <;> (try rw [wg2]) <;> (try rw [wg3]) <;> (try rw [wg4]) <;> (try rw [wg5]) <;> (try rw [wg6]) <;> (try rw [wg7]) <;> omega)) (by (try rw [w561]) <;> (try rw [w562]) <;> (try rw [w563]) <;> (try rw [w564]) <;> (try rw [w565]) <;> (try rw [w566]) <;> (try rw [w567]) <;> (try rw [wg378]) <;> (try rw [wg379]) <;> (try rw [wg380]) <;> (try rw [wg381]) <;> (try rw [wg382]) <;> (try rw [wg383]) <;> (try rw [wg384]) <;> (try rw [wg1]) <;> (try rw [wg2]) <;> (try rw [wg3]) <;> (try rw [wg4]) <;> (try rw [wg5]) <;> (try rw [wg6]) <;> (try rw [wg7]) <;> omega) (Or.inl rfl) (Or.inl rfl) (by omega) (Or.inl ⟨rfl, rFa_t R0 (rFa_f L0 N0.1.2.2.2.2.2 (yR_s (yR_r τ _) (rym12_2 (fun h0 => bc388 (MY.mpr h0)))) p559)⟩)))
