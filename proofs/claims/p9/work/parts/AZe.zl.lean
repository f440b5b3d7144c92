set_option maxHeartbeats 4000000 in
theorem ym_X9_readType_18 {g : zΓ} (hg : zg g) (d : Nat) (hd : 5 ≤ d + 1) (μ : zM) (Q : Option zV → zM → Prop) (a1 : Int) (a2 : Int) (a3 : Int) (lo : Int) (C : Int) (Pn : Int) (F : Int) (cf : Int → Int) (pa : Int) (pe : Int) (τ : yT) (p : Int) (B : yB) (cb : Int) (pb : Int) (ha1 : ((-1) ≤ a1 ∧ a1 ≤ 20)) (ha2 : (0 ≤ a2 ∧ a2 ≤ 4)) (ha3 : (0 ≤ a3 ∧ a3 ≤ 1)) (hp0 : (0 ≤ μ.1 66 ((33 : Nat) : Int) ∧ 0 ≤ μ.1 66 ((34 : Nat) : Int) ∧ μ.1 66 ((33 : Nat) : Int) + μ.1 66 ((34 : Nat) : Int) ≤ μ.1 66 ((31 : Nat) : Int) ∧ μ.1 66 ((31 : Nat) : Int) ≤ μ.1 66 ((30 : Nat) : Int) ∧ μ.1 66 ((30 : Nat) : Int) ≤ 800)) (hp1 : (zND μ lo)) (hp2 : (zWf μ lo (zTop μ) C Pn F cf)) (hp3 : (μ.1 66 ((26 : Nat) : Int) ≤ C ∧ (0 ≤ a1 → μ.1 76 (μ.1 66 ((24 : Nat) : Int) + a1) + μ.1 77 (μ.1 66 ((24 : Nat) : Int) + a1) ≤ Pn) ∧ C ≤ 21 ∧ Pn ≤ 80)) (hp4 : (∀ v : Int, 0 ≤ v → v < C → cf v = μ.1 77 (μ.1 66 ((24 : Nat) : Int) + v))) (hp5 : (μ.1 66 ((8 : Nat) : Int) - μ.1 66 ((38 : Nat) : Int) ≤ 19699 ∧ 0 ≤ μ.1 66 ((38 : Nat) : Int) ∧ μ.1 66 ((38 : Nat) : Int) ≤ 300)) (hp6 : (0 ≤ a1 → pa ≤ μ.1 76 (μ.1 66 ((24 : Nat) : Int) + a1) ∧ μ.1 76 (μ.1 66 ((24 : Nat) : Int) + a1) + μ.1 77 (μ.1 66 ((24 : Nat) : Int) + a1) ≤ pe)) (hp7 : (rLx μ τ p ∧ rNg cb pb μ B)) (hp8 : (yI0 B ∧ a1 = B.1 0 3)) (hp9 : (a2 = B.1 0 4 ∧ a3 = (if B.1 0 5 = 0 then 0 else 1))) (hp10 : (C = B.1 0 0)) (hQ : ∀ (v : Int) (μ' : zM), zfx [67, 68, 69, 70, 71, 72, 73, 74, 100, 101, 102, 103, 104] [8, 31, 32, 33, 34, 35, 36, 38] μ μ' → (-1) ≤ v → v ≤ 19999 → (0 ≤ μ'.1 66 ((33 : Nat) : Int) ∧ 0 ≤ μ'.1 66 ((34 : Nat) : Int) ∧ μ'.1 66 ((33 : Nat) : Int) + μ'.1 66 ((34 : Nat) : Int) ≤ μ'.1 66 ((31 : Nat) : Int) ∧ μ'.1 66 ((31 : Nat) : Int) ≤ μ'.1 66 ((30 : Nat) : Int) ∧ μ'.1 66 ((30 : Nat) : Int) ≤ 800) → (μ'.1 66 ((30 : Nat) : Int) = μ.1 66 ((30 : Nat) : Int)) → (zTE μ μ' lo C Pn F cf) → (0 ≤ μ'.1 66 ((38 : Nat) : Int) ∧ μ'.1 66 ((38 : Nat) : Int) ≤ 300) → (v = -1 ∨ zrm μ' ≤ zrm μ) → (v = -1 ∨ (lo ≤ v ∧ v < zTop μ' ∧ μ'.1 67 v ≤ 1 ∧ (a2 ≤ 1 → μ'.1 67 v = 0) ∧ (a2 = 1 → μ'.1 68 v ≠ a1 ∧ ∀ i : Int, 0 ≤ i → i < μ'.1 69 v → μ'.1 67 (μ'.1 70 (4 * v + i)) ≤ 2) ∧ zPar μ' pa pe v ∧ μ'.1 71 v ≤ zTn μ μ')) → (a3 = 0 ∨ v = -1) → ((v = -1 ∧ rFa τ (10, p, 0, [], B) μ') ∨ (0 ≤ v ∧ ∃ p' n h as, yR τ (10, p, 0, [], B) (14, p', 0, [(0, h, as)], yN B 0 2 n) ∧ rLx μ' τ p' ∧ rNg cb pb μ' (yN B 0 2 n) ∧ rE μ' v (h :: as.flatten))) → Q (some (.inl v)) μ') : ∀ (vs : List zV) (m0 : zM) (n : Nat), yi_X9_readType μ a1 a2 a3 lo C Pn F cf pa pe τ p B cb pb 18 vs m0 n → zw (zOk g d) mt_X9_readType ([(13, [0, 1, 2, 3, 4, 5]), (18, [0, 1, 2, 3, 4, 5]), (111, [0, 1, 2, 3, 4, 5]), (272, [0, 1, 2, 3, 4, 5]), (403, [0, 1, 2, 3, 4, 5])], []) (fun pc' vs' μ'' => ∃ n', n' < n ∧ yi_X9_readType μ a1 a2 a3 lo C Pn F cf pa pe τ p B cb pb pc' vs' μ'' n') Q (fun _ _ => False) 246 true (zsuf 18 mt_X9_readType.2.2.2.2.1) (zzip [0, 1, 2, 3, 4, 5] vs) [] m0 := by
  obtain ⟨g1, wg1⟩ : ∃ z : Int, μ.1 66 ((31 : Nat) : Int) = z := ⟨_, rfl⟩
  obtain ⟨g2, wg2⟩ : ∃ z : Int, μ.1 66 ((30 : Nat) : Int) = z := ⟨_, rfl⟩
  obtain ⟨g3, wg3⟩ : ∃ z : Int, μ.1 66 ((33 : Nat) : Int) = z := ⟨_, rfl⟩
  obtain ⟨g4, wg4⟩ : ∃ z : Int, μ.1 66 ((34 : Nat) : Int) = z := ⟨_, rfl⟩
  obtain ⟨g5, wg5⟩ : ∃ z : Int, μ.1 66 ((32 : Nat) : Int) = z := ⟨_, rfl⟩
  obtain ⟨g6, wg6⟩ : ∃ z : Int, μ.1 66 ((38 : Nat) : Int) = z := ⟨_, rfl⟩
  obtain ⟨g7, wg7⟩ : ∃ z : Int, μ.1 66 ((8 : Nat) : Int) = z := ⟨_, rfl⟩
  try rw [wg1] at hp0
  try rw [wg2] at hp0
  try rw [wg3] at hp0
  try rw [wg4] at hp0
  try rw [wg5] at hp0
  try rw [wg6] at hp0
  try rw [wg7] at hp0
  try rw [wg1] at hp1
  try rw [wg2] at hp1
  try rw [wg3] at hp1
  try rw [wg4] at hp1
  try rw [wg5] at hp1
  try rw [wg6] at hp1
  try rw [wg7] at hp1
  try rw [wg1] at hp2
  try rw [wg2] at hp2
  try rw [wg3] at hp2
  try rw [wg4] at hp2
  try rw [wg5] at hp2
  try rw [wg6] at hp2
  try rw [wg7] at hp2
  try rw [wg1] at hp3
  try rw [wg2] at hp3
  try rw [wg3] at hp3
  try rw [wg4] at hp3
  try rw [wg5] at hp3
  try rw [wg6] at hp3
  try rw [wg7] at hp3
  try rw [wg1] at hp4
  try rw [wg2] at hp4
  try rw [wg3] at hp4
  try rw [wg4] at hp4
  try rw [wg5] at hp4
  try rw [wg6] at hp4
  try rw [wg7] at hp4
  try rw [wg1] at hp5
  try rw [wg2] at hp5
  try rw [wg3] at hp5
  try rw [wg4] at hp5
  try rw [wg5] at hp5
  try rw [wg6] at hp5
  try rw [wg7] at hp5
  try rw [wg1] at hp6
  try rw [wg2] at hp6
  try rw [wg3] at hp6
  try rw [wg4] at hp6
  try rw [wg5] at hp6
  try rw [wg6] at hp6
  try rw [wg7] at hp6
  try rw [wg1] at hp7
  try rw [wg2] at hp7
  try rw [wg3] at hp7
  try rw [wg4] at hp7
  try rw [wg5] at hp7
  try rw [wg6] at hp7
  try rw [wg7] at hp7
  try rw [wg1] at hp8
  try rw [wg2] at hp8
  try rw [wg3] at hp8
  try rw [wg4] at hp8
  try rw [wg5] at hp8
  try rw [wg6] at hp8
  try rw [wg7] at hp8
  try rw [wg1] at hp9
  try rw [wg2] at hp9
  try rw [wg3] at hp9
  try rw [wg4] at hp9
  try rw [wg5] at hp9
  try rw [wg6] at hp9
  try rw [wg7] at hp9
  try rw [wg1] at hp10
  try rw [wg2] at hp10
  try rw [wg3] at hp10
  try rw [wg4] at hp10
  try rw [wg5] at hp10
  try rw [wg6] at hp10
  try rw [wg7] at hp10
  have z0 : zfx [67, 68, 69, 70, 71, 72, 73, 74, 100, 101, 102, 103, 104] [8, 31, 32, 33, 34, 35, 36, 38] μ μ := zfx_x μ
  intro vs m0 n hI
  replace hI := hI.2.1 rfl
  clear z0
  obtain ⟨v1, v2, v3, v4, v5, rfl, z0, hv1, hv2, hv3, hv4, hv5, i0, i1, i2, i3, i4, i5, i6, i7, i8, i9, i10, rfl⟩ := hI
  obtain ⟨j1, j2, j3⟩ := i0
  subst j1 j2 j3
  have vne : v5 = 0 := by omega
  obtain ⟨g20, wg20⟩ : ∃ z : Int, m0.1 66 ((31 : Nat) : Int) = z := ⟨_, rfl⟩
  obtain ⟨g21, wg21⟩ : ∃ z : Int, m0.1 66 ((30 : Nat) : Int) = z := ⟨_, rfl⟩
  obtain ⟨g22, wg22⟩ : ∃ z : Int, m0.1 66 ((33 : Nat) : Int) = z := ⟨_, rfl⟩
  obtain ⟨g23, wg23⟩ : ∃ z : Int, m0.1 66 ((34 : Nat) : Int) = z := ⟨_, rfl⟩
  obtain ⟨g24, wg24⟩ : ∃ z : Int, m0.1 66 ((32 : Nat) : Int) = z := ⟨_, rfl⟩
  obtain ⟨g25, wg25⟩ : ∃ z : Int, m0.1 66 ((38 : Nat) : Int) = z := ⟨_, rfl⟩
  obtain ⟨g26, wg26⟩ : ∃ z : Int, m0.1 66 ((8 : Nat) : Int) = z := ⟨_, rfl⟩
  try rw [wg20] at i0
  try rw [wg21] at i0
  try rw [wg22] at i0
  try rw [wg23] at i0
  try rw [wg24] at i0
  try rw [wg25] at i0
  try rw [wg26] at i0
  try rw [wg1] at i0
  try rw [wg2] at i0
  try rw [wg3] at i0
  try rw [wg4] at i0
  try rw [wg5] at i0
  try rw [wg6] at i0
  try rw [wg7] at i0
  try rw [wg20] at i1
  try rw [wg21] at i1
  try rw [wg22] at i1
  try rw [wg23] at i1
  try rw [wg24] at i1
  try rw [wg25] at i1
  try rw [wg26] at i1
  try rw [wg1] at i1
  try rw [wg2] at i1
  try rw [wg3] at i1
  try rw [wg4] at i1
  try rw [wg5] at i1
  try rw [wg6] at i1
  try rw [wg7] at i1
  try rw [wg20] at i2
  try rw [wg21] at i2
  try rw [wg22] at i2
  try rw [wg23] at i2
  try rw [wg24] at i2
  try rw [wg25] at i2
  try rw [wg26] at i2
  try rw [wg1] at i2
  try rw [wg2] at i2
  try rw [wg3] at i2
  try rw [wg4] at i2
  try rw [wg5] at i2
  try rw [wg6] at i2
  try rw [wg7] at i2
  try rw [wg20] at i3
  try rw [wg21] at i3
  try rw [wg22] at i3
  try rw [wg23] at i3
  try rw [wg24] at i3
  try rw [wg25] at i3
  try rw [wg26] at i3
  try rw [wg1] at i3
  try rw [wg2] at i3
  try rw [wg3] at i3
  try rw [wg4] at i3
  try rw [wg5] at i3
  try rw [wg6] at i3
  try rw [wg7] at i3
  try rw [wg20] at i4
  try rw [wg21] at i4
  try rw [wg22] at i4
  try rw [wg23] at i4
  try rw [wg24] at i4
  try rw [wg25] at i4
  try rw [wg26] at i4
  try rw [wg1] at i4
  try rw [wg2] at i4
  try rw [wg3] at i4
  try rw [wg4] at i4
  try rw [wg5] at i4
  try rw [wg6] at i4
  try rw [wg7] at i4
  try rw [wg20] at i5
  try rw [wg21] at i5
  try rw [wg22] at i5
  try rw [wg23] at i5
  try rw [wg24] at i5
  try rw [wg25] at i5
  try rw [wg26] at i5
  try rw [wg1] at i5
  try rw [wg2] at i5
  try rw [wg3] at i5
  try rw [wg4] at i5
  try rw [wg5] at i5
  try rw [wg6] at i5
  try rw [wg7] at i5
  try rw [wg20] at i6
  try rw [wg21] at i6
  try rw [wg22] at i6
  try rw [wg23] at i6
  try rw [wg24] at i6
  try rw [wg25] at i6
  try rw [wg26] at i6
  try rw [wg1] at i6
  try rw [wg2] at i6
  try rw [wg3] at i6
  try rw [wg4] at i6
  try rw [wg5] at i6
  try rw [wg6] at i6
  try rw [wg7] at i6
  try rw [wg20] at i7
  try rw [wg21] at i7
  try rw [wg22] at i7
  try rw [wg23] at i7
  try rw [wg24] at i7
  try rw [wg25] at i7
  try rw [wg26] at i7
  try rw [wg1] at i7
  try rw [wg2] at i7
  try rw [wg3] at i7
  try rw [wg4] at i7
  try rw [wg5] at i7
  try rw [wg6] at i7
  try rw [wg7] at i7
  try rw [wg20] at i8
  try rw [wg21] at i8
  try rw [wg22] at i8
  try rw [wg23] at i8
  try rw [wg24] at i8
  try rw [wg25] at i8
  try rw [wg26] at i8
  try rw [wg1] at i8
  try rw [wg2] at i8
  try rw [wg3] at i8
  try rw [wg4] at i8
  try rw [wg5] at i8
  try rw [wg6] at i8
  try rw [wg7] at i8
  try rw [wg20] at i9
  try rw [wg21] at i9
  try rw [wg22] at i9
  try rw [wg23] at i9
  try rw [wg24] at i9
  try rw [wg25] at i9
  try rw [wg26] at i9
  try rw [wg1] at i9
  try rw [wg2] at i9
  try rw [wg3] at i9
  try rw [wg4] at i9
  try rw [wg5] at i9
  try rw [wg6] at i9
  try rw [wg7] at i9
  try rw [wg20] at i10
  try rw [wg21] at i10
  try rw [wg22] at i10
  try rw [wg23] at i10
  try rw [wg24] at i10
  try rw [wg25] at i10
  try rw [wg26] at i10
  try rw [wg1] at i10
  try rw [wg2] at i10
  try rw [wg3] at i10
  try rw [wg4] at i10
  try rw [wg5] at i10
  try rw [wg6] at i10
  try rw [wg7] at i10
  have T27 := i3.1 (by assumption)
  clear i3 i4
  obtain ⟨p0, n0, fr, L0, N0, S0, R0, D0⟩ := (rend i9).1 (by omega)
  clear i9
  have BV := rBv B n0
  have KK0 := rLx_k L0
  rw [wg24] at KK0
  have ZW0 : rW m0 := T27.1.1.2.1
  have N38 : g25 = n0 := by have h0 := N0.1.2.2.2.2.1; rw [BV.2.1, wg25] at h0; exact h0
  refine ⟨yk_X9_openType, ym_X9_openType hg d (by omega), _, _, _, _, _, _, _, (m0.1 104 v4), fr, _, _, rfl, ⟨by omega, by omega⟩, ⟨by omega, by omega⟩, ⟨by omega, by omega⟩, ⟨by omega, by omega⟩, (by (try rw [wg20]) <;> (try rw [wg21]) <;> (try rw [wg22]) <;> (try rw [wg23]) <;> (try rw [wg24]) <;> (try rw [wg25]) <;> (try rw [wg26]) <;> (try rw [wg1]) <;> (try rw [wg2]) <;> (try rw [wg3]) <;> (try rw [wg4]) <;> (try rw [wg5]) <;> (try rw [wg6]) <;> (try rw [wg7]) <;> omega), L0, N0, ⟨yI0_N hp8.1, by rw [BV.2.2.1]; exact hp8.2⟩, ⟨by rw [BV.2.2.2.1]; exact hp9.1, D0.symm, by rw [BV.2.2.2.2]; exact hp9.2⟩, ?_⟩
  intro x28 m29 qm29 kx28 lx28 p30 p31 p32 p33 p34 p35 p36 p37
  have z38 := zfx_t z0 qm29 rfl rfl
  have w39 : m29.1 66 ((30 : Nat) : Int) = g21 := (qm29.2.1 30 rfl).trans wg21
  have w40 : m29.1 66 ((8 : Nat) : Int) = g26 := (qm29.2.1 8 rfl).trans wg26
  obtain ⟨g41, wg41⟩ : ∃ z : Int, m29.1 66 ((31 : Nat) : Int) = z := ⟨_, rfl⟩
  obtain ⟨g42, wg42⟩ : ∃ z : Int, m29.1 66 ((33 : Nat) : Int) = z := ⟨_, rfl⟩
  obtain ⟨g43, wg43⟩ : ∃ z : Int, m29.1 66 ((34 : Nat) : Int) = z := ⟨_, rfl⟩
  obtain ⟨g44, wg44⟩ : ∃ z : Int, m29.1 66 ((32 : Nat) : Int) = z := ⟨_, rfl⟩
  obtain ⟨g45, wg45⟩ : ∃ z : Int, m29.1 66 ((38 : Nat) : Int) = z := ⟨_, rfl⟩
  try rw [wg41] at p30
  try rw [w39] at p30
  try rw [wg42] at p30
  try rw [wg43] at p30
  try rw [wg44] at p30
  try rw [wg45] at p30
  try rw [w40] at p30
  try rw [wg20] at p30
  try rw [wg21] at p30
  try rw [wg22] at p30
  try rw [wg23] at p30
  try rw [wg24] at p30
  try rw [wg25] at p30
  try rw [wg26] at p30
  try rw [wg1] at p30
  try rw [wg2] at p30
  try rw [wg3] at p30
  try rw [wg4] at p30
  try rw [wg5] at p30
  try rw [wg6] at p30
  try rw [wg7] at p30
  try rw [wg41] at p31
  try rw [w39] at p31
  try rw [wg42] at p31
  try rw [wg43] at p31
  try rw [wg44] at p31
  try rw [wg45] at p31
  try rw [w40] at p31
  try rw [wg20] at p31
  try rw [wg21] at p31
  try rw [wg22] at p31
  try rw [wg23] at p31
  try rw [wg24] at p31
  try rw [wg25] at p31
  try rw [wg26] at p31
  try rw [wg1] at p31
  try rw [wg2] at p31
  try rw [wg3] at p31
  try rw [wg4] at p31
  try rw [wg5] at p31
  try rw [wg6] at p31
  try rw [wg7] at p31
  try rw [wg41] at p32
  try rw [w39] at p32
  try rw [wg42] at p32
  try rw [wg43] at p32
  try rw [wg44] at p32
  try rw [wg45] at p32
  try rw [w40] at p32
  try rw [wg20] at p32
  try rw [wg21] at p32
  try rw [wg22] at p32
  try rw [wg23] at p32
  try rw [wg24] at p32
  try rw [wg25] at p32
  try rw [wg26] at p32
  try rw [wg1] at p32
  try rw [wg2] at p32
  try rw [wg3] at p32
  try rw [wg4] at p32
  try rw [wg5] at p32
  try rw [wg6] at p32
  try rw [wg7] at p32
  try rw [wg41] at p33
  try rw [w39] at p33
  try rw [wg42] at p33
  try rw [wg43] at p33
  try rw [wg44] at p33
  try rw [wg45] at p33
  try rw [w40] at p33
  try rw [wg20] at p33
  try rw [wg21] at p33
  try rw [wg22] at p33
  try rw [wg23] at p33
  try rw [wg24] at p33
  try rw [wg25] at p33
  try rw [wg26] at p33
  try rw [wg1] at p33
  try rw [wg2] at p33
  try rw [wg3] at p33
  try rw [wg4] at p33
  try rw [wg5] at p33
  try rw [wg6] at p33
  try rw [wg7] at p33
  try rw [wg41] at p34
  try rw [w39] at p34
  try rw [wg42] at p34
  try rw [wg43] at p34
  try rw [wg44] at p34
  try rw [wg45] at p34
  try rw [w40] at p34
  try rw [wg20] at p34
  try rw [wg21] at p34
  try rw [wg22] at p34
  try rw [wg23] at p34
  try rw [wg24] at p34
  try rw [wg25] at p34
  try rw [wg26] at p34
  try rw [wg1] at p34
  try rw [wg2] at p34
  try rw [wg3] at p34
  try rw [wg4] at p34
  try rw [wg5] at p34
  try rw [wg6] at p34
  try rw [wg7] at p34
  try rw [wg41] at p35
  try rw [w39] at p35
  try rw [wg42] at p35
  try rw [wg43] at p35
  try rw [wg44] at p35
  try rw [wg45] at p35
  try rw [w40] at p35
  try rw [wg20] at p35
  try rw [wg21] at p35
  try rw [wg22] at p35
  try rw [wg23] at p35
  try rw [wg24] at p35
  try rw [wg25] at p35
  try rw [wg26] at p35
  try rw [wg1] at p35
  try rw [wg2] at p35
  try rw [wg3] at p35
  try rw [wg4] at p35
  try rw [wg5] at p35
  try rw [wg6] at p35
  try rw [wg7] at p35
  try rw [wg41] at p36
  try rw [w39] at p36
  try rw [wg42] at p36
  try rw [wg43] at p36
  try rw [wg44] at p36
  try rw [wg45] at p36
  try rw [w40] at p36
  try rw [wg20] at p36
  try rw [wg21] at p36
  try rw [wg22] at p36
  try rw [wg23] at p36
  try rw [wg24] at p36
  try rw [wg25] at p36
  try rw [wg26] at p36
  try rw [wg1] at p36
  try rw [wg2] at p36
  try rw [wg3] at p36
  try rw [wg4] at p36
  try rw [wg5] at p36
  try rw [wg6] at p36
  try rw [wg7] at p36
  refine And.intro ⟨by omega, by omega⟩ (And.intro (fun c46 => ?_) (fun c46 => ?_))
  · obtain ⟨-, OK, L1, N1, Z1, H1⟩ := (by rcases p37 with h0 | h0; (exfalso; omega); exact h0 : _ ∧ _)
    have OV := p33
    have KK1 := rLx_k L1
    rw [wg44] at KK1
    rw [yN_N] at N1
    have S1 := rFs_open S0 D0 (qm29.1 103 (by decide) rfl) (qm29.1 104 (by decide) rfl) (fun j a b => by rcases (show j = 67 ∨ j = 68 ∨ j = 69 ∨ j = 70 ∨ j = 71 by omega) with e | e | e | e | e <;> subst e <;> exact qm29.1 _ (by decide) rfl) (qm29.2.1 8 rfl) p34 Z1 H1 ZW0
    have ZW1 : rW m29 := fun x x0 x1 => rnd_c (fun j a b => by rcases (show j = 67 ∨ j = 68 ∨ j = 69 ∨ j = 70 ∨ j = 71 by omega) with e | e | e | e | e <;> subst e <;> exact qm29.1 _ (by decide) rfl) ZW0 x x0 (by rw [show zTop m0 = zTop m29 from (qm29.2.1 8 rfl).symm]; exact x1)
    have P3 := p33 (by omega)
    have P5 := p35 (by omega)
    have P6 := p36 (by omega)
    have V3 : v3 = 0 := by rcases (show v4 = 0 ∨ v4 ≠ 0 by omega) with h | h <;> first | exact (P6 h).2.2 | omega
    rw [show m0.1 66 ((26 : Nat) : Int) = μ.1 66 ((26 : Nat) : Int) from z0.2.1 26 rfl, show m0.1 66 ((24 : Nat) : Int) = μ.1 66 ((24 : Nat) : Int) from z0.2.1 24 rfl, show m0.1 76 = μ.1 76 from z0.1 76 (by decide) rfl, show m0.1 77 = μ.1 77 from z0.1 77 (by decide) rfl] at P5
    have T47 := zTI_open0 T27 hv4.1 (fun j a b c d => qm29.1 j a (zanyF (by simp <;> omega))) (qm29.2.1 8 rfl) (by (try rw [wg41]) <;> (try rw [w39]) <;> (try rw [wg42]) <;> (try rw [wg43]) <;> (try rw [wg44]) <;> (try rw [wg45]) <;> (try rw [w40]) <;> (try rw [wg20]) <;> (try rw [wg21]) <;> (try rw [wg22]) <;> (try rw [wg23]) <;> (try rw [wg24]) <;> (try rw [wg25]) <;> (try rw [wg26]) <;> (try rw [wg1]) <;> (try rw [wg2]) <;> (try rw [wg3]) <;> (try rw [wg4]) <;> (try rw [wg5]) <;> (try rw [wg6]) <;> (try rw [wg7]) <;> omega) P3 P5 hp3.1 hp3.2.1 hp6 P6 p34
    have N48 : v4 ≤ 7 ∧ g45 ≤ 300 ∧ 0 ≤ g45 := by omega
    have N49 : (g44 = 256 ∨ g20 < g41) ∧ g20 ≤ g41 ∧ g24 = 257 := by omega
    clear P3 P5 P6 i8 p32 p33 p34 p35 p36 T27
    intro x50 hx50 kx50 lx50
    rw [wg44] at hx50
    refine And.intro ⟨⟨by omega, by omega⟩, ⟨by omega, by omega⟩⟩ (And.intro (fun c51 => ?_) (fun c51 => ?_))
    · have nc51 : yNe x50 60 := c51
      clear c51
      have R1 := yR_s R0 (ym10_n OK.1 OK.2.1 OK.2.2.1 OK.2.2.2 (fun h0 => nc51 (by have h1 := h0.1; omega)))
      rw [yN_N] at R1
      refine And.intro ⟨by omega, by omega⟩ (And.intro (fun c52 => ?_) (fun c52 => ?_))
      · refine And.intro ⟨by omega, by omega⟩ (And.intro (fun c53 => ?_) (fun c53 => ?_))
        · refine And.intro ⟨by omega, by omega⟩ (And.intro (fun c54 => ?_) (fun c54 => ?_))
          · refine Exists.intro (2 * zrT m29 2 + 1) (And.intro (zrd2 (zrT_lt (by unfold zrm; simp only [wg41, w39, wg42, wg43, wg44, wg45, w40, wg20, wg21, wg22, wg23, wg24, wg25, wg26, wg1, wg2, wg3, wg4, wg5, wg6, wg7]; (repeat' split) <;> omega) (zrm_0 (by (try rw [wg41]) <;> (try rw [w39]) <;> (try rw [wg42]) <;> (try rw [wg43]) <;> (try rw [wg44]) <;> (try rw [wg45]) <;> (try rw [w40]) <;> (try rw [wg20]) <;> (try rw [wg21]) <;> (try rw [wg22]) <;> (try rw [wg23]) <;> (try rw [wg24]) <;> (try rw [wg25]) <;> (try rw [wg26]) <;> (try rw [wg1]) <;> (try rw [wg2]) <;> (try rw [wg3]) <;> (try rw [wg4]) <;> (try rw [wg5]) <;> (try rw [wg6]) <;> (try rw [wg7]) <;> omega)))) ?_)
            exact ⟨(fun _ => ⟨_, _, _, _, _, rfl, z38, ⟨by omega, by omega⟩, ⟨by omega, by omega⟩, ⟨by omega, by omega⟩, ⟨by omega, by omega⟩, ⟨by omega, by omega⟩, ⟨rfl, rfl, rfl⟩, (by (try rw [wg41]) <;> (try rw [w39]) <;> (try rw [wg42]) <;> (try rw [wg43]) <;> (try rw [wg44]) <;> (try rw [wg45]) <;> (try rw [w40]) <;> (try rw [wg20]) <;> (try rw [wg21]) <;> (try rw [wg22]) <;> (try rw [wg23]) <;> (try rw [wg24]) <;> (try rw [wg25]) <;> (try rw [wg26]) <;> (try rw [wg1]) <;> (try rw [wg2]) <;> (try rw [wg3]) <;> (try rw [wg4]) <;> (try rw [wg5]) <;> (try rw [wg6]) <;> (try rw [wg7]) <;> omega), (by (try rw [wg41]) <;> (try rw [w39]) <;> (try rw [wg42]) <;> (try rw [wg43]) <;> (try rw [wg44]) <;> (try rw [wg45]) <;> (try rw [w40]) <;> (try rw [wg20]) <;> (try rw [wg21]) <;> (try rw [wg22]) <;> (try rw [wg23]) <;> (try rw [wg24]) <;> (try rw [wg25]) <;> (try rw [wg26]) <;> (try rw [wg1]) <;> (try rw [wg2]) <;> (try rw [wg3]) <;> (try rw [wg4]) <;> (try rw [wg5]) <;> (try rw [wg6]) <;> (try rw [wg7]) <;> omega), ⟨fun h => absurd h (by decide), fun _ => T47⟩, (fun h => absurd h (by decide)), (Or.inr (by omega)), (by have h6 := i6; unfold zrm at h6 ⊢; simp only [wg41, w39, wg42, wg43, wg44, wg45, w40, wg20, wg21, wg22, wg23, wg24, wg25, wg26, wg1, wg2, wg3, wg4, wg5, wg6, wg7] at h6 ⊢; (repeat' split at h6) <;> (repeat' split) <;> omega), (by (try rw [wg41]) <;> (try rw [w39]) <;> (try rw [wg42]) <;> (try rw [wg43]) <;> (try rw [wg44]) <;> (try rw [wg45]) <;> (try rw [w40]) <;> (try rw [wg20]) <;> (try rw [wg21]) <;> (try rw [wg22]) <;> (try rw [wg23]) <;> (try rw [wg24]) <;> (try rw [wg25]) <;> (try rw [wg26]) <;> (try rw [wg1]) <;> (try rw [wg2]) <;> (try rw [wg3]) <;> (try rw [wg4]) <;> (try rw [wg5]) <;> (try rw [wg6]) <;> (try rw [wg7]) <;> omega), (Or.inr V3), ⟨_, _, _, L1, N1, S1, Or.inr (Or.inr (Or.inl ⟨rfl, R1, by simp only [List.length_cons]; omega⟩))⟩, rfl⟩), (fun h => absurd h (by decide)), (fun h => absurd h (by decide)), (fun h => absurd h (by decide)), (fun h => absurd h (by decide))⟩
          · exfalso; omega
        · exfalso; omega
      · exfalso; omega
    · refine ⟨yk_X9_isBefore, ym_X9_isBefore hg d (by omega), _, rfl, ⟨by omega, by omega⟩, ?_⟩
      intro x55 kx55 lx55 p56
      have IB := rLx_b L1
      refine And.intro ⟨by omega, by omega⟩ (And.intro (fun c57 => ?_) (fun c57 => ?_))
      · have bc57 := yp1 p56 c57
        have R1 := yR_s R0 (ym10_n OK.1 OK.2.1 OK.2.2.1 OK.2.2.2 (fun h0 => h0.2 (IB.mp bc57)))
        rw [yN_N] at R1
        refine And.intro ⟨by omega, by omega⟩ (And.intro (fun c58 => ?_) (fun c58 => ?_))
        · refine And.intro ⟨by omega, by omega⟩ (And.intro (fun c59 => ?_) (fun c59 => ?_))
          · refine And.intro ⟨by omega, by omega⟩ (And.intro (fun c60 => ?_) (fun c60 => ?_))
            · refine Exists.intro (2 * zrT m29 2 + 1) (And.intro (zrd2 (zrT_lt (by unfold zrm; simp only [wg41, w39, wg42, wg43, wg44, wg45, w40, wg20, wg21, wg22, wg23, wg24, wg25, wg26, wg1, wg2, wg3, wg4, wg5, wg6, wg7]; (repeat' split) <;> omega) (zrm_0 (by (try rw [wg41]) <;> (try rw [w39]) <;> (try rw [wg42]) <;> (try rw [wg43]) <;> (try rw [wg44]) <;> (try rw [wg45]) <;> (try rw [w40]) <;> (try rw [wg20]) <;> (try rw [wg21]) <;> (try rw [wg22]) <;> (try rw [wg23]) <;> (try rw [wg24]) <;> (try rw [wg25]) <;> (try rw [wg26]) <;> (try rw [wg1]) <;> (try rw [wg2]) <;> (try rw [wg3]) <;> (try rw [wg4]) <;> (try rw [wg5]) <;> (try rw [wg6]) <;> (try rw [wg7]) <;> omega)))) ?_)
              exact ⟨(fun _ => ⟨_, _, _, _, _, rfl, z38, ⟨by omega, by omega⟩, ⟨by omega, by omega⟩, ⟨by omega, by omega⟩, ⟨by omega, by omega⟩, ⟨by omega, by omega⟩, ⟨rfl, rfl, rfl⟩, (by (try rw [wg41]) <;> (try rw [w39]) <;> (try rw [wg42]) <;> (try rw [wg43]) <;> (try rw [wg44]) <;> (try rw [wg45]) <;> (try rw [w40]) <;> (try rw [wg20]) <;> (try rw [wg21]) <;> (try rw [wg22]) <;> (try rw [wg23]) <;> (try rw [wg24]) <;> (try rw [wg25]) <;> (try rw [wg26]) <;> (try rw [wg1]) <;> (try rw [wg2]) <;> (try rw [wg3]) <;> (try rw [wg4]) <;> (try rw [wg5]) <;> (try rw [wg6]) <;> (try rw [wg7]) <;> omega), (by (try rw [wg41]) <;> (try rw [w39]) <;> (try rw [wg42]) <;> (try rw [wg43]) <;> (try rw [wg44]) <;> (try rw [wg45]) <;> (try rw [w40]) <;> (try rw [wg20]) <;> (try rw [wg21]) <;> (try rw [wg22]) <;> (try rw [wg23]) <;> (try rw [wg24]) <;> (try rw [wg25]) <;> (try rw [wg26]) <;> (try rw [wg1]) <;> (try rw [wg2]) <;> (try rw [wg3]) <;> (try rw [wg4]) <;> (try rw [wg5]) <;> (try rw [wg6]) <;> (try rw [wg7]) <;> omega), ⟨fun h => absurd h (by decide), fun _ => T47⟩, (fun h => absurd h (by decide)), (Or.inr (by omega)), (by have h6 := i6; unfold zrm at h6 ⊢; simp only [wg41, w39, wg42, wg43, wg44, wg45, w40, wg20, wg21, wg22, wg23, wg24, wg25, wg26, wg1, wg2, wg3, wg4, wg5, wg6, wg7] at h6 ⊢; (repeat' split at h6) <;> (repeat' split) <;> omega), (by (try rw [wg41]) <;> (try rw [w39]) <;> (try rw [wg42]) <;> (try rw [wg43]) <;> (try rw [wg44]) <;> (try rw [wg45]) <;> (try rw [w40]) <;> (try rw [wg20]) <;> (try rw [wg21]) <;> (try rw [wg22]) <;> (try rw [wg23]) <;> (try rw [wg24]) <;> (try rw [wg25]) <;> (try rw [wg26]) <;> (try rw [wg1]) <;> (try rw [wg2]) <;> (try rw [wg3]) <;> (try rw [wg4]) <;> (try rw [wg5]) <;> (try rw [wg6]) <;> (try rw [wg7]) <;> omega), (Or.inr V3), ⟨_, _, _, L1, N1, S1, Or.inr (Or.inr (Or.inl ⟨rfl, R1, by simp only [List.length_cons]; omega⟩))⟩, rfl⟩), (fun h => absurd h (by decide)), (fun h => absurd h (by decide)), (fun h => absurd h (by decide)), (fun h => absurd h (by decide))⟩
            · exfalso; omega
          · exfalso; omega
        · exfalso; omega
      · have bc57 := yp0 p56 c57
        have KE : ykd τ (ynx τ p0) = 60 ∧ ¬ ykd τ (ynx τ (ynx τ p0)) = 61 := ⟨by omega, fun h0 => bc57 (IB.mpr h0)⟩
        refine And.intro ⟨by omega, by omega⟩ (And.intro (fun c61 => ?_) (fun c61 => ?_))
        · exfalso; omega
        · clear c61
          refine And.intro ⟨by omega, by omega⟩ ?_
          intro x62 hx62 kx62 lx62
          have O63 : x62 = 0 → m29.1 100 v4 = 0 := fun h => by rw [← hx62]; exact h
          refine And.intro ⟨by omega, by omega⟩ (And.intro (fun c64 => ?_) (fun c64 => ?_))
          · refine And.intro ⟨by omega, by omega⟩ (And.intro (fun c65 => ?_) (fun c65 => ?_))
            · exfalso; omega
            · clear c65
              have O66 := O63 (by omega)
              refine And.intro ⟨by omega, by omega⟩ (And.intro (fun c67 => ?_) (fun c67 => ?_))
              · exfalso; omega
              · clear c67
                have R1 := yR_s R0 (ym10_a OK.1 OK.2.1 OK.2.2.1 OK.2.2.2 KE (by have hv0 := OV (by omega); rcases H1 with h0 | h0; (exfalso; omega); omega))
                rw [yN_N] at R1
                refine ⟨yk_X9_pass, ym_X9_pass hg d (by omega), rfl, (by (try rw [wg41]) <;> (try rw [w39]) <;> (try rw [wg42]) <;> (try rw [wg43]) <;> (try rw [wg44]) <;> (try rw [wg45]) <;> (try rw [w40]) <;> (try rw [wg20]) <;> (try rw [wg21]) <;> (try rw [wg22]) <;> (try rw [wg23]) <;> (try rw [wg24]) <;> (try rw [wg25]) <;> (try rw [wg26]) <;> (try rw [wg1]) <;> (try rw [wg2]) <;> (try rw [wg3]) <;> (try rw [wg4]) <;> (try rw [wg5]) <;> (try rw [wg6]) <;> (try rw [wg7]) <;> omega), ?_⟩
                intro m68 qm68 p69 p70 p71 p72 p73
                have z74 := zfx_t z38 qm68 rfl rfl
                have w75 : m68.1 66 ((30 : Nat) : Int) = g21 := (qm68.2.1 30 rfl).trans w39
                have w76 : m68.1 66 ((38 : Nat) : Int) = g45 := (qm68.2.1 38 rfl).trans wg45
                have w77 : m68.1 66 ((8 : Nat) : Int) = g26 := (qm68.2.1 8 rfl).trans w40
                obtain ⟨g78, wg78⟩ : ∃ z : Int, m68.1 66 ((31 : Nat) : Int) = z := ⟨_, rfl⟩
                obtain ⟨g79, wg79⟩ : ∃ z : Int, m68.1 66 ((33 : Nat) : Int) = z := ⟨_, rfl⟩
                obtain ⟨g80, wg80⟩ : ∃ z : Int, m68.1 66 ((34 : Nat) : Int) = z := ⟨_, rfl⟩
                obtain ⟨g81, wg81⟩ : ∃ z : Int, m68.1 66 ((32 : Nat) : Int) = z := ⟨_, rfl⟩
                try rw [wg78] at p69
                try rw [w75] at p69
                try rw [wg79] at p69
                try rw [wg80] at p69
                try rw [wg81] at p69
                try rw [w76] at p69
                try rw [w77] at p69
                try rw [wg41] at p69
                try rw [w39] at p69
                try rw [wg42] at p69
                try rw [wg43] at p69
                try rw [wg44] at p69
                try rw [wg45] at p69
                try rw [w40] at p69
                try rw [wg1] at p69
                try rw [wg2] at p69
                try rw [wg3] at p69
                try rw [wg4] at p69
                try rw [wg5] at p69
                try rw [wg6] at p69
                try rw [wg7] at p69
                try rw [wg78] at p70
                try rw [w75] at p70
                try rw [wg79] at p70
                try rw [wg80] at p70
                try rw [wg81] at p70
                try rw [w76] at p70
                try rw [w77] at p70
                try rw [wg41] at p70
                try rw [w39] at p70
                try rw [wg42] at p70
                try rw [wg43] at p70
                try rw [wg44] at p70
                try rw [wg45] at p70
                try rw [w40] at p70
                try rw [wg1] at p70
                try rw [wg2] at p70
                try rw [wg3] at p70
                try rw [wg4] at p70
                try rw [wg5] at p70
                try rw [wg6] at p70
                try rw [wg7] at p70
                try rw [wg78] at p71
                try rw [w75] at p71
                try rw [wg79] at p71
                try rw [wg80] at p71
                try rw [wg81] at p71
                try rw [w76] at p71
                try rw [w77] at p71
                try rw [wg41] at p71
                try rw [w39] at p71
                try rw [wg42] at p71
                try rw [wg43] at p71
                try rw [wg44] at p71
                try rw [wg45] at p71
                try rw [w40] at p71
                try rw [wg1] at p71
                try rw [wg2] at p71
                try rw [wg3] at p71
                try rw [wg4] at p71
                try rw [wg5] at p71
                try rw [wg6] at p71
                try rw [wg7] at p71
                try rw [wg78] at p72
                try rw [w75] at p72
                try rw [wg79] at p72
                try rw [wg80] at p72
                try rw [wg81] at p72
                try rw [w76] at p72
                try rw [w77] at p72
                try rw [wg41] at p72
                try rw [w39] at p72
                try rw [wg42] at p72
                try rw [wg43] at p72
                try rw [wg44] at p72
                try rw [wg45] at p72
                try rw [w40] at p72
                try rw [wg1] at p72
                try rw [wg2] at p72
                try rw [wg3] at p72
                try rw [wg4] at p72
                try rw [wg5] at p72
                try rw [wg6] at p72
                try rw [wg7] at p72
                clear wg41 w39 wg42 wg43 wg44 wg45 w40
                have T82 := zTI_fr0 T47 (fun j a b => qm68.1 j (by omega) (zanyF (by simp <;> omega))) (fun j a b => qm68.1 j (by omega) (zanyF (by simp <;> omega))) (qm68.2.1 8 rfl) (qm68.2.1 38 rfl)
                have O83 : m68.1 100 v4 = 0 := by rw [qm68.1 100 (by decide) rfl]; exact O66
                have L2 := rLx_p L1 (qm68.1 85 (by decide) rfl) (qm68.2.1 30 rfl) p73
                have N2 := rNu_z N1 qm68 ⟨rfl, rfl, rfl, rfl, rfl, rfl⟩ ⟨rfl, rfl, rfl, rfl, rfl, rfl⟩
                obtain ⟨S2, ZW2⟩ := rFs_q S1 qm68 rfl rfl ZW1
                refine Exists.intro (2 * zrT m68 1 + 1) (And.intro (zrd2 (zrT_lt (by unfold zrm; simp only [wg78, w75, wg79, wg80, wg81, w76, w77, wg20, wg21, wg22, wg23, wg24, wg25, wg26, wg1, wg2, wg3, wg4, wg5, wg6, wg7]; (repeat' split) <;> omega) (zrm_0 (by (try rw [wg78]) <;> (try rw [w75]) <;> (try rw [wg79]) <;> (try rw [wg80]) <;> (try rw [wg81]) <;> (try rw [w76]) <;> (try rw [w77]) <;> (try rw [wg20]) <;> (try rw [wg21]) <;> (try rw [wg22]) <;> (try rw [wg23]) <;> (try rw [wg24]) <;> (try rw [wg25]) <;> (try rw [wg26]) <;> (try rw [wg1]) <;> (try rw [wg2]) <;> (try rw [wg3]) <;> (try rw [wg4]) <;> (try rw [wg5]) <;> (try rw [wg6]) <;> (try rw [wg7]) <;> omega)))) ?_)
                exact ⟨(fun _ => ⟨_, _, _, _, _, rfl, z74, ⟨by omega, by omega⟩, ⟨by omega, by omega⟩, ⟨by omega, by omega⟩, ⟨by omega, by omega⟩, ⟨by omega, by omega⟩, ⟨rfl, rfl, rfl⟩, (by (try rw [wg78]) <;> (try rw [w75]) <;> (try rw [wg79]) <;> (try rw [wg80]) <;> (try rw [wg81]) <;> (try rw [w76]) <;> (try rw [w77]) <;> (try rw [wg20]) <;> (try rw [wg21]) <;> (try rw [wg22]) <;> (try rw [wg23]) <;> (try rw [wg24]) <;> (try rw [wg25]) <;> (try rw [wg26]) <;> (try rw [wg1]) <;> (try rw [wg2]) <;> (try rw [wg3]) <;> (try rw [wg4]) <;> (try rw [wg5]) <;> (try rw [wg6]) <;> (try rw [wg7]) <;> omega), (by (try rw [wg78]) <;> (try rw [w75]) <;> (try rw [wg79]) <;> (try rw [wg80]) <;> (try rw [wg81]) <;> (try rw [w76]) <;> (try rw [w77]) <;> (try rw [wg20]) <;> (try rw [wg21]) <;> (try rw [wg22]) <;> (try rw [wg23]) <;> (try rw [wg24]) <;> (try rw [wg25]) <;> (try rw [wg26]) <;> (try rw [wg1]) <;> (try rw [wg2]) <;> (try rw [wg3]) <;> (try rw [wg4]) <;> (try rw [wg5]) <;> (try rw [wg6]) <;> (try rw [wg7]) <;> omega), ⟨fun h => absurd h (by decide), fun _ => T82⟩, (fun h => O83), (Or.inr (by omega)), (by have h6 := i6; unfold zrm at h6 ⊢; simp only [wg78, w75, wg79, wg80, wg81, w76, w77, wg20, wg21, wg22, wg23, wg24, wg25, wg26, wg1, wg2, wg3, wg4, wg5, wg6, wg7] at h6 ⊢; (repeat' split at h6) <;> (repeat' split) <;> omega), (by (try rw [wg78]) <;> (try rw [w75]) <;> (try rw [wg79]) <;> (try rw [wg80]) <;> (try rw [wg81]) <;> (try rw [w76]) <;> (try rw [w77]) <;> (try rw [wg20]) <;> (try rw [wg21]) <;> (try rw [wg22]) <;> (try rw [wg23]) <;> (try rw [wg24]) <;> (try rw [wg25]) <;> (try rw [wg26]) <;> (try rw [wg1]) <;> (try rw [wg2]) <;> (try rw [wg3]) <;> (try rw [wg4]) <;> (try rw [wg5]) <;> (try rw [wg6]) <;> (try rw [wg7]) <;> omega), (Or.inr V3), ⟨_, _, _, L2, N2, S2, Or.inr (Or.inl ⟨rfl, R1, by simp only [List.length_cons]; omega⟩)⟩, rfl⟩), (fun h => absurd h (by decide)), (fun h => absurd h (by decide)), (fun h => absurd h (by decide)), (fun h => absurd h (by decide))⟩
          · refine ⟨yk_X9_fail, ym_X9_fail hg d (by omega), _, rfl, ⟨by omega, by omega⟩, ?_⟩
            intro x84 m85 qm85 kx84 lx84 p86
            have z87 := zfx_t z38 qm85 rfl rfl
            have w88 : m85.1 66 ((31 : Nat) : Int) = g41 := (qm85.2.1 31 rfl).trans wg41
            have w89 : m85.1 66 ((30 : Nat) : Int) = g21 := (qm85.2.1 30 rfl).trans w39
            have w90 : m85.1 66 ((33 : Nat) : Int) = g42 := (qm85.2.1 33 rfl).trans wg42
            have w91 : m85.1 66 ((34 : Nat) : Int) = g43 := (qm85.2.1 34 rfl).trans wg43
            have w92 : m85.1 66 ((32 : Nat) : Int) = g44 := (qm85.2.1 32 rfl).trans wg44
            have w93 : m85.1 66 ((38 : Nat) : Int) = g45 := (qm85.2.1 38 rfl).trans wg45
            have w94 : m85.1 66 ((8 : Nat) : Int) = g26 := (qm85.2.1 8 rfl).trans w40
            clear wg41 w39 wg42 wg43 wg44 wg45 w40
            exact And.intro trivial (And.intro ⟨by omega, by omega⟩ (hQ _ _ z87 (by omega) (by omega) (by (try rw [w88]) <;> (try rw [w89]) <;> (try rw [w90]) <;> (try rw [w91]) <;> (try rw [w92]) <;> (try rw [w93]) <;> (try rw [w94]) <;> (try rw [wg20]) <;> (try rw [wg21]) <;> (try rw [wg22]) <;> (try rw [wg23]) <;> (try rw [wg24]) <;> (try rw [wg25]) <;> (try rw [wg26]) <;> (try rw [wg1]) <;> (try rw [wg2]) <;> (try rw [wg3]) <;> (try rw [wg4]) <;> (try rw [wg5]) <;> (try rw [wg6]) <;> (try rw [wg7]) <;> omega) (by (try rw [w88]) <;> (try rw [w89]) <;> (try rw [w90]) <;> (try rw [w91]) <;> (try rw [w92]) <;> (try rw [w93]) <;> (try rw [w94]) <;> (try rw [wg20]) <;> (try rw [wg21]) <;> (try rw [wg22]) <;> (try rw [wg23]) <;> (try rw [wg24]) <;> (try rw [wg25]) <;> (try rw [wg26]) <;> (try rw [wg1]) <;> (try rw [wg2]) <;> (try rw [wg3]) <;> (try rw [wg4]) <;> (try rw [wg5]) <;> (try rw [wg6]) <;> (try rw [wg7]) <;> omega) (zTE_fr (zTE_of T47 (by omega) (by have := zwb_nn m0 v4; omega)) (fun j a b => qm85.1 j (by omega) (zanyF (by simp <;> omega))) (qm85.2.1 8 rfl) (qm85.2.1 38 rfl)) (by (try rw [w88]) <;> (try rw [w89]) <;> (try rw [w90]) <;> (try rw [w91]) <;> (try rw [w92]) <;> (try rw [w93]) <;> (try rw [w94]) <;> (try rw [wg20]) <;> (try rw [wg21]) <;> (try rw [wg22]) <;> (try rw [wg23]) <;> (try rw [wg24]) <;> (try rw [wg25]) <;> (try rw [wg26]) <;> (try rw [wg1]) <;> (try rw [wg2]) <;> (try rw [wg3]) <;> (try rw [wg4]) <;> (try rw [wg5]) <;> (try rw [wg6]) <;> (try rw [wg7]) <;> omega) (Or.inl rfl) (Or.inl rfl) (by omega) (Or.inl ⟨rfl, rFa_t R0 (rFa_f L1 N1.1.2.2.2.2.2 (yR_s (yR_r τ _) (ym10_5 OK.1 OK.2.1 OK.2.2.1 OK.2.2.2 KE (by rcases H1 with h0 | h0; omega; (exfalso; omega)))) p86)⟩)))
  · exact And.intro trivial (And.intro ⟨by omega, by omega⟩ (hQ _ _ z38 (by omega) (by omega) (by (try rw [wg41]) <;> (try rw [w39]) <;> (try rw [wg42]) <;> (try rw [wg43]) <;> (try rw [wg44]) <;> (try rw [wg45]) <;> (try rw [w40]) <;> (try rw [wg20]) <;> (try rw [wg21]) <;> (try rw [wg22]) <;> (try rw [wg23]) <;> (try rw [wg24]) <;> (try rw [wg25]) <;> (try rw [wg26]) <;> (try rw [wg1]) <;> (try rw [wg2]) <;> (try rw [wg3]) <;> (try rw [wg4]) <;> (try rw [wg5]) <;> (try rw [wg6]) <;> (try rw [wg7]) <;> omega) (by (try rw [wg41]) <;> (try rw [w39]) <;> (try rw [wg42]) <;> (try rw [wg43]) <;> (try rw [wg44]) <;> (try rw [wg45]) <;> (try rw [w40]) <;> (try rw [wg20]) <;> (try rw [wg21]) <;> (try rw [wg22]) <;> (try rw [wg23]) <;> (try rw [wg24]) <;> (try rw [wg25]) <;> (try rw [wg26]) <;> (try rw [wg1]) <;> (try rw [wg2]) <;> (try rw [wg3]) <;> (try rw [wg4]) <;> (try rw [wg5]) <;> (try rw [wg6]) <;> (try rw [wg7]) <;> omega) (zTE_fr (zTE_of T27 (by omega) (by have := zwb_nn m0 v4; omega)) (fun j a b => qm29.1 j (by omega) (zanyF (by simp <;> omega))) (qm29.2.1 8 rfl) (by (try rw [wg41]) <;> (try rw [w39]) <;> (try rw [wg42]) <;> (try rw [wg43]) <;> (try rw [wg44]) <;> (try rw [wg45]) <;> (try rw [w40]) <;> (try rw [wg20]) <;> (try rw [wg21]) <;> (try rw [wg22]) <;> (try rw [wg23]) <;> (try rw [wg24]) <;> (try rw [wg25]) <;> (try rw [wg26]) <;> (try rw [wg1]) <;> (try rw [wg2]) <;> (try rw [wg3]) <;> (try rw [wg4]) <;> (try rw [wg5]) <;> (try rw [wg6]) <;> (try rw [wg7]) <;> omega)) (by (try rw [wg41]) <;> (try rw [w39]) <;> (try rw [wg42]) <;> (try rw [wg43]) <;> (try rw [wg44]) <;> (try rw [wg45]) <;> (try rw [w40]) <;> (try rw [wg20]) <;> (try rw [wg21]) <;> (try rw [wg22]) <;> (try rw [wg23]) <;> (try rw [wg24]) <;> (try rw [wg25]) <;> (try rw [wg26]) <;> (try rw [wg1]) <;> (try rw [wg2]) <;> (try rw [wg3]) <;> (try rw [wg4]) <;> (try rw [wg5]) <;> (try rw [wg6]) <;> (try rw [wg7]) <;> omega) (Or.inl rfl) (Or.inl rfl) (by omega) (Or.inl ⟨rfl, rFa_t R0 (by rcases p37 with h0 | h0; exact h0.2; (exfalso; omega))⟩)))
