set_option maxHeartbeats 4000000 in
theorem ym_X9_readType_111 {g : zΓ} (hg : zg g) (d : Nat) (hd : 5 ≤ d + 1) (μ : zM) (Q : Option zV → zM → Prop) (a1 : Int) (a2 : Int) (a3 : Int) (lo : Int) (C : Int) (Pn : Int) (F : Int) (cf : Int → Int) (pa : Int) (pe : Int) (τ : yT) (p : Int) (B : yB) (cb : Int) (pb : Int) (ha1 : ((-1) ≤ a1 ∧ a1 ≤ 20)) (ha2 : (0 ≤ a2 ∧ a2 ≤ 4)) (ha3 : (0 ≤ a3 ∧ a3 ≤ 1)) (hp0 : (0 ≤ μ.1 66 ((33 : Nat) : Int) ∧ 0 ≤ μ.1 66 ((34 : Nat) : Int) ∧ μ.1 66 ((33 : Nat) : Int) + μ.1 66 ((34 : Nat) : Int) ≤ μ.1 66 ((31 : Nat) : Int) ∧ μ.1 66 ((31 : Nat) : Int) ≤ μ.1 66 ((30 : Nat) : Int) ∧ μ.1 66 ((30 : Nat) : Int) ≤ 800)) (hp1 : (zND μ lo)) (hp2 : (zWf μ lo (zTop μ) C Pn F cf)) (hp3 : (μ.1 66 ((26 : Nat) : Int) ≤ C ∧ (0 ≤ a1 → μ.1 76 (μ.1 66 ((24 : Nat) : Int) + a1) + μ.1 77 (μ.1 66 ((24 : Nat) : Int) + a1) ≤ Pn) ∧ C ≤ 21 ∧ Pn ≤ 80)) (hp4 : (∀ v : Int, 0 ≤ v → v < C → cf v = μ.1 77 (μ.1 66 ((24 : Nat) : Int) + v))) (hp5 : (μ.1 66 ((8 : Nat) : Int) - μ.1 66 ((38 : Nat) : Int) ≤ 19699 ∧ 0 ≤ μ.1 66 ((38 : Nat) : Int) ∧ μ.1 66 ((38 : Nat) : Int) ≤ 300)) (hp6 : (0 ≤ a1 → pa ≤ μ.1 76 (μ.1 66 ((24 : Nat) : Int) + a1) ∧ μ.1 76 (μ.1 66 ((24 : Nat) : Int) + a1) + μ.1 77 (μ.1 66 ((24 : Nat) : Int) + a1) ≤ pe)) (hp7 : (rLx μ τ p ∧ rNg cb pb μ B)) (hp8 : (yI0 B ∧ a1 = B.1 0 3)) (hp9 : (a2 = B.1 0 4 ∧ a3 = (if B.1 0 5 = 0 then 0 else 1))) (hp10 : (C = B.1 0 0)) (hQ : ∀ (v : Int) (μ' : zM), zfx [67, 68, 69, 70, 71, 72, 73, 74, 100, 101, 102, 103, 104] [8, 31, 32, 33, 34, 35, 36, 38] μ μ' → (-1) ≤ v → v ≤ 19999 → (0 ≤ μ'.1 66 ((33 : Nat) : Int) ∧ 0 ≤ μ'.1 66 ((34 : Nat) : Int) ∧ μ'.1 66 ((33 : Nat) : Int) + μ'.1 66 ((34 : Nat) : Int) ≤ μ'.1 66 ((31 : Nat) : Int) ∧ μ'.1 66 ((31 : Nat) : Int) ≤ μ'.1 66 ((30 : Nat) : Int) ∧ μ'.1 66 ((30 : Nat) : Int) ≤ 800) → (μ'.1 66 ((30 : Nat) : Int) = μ.1 66 ((30 : Nat) : Int)) → (zTE μ μ' lo C Pn F cf) → (0 ≤ μ'.1 66 ((38 : Nat) : Int) ∧ μ'.1 66 ((38 : Nat) : Int) ≤ 300) → (v = -1 ∨ zrm μ' ≤ zrm μ) → (v = -1 ∨ (lo ≤ v ∧ v < zTop μ' ∧ μ'.1 67 v ≤ 1 ∧ (a2 ≤ 1 → μ'.1 67 v = 0) ∧ (a2 = 1 → μ'.1 68 v ≠ a1 ∧ ∀ i : Int, 0 ≤ i → i < μ'.1 69 v → μ'.1 67 (μ'.1 70 (4 * v + i)) ≤ 2) ∧ zPar μ' pa pe v ∧ μ'.1 71 v ≤ zTn μ μ')) → (a3 = 0 ∨ v = -1) → ((v = -1 ∧ rFa τ (10, p, 0, [], B) μ') ∨ (0 ≤ v ∧ ∃ p' n h as, yR τ (10, p, 0, [], B) (14, p', 0, [(0, h, as)], yN B 0 2 n) ∧ rLx μ' τ p' ∧ rNg cb pb μ' (yN B 0 2 n) ∧ rE μ' v (h :: as.flatten))) → Q (some (.inl v)) μ') : ∀ (vs : List zV) (m0 : zM) (n : Nat), yi_X9_readType μ a1 a2 a3 lo C Pn F cf pa pe τ p B cb pb 111 vs m0 n → zw (zOk g d) mt_X9_readType ([(13, [0, 1, 2, 3, 4, 5]), (18, [0, 1, 2, 3, 4, 5]), (111, [0, 1, 2, 3, 4, 5]), (272, [0, 1, 2, 3, 4, 5]), (403, [0, 1, 2, 3, 4, 5])], []) (fun pc' vs' μ'' => ∃ n', n' < n ∧ yi_X9_readType μ a1 a2 a3 lo C Pn F cf pa pe τ p B cb pb pc' vs' μ'' n') Q (fun _ _ => False) 246 true (zsuf 111 mt_X9_readType.2.2.2.2.1) (zzip [0, 1, 2, 3, 4, 5] vs) [] m0 := by
  obtain ⟨g1, wg1⟩ : ∃ z : Int, μ.1 66 ((31 : Nat) : Int) = z := ⟨_, rfl⟩
  obtain ⟨g2, wg2⟩ : ∃ z : Int, μ.1 66 ((30 : Nat) : Int) = z := ⟨_, rfl⟩
  obtain ⟨g3, wg3⟩ : ∃ z : Int, μ.1 66 ((33 : Nat) : Int) = z := ⟨_, rfl⟩
  obtain ⟨g4, wg4⟩ : ∃ z : Int, μ.1 66 ((34 : Nat) : Int) = z := ⟨_, rfl⟩
  obtain ⟨g5, wg5⟩ : ∃ z : Int, μ.1 66 ((32 : Nat) : Int) = z := ⟨_, rfl⟩
  obtain ⟨g6, wg6⟩ : ∃ z : Int, μ.1 66 ((38 : Nat) : Int) = z := ⟨_, rfl⟩
  obtain ⟨g7, wg7⟩ : ∃ z : Int, μ.1 66 ((8 : Nat) : Int) = z := ⟨_, rfl⟩
  try rw [wg1] at hp0
  try rw [wg2] at hp0
  try rw [wg3] at hp0
  try rw [wg4] at hp0
  try rw [wg5] at hp0
  try rw [wg6] at hp0
  try rw [wg7] at hp0
  try rw [wg1] at hp1
  try rw [wg2] at hp1
  try rw [wg3] at hp1
  try rw [wg4] at hp1
  try rw [wg5] at hp1
  try rw [wg6] at hp1
  try rw [wg7] at hp1
  try rw [wg1] at hp2
  try rw [wg2] at hp2
  try rw [wg3] at hp2
  try rw [wg4] at hp2
  try rw [wg5] at hp2
  try rw [wg6] at hp2
  try rw [wg7] at hp2
  try rw [wg1] at hp3
  try rw [wg2] at hp3
  try rw [wg3] at hp3
  try rw [wg4] at hp3
  try rw [wg5] at hp3
  try rw [wg6] at hp3
  try rw [wg7] at hp3
  try rw [wg1] at hp4
  try rw [wg2] at hp4
  try rw [wg3] at hp4
  try rw [wg4] at hp4
  try rw [wg5] at hp4
  try rw [wg6] at hp4
  try rw [wg7] at hp4
  try rw [wg1] at hp5
  try rw [wg2] at hp5
  try rw [wg3] at hp5
  try rw [wg4] at hp5
  try rw [wg5] at hp5
  try rw [wg6] at hp5
  try rw [wg7] at hp5
  try rw [wg1] at hp6
  try rw [wg2] at hp6
  try rw [wg3] at hp6
  try rw [wg4] at hp6
  try rw [wg5] at hp6
  try rw [wg6] at hp6
  try rw [wg7] at hp6
  try rw [wg1] at hp7
  try rw [wg2] at hp7
  try rw [wg3] at hp7
  try rw [wg4] at hp7
  try rw [wg5] at hp7
  try rw [wg6] at hp7
  try rw [wg7] at hp7
  try rw [wg1] at hp8
  try rw [wg2] at hp8
  try rw [wg3] at hp8
  try rw [wg4] at hp8
  try rw [wg5] at hp8
  try rw [wg6] at hp8
  try rw [wg7] at hp8
  try rw [wg1] at hp9
  try rw [wg2] at hp9
  try rw [wg3] at hp9
  try rw [wg4] at hp9
  try rw [wg5] at hp9
  try rw [wg6] at hp9
  try rw [wg7] at hp9
  try rw [wg1] at hp10
  try rw [wg2] at hp10
  try rw [wg3] at hp10
  try rw [wg4] at hp10
  try rw [wg5] at hp10
  try rw [wg6] at hp10
  try rw [wg7] at hp10
  have z0 : zfx [67, 68, 69, 70, 71, 72, 73, 74, 100, 101, 102, 103, 104] [8, 31, 32, 33, 34, 35, 36, 38] μ μ := zfx_x μ
  intro vs m0 n hI
  replace hI := hI.2.2.1 rfl
  clear z0
  obtain ⟨v1, v2, v3, v4, v5, rfl, z0, hv1, hv2, hv3, hv4, hv5, i0, i1, i2, i3, i4, i5, i6, i7, i8, i9, i10, rfl⟩ := hI
  obtain ⟨j1, j2, j3⟩ := i0
  subst j1 j2 j3
  have vne : v5 ≠ 0 := by omega
  obtain ⟨g95, wg95⟩ : ∃ z : Int, m0.1 66 ((31 : Nat) : Int) = z := ⟨_, rfl⟩
  obtain ⟨g96, wg96⟩ : ∃ z : Int, m0.1 66 ((30 : Nat) : Int) = z := ⟨_, rfl⟩
  obtain ⟨g97, wg97⟩ : ∃ z : Int, m0.1 66 ((33 : Nat) : Int) = z := ⟨_, rfl⟩
  obtain ⟨g98, wg98⟩ : ∃ z : Int, m0.1 66 ((34 : Nat) : Int) = z := ⟨_, rfl⟩
  obtain ⟨g99, wg99⟩ : ∃ z : Int, m0.1 66 ((32 : Nat) : Int) = z := ⟨_, rfl⟩
  obtain ⟨g100, wg100⟩ : ∃ z : Int, m0.1 66 ((38 : Nat) : Int) = z := ⟨_, rfl⟩
  obtain ⟨g101, wg101⟩ : ∃ z : Int, m0.1 66 ((8 : Nat) : Int) = z := ⟨_, rfl⟩
  try rw [wg95] at i0
  try rw [wg96] at i0
  try rw [wg97] at i0
  try rw [wg98] at i0
  try rw [wg99] at i0
  try rw [wg100] at i0
  try rw [wg101] at i0
  try rw [wg1] at i0
  try rw [wg2] at i0
  try rw [wg3] at i0
  try rw [wg4] at i0
  try rw [wg5] at i0
  try rw [wg6] at i0
  try rw [wg7] at i0
  try rw [wg95] at i1
  try rw [wg96] at i1
  try rw [wg97] at i1
  try rw [wg98] at i1
  try rw [wg99] at i1
  try rw [wg100] at i1
  try rw [wg101] at i1
  try rw [wg1] at i1
  try rw [wg2] at i1
  try rw [wg3] at i1
  try rw [wg4] at i1
  try rw [wg5] at i1
  try rw [wg6] at i1
  try rw [wg7] at i1
  try rw [wg95] at i2
  try rw [wg96] at i2
  try rw [wg97] at i2
  try rw [wg98] at i2
  try rw [wg99] at i2
  try rw [wg100] at i2
  try rw [wg101] at i2
  try rw [wg1] at i2
  try rw [wg2] at i2
  try rw [wg3] at i2
  try rw [wg4] at i2
  try rw [wg5] at i2
  try rw [wg6] at i2
  try rw [wg7] at i2
  try rw [wg95] at i3
  try rw [wg96] at i3
  try rw [wg97] at i3
  try rw [wg98] at i3
  try rw [wg99] at i3
  try rw [wg100] at i3
  try rw [wg101] at i3
  try rw [wg1] at i3
  try rw [wg2] at i3
  try rw [wg3] at i3
  try rw [wg4] at i3
  try rw [wg5] at i3
  try rw [wg6] at i3
  try rw [wg7] at i3
  try rw [wg95] at i4
  try rw [wg96] at i4
  try rw [wg97] at i4
  try rw [wg98] at i4
  try rw [wg99] at i4
  try rw [wg100] at i4
  try rw [wg101] at i4
  try rw [wg1] at i4
  try rw [wg2] at i4
  try rw [wg3] at i4
  try rw [wg4] at i4
  try rw [wg5] at i4
  try rw [wg6] at i4
  try rw [wg7] at i4
  try rw [wg95] at i5
  try rw [wg96] at i5
  try rw [wg97] at i5
  try rw [wg98] at i5
  try rw [wg99] at i5
  try rw [wg100] at i5
  try rw [wg101] at i5
  try rw [wg1] at i5
  try rw [wg2] at i5
  try rw [wg3] at i5
  try rw [wg4] at i5
  try rw [wg5] at i5
  try rw [wg6] at i5
  try rw [wg7] at i5
  try rw [wg95] at i6
  try rw [wg96] at i6
  try rw [wg97] at i6
  try rw [wg98] at i6
  try rw [wg99] at i6
  try rw [wg100] at i6
  try rw [wg101] at i6
  try rw [wg1] at i6
  try rw [wg2] at i6
  try rw [wg3] at i6
  try rw [wg4] at i6
  try rw [wg5] at i6
  try rw [wg6] at i6
  try rw [wg7] at i6
  try rw [wg95] at i7
  try rw [wg96] at i7
  try rw [wg97] at i7
  try rw [wg98] at i7
  try rw [wg99] at i7
  try rw [wg100] at i7
  try rw [wg101] at i7
  try rw [wg1] at i7
  try rw [wg2] at i7
  try rw [wg3] at i7
  try rw [wg4] at i7
  try rw [wg5] at i7
  try rw [wg6] at i7
  try rw [wg7] at i7
  try rw [wg95] at i8
  try rw [wg96] at i8
  try rw [wg97] at i8
  try rw [wg98] at i8
  try rw [wg99] at i8
  try rw [wg100] at i8
  try rw [wg101] at i8
  try rw [wg1] at i8
  try rw [wg2] at i8
  try rw [wg3] at i8
  try rw [wg4] at i8
  try rw [wg5] at i8
  try rw [wg6] at i8
  try rw [wg7] at i8
  try rw [wg95] at i9
  try rw [wg96] at i9
  try rw [wg97] at i9
  try rw [wg98] at i9
  try rw [wg99] at i9
  try rw [wg100] at i9
  try rw [wg101] at i9
  try rw [wg1] at i9
  try rw [wg2] at i9
  try rw [wg3] at i9
  try rw [wg4] at i9
  try rw [wg5] at i9
  try rw [wg6] at i9
  try rw [wg7] at i9
  try rw [wg95] at i10
  try rw [wg96] at i10
  try rw [wg97] at i10
  try rw [wg98] at i10
  try rw [wg99] at i10
  try rw [wg100] at i10
  try rw [wg101] at i10
  try rw [wg1] at i10
  try rw [wg2] at i10
  try rw [wg3] at i10
  try rw [wg4] at i10
  try rw [wg5] at i10
  try rw [wg6] at i10
  try rw [wg7] at i10
  have T102 := i3.2 (by assumption)
  have O103 := i4 (by omega)
  have V3 : v3 = 0 := by omega
  clear i3 i4 i8
  obtain ⟨p0, n0, fr, L0, N0, S0, R0, D0⟩ := (rend i9).2.1 (by omega)
  clear i9
  have BV := rBv B n0
  have KK0 := rLx_k L0
  rw [wg99] at KK0
  have ZW0 : rW m0 := T102.1.1.2.1
  have N38 : g100 = n0 := by have h0 := N0.1.2.2.2.2.1; rw [BV.2.1, wg100] at h0; exact h0
  obtain ⟨f, r, rfl, D1⟩ := rfr D0 hv4.1
  have YW := yW4_r (B := yN B 0 2 n0) (fr := f :: r)
  rw [BV.2.2.2.1] at YW
  simp only [List.length_cons] at YW
  intro x104 hx104 kx104 lx104
  rw [wg99] at hx104
  refine And.intro ⟨⟨by omega, by omega⟩, ⟨by omega, by omega⟩⟩ (And.intro (fun c105 => ?_) (fun c105 => ?_))
  · have nc105 : yNe x104 63 := c105
    clear c105
    refine And.intro ⟨by omega, by omega⟩ (And.intro ⟨by omega, by omega⟩ ?_)
    intro m106 em106
    have z107 := zfx_r z0 em106 rfl (by decide)
    have w108 : m106.1 66 ((31 : Nat) : Int) = g95 := by rw [em106]; exact (congrFun (zu_ne (by decide)) _).trans wg95
    have w109 : m106.1 66 ((30 : Nat) : Int) = g96 := by rw [em106]; exact (congrFun (zu_ne (by decide)) _).trans wg96
    have w110 : m106.1 66 ((33 : Nat) : Int) = g97 := by rw [em106]; exact (congrFun (zu_ne (by decide)) _).trans wg97
    have w111 : m106.1 66 ((34 : Nat) : Int) = g98 := by rw [em106]; exact (congrFun (zu_ne (by decide)) _).trans wg98
    have w112 : m106.1 66 ((32 : Nat) : Int) = g99 := by rw [em106]; exact (congrFun (zu_ne (by decide)) _).trans wg99
    have w113 : m106.1 66 ((38 : Nat) : Int) = g100 := by rw [em106]; exact (congrFun (zu_ne (by decide)) _).trans wg100
    have w114 : m106.1 66 ((8 : Nat) : Int) = g101 := by rw [em106]; exact (congrFun (zu_ne (by decide)) _).trans wg101
    have T115 := zTI_push T102 hv4.1 em106 rfl (Or.inl rfl) (fun a b => by omega) O103
    have L1 := rLx_w L0 em106 (Or.inr (Or.inr rfl))
    have N1 := rNu_w N0 em106 (Or.inr rfl)
    obtain ⟨S1, ZW1⟩ := rFs_w S0 em106 (Or.inr (Or.inr ⟨rfl, by omega⟩)) ZW0
    have R1 := yR_s R0 (ym11_t (fun h0 => nc105 (by omega)))
    refine Exists.intro (2 * zrT m106 0 + 1) (And.intro (zrd2 (zrT_st (by unfold zrm; simp only [w108, w109, w110, w111, w112, w113, w114, wg95, wg96, wg97, wg98, wg99, wg100, wg101, wg1, wg2, wg3, wg4, wg5, wg6, wg7]) (zrm_0 (by (try rw [w108]) <;> (try rw [w109]) <;> (try rw [w110]) <;> (try rw [w111]) <;> (try rw [w112]) <;> (try rw [w113]) <;> (try rw [w114]) <;> (try rw [wg95]) <;> (try rw [wg96]) <;> (try rw [wg97]) <;> (try rw [wg98]) <;> (try rw [wg99]) <;> (try rw [wg100]) <;> (try rw [wg101]) <;> (try rw [wg1]) <;> (try rw [wg2]) <;> (try rw [wg3]) <;> (try rw [wg4]) <;> (try rw [wg5]) <;> (try rw [wg6]) <;> (try rw [wg7]) <;> omega)) (by omega) (by omega))) ?_)
    exact ⟨(fun _ => ⟨_, _, _, _, _, rfl, z107, ⟨by omega, by omega⟩, ⟨by omega, by omega⟩, ⟨by omega, by omega⟩, ⟨by omega, by omega⟩, ⟨by omega, by omega⟩, ⟨rfl, rfl, rfl⟩, (by (try rw [w108]) <;> (try rw [w109]) <;> (try rw [w110]) <;> (try rw [w111]) <;> (try rw [w112]) <;> (try rw [w113]) <;> (try rw [w114]) <;> (try rw [wg95]) <;> (try rw [wg96]) <;> (try rw [wg97]) <;> (try rw [wg98]) <;> (try rw [wg99]) <;> (try rw [wg100]) <;> (try rw [wg101]) <;> (try rw [wg1]) <;> (try rw [wg2]) <;> (try rw [wg3]) <;> (try rw [wg4]) <;> (try rw [wg5]) <;> (try rw [wg6]) <;> (try rw [wg7]) <;> omega), (by (try rw [w108]) <;> (try rw [w109]) <;> (try rw [w110]) <;> (try rw [w111]) <;> (try rw [w112]) <;> (try rw [w113]) <;> (try rw [w114]) <;> (try rw [wg95]) <;> (try rw [wg96]) <;> (try rw [wg97]) <;> (try rw [wg98]) <;> (try rw [wg99]) <;> (try rw [wg100]) <;> (try rw [wg101]) <;> (try rw [wg1]) <;> (try rw [wg2]) <;> (try rw [wg3]) <;> (try rw [wg4]) <;> (try rw [wg5]) <;> (try rw [wg6]) <;> (try rw [wg7]) <;> omega), ⟨fun _ => zTI_w0 T115 (by rw [em106]; exact zu_at), fun h => absurd rfl h⟩, (fun h => absurd h (by decide)), (Or.inl rfl), (by have h6 := i6; unfold zrm at h6 ⊢; simp only [w108, w109, w110, w111, w112, w113, w114, wg95, wg96, wg97, wg98, wg99, wg100, wg101, wg1, wg2, wg3, wg4, wg5, wg6, wg7] at h6 ⊢; (repeat' split at h6) <;> (repeat' split) <;> omega), (by (try rw [w108]) <;> (try rw [w109]) <;> (try rw [w110]) <;> (try rw [w111]) <;> (try rw [w112]) <;> (try rw [w113]) <;> (try rw [w114]) <;> (try rw [wg95]) <;> (try rw [wg96]) <;> (try rw [wg97]) <;> (try rw [wg98]) <;> (try rw [wg99]) <;> (try rw [wg100]) <;> (try rw [wg101]) <;> (try rw [wg1]) <;> (try rw [wg2]) <;> (try rw [wg3]) <;> (try rw [wg4]) <;> (try rw [wg5]) <;> (try rw [wg6]) <;> (try rw [wg7]) <;> omega), (Or.inr V3), ⟨_, _, _, L1, N1, S1, Or.inl ⟨rfl, by rw [show m106.1 104 (v4 + 1) = 0 by rw [em106, zu_at]]; exact R1, by simp only [List.length_cons]; omega⟩⟩, rfl⟩), (fun h => absurd h (by decide)), (fun h => absurd h (by decide)), (fun h => absurd h (by decide)), (fun h => absurd h (by decide))⟩
  · intro x116 hx116 kx116 lx116
    rw [wg100] at hx116
    refine And.intro ⟨⟨by omega, by omega⟩, ⟨by omega, by omega⟩⟩ (And.intro (fun c117 => ?_) (fun c117 => ?_))
    · have nc117 : yNe x116 300 := c117
      refine And.intro ⟨⟨by omega, by omega⟩, ⟨by omega, by omega⟩⟩ (And.intro (fun c118 => ?_) (fun c118 => ?_))
      · intro x119 hx119 kx119 lx119
        rw [wg100] at hx119
        refine And.intro ⟨by omega, by omega⟩ ?_
        intro m120 em120
        have z121 := zfx_f z0 em120 rfl
        have w122 : m120.1 66 ((31 : Nat) : Int) = g95 := by rw [em120]; exact (zu_nk (by decide)).trans wg95
        have w123 : m120.1 66 ((30 : Nat) : Int) = g96 := by rw [em120]; exact (zu_nk (by decide)).trans wg96
        have w124 : m120.1 66 ((33 : Nat) : Int) = g97 := by rw [em120]; exact (zu_nk (by decide)).trans wg97
        have w125 : m120.1 66 ((34 : Nat) : Int) = g98 := by rw [em120]; exact (zu_nk (by decide)).trans wg98
        have w126 : m120.1 66 ((32 : Nat) : Int) = g99 := by rw [em120]; exact (zu_nk (by decide)).trans wg99
        have w127 : m120.1 66 ((38 : Nat) : Int) = (x119 + 1) := by rw [em120]; exact zu_at
        have w128 : m120.1 66 ((8 : Nat) : Int) = g101 := by rw [em120]; exact (zu_nk (by decide)).trans wg101
        have T129 := zTI_n1 (m' := m120) T102 (fun j a b => by rw [em120, zu_ne (by omega)]) (fun j a b => by rw [em120, zu_ne (by omega)]) (by show m120.1 66 ((8 : Nat) : Int) = m0.1 66 ((8 : Nat) : Int); rw [em120]; exact zu_nk (by decide)) (by (try rw [w122]) <;> (try rw [w123]) <;> (try rw [w124]) <;> (try rw [w125]) <;> (try rw [w126]) <;> (try rw [w127]) <;> (try rw [w128]) <;> (try rw [wg95]) <;> (try rw [wg96]) <;> (try rw [wg97]) <;> (try rw [wg98]) <;> (try rw [wg99]) <;> (try rw [wg100]) <;> (try rw [wg101]) <;> (try rw [wg1]) <;> (try rw [wg2]) <;> (try rw [wg3]) <;> (try rw [wg4]) <;> (try rw [wg5]) <;> (try rw [wg6]) <;> (try rw [wg7]) <;> omega)
        have O130 : m120.1 100 v4 = 0 := by rw [em120, zu_ne (by decide)]; exact O103
        have L1 := rLx_w L0 em120 (Or.inl ⟨rfl, rfl⟩)
        have N1 := rNu_38 N0 em120
        obtain ⟨S1, ZW1⟩ := rFs_w S0 em120 (Or.inl ⟨rfl, by decide⟩) ZW0
        have N300 : n0 < 300 := by rcases (show n0 < 300 ∨ n0 = 300 by omega) with h0 | h0; exact h0; exact absurd (show x116 = 300 by omega) nc117
        have Y4 : yW4 (yN B 0 2 n0) (f :: r) = 0 := by by_cases h0 : yW4 (yN B 0 2 n0) (f :: r) = 0; exact h0; (exfalso; have h1 := YW.mp h0; omega)
        have NX : (x119 + 1) = (yN B 0 2 n0).1 0 2 + 1 := by rw [BV.2.1]; omega
        rw [NX] at N1
        refine ⟨yk_X9_pass, ym_X9_pass hg d (by omega), rfl, (by (try rw [w122]) <;> (try rw [w123]) <;> (try rw [w124]) <;> (try rw [w125]) <;> (try rw [w126]) <;> (try rw [w127]) <;> (try rw [w128]) <;> (try rw [wg95]) <;> (try rw [wg96]) <;> (try rw [wg97]) <;> (try rw [wg98]) <;> (try rw [wg99]) <;> (try rw [wg100]) <;> (try rw [wg101]) <;> (try rw [wg1]) <;> (try rw [wg2]) <;> (try rw [wg3]) <;> (try rw [wg4]) <;> (try rw [wg5]) <;> (try rw [wg6]) <;> (try rw [wg7]) <;> omega), ?_⟩
        intro m131 qm131 p132 p133 p134 p135 p136
        have z137 := zfx_t z121 qm131 rfl rfl
        have w138 : m131.1 66 ((30 : Nat) : Int) = g96 := (qm131.2.1 30 rfl).trans w123
        have w139 : m131.1 66 ((38 : Nat) : Int) = (x119 + 1) := (qm131.2.1 38 rfl).trans w127
        have w140 : m131.1 66 ((8 : Nat) : Int) = g101 := (qm131.2.1 8 rfl).trans w128
        obtain ⟨g141, wg141⟩ : ∃ z : Int, m131.1 66 ((31 : Nat) : Int) = z := ⟨_, rfl⟩
        obtain ⟨g142, wg142⟩ : ∃ z : Int, m131.1 66 ((33 : Nat) : Int) = z := ⟨_, rfl⟩
        obtain ⟨g143, wg143⟩ : ∃ z : Int, m131.1 66 ((34 : Nat) : Int) = z := ⟨_, rfl⟩
        obtain ⟨g144, wg144⟩ : ∃ z : Int, m131.1 66 ((32 : Nat) : Int) = z := ⟨_, rfl⟩
        try rw [wg141] at p132
        try rw [w138] at p132
        try rw [wg142] at p132
        try rw [wg143] at p132
        try rw [wg144] at p132
        try rw [w139] at p132
        try rw [w140] at p132
        try rw [w122] at p132
        try rw [w123] at p132
        try rw [w124] at p132
        try rw [w125] at p132
        try rw [w126] at p132
        try rw [w127] at p132
        try rw [w128] at p132
        try rw [wg1] at p132
        try rw [wg2] at p132
        try rw [wg3] at p132
        try rw [wg4] at p132
        try rw [wg5] at p132
        try rw [wg6] at p132
        try rw [wg7] at p132
        try rw [wg141] at p133
        try rw [w138] at p133
        try rw [wg142] at p133
        try rw [wg143] at p133
        try rw [wg144] at p133
        try rw [w139] at p133
        try rw [w140] at p133
        try rw [w122] at p133
        try rw [w123] at p133
        try rw [w124] at p133
        try rw [w125] at p133
        try rw [w126] at p133
        try rw [w127] at p133
        try rw [w128] at p133
        try rw [wg1] at p133
        try rw [wg2] at p133
        try rw [wg3] at p133
        try rw [wg4] at p133
        try rw [wg5] at p133
        try rw [wg6] at p133
        try rw [wg7] at p133
        try rw [wg141] at p134
        try rw [w138] at p134
        try rw [wg142] at p134
        try rw [wg143] at p134
        try rw [wg144] at p134
        try rw [w139] at p134
        try rw [w140] at p134
        try rw [w122] at p134
        try rw [w123] at p134
        try rw [w124] at p134
        try rw [w125] at p134
        try rw [w126] at p134
        try rw [w127] at p134
        try rw [w128] at p134
        try rw [wg1] at p134
        try rw [wg2] at p134
        try rw [wg3] at p134
        try rw [wg4] at p134
        try rw [wg5] at p134
        try rw [wg6] at p134
        try rw [wg7] at p134
        try rw [wg141] at p135
        try rw [w138] at p135
        try rw [wg142] at p135
        try rw [wg143] at p135
        try rw [wg144] at p135
        try rw [w139] at p135
        try rw [w140] at p135
        try rw [w122] at p135
        try rw [w123] at p135
        try rw [w124] at p135
        try rw [w125] at p135
        try rw [w126] at p135
        try rw [w127] at p135
        try rw [w128] at p135
        try rw [wg1] at p135
        try rw [wg2] at p135
        try rw [wg3] at p135
        try rw [wg4] at p135
        try rw [wg5] at p135
        try rw [wg6] at p135
        try rw [wg7] at p135
        clear w122 w123 w124 w125 w126 w127 w128
        have T145 := zTI_fr0 T129 (fun j a b => qm131.1 j (by omega) (zanyF (by simp <;> omega))) (fun j a b => qm131.1 j (by omega) (zanyF (by simp <;> omega))) (qm131.2.1 8 rfl) (qm131.2.1 38 rfl)
        have O146 : m131.1 100 v4 = 0 := by rw [qm131.1 100 (by decide) rfl]; exact O130
        have L2 := rLx_p L1 (qm131.1 85 (by decide) rfl) (qm131.2.1 30 rfl) p136
        have N2 := rNu_z N1 qm131 ⟨rfl, rfl, rfl, rfl, rfl, rfl⟩ ⟨rfl, rfl, rfl, rfl, rfl, rfl⟩
        obtain ⟨S2, ZW2⟩ := rFs_q S1 qm131 rfl rfl ZW1
        have KK2 := rLx_k L2
        rw [wg144] at KK2
        intro x147 hx147 kx147 lx147
        rw [wg144] at hx147
        refine And.intro ⟨⟨by omega, by omega⟩, ⟨by omega, by omega⟩⟩ (And.intro (fun c148 => ?_) (fun c148 => ?_))
        · intro x149 hx149 kx149 lx149
          rw [wg144] at hx149
          refine And.intro ⟨⟨by omega, by omega⟩, ⟨by omega, by omega⟩⟩ (And.intro (fun c150 => ?_) (fun c150 => ?_))
          · exfalso; omega
          · refine And.intro ⟨by omega, by omega⟩ (And.intro ⟨by omega, by omega⟩ ?_)
            intro m151 em151
            have z152 := zfx_r z137 em151 rfl (by decide)
            have w153 : m151.1 66 ((31 : Nat) : Int) = g141 := by rw [em151]; exact (congrFun (zu_ne (by decide)) _).trans wg141
            have w154 : m151.1 66 ((30 : Nat) : Int) = g96 := by rw [em151]; exact (congrFun (zu_ne (by decide)) _).trans w138
            have w155 : m151.1 66 ((33 : Nat) : Int) = g142 := by rw [em151]; exact (congrFun (zu_ne (by decide)) _).trans wg142
            have w156 : m151.1 66 ((34 : Nat) : Int) = g143 := by rw [em151]; exact (congrFun (zu_ne (by decide)) _).trans wg143
            have w157 : m151.1 66 ((32 : Nat) : Int) = g144 := by rw [em151]; exact (congrFun (zu_ne (by decide)) _).trans wg144
            have w158 : m151.1 66 ((38 : Nat) : Int) = (x119 + 1) := by rw [em151]; exact (congrFun (zu_ne (by decide)) _).trans w139
            have w159 : m151.1 66 ((8 : Nat) : Int) = g101 := by rw [em151]; exact (congrFun (zu_ne (by decide)) _).trans w140
            clear wg141 w138 wg142 wg143 wg144 w139 w140
            have T160 := zTI_push T145 hv4.1 em151 rfl (Or.inr (Or.inl rfl)) (fun a b => by omega) O146
            have L3 := rLx_w L2 em151 (Or.inr (Or.inr rfl))
            have N3 := rNu_w N2 em151 (Or.inr rfl)
            obtain ⟨S3, ZW3⟩ := rFs_w S2 em151 (Or.inr (Or.inr ⟨rfl, by omega⟩)) ZW2
            have R1 := yR_s R0 (ym11_u (by omega) (by rw [BV.2.1]; exact N300) Y4 (by omega))
            rw [yN_N] at R1
            refine ⟨yk_X9_pass, ym_X9_pass hg d (by omega), rfl, (by (try rw [w153]) <;> (try rw [w154]) <;> (try rw [w155]) <;> (try rw [w156]) <;> (try rw [w157]) <;> (try rw [w158]) <;> (try rw [w159]) <;> (try rw [wg95]) <;> (try rw [wg96]) <;> (try rw [wg97]) <;> (try rw [wg98]) <;> (try rw [wg99]) <;> (try rw [wg100]) <;> (try rw [wg101]) <;> (try rw [wg1]) <;> (try rw [wg2]) <;> (try rw [wg3]) <;> (try rw [wg4]) <;> (try rw [wg5]) <;> (try rw [wg6]) <;> (try rw [wg7]) <;> omega), ?_⟩
            intro m161 qm161 p162 p163 p164 p165 p166
            have z167 := zfx_t z152 qm161 rfl rfl
            have w168 : m161.1 66 ((30 : Nat) : Int) = g96 := (qm161.2.1 30 rfl).trans w154
            have w169 : m161.1 66 ((38 : Nat) : Int) = (x119 + 1) := (qm161.2.1 38 rfl).trans w158
            have w170 : m161.1 66 ((8 : Nat) : Int) = g101 := (qm161.2.1 8 rfl).trans w159
            obtain ⟨g171, wg171⟩ : ∃ z : Int, m161.1 66 ((31 : Nat) : Int) = z := ⟨_, rfl⟩
            obtain ⟨g172, wg172⟩ : ∃ z : Int, m161.1 66 ((33 : Nat) : Int) = z := ⟨_, rfl⟩
            obtain ⟨g173, wg173⟩ : ∃ z : Int, m161.1 66 ((34 : Nat) : Int) = z := ⟨_, rfl⟩
            obtain ⟨g174, wg174⟩ : ∃ z : Int, m161.1 66 ((32 : Nat) : Int) = z := ⟨_, rfl⟩
            try rw [wg171] at p162
            try rw [w168] at p162
            try rw [wg172] at p162
            try rw [wg173] at p162
            try rw [wg174] at p162
            try rw [w169] at p162
            try rw [w170] at p162
            try rw [w153] at p162
            try rw [w154] at p162
            try rw [w155] at p162
            try rw [w156] at p162
            try rw [w157] at p162
            try rw [w158] at p162
            try rw [w159] at p162
            try rw [wg1] at p162
            try rw [wg2] at p162
            try rw [wg3] at p162
            try rw [wg4] at p162
            try rw [wg5] at p162
            try rw [wg6] at p162
            try rw [wg7] at p162
            try rw [wg171] at p163
            try rw [w168] at p163
            try rw [wg172] at p163
            try rw [wg173] at p163
            try rw [wg174] at p163
            try rw [w169] at p163
            try rw [w170] at p163
            try rw [w153] at p163
            try rw [w154] at p163
            try rw [w155] at p163
            try rw [w156] at p163
            try rw [w157] at p163
            try rw [w158] at p163
            try rw [w159] at p163
            try rw [wg1] at p163
            try rw [wg2] at p163
            try rw [wg3] at p163
            try rw [wg4] at p163
            try rw [wg5] at p163
            try rw [wg6] at p163
            try rw [wg7] at p163
            try rw [wg171] at p164
            try rw [w168] at p164
            try rw [wg172] at p164
            try rw [wg173] at p164
            try rw [wg174] at p164
            try rw [w169] at p164
            try rw [w170] at p164
            try rw [w153] at p164
            try rw [w154] at p164
            try rw [w155] at p164
            try rw [w156] at p164
            try rw [w157] at p164
            try rw [w158] at p164
            try rw [w159] at p164
            try rw [wg1] at p164
            try rw [wg2] at p164
            try rw [wg3] at p164
            try rw [wg4] at p164
            try rw [wg5] at p164
            try rw [wg6] at p164
            try rw [wg7] at p164
            try rw [wg171] at p165
            try rw [w168] at p165
            try rw [wg172] at p165
            try rw [wg173] at p165
            try rw [wg174] at p165
            try rw [w169] at p165
            try rw [w170] at p165
            try rw [w153] at p165
            try rw [w154] at p165
            try rw [w155] at p165
            try rw [w156] at p165
            try rw [w157] at p165
            try rw [w158] at p165
            try rw [w159] at p165
            try rw [wg1] at p165
            try rw [wg2] at p165
            try rw [wg3] at p165
            try rw [wg4] at p165
            try rw [wg5] at p165
            try rw [wg6] at p165
            try rw [wg7] at p165
            clear w153 w154 w155 w156 w157 w158 w159
            have T175 := zTI_fr0 T160 (fun j a b => qm161.1 j (by omega) (zanyF (by simp <;> omega))) (fun j a b => qm161.1 j (by omega) (zanyF (by simp <;> omega))) (qm161.2.1 8 rfl) (qm161.2.1 38 rfl)
            have L4 := rLx_p L3 (qm161.1 85 (by decide) rfl) (qm161.2.1 30 rfl) p166
            have N4 := rNu_z N3 qm161 ⟨rfl, rfl, rfl, rfl, rfl, rfl⟩ ⟨rfl, rfl, rfl, rfl, rfl, rfl⟩
            obtain ⟨S4, ZW4⟩ := rFs_q S3 qm161 rfl rfl ZW3
            refine Exists.intro (2 * zrT m161 0 + 1) (And.intro (zrd2 (zrT_lt (by unfold zrm; simp only [wg171, w168, wg172, wg173, wg174, w169, w170, wg95, wg96, wg97, wg98, wg99, wg100, wg101, wg1, wg2, wg3, wg4, wg5, wg6, wg7]; (repeat' split) <;> omega) (zrm_0 (by (try rw [wg171]) <;> (try rw [w168]) <;> (try rw [wg172]) <;> (try rw [wg173]) <;> (try rw [wg174]) <;> (try rw [w169]) <;> (try rw [w170]) <;> (try rw [wg95]) <;> (try rw [wg96]) <;> (try rw [wg97]) <;> (try rw [wg98]) <;> (try rw [wg99]) <;> (try rw [wg100]) <;> (try rw [wg101]) <;> (try rw [wg1]) <;> (try rw [wg2]) <;> (try rw [wg3]) <;> (try rw [wg4]) <;> (try rw [wg5]) <;> (try rw [wg6]) <;> (try rw [wg7]) <;> omega)))) ?_)
            exact ⟨(fun _ => ⟨_, _, _, _, _, rfl, z167, ⟨by omega, by omega⟩, ⟨by omega, by omega⟩, ⟨by omega, by omega⟩, ⟨by omega, by omega⟩, ⟨by omega, by omega⟩, ⟨rfl, rfl, rfl⟩, (by (try rw [wg171]) <;> (try rw [w168]) <;> (try rw [wg172]) <;> (try rw [wg173]) <;> (try rw [wg174]) <;> (try rw [w169]) <;> (try rw [w170]) <;> (try rw [wg95]) <;> (try rw [wg96]) <;> (try rw [wg97]) <;> (try rw [wg98]) <;> (try rw [wg99]) <;> (try rw [wg100]) <;> (try rw [wg101]) <;> (try rw [wg1]) <;> (try rw [wg2]) <;> (try rw [wg3]) <;> (try rw [wg4]) <;> (try rw [wg5]) <;> (try rw [wg6]) <;> (try rw [wg7]) <;> omega), (by (try rw [wg171]) <;> (try rw [w168]) <;> (try rw [wg172]) <;> (try rw [wg173]) <;> (try rw [wg174]) <;> (try rw [w169]) <;> (try rw [w170]) <;> (try rw [wg95]) <;> (try rw [wg96]) <;> (try rw [wg97]) <;> (try rw [wg98]) <;> (try rw [wg99]) <;> (try rw [wg100]) <;> (try rw [wg101]) <;> (try rw [wg1]) <;> (try rw [wg2]) <;> (try rw [wg3]) <;> (try rw [wg4]) <;> (try rw [wg5]) <;> (try rw [wg6]) <;> (try rw [wg7]) <;> omega), ⟨fun _ => zTI_w1 T175 (by rw [qm161.1 104 (by decide) rfl, em151, zu_at]; decide), fun h => absurd rfl h⟩, (fun h => absurd h (by decide)), (Or.inl rfl), (by have h6 := i6; unfold zrm at h6 ⊢; simp only [wg171, w168, wg172, wg173, wg174, w169, w170, wg95, wg96, wg97, wg98, wg99, wg100, wg101, wg1, wg2, wg3, wg4, wg5, wg6, wg7] at h6 ⊢; (repeat' split at h6) <;> (repeat' split) <;> omega), (by (try rw [wg171]) <;> (try rw [w168]) <;> (try rw [wg172]) <;> (try rw [wg173]) <;> (try rw [wg174]) <;> (try rw [w169]) <;> (try rw [w170]) <;> (try rw [wg95]) <;> (try rw [wg96]) <;> (try rw [wg97]) <;> (try rw [wg98]) <;> (try rw [wg99]) <;> (try rw [wg100]) <;> (try rw [wg101]) <;> (try rw [wg1]) <;> (try rw [wg2]) <;> (try rw [wg3]) <;> (try rw [wg4]) <;> (try rw [wg5]) <;> (try rw [wg6]) <;> (try rw [wg7]) <;> omega), (Or.inr V3), ⟨_, _, _, L4, N4, S4, Or.inl ⟨rfl, by rw [show m161.1 104 (v4 + 1) = 4 by rw [qm161.1 104 (by decide) rfl, em151, zu_at]]; exact R1, by simp only [List.length_cons]; omega⟩⟩, rfl⟩), (fun h => absurd h (by decide)), (fun h => absurd h (by decide)), (fun h => absurd h (by decide)), (fun h => absurd h (by decide))⟩
        · have nc148 : yNe x147 58 := c148
          clear c148
          intro x176 hx176 kx176 lx176
          rw [wg144] at hx176
          refine And.intro ⟨⟨by omega, by omega⟩, ⟨by omega, by omega⟩⟩ (And.intro (fun c177 => ?_) (fun c177 => ?_))
          · have nc177 : yNe x176 94 := c177
            clear c177
            refine ⟨zk_X9_make, zm_X9_make hg d (by omega), _, _, _, _, rfl, ⟨by omega, by omega⟩, ⟨by omega, by omega⟩, ⟨by omega, by omega⟩, T145.1.1, (zTE_top (zTE_of T145 (by omega) (by omega)) w140 w139 wg7 wg6 hp5.1 (by omega)), ⟨fun h => absurd h (by decide), fun h => absurd h (by decide)⟩, (fun i a b => by omega), ?_⟩
            intro x178 m179 qm179 kx178 lx178 p180 p181 p182 p183
            have z184 := zfx_t z137 qm179 rfl rfl
            have w185 : m179.1 66 ((31 : Nat) : Int) = g141 := (qm179.2.1 31 rfl).trans wg141
            have w186 : m179.1 66 ((30 : Nat) : Int) = g96 := (qm179.2.1 30 rfl).trans w138
            have w187 : m179.1 66 ((33 : Nat) : Int) = g142 := (qm179.2.1 33 rfl).trans wg142
            have w188 : m179.1 66 ((34 : Nat) : Int) = g143 := (qm179.2.1 34 rfl).trans wg143
            have w189 : m179.1 66 ((32 : Nat) : Int) = g144 := (qm179.2.1 32 rfl).trans wg144
            have w190 : m179.1 66 ((38 : Nat) : Int) = (x119 + 1) := (qm179.2.1 38 rfl).trans w139
            obtain ⟨g191, wg191⟩ : ∃ z : Int, m179.1 66 ((8 : Nat) : Int) = z := ⟨_, rfl⟩
            try rw [w185] at p180
            try rw [w186] at p180
            try rw [w187] at p180
            try rw [w188] at p180
            try rw [w189] at p180
            try rw [w190] at p180
            try rw [wg191] at p180
            try rw [wg141] at p180
            try rw [w138] at p180
            try rw [wg142] at p180
            try rw [wg143] at p180
            try rw [wg144] at p180
            try rw [w139] at p180
            try rw [w140] at p180
            try rw [wg1] at p180
            try rw [wg2] at p180
            try rw [wg3] at p180
            try rw [wg4] at p180
            try rw [wg5] at p180
            try rw [wg6] at p180
            try rw [wg7] at p180
            try rw [w185] at p181
            try rw [w186] at p181
            try rw [w187] at p181
            try rw [w188] at p181
            try rw [w189] at p181
            try rw [w190] at p181
            try rw [wg191] at p181
            try rw [wg141] at p181
            try rw [w138] at p181
            try rw [wg142] at p181
            try rw [wg143] at p181
            try rw [wg144] at p181
            try rw [w139] at p181
            try rw [w140] at p181
            try rw [wg1] at p181
            try rw [wg2] at p181
            try rw [wg3] at p181
            try rw [wg4] at p181
            try rw [wg5] at p181
            try rw [wg6] at p181
            try rw [wg7] at p181
            try rw [w185] at p182
            try rw [w186] at p182
            try rw [w187] at p182
            try rw [w188] at p182
            try rw [w189] at p182
            try rw [w190] at p182
            try rw [wg191] at p182
            try rw [wg141] at p182
            try rw [w138] at p182
            try rw [wg142] at p182
            try rw [wg143] at p182
            try rw [wg144] at p182
            try rw [w139] at p182
            try rw [w140] at p182
            try rw [wg1] at p182
            try rw [wg2] at p182
            try rw [wg3] at p182
            try rw [wg4] at p182
            try rw [wg5] at p182
            try rw [wg6] at p182
            try rw [wg7] at p182
            try rw [w185] at p183
            try rw [w186] at p183
            try rw [w187] at p183
            try rw [w188] at p183
            try rw [w189] at p183
            try rw [w190] at p183
            try rw [wg191] at p183
            try rw [wg141] at p183
            try rw [w138] at p183
            try rw [wg142] at p183
            try rw [wg143] at p183
            try rw [wg144] at p183
            try rw [w139] at p183
            try rw [w140] at p183
            try rw [wg1] at p183
            try rw [wg2] at p183
            try rw [wg3] at p183
            try rw [wg4] at p183
            try rw [wg5] at p183
            try rw [wg6] at p183
            try rw [wg7] at p183
            clear wg141 w138 wg142 wg143 wg144 w139 w140
            have ME : rE m179 x178 [200] := rany p181
            have MT : zTop m131 ≤ zTop m179 := by rcases p182 with h0 | h0 <;> omega
            have MX : 0 ≤ x178 ∧ x178 < zTop m179 := ⟨by omega, by rcases p182 with h0 | h0 <;> omega⟩
            have L3 := rLx_z L2 qm179 rfl ⟨rfl, rfl, rfl, rfl, rfl⟩
            have N3 := rNu_z N2 qm179 ⟨rfl, rfl, rfl, rfl, rfl, rfl⟩ ⟨rfl, rfl, rfl, rfl, rfl, rfl⟩
            obtain ⟨S3, ZW3⟩ := rFs_m S2 qm179 rfl p183 MT p180 ZW2
            have T192 := (⟨p180, p181, p182, p183⟩ : zMd m131 m179 lo 3 0 0 (m131.1 74) x178)
            have T193 := zTI_mk T145 (fun j a b => qm179.1 j (by omega) (zanyF (by simp <;> omega))) (qm179.2.1 38 rfl) T192 (zW1_like p181 (fun i a b => by omega) (fun e => by omega) (fun e => by omega) (fun e => by omega) (fun _ => rfl) (fun e => by omega))
            have X1 := zMd_x T192 T145.1.1
            have X2 := zMd_s T192 T145.1.1
            have X3 : zPar m179 pa pe x178 := zPar_like p181 (fun e => by omega) (fun i a b => by omega)
            have O194 : m179.1 100 v4 = 0 := by rw [qm179.1 100 (by decide) rfl]; exact O146
            clear T192 p180 p181 p182 p183
            refine ⟨zk_X9_addArg, zm_X9_addArg hg d (by omega), _, _, rfl, ⟨by omega, by omega⟩, ⟨by omega, by omega⟩, (zTI_cnt T193 (by omega) (by omega) (by decide) w190 wg6 (by omega) hp5.2.1), ?_⟩
            intro m195 qm195 p196 p197 p198 p199
            have z200 := zfx_t z184 qm195 rfl rfl
            have w201 : m195.1 66 ((31 : Nat) : Int) = g141 := (qm195.2.1 31 rfl).trans w185
            have w202 : m195.1 66 ((30 : Nat) : Int) = g96 := (qm195.2.1 30 rfl).trans w186
            have w203 : m195.1 66 ((33 : Nat) : Int) = g142 := (qm195.2.1 33 rfl).trans w187
            have w204 : m195.1 66 ((34 : Nat) : Int) = g143 := (qm195.2.1 34 rfl).trans w188
            have w205 : m195.1 66 ((32 : Nat) : Int) = g144 := (qm195.2.1 32 rfl).trans w189
            have w206 : m195.1 66 ((38 : Nat) : Int) = (x119 + 1) := (qm195.2.1 38 rfl).trans w190
            have w207 : m195.1 66 ((8 : Nat) : Int) = g191 := (qm195.2.1 8 rfl).trans wg191
            try rw [w201] at p196
            try rw [w202] at p196
            try rw [w203] at p196
            try rw [w204] at p196
            try rw [w205] at p196
            try rw [w206] at p196
            try rw [w207] at p196
            try rw [w185] at p196
            try rw [w186] at p196
            try rw [w187] at p196
            try rw [w188] at p196
            try rw [w189] at p196
            try rw [w190] at p196
            try rw [wg191] at p196
            try rw [wg1] at p196
            try rw [wg2] at p196
            try rw [wg3] at p196
            try rw [wg4] at p196
            try rw [wg5] at p196
            try rw [wg6] at p196
            try rw [wg7] at p196
            try rw [w201] at p197
            try rw [w202] at p197
            try rw [w203] at p197
            try rw [w204] at p197
            try rw [w205] at p197
            try rw [w206] at p197
            try rw [w207] at p197
            try rw [w185] at p197
            try rw [w186] at p197
            try rw [w187] at p197
            try rw [w188] at p197
            try rw [w189] at p197
            try rw [w190] at p197
            try rw [wg191] at p197
            try rw [wg1] at p197
            try rw [wg2] at p197
            try rw [wg3] at p197
            try rw [wg4] at p197
            try rw [wg5] at p197
            try rw [wg6] at p197
            try rw [wg7] at p197
            try rw [w201] at p198
            try rw [w202] at p198
            try rw [w203] at p198
            try rw [w204] at p198
            try rw [w205] at p198
            try rw [w206] at p198
            try rw [w207] at p198
            try rw [w185] at p198
            try rw [w186] at p198
            try rw [w187] at p198
            try rw [w188] at p198
            try rw [w189] at p198
            try rw [w190] at p198
            try rw [wg191] at p198
            try rw [wg1] at p198
            try rw [wg2] at p198
            try rw [wg3] at p198
            try rw [wg4] at p198
            try rw [wg5] at p198
            try rw [wg6] at p198
            try rw [wg7] at p198
            try rw [w201] at p199
            try rw [w202] at p199
            try rw [w203] at p199
            try rw [w204] at p199
            try rw [w205] at p199
            try rw [w206] at p199
            try rw [w207] at p199
            try rw [w185] at p199
            try rw [w186] at p199
            try rw [w187] at p199
            try rw [w188] at p199
            try rw [w189] at p199
            try rw [w190] at p199
            try rw [wg191] at p199
            try rw [wg1] at p199
            try rw [wg2] at p199
            try rw [wg3] at p199
            try rw [wg4] at p199
            try rw [wg5] at p199
            try rw [wg6] at p199
            try rw [wg7] at p199
            clear w185 w186 w187 w188 w189 w190 wg191
            have L4 := rLx_z L3 qm195 rfl ⟨rfl, rfl, rfl, rfl, rfl⟩
            have N4 := rNu_z N3 qm195 ⟨rfl, rfl, rfl, rfl, rfl, rfl⟩ ⟨rfl, rfl, rfl, rfl, rfl, rfl⟩
            have S4 := rFs_add S3 D1.symm O194 p196 p197 p198 p199 (fun j hj => by rcases hj with h | h | h | h; (rcases (show j = 67 ∨ j = 68 ∨ j = 69 ∨ j = 70 ∨ j = 71 by omega) with e | e | e | e | e <;> subst e <;> exact qm195.1 _ (by decide) rfl); (subst h; exact qm195.1 100 (by decide) rfl); (subst h; exact qm195.1 101 (by decide) rfl); (subst h; exact qm195.1 104 (by decide) rfl)) (qm195.2.1 8 rfl) MX ME ZW3
            have R1 := yR_s R0 (ym11_p (by omega) (by rw [BV.2.1]; exact N300) Y4 (fun h0 => nc148 (by omega)) (fun h0 => nc177 (by omega)))
            rw [yN_N] at R1
            have T208 := zTI_add1 T193 hv4.1 (fun j a b c => qm195.1 j a (zanyF (by simp <;> omega))) (qm195.2.1 8 rfl) (qm195.2.1 38 rfl) p196 p197 p198 p199 X1 X2 (fun a b => by omega) X3
            have O209 : m195.1 100 v4 = 0 := by rw [qm195.1 100 (by decide) rfl]; exact O194
            refine Exists.intro (2 * zrT m195 3 + 1) (And.intro (zrd2 (zrT_lt (by unfold zrm; simp only [w201, w202, w203, w204, w205, w206, w207, wg95, wg96, wg97, wg98, wg99, wg100, wg101, wg1, wg2, wg3, wg4, wg5, wg6, wg7]; (repeat' split) <;> omega) (zrm_0 (by (try rw [w201]) <;> (try rw [w202]) <;> (try rw [w203]) <;> (try rw [w204]) <;> (try rw [w205]) <;> (try rw [w206]) <;> (try rw [w207]) <;> (try rw [wg95]) <;> (try rw [wg96]) <;> (try rw [wg97]) <;> (try rw [wg98]) <;> (try rw [wg99]) <;> (try rw [wg100]) <;> (try rw [wg101]) <;> (try rw [wg1]) <;> (try rw [wg2]) <;> (try rw [wg3]) <;> (try rw [wg4]) <;> (try rw [wg5]) <;> (try rw [wg6]) <;> (try rw [wg7]) <;> omega)))) ?_)
            exact ⟨(fun _ => ⟨_, _, _, _, _, rfl, z200, ⟨by omega, by omega⟩, ⟨by omega, by omega⟩, ⟨by omega, by omega⟩, ⟨by omega, by omega⟩, ⟨by omega, by omega⟩, ⟨rfl, rfl, rfl⟩, (by (try rw [w201]) <;> (try rw [w202]) <;> (try rw [w203]) <;> (try rw [w204]) <;> (try rw [w205]) <;> (try rw [w206]) <;> (try rw [w207]) <;> (try rw [wg95]) <;> (try rw [wg96]) <;> (try rw [wg97]) <;> (try rw [wg98]) <;> (try rw [wg99]) <;> (try rw [wg100]) <;> (try rw [wg101]) <;> (try rw [wg1]) <;> (try rw [wg2]) <;> (try rw [wg3]) <;> (try rw [wg4]) <;> (try rw [wg5]) <;> (try rw [wg6]) <;> (try rw [wg7]) <;> omega), (by (try rw [w201]) <;> (try rw [w202]) <;> (try rw [w203]) <;> (try rw [w204]) <;> (try rw [w205]) <;> (try rw [w206]) <;> (try rw [w207]) <;> (try rw [wg95]) <;> (try rw [wg96]) <;> (try rw [wg97]) <;> (try rw [wg98]) <;> (try rw [wg99]) <;> (try rw [wg100]) <;> (try rw [wg101]) <;> (try rw [wg1]) <;> (try rw [wg2]) <;> (try rw [wg3]) <;> (try rw [wg4]) <;> (try rw [wg5]) <;> (try rw [wg6]) <;> (try rw [wg7]) <;> omega), ⟨fun h => absurd h (by decide), fun _ => T208⟩, (fun h => O209), (Or.inr (by omega)), (by have h6 := i6; unfold zrm at h6 ⊢; simp only [w201, w202, w203, w204, w205, w206, w207, wg95, wg96, wg97, wg98, wg99, wg100, wg101, wg1, wg2, wg3, wg4, wg5, wg6, wg7] at h6 ⊢; (repeat' split at h6) <;> (repeat' split) <;> omega), (by (try rw [w201]) <;> (try rw [w202]) <;> (try rw [w203]) <;> (try rw [w204]) <;> (try rw [w205]) <;> (try rw [w206]) <;> (try rw [w207]) <;> (try rw [wg95]) <;> (try rw [wg96]) <;> (try rw [wg97]) <;> (try rw [wg98]) <;> (try rw [wg99]) <;> (try rw [wg100]) <;> (try rw [wg101]) <;> (try rw [wg1]) <;> (try rw [wg2]) <;> (try rw [wg3]) <;> (try rw [wg4]) <;> (try rw [wg5]) <;> (try rw [wg6]) <;> (try rw [wg7]) <;> omega), (Or.inr V3), ⟨_, _, _, L4, N4, S4, Or.inr (Or.inr (Or.inr ⟨rfl, R1, by simp only [yadd, List.length_cons]; omega⟩))⟩, rfl⟩), (fun h => absurd h (by decide)), (fun h => absurd h (by decide)), (fun h => absurd h (by decide)), (fun h => absurd h (by decide))⟩
          · intro x210 hx210 kx210 lx210
            rw [wg144] at hx210
            refine And.intro ⟨⟨by omega, by omega⟩, ⟨by omega, by omega⟩⟩ (And.intro (fun c211 => ?_) (fun c211 => ?_))
            · clear c211
              refine And.intro ⟨by omega, by omega⟩ (And.intro ⟨by omega, by omega⟩ ?_)
              intro m212 em212
              have z213 := zfx_r z137 em212 rfl (by decide)
              have w214 : m212.1 66 ((31 : Nat) : Int) = g141 := by rw [em212]; exact (congrFun (zu_ne (by decide)) _).trans wg141
              have w215 : m212.1 66 ((30 : Nat) : Int) = g96 := by rw [em212]; exact (congrFun (zu_ne (by decide)) _).trans w138
              have w216 : m212.1 66 ((33 : Nat) : Int) = g142 := by rw [em212]; exact (congrFun (zu_ne (by decide)) _).trans wg142
              have w217 : m212.1 66 ((34 : Nat) : Int) = g143 := by rw [em212]; exact (congrFun (zu_ne (by decide)) _).trans wg143
              have w218 : m212.1 66 ((32 : Nat) : Int) = g144 := by rw [em212]; exact (congrFun (zu_ne (by decide)) _).trans wg144
              have w219 : m212.1 66 ((38 : Nat) : Int) = (x119 + 1) := by rw [em212]; exact (congrFun (zu_ne (by decide)) _).trans w139
              have w220 : m212.1 66 ((8 : Nat) : Int) = g101 := by rw [em212]; exact (congrFun (zu_ne (by decide)) _).trans w140
              clear wg141 w138 wg142 wg143 wg144 w139 w140
              have T221 := zTI_push T145 hv4.1 em212 rfl (Or.inr (Or.inr rfl)) (fun a b => by omega) O146
              have L3 := rLx_w L2 em212 (Or.inr (Or.inr rfl))
              have N3 := rNu_w N2 em212 (Or.inr rfl)
              obtain ⟨S3, ZW3⟩ := rFs_w S2 em212 (Or.inr (Or.inr ⟨rfl, by omega⟩)) ZW2
              have R1 := yR_s R0 (ym11_d (by omega) (by rw [BV.2.1]; exact N300) Y4 (by omega))
              rw [yN_N] at R1
              refine ⟨yk_X9_pass, ym_X9_pass hg d (by omega), rfl, (by (try rw [w214]) <;> (try rw [w215]) <;> (try rw [w216]) <;> (try rw [w217]) <;> (try rw [w218]) <;> (try rw [w219]) <;> (try rw [w220]) <;> (try rw [wg95]) <;> (try rw [wg96]) <;> (try rw [wg97]) <;> (try rw [wg98]) <;> (try rw [wg99]) <;> (try rw [wg100]) <;> (try rw [wg101]) <;> (try rw [wg1]) <;> (try rw [wg2]) <;> (try rw [wg3]) <;> (try rw [wg4]) <;> (try rw [wg5]) <;> (try rw [wg6]) <;> (try rw [wg7]) <;> omega), ?_⟩
              intro m222 qm222 p223 p224 p225 p226 p227
              have z228 := zfx_t z213 qm222 rfl rfl
              have w229 : m222.1 66 ((30 : Nat) : Int) = g96 := (qm222.2.1 30 rfl).trans w215
              have w230 : m222.1 66 ((38 : Nat) : Int) = (x119 + 1) := (qm222.2.1 38 rfl).trans w219
              have w231 : m222.1 66 ((8 : Nat) : Int) = g101 := (qm222.2.1 8 rfl).trans w220
              obtain ⟨g232, wg232⟩ : ∃ z : Int, m222.1 66 ((31 : Nat) : Int) = z := ⟨_, rfl⟩
              obtain ⟨g233, wg233⟩ : ∃ z : Int, m222.1 66 ((33 : Nat) : Int) = z := ⟨_, rfl⟩
              obtain ⟨g234, wg234⟩ : ∃ z : Int, m222.1 66 ((34 : Nat) : Int) = z := ⟨_, rfl⟩
              obtain ⟨g235, wg235⟩ : ∃ z : Int, m222.1 66 ((32 : Nat) : Int) = z := ⟨_, rfl⟩
              try rw [wg232] at p223
              try rw [w229] at p223
              try rw [wg233] at p223
              try rw [wg234] at p223
              try rw [wg235] at p223
              try rw [w230] at p223
              try rw [w231] at p223
              try rw [w214] at p223
              try rw [w215] at p223
              try rw [w216] at p223
              try rw [w217] at p223
              try rw [w218] at p223
              try rw [w219] at p223
              try rw [w220] at p223
              try rw [wg1] at p223
              try rw [wg2] at p223
              try rw [wg3] at p223
              try rw [wg4] at p223
              try rw [wg5] at p223
              try rw [wg6] at p223
              try rw [wg7] at p223
              try rw [wg232] at p224
              try rw [w229] at p224
              try rw [wg233] at p224
              try rw [wg234] at p224
              try rw [wg235] at p224
              try rw [w230] at p224
              try rw [w231] at p224
              try rw [w214] at p224
              try rw [w215] at p224
              try rw [w216] at p224
              try rw [w217] at p224
              try rw [w218] at p224
              try rw [w219] at p224
              try rw [w220] at p224
              try rw [wg1] at p224
              try rw [wg2] at p224
              try rw [wg3] at p224
              try rw [wg4] at p224
              try rw [wg5] at p224
              try rw [wg6] at p224
              try rw [wg7] at p224
              try rw [wg232] at p225
              try rw [w229] at p225
              try rw [wg233] at p225
              try rw [wg234] at p225
              try rw [wg235] at p225
              try rw [w230] at p225
              try rw [w231] at p225
              try rw [w214] at p225
              try rw [w215] at p225
              try rw [w216] at p225
              try rw [w217] at p225
              try rw [w218] at p225
              try rw [w219] at p225
              try rw [w220] at p225
              try rw [wg1] at p225
              try rw [wg2] at p225
              try rw [wg3] at p225
              try rw [wg4] at p225
              try rw [wg5] at p225
              try rw [wg6] at p225
              try rw [wg7] at p225
              try rw [wg232] at p226
              try rw [w229] at p226
              try rw [wg233] at p226
              try rw [wg234] at p226
              try rw [wg235] at p226
              try rw [w230] at p226
              try rw [w231] at p226
              try rw [w214] at p226
              try rw [w215] at p226
              try rw [w216] at p226
              try rw [w217] at p226
              try rw [w218] at p226
              try rw [w219] at p226
              try rw [w220] at p226
              try rw [wg1] at p226
              try rw [wg2] at p226
              try rw [wg3] at p226
              try rw [wg4] at p226
              try rw [wg5] at p226
              try rw [wg6] at p226
              try rw [wg7] at p226
              clear w214 w215 w216 w217 w218 w219 w220
              have T236 := zTI_fr0 T221 (fun j a b => qm222.1 j (by omega) (zanyF (by simp <;> omega))) (fun j a b => qm222.1 j (by omega) (zanyF (by simp <;> omega))) (qm222.2.1 8 rfl) (qm222.2.1 38 rfl)
              have L4 := rLx_p L3 (qm222.1 85 (by decide) rfl) (qm222.2.1 30 rfl) p227
              have N4 := rNu_z N3 qm222 ⟨rfl, rfl, rfl, rfl, rfl, rfl⟩ ⟨rfl, rfl, rfl, rfl, rfl, rfl⟩
              obtain ⟨S4, ZW4⟩ := rFs_q S3 qm222 rfl rfl ZW3
              refine Exists.intro (2 * zrT m222 0 + 1) (And.intro (zrd2 (zrT_lt (by unfold zrm; simp only [wg232, w229, wg233, wg234, wg235, w230, w231, wg95, wg96, wg97, wg98, wg99, wg100, wg101, wg1, wg2, wg3, wg4, wg5, wg6, wg7]; (repeat' split) <;> omega) (zrm_0 (by (try rw [wg232]) <;> (try rw [w229]) <;> (try rw [wg233]) <;> (try rw [wg234]) <;> (try rw [wg235]) <;> (try rw [w230]) <;> (try rw [w231]) <;> (try rw [wg95]) <;> (try rw [wg96]) <;> (try rw [wg97]) <;> (try rw [wg98]) <;> (try rw [wg99]) <;> (try rw [wg100]) <;> (try rw [wg101]) <;> (try rw [wg1]) <;> (try rw [wg2]) <;> (try rw [wg3]) <;> (try rw [wg4]) <;> (try rw [wg5]) <;> (try rw [wg6]) <;> (try rw [wg7]) <;> omega)))) ?_)
              exact ⟨(fun _ => ⟨_, _, _, _, _, rfl, z228, ⟨by omega, by omega⟩, ⟨by omega, by omega⟩, ⟨by omega, by omega⟩, ⟨by omega, by omega⟩, ⟨by omega, by omega⟩, ⟨rfl, rfl, rfl⟩, (by (try rw [wg232]) <;> (try rw [w229]) <;> (try rw [wg233]) <;> (try rw [wg234]) <;> (try rw [wg235]) <;> (try rw [w230]) <;> (try rw [w231]) <;> (try rw [wg95]) <;> (try rw [wg96]) <;> (try rw [wg97]) <;> (try rw [wg98]) <;> (try rw [wg99]) <;> (try rw [wg100]) <;> (try rw [wg101]) <;> (try rw [wg1]) <;> (try rw [wg2]) <;> (try rw [wg3]) <;> (try rw [wg4]) <;> (try rw [wg5]) <;> (try rw [wg6]) <;> (try rw [wg7]) <;> omega), (by (try rw [wg232]) <;> (try rw [w229]) <;> (try rw [wg233]) <;> (try rw [wg234]) <;> (try rw [wg235]) <;> (try rw [w230]) <;> (try rw [w231]) <;> (try rw [wg95]) <;> (try rw [wg96]) <;> (try rw [wg97]) <;> (try rw [wg98]) <;> (try rw [wg99]) <;> (try rw [wg100]) <;> (try rw [wg101]) <;> (try rw [wg1]) <;> (try rw [wg2]) <;> (try rw [wg3]) <;> (try rw [wg4]) <;> (try rw [wg5]) <;> (try rw [wg6]) <;> (try rw [wg7]) <;> omega), ⟨fun _ => zTI_w1 T236 (by rw [qm222.1 104 (by decide) rfl, em212, zu_at]; decide), fun h => absurd rfl h⟩, (fun h => absurd h (by decide)), (Or.inl rfl), (by have h6 := i6; unfold zrm at h6 ⊢; simp only [wg232, w229, wg233, wg234, wg235, w230, w231, wg95, wg96, wg97, wg98, wg99, wg100, wg101, wg1, wg2, wg3, wg4, wg5, wg6, wg7] at h6 ⊢; (repeat' split at h6) <;> (repeat' split) <;> omega), (by (try rw [wg232]) <;> (try rw [w229]) <;> (try rw [wg233]) <;> (try rw [wg234]) <;> (try rw [wg235]) <;> (try rw [w230]) <;> (try rw [w231]) <;> (try rw [wg95]) <;> (try rw [wg96]) <;> (try rw [wg97]) <;> (try rw [wg98]) <;> (try rw [wg99]) <;> (try rw [wg100]) <;> (try rw [wg101]) <;> (try rw [wg1]) <;> (try rw [wg2]) <;> (try rw [wg3]) <;> (try rw [wg4]) <;> (try rw [wg5]) <;> (try rw [wg6]) <;> (try rw [wg7]) <;> omega), (Or.inr V3), ⟨_, _, _, L4, N4, S4, Or.inl ⟨rfl, by rw [show m222.1 104 (v4 + 1) = 5 by rw [qm222.1 104 (by decide) rfl, em212, zu_at]]; exact R1, by simp only [List.length_cons]; omega⟩⟩, rfl⟩), (fun h => absurd h (by decide)), (fun h => absurd h (by decide)), (fun h => absurd h (by decide)), (fun h => absurd h (by decide))⟩
            · exfalso; omega
      · refine And.intro ⟨by omega, by omega⟩ (And.intro (fun c237 => ?_) (fun c237 => ?_))
        · have nc237 : yNe v4 0 := c237
          intro x238 hx238 kx238 lx238
          rw [wg100] at hx238
          refine And.intro ⟨by omega, by omega⟩ ?_
          intro m239 em239
          have z240 := zfx_f z0 em239 rfl
          have w241 : m239.1 66 ((31 : Nat) : Int) = g95 := by rw [em239]; exact (zu_nk (by decide)).trans wg95
          have w242 : m239.1 66 ((30 : Nat) : Int) = g96 := by rw [em239]; exact (zu_nk (by decide)).trans wg96
          have w243 : m239.1 66 ((33 : Nat) : Int) = g97 := by rw [em239]; exact (zu_nk (by decide)).trans wg97
          have w244 : m239.1 66 ((34 : Nat) : Int) = g98 := by rw [em239]; exact (zu_nk (by decide)).trans wg98
          have w245 : m239.1 66 ((32 : Nat) : Int) = g99 := by rw [em239]; exact (zu_nk (by decide)).trans wg99
          have w246 : m239.1 66 ((38 : Nat) : Int) = (x238 + 1) := by rw [em239]; exact zu_at
          have w247 : m239.1 66 ((8 : Nat) : Int) = g101 := by rw [em239]; exact (zu_nk (by decide)).trans wg101
          have T248 := zTI_n1 (m' := m239) T102 (fun j a b => by rw [em239, zu_ne (by omega)]) (fun j a b => by rw [em239, zu_ne (by omega)]) (by show m239.1 66 ((8 : Nat) : Int) = m0.1 66 ((8 : Nat) : Int); rw [em239]; exact zu_nk (by decide)) (by (try rw [w241]) <;> (try rw [w242]) <;> (try rw [w243]) <;> (try rw [w244]) <;> (try rw [w245]) <;> (try rw [w246]) <;> (try rw [w247]) <;> (try rw [wg95]) <;> (try rw [wg96]) <;> (try rw [wg97]) <;> (try rw [wg98]) <;> (try rw [wg99]) <;> (try rw [wg100]) <;> (try rw [wg101]) <;> (try rw [wg1]) <;> (try rw [wg2]) <;> (try rw [wg3]) <;> (try rw [wg4]) <;> (try rw [wg5]) <;> (try rw [wg6]) <;> (try rw [wg7]) <;> omega)
          have O249 : m239.1 100 v4 = 0 := by rw [em239, zu_ne (by decide)]; exact O103
          have L1 := rLx_w L0 em239 (Or.inl ⟨rfl, rfl⟩)
          have N1 := rNu_38 N0 em239
          obtain ⟨S1, ZW1⟩ := rFs_w S0 em239 (Or.inl ⟨rfl, by decide⟩) ZW0
          have N300 : n0 < 300 := by rcases (show n0 < 300 ∨ n0 = 300 by omega) with h0 | h0; exact h0; exact absurd (show x116 = 300 by omega) nc117
          have Y4 : yW4 (yN B 0 2 n0) (f :: r) = 0 := by by_cases h0 : yW4 (yN B 0 2 n0) (f :: r) = 0; exact h0; (exfalso; have h1 := YW.mp h0; exact nc237 (by omega))
          have NX : (x238 + 1) = (yN B 0 2 n0).1 0 2 + 1 := by rw [BV.2.1]; omega
          rw [NX] at N1
          refine ⟨yk_X9_pass, ym_X9_pass hg d (by omega), rfl, (by (try rw [w241]) <;> (try rw [w242]) <;> (try rw [w243]) <;> (try rw [w244]) <;> (try rw [w245]) <;> (try rw [w246]) <;> (try rw [w247]) <;> (try rw [wg95]) <;> (try rw [wg96]) <;> (try rw [wg97]) <;> (try rw [wg98]) <;> (try rw [wg99]) <;> (try rw [wg100]) <;> (try rw [wg101]) <;> (try rw [wg1]) <;> (try rw [wg2]) <;> (try rw [wg3]) <;> (try rw [wg4]) <;> (try rw [wg5]) <;> (try rw [wg6]) <;> (try rw [wg7]) <;> omega), ?_⟩
          intro m250 qm250 p251 p252 p253 p254 p255
          have z256 := zfx_t z240 qm250 rfl rfl
          have w257 : m250.1 66 ((30 : Nat) : Int) = g96 := (qm250.2.1 30 rfl).trans w242
          have w258 : m250.1 66 ((38 : Nat) : Int) = (x238 + 1) := (qm250.2.1 38 rfl).trans w246
          have w259 : m250.1 66 ((8 : Nat) : Int) = g101 := (qm250.2.1 8 rfl).trans w247
          obtain ⟨g260, wg260⟩ : ∃ z : Int, m250.1 66 ((31 : Nat) : Int) = z := ⟨_, rfl⟩
          obtain ⟨g261, wg261⟩ : ∃ z : Int, m250.1 66 ((33 : Nat) : Int) = z := ⟨_, rfl⟩
          obtain ⟨g262, wg262⟩ : ∃ z : Int, m250.1 66 ((34 : Nat) : Int) = z := ⟨_, rfl⟩
          obtain ⟨g263, wg263⟩ : ∃ z : Int, m250.1 66 ((32 : Nat) : Int) = z := ⟨_, rfl⟩
          try rw [wg260] at p251
          try rw [w257] at p251
          try rw [wg261] at p251
          try rw [wg262] at p251
          try rw [wg263] at p251
          try rw [w258] at p251
          try rw [w259] at p251
          try rw [w241] at p251
          try rw [w242] at p251
          try rw [w243] at p251
          try rw [w244] at p251
          try rw [w245] at p251
          try rw [w246] at p251
          try rw [w247] at p251
          try rw [wg1] at p251
          try rw [wg2] at p251
          try rw [wg3] at p251
          try rw [wg4] at p251
          try rw [wg5] at p251
          try rw [wg6] at p251
          try rw [wg7] at p251
          try rw [wg260] at p252
          try rw [w257] at p252
          try rw [wg261] at p252
          try rw [wg262] at p252
          try rw [wg263] at p252
          try rw [w258] at p252
          try rw [w259] at p252
          try rw [w241] at p252
          try rw [w242] at p252
          try rw [w243] at p252
          try rw [w244] at p252
          try rw [w245] at p252
          try rw [w246] at p252
          try rw [w247] at p252
          try rw [wg1] at p252
          try rw [wg2] at p252
          try rw [wg3] at p252
          try rw [wg4] at p252
          try rw [wg5] at p252
          try rw [wg6] at p252
          try rw [wg7] at p252
          try rw [wg260] at p253
          try rw [w257] at p253
          try rw [wg261] at p253
          try rw [wg262] at p253
          try rw [wg263] at p253
          try rw [w258] at p253
          try rw [w259] at p253
          try rw [w241] at p253
          try rw [w242] at p253
          try rw [w243] at p253
          try rw [w244] at p253
          try rw [w245] at p253
          try rw [w246] at p253
          try rw [w247] at p253
          try rw [wg1] at p253
          try rw [wg2] at p253
          try rw [wg3] at p253
          try rw [wg4] at p253
          try rw [wg5] at p253
          try rw [wg6] at p253
          try rw [wg7] at p253
          try rw [wg260] at p254
          try rw [w257] at p254
          try rw [wg261] at p254
          try rw [wg262] at p254
          try rw [wg263] at p254
          try rw [w258] at p254
          try rw [w259] at p254
          try rw [w241] at p254
          try rw [w242] at p254
          try rw [w243] at p254
          try rw [w244] at p254
          try rw [w245] at p254
          try rw [w246] at p254
          try rw [w247] at p254
          try rw [wg1] at p254
          try rw [wg2] at p254
          try rw [wg3] at p254
          try rw [wg4] at p254
          try rw [wg5] at p254
          try rw [wg6] at p254
          try rw [wg7] at p254
          clear w241 w242 w243 w244 w245 w246 w247
          have T264 := zTI_fr0 T248 (fun j a b => qm250.1 j (by omega) (zanyF (by simp <;> omega))) (fun j a b => qm250.1 j (by omega) (zanyF (by simp <;> omega))) (qm250.2.1 8 rfl) (qm250.2.1 38 rfl)
          have O265 : m250.1 100 v4 = 0 := by rw [qm250.1 100 (by decide) rfl]; exact O249
          have L2 := rLx_p L1 (qm250.1 85 (by decide) rfl) (qm250.2.1 30 rfl) p255
          have N2 := rNu_z N1 qm250 ⟨rfl, rfl, rfl, rfl, rfl, rfl⟩ ⟨rfl, rfl, rfl, rfl, rfl, rfl⟩
          obtain ⟨S2, ZW2⟩ := rFs_q S1 qm250 rfl rfl ZW1
          have KK2 := rLx_k L2
          rw [wg263] at KK2
          intro x266 hx266 kx266 lx266
          rw [wg263] at hx266
          refine And.intro ⟨⟨by omega, by omega⟩, ⟨by omega, by omega⟩⟩ (And.intro (fun c267 => ?_) (fun c267 => ?_))
          · intro x268 hx268 kx268 lx268
            rw [wg263] at hx268
            refine And.intro ⟨⟨by omega, by omega⟩, ⟨by omega, by omega⟩⟩ (And.intro (fun c269 => ?_) (fun c269 => ?_))
            · exfalso; omega
            · refine And.intro ⟨by omega, by omega⟩ (And.intro ⟨by omega, by omega⟩ ?_)
              intro m270 em270
              have z271 := zfx_r z256 em270 rfl (by decide)
              have w272 : m270.1 66 ((31 : Nat) : Int) = g260 := by rw [em270]; exact (congrFun (zu_ne (by decide)) _).trans wg260
              have w273 : m270.1 66 ((30 : Nat) : Int) = g96 := by rw [em270]; exact (congrFun (zu_ne (by decide)) _).trans w257
              have w274 : m270.1 66 ((33 : Nat) : Int) = g261 := by rw [em270]; exact (congrFun (zu_ne (by decide)) _).trans wg261
              have w275 : m270.1 66 ((34 : Nat) : Int) = g262 := by rw [em270]; exact (congrFun (zu_ne (by decide)) _).trans wg262
              have w276 : m270.1 66 ((32 : Nat) : Int) = g263 := by rw [em270]; exact (congrFun (zu_ne (by decide)) _).trans wg263
              have w277 : m270.1 66 ((38 : Nat) : Int) = (x238 + 1) := by rw [em270]; exact (congrFun (zu_ne (by decide)) _).trans w258
              have w278 : m270.1 66 ((8 : Nat) : Int) = g101 := by rw [em270]; exact (congrFun (zu_ne (by decide)) _).trans w259
              clear wg260 w257 wg261 wg262 wg263 w258 w259
              have T279 := zTI_push T264 hv4.1 em270 rfl (Or.inr (Or.inl rfl)) (fun a b => by omega) O265
              have L3 := rLx_w L2 em270 (Or.inr (Or.inr rfl))
              have N3 := rNu_w N2 em270 (Or.inr rfl)
              obtain ⟨S3, ZW3⟩ := rFs_w S2 em270 (Or.inr (Or.inr ⟨rfl, by omega⟩)) ZW2
              have R1 := yR_s R0 (ym11_u (by omega) (by rw [BV.2.1]; exact N300) Y4 (by omega))
              rw [yN_N] at R1
              refine ⟨yk_X9_pass, ym_X9_pass hg d (by omega), rfl, (by (try rw [w272]) <;> (try rw [w273]) <;> (try rw [w274]) <;> (try rw [w275]) <;> (try rw [w276]) <;> (try rw [w277]) <;> (try rw [w278]) <;> (try rw [wg95]) <;> (try rw [wg96]) <;> (try rw [wg97]) <;> (try rw [wg98]) <;> (try rw [wg99]) <;> (try rw [wg100]) <;> (try rw [wg101]) <;> (try rw [wg1]) <;> (try rw [wg2]) <;> (try rw [wg3]) <;> (try rw [wg4]) <;> (try rw [wg5]) <;> (try rw [wg6]) <;> (try rw [wg7]) <;> omega), ?_⟩
              intro m280 qm280 p281 p282 p283 p284 p285
              have z286 := zfx_t z271 qm280 rfl rfl
              have w287 : m280.1 66 ((30 : Nat) : Int) = g96 := (qm280.2.1 30 rfl).trans w273
              have w288 : m280.1 66 ((38 : Nat) : Int) = (x238 + 1) := (qm280.2.1 38 rfl).trans w277
              have w289 : m280.1 66 ((8 : Nat) : Int) = g101 := (qm280.2.1 8 rfl).trans w278
              obtain ⟨g290, wg290⟩ : ∃ z : Int, m280.1 66 ((31 : Nat) : Int) = z := ⟨_, rfl⟩
              obtain ⟨g291, wg291⟩ : ∃ z : Int, m280.1 66 ((33 : Nat) : Int) = z := ⟨_, rfl⟩
              obtain ⟨g292, wg292⟩ : ∃ z : Int, m280.1 66 ((34 : Nat) : Int) = z := ⟨_, rfl⟩
              obtain ⟨g293, wg293⟩ : ∃ z : Int, m280.1 66 ((32 : Nat) : Int) = z := ⟨_, rfl⟩
              try rw [wg290] at p281
              try rw [w287] at p281
              try rw [wg291] at p281
              try rw [wg292] at p281
              try rw [wg293] at p281
              try rw [w288] at p281
              try rw [w289] at p281
              try rw [w272] at p281
              try rw [w273] at p281
              try rw [w274] at p281
              try rw [w275] at p281
              try rw [w276] at p281
              try rw [w277] at p281
              try rw [w278] at p281
              try rw [wg1] at p281
              try rw [wg2] at p281
              try rw [wg3] at p281
              try rw [wg4] at p281
              try rw [wg5] at p281
              try rw [wg6] at p281
              try rw [wg7] at p281
              try rw [wg290] at p282
              try rw [w287] at p282
              try rw [wg291] at p282
              try rw [wg292] at p282
              try rw [wg293] at p282
              try rw [w288] at p282
              try rw [w289] at p282
              try rw [w272] at p282
              try rw [w273] at p282
              try rw [w274] at p282
              try rw [w275] at p282
              try rw [w276] at p282
              try rw [w277] at p282
              try rw [w278] at p282
              try rw [wg1] at p282
              try rw [wg2] at p282
              try rw [wg3] at p282
              try rw [wg4] at p282
              try rw [wg5] at p282
              try rw [wg6] at p282
              try rw [wg7] at p282
              try rw [wg290] at p283
              try rw [w287] at p283
              try rw [wg291] at p283
              try rw [wg292] at p283
              try rw [wg293] at p283
              try rw [w288] at p283
              try rw [w289] at p283
              try rw [w272] at p283
              try rw [w273] at p283
              try rw [w274] at p283
              try rw [w275] at p283
              try rw [w276] at p283
              try rw [w277] at p283
              try rw [w278] at p283
              try rw [wg1] at p283
              try rw [wg2] at p283
              try rw [wg3] at p283
              try rw [wg4] at p283
              try rw [wg5] at p283
              try rw [wg6] at p283
              try rw [wg7] at p283
              try rw [wg290] at p284
              try rw [w287] at p284
              try rw [wg291] at p284
              try rw [wg292] at p284
              try rw [wg293] at p284
              try rw [w288] at p284
              try rw [w289] at p284
              try rw [w272] at p284
              try rw [w273] at p284
              try rw [w274] at p284
              try rw [w275] at p284
              try rw [w276] at p284
              try rw [w277] at p284
              try rw [w278] at p284
              try rw [wg1] at p284
              try rw [wg2] at p284
              try rw [wg3] at p284
              try rw [wg4] at p284
              try rw [wg5] at p284
              try rw [wg6] at p284
              try rw [wg7] at p284
              clear w272 w273 w274 w275 w276 w277 w278
              have T294 := zTI_fr0 T279 (fun j a b => qm280.1 j (by omega) (zanyF (by simp <;> omega))) (fun j a b => qm280.1 j (by omega) (zanyF (by simp <;> omega))) (qm280.2.1 8 rfl) (qm280.2.1 38 rfl)
              have L4 := rLx_p L3 (qm280.1 85 (by decide) rfl) (qm280.2.1 30 rfl) p285
              have N4 := rNu_z N3 qm280 ⟨rfl, rfl, rfl, rfl, rfl, rfl⟩ ⟨rfl, rfl, rfl, rfl, rfl, rfl⟩
              obtain ⟨S4, ZW4⟩ := rFs_q S3 qm280 rfl rfl ZW3
              refine Exists.intro (2 * zrT m280 0 + 1) (And.intro (zrd2 (zrT_lt (by unfold zrm; simp only [wg290, w287, wg291, wg292, wg293, w288, w289, wg95, wg96, wg97, wg98, wg99, wg100, wg101, wg1, wg2, wg3, wg4, wg5, wg6, wg7]; (repeat' split) <;> omega) (zrm_0 (by (try rw [wg290]) <;> (try rw [w287]) <;> (try rw [wg291]) <;> (try rw [wg292]) <;> (try rw [wg293]) <;> (try rw [w288]) <;> (try rw [w289]) <;> (try rw [wg95]) <;> (try rw [wg96]) <;> (try rw [wg97]) <;> (try rw [wg98]) <;> (try rw [wg99]) <;> (try rw [wg100]) <;> (try rw [wg101]) <;> (try rw [wg1]) <;> (try rw [wg2]) <;> (try rw [wg3]) <;> (try rw [wg4]) <;> (try rw [wg5]) <;> (try rw [wg6]) <;> (try rw [wg7]) <;> omega)))) ?_)
              exact ⟨(fun _ => ⟨_, _, _, _, _, rfl, z286, ⟨by omega, by omega⟩, ⟨by omega, by omega⟩, ⟨by omega, by omega⟩, ⟨by omega, by omega⟩, ⟨by omega, by omega⟩, ⟨rfl, rfl, rfl⟩, (by (try rw [wg290]) <;> (try rw [w287]) <;> (try rw [wg291]) <;> (try rw [wg292]) <;> (try rw [wg293]) <;> (try rw [w288]) <;> (try rw [w289]) <;> (try rw [wg95]) <;> (try rw [wg96]) <;> (try rw [wg97]) <;> (try rw [wg98]) <;> (try rw [wg99]) <;> (try rw [wg100]) <;> (try rw [wg101]) <;> (try rw [wg1]) <;> (try rw [wg2]) <;> (try rw [wg3]) <;> (try rw [wg4]) <;> (try rw [wg5]) <;> (try rw [wg6]) <;> (try rw [wg7]) <;> omega), (by (try rw [wg290]) <;> (try rw [w287]) <;> (try rw [wg291]) <;> (try rw [wg292]) <;> (try rw [wg293]) <;> (try rw [w288]) <;> (try rw [w289]) <;> (try rw [wg95]) <;> (try rw [wg96]) <;> (try rw [wg97]) <;> (try rw [wg98]) <;> (try rw [wg99]) <;> (try rw [wg100]) <;> (try rw [wg101]) <;> (try rw [wg1]) <;> (try rw [wg2]) <;> (try rw [wg3]) <;> (try rw [wg4]) <;> (try rw [wg5]) <;> (try rw [wg6]) <;> (try rw [wg7]) <;> omega), ⟨fun _ => zTI_w1 T294 (by rw [qm280.1 104 (by decide) rfl, em270, zu_at]; decide), fun h => absurd rfl h⟩, (fun h => absurd h (by decide)), (Or.inl rfl), (by have h6 := i6; unfold zrm at h6 ⊢; simp only [wg290, w287, wg291, wg292, wg293, w288, w289, wg95, wg96, wg97, wg98, wg99, wg100, wg101, wg1, wg2, wg3, wg4, wg5, wg6, wg7] at h6 ⊢; (repeat' split at h6) <;> (repeat' split) <;> omega), (by (try rw [wg290]) <;> (try rw [w287]) <;> (try rw [wg291]) <;> (try rw [wg292]) <;> (try rw [wg293]) <;> (try rw [w288]) <;> (try rw [w289]) <;> (try rw [wg95]) <;> (try rw [wg96]) <;> (try rw [wg97]) <;> (try rw [wg98]) <;> (try rw [wg99]) <;> (try rw [wg100]) <;> (try rw [wg101]) <;> (try rw [wg1]) <;> (try rw [wg2]) <;> (try rw [wg3]) <;> (try rw [wg4]) <;> (try rw [wg5]) <;> (try rw [wg6]) <;> (try rw [wg7]) <;> omega), (Or.inr V3), ⟨_, _, _, L4, N4, S4, Or.inl ⟨rfl, by rw [show m280.1 104 (v4 + 1) = 4 by rw [qm280.1 104 (by decide) rfl, em270, zu_at]]; exact R1, by simp only [List.length_cons]; omega⟩⟩, rfl⟩), (fun h => absurd h (by decide)), (fun h => absurd h (by decide)), (fun h => absurd h (by decide)), (fun h => absurd h (by decide))⟩
          · have nc267 : yNe x266 58 := c267
            clear c267
            intro x295 hx295 kx295 lx295
            rw [wg263] at hx295
            refine And.intro ⟨⟨by omega, by omega⟩, ⟨by omega, by omega⟩⟩ (And.intro (fun c296 => ?_) (fun c296 => ?_))
            · have nc296 : yNe x295 94 := c296
              clear c296
              refine ⟨zk_X9_make, zm_X9_make hg d (by omega), _, _, _, _, rfl, ⟨by omega, by omega⟩, ⟨by omega, by omega⟩, ⟨by omega, by omega⟩, T264.1.1, (zTE_top (zTE_of T264 (by omega) (by omega)) w259 w258 wg7 wg6 hp5.1 (by omega)), ⟨fun h => absurd h (by decide), fun h => absurd h (by decide)⟩, (fun i a b => by omega), ?_⟩
              intro x297 m298 qm298 kx297 lx297 p299 p300 p301 p302
              have z303 := zfx_t z256 qm298 rfl rfl
              have w304 : m298.1 66 ((31 : Nat) : Int) = g260 := (qm298.2.1 31 rfl).trans wg260
              have w305 : m298.1 66 ((30 : Nat) : Int) = g96 := (qm298.2.1 30 rfl).trans w257
              have w306 : m298.1 66 ((33 : Nat) : Int) = g261 := (qm298.2.1 33 rfl).trans wg261
              have w307 : m298.1 66 ((34 : Nat) : Int) = g262 := (qm298.2.1 34 rfl).trans wg262
              have w308 : m298.1 66 ((32 : Nat) : Int) = g263 := (qm298.2.1 32 rfl).trans wg263
              have w309 : m298.1 66 ((38 : Nat) : Int) = (x238 + 1) := (qm298.2.1 38 rfl).trans w258
              obtain ⟨g310, wg310⟩ : ∃ z : Int, m298.1 66 ((8 : Nat) : Int) = z := ⟨_, rfl⟩
              try rw [w304] at p299
              try rw [w305] at p299
              try rw [w306] at p299
              try rw [w307] at p299
              try rw [w308] at p299
              try rw [w309] at p299
              try rw [wg310] at p299
              try rw [wg260] at p299
              try rw [w257] at p299
              try rw [wg261] at p299
              try rw [wg262] at p299
              try rw [wg263] at p299
              try rw [w258] at p299
              try rw [w259] at p299
              try rw [wg1] at p299
              try rw [wg2] at p299
              try rw [wg3] at p299
              try rw [wg4] at p299
              try rw [wg5] at p299
              try rw [wg6] at p299
              try rw [wg7] at p299
              try rw [w304] at p300
              try rw [w305] at p300
              try rw [w306] at p300
              try rw [w307] at p300
              try rw [w308] at p300
              try rw [w309] at p300
              try rw [wg310] at p300
              try rw [wg260] at p300
              try rw [w257] at p300
              try rw [wg261] at p300
              try rw [wg262] at p300
              try rw [wg263] at p300
              try rw [w258] at p300
              try rw [w259] at p300
              try rw [wg1] at p300
              try rw [wg2] at p300
              try rw [wg3] at p300
              try rw [wg4] at p300
              try rw [wg5] at p300
              try rw [wg6] at p300
              try rw [wg7] at p300
              try rw [w304] at p301
              try rw [w305] at p301
              try rw [w306] at p301
              try rw [w307] at p301
              try rw [w308] at p301
              try rw [w309] at p301
              try rw [wg310] at p301
              try rw [wg260] at p301
              try rw [w257] at p301
              try rw [wg261] at p301
              try rw [wg262] at p301
              try rw [wg263] at p301
              try rw [w258] at p301
              try rw [w259] at p301
              try rw [wg1] at p301
              try rw [wg2] at p301
              try rw [wg3] at p301
              try rw [wg4] at p301
              try rw [wg5] at p301
              try rw [wg6] at p301
              try rw [wg7] at p301
              try rw [w304] at p302
              try rw [w305] at p302
              try rw [w306] at p302
              try rw [w307] at p302
              try rw [w308] at p302
              try rw [w309] at p302
              try rw [wg310] at p302
              try rw [wg260] at p302
              try rw [w257] at p302
              try rw [wg261] at p302
              try rw [wg262] at p302
              try rw [wg263] at p302
              try rw [w258] at p302
              try rw [w259] at p302
              try rw [wg1] at p302
              try rw [wg2] at p302
              try rw [wg3] at p302
              try rw [wg4] at p302
              try rw [wg5] at p302
              try rw [wg6] at p302
              try rw [wg7] at p302
              clear wg260 w257 wg261 wg262 wg263 w258 w259
              have ME : rE m298 x297 [200] := rany p300
              have MT : zTop m250 ≤ zTop m298 := by rcases p301 with h0 | h0 <;> omega
              have MX : 0 ≤ x297 ∧ x297 < zTop m298 := ⟨by omega, by rcases p301 with h0 | h0 <;> omega⟩
              have L3 := rLx_z L2 qm298 rfl ⟨rfl, rfl, rfl, rfl, rfl⟩
              have N3 := rNu_z N2 qm298 ⟨rfl, rfl, rfl, rfl, rfl, rfl⟩ ⟨rfl, rfl, rfl, rfl, rfl, rfl⟩
              obtain ⟨S3, ZW3⟩ := rFs_m S2 qm298 rfl p302 MT p299 ZW2
              have T311 := (⟨p299, p300, p301, p302⟩ : zMd m250 m298 lo 3 0 0 (m250.1 74) x297)
              have T312 := zTI_mk T264 (fun j a b => qm298.1 j (by omega) (zanyF (by simp <;> omega))) (qm298.2.1 38 rfl) T311 (zW1_like p300 (fun i a b => by omega) (fun e => by omega) (fun e => by omega) (fun e => by omega) (fun _ => rfl) (fun e => by omega))
              have X1 := zMd_x T311 T264.1.1
              have X2 := zMd_s T311 T264.1.1
              have X3 : zPar m298 pa pe x297 := zPar_like p300 (fun e => by omega) (fun i a b => by omega)
              have O313 : m298.1 100 v4 = 0 := by rw [qm298.1 100 (by decide) rfl]; exact O265
              clear T311 p299 p300 p301 p302
              refine ⟨zk_X9_addArg, zm_X9_addArg hg d (by omega), _, _, rfl, ⟨by omega, by omega⟩, ⟨by omega, by omega⟩, (zTI_cnt T312 (by omega) (by omega) (by decide) w309 wg6 (by omega) hp5.2.1), ?_⟩
              intro m314 qm314 p315 p316 p317 p318
              have z319 := zfx_t z303 qm314 rfl rfl
              have w320 : m314.1 66 ((31 : Nat) : Int) = g260 := (qm314.2.1 31 rfl).trans w304
              have w321 : m314.1 66 ((30 : Nat) : Int) = g96 := (qm314.2.1 30 rfl).trans w305
              have w322 : m314.1 66 ((33 : Nat) : Int) = g261 := (qm314.2.1 33 rfl).trans w306
              have w323 : m314.1 66 ((34 : Nat) : Int) = g262 := (qm314.2.1 34 rfl).trans w307
              have w324 : m314.1 66 ((32 : Nat) : Int) = g263 := (qm314.2.1 32 rfl).trans w308
              have w325 : m314.1 66 ((38 : Nat) : Int) = (x238 + 1) := (qm314.2.1 38 rfl).trans w309
              have w326 : m314.1 66 ((8 : Nat) : Int) = g310 := (qm314.2.1 8 rfl).trans wg310
              try rw [w320] at p315
              try rw [w321] at p315
              try rw [w322] at p315
              try rw [w323] at p315
              try rw [w324] at p315
              try rw [w325] at p315
              try rw [w326] at p315
              try rw [w304] at p315
              try rw [w305] at p315
              try rw [w306] at p315
              try rw [w307] at p315
              try rw [w308] at p315
              try rw [w309] at p315
              try rw [wg310] at p315
              try rw [wg1] at p315
              try rw [wg2] at p315
              try rw [wg3] at p315
              try rw [wg4] at p315
              try rw [wg5] at p315
              try rw [wg6] at p315
              try rw [wg7] at p315
              try rw [w320] at p316
              try rw [w321] at p316
              try rw [w322] at p316
              try rw [w323] at p316
              try rw [w324] at p316
              try rw [w325] at p316
              try rw [w326] at p316
              try rw [w304] at p316
              try rw [w305] at p316
              try rw [w306] at p316
              try rw [w307] at p316
              try rw [w308] at p316
              try rw [w309] at p316
              try rw [wg310] at p316
              try rw [wg1] at p316
              try rw [wg2] at p316
              try rw [wg3] at p316
              try rw [wg4] at p316
              try rw [wg5] at p316
              try rw [wg6] at p316
              try rw [wg7] at p316
              try rw [w320] at p317
              try rw [w321] at p317
              try rw [w322] at p317
              try rw [w323] at p317
              try rw [w324] at p317
              try rw [w325] at p317
              try rw [w326] at p317
              try rw [w304] at p317
              try rw [w305] at p317
              try rw [w306] at p317
              try rw [w307] at p317
              try rw [w308] at p317
              try rw [w309] at p317
              try rw [wg310] at p317
              try rw [wg1] at p317
              try rw [wg2] at p317
              try rw [wg3] at p317
              try rw [wg4] at p317
              try rw [wg5] at p317
              try rw [wg6] at p317
              try rw [wg7] at p317
              try rw [w320] at p318
              try rw [w321] at p318
              try rw [w322] at p318
              try rw [w323] at p318
              try rw [w324] at p318
              try rw [w325] at p318
              try rw [w326] at p318
              try rw [w304] at p318
              try rw [w305] at p318
              try rw [w306] at p318
              try rw [w307] at p318
              try rw [w308] at p318
              try rw [w309] at p318
              try rw [wg310] at p318
              try rw [wg1] at p318
              try rw [wg2] at p318
              try rw [wg3] at p318
              try rw [wg4] at p318
              try rw [wg5] at p318
              try rw [wg6] at p318
              try rw [wg7] at p318
              clear w304 w305 w306 w307 w308 w309 wg310
              have L4 := rLx_z L3 qm314 rfl ⟨rfl, rfl, rfl, rfl, rfl⟩
              have N4 := rNu_z N3 qm314 ⟨rfl, rfl, rfl, rfl, rfl, rfl⟩ ⟨rfl, rfl, rfl, rfl, rfl, rfl⟩
              have S4 := rFs_add S3 D1.symm O313 p315 p316 p317 p318 (fun j hj => by rcases hj with h | h | h | h; (rcases (show j = 67 ∨ j = 68 ∨ j = 69 ∨ j = 70 ∨ j = 71 by omega) with e | e | e | e | e <;> subst e <;> exact qm314.1 _ (by decide) rfl); (subst h; exact qm314.1 100 (by decide) rfl); (subst h; exact qm314.1 101 (by decide) rfl); (subst h; exact qm314.1 104 (by decide) rfl)) (qm314.2.1 8 rfl) MX ME ZW3
              have R1 := yR_s R0 (ym11_p (by omega) (by rw [BV.2.1]; exact N300) Y4 (fun h0 => nc267 (by omega)) (fun h0 => nc296 (by omega)))
              rw [yN_N] at R1
              have T327 := zTI_add1 T312 hv4.1 (fun j a b c => qm314.1 j a (zanyF (by simp <;> omega))) (qm314.2.1 8 rfl) (qm314.2.1 38 rfl) p315 p316 p317 p318 X1 X2 (fun a b => by omega) X3
              have O328 : m314.1 100 v4 = 0 := by rw [qm314.1 100 (by decide) rfl]; exact O313
              refine Exists.intro (2 * zrT m314 3 + 1) (And.intro (zrd2 (zrT_lt (by unfold zrm; simp only [w320, w321, w322, w323, w324, w325, w326, wg95, wg96, wg97, wg98, wg99, wg100, wg101, wg1, wg2, wg3, wg4, wg5, wg6, wg7]; (repeat' split) <;> omega) (zrm_0 (by (try rw [w320]) <;> (try rw [w321]) <;> (try rw [w322]) <;> (try rw [w323]) <;> (try rw [w324]) <;> (try rw [w325]) <;> (try rw [w326]) <;> (try rw [wg95]) <;> (try rw [wg96]) <;> (try rw [wg97]) <;> (try rw [wg98]) <;> (try rw [wg99]) <;> (try rw [wg100]) <;> (try rw [wg101]) <;> (try rw [wg1]) <;> (try rw [wg2]) <;> (try rw [wg3]) <;> (try rw [wg4]) <;> (try rw [wg5]) <;> (try rw [wg6]) <;> (try rw [wg7]) <;> omega)))) ?_)
              exact ⟨(fun _ => ⟨_, _, _, _, _, rfl, z319, ⟨by omega, by omega⟩, ⟨by omega, by omega⟩, ⟨by omega, by omega⟩, ⟨by omega, by omega⟩, ⟨by omega, by omega⟩, ⟨rfl, rfl, rfl⟩, (by (try rw [w320]) <;> (try rw [w321]) <;> (try rw [w322]) <;> (try rw [w323]) <;> (try rw [w324]) <;> (try rw [w325]) <;> (try rw [w326]) <;> (try rw [wg95]) <;> (try rw [wg96]) <;> (try rw [wg97]) <;> (try rw [wg98]) <;> (try rw [wg99]) <;> (try rw [wg100]) <;> (try rw [wg101]) <;> (try rw [wg1]) <;> (try rw [wg2]) <;> (try rw [wg3]) <;> (try rw [wg4]) <;> (try rw [wg5]) <;> (try rw [wg6]) <;> (try rw [wg7]) <;> omega), (by (try rw [w320]) <;> (try rw [w321]) <;> (try rw [w322]) <;> (try rw [w323]) <;> (try rw [w324]) <;> (try rw [w325]) <;> (try rw [w326]) <;> (try rw [wg95]) <;> (try rw [wg96]) <;> (try rw [wg97]) <;> (try rw [wg98]) <;> (try rw [wg99]) <;> (try rw [wg100]) <;> (try rw [wg101]) <;> (try rw [wg1]) <;> (try rw [wg2]) <;> (try rw [wg3]) <;> (try rw [wg4]) <;> (try rw [wg5]) <;> (try rw [wg6]) <;> (try rw [wg7]) <;> omega), ⟨fun h => absurd h (by decide), fun _ => T327⟩, (fun h => O328), (Or.inr (by omega)), (by have h6 := i6; unfold zrm at h6 ⊢; simp only [w320, w321, w322, w323, w324, w325, w326, wg95, wg96, wg97, wg98, wg99, wg100, wg101, wg1, wg2, wg3, wg4, wg5, wg6, wg7] at h6 ⊢; (repeat' split at h6) <;> (repeat' split) <;> omega), (by (try rw [w320]) <;> (try rw [w321]) <;> (try rw [w322]) <;> (try rw [w323]) <;> (try rw [w324]) <;> (try rw [w325]) <;> (try rw [w326]) <;> (try rw [wg95]) <;> (try rw [wg96]) <;> (try rw [wg97]) <;> (try rw [wg98]) <;> (try rw [wg99]) <;> (try rw [wg100]) <;> (try rw [wg101]) <;> (try rw [wg1]) <;> (try rw [wg2]) <;> (try rw [wg3]) <;> (try rw [wg4]) <;> (try rw [wg5]) <;> (try rw [wg6]) <;> (try rw [wg7]) <;> omega), (Or.inr V3), ⟨_, _, _, L4, N4, S4, Or.inr (Or.inr (Or.inr ⟨rfl, R1, by simp only [yadd, List.length_cons]; omega⟩))⟩, rfl⟩), (fun h => absurd h (by decide)), (fun h => absurd h (by decide)), (fun h => absurd h (by decide)), (fun h => absurd h (by decide))⟩
            · intro x329 hx329 kx329 lx329
              rw [wg263] at hx329
              refine And.intro ⟨⟨by omega, by omega⟩, ⟨by omega, by omega⟩⟩ (And.intro (fun c330 => ?_) (fun c330 => ?_))
              · clear c330
                refine And.intro ⟨by omega, by omega⟩ (And.intro ⟨by omega, by omega⟩ ?_)
                intro m331 em331
                have z332 := zfx_r z256 em331 rfl (by decide)
                have w333 : m331.1 66 ((31 : Nat) : Int) = g260 := by rw [em331]; exact (congrFun (zu_ne (by decide)) _).trans wg260
                have w334 : m331.1 66 ((30 : Nat) : Int) = g96 := by rw [em331]; exact (congrFun (zu_ne (by decide)) _).trans w257
                have w335 : m331.1 66 ((33 : Nat) : Int) = g261 := by rw [em331]; exact (congrFun (zu_ne (by decide)) _).trans wg261
                have w336 : m331.1 66 ((34 : Nat) : Int) = g262 := by rw [em331]; exact (congrFun (zu_ne (by decide)) _).trans wg262
                have w337 : m331.1 66 ((32 : Nat) : Int) = g263 := by rw [em331]; exact (congrFun (zu_ne (by decide)) _).trans wg263
                have w338 : m331.1 66 ((38 : Nat) : Int) = (x238 + 1) := by rw [em331]; exact (congrFun (zu_ne (by decide)) _).trans w258
                have w339 : m331.1 66 ((8 : Nat) : Int) = g101 := by rw [em331]; exact (congrFun (zu_ne (by decide)) _).trans w259
                clear wg260 w257 wg261 wg262 wg263 w258 w259
                have T340 := zTI_push T264 hv4.1 em331 rfl (Or.inr (Or.inr rfl)) (fun a b => by omega) O265
                have L3 := rLx_w L2 em331 (Or.inr (Or.inr rfl))
                have N3 := rNu_w N2 em331 (Or.inr rfl)
                obtain ⟨S3, ZW3⟩ := rFs_w S2 em331 (Or.inr (Or.inr ⟨rfl, by omega⟩)) ZW2
                have R1 := yR_s R0 (ym11_d (by omega) (by rw [BV.2.1]; exact N300) Y4 (by omega))
                rw [yN_N] at R1
                refine ⟨yk_X9_pass, ym_X9_pass hg d (by omega), rfl, (by (try rw [w333]) <;> (try rw [w334]) <;> (try rw [w335]) <;> (try rw [w336]) <;> (try rw [w337]) <;> (try rw [w338]) <;> (try rw [w339]) <;> (try rw [wg95]) <;> (try rw [wg96]) <;> (try rw [wg97]) <;> (try rw [wg98]) <;> (try rw [wg99]) <;> (try rw [wg100]) <;> (try rw [wg101]) <;> (try rw [wg1]) <;> (try rw [wg2]) <;> (try rw [wg3]) <;> (try rw [wg4]) <;> (try rw [wg5]) <;> (try rw [wg6]) <;> (try rw [wg7]) <;> omega), ?_⟩
                intro m341 qm341 p342 p343 p344 p345 p346
                have z347 := zfx_t z332 qm341 rfl rfl
                have w348 : m341.1 66 ((30 : Nat) : Int) = g96 := (qm341.2.1 30 rfl).trans w334
                have w349 : m341.1 66 ((38 : Nat) : Int) = (x238 + 1) := (qm341.2.1 38 rfl).trans w338
                have w350 : m341.1 66 ((8 : Nat) : Int) = g101 := (qm341.2.1 8 rfl).trans w339
                obtain ⟨g351, wg351⟩ : ∃ z : Int, m341.1 66 ((31 : Nat) : Int) = z := ⟨_, rfl⟩
                obtain ⟨g352, wg352⟩ : ∃ z : Int, m341.1 66 ((33 : Nat) : Int) = z := ⟨_, rfl⟩
                obtain ⟨g353, wg353⟩ : ∃ z : Int, m341.1 66 ((34 : Nat) : Int) = z := ⟨_, rfl⟩
                obtain ⟨g354, wg354⟩ : ∃ z : Int, m341.1 66 ((32 : Nat) : Int) = z := ⟨_, rfl⟩
                try rw [wg351] at p342
                try rw [w348] at p342
                try rw [wg352] at p342
                try rw [wg353] at p342
                try rw [wg354] at p342
                try rw [w349] at p342
                try rw [w350] at p342
                try rw [w333] at p342
                try rw [w334] at p342
                try rw [w335] at p342
                try rw [w336] at p342
                try rw [w337] at p342
                try rw [w338] at p342
                try rw [w339] at p342
                try rw [wg1] at p342
                try rw [wg2] at p342
                try rw [wg3] at p342
                try rw [wg4] at p342
                try rw [wg5] at p342
                try rw [wg6] at p342
                try rw [wg7] at p342
                try rw [wg351] at p343
                try rw [w348] at p343
                try rw [wg352] at p343
                try rw [wg353] at p343
                try rw [wg354] at p343
                try rw [w349] at p343
                try rw [w350] at p343
                try rw [w333] at p343
                try rw [w334] at p343
                try rw [w335] at p343
                try rw [w336] at p343
                try rw [w337] at p343
                try rw [w338] at p343
                try rw [w339] at p343
                try rw [wg1] at p343
                try rw [wg2] at p343
                try rw [wg3] at p343
                try rw [wg4] at p343
                try rw [wg5] at p343
                try rw [wg6] at p343
                try rw [wg7] at p343
                try rw [wg351] at p344
                try rw [w348] at p344
                try rw [wg352] at p344
                try rw [wg353] at p344
                try rw [wg354] at p344
                try rw [w349] at p344
                try rw [w350] at p344
                try rw [w333] at p344
                try rw [w334] at p344
                try rw [w335] at p344
                try rw [w336] at p344
                try rw [w337] at p344
                try rw [w338] at p344
                try rw [w339] at p344
                try rw [wg1] at p344
                try rw [wg2] at p344
                try rw [wg3] at p344
                try rw [wg4] at p344
                try rw [wg5] at p344
                try rw [wg6] at p344
                try rw [wg7] at p344
                try rw [wg351] at p345
                try rw [w348] at p345
                try rw [wg352] at p345
                try rw [wg353] at p345
                try rw [wg354] at p345
                try rw [w349] at p345
                try rw [w350] at p345
                try rw [w333] at p345
                try rw [w334] at p345
                try rw [w335] at p345
                try rw [w336] at p345
                try rw [w337] at p345
                try rw [w338] at p345
                try rw [w339] at p345
                try rw [wg1] at p345
                try rw [wg2] at p345
                try rw [wg3] at p345
                try rw [wg4] at p345
                try rw [wg5] at p345
                try rw [wg6] at p345
                try rw [wg7] at p345
                clear w333 w334 w335 w336 w337 w338 w339
                have T355 := zTI_fr0 T340 (fun j a b => qm341.1 j (by omega) (zanyF (by simp <;> omega))) (fun j a b => qm341.1 j (by omega) (zanyF (by simp <;> omega))) (qm341.2.1 8 rfl) (qm341.2.1 38 rfl)
                have L4 := rLx_p L3 (qm341.1 85 (by decide) rfl) (qm341.2.1 30 rfl) p346
                have N4 := rNu_z N3 qm341 ⟨rfl, rfl, rfl, rfl, rfl, rfl⟩ ⟨rfl, rfl, rfl, rfl, rfl, rfl⟩
                obtain ⟨S4, ZW4⟩ := rFs_q S3 qm341 rfl rfl ZW3
                refine Exists.intro (2 * zrT m341 0 + 1) (And.intro (zrd2 (zrT_lt (by unfold zrm; simp only [wg351, w348, wg352, wg353, wg354, w349, w350, wg95, wg96, wg97, wg98, wg99, wg100, wg101, wg1, wg2, wg3, wg4, wg5, wg6, wg7]; (repeat' split) <;> omega) (zrm_0 (by (try rw [wg351]) <;> (try rw [w348]) <;> (try rw [wg352]) <;> (try rw [wg353]) <;> (try rw [wg354]) <;> (try rw [w349]) <;> (try rw [w350]) <;> (try rw [wg95]) <;> (try rw [wg96]) <;> (try rw [wg97]) <;> (try rw [wg98]) <;> (try rw [wg99]) <;> (try rw [wg100]) <;> (try rw [wg101]) <;> (try rw [wg1]) <;> (try rw [wg2]) <;> (try rw [wg3]) <;> (try rw [wg4]) <;> (try rw [wg5]) <;> (try rw [wg6]) <;> (try rw [wg7]) <;> omega)))) ?_)
                exact ⟨(fun _ => ⟨_, _, _, _, _, rfl, z347, ⟨by omega, by omega⟩, ⟨by omega, by omega⟩, ⟨by omega, by omega⟩, ⟨by omega, by omega⟩, ⟨by omega, by omega⟩, ⟨rfl, rfl, rfl⟩, (by (try rw [wg351]) <;> (try rw [w348]) <;> (try rw [wg352]) <;> (try rw [wg353]) <;> (try rw [wg354]) <;> (try rw [w349]) <;> (try rw [w350]) <;> (try rw [wg95]) <;> (try rw [wg96]) <;> (try rw [wg97]) <;> (try rw [wg98]) <;> (try rw [wg99]) <;> (try rw [wg100]) <;> (try rw [wg101]) <;> (try rw [wg1]) <;> (try rw [wg2]) <;> (try rw [wg3]) <;> (try rw [wg4]) <;> (try rw [wg5]) <;> (try rw [wg6]) <;> (try rw [wg7]) <;> omega), (by (try rw [wg351]) <;> (try rw [w348]) <;> (try rw [wg352]) <;> (try rw [wg353]) <;> (try rw [wg354]) <;> (try rw [w349]) <;> (try rw [w350]) <;> (try rw [wg95]) <;> (try rw [wg96]) <;> (try rw [wg97]) <;> (try rw [wg98]) <;> (try rw [wg99]) <;> (try rw [wg100]) <;> (try rw [wg101]) <;> (try rw [wg1]) <;> (try rw [wg2]) <;> (try rw [wg3]) <;> (try rw [wg4]) <;> (try rw [wg5]) <;> (try rw [wg6]) <;> (try rw [wg7]) <;> omega), ⟨fun _ => zTI_w1 T355 (by rw [qm341.1 104 (by decide) rfl, em331, zu_at]; decide), fun h => absurd rfl h⟩, (fun h => absurd h (by decide)), (Or.inl rfl), (by have h6 := i6; unfold zrm at h6 ⊢; simp only [wg351, w348, wg352, wg353, wg354, w349, w350, wg95, wg96, wg97, wg98, wg99, wg100, wg101, wg1, wg2, wg3, wg4, wg5, wg6, wg7] at h6 ⊢; (repeat' split at h6) <;> (repeat' split) <;> omega), (by (try rw [wg351]) <;> (try rw [w348]) <;> (try rw [wg352]) <;> (try rw [wg353]) <;> (try rw [wg354]) <;> (try rw [w349]) <;> (try rw [w350]) <;> (try rw [wg95]) <;> (try rw [wg96]) <;> (try rw [wg97]) <;> (try rw [wg98]) <;> (try rw [wg99]) <;> (try rw [wg100]) <;> (try rw [wg101]) <;> (try rw [wg1]) <;> (try rw [wg2]) <;> (try rw [wg3]) <;> (try rw [wg4]) <;> (try rw [wg5]) <;> (try rw [wg6]) <;> (try rw [wg7]) <;> omega), (Or.inr V3), ⟨_, _, _, L4, N4, S4, Or.inl ⟨rfl, by rw [show m341.1 104 (v4 + 1) = 5 by rw [qm341.1 104 (by decide) rfl, em331, zu_at]]; exact R1, by simp only [List.length_cons]; omega⟩⟩, rfl⟩), (fun h => absurd h (by decide)), (fun h => absurd h (by decide)), (fun h => absurd h (by decide)), (fun h => absurd h (by decide))⟩
              · exfalso; omega
        · have N300 : n0 < 300 := by rcases (show n0 < 300 ∨ n0 = 300 by omega) with h0 | h0; exact h0; exact absurd (show x116 = 300 by omega) nc117
          refine ⟨yk_X9_fail, ym_X9_fail hg d (by omega), _, rfl, ⟨by omega, by omega⟩, ?_⟩
          intro x356 m357 qm357 kx356 lx356 p358
          have z359 := zfx_t z0 qm357 rfl rfl
          have w360 : m357.1 66 ((31 : Nat) : Int) = g95 := (qm357.2.1 31 rfl).trans wg95
          have w361 : m357.1 66 ((30 : Nat) : Int) = g96 := (qm357.2.1 30 rfl).trans wg96
          have w362 : m357.1 66 ((33 : Nat) : Int) = g97 := (qm357.2.1 33 rfl).trans wg97
          have w363 : m357.1 66 ((34 : Nat) : Int) = g98 := (qm357.2.1 34 rfl).trans wg98
          have w364 : m357.1 66 ((32 : Nat) : Int) = g99 := (qm357.2.1 32 rfl).trans wg99
          have w365 : m357.1 66 ((38 : Nat) : Int) = g100 := (qm357.2.1 38 rfl).trans wg100
          have w366 : m357.1 66 ((8 : Nat) : Int) = g101 := (qm357.2.1 8 rfl).trans wg101
          exact And.intro trivial (And.intro ⟨by omega, by omega⟩ (hQ _ _ z359 (by omega) (by omega) (by (try rw [w360]) <;> (try rw [w361]) <;> (try rw [w362]) <;> (try rw [w363]) <;> (try rw [w364]) <;> (try rw [w365]) <;> (try rw [w366]) <;> (try rw [wg95]) <;> (try rw [wg96]) <;> (try rw [wg97]) <;> (try rw [wg98]) <;> (try rw [wg99]) <;> (try rw [wg100]) <;> (try rw [wg101]) <;> (try rw [wg1]) <;> (try rw [wg2]) <;> (try rw [wg3]) <;> (try rw [wg4]) <;> (try rw [wg5]) <;> (try rw [wg6]) <;> (try rw [wg7]) <;> omega) (by (try rw [w360]) <;> (try rw [w361]) <;> (try rw [w362]) <;> (try rw [w363]) <;> (try rw [w364]) <;> (try rw [w365]) <;> (try rw [w366]) <;> (try rw [wg95]) <;> (try rw [wg96]) <;> (try rw [wg97]) <;> (try rw [wg98]) <;> (try rw [wg99]) <;> (try rw [wg100]) <;> (try rw [wg101]) <;> (try rw [wg1]) <;> (try rw [wg2]) <;> (try rw [wg3]) <;> (try rw [wg4]) <;> (try rw [wg5]) <;> (try rw [wg6]) <;> (try rw [wg7]) <;> omega) (zTE_fr (zTE_of T102 (by omega) (by have := zwb_nn m0 v4; omega)) (fun j a b => qm357.1 j (by omega) (zanyF (by simp <;> omega))) (qm357.2.1 8 rfl) (by (try rw [w360]) <;> (try rw [w361]) <;> (try rw [w362]) <;> (try rw [w363]) <;> (try rw [w364]) <;> (try rw [w365]) <;> (try rw [w366]) <;> (try rw [wg95]) <;> (try rw [wg96]) <;> (try rw [wg97]) <;> (try rw [wg98]) <;> (try rw [wg99]) <;> (try rw [wg100]) <;> (try rw [wg101]) <;> (try rw [wg1]) <;> (try rw [wg2]) <;> (try rw [wg3]) <;> (try rw [wg4]) <;> (try rw [wg5]) <;> (try rw [wg6]) <;> (try rw [wg7]) <;> omega)) (by (try rw [w360]) <;> (try rw [w361]) <;> (try rw [w362]) <;> (try rw [w363]) <;> (try rw [w364]) <;> (try rw [w365]) <;> (try rw [w366]) <;> (try rw [wg95]) <;> (try rw [wg96]) <;> (try rw [wg97]) <;> (try rw [wg98]) <;> (try rw [wg99]) <;> (try rw [wg100]) <;> (try rw [wg101]) <;> (try rw [wg1]) <;> (try rw [wg2]) <;> (try rw [wg3]) <;> (try rw [wg4]) <;> (try rw [wg5]) <;> (try rw [wg6]) <;> (try rw [wg7]) <;> omega) (Or.inl rfl) (Or.inl rfl) (by omega) (Or.inl ⟨rfl, rFa_t R0 (rFa_f L0 N0.1.2.2.2.2.2 (yR_s (yR_r τ _) (ym11_7 (by omega) (by rw [BV.2.1]; exact N300) (YW.mpr ⟨by omega, by omega⟩))) p358)⟩)))
    · refine ⟨yk_X9_fail, ym_X9_fail hg d (by omega), _, rfl, ⟨by omega, by omega⟩, ?_⟩
      intro x367 m368 qm368 kx367 lx367 p369
      have z370 := zfx_t z0 qm368 rfl rfl
      have w371 : m368.1 66 ((31 : Nat) : Int) = g95 := (qm368.2.1 31 rfl).trans wg95
      have w372 : m368.1 66 ((30 : Nat) : Int) = g96 := (qm368.2.1 30 rfl).trans wg96
      have w373 : m368.1 66 ((33 : Nat) : Int) = g97 := (qm368.2.1 33 rfl).trans wg97
      have w374 : m368.1 66 ((34 : Nat) : Int) = g98 := (qm368.2.1 34 rfl).trans wg98
      have w375 : m368.1 66 ((32 : Nat) : Int) = g99 := (qm368.2.1 32 rfl).trans wg99
      have w376 : m368.1 66 ((38 : Nat) : Int) = g100 := (qm368.2.1 38 rfl).trans wg100
      have w377 : m368.1 66 ((8 : Nat) : Int) = g101 := (qm368.2.1 8 rfl).trans wg101
      exact And.intro trivial (And.intro ⟨by omega, by omega⟩ (hQ _ _ z370 (by omega) (by omega) (by (try rw [w371]) <;> (try rw [w372]) <;> (try rw [w373]) <;> (try rw [w374]) <;> (try rw [w375]) <;> (try rw [w376]) <;> (try rw [w377]) <;> (try rw [wg95]) <;> (try rw [wg96]) <;> (try rw [wg97]) <;> (try rw [wg98]) <;> (try rw [wg99]) <;> (try rw [wg100]) <;> (try rw [wg101]) <;> (try rw [wg1]) <;> (try rw [wg2]) <;> (try rw [wg3]) <;> (try rw [wg4]) <;> (try rw [wg5]) <;> (try rw [wg6]) <;> (try rw [wg7]) <;> omega) (by (try rw [w371]) <;> (try rw [w372]) <;> (try rw [w373]) <;> (try rw [w374]) <;> (try rw [w375]) <;> (try rw [w376]) <;> (try rw [w377]) <;> (try rw [wg95]) <;> (try rw [wg96]) <;> (try rw [wg97]) <;> (try rw [wg98]) <;> (try rw [wg99]) <;> (try rw [wg100]) <;> (try rw [wg101]) <;> (try rw [wg1]) <;> (try rw [wg2]) <;> (try rw [wg3]) <;> (try rw [wg4]) <;> (try rw [wg5]) <;> (try rw [wg6]) <;> (try rw [wg7]) <;> omega) (zTE_fr (zTE_of T102 (by omega) (by have := zwb_nn m0 v4; omega)) (fun j a b => qm368.1 j (by omega) (zanyF (by simp <;> omega))) (qm368.2.1 8 rfl) (by (try rw [w371]) <;> (try rw [w372]) <;> (try rw [w373]) <;> (try rw [w374]) <;> (try rw [w375]) <;> (try rw [w376]) <;> (try rw [w377]) <;> (try rw [wg95]) <;> (try rw [wg96]) <;> (try rw [wg97]) <;> (try rw [wg98]) <;> (try rw [wg99]) <;> (try rw [wg100]) <;> (try rw [wg101]) <;> (try rw [wg1]) <;> (try rw [wg2]) <;> (try rw [wg3]) <;> (try rw [wg4]) <;> (try rw [wg5]) <;> (try rw [wg6]) <;> (try rw [wg7]) <;> omega)) (by (try rw [w371]) <;> (try rw [w372]) <;> (try rw [w373]) <;> (try rw [w374]) <;> (try rw [w375]) <;> (try rw [w376]) <;> (try rw [w377]) <;> (try rw [wg95]) <;> (try rw [wg96]) <;> (try rw [wg97]) <;> (try rw [wg98]) <;> (try rw [wg99]) <;> (try rw [wg100]) <;> (try rw [wg101]) <;> (try rw [wg1]) <;> (try rw [wg2]) <;> (try rw [wg3]) <;> (try rw [wg4]) <;> (try rw [wg5]) <;> (try rw [wg6]) <;> (try rw [wg7]) <;> omega) (Or.inl rfl) (Or.inl rfl) (by omega) (Or.inl ⟨rfl, rFa_t R0 (rFa_f L0 N0.1.2.2.2.2.2 (yR_s (yR_r τ _) (ym11_6 (by omega) (by rw [BV.2.1]; omega))) p369)⟩)))
