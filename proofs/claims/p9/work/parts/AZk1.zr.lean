def yk_X9_readHead : zC := fun As μ Q => ∃ (a1 : Int) (τ : yT) (p : Int) (B : yB), As = [.inr (.inr (66, 66)), .inl a1] ∧ (1 ≤ a1 ∧ a1 ≤ 21) ∧ (0 ≤ μ.1 66 ((33 : Nat) : Int) ∧ 0 ≤ μ.1 66 ((34 : Nat) : Int) ∧ μ.1 66 ((33 : Nat) : Int) + μ.1 66 ((34 : Nat) : Int) ≤ μ.1 66 ((31 : Nat) : Int) ∧ μ.1 66 ((31 : Nat) : Int) ≤ μ.1 66 ((30 : Nat) : Int) ∧ μ.1 66 ((30 : Nat) : Int) ≤ 800) ∧ (μ.1 66 ((24 : Nat) : Int) = 21 ∧ μ.1 66 ((25 : Nat) : Int) = 80 ∧ μ.1 66 ((26 : Nat) : Int) = a1) ∧ (0 ≤ μ.1 66 ((27 : Nat) : Int) ∧ μ.1 66 ((27 : Nat) : Int) ≤ 4 * (a1 - 1)) ∧ (rLx μ τ p) ∧ (rNu μ B) ∧ (yInv (0, p, 0, [], B)) ∧ (∀ (v : Int) (μ' : zM), zfx [76, 77, 79, 82, 84, 3000075, 3000081] [26, 27, 31, 32, 33, 34, 35, 36] μ μ' → 0 ≤ v → v ≤ 1 → (0 ≤ μ'.1 66 ((33 : Nat) : Int) ∧ 0 ≤ μ'.1 66 ((34 : Nat) : Int) ∧ μ'.1 66 ((33 : Nat) : Int) + μ'.1 66 ((34 : Nat) : Int) ≤ μ'.1 66 ((31 : Nat) : Int) ∧ μ'.1 66 ((31 : Nat) : Int) ≤ μ'.1 66 ((30 : Nat) : Int) ∧ μ'.1 66 ((30 : Nat) : Int) ≤ 800) → (μ'.1 66 ((30 : Nat) : Int) = μ.1 66 ((30 : Nat) : Int)) → (v = 1 → a1 ≤ 20 ∧ zHd μ μ' a1 ∧ zrm μ' < zrm μ) → (zOt μ μ') → ((v = 0 ∧ rFa τ (0, p, 0, [], B) μ') ∨ (v = 1 ∧ ∃ p' B', yR τ (0, p, 0, [], B) (3, p', 0, [], B') ∧ rLx μ' τ p' ∧ rNu μ' B' ∧ B'.1 0 3 = a1 ∧ B'.2 = B.2)) → (zOn μ μ') → Q (some (.inl v)) μ')
abbrev yi_X9_readHead (μ : zM) (a1 : Int) (τ : yT) (p : Int) (B : yB) : Nat → List zV → zM → Nat → Prop := fun pc vs μ' n => ∃ (v1 : Int), vs = [.inr (.inr (66, 66)), .inl v1] ∧ zfx [76, 77, 79, 82, 84, 3000075, 3000081] [26, 27, 31, 32, 33, 34, 35, 36] μ μ' ∧ (1 ≤ v1 ∧ v1 ≤ 20) ∧ (0 ≤ μ'.1 66 ((33 : Nat) : Int) ∧ 0 ≤ μ'.1 66 ((34 : Nat) : Int) ∧ μ'.1 66 ((33 : Nat) : Int) + μ'.1 66 ((34 : Nat) : Int) ≤ μ'.1 66 ((31 : Nat) : Int) ∧ μ'.1 66 ((31 : Nat) : Int) ≤ μ'.1 66 ((30 : Nat) : Int) ∧ μ'.1 66 ((30 : Nat) : Int) ≤ 800) ∧ (μ'.1 66 ((30 : Nat) : Int) = μ.1 66 ((30 : Nat) : Int)) ∧ (v1 = a1 ∧ a1 ≤ 20) ∧ (μ'.1 66 ((24 : Nat) : Int) = 21 ∧ μ'.1 66 ((25 : Nat) : Int) = 80) ∧ (zHd μ μ' a1) ∧ (zrm μ' < zrm μ) ∧ (μ'.1 66 ((32 : Nat) : Int) = 60 ∨ μ'.1 66 ((32 : Nat) : Int) = 44) ∧ (zOt μ μ') ∧ (∃ pq Bq, yR τ (0, p, 0, [], B) (2, pq, 0, [], Bq) ∧ rLx μ' τ pq ∧ rNu μ' Bq ∧ Bq.1 0 3 = a1 ∧ Bq.1 0 0 = a1 + 1 ∧ Bq.2 = B.2) ∧ (zOn μ μ') ∧ n = (Int.toNat (zrm μ'))
set_option maxHeartbeats 4000000 in
theorem ym_X9_readHead_128 {g : zΓ} (hg : zg g) (d : Nat) (hd : 5 ≤ d + 1) (μ : zM) (Q : Option zV → zM → Prop) (a1 : Int) (τ : yT) (p : Int) (B : yB) (ha1 : (1 ≤ a1 ∧ a1 ≤ 21)) (hp0 : (0 ≤ μ.1 66 ((33 : Nat) : Int) ∧ 0 ≤ μ.1 66 ((34 : Nat) : Int) ∧ μ.1 66 ((33 : Nat) : Int) + μ.1 66 ((34 : Nat) : Int) ≤ μ.1 66 ((31 : Nat) : Int) ∧ μ.1 66 ((31 : Nat) : Int) ≤ μ.1 66 ((30 : Nat) : Int) ∧ μ.1 66 ((30 : Nat) : Int) ≤ 800)) (hp1 : (μ.1 66 ((24 : Nat) : Int) = 21 ∧ μ.1 66 ((25 : Nat) : Int) = 80 ∧ μ.1 66 ((26 : Nat) : Int) = a1)) (hp2 : (0 ≤ μ.1 66 ((27 : Nat) : Int) ∧ μ.1 66 ((27 : Nat) : Int) ≤ 4 * (a1 - 1))) (hp3 : (rLx μ τ p)) (hp4 : (rNu μ B)) (hp5 : (yInv (0, p, 0, [], B))) (hQ : ∀ (v : Int) (μ' : zM), zfx [76, 77, 79, 82, 84, 3000075, 3000081] [26, 27, 31, 32, 33, 34, 35, 36] μ μ' → 0 ≤ v → v ≤ 1 → (0 ≤ μ'.1 66 ((33 : Nat) : Int) ∧ 0 ≤ μ'.1 66 ((34 : Nat) : Int) ∧ μ'.1 66 ((33 : Nat) : Int) + μ'.1 66 ((34 : Nat) : Int) ≤ μ'.1 66 ((31 : Nat) : Int) ∧ μ'.1 66 ((31 : Nat) : Int) ≤ μ'.1 66 ((30 : Nat) : Int) ∧ μ'.1 66 ((30 : Nat) : Int) ≤ 800) → (μ'.1 66 ((30 : Nat) : Int) = μ.1 66 ((30 : Nat) : Int)) → (v = 1 → a1 ≤ 20 ∧ zHd μ μ' a1 ∧ zrm μ' < zrm μ) → (zOt μ μ') → ((v = 0 ∧ rFa τ (0, p, 0, [], B) μ') ∨ (v = 1 ∧ ∃ p' B', yR τ (0, p, 0, [], B) (3, p', 0, [], B') ∧ rLx μ' τ p' ∧ rNu μ' B' ∧ B'.1 0 3 = a1 ∧ B'.2 = B.2)) → (zOn μ μ') → Q (some (.inl v)) μ') : ∀ (vs : List zV) (m0 : zM) (n : Nat), yi_X9_readHead μ a1 τ p B 128 vs m0 n → zw (zOk g d) mt_X9_readHead ([(128, [0, 1])], []) (fun pc' vs' μ'' => ∃ n', n' < n ∧ yi_X9_readHead μ a1 τ p B pc' vs' μ'' n') Q (fun _ _ => False) 166 true (zsuf 128 mt_X9_readHead.2.2.2.2.1) (zzip [0, 1] vs) [] m0 := by
  have NB : a1 = B.1 0 0 := hp1.2.2.symm.trans hp4.1.2.2.1
  have HI0 : yI 0 0 [] B := (by rcases hp5 with q | q; exact absurd (show (0 : Nat) = 20 from q) (by decide); exact q)
  have HB0 := HI0.1.1
  have NP0 : μ.1 66 ((27 : Nat) : Int) = B.1 0 1 := hp4.1.2.2.2.1
  obtain ⟨g1, wg1⟩ : ∃ z : Int, μ.1 66 ((31 : Nat) : Int) = z := ⟨_, rfl⟩
  obtain ⟨g2, wg2⟩ : ∃ z : Int, μ.1 66 ((30 : Nat) : Int) = z := ⟨_, rfl⟩
  obtain ⟨g3, wg3⟩ : ∃ z : Int, μ.1 66 ((33 : Nat) : Int) = z := ⟨_, rfl⟩
  obtain ⟨g4, wg4⟩ : ∃ z : Int, μ.1 66 ((34 : Nat) : Int) = z := ⟨_, rfl⟩
  obtain ⟨g5, wg5⟩ : ∃ z : Int, μ.1 66 ((32 : Nat) : Int) = z := ⟨_, rfl⟩
  obtain ⟨g6, wg6⟩ : ∃ z : Int, μ.1 66 ((26 : Nat) : Int) = z := ⟨_, rfl⟩
  obtain ⟨g7, wg7⟩ : ∃ z : Int, μ.1 66 ((27 : Nat) : Int) = z := ⟨_, rfl⟩
  obtain ⟨g8, wg8⟩ : ∃ z : Int, μ.1 66 ((24 : Nat) : Int) = z := ⟨_, rfl⟩
  obtain ⟨g9, wg9⟩ : ∃ z : Int, μ.1 66 ((25 : Nat) : Int) = z := ⟨_, rfl⟩
  try rw [wg1] at hp0
  try rw [wg2] at hp0
  try rw [wg3] at hp0
  try rw [wg4] at hp0
  try rw [wg5] at hp0
  try rw [wg6] at hp0
  try rw [wg7] at hp0
  try rw [wg8] at hp0
  try rw [wg9] at hp0
  try rw [wg1] at hp1
  try rw [wg2] at hp1
  try rw [wg3] at hp1
  try rw [wg4] at hp1
  try rw [wg5] at hp1
  try rw [wg6] at hp1
  try rw [wg7] at hp1
  try rw [wg8] at hp1
  try rw [wg9] at hp1
  try rw [wg1] at hp2
  try rw [wg2] at hp2
  try rw [wg3] at hp2
  try rw [wg4] at hp2
  try rw [wg5] at hp2
  try rw [wg6] at hp2
  try rw [wg7] at hp2
  try rw [wg8] at hp2
  try rw [wg9] at hp2
  try rw [wg1] at hp3
  try rw [wg2] at hp3
  try rw [wg3] at hp3
  try rw [wg4] at hp3
  try rw [wg5] at hp3
  try rw [wg6] at hp3
  try rw [wg7] at hp3
  try rw [wg8] at hp3
  try rw [wg9] at hp3
  try rw [wg1] at hp4
  try rw [wg2] at hp4
  try rw [wg3] at hp4
  try rw [wg4] at hp4
  try rw [wg5] at hp4
  try rw [wg6] at hp4
  try rw [wg7] at hp4
  try rw [wg8] at hp4
  try rw [wg9] at hp4
  try rw [wg1] at hp5
  try rw [wg2] at hp5
  try rw [wg3] at hp5
  try rw [wg4] at hp5
  try rw [wg5] at hp5
  try rw [wg6] at hp5
  try rw [wg7] at hp5
  try rw [wg8] at hp5
  try rw [wg9] at hp5
  have KK0 := rkd hp3 wg5
  rw [wg7] at NP0
  have z0 : zfx [76, 77, 79, 82, 84, 3000075, 3000081] [26, 27, 31, 32, 33, 34, 35, 36] μ μ := zfx_x μ
  intro vs m0 n hI
  clear z0
  obtain ⟨v1, rfl, z0, hv1, i0, i1, i2, i3, i4, i5, i6, i7, i8, i9, rfl⟩ := hI
  obtain ⟨j1, i2b⟩ := i2
  subst j1
  have HH := i4.1
  have i2 := i2b
  obtain ⟨g158, wg158⟩ : ∃ z : Int, m0.1 66 ((31 : Nat) : Int) = z := ⟨_, rfl⟩
  obtain ⟨g159, wg159⟩ : ∃ z : Int, m0.1 66 ((30 : Nat) : Int) = z := ⟨_, rfl⟩
  obtain ⟨g160, wg160⟩ : ∃ z : Int, m0.1 66 ((33 : Nat) : Int) = z := ⟨_, rfl⟩
  obtain ⟨g161, wg161⟩ : ∃ z : Int, m0.1 66 ((34 : Nat) : Int) = z := ⟨_, rfl⟩
  obtain ⟨g162, wg162⟩ : ∃ z : Int, m0.1 66 ((32 : Nat) : Int) = z := ⟨_, rfl⟩
  obtain ⟨g163, wg163⟩ : ∃ z : Int, m0.1 66 ((26 : Nat) : Int) = z := ⟨_, rfl⟩
  obtain ⟨g164, wg164⟩ : ∃ z : Int, m0.1 66 ((27 : Nat) : Int) = z := ⟨_, rfl⟩
  obtain ⟨g165, wg165⟩ : ∃ z : Int, m0.1 66 ((24 : Nat) : Int) = z := ⟨_, rfl⟩
  obtain ⟨g166, wg166⟩ : ∃ z : Int, m0.1 66 ((25 : Nat) : Int) = z := ⟨_, rfl⟩
  try rw [wg158] at i0
  try rw [wg159] at i0
  try rw [wg160] at i0
  try rw [wg161] at i0
  try rw [wg162] at i0
  try rw [wg163] at i0
  try rw [wg164] at i0
  try rw [wg165] at i0
  try rw [wg166] at i0
  try rw [wg1] at i0
  try rw [wg2] at i0
  try rw [wg3] at i0
  try rw [wg4] at i0
  try rw [wg5] at i0
  try rw [wg6] at i0
  try rw [wg7] at i0
  try rw [wg8] at i0
  try rw [wg9] at i0
  try rw [wg158] at i1
  try rw [wg159] at i1
  try rw [wg160] at i1
  try rw [wg161] at i1
  try rw [wg162] at i1
  try rw [wg163] at i1
  try rw [wg164] at i1
  try rw [wg165] at i1
  try rw [wg166] at i1
  try rw [wg1] at i1
  try rw [wg2] at i1
  try rw [wg3] at i1
  try rw [wg4] at i1
  try rw [wg5] at i1
  try rw [wg6] at i1
  try rw [wg7] at i1
  try rw [wg8] at i1
  try rw [wg9] at i1
  try rw [wg158] at i2
  try rw [wg159] at i2
  try rw [wg160] at i2
  try rw [wg161] at i2
  try rw [wg162] at i2
  try rw [wg163] at i2
  try rw [wg164] at i2
  try rw [wg165] at i2
  try rw [wg166] at i2
  try rw [wg1] at i2
  try rw [wg2] at i2
  try rw [wg3] at i2
  try rw [wg4] at i2
  try rw [wg5] at i2
  try rw [wg6] at i2
  try rw [wg7] at i2
  try rw [wg8] at i2
  try rw [wg9] at i2
  try rw [wg158] at i3
  try rw [wg159] at i3
  try rw [wg160] at i3
  try rw [wg161] at i3
  try rw [wg162] at i3
  try rw [wg163] at i3
  try rw [wg164] at i3
  try rw [wg165] at i3
  try rw [wg166] at i3
  try rw [wg1] at i3
  try rw [wg2] at i3
  try rw [wg3] at i3
  try rw [wg4] at i3
  try rw [wg5] at i3
  try rw [wg6] at i3
  try rw [wg7] at i3
  try rw [wg8] at i3
  try rw [wg9] at i3
  try rw [wg158] at i4
  try rw [wg159] at i4
  try rw [wg160] at i4
  try rw [wg161] at i4
  try rw [wg162] at i4
  try rw [wg163] at i4
  try rw [wg164] at i4
  try rw [wg165] at i4
  try rw [wg166] at i4
  try rw [wg1] at i4
  try rw [wg2] at i4
  try rw [wg3] at i4
  try rw [wg4] at i4
  try rw [wg5] at i4
  try rw [wg6] at i4
  try rw [wg7] at i4
  try rw [wg8] at i4
  try rw [wg9] at i4
  try rw [wg158] at i5
  try rw [wg159] at i5
  try rw [wg160] at i5
  try rw [wg161] at i5
  try rw [wg162] at i5
  try rw [wg163] at i5
  try rw [wg164] at i5
  try rw [wg165] at i5
  try rw [wg166] at i5
  try rw [wg1] at i5
  try rw [wg2] at i5
  try rw [wg3] at i5
  try rw [wg4] at i5
  try rw [wg5] at i5
  try rw [wg6] at i5
  try rw [wg7] at i5
  try rw [wg8] at i5
  try rw [wg9] at i5
  try rw [wg158] at i6
  try rw [wg159] at i6
  try rw [wg160] at i6
  try rw [wg161] at i6
  try rw [wg162] at i6
  try rw [wg163] at i6
  try rw [wg164] at i6
  try rw [wg165] at i6
  try rw [wg166] at i6
  try rw [wg1] at i6
  try rw [wg2] at i6
  try rw [wg3] at i6
  try rw [wg4] at i6
  try rw [wg5] at i6
  try rw [wg6] at i6
  try rw [wg7] at i6
  try rw [wg8] at i6
  try rw [wg9] at i6
  try rw [wg158] at i7
  try rw [wg159] at i7
  try rw [wg160] at i7
  try rw [wg161] at i7
  try rw [wg162] at i7
  try rw [wg163] at i7
  try rw [wg164] at i7
  try rw [wg165] at i7
  try rw [wg166] at i7
  try rw [wg1] at i7
  try rw [wg2] at i7
  try rw [wg3] at i7
  try rw [wg4] at i7
  try rw [wg5] at i7
  try rw [wg6] at i7
  try rw [wg7] at i7
  try rw [wg8] at i7
  try rw [wg9] at i7
  try rw [wg158] at i8
  try rw [wg159] at i8
  try rw [wg160] at i8
  try rw [wg161] at i8
  try rw [wg162] at i8
  try rw [wg163] at i8
  try rw [wg164] at i8
  try rw [wg165] at i8
  try rw [wg166] at i8
  try rw [wg1] at i8
  try rw [wg2] at i8
  try rw [wg3] at i8
  try rw [wg4] at i8
  try rw [wg5] at i8
  try rw [wg6] at i8
  try rw [wg7] at i8
  try rw [wg8] at i8
  try rw [wg9] at i8
  try rw [wg158] at i9
  try rw [wg159] at i9
  try rw [wg160] at i9
  try rw [wg161] at i9
  try rw [wg162] at i9
  try rw [wg163] at i9
  try rw [wg164] at i9
  try rw [wg165] at i9
  try rw [wg166] at i9
  try rw [wg1] at i9
  try rw [wg2] at i9
  try rw [wg3] at i9
  try rw [wg4] at i9
  try rw [wg5] at i9
  try rw [wg6] at i9
  try rw [wg7] at i9
  try rw [wg8] at i9
  try rw [wg9] at i9
  obtain ⟨pq, Bq, RQ, LQ, NQ, OQ, CQ, EQ2⟩ := i8
  have HI2 : yI 2 0 [] Bq := (by rcases yInv_R hp5 RQ with q | q; exact absurd (show (2 : Nat) = 20 from q) (by decide); exact q)
  refine ⟨yk_X9_pass, ym_X9_pass hg d (by omega), rfl, (by (try rw [wg158]) <;> (try rw [wg159]) <;> (try rw [wg160]) <;> (try rw [wg161]) <;> (try rw [wg162]) <;> (try rw [wg163]) <;> (try rw [wg164]) <;> (try rw [wg165]) <;> (try rw [wg166]) <;> (try rw [wg1]) <;> (try rw [wg2]) <;> (try rw [wg3]) <;> (try rw [wg4]) <;> (try rw [wg5]) <;> (try rw [wg6]) <;> (try rw [wg7]) <;> (try rw [wg8]) <;> (try rw [wg9]) <;> omega), ?_⟩
  intro m167 qm167 p168 p169 p170 p171 p172
  have z173 := zfx_t z0 qm167 rfl rfl
  have w174 : m167.1 66 ((30 : Nat) : Int) = g159 := (qm167.2.1 30 rfl).trans wg159
  have w175 : m167.1 66 ((26 : Nat) : Int) = g163 := (qm167.2.1 26 rfl).trans wg163
  have w176 : m167.1 66 ((27 : Nat) : Int) = g164 := (qm167.2.1 27 rfl).trans wg164
  have w177 : m167.1 66 ((24 : Nat) : Int) = g165 := (qm167.2.1 24 rfl).trans wg165
  have w178 : m167.1 66 ((25 : Nat) : Int) = g166 := (qm167.2.1 25 rfl).trans wg166
  obtain ⟨g179, wg179⟩ : ∃ z : Int, m167.1 66 ((31 : Nat) : Int) = z := ⟨_, rfl⟩
  obtain ⟨g180, wg180⟩ : ∃ z : Int, m167.1 66 ((33 : Nat) : Int) = z := ⟨_, rfl⟩
  obtain ⟨g181, wg181⟩ : ∃ z : Int, m167.1 66 ((34 : Nat) : Int) = z := ⟨_, rfl⟩
  obtain ⟨g182, wg182⟩ : ∃ z : Int, m167.1 66 ((32 : Nat) : Int) = z := ⟨_, rfl⟩
  try rw [wg179] at p168
  try rw [w174] at p168
  try rw [wg180] at p168
  try rw [wg181] at p168
  try rw [wg182] at p168
  try rw [w175] at p168
  try rw [w176] at p168
  try rw [w177] at p168
  try rw [w178] at p168
  try rw [wg158] at p168
  try rw [wg159] at p168
  try rw [wg160] at p168
  try rw [wg161] at p168
  try rw [wg162] at p168
  try rw [wg163] at p168
  try rw [wg164] at p168
  try rw [wg165] at p168
  try rw [wg166] at p168
  try rw [wg1] at p168
  try rw [wg2] at p168
  try rw [wg3] at p168
  try rw [wg4] at p168
  try rw [wg5] at p168
  try rw [wg6] at p168
  try rw [wg7] at p168
  try rw [wg8] at p168
  try rw [wg9] at p168
  try rw [wg179] at p169
  try rw [w174] at p169
  try rw [wg180] at p169
  try rw [wg181] at p169
  try rw [wg182] at p169
  try rw [w175] at p169
  try rw [w176] at p169
  try rw [w177] at p169
  try rw [w178] at p169
  try rw [wg158] at p169
  try rw [wg159] at p169
  try rw [wg160] at p169
  try rw [wg161] at p169
  try rw [wg162] at p169
  try rw [wg163] at p169
  try rw [wg164] at p169
  try rw [wg165] at p169
  try rw [wg166] at p169
  try rw [wg1] at p169
  try rw [wg2] at p169
  try rw [wg3] at p169
  try rw [wg4] at p169
  try rw [wg5] at p169
  try rw [wg6] at p169
  try rw [wg7] at p169
  try rw [wg8] at p169
  try rw [wg9] at p169
  try rw [wg179] at p170
  try rw [w174] at p170
  try rw [wg180] at p170
  try rw [wg181] at p170
  try rw [wg182] at p170
  try rw [w175] at p170
  try rw [w176] at p170
  try rw [w177] at p170
  try rw [w178] at p170
  try rw [wg158] at p170
  try rw [wg159] at p170
  try rw [wg160] at p170
  try rw [wg161] at p170
  try rw [wg162] at p170
  try rw [wg163] at p170
  try rw [wg164] at p170
  try rw [wg165] at p170
  try rw [wg166] at p170
  try rw [wg1] at p170
  try rw [wg2] at p170
  try rw [wg3] at p170
  try rw [wg4] at p170
  try rw [wg5] at p170
  try rw [wg6] at p170
  try rw [wg7] at p170
  try rw [wg8] at p170
  try rw [wg9] at p170
  try rw [wg179] at p171
  try rw [w174] at p171
  try rw [wg180] at p171
  try rw [wg181] at p171
  try rw [wg182] at p171
  try rw [w175] at p171
  try rw [w176] at p171
  try rw [w177] at p171
  try rw [w178] at p171
  try rw [wg158] at p171
  try rw [wg159] at p171
  try rw [wg160] at p171
  try rw [wg161] at p171
  try rw [wg162] at p171
  try rw [wg163] at p171
  try rw [wg164] at p171
  try rw [wg165] at p171
  try rw [wg166] at p171
  try rw [wg1] at p171
  try rw [wg2] at p171
  try rw [wg3] at p171
  try rw [wg4] at p171
  try rw [wg5] at p171
  try rw [wg6] at p171
  try rw [wg7] at p171
  try rw [wg8] at p171
  try rw [wg9] at p171
  have ot183 := zOt_fr i7 (qm167.1 76 (by decide) rfl) (qm167.1 77 (by decide) rfl) (qm167.1 78 (by decide) rfl) (qm167.1 79 (by decide) rfl) (qm167.1 80 (by decide) rfl) (qm167.1 83 (by decide) rfl) (qm167.1 84 (by decide) rfl)
  have on184 := zOn_fr i9 (qm167.1 3000075 (by decide) rfl) (qm167.1 3000081 (by decide) rfl) (qm167.1 82 (by decide) rfl)
  have HD0 := zHd_fr i4 (qm167.1 76 (by decide) rfl) (qm167.1 77 (by decide) rfl) (qm167.1 79 (by decide) rfl) (qm167.1 84 (by decide) rfl) (qm167.2.1 26 rfl) (qm167.2.1 27 rfl)
  have L2 := rLx_p LQ (qm167.1 85 (by decide) rfl) (qm167.2.1 30 rfl) p172
  have N2 := rNu_z NQ qm167 ⟨rfl, rfl, rfl, rfl, rfl, rfl⟩ ⟨rfl, rfl, rfl, rfl, rfl, rfl⟩
  have KK2 := rkd L2 wg182
  have Z2 := (N2.2.1 v1 (by omega) (by omega)).2.2.1
  intro x185 hx185 kx185 lx185
  rw [wg182] at hx185
  refine And.intro ⟨⟨by omega, by omega⟩, ⟨by omega, by omega⟩⟩ (And.intro (fun c186 => ?_) (fun c186 => ?_))
  · refine ⟨yk_X9_name, ym_X9_name hg d (by omega), rfl, (by (try rw [wg179]) <;> (try rw [w174]) <;> (try rw [wg180]) <;> (try rw [wg181]) <;> (try rw [wg182]) <;> (try rw [w175]) <;> (try rw [w176]) <;> (try rw [w177]) <;> (try rw [w178]) <;> (try rw [wg158]) <;> (try rw [wg159]) <;> (try rw [wg160]) <;> (try rw [wg161]) <;> (try rw [wg162]) <;> (try rw [wg163]) <;> (try rw [wg164]) <;> (try rw [wg165]) <;> (try rw [wg166]) <;> (try rw [wg1]) <;> (try rw [wg2]) <;> (try rw [wg3]) <;> (try rw [wg4]) <;> (try rw [wg5]) <;> (try rw [wg6]) <;> (try rw [wg7]) <;> (try rw [wg8]) <;> (try rw [wg9]) <;> omega), ?_⟩
    intro j187 p188
    refine ⟨yk_X9_findParam, ym_X9_findParam hg d (by omega), _, _, rfl, ⟨by omega, by omega⟩, ?_⟩
    intro x189 kx189 lx189 p190 p191
    try rw [wg179] at p190
    try rw [w174] at p190
    try rw [wg180] at p190
    try rw [wg181] at p190
    try rw [wg182] at p190
    try rw [w175] at p190
    try rw [w176] at p190
    try rw [w177] at p190
    try rw [w178] at p190
    try rw [wg1] at p190
    try rw [wg2] at p190
    try rw [wg3] at p190
    try rw [wg4] at p190
    try rw [wg5] at p190
    try rw [wg6] at p190
    try rw [wg7] at p190
    try rw [wg8] at p190
    try rw [wg9] at p190
    have FP : x189 = yfp Bq (ynm τ (ynx τ pq)).toInt := rNu_fp N2 HI2.1 OQ.symm (by have h1 := p191; rw [show j187 = ynm τ (ynx τ pq) from rLx_n L2 ((rKd_n KK2).mp (by omega)) p188] at h1; exact h1)
    refine And.intro ⟨by omega, by omega⟩ (And.intro (fun c192 => ?_) (fun c192 => ?_))
    · intro x193 hx193 kx193 lx193
      rw [w177] at hx193
      refine And.intro ⟨by omega, by omega⟩ ?_
      intro x194 hx194 kx194 lx194
      have X7 : x194 = m167.1 77 (21 + v1) := by rw [hx194, show (x193 + v1) = 21 + v1 by omega]
      have H7 := HD0.1
      refine And.intro ⟨⟨by omega, by omega⟩, ⟨by omega, by omega⟩⟩ (And.intro (fun c195 => ?_) (fun c195 => ?_))
      · have FB : g164 ≤ 79 ∧ g164 = m167.1 66 ((27 : Nat) : Int) := by omega
        intro x196 hx196 kx196 lx196
        rw [w178] at hx196
        intro x197 hx197 kx197 lx197
        rw [w176] at hx197
        refine ⟨yk_X9_name, ym_X9_name hg d (by omega), rfl, (by (try rw [wg179]) <;> (try rw [w174]) <;> (try rw [wg180]) <;> (try rw [wg181]) <;> (try rw [wg182]) <;> (try rw [w175]) <;> (try rw [w176]) <;> (try rw [w177]) <;> (try rw [w178]) <;> (try rw [wg158]) <;> (try rw [wg159]) <;> (try rw [wg160]) <;> (try rw [wg161]) <;> (try rw [wg162]) <;> (try rw [wg163]) <;> (try rw [wg164]) <;> (try rw [wg165]) <;> (try rw [wg166]) <;> (try rw [wg1]) <;> (try rw [wg2]) <;> (try rw [wg3]) <;> (try rw [wg4]) <;> (try rw [wg5]) <;> (try rw [wg6]) <;> (try rw [wg7]) <;> (try rw [wg8]) <;> (try rw [wg9]) <;> omega), ?_⟩
        intro j198 p199
        refine And.intro ⟨by omega, by omega⟩ ?_
        intro m200 em200
        have z201 := zfx_r z173 em200 rfl (by decide)
        have w202 : m200.1 66 ((31 : Nat) : Int) = g179 := by rw [em200]; exact (congrFun (zu_ne (by decide)) _).trans wg179
        have w203 : m200.1 66 ((30 : Nat) : Int) = g159 := by rw [em200]; exact (congrFun (zu_ne (by decide)) _).trans w174
        have w204 : m200.1 66 ((33 : Nat) : Int) = g180 := by rw [em200]; exact (congrFun (zu_ne (by decide)) _).trans wg180
        have w205 : m200.1 66 ((34 : Nat) : Int) = g181 := by rw [em200]; exact (congrFun (zu_ne (by decide)) _).trans wg181
        have w206 : m200.1 66 ((32 : Nat) : Int) = g182 := by rw [em200]; exact (congrFun (zu_ne (by decide)) _).trans wg182
        have w207 : m200.1 66 ((26 : Nat) : Int) = g163 := by rw [em200]; exact (congrFun (zu_ne (by decide)) _).trans w175
        have w208 : m200.1 66 ((27 : Nat) : Int) = g164 := by rw [em200]; exact (congrFun (zu_ne (by decide)) _).trans w176
        have w209 : m200.1 66 ((24 : Nat) : Int) = g165 := by rw [em200]; exact (congrFun (zu_ne (by decide)) _).trans w177
        have w210 : m200.1 66 ((25 : Nat) : Int) = g166 := by rw [em200]; exact (congrFun (zu_ne (by decide)) _).trans w178
        clear wg179 w174 wg180 wg181 wg182 w175 w176 w177 w178
        have ot211 := zOt_w ot183 em200 ⟨fun h => absurd h (by decide), fun h => absurd h (by decide), fun h => absurd h (by decide), fun h => absurd h (by decide), fun h => absurd h (by decide)⟩
        have on212 := zOn_w on184 em200 ⟨fun h => absurd h (by decide), fun _ => by omega, fun h => absurd h (by decide)⟩
        intro x213 hx213 kx213 lx213
        rw [w210] at hx213
        intro x214 hx214 kx214 lx214
        rw [w208] at hx214
        refine And.intro ⟨by omega, by omega⟩ (And.intro ⟨by omega, by omega⟩ ?_)
        intro m215 em215
        have z216 := zfx_r z201 em215 rfl (by decide)
        have w217 : m215.1 66 ((31 : Nat) : Int) = g179 := by rw [em215]; exact (congrFun (zu_ne (by decide)) _).trans w202
        have w218 : m215.1 66 ((30 : Nat) : Int) = g159 := by rw [em215]; exact (congrFun (zu_ne (by decide)) _).trans w203
        have w219 : m215.1 66 ((33 : Nat) : Int) = g180 := by rw [em215]; exact (congrFun (zu_ne (by decide)) _).trans w204
        have w220 : m215.1 66 ((34 : Nat) : Int) = g181 := by rw [em215]; exact (congrFun (zu_ne (by decide)) _).trans w205
        have w221 : m215.1 66 ((32 : Nat) : Int) = g182 := by rw [em215]; exact (congrFun (zu_ne (by decide)) _).trans w206
        have w222 : m215.1 66 ((26 : Nat) : Int) = g163 := by rw [em215]; exact (congrFun (zu_ne (by decide)) _).trans w207
        have w223 : m215.1 66 ((27 : Nat) : Int) = g164 := by rw [em215]; exact (congrFun (zu_ne (by decide)) _).trans w208
        have w224 : m215.1 66 ((24 : Nat) : Int) = g165 := by rw [em215]; exact (congrFun (zu_ne (by decide)) _).trans w209
        have w225 : m215.1 66 ((25 : Nat) : Int) = g166 := by rw [em215]; exact (congrFun (zu_ne (by decide)) _).trans w210
        clear w202 w203 w204 w205 w206 w207 w208 w209 w210
        have ot226 := zOt_w ot211 em215 ⟨fun h => absurd h (by decide), fun h => absurd h (by decide), fun h => absurd h (by decide), fun h => absurd h (by decide), fun h => absurd h (by decide)⟩
        have on227 := zOn_w on212 em215 ⟨fun h => absurd h (by decide), fun h => absurd h (by decide), fun _ => by omega⟩
        intro x228 hx228 kx228 lx228
        rw [w225] at hx228
        intro x229 hx229 kx229 lx229
        rw [w223] at hx229
        refine And.intro ⟨by omega, by omega⟩ (And.intro ⟨by omega, by omega⟩ ?_)
        intro m230 em230
        have z231 := zfx_r z216 em230 rfl (by decide)
        have w232 : m230.1 66 ((31 : Nat) : Int) = g179 := by rw [em230]; exact (congrFun (zu_ne (by decide)) _).trans w217
        have w233 : m230.1 66 ((30 : Nat) : Int) = g159 := by rw [em230]; exact (congrFun (zu_ne (by decide)) _).trans w218
        have w234 : m230.1 66 ((33 : Nat) : Int) = g180 := by rw [em230]; exact (congrFun (zu_ne (by decide)) _).trans w219
        have w235 : m230.1 66 ((34 : Nat) : Int) = g181 := by rw [em230]; exact (congrFun (zu_ne (by decide)) _).trans w220
        have w236 : m230.1 66 ((32 : Nat) : Int) = g182 := by rw [em230]; exact (congrFun (zu_ne (by decide)) _).trans w221
        have w237 : m230.1 66 ((26 : Nat) : Int) = g163 := by rw [em230]; exact (congrFun (zu_ne (by decide)) _).trans w222
        have w238 : m230.1 66 ((27 : Nat) : Int) = g164 := by rw [em230]; exact (congrFun (zu_ne (by decide)) _).trans w223
        have w239 : m230.1 66 ((24 : Nat) : Int) = g165 := by rw [em230]; exact (congrFun (zu_ne (by decide)) _).trans w224
        have w240 : m230.1 66 ((25 : Nat) : Int) = g166 := by rw [em230]; exact (congrFun (zu_ne (by decide)) _).trans w225
        clear w217 w218 w219 w220 w221 w222 w223 w224 w225
        have ot241 := zOt_w ot226 em230 (by have hk : (80 : Int) ≤ (x228 + x229) := (by omega); refine ⟨fun h => ?_, fun h => ?_, fun h => ?_, fun h => ?_, fun h => ?_⟩ <;> first | exact hk | (exfalso; revert h; decide))
        have on242 := zOn_w on227 em230 ⟨fun h => absurd h (by decide), fun h => absurd h (by decide), fun h => absurd h (by decide)⟩
        intro x243 hx243 kx243 lx243
        rw [w238] at hx243
        refine And.intro ⟨by omega, by omega⟩ ?_
        intro m244 em244
        have z245 := zfx_f z231 em244 rfl
        have w246 : m244.1 66 ((31 : Nat) : Int) = g179 := by rw [em244]; exact (zu_nk (by decide)).trans w232
        have w247 : m244.1 66 ((30 : Nat) : Int) = g159 := by rw [em244]; exact (zu_nk (by decide)).trans w233
        have w248 : m244.1 66 ((33 : Nat) : Int) = g180 := by rw [em244]; exact (zu_nk (by decide)).trans w234
        have w249 : m244.1 66 ((34 : Nat) : Int) = g181 := by rw [em244]; exact (zu_nk (by decide)).trans w235
        have w250 : m244.1 66 ((32 : Nat) : Int) = g182 := by rw [em244]; exact (zu_nk (by decide)).trans w236
        have w251 : m244.1 66 ((26 : Nat) : Int) = g163 := by rw [em244]; exact (zu_nk (by decide)).trans w237
        have w252 : m244.1 66 ((27 : Nat) : Int) = (x243 + 1) := by rw [em244]; exact zu_at
        have w253 : m244.1 66 ((24 : Nat) : Int) = g165 := by rw [em244]; exact (zu_nk (by decide)).trans w239
        have w254 : m244.1 66 ((25 : Nat) : Int) = g166 := by rw [em244]; exact (zu_nk (by decide)).trans w240
        clear w232 w233 w234 w235 w236 w237 w238 w239 w240
        have ot255 := zOt_w ot241 em244 ⟨fun h => absurd h (by decide), fun h => absurd h (by decide), fun h => absurd h (by decide), fun h => absurd h (by decide), fun h => absurd h (by decide)⟩
        have on256 := zOn_w on242 em244 ⟨fun h => absurd h (by decide), fun h => absurd h (by decide), fun h => absurd h (by decide)⟩
        intro x257 hx257 kx257 lx257
        rw [w253] at hx257
        refine And.intro ⟨by omega, by omega⟩ ?_
        intro x258 hx258 kx258 lx258
        have X8 : x258 = m167.1 77 (21 + v1) := by rw [hx258, em244, zu_ne (by decide), em230, zu_ne (by decide), em215, zu_ne (by decide), em200, zu_ne (by decide), show (x257 + v1) = 21 + v1 by omega]
        refine And.intro ⟨by omega, by omega⟩ (And.intro ⟨by omega, by omega⟩ ?_)
        intro m259 em259
        have z260 := zfx_r z245 em259 rfl (by decide)
        have w261 : m259.1 66 ((31 : Nat) : Int) = g179 := by rw [em259]; exact (congrFun (zu_ne (by decide)) _).trans w246
        have w262 : m259.1 66 ((30 : Nat) : Int) = g159 := by rw [em259]; exact (congrFun (zu_ne (by decide)) _).trans w247
        have w263 : m259.1 66 ((33 : Nat) : Int) = g180 := by rw [em259]; exact (congrFun (zu_ne (by decide)) _).trans w248
        have w264 : m259.1 66 ((34 : Nat) : Int) = g181 := by rw [em259]; exact (congrFun (zu_ne (by decide)) _).trans w249
        have w265 : m259.1 66 ((32 : Nat) : Int) = g182 := by rw [em259]; exact (congrFun (zu_ne (by decide)) _).trans w250
        have w266 : m259.1 66 ((26 : Nat) : Int) = g163 := by rw [em259]; exact (congrFun (zu_ne (by decide)) _).trans w251
        have w267 : m259.1 66 ((27 : Nat) : Int) = (x243 + 1) := by rw [em259]; exact (congrFun (zu_ne (by decide)) _).trans w252
        have w268 : m259.1 66 ((24 : Nat) : Int) = g165 := by rw [em259]; exact (congrFun (zu_ne (by decide)) _).trans w253
        have w269 : m259.1 66 ((25 : Nat) : Int) = g166 := by rw [em259]; exact (congrFun (zu_ne (by decide)) _).trans w254
        clear w246 w247 w248 w249 w250 w251 w252 w253 w254
        have ot270 := zOt_w ot255 em259 (by have hk : (21 : Int) ≤ (x257 + v1) := (by omega); refine ⟨fun h => ?_, fun h => ?_, fun h => ?_, fun h => ?_, fun h => ?_⟩ <;> first | exact hk | (exfalso; revert h; decide))
        have on271 := zOn_w on256 em259 ⟨fun h => absurd h (by decide), fun h => absurd h (by decide), fun h => absurd h (by decide)⟩
        have NJ : j198 = ynm τ (ynx τ pq) := rLx_n L2 ((rKd_n KK2).mp (by omega)) p199
        have NP := N2.1.2.2.2.1
        have N3 : rNu m259 (yap Bq (ynm τ (ynx τ pq)).toInt) := rNu_ap N2 OQ.symm ⟨by omega, by omega⟩ (fun k => by rw [em259, zu_ne (by decide), em244, zu_ne (by decide), em230, zu_ne (by decide), em215, zu_ne (by decide), em200, zu_if]; by_cases hk : k = 80 + Bq.1 0 1; (rw [if_pos hk, if_pos (by omega)]; rw [NJ]); (rw [if_neg hk, if_neg (by omega)])) (fun k => by rw [em259, zu_ne (by decide), em244, zu_ne (by decide), em230, zu_if, em215, zu_ne (by decide), em200, zu_ne (by decide)]; by_cases hk : k = 80 + Bq.1 0 1; (rw [if_pos hk, if_pos (by omega)]); (rw [if_neg hk, if_neg (by omega)])) (fun k => by rw [em259, zu_if, em244, zu_ne (by decide), em230, zu_ne (by decide), em215, zu_ne (by decide), em200, zu_ne (by decide)]; by_cases hk : k = 21 + v1; (rw [if_pos hk, if_pos (by omega)]; omega); (rw [if_neg hk, if_neg (by omega)])) (by rw [em259, zu_ne (by decide), em244, zu_ne (by decide), em230, zu_ne (by decide), em215, zu_ne (by decide), em200, zu_ne (by decide)]) (by rw [em259, zu_ne (by decide), em244, zu_ne (by decide), em230, zu_ne (by decide), em215, zu_ne (by decide), em200, zu_ne (by decide)]) (by rw [em259, zu_ne (by decide), em244, zu_ne (by decide), em230, zu_ne (by decide), em215, zu_ne (by decide), em200, zu_ne (by decide)]) (fun k hk => by rw [em259, zu_ne (by decide), em244, zu_nk (by omega), em230, zu_ne (by decide), em215, zu_ne (by decide), em200, zu_ne (by decide)]) (by rw [em259, zu_ne (by decide), em244, zu_at]; omega)
        have L3 : rLx m259 τ (ynx τ pq) := rLx_f L2 (by rw [em259, zu_ne (by decide), em244, zu_ne (by decide), em230, zu_ne (by decide), em215, zu_ne (by decide), em200, zu_ne (by decide)]) (fun k a b => by rw [em259, zu_ne (by decide), em244, zu_nk (by omega), em230, zu_ne (by decide), em215, zu_ne (by decide), em200, zu_ne (by decide)])
        have HD0b := zHd_fr (m' := m200) HD0 (by rw [em200]; exact zu_ne (by decide)) (by rw [em200]; exact zu_ne (by decide)) (by rw [em200]; exact zu_ne (by decide)) (by rw [em200]; exact zu_ne (by decide)) (by rw [em200, zu_ne (by decide)]) (by rw [em200, zu_ne (by decide)])
        have L7 : m200.1 77 (21 + v1) = m167.1 77 (21 + v1) ∧ m200.1 66 ((27 : Nat) : Int) = m167.1 66 ((27 : Nat) : Int) := ⟨by rw [em200, zu_ne (by decide)], by rw [em200, zu_ne (by decide)]⟩
        have HD2 := zHd_s HD0b (by omega) em215 em230 em244 em259 (by omega) (by omega) (by omega) (by omega)
        refine ⟨yk_X9_pass, ym_X9_pass hg d (by omega), rfl, (by (try rw [w261]) <;> (try rw [w262]) <;> (try rw [w263]) <;> (try rw [w264]) <;> (try rw [w265]) <;> (try rw [w266]) <;> (try rw [w267]) <;> (try rw [w268]) <;> (try rw [w269]) <;> (try rw [wg158]) <;> (try rw [wg159]) <;> (try rw [wg160]) <;> (try rw [wg161]) <;> (try rw [wg162]) <;> (try rw [wg163]) <;> (try rw [wg164]) <;> (try rw [wg165]) <;> (try rw [wg166]) <;> (try rw [wg1]) <;> (try rw [wg2]) <;> (try rw [wg3]) <;> (try rw [wg4]) <;> (try rw [wg5]) <;> (try rw [wg6]) <;> (try rw [wg7]) <;> (try rw [wg8]) <;> (try rw [wg9]) <;> omega), ?_⟩
        intro m272 qm272 p273 p274 p275 p276 p277
        have z278 := zfx_t z260 qm272 rfl rfl
        have w279 : m272.1 66 ((30 : Nat) : Int) = g159 := (qm272.2.1 30 rfl).trans w262
        have w280 : m272.1 66 ((26 : Nat) : Int) = g163 := (qm272.2.1 26 rfl).trans w266
        have w281 : m272.1 66 ((27 : Nat) : Int) = (x243 + 1) := (qm272.2.1 27 rfl).trans w267
        have w282 : m272.1 66 ((24 : Nat) : Int) = g165 := (qm272.2.1 24 rfl).trans w268
        have w283 : m272.1 66 ((25 : Nat) : Int) = g166 := (qm272.2.1 25 rfl).trans w269
        obtain ⟨g284, wg284⟩ : ∃ z : Int, m272.1 66 ((31 : Nat) : Int) = z := ⟨_, rfl⟩
        obtain ⟨g285, wg285⟩ : ∃ z : Int, m272.1 66 ((33 : Nat) : Int) = z := ⟨_, rfl⟩
        obtain ⟨g286, wg286⟩ : ∃ z : Int, m272.1 66 ((34 : Nat) : Int) = z := ⟨_, rfl⟩
        obtain ⟨g287, wg287⟩ : ∃ z : Int, m272.1 66 ((32 : Nat) : Int) = z := ⟨_, rfl⟩
        try rw [wg284] at p273
        try rw [w279] at p273
        try rw [wg285] at p273
        try rw [wg286] at p273
        try rw [wg287] at p273
        try rw [w280] at p273
        try rw [w281] at p273
        try rw [w282] at p273
        try rw [w283] at p273
        try rw [w261] at p273
        try rw [w262] at p273
        try rw [w263] at p273
        try rw [w264] at p273
        try rw [w265] at p273
        try rw [w266] at p273
        try rw [w267] at p273
        try rw [w268] at p273
        try rw [w269] at p273
        try rw [wg1] at p273
        try rw [wg2] at p273
        try rw [wg3] at p273
        try rw [wg4] at p273
        try rw [wg5] at p273
        try rw [wg6] at p273
        try rw [wg7] at p273
        try rw [wg8] at p273
        try rw [wg9] at p273
        try rw [wg284] at p274
        try rw [w279] at p274
        try rw [wg285] at p274
        try rw [wg286] at p274
        try rw [wg287] at p274
        try rw [w280] at p274
        try rw [w281] at p274
        try rw [w282] at p274
        try rw [w283] at p274
        try rw [w261] at p274
        try rw [w262] at p274
        try rw [w263] at p274
        try rw [w264] at p274
        try rw [w265] at p274
        try rw [w266] at p274
        try rw [w267] at p274
        try rw [w268] at p274
        try rw [w269] at p274
        try rw [wg1] at p274
        try rw [wg2] at p274
        try rw [wg3] at p274
        try rw [wg4] at p274
        try rw [wg5] at p274
        try rw [wg6] at p274
        try rw [wg7] at p274
        try rw [wg8] at p274
        try rw [wg9] at p274
        try rw [wg284] at p275
        try rw [w279] at p275
        try rw [wg285] at p275
        try rw [wg286] at p275
        try rw [wg287] at p275
        try rw [w280] at p275
        try rw [w281] at p275
        try rw [w282] at p275
        try rw [w283] at p275
        try rw [w261] at p275
        try rw [w262] at p275
        try rw [w263] at p275
        try rw [w264] at p275
        try rw [w265] at p275
        try rw [w266] at p275
        try rw [w267] at p275
        try rw [w268] at p275
        try rw [w269] at p275
        try rw [wg1] at p275
        try rw [wg2] at p275
        try rw [wg3] at p275
        try rw [wg4] at p275
        try rw [wg5] at p275
        try rw [wg6] at p275
        try rw [wg7] at p275
        try rw [wg8] at p275
        try rw [wg9] at p275
        try rw [wg284] at p276
        try rw [w279] at p276
        try rw [wg285] at p276
        try rw [wg286] at p276
        try rw [wg287] at p276
        try rw [w280] at p276
        try rw [w281] at p276
        try rw [w282] at p276
        try rw [w283] at p276
        try rw [w261] at p276
        try rw [w262] at p276
        try rw [w263] at p276
        try rw [w264] at p276
        try rw [w265] at p276
        try rw [w266] at p276
        try rw [w267] at p276
        try rw [w268] at p276
        try rw [w269] at p276
        try rw [wg1] at p276
        try rw [wg2] at p276
        try rw [wg3] at p276
        try rw [wg4] at p276
        try rw [wg5] at p276
        try rw [wg6] at p276
        try rw [wg7] at p276
        try rw [wg8] at p276
        try rw [wg9] at p276
        clear w261 w262 w263 w264 w265 w266 w267 w268 w269
        have ot288 := zOt_fr ot270 (qm272.1 76 (by decide) rfl) (qm272.1 77 (by decide) rfl) (qm272.1 78 (by decide) rfl) (qm272.1 79 (by decide) rfl) (qm272.1 80 (by decide) rfl) (qm272.1 83 (by decide) rfl) (qm272.1 84 (by decide) rfl)
        have on289 := zOn_fr on271 (qm272.1 3000075 (by decide) rfl) (qm272.1 3000081 (by decide) rfl) (qm272.1 82 (by decide) rfl)
        have HD3 := zHd_fr HD2 (qm272.1 76 (by decide) rfl) (qm272.1 77 (by decide) rfl) (qm272.1 79 (by decide) rfl) (qm272.1 84 (by decide) rfl) (qm272.2.1 26 rfl) (qm272.2.1 27 rfl)
        have ZL : zrm m272 < zrm m0 := (by unfold zrm; simp only [wg284, w279, wg285, wg286, wg287, w280, w281, w282, w283, wg158, wg159, wg160, wg161, wg162, wg163, wg164, wg165, wg166, wg1, wg2, wg3, wg4, wg5, wg6, wg7, wg8, wg9]; (repeat' split) <;> omega)
        have L4 := rLx_p L3 (qm272.1 85 (by decide) rfl) (qm272.2.1 30 rfl) p277
        have N4 := rNu_z N3 qm272 ⟨rfl, rfl, rfl, rfl, rfl, rfl⟩ ⟨rfl, rfl, rfl, rfl, rfl, rfl⟩
        have KK4 := rkd L4 rfl
        have KT4 := wg287
        have V4 := yap_v Bq (ynm τ (ynx τ pq)).toInt
        intro x290 hx290 kx290 lx290
        rw [wg287] at hx290
        refine And.intro ⟨⟨by omega, by omega⟩, ⟨by omega, by omega⟩⟩ (And.intro (fun c291 => ?_) (fun c291 => ?_))
        · refine Exists.intro (Int.toNat (zrm m272)) (And.intro (zrN ZL (zrm_0 (by (try rw [wg284]) <;> (try rw [w279]) <;> (try rw [wg285]) <;> (try rw [wg286]) <;> (try rw [wg287]) <;> (try rw [w280]) <;> (try rw [w281]) <;> (try rw [w282]) <;> (try rw [w283]) <;> (try rw [wg158]) <;> (try rw [wg159]) <;> (try rw [wg160]) <;> (try rw [wg161]) <;> (try rw [wg162]) <;> (try rw [wg163]) <;> (try rw [wg164]) <;> (try rw [wg165]) <;> (try rw [wg166]) <;> (try rw [wg1]) <;> (try rw [wg2]) <;> (try rw [wg3]) <;> (try rw [wg4]) <;> (try rw [wg5]) <;> (try rw [wg6]) <;> (try rw [wg7]) <;> (try rw [wg8]) <;> (try rw [wg9]) <;> omega))) ?_)
          exact ⟨_, rfl, z278, ⟨by omega, by omega⟩, (by (try rw [wg284]) <;> (try rw [w279]) <;> (try rw [wg285]) <;> (try rw [wg286]) <;> (try rw [wg287]) <;> (try rw [w280]) <;> (try rw [w281]) <;> (try rw [w282]) <;> (try rw [w283]) <;> (try rw [wg158]) <;> (try rw [wg159]) <;> (try rw [wg160]) <;> (try rw [wg161]) <;> (try rw [wg162]) <;> (try rw [wg163]) <;> (try rw [wg164]) <;> (try rw [wg165]) <;> (try rw [wg166]) <;> (try rw [wg1]) <;> (try rw [wg2]) <;> (try rw [wg3]) <;> (try rw [wg4]) <;> (try rw [wg5]) <;> (try rw [wg6]) <;> (try rw [wg7]) <;> (try rw [wg8]) <;> (try rw [wg9]) <;> omega), (by (try rw [wg284]) <;> (try rw [w279]) <;> (try rw [wg285]) <;> (try rw [wg286]) <;> (try rw [wg287]) <;> (try rw [w280]) <;> (try rw [w281]) <;> (try rw [w282]) <;> (try rw [w283]) <;> (try rw [wg158]) <;> (try rw [wg159]) <;> (try rw [wg160]) <;> (try rw [wg161]) <;> (try rw [wg162]) <;> (try rw [wg163]) <;> (try rw [wg164]) <;> (try rw [wg165]) <;> (try rw [wg166]) <;> (try rw [wg1]) <;> (try rw [wg2]) <;> (try rw [wg3]) <;> (try rw [wg4]) <;> (try rw [wg5]) <;> (try rw [wg6]) <;> (try rw [wg7]) <;> (try rw [wg8]) <;> (try rw [wg9]) <;> omega), ⟨rfl, i2b⟩, (by (try rw [wg284]) <;> (try rw [w279]) <;> (try rw [wg285]) <;> (try rw [wg286]) <;> (try rw [wg287]) <;> (try rw [w280]) <;> (try rw [w281]) <;> (try rw [w282]) <;> (try rw [w283]) <;> (try rw [wg158]) <;> (try rw [wg159]) <;> (try rw [wg160]) <;> (try rw [wg161]) <;> (try rw [wg162]) <;> (try rw [wg163]) <;> (try rw [wg164]) <;> (try rw [wg165]) <;> (try rw [wg166]) <;> (try rw [wg1]) <;> (try rw [wg2]) <;> (try rw [wg3]) <;> (try rw [wg4]) <;> (try rw [wg5]) <;> (try rw [wg6]) <;> (try rw [wg7]) <;> (try rw [wg8]) <;> (try rw [wg9]) <;> omega), HD3, (Int.lt_trans ZL i5), (Or.inr (by (try rw [wg284]) <;> (try rw [w279]) <;> (try rw [wg285]) <;> (try rw [wg286]) <;> (try rw [wg287]) <;> (try rw [w280]) <;> (try rw [w281]) <;> (try rw [w282]) <;> (try rw [w283]) <;> (try rw [wg158]) <;> (try rw [wg159]) <;> (try rw [wg160]) <;> (try rw [wg161]) <;> (try rw [wg162]) <;> (try rw [wg163]) <;> (try rw [wg164]) <;> (try rw [wg165]) <;> (try rw [wg166]) <;> (try rw [wg1]) <;> (try rw [wg2]) <;> (try rw [wg3]) <;> (try rw [wg4]) <;> (try rw [wg5]) <;> (try rw [wg6]) <;> (try rw [wg7]) <;> (try rw [wg8]) <;> (try rw [wg9]) <;> omega)), ot288, ⟨_, _, yR_s RQ (ym2_c ((rKd_n KK2).mp (by omega)) (by omega) (by rw [OQ]; omega) ((rKd_s 44 KK4 (by decide)).mp (by omega))), L4, N4, by rw [V4.1.2.2.2]; exact OQ, by rw [V4.1.1]; exact CQ, EQ2⟩, on289, rfl⟩
        · refine ⟨yk_X9_want, ym_X9_want hg d (by omega), _, rfl, ⟨by omega, by omega⟩, (by (try rw [wg284]) <;> (try rw [w279]) <;> (try rw [wg285]) <;> (try rw [wg286]) <;> (try rw [wg287]) <;> (try rw [w280]) <;> (try rw [w281]) <;> (try rw [w282]) <;> (try rw [w283]) <;> (try rw [wg158]) <;> (try rw [wg159]) <;> (try rw [wg160]) <;> (try rw [wg161]) <;> (try rw [wg162]) <;> (try rw [wg163]) <;> (try rw [wg164]) <;> (try rw [wg165]) <;> (try rw [wg166]) <;> (try rw [wg1]) <;> (try rw [wg2]) <;> (try rw [wg3]) <;> (try rw [wg4]) <;> (try rw [wg5]) <;> (try rw [wg6]) <;> (try rw [wg7]) <;> (try rw [wg8]) <;> (try rw [wg9]) <;> omega), ?_⟩
          intro x292 m293 qm293 kx292 lx292 p294 p295 p296 p297 p298
          have z299 := zfx_t z278 qm293 rfl rfl
          have w300 : m293.1 66 ((30 : Nat) : Int) = g159 := (qm293.2.1 30 rfl).trans w279
          have w301 : m293.1 66 ((26 : Nat) : Int) = g163 := (qm293.2.1 26 rfl).trans w280
          have w302 : m293.1 66 ((27 : Nat) : Int) = (x243 + 1) := (qm293.2.1 27 rfl).trans w281
          have w303 : m293.1 66 ((24 : Nat) : Int) = g165 := (qm293.2.1 24 rfl).trans w282
          have w304 : m293.1 66 ((25 : Nat) : Int) = g166 := (qm293.2.1 25 rfl).trans w283
          obtain ⟨g305, wg305⟩ : ∃ z : Int, m293.1 66 ((31 : Nat) : Int) = z := ⟨_, rfl⟩
          obtain ⟨g306, wg306⟩ : ∃ z : Int, m293.1 66 ((33 : Nat) : Int) = z := ⟨_, rfl⟩
          obtain ⟨g307, wg307⟩ : ∃ z : Int, m293.1 66 ((34 : Nat) : Int) = z := ⟨_, rfl⟩
          obtain ⟨g308, wg308⟩ : ∃ z : Int, m293.1 66 ((32 : Nat) : Int) = z := ⟨_, rfl⟩
          try rw [wg305] at p294
          try rw [w300] at p294
          try rw [wg306] at p294
          try rw [wg307] at p294
          try rw [wg308] at p294
          try rw [w301] at p294
          try rw [w302] at p294
          try rw [w303] at p294
          try rw [w304] at p294
          try rw [wg284] at p294
          try rw [w279] at p294
          try rw [wg285] at p294
          try rw [wg286] at p294
          try rw [wg287] at p294
          try rw [w280] at p294
          try rw [w281] at p294
          try rw [w282] at p294
          try rw [w283] at p294
          try rw [wg1] at p294
          try rw [wg2] at p294
          try rw [wg3] at p294
          try rw [wg4] at p294
          try rw [wg5] at p294
          try rw [wg6] at p294
          try rw [wg7] at p294
          try rw [wg8] at p294
          try rw [wg9] at p294
          try rw [wg305] at p295
          try rw [w300] at p295
          try rw [wg306] at p295
          try rw [wg307] at p295
          try rw [wg308] at p295
          try rw [w301] at p295
          try rw [w302] at p295
          try rw [w303] at p295
          try rw [w304] at p295
          try rw [wg284] at p295
          try rw [w279] at p295
          try rw [wg285] at p295
          try rw [wg286] at p295
          try rw [wg287] at p295
          try rw [w280] at p295
          try rw [w281] at p295
          try rw [w282] at p295
          try rw [w283] at p295
          try rw [wg1] at p295
          try rw [wg2] at p295
          try rw [wg3] at p295
          try rw [wg4] at p295
          try rw [wg5] at p295
          try rw [wg6] at p295
          try rw [wg7] at p295
          try rw [wg8] at p295
          try rw [wg9] at p295
          try rw [wg305] at p296
          try rw [w300] at p296
          try rw [wg306] at p296
          try rw [wg307] at p296
          try rw [wg308] at p296
          try rw [w301] at p296
          try rw [w302] at p296
          try rw [w303] at p296
          try rw [w304] at p296
          try rw [wg284] at p296
          try rw [w279] at p296
          try rw [wg285] at p296
          try rw [wg286] at p296
          try rw [wg287] at p296
          try rw [w280] at p296
          try rw [w281] at p296
          try rw [w282] at p296
          try rw [w283] at p296
          try rw [wg1] at p296
          try rw [wg2] at p296
          try rw [wg3] at p296
          try rw [wg4] at p296
          try rw [wg5] at p296
          try rw [wg6] at p296
          try rw [wg7] at p296
          try rw [wg8] at p296
          try rw [wg9] at p296
          try rw [wg305] at p297
          try rw [w300] at p297
          try rw [wg306] at p297
          try rw [wg307] at p297
          try rw [wg308] at p297
          try rw [w301] at p297
          try rw [w302] at p297
          try rw [w303] at p297
          try rw [w304] at p297
          try rw [wg284] at p297
          try rw [w279] at p297
          try rw [wg285] at p297
          try rw [wg286] at p297
          try rw [wg287] at p297
          try rw [w280] at p297
          try rw [w281] at p297
          try rw [w282] at p297
          try rw [w283] at p297
          try rw [wg1] at p297
          try rw [wg2] at p297
          try rw [wg3] at p297
          try rw [wg4] at p297
          try rw [wg5] at p297
          try rw [wg6] at p297
          try rw [wg7] at p297
          try rw [wg8] at p297
          try rw [wg9] at p297
          clear wg284 w279 wg285 wg286 wg287 w280 w281 w282 w283
          have ot309 := zOt_fr ot288 (qm293.1 76 (by decide) rfl) (qm293.1 77 (by decide) rfl) (qm293.1 78 (by decide) rfl) (qm293.1 79 (by decide) rfl) (qm293.1 80 (by decide) rfl) (qm293.1 83 (by decide) rfl) (qm293.1 84 (by decide) rfl)
          have on310 := zOn_fr on289 (qm293.1 3000075 (by decide) rfl) (qm293.1 3000081 (by decide) rfl) (qm293.1 82 (by decide) rfl)
          have HD4 := zHd_fr HD3 (qm293.1 76 (by decide) rfl) (qm293.1 77 (by decide) rfl) (qm293.1 79 (by decide) rfl) (qm293.1 84 (by decide) rfl) (qm293.2.1 26 rfl) (qm293.2.1 27 rfl)
          have ZW : x292 = 1 → zrm m293 < zrm m0 := fun h => (by unfold zrm; simp only [wg305, w300, wg306, wg307, wg308, w301, w302, w303, w304, wg158, wg159, wg160, wg161, wg162, wg163, wg164, wg165, wg166, wg1, wg2, wg3, wg4, wg5, wg6, wg7, wg8, wg9]; (repeat' split) <;> omega)
          exact And.intro (zrtb (by omega)) (And.intro ⟨by omega, by omega⟩ (hQ _ _ z299 (by omega) (by omega) (by (try rw [wg305]) <;> (try rw [w300]) <;> (try rw [wg306]) <;> (try rw [wg307]) <;> (try rw [wg308]) <;> (try rw [w301]) <;> (try rw [w302]) <;> (try rw [w303]) <;> (try rw [w304]) <;> (try rw [wg158]) <;> (try rw [wg159]) <;> (try rw [wg160]) <;> (try rw [wg161]) <;> (try rw [wg162]) <;> (try rw [wg163]) <;> (try rw [wg164]) <;> (try rw [wg165]) <;> (try rw [wg166]) <;> (try rw [wg1]) <;> (try rw [wg2]) <;> (try rw [wg3]) <;> (try rw [wg4]) <;> (try rw [wg5]) <;> (try rw [wg6]) <;> (try rw [wg7]) <;> (try rw [wg8]) <;> (try rw [wg9]) <;> omega) (by (try rw [wg305]) <;> (try rw [w300]) <;> (try rw [wg306]) <;> (try rw [wg307]) <;> (try rw [wg308]) <;> (try rw [w301]) <;> (try rw [w302]) <;> (try rw [w303]) <;> (try rw [w304]) <;> (try rw [wg158]) <;> (try rw [wg159]) <;> (try rw [wg160]) <;> (try rw [wg161]) <;> (try rw [wg162]) <;> (try rw [wg163]) <;> (try rw [wg164]) <;> (try rw [wg165]) <;> (try rw [wg166]) <;> (try rw [wg1]) <;> (try rw [wg2]) <;> (try rw [wg3]) <;> (try rw [wg4]) <;> (try rw [wg5]) <;> (try rw [wg6]) <;> (try rw [wg7]) <;> (try rw [wg8]) <;> (try rw [wg9]) <;> omega) (fun h => ⟨by omega, HD4, Int.lt_trans (ZW h) i5⟩) ot309 (by rcases p298 with h0 | h0; exact Or.inl ⟨h0.1, rFa_t RQ (rFa_f L4 N4.1.2.2.2.2.2 (yR_s (yR_r τ _) (ym2_f ((rKd_n KK2).mp (by omega)) (by omega) (by rw [OQ]; omega) (fun h1 => h0.2.1 ((rKd_s 62 KK4 (by decide)).mpr h1)) (fun h1 => by have h2 := (rKd_s 44 KK4 (by decide)).mpr h1; omega))) h0.2.2)⟩; exact Or.inr ⟨h0.1, _, _, yR_s RQ (ym2_g ((rKd_n KK2).mp (by omega)) (by omega) (by rw [OQ]; omega) ((rKd_s 62 KK4 (by decide)).mp h0.2.1)), rLx_p L4 (qm293.1 85 (by decide) rfl) (qm293.2.1 30 rfl) h0.2.2.1, (rNu_f N4 (fun j hj => qm293.1 j (by rcases hj with h | h | h | h | h | h <;> rw [h] <;> decide) (by rcases hj with h | h | h | h | h | h <;> rw [h] <;> rfl)) (fun k hk => by rcases hk with h | h | h | h | h | h <;> subst h <;> first | exact qm293.2.1 _ rfl | exact h0.2.2.2)), by rw [V4.1.2.2.2]; exact OQ, EQ2⟩) on310))
      · refine ⟨yk_X9_fail, ym_X9_fail hg d (by omega), _, rfl, ⟨by omega, by omega⟩, ?_⟩
        intro x311 m312 qm312 kx311 lx311 p313
        have z314 := zfx_t z173 qm312 rfl rfl
        have w315 : m312.1 66 ((31 : Nat) : Int) = g179 := (qm312.2.1 31 rfl).trans wg179
        have w316 : m312.1 66 ((30 : Nat) : Int) = g159 := (qm312.2.1 30 rfl).trans w174
        have w317 : m312.1 66 ((33 : Nat) : Int) = g180 := (qm312.2.1 33 rfl).trans wg180
        have w318 : m312.1 66 ((34 : Nat) : Int) = g181 := (qm312.2.1 34 rfl).trans wg181
        have w319 : m312.1 66 ((32 : Nat) : Int) = g182 := (qm312.2.1 32 rfl).trans wg182
        have w320 : m312.1 66 ((26 : Nat) : Int) = g163 := (qm312.2.1 26 rfl).trans w175
        have w321 : m312.1 66 ((27 : Nat) : Int) = g164 := (qm312.2.1 27 rfl).trans w176
        have w322 : m312.1 66 ((24 : Nat) : Int) = g165 := (qm312.2.1 24 rfl).trans w177
        have w323 : m312.1 66 ((25 : Nat) : Int) = g166 := (qm312.2.1 25 rfl).trans w178
        clear wg179 w174 wg180 wg181 wg182 w175 w176 w177 w178
        have ot324 := zOt_fr ot183 (qm312.1 76 (by decide) rfl) (qm312.1 77 (by decide) rfl) (qm312.1 78 (by decide) rfl) (qm312.1 79 (by decide) rfl) (qm312.1 80 (by decide) rfl) (qm312.1 83 (by decide) rfl) (qm312.1 84 (by decide) rfl)
        have on325 := zOn_fr on184 (qm312.1 3000075 (by decide) rfl) (qm312.1 3000081 (by decide) rfl) (qm312.1 82 (by decide) rfl)
        exact And.intro (zrtb (by omega)) (And.intro ⟨by omega, by omega⟩ (hQ _ _ z314 (by omega) (by omega) (by (try rw [w315]) <;> (try rw [w316]) <;> (try rw [w317]) <;> (try rw [w318]) <;> (try rw [w319]) <;> (try rw [w320]) <;> (try rw [w321]) <;> (try rw [w322]) <;> (try rw [w323]) <;> (try rw [wg158]) <;> (try rw [wg159]) <;> (try rw [wg160]) <;> (try rw [wg161]) <;> (try rw [wg162]) <;> (try rw [wg163]) <;> (try rw [wg164]) <;> (try rw [wg165]) <;> (try rw [wg166]) <;> (try rw [wg1]) <;> (try rw [wg2]) <;> (try rw [wg3]) <;> (try rw [wg4]) <;> (try rw [wg5]) <;> (try rw [wg6]) <;> (try rw [wg7]) <;> (try rw [wg8]) <;> (try rw [wg9]) <;> omega) (by (try rw [w315]) <;> (try rw [w316]) <;> (try rw [w317]) <;> (try rw [w318]) <;> (try rw [w319]) <;> (try rw [w320]) <;> (try rw [w321]) <;> (try rw [w322]) <;> (try rw [w323]) <;> (try rw [wg158]) <;> (try rw [wg159]) <;> (try rw [wg160]) <;> (try rw [wg161]) <;> (try rw [wg162]) <;> (try rw [wg163]) <;> (try rw [wg164]) <;> (try rw [wg165]) <;> (try rw [wg166]) <;> (try rw [wg1]) <;> (try rw [wg2]) <;> (try rw [wg3]) <;> (try rw [wg4]) <;> (try rw [wg5]) <;> (try rw [wg6]) <;> (try rw [wg7]) <;> (try rw [wg8]) <;> (try rw [wg9]) <;> omega) (fun h => by exfalso; omega) ot324 (Or.inl ⟨by omega, rFa_t RQ (rFa_f L2 N2.1.2.2.2.2.2 (yR_s (yR_r τ _) (ym2_6 ((rKd_n KK2).mp (by omega)) (by omega) (by rw [OQ]; omega))) p313)⟩) on325))
    · refine ⟨yk_X9_fail, ym_X9_fail hg d (by omega), _, rfl, ⟨by omega, by omega⟩, ?_⟩
      intro x326 m327 qm327 kx326 lx326 p328
      have z329 := zfx_t z173 qm327 rfl rfl
      have w330 : m327.1 66 ((31 : Nat) : Int) = g179 := (qm327.2.1 31 rfl).trans wg179
      have w331 : m327.1 66 ((30 : Nat) : Int) = g159 := (qm327.2.1 30 rfl).trans w174
      have w332 : m327.1 66 ((33 : Nat) : Int) = g180 := (qm327.2.1 33 rfl).trans wg180
      have w333 : m327.1 66 ((34 : Nat) : Int) = g181 := (qm327.2.1 34 rfl).trans wg181
      have w334 : m327.1 66 ((32 : Nat) : Int) = g182 := (qm327.2.1 32 rfl).trans wg182
      have w335 : m327.1 66 ((26 : Nat) : Int) = g163 := (qm327.2.1 26 rfl).trans w175
      have w336 : m327.1 66 ((27 : Nat) : Int) = g164 := (qm327.2.1 27 rfl).trans w176
      have w337 : m327.1 66 ((24 : Nat) : Int) = g165 := (qm327.2.1 24 rfl).trans w177
      have w338 : m327.1 66 ((25 : Nat) : Int) = g166 := (qm327.2.1 25 rfl).trans w178
      clear wg179 w174 wg180 wg181 wg182 w175 w176 w177 w178
      have ot339 := zOt_fr ot183 (qm327.1 76 (by decide) rfl) (qm327.1 77 (by decide) rfl) (qm327.1 78 (by decide) rfl) (qm327.1 79 (by decide) rfl) (qm327.1 80 (by decide) rfl) (qm327.1 83 (by decide) rfl) (qm327.1 84 (by decide) rfl)
      have on340 := zOn_fr on184 (qm327.1 3000075 (by decide) rfl) (qm327.1 3000081 (by decide) rfl) (qm327.1 82 (by decide) rfl)
      exact And.intro (zrtb (by omega)) (And.intro ⟨by omega, by omega⟩ (hQ _ _ z329 (by omega) (by omega) (by (try rw [w330]) <;> (try rw [w331]) <;> (try rw [w332]) <;> (try rw [w333]) <;> (try rw [w334]) <;> (try rw [w335]) <;> (try rw [w336]) <;> (try rw [w337]) <;> (try rw [w338]) <;> (try rw [wg158]) <;> (try rw [wg159]) <;> (try rw [wg160]) <;> (try rw [wg161]) <;> (try rw [wg162]) <;> (try rw [wg163]) <;> (try rw [wg164]) <;> (try rw [wg165]) <;> (try rw [wg166]) <;> (try rw [wg1]) <;> (try rw [wg2]) <;> (try rw [wg3]) <;> (try rw [wg4]) <;> (try rw [wg5]) <;> (try rw [wg6]) <;> (try rw [wg7]) <;> (try rw [wg8]) <;> (try rw [wg9]) <;> omega) (by (try rw [w330]) <;> (try rw [w331]) <;> (try rw [w332]) <;> (try rw [w333]) <;> (try rw [w334]) <;> (try rw [w335]) <;> (try rw [w336]) <;> (try rw [w337]) <;> (try rw [w338]) <;> (try rw [wg158]) <;> (try rw [wg159]) <;> (try rw [wg160]) <;> (try rw [wg161]) <;> (try rw [wg162]) <;> (try rw [wg163]) <;> (try rw [wg164]) <;> (try rw [wg165]) <;> (try rw [wg166]) <;> (try rw [wg1]) <;> (try rw [wg2]) <;> (try rw [wg3]) <;> (try rw [wg4]) <;> (try rw [wg5]) <;> (try rw [wg6]) <;> (try rw [wg7]) <;> (try rw [wg8]) <;> (try rw [wg9]) <;> omega) (fun h => by exfalso; omega) ot339 (Or.inl ⟨by omega, rFa_t RQ (rFa_f L2 N2.1.2.2.2.2.2 (yR_s (yR_r τ _) (ym2_3 ((rKd_n KK2).mp (by omega)) (by omega))) p328)⟩) on340))
  · refine ⟨yk_X9_fail, ym_X9_fail hg d (by omega), _, rfl, ⟨by omega, by omega⟩, ?_⟩
    intro x341 m342 qm342 kx341 lx341 p343
    have z344 := zfx_t z173 qm342 rfl rfl
    have w345 : m342.1 66 ((31 : Nat) : Int) = g179 := (qm342.2.1 31 rfl).trans wg179
    have w346 : m342.1 66 ((30 : Nat) : Int) = g159 := (qm342.2.1 30 rfl).trans w174
    have w347 : m342.1 66 ((33 : Nat) : Int) = g180 := (qm342.2.1 33 rfl).trans wg180
    have w348 : m342.1 66 ((34 : Nat) : Int) = g181 := (qm342.2.1 34 rfl).trans wg181
    have w349 : m342.1 66 ((32 : Nat) : Int) = g182 := (qm342.2.1 32 rfl).trans wg182
    have w350 : m342.1 66 ((26 : Nat) : Int) = g163 := (qm342.2.1 26 rfl).trans w175
    have w351 : m342.1 66 ((27 : Nat) : Int) = g164 := (qm342.2.1 27 rfl).trans w176
    have w352 : m342.1 66 ((24 : Nat) : Int) = g165 := (qm342.2.1 24 rfl).trans w177
    have w353 : m342.1 66 ((25 : Nat) : Int) = g166 := (qm342.2.1 25 rfl).trans w178
    clear wg179 w174 wg180 wg181 wg182 w175 w176 w177 w178
    have ot354 := zOt_fr ot183 (qm342.1 76 (by decide) rfl) (qm342.1 77 (by decide) rfl) (qm342.1 78 (by decide) rfl) (qm342.1 79 (by decide) rfl) (qm342.1 80 (by decide) rfl) (qm342.1 83 (by decide) rfl) (qm342.1 84 (by decide) rfl)
    have on355 := zOn_fr on184 (qm342.1 3000075 (by decide) rfl) (qm342.1 3000081 (by decide) rfl) (qm342.1 82 (by decide) rfl)
    exact And.intro (zrtb (by omega)) (And.intro ⟨by omega, by omega⟩ (hQ _ _ z344 (by omega) (by omega) (by (try rw [w345]) <;> (try rw [w346]) <;> (try rw [w347]) <;> (try rw [w348]) <;> (try rw [w349]) <;> (try rw [w350]) <;> (try rw [w351]) <;> (try rw [w352]) <;> (try rw [w353]) <;> (try rw [wg158]) <;> (try rw [wg159]) <;> (try rw [wg160]) <;> (try rw [wg161]) <;> (try rw [wg162]) <;> (try rw [wg163]) <;> (try rw [wg164]) <;> (try rw [wg165]) <;> (try rw [wg166]) <;> (try rw [wg1]) <;> (try rw [wg2]) <;> (try rw [wg3]) <;> (try rw [wg4]) <;> (try rw [wg5]) <;> (try rw [wg6]) <;> (try rw [wg7]) <;> (try rw [wg8]) <;> (try rw [wg9]) <;> omega) (by (try rw [w345]) <;> (try rw [w346]) <;> (try rw [w347]) <;> (try rw [w348]) <;> (try rw [w349]) <;> (try rw [w350]) <;> (try rw [w351]) <;> (try rw [w352]) <;> (try rw [w353]) <;> (try rw [wg158]) <;> (try rw [wg159]) <;> (try rw [wg160]) <;> (try rw [wg161]) <;> (try rw [wg162]) <;> (try rw [wg163]) <;> (try rw [wg164]) <;> (try rw [wg165]) <;> (try rw [wg166]) <;> (try rw [wg1]) <;> (try rw [wg2]) <;> (try rw [wg3]) <;> (try rw [wg4]) <;> (try rw [wg5]) <;> (try rw [wg6]) <;> (try rw [wg7]) <;> (try rw [wg8]) <;> (try rw [wg9]) <;> omega) (fun h => by exfalso; omega) ot354 (Or.inl ⟨by omega, rFa_t RQ (rFa_f L2 N2.1.2.2.2.2.2 (yR_s (yR_r τ _) (ym2_2 (fun h0 => by have h1 := (rKd_n KK2).mpr h0; omega))) p343)⟩) on355))
