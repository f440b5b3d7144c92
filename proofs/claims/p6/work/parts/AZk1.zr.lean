def yk_X9_readHead : zC := fun As μ Q => ∃ (a1 : Int) (τ : yT) (p : Int) (B : yB), As = [.inr (.inr (66, 66)), .inl a1] ∧ (1 ≤ a1 ∧ a1 ≤ 21) ∧ (0 ≤ μ.1 66 ((33 : Nat) : Int) ∧ 0 ≤ μ.1 66 ((34 : Nat) : Int) ∧ μ.1 66 ((33 : Nat) : Int) + μ.1 66 ((34 : Nat) : Int) ≤ μ.1 66 ((31 : Nat) : Int) ∧ μ.1 66 ((31 : Nat) : Int) ≤ μ.1 66 ((30 : Nat) : Int) ∧ μ.1 66 ((30 : Nat) : Int) ≤ 800) ∧ (μ.1 66 ((24 : Nat) : Int) = 21 ∧ μ.1 66 ((25 : Nat) : Int) = 80 ∧ μ.1 66 ((26 : Nat) : Int) = a1) ∧ (0 ≤ μ.1 66 ((27 : Nat) : Int) ∧ μ.1 66 ((27 : Nat) : Int) ≤ 4 * (a1 - 1)) ∧ (rLx μ τ p) ∧ (rNu μ B) ∧ (yInv (0, p, 0, [], B)) ∧ (∀ (v : Int) (μ' : zM), zfx [76, 77, 79, 82, 84, 3000075, 3000081] [26, 27, 31, 32, 33, 34, 35, 36] μ μ' → 0 ≤ v → v ≤ 1 → (0 ≤ μ'.1 66 ((33 : Nat) : Int) ∧ 0 ≤ μ'.1 66 ((34 : Nat) : Int) ∧ μ'.1 66 ((33 : Nat) : Int) + μ'.1 66 ((34 : Nat) : Int) ≤ μ'.1 66 ((31 : Nat) : Int) ∧ μ'.1 66 ((31 : Nat) : Int) ≤ μ'.1 66 ((30 : Nat) : Int) ∧ μ'.1 66 ((30 : Nat) : Int) ≤ 800) → (μ'.1 66 ((30 : Nat) : Int) = μ.1 66 ((30 : Nat) : Int)) → (v = 1 → a1 ≤ 20 ∧ zHd μ μ' a1 ∧ zrm μ' < zrm μ) → (zOt μ μ') → ((v = 0 ∧ rFa τ (0, p, 0, [], B) μ') ∨ (v = 1 ∧ ∃ p' B', yR τ (0, p, 0, [], B) (3, p', 0, [], B') ∧ rLx μ' τ p' ∧ rNu μ' B' ∧ B'.1 0 3 = a1 ∧ B'.2 = B.2)) → Q (some (.inl v)) μ')
abbrev yi_X9_readHead (μ : zM) (a1 : Int) (τ : yT) (p : Int) (B : yB) : Nat → List zV → zM → Nat → Prop := fun pc vs μ' n => ∃ (v1 : Int), vs = [.inr (.inr (66, 66)), .inl v1] ∧ zfx [76, 77, 79, 82, 84, 3000075, 3000081] [26, 27, 31, 32, 33, 34, 35, 36] μ μ' ∧ (1 ≤ v1 ∧ v1 ≤ 20) ∧ (0 ≤ μ'.1 66 ((33 : Nat) : Int) ∧ 0 ≤ μ'.1 66 ((34 : Nat) : Int) ∧ μ'.1 66 ((33 : Nat) : Int) + μ'.1 66 ((34 : Nat) : Int) ≤ μ'.1 66 ((31 : Nat) : Int) ∧ μ'.1 66 ((31 : Nat) : Int) ≤ μ'.1 66 ((30 : Nat) : Int) ∧ μ'.1 66 ((30 : Nat) : Int) ≤ 800) ∧ (μ'.1 66 ((30 : Nat) : Int) = μ.1 66 ((30 : Nat) : Int)) ∧ (v1 = a1 ∧ a1 ≤ 20) ∧ (μ'.1 66 ((24 : Nat) : Int) = 21 ∧ μ'.1 66 ((25 : Nat) : Int) = 80) ∧ (zHd μ μ' a1) ∧ (zrm μ' < zrm μ) ∧ (μ'.1 66 ((32 : Nat) : Int) = 60 ∨ μ'.1 66 ((32 : Nat) : Int) = 44) ∧ (zOt μ μ') ∧ (∃ pq Bq, yR τ (0, p, 0, [], B) (2, pq, 0, [], Bq) ∧ rLx μ' τ pq ∧ rNu μ' Bq ∧ Bq.1 0 3 = a1 ∧ Bq.1 0 0 = a1 + 1 ∧ Bq.2 = B.2) ∧ n = (Int.toNat (zrm μ'))
set_option maxHeartbeats 4000000 in
theorem ym_X9_readHead_128 {g : zΓ} (hg : zg g) (d : Nat) (hd : 5 ≤ d + 1) (μ : zM) (Q : Option zV → zM → Prop) (a1 : Int) (τ : yT) (p : Int) (B : yB) (ha1 : (1 ≤ a1 ∧ a1 ≤ 21)) (hp0 : (0 ≤ μ.1 66 ((33 : Nat) : Int) ∧ 0 ≤ μ.1 66 ((34 : Nat) : Int) ∧ μ.1 66 ((33 : Nat) : Int) + μ.1 66 ((34 : Nat) : Int) ≤ μ.1 66 ((31 : Nat) : Int) ∧ μ.1 66 ((31 : Nat) : Int) ≤ μ.1 66 ((30 : Nat) : Int) ∧ μ.1 66 ((30 : Nat) : Int) ≤ 800)) (hp1 : (μ.1 66 ((24 : Nat) : Int) = 21 ∧ μ.1 66 ((25 : Nat) : Int) = 80 ∧ μ.1 66 ((26 : Nat) : Int) = a1)) (hp2 : (0 ≤ μ.1 66 ((27 : Nat) : Int) ∧ μ.1 66 ((27 : Nat) : Int) ≤ 4 * (a1 - 1))) (hp3 : (rLx μ τ p)) (hp4 : (rNu μ B)) (hp5 : (yInv (0, p, 0, [], B))) (hQ : ∀ (v : Int) (μ' : zM), zfx [76, 77, 79, 82, 84, 3000075, 3000081] [26, 27, 31, 32, 33, 34, 35, 36] μ μ' → 0 ≤ v → v ≤ 1 → (0 ≤ μ'.1 66 ((33 : Nat) : Int) ∧ 0 ≤ μ'.1 66 ((34 : Nat) : Int) ∧ μ'.1 66 ((33 : Nat) : Int) + μ'.1 66 ((34 : Nat) : Int) ≤ μ'.1 66 ((31 : Nat) : Int) ∧ μ'.1 66 ((31 : Nat) : Int) ≤ μ'.1 66 ((30 : Nat) : Int) ∧ μ'.1 66 ((30 : Nat) : Int) ≤ 800) → (μ'.1 66 ((30 : Nat) : Int) = μ.1 66 ((30 : Nat) : Int)) → (v = 1 → a1 ≤ 20 ∧ zHd μ μ' a1 ∧ zrm μ' < zrm μ) → (zOt μ μ') → ((v = 0 ∧ rFa τ (0, p, 0, [], B) μ') ∨ (v = 1 ∧ ∃ p' B', yR τ (0, p, 0, [], B) (3, p', 0, [], B') ∧ rLx μ' τ p' ∧ rNu μ' B' ∧ B'.1 0 3 = a1 ∧ B'.2 = B.2)) → Q (some (.inl v)) μ') : ∀ (vs : List zV) (m0 : zM) (n : Nat), yi_X9_readHead μ a1 τ p B 128 vs m0 n → zw (zOk g d) mt_X9_readHead ([(128, [0, 1])], []) (fun pc' vs' μ'' => ∃ n', n' < n ∧ yi_X9_readHead μ a1 τ p B pc' vs' μ'' n') Q (fun _ _ => False) 166 true (zsuf 128 mt_X9_readHead.2.2.2.2.1) (zzip [0, 1] vs) [] m0 := by
  have NB : a1 = B.1 0 0 := hp1.2.2.symm.trans hp4.1.2.2.1
  have HI0 : yI 0 0 [] B := (by rcases hp5 with q | q; exact absurd (show (0 : Nat) = 20 from q) (by decide); exact q)
  have HB0 := HI0.1.1
  have NP0 : μ.1 66 ((27 : Nat) : Int) = B.1 0 1 := hp4.1.2.2.2.1
  obtain ⟨g1, wg1⟩ : ∃ z : Int, μ.1 66 ((31 : Nat) : Int) = z := ⟨_, rfl⟩
  obtain ⟨g2, wg2⟩ : ∃ z : Int, μ.1 66 ((30 : Nat) : Int) = z := ⟨_, rfl⟩
  obtain ⟨g3, wg3⟩ : ∃ z : Int, μ.1 66 ((33 : Nat) : Int) = z := ⟨_, rfl⟩
  obtain ⟨g4, wg4⟩ : ∃ z : Int, μ.1 66 ((34 : Nat) : Int) = z := ⟨_, rfl⟩
  obtain ⟨g5, wg5⟩ : ∃ z : Int, μ.1 66 ((32 : Nat) : Int) = z := ⟨_, rfl⟩
  obtain ⟨g6, wg6⟩ : ∃ z : Int, μ.1 66 ((26 : Nat) : Int) = z := ⟨_, rfl⟩
  obtain ⟨g7, wg7⟩ : ∃ z : Int, μ.1 66 ((27 : Nat) : Int) = z := ⟨_, rfl⟩
  obtain ⟨g8, wg8⟩ : ∃ z : Int, μ.1 66 ((24 : Nat) : Int) = z := ⟨_, rfl⟩
  obtain ⟨g9, wg9⟩ : ∃ z : Int, μ.1 66 ((25 : Nat) : Int) = z := ⟨_, rfl⟩
  try rw [wg1] at hp0
  try rw [wg2] at hp0
  try rw [wg3] at hp0
  try rw [wg4] at hp0
  try rw [wg5] at hp0
  try rw [wg6] at hp0
  try rw [wg7] at hp0
  try rw [wg8] at hp0
  try rw [wg9] at hp0
  try rw [wg1] at hp1
  try rw [wg2] at hp1
  try rw [wg3] at hp1
  try rw [wg4] at hp1
  try rw [wg5] at hp1
  try rw [wg6] at hp1
  try rw [wg7] at hp1
  try rw [wg8] at hp1
  try rw [wg9] at hp1
  try rw [wg1] at hp2
  try rw [wg2] at hp2
  try rw [wg3] at hp2
  try rw [wg4] at hp2
  try rw [wg5] at hp2
  try rw [wg6] at hp2
  try rw [wg7] at hp2
  try rw [wg8] at hp2
  try rw [wg9] at hp2
  try rw [wg1] at hp3
  try rw [wg2] at hp3
  try rw [wg3] at hp3
  try rw [wg4] at hp3
  try rw [wg5] at hp3
  try rw [wg6] at hp3
  try rw [wg7] at hp3
  try rw [wg8] at hp3
  try rw [wg9] at hp3
  try rw [wg1] at hp4
  try rw [wg2] at hp4
  try rw [wg3] at hp4
  try rw [wg4] at hp4
  try rw [wg5] at hp4
  try rw [wg6] at hp4
  try rw [wg7] at hp4
  try rw [wg8] at hp4
  try rw [wg9] at hp4
  try rw [wg1] at hp5
  try rw [wg2] at hp5
  try rw [wg3] at hp5
  try rw [wg4] at hp5
  try rw [wg5] at hp5
  try rw [wg6] at hp5
  try rw [wg7] at hp5
  try rw [wg8] at hp5
  try rw [wg9] at hp5
  have KK0 := rkd hp3 wg5
  rw [wg7] at NP0
  have z0 : zfx [76, 77, 79, 82, 84, 3000075, 3000081] [26, 27, 31, 32, 33, 34, 35, 36] μ μ := zfx_x μ
  intro vs m0 n hI
  clear z0
  obtain ⟨v1, rfl, z0, hv1, i0, i1, i2, i3, i4, i5, i6, i7, i8, rfl⟩ := hI
  obtain ⟨j1, i2b⟩ := i2
  subst j1
  have HH := i4.1
  have i2 := i2b
  obtain ⟨g149, wg149⟩ : ∃ z : Int, m0.1 66 ((31 : Nat) : Int) = z := ⟨_, rfl⟩
  obtain ⟨g150, wg150⟩ : ∃ z : Int, m0.1 66 ((30 : Nat) : Int) = z := ⟨_, rfl⟩
  obtain ⟨g151, wg151⟩ : ∃ z : Int, m0.1 66 ((33 : Nat) : Int) = z := ⟨_, rfl⟩
  obtain ⟨g152, wg152⟩ : ∃ z : Int, m0.1 66 ((34 : Nat) : Int) = z := ⟨_, rfl⟩
  obtain ⟨g153, wg153⟩ : ∃ z : Int, m0.1 66 ((32 : Nat) : Int) = z := ⟨_, rfl⟩
  obtain ⟨g154, wg154⟩ : ∃ z : Int, m0.1 66 ((26 : Nat) : Int) = z := ⟨_, rfl⟩
  obtain ⟨g155, wg155⟩ : ∃ z : Int, m0.1 66 ((27 : Nat) : Int) = z := ⟨_, rfl⟩
  obtain ⟨g156, wg156⟩ : ∃ z : Int, m0.1 66 ((24 : Nat) : Int) = z := ⟨_, rfl⟩
  obtain ⟨g157, wg157⟩ : ∃ z : Int, m0.1 66 ((25 : Nat) : Int) = z := ⟨_, rfl⟩
  try rw [wg149] at i0
  try rw [wg150] at i0
  try rw [wg151] at i0
  try rw [wg152] at i0
  try rw [wg153] at i0
  try rw [wg154] at i0
  try rw [wg155] at i0
  try rw [wg156] at i0
  try rw [wg157] at i0
  try rw [wg1] at i0
  try rw [wg2] at i0
  try rw [wg3] at i0
  try rw [wg4] at i0
  try rw [wg5] at i0
  try rw [wg6] at i0
  try rw [wg7] at i0
  try rw [wg8] at i0
  try rw [wg9] at i0
  try rw [wg149] at i1
  try rw [wg150] at i1
  try rw [wg151] at i1
  try rw [wg152] at i1
  try rw [wg153] at i1
  try rw [wg154] at i1
  try rw [wg155] at i1
  try rw [wg156] at i1
  try rw [wg157] at i1
  try rw [wg1] at i1
  try rw [wg2] at i1
  try rw [wg3] at i1
  try rw [wg4] at i1
  try rw [wg5] at i1
  try rw [wg6] at i1
  try rw [wg7] at i1
  try rw [wg8] at i1
  try rw [wg9] at i1
  try rw [wg149] at i2
  try rw [wg150] at i2
  try rw [wg151] at i2
  try rw [wg152] at i2
  try rw [wg153] at i2
  try rw [wg154] at i2
  try rw [wg155] at i2
  try rw [wg156] at i2
  try rw [wg157] at i2
  try rw [wg1] at i2
  try rw [wg2] at i2
  try rw [wg3] at i2
  try rw [wg4] at i2
  try rw [wg5] at i2
  try rw [wg6] at i2
  try rw [wg7] at i2
  try rw [wg8] at i2
  try rw [wg9] at i2
  try rw [wg149] at i3
  try rw [wg150] at i3
  try rw [wg151] at i3
  try rw [wg152] at i3
  try rw [wg153] at i3
  try rw [wg154] at i3
  try rw [wg155] at i3
  try rw [wg156] at i3
  try rw [wg157] at i3
  try rw [wg1] at i3
  try rw [wg2] at i3
  try rw [wg3] at i3
  try rw [wg4] at i3
  try rw [wg5] at i3
  try rw [wg6] at i3
  try rw [wg7] at i3
  try rw [wg8] at i3
  try rw [wg9] at i3
  try rw [wg149] at i4
  try rw [wg150] at i4
  try rw [wg151] at i4
  try rw [wg152] at i4
  try rw [wg153] at i4
  try rw [wg154] at i4
  try rw [wg155] at i4
  try rw [wg156] at i4
  try rw [wg157] at i4
  try rw [wg1] at i4
  try rw [wg2] at i4
  try rw [wg3] at i4
  try rw [wg4] at i4
  try rw [wg5] at i4
  try rw [wg6] at i4
  try rw [wg7] at i4
  try rw [wg8] at i4
  try rw [wg9] at i4
  try rw [wg149] at i5
  try rw [wg150] at i5
  try rw [wg151] at i5
  try rw [wg152] at i5
  try rw [wg153] at i5
  try rw [wg154] at i5
  try rw [wg155] at i5
  try rw [wg156] at i5
  try rw [wg157] at i5
  try rw [wg1] at i5
  try rw [wg2] at i5
  try rw [wg3] at i5
  try rw [wg4] at i5
  try rw [wg5] at i5
  try rw [wg6] at i5
  try rw [wg7] at i5
  try rw [wg8] at i5
  try rw [wg9] at i5
  try rw [wg149] at i6
  try rw [wg150] at i6
  try rw [wg151] at i6
  try rw [wg152] at i6
  try rw [wg153] at i6
  try rw [wg154] at i6
  try rw [wg155] at i6
  try rw [wg156] at i6
  try rw [wg157] at i6
  try rw [wg1] at i6
  try rw [wg2] at i6
  try rw [wg3] at i6
  try rw [wg4] at i6
  try rw [wg5] at i6
  try rw [wg6] at i6
  try rw [wg7] at i6
  try rw [wg8] at i6
  try rw [wg9] at i6
  try rw [wg149] at i7
  try rw [wg150] at i7
  try rw [wg151] at i7
  try rw [wg152] at i7
  try rw [wg153] at i7
  try rw [wg154] at i7
  try rw [wg155] at i7
  try rw [wg156] at i7
  try rw [wg157] at i7
  try rw [wg1] at i7
  try rw [wg2] at i7
  try rw [wg3] at i7
  try rw [wg4] at i7
  try rw [wg5] at i7
  try rw [wg6] at i7
  try rw [wg7] at i7
  try rw [wg8] at i7
  try rw [wg9] at i7
  try rw [wg149] at i8
  try rw [wg150] at i8
  try rw [wg151] at i8
  try rw [wg152] at i8
  try rw [wg153] at i8
  try rw [wg154] at i8
  try rw [wg155] at i8
  try rw [wg156] at i8
  try rw [wg157] at i8
  try rw [wg1] at i8
  try rw [wg2] at i8
  try rw [wg3] at i8
  try rw [wg4] at i8
  try rw [wg5] at i8
  try rw [wg6] at i8
  try rw [wg7] at i8
  try rw [wg8] at i8
  try rw [wg9] at i8
  obtain ⟨pq, Bq, RQ, LQ, NQ, OQ, CQ, EQ2⟩ := i8
  have HI2 : yI 2 0 [] Bq := (by rcases yInv_R hp5 RQ with q | q; exact absurd (show (2 : Nat) = 20 from q) (by decide); exact q)
  refine ⟨yk_X9_pass, ym_X9_pass hg d (by omega), rfl, (by (try rw [wg149]) <;> (try rw [wg150]) <;> (try rw [wg151]) <;> (try rw [wg152]) <;> (try rw [wg153]) <;> (try rw [wg154]) <;> (try rw [wg155]) <;> (try rw [wg156]) <;> (try rw [wg157]) <;> (try rw [wg1]) <;> (try rw [wg2]) <;> (try rw [wg3]) <;> (try rw [wg4]) <;> (try rw [wg5]) <;> (try rw [wg6]) <;> (try rw [wg7]) <;> (try rw [wg8]) <;> (try rw [wg9]) <;> omega), ?_⟩
  intro m158 qm158 p159 p160 p161 p162 p163
  have z164 := zfx_t z0 qm158 rfl rfl
  have w165 : m158.1 66 ((30 : Nat) : Int) = g150 := (qm158.2.1 30 rfl).trans wg150
  have w166 : m158.1 66 ((26 : Nat) : Int) = g154 := (qm158.2.1 26 rfl).trans wg154
  have w167 : m158.1 66 ((27 : Nat) : Int) = g155 := (qm158.2.1 27 rfl).trans wg155
  have w168 : m158.1 66 ((24 : Nat) : Int) = g156 := (qm158.2.1 24 rfl).trans wg156
  have w169 : m158.1 66 ((25 : Nat) : Int) = g157 := (qm158.2.1 25 rfl).trans wg157
  obtain ⟨g170, wg170⟩ : ∃ z : Int, m158.1 66 ((31 : Nat) : Int) = z := ⟨_, rfl⟩
  obtain ⟨g171, wg171⟩ : ∃ z : Int, m158.1 66 ((33 : Nat) : Int) = z := ⟨_, rfl⟩
  obtain ⟨g172, wg172⟩ : ∃ z : Int, m158.1 66 ((34 : Nat) : Int) = z := ⟨_, rfl⟩
  obtain ⟨g173, wg173⟩ : ∃ z : Int, m158.1 66 ((32 : Nat) : Int) = z := ⟨_, rfl⟩
  try rw [wg170] at p159
  try rw [w165] at p159
  try rw [wg171] at p159
  try rw [wg172] at p159
  try rw [wg173] at p159
  try rw [w166] at p159
  try rw [w167] at p159
  try rw [w168] at p159
  try rw [w169] at p159
  try rw [wg149] at p159
  try rw [wg150] at p159
  try rw [wg151] at p159
  try rw [wg152] at p159
  try rw [wg153] at p159
  try rw [wg154] at p159
  try rw [wg155] at p159
  try rw [wg156] at p159
  try rw [wg157] at p159
  try rw [wg1] at p159
  try rw [wg2] at p159
  try rw [wg3] at p159
  try rw [wg4] at p159
  try rw [wg5] at p159
  try rw [wg6] at p159
  try rw [wg7] at p159
  try rw [wg8] at p159
  try rw [wg9] at p159
  try rw [wg170] at p160
  try rw [w165] at p160
  try rw [wg171] at p160
  try rw [wg172] at p160
  try rw [wg173] at p160
  try rw [w166] at p160
  try rw [w167] at p160
  try rw [w168] at p160
  try rw [w169] at p160
  try rw [wg149] at p160
  try rw [wg150] at p160
  try rw [wg151] at p160
  try rw [wg152] at p160
  try rw [wg153] at p160
  try rw [wg154] at p160
  try rw [wg155] at p160
  try rw [wg156] at p160
  try rw [wg157] at p160
  try rw [wg1] at p160
  try rw [wg2] at p160
  try rw [wg3] at p160
  try rw [wg4] at p160
  try rw [wg5] at p160
  try rw [wg6] at p160
  try rw [wg7] at p160
  try rw [wg8] at p160
  try rw [wg9] at p160
  try rw [wg170] at p161
  try rw [w165] at p161
  try rw [wg171] at p161
  try rw [wg172] at p161
  try rw [wg173] at p161
  try rw [w166] at p161
  try rw [w167] at p161
  try rw [w168] at p161
  try rw [w169] at p161
  try rw [wg149] at p161
  try rw [wg150] at p161
  try rw [wg151] at p161
  try rw [wg152] at p161
  try rw [wg153] at p161
  try rw [wg154] at p161
  try rw [wg155] at p161
  try rw [wg156] at p161
  try rw [wg157] at p161
  try rw [wg1] at p161
  try rw [wg2] at p161
  try rw [wg3] at p161
  try rw [wg4] at p161
  try rw [wg5] at p161
  try rw [wg6] at p161
  try rw [wg7] at p161
  try rw [wg8] at p161
  try rw [wg9] at p161
  try rw [wg170] at p162
  try rw [w165] at p162
  try rw [wg171] at p162
  try rw [wg172] at p162
  try rw [wg173] at p162
  try rw [w166] at p162
  try rw [w167] at p162
  try rw [w168] at p162
  try rw [w169] at p162
  try rw [wg149] at p162
  try rw [wg150] at p162
  try rw [wg151] at p162
  try rw [wg152] at p162
  try rw [wg153] at p162
  try rw [wg154] at p162
  try rw [wg155] at p162
  try rw [wg156] at p162
  try rw [wg157] at p162
  try rw [wg1] at p162
  try rw [wg2] at p162
  try rw [wg3] at p162
  try rw [wg4] at p162
  try rw [wg5] at p162
  try rw [wg6] at p162
  try rw [wg7] at p162
  try rw [wg8] at p162
  try rw [wg9] at p162
  have ot174 := zOt_fr i7 (qm158.1 76 (by decide) rfl) (qm158.1 77 (by decide) rfl) (qm158.1 78 (by decide) rfl) (qm158.1 79 (by decide) rfl) (qm158.1 80 (by decide) rfl) (qm158.1 83 (by decide) rfl) (qm158.1 84 (by decide) rfl)
  have HD0 := zHd_fr i4 (qm158.1 76 (by decide) rfl) (qm158.1 77 (by decide) rfl) (qm158.1 79 (by decide) rfl) (qm158.1 84 (by decide) rfl) (qm158.2.1 26 rfl) (qm158.2.1 27 rfl)
  have L2 := rLx_p LQ (qm158.1 85 (by decide) rfl) (qm158.2.1 30 rfl) p163
  have N2 := rNu_z NQ qm158 ⟨rfl, rfl, rfl, rfl, rfl, rfl⟩ ⟨rfl, rfl, rfl, rfl, rfl, rfl⟩
  have KK2 := rkd L2 wg173
  have Z2 := (N2.2.1 v1 (by omega) (by omega)).2.2.1
  intro x175 hx175 kx175 lx175
  rw [wg173] at hx175
  refine And.intro ⟨⟨by omega, by omega⟩, ⟨by omega, by omega⟩⟩ (And.intro (fun c176 => ?_) (fun c176 => ?_))
  · refine ⟨yk_X9_name, ym_X9_name hg d (by omega), rfl, (by (try rw [wg170]) <;> (try rw [w165]) <;> (try rw [wg171]) <;> (try rw [wg172]) <;> (try rw [wg173]) <;> (try rw [w166]) <;> (try rw [w167]) <;> (try rw [w168]) <;> (try rw [w169]) <;> (try rw [wg149]) <;> (try rw [wg150]) <;> (try rw [wg151]) <;> (try rw [wg152]) <;> (try rw [wg153]) <;> (try rw [wg154]) <;> (try rw [wg155]) <;> (try rw [wg156]) <;> (try rw [wg157]) <;> (try rw [wg1]) <;> (try rw [wg2]) <;> (try rw [wg3]) <;> (try rw [wg4]) <;> (try rw [wg5]) <;> (try rw [wg6]) <;> (try rw [wg7]) <;> (try rw [wg8]) <;> (try rw [wg9]) <;> omega), ?_⟩
    intro j177 p178
    refine ⟨yk_X9_findParam, ym_X9_findParam hg d (by omega), _, _, rfl, ⟨by omega, by omega⟩, ?_⟩
    intro x179 kx179 lx179 p180 p181
    try rw [wg170] at p180
    try rw [w165] at p180
    try rw [wg171] at p180
    try rw [wg172] at p180
    try rw [wg173] at p180
    try rw [w166] at p180
    try rw [w167] at p180
    try rw [w168] at p180
    try rw [w169] at p180
    try rw [wg1] at p180
    try rw [wg2] at p180
    try rw [wg3] at p180
    try rw [wg4] at p180
    try rw [wg5] at p180
    try rw [wg6] at p180
    try rw [wg7] at p180
    try rw [wg8] at p180
    try rw [wg9] at p180
    have FP : x179 = yfp Bq (ynm τ (ynx τ pq)).toInt := rNu_fp N2 HI2.1 OQ.symm (by have h1 := p181; rw [show j177 = ynm τ (ynx τ pq) from rLx_n L2 ((rKd_n KK2).mp (by omega)) p178] at h1; exact h1)
    refine And.intro ⟨by omega, by omega⟩ (And.intro (fun c182 => ?_) (fun c182 => ?_))
    · intro x183 hx183 kx183 lx183
      rw [w168] at hx183
      refine And.intro ⟨by omega, by omega⟩ ?_
      intro x184 hx184 kx184 lx184
      have X7 : x184 = m158.1 77 (21 + v1) := by rw [hx184, show (x183 + v1) = 21 + v1 by omega]
      have H7 := HD0.1
      refine And.intro ⟨⟨by omega, by omega⟩, ⟨by omega, by omega⟩⟩ (And.intro (fun c185 => ?_) (fun c185 => ?_))
      · have FB : g155 ≤ 79 ∧ g155 = m158.1 66 ((27 : Nat) : Int) := by omega
        intro x186 hx186 kx186 lx186
        rw [w169] at hx186
        intro x187 hx187 kx187 lx187
        rw [w167] at hx187
        refine ⟨yk_X9_name, ym_X9_name hg d (by omega), rfl, (by (try rw [wg170]) <;> (try rw [w165]) <;> (try rw [wg171]) <;> (try rw [wg172]) <;> (try rw [wg173]) <;> (try rw [w166]) <;> (try rw [w167]) <;> (try rw [w168]) <;> (try rw [w169]) <;> (try rw [wg149]) <;> (try rw [wg150]) <;> (try rw [wg151]) <;> (try rw [wg152]) <;> (try rw [wg153]) <;> (try rw [wg154]) <;> (try rw [wg155]) <;> (try rw [wg156]) <;> (try rw [wg157]) <;> (try rw [wg1]) <;> (try rw [wg2]) <;> (try rw [wg3]) <;> (try rw [wg4]) <;> (try rw [wg5]) <;> (try rw [wg6]) <;> (try rw [wg7]) <;> (try rw [wg8]) <;> (try rw [wg9]) <;> omega), ?_⟩
        intro j188 p189
        refine And.intro ⟨by omega, by omega⟩ ?_
        intro m190 em190
        have z191 := zfx_r z164 em190 rfl (by decide)
        have w192 : m190.1 66 ((31 : Nat) : Int) = g170 := by rw [em190]; exact (congrFun (zu_ne (by decide)) _).trans wg170
        have w193 : m190.1 66 ((30 : Nat) : Int) = g150 := by rw [em190]; exact (congrFun (zu_ne (by decide)) _).trans w165
        have w194 : m190.1 66 ((33 : Nat) : Int) = g171 := by rw [em190]; exact (congrFun (zu_ne (by decide)) _).trans wg171
        have w195 : m190.1 66 ((34 : Nat) : Int) = g172 := by rw [em190]; exact (congrFun (zu_ne (by decide)) _).trans wg172
        have w196 : m190.1 66 ((32 : Nat) : Int) = g173 := by rw [em190]; exact (congrFun (zu_ne (by decide)) _).trans wg173
        have w197 : m190.1 66 ((26 : Nat) : Int) = g154 := by rw [em190]; exact (congrFun (zu_ne (by decide)) _).trans w166
        have w198 : m190.1 66 ((27 : Nat) : Int) = g155 := by rw [em190]; exact (congrFun (zu_ne (by decide)) _).trans w167
        have w199 : m190.1 66 ((24 : Nat) : Int) = g156 := by rw [em190]; exact (congrFun (zu_ne (by decide)) _).trans w168
        have w200 : m190.1 66 ((25 : Nat) : Int) = g157 := by rw [em190]; exact (congrFun (zu_ne (by decide)) _).trans w169
        clear wg170 w165 wg171 wg172 wg173 w166 w167 w168 w169
        have ot201 := zOt_w ot174 em190 ⟨fun h => absurd h (by decide), fun h => absurd h (by decide), fun h => absurd h (by decide), fun h => absurd h (by decide), fun h => absurd h (by decide)⟩
        intro x202 hx202 kx202 lx202
        rw [w200] at hx202
        intro x203 hx203 kx203 lx203
        rw [w198] at hx203
        refine And.intro ⟨by omega, by omega⟩ (And.intro ⟨by omega, by omega⟩ ?_)
        intro m204 em204
        have z205 := zfx_r z191 em204 rfl (by decide)
        have w206 : m204.1 66 ((31 : Nat) : Int) = g170 := by rw [em204]; exact (congrFun (zu_ne (by decide)) _).trans w192
        have w207 : m204.1 66 ((30 : Nat) : Int) = g150 := by rw [em204]; exact (congrFun (zu_ne (by decide)) _).trans w193
        have w208 : m204.1 66 ((33 : Nat) : Int) = g171 := by rw [em204]; exact (congrFun (zu_ne (by decide)) _).trans w194
        have w209 : m204.1 66 ((34 : Nat) : Int) = g172 := by rw [em204]; exact (congrFun (zu_ne (by decide)) _).trans w195
        have w210 : m204.1 66 ((32 : Nat) : Int) = g173 := by rw [em204]; exact (congrFun (zu_ne (by decide)) _).trans w196
        have w211 : m204.1 66 ((26 : Nat) : Int) = g154 := by rw [em204]; exact (congrFun (zu_ne (by decide)) _).trans w197
        have w212 : m204.1 66 ((27 : Nat) : Int) = g155 := by rw [em204]; exact (congrFun (zu_ne (by decide)) _).trans w198
        have w213 : m204.1 66 ((24 : Nat) : Int) = g156 := by rw [em204]; exact (congrFun (zu_ne (by decide)) _).trans w199
        have w214 : m204.1 66 ((25 : Nat) : Int) = g157 := by rw [em204]; exact (congrFun (zu_ne (by decide)) _).trans w200
        clear w192 w193 w194 w195 w196 w197 w198 w199 w200
        have ot215 := zOt_w ot201 em204 ⟨fun h => absurd h (by decide), fun h => absurd h (by decide), fun h => absurd h (by decide), fun h => absurd h (by decide), fun h => absurd h (by decide)⟩
        intro x216 hx216 kx216 lx216
        rw [w214] at hx216
        intro x217 hx217 kx217 lx217
        rw [w212] at hx217
        refine And.intro ⟨by omega, by omega⟩ (And.intro ⟨by omega, by omega⟩ ?_)
        intro m218 em218
        have z219 := zfx_r z205 em218 rfl (by decide)
        have w220 : m218.1 66 ((31 : Nat) : Int) = g170 := by rw [em218]; exact (congrFun (zu_ne (by decide)) _).trans w206
        have w221 : m218.1 66 ((30 : Nat) : Int) = g150 := by rw [em218]; exact (congrFun (zu_ne (by decide)) _).trans w207
        have w222 : m218.1 66 ((33 : Nat) : Int) = g171 := by rw [em218]; exact (congrFun (zu_ne (by decide)) _).trans w208
        have w223 : m218.1 66 ((34 : Nat) : Int) = g172 := by rw [em218]; exact (congrFun (zu_ne (by decide)) _).trans w209
        have w224 : m218.1 66 ((32 : Nat) : Int) = g173 := by rw [em218]; exact (congrFun (zu_ne (by decide)) _).trans w210
        have w225 : m218.1 66 ((26 : Nat) : Int) = g154 := by rw [em218]; exact (congrFun (zu_ne (by decide)) _).trans w211
        have w226 : m218.1 66 ((27 : Nat) : Int) = g155 := by rw [em218]; exact (congrFun (zu_ne (by decide)) _).trans w212
        have w227 : m218.1 66 ((24 : Nat) : Int) = g156 := by rw [em218]; exact (congrFun (zu_ne (by decide)) _).trans w213
        have w228 : m218.1 66 ((25 : Nat) : Int) = g157 := by rw [em218]; exact (congrFun (zu_ne (by decide)) _).trans w214
        clear w206 w207 w208 w209 w210 w211 w212 w213 w214
        have ot229 := zOt_w ot215 em218 (by have hk : (80 : Int) ≤ (x216 + x217) := (by omega); refine ⟨fun h => ?_, fun h => ?_, fun h => ?_, fun h => ?_, fun h => ?_⟩ <;> first | exact hk | (exfalso; revert h; decide))
        intro x230 hx230 kx230 lx230
        rw [w226] at hx230
        refine And.intro ⟨by omega, by omega⟩ ?_
        intro m231 em231
        have z232 := zfx_f z219 em231 rfl
        have w233 : m231.1 66 ((31 : Nat) : Int) = g170 := by rw [em231]; exact (zu_nk (by decide)).trans w220
        have w234 : m231.1 66 ((30 : Nat) : Int) = g150 := by rw [em231]; exact (zu_nk (by decide)).trans w221
        have w235 : m231.1 66 ((33 : Nat) : Int) = g171 := by rw [em231]; exact (zu_nk (by decide)).trans w222
        have w236 : m231.1 66 ((34 : Nat) : Int) = g172 := by rw [em231]; exact (zu_nk (by decide)).trans w223
        have w237 : m231.1 66 ((32 : Nat) : Int) = g173 := by rw [em231]; exact (zu_nk (by decide)).trans w224
        have w238 : m231.1 66 ((26 : Nat) : Int) = g154 := by rw [em231]; exact (zu_nk (by decide)).trans w225
        have w239 : m231.1 66 ((27 : Nat) : Int) = (x230 + 1) := by rw [em231]; exact zu_at
        have w240 : m231.1 66 ((24 : Nat) : Int) = g156 := by rw [em231]; exact (zu_nk (by decide)).trans w227
        have w241 : m231.1 66 ((25 : Nat) : Int) = g157 := by rw [em231]; exact (zu_nk (by decide)).trans w228
        clear w220 w221 w222 w223 w224 w225 w226 w227 w228
        have ot242 := zOt_w ot229 em231 ⟨fun h => absurd h (by decide), fun h => absurd h (by decide), fun h => absurd h (by decide), fun h => absurd h (by decide), fun h => absurd h (by decide)⟩
        intro x243 hx243 kx243 lx243
        rw [w240] at hx243
        refine And.intro ⟨by omega, by omega⟩ ?_
        intro x244 hx244 kx244 lx244
        have X8 : x244 = m158.1 77 (21 + v1) := by rw [hx244, em231, zu_ne (by decide), em218, zu_ne (by decide), em204, zu_ne (by decide), em190, zu_ne (by decide), show (x243 + v1) = 21 + v1 by omega]
        refine And.intro ⟨by omega, by omega⟩ (And.intro ⟨by omega, by omega⟩ ?_)
        intro m245 em245
        have z246 := zfx_r z232 em245 rfl (by decide)
        have w247 : m245.1 66 ((31 : Nat) : Int) = g170 := by rw [em245]; exact (congrFun (zu_ne (by decide)) _).trans w233
        have w248 : m245.1 66 ((30 : Nat) : Int) = g150 := by rw [em245]; exact (congrFun (zu_ne (by decide)) _).trans w234
        have w249 : m245.1 66 ((33 : Nat) : Int) = g171 := by rw [em245]; exact (congrFun (zu_ne (by decide)) _).trans w235
        have w250 : m245.1 66 ((34 : Nat) : Int) = g172 := by rw [em245]; exact (congrFun (zu_ne (by decide)) _).trans w236
        have w251 : m245.1 66 ((32 : Nat) : Int) = g173 := by rw [em245]; exact (congrFun (zu_ne (by decide)) _).trans w237
        have w252 : m245.1 66 ((26 : Nat) : Int) = g154 := by rw [em245]; exact (congrFun (zu_ne (by decide)) _).trans w238
        have w253 : m245.1 66 ((27 : Nat) : Int) = (x230 + 1) := by rw [em245]; exact (congrFun (zu_ne (by decide)) _).trans w239
        have w254 : m245.1 66 ((24 : Nat) : Int) = g156 := by rw [em245]; exact (congrFun (zu_ne (by decide)) _).trans w240
        have w255 : m245.1 66 ((25 : Nat) : Int) = g157 := by rw [em245]; exact (congrFun (zu_ne (by decide)) _).trans w241
        clear w233 w234 w235 w236 w237 w238 w239 w240 w241
        have ot256 := zOt_w ot242 em245 (by have hk : (21 : Int) ≤ (x243 + v1) := (by omega); refine ⟨fun h => ?_, fun h => ?_, fun h => ?_, fun h => ?_, fun h => ?_⟩ <;> first | exact hk | (exfalso; revert h; decide))
        have NJ : j188 = ynm τ (ynx τ pq) := rLx_n L2 ((rKd_n KK2).mp (by omega)) p189
        have NP := N2.1.2.2.2.1
        have N3 : rNu m245 (yap Bq (ynm τ (ynx τ pq)).toInt) := rNu_ap N2 OQ.symm ⟨by omega, by omega⟩ (fun k => by rw [em245, zu_ne (by decide), em231, zu_ne (by decide), em218, zu_ne (by decide), em204, zu_ne (by decide), em190, zu_if]; by_cases hk : k = 80 + Bq.1 0 1; (rw [if_pos hk, if_pos (by omega)]; rw [NJ]); (rw [if_neg hk, if_neg (by omega)])) (fun k => by rw [em245, zu_ne (by decide), em231, zu_ne (by decide), em218, zu_if, em204, zu_ne (by decide), em190, zu_ne (by decide)]; by_cases hk : k = 80 + Bq.1 0 1; (rw [if_pos hk, if_pos (by omega)]); (rw [if_neg hk, if_neg (by omega)])) (fun k => by rw [em245, zu_if, em231, zu_ne (by decide), em218, zu_ne (by decide), em204, zu_ne (by decide), em190, zu_ne (by decide)]; by_cases hk : k = 21 + v1; (rw [if_pos hk, if_pos (by omega)]; omega); (rw [if_neg hk, if_neg (by omega)])) (by rw [em245, zu_ne (by decide), em231, zu_ne (by decide), em218, zu_ne (by decide), em204, zu_ne (by decide), em190, zu_ne (by decide)]) (by rw [em245, zu_ne (by decide), em231, zu_ne (by decide), em218, zu_ne (by decide), em204, zu_ne (by decide), em190, zu_ne (by decide)]) (by rw [em245, zu_ne (by decide), em231, zu_ne (by decide), em218, zu_ne (by decide), em204, zu_ne (by decide), em190, zu_ne (by decide)]) (fun k hk => by rw [em245, zu_ne (by decide), em231, zu_nk (by omega), em218, zu_ne (by decide), em204, zu_ne (by decide), em190, zu_ne (by decide)]) (by rw [em245, zu_ne (by decide), em231, zu_at]; omega)
        have L3 : rLx m245 τ (ynx τ pq) := rLx_f L2 (by rw [em245, zu_ne (by decide), em231, zu_ne (by decide), em218, zu_ne (by decide), em204, zu_ne (by decide), em190, zu_ne (by decide)]) (fun k a b => by rw [em245, zu_ne (by decide), em231, zu_nk (by omega), em218, zu_ne (by decide), em204, zu_ne (by decide), em190, zu_ne (by decide)])
        have HD0b := zHd_fr (m' := m190) HD0 (by rw [em190]; exact zu_ne (by decide)) (by rw [em190]; exact zu_ne (by decide)) (by rw [em190]; exact zu_ne (by decide)) (by rw [em190]; exact zu_ne (by decide)) (by rw [em190, zu_ne (by decide)]) (by rw [em190, zu_ne (by decide)])
        have L7 : m190.1 77 (21 + v1) = m158.1 77 (21 + v1) ∧ m190.1 66 ((27 : Nat) : Int) = m158.1 66 ((27 : Nat) : Int) := ⟨by rw [em190, zu_ne (by decide)], by rw [em190, zu_ne (by decide)]⟩
        have HD2 := zHd_s HD0b (by omega) em204 em218 em231 em245 (by omega) (by omega) (by omega) (by omega)
        refine ⟨yk_X9_pass, ym_X9_pass hg d (by omega), rfl, (by (try rw [w247]) <;> (try rw [w248]) <;> (try rw [w249]) <;> (try rw [w250]) <;> (try rw [w251]) <;> (try rw [w252]) <;> (try rw [w253]) <;> (try rw [w254]) <;> (try rw [w255]) <;> (try rw [wg149]) <;> (try rw [wg150]) <;> (try rw [wg151]) <;> (try rw [wg152]) <;> (try rw [wg153]) <;> (try rw [wg154]) <;> (try rw [wg155]) <;> (try rw [wg156]) <;> (try rw [wg157]) <;> (try rw [wg1]) <;> (try rw [wg2]) <;> (try rw [wg3]) <;> (try rw [wg4]) <;> (try rw [wg5]) <;> (try rw [wg6]) <;> (try rw [wg7]) <;> (try rw [wg8]) <;> (try rw [wg9]) <;> omega), ?_⟩
        intro m257 qm257 p258 p259 p260 p261 p262
        have z263 := zfx_t z246 qm257 rfl rfl
        have w264 : m257.1 66 ((30 : Nat) : Int) = g150 := (qm257.2.1 30 rfl).trans w248
        have w265 : m257.1 66 ((26 : Nat) : Int) = g154 := (qm257.2.1 26 rfl).trans w252
        have w266 : m257.1 66 ((27 : Nat) : Int) = (x230 + 1) := (qm257.2.1 27 rfl).trans w253
        have w267 : m257.1 66 ((24 : Nat) : Int) = g156 := (qm257.2.1 24 rfl).trans w254
        have w268 : m257.1 66 ((25 : Nat) : Int) = g157 := (qm257.2.1 25 rfl).trans w255
        obtain ⟨g269, wg269⟩ : ∃ z : Int, m257.1 66 ((31 : Nat) : Int) = z := ⟨_, rfl⟩
        obtain ⟨g270, wg270⟩ : ∃ z : Int, m257.1 66 ((33 : Nat) : Int) = z := ⟨_, rfl⟩
        obtain ⟨g271, wg271⟩ : ∃ z : Int, m257.1 66 ((34 : Nat) : Int) = z := ⟨_, rfl⟩
        obtain ⟨g272, wg272⟩ : ∃ z : Int, m257.1 66 ((32 : Nat) : Int) = z := ⟨_, rfl⟩
        try rw [wg269] at p258
        try rw [w264] at p258
        try rw [wg270] at p258
        try rw [wg271] at p258
        try rw [wg272] at p258
        try rw [w265] at p258
        try rw [w266] at p258
        try rw [w267] at p258
        try rw [w268] at p258
        try rw [w247] at p258
        try rw [w248] at p258
        try rw [w249] at p258
        try rw [w250] at p258
        try rw [w251] at p258
        try rw [w252] at p258
        try rw [w253] at p258
        try rw [w254] at p258
        try rw [w255] at p258
        try rw [wg1] at p258
        try rw [wg2] at p258
        try rw [wg3] at p258
        try rw [wg4] at p258
        try rw [wg5] at p258
        try rw [wg6] at p258
        try rw [wg7] at p258
        try rw [wg8] at p258
        try rw [wg9] at p258
        try rw [wg269] at p259
        try rw [w264] at p259
        try rw [wg270] at p259
        try rw [wg271] at p259
        try rw [wg272] at p259
        try rw [w265] at p259
        try rw [w266] at p259
        try rw [w267] at p259
        try rw [w268] at p259
        try rw [w247] at p259
        try rw [w248] at p259
        try rw [w249] at p259
        try rw [w250] at p259
        try rw [w251] at p259
        try rw [w252] at p259
        try rw [w253] at p259
        try rw [w254] at p259
        try rw [w255] at p259
        try rw [wg1] at p259
        try rw [wg2] at p259
        try rw [wg3] at p259
        try rw [wg4] at p259
        try rw [wg5] at p259
        try rw [wg6] at p259
        try rw [wg7] at p259
        try rw [wg8] at p259
        try rw [wg9] at p259
        try rw [wg269] at p260
        try rw [w264] at p260
        try rw [wg270] at p260
        try rw [wg271] at p260
        try rw [wg272] at p260
        try rw [w265] at p260
        try rw [w266] at p260
        try rw [w267] at p260
        try rw [w268] at p260
        try rw [w247] at p260
        try rw [w248] at p260
        try rw [w249] at p260
        try rw [w250] at p260
        try rw [w251] at p260
        try rw [w252] at p260
        try rw [w253] at p260
        try rw [w254] at p260
        try rw [w255] at p260
        try rw [wg1] at p260
        try rw [wg2] at p260
        try rw [wg3] at p260
        try rw [wg4] at p260
        try rw [wg5] at p260
        try rw [wg6] at p260
        try rw [wg7] at p260
        try rw [wg8] at p260
        try rw [wg9] at p260
        try rw [wg269] at p261
        try rw [w264] at p261
        try rw [wg270] at p261
        try rw [wg271] at p261
        try rw [wg272] at p261
        try rw [w265] at p261
        try rw [w266] at p261
        try rw [w267] at p261
        try rw [w268] at p261
        try rw [w247] at p261
        try rw [w248] at p261
        try rw [w249] at p261
        try rw [w250] at p261
        try rw [w251] at p261
        try rw [w252] at p261
        try rw [w253] at p261
        try rw [w254] at p261
        try rw [w255] at p261
        try rw [wg1] at p261
        try rw [wg2] at p261
        try rw [wg3] at p261
        try rw [wg4] at p261
        try rw [wg5] at p261
        try rw [wg6] at p261
        try rw [wg7] at p261
        try rw [wg8] at p261
        try rw [wg9] at p261
        clear w247 w248 w249 w250 w251 w252 w253 w254 w255
        have ot273 := zOt_fr ot256 (qm257.1 76 (by decide) rfl) (qm257.1 77 (by decide) rfl) (qm257.1 78 (by decide) rfl) (qm257.1 79 (by decide) rfl) (qm257.1 80 (by decide) rfl) (qm257.1 83 (by decide) rfl) (qm257.1 84 (by decide) rfl)
        have HD3 := zHd_fr HD2 (qm257.1 76 (by decide) rfl) (qm257.1 77 (by decide) rfl) (qm257.1 79 (by decide) rfl) (qm257.1 84 (by decide) rfl) (qm257.2.1 26 rfl) (qm257.2.1 27 rfl)
        have ZL : zrm m257 < zrm m0 := (by unfold zrm; simp only [wg269, w264, wg270, wg271, wg272, w265, w266, w267, w268, wg149, wg150, wg151, wg152, wg153, wg154, wg155, wg156, wg157, wg1, wg2, wg3, wg4, wg5, wg6, wg7, wg8, wg9]; (repeat' split) <;> omega)
        have L4 := rLx_p L3 (qm257.1 85 (by decide) rfl) (qm257.2.1 30 rfl) p262
        have N4 := rNu_z N3 qm257 ⟨rfl, rfl, rfl, rfl, rfl, rfl⟩ ⟨rfl, rfl, rfl, rfl, rfl, rfl⟩
        have KK4 := rkd L4 rfl
        have KT4 := wg272
        have V4 := yap_v Bq (ynm τ (ynx τ pq)).toInt
        intro x274 hx274 kx274 lx274
        rw [wg272] at hx274
        refine And.intro ⟨⟨by omega, by omega⟩, ⟨by omega, by omega⟩⟩ (And.intro (fun c275 => ?_) (fun c275 => ?_))
        · refine Exists.intro (Int.toNat (zrm m257)) (And.intro (zrN ZL (zrm_0 (by (try rw [wg269]) <;> (try rw [w264]) <;> (try rw [wg270]) <;> (try rw [wg271]) <;> (try rw [wg272]) <;> (try rw [w265]) <;> (try rw [w266]) <;> (try rw [w267]) <;> (try rw [w268]) <;> (try rw [wg149]) <;> (try rw [wg150]) <;> (try rw [wg151]) <;> (try rw [wg152]) <;> (try rw [wg153]) <;> (try rw [wg154]) <;> (try rw [wg155]) <;> (try rw [wg156]) <;> (try rw [wg157]) <;> (try rw [wg1]) <;> (try rw [wg2]) <;> (try rw [wg3]) <;> (try rw [wg4]) <;> (try rw [wg5]) <;> (try rw [wg6]) <;> (try rw [wg7]) <;> (try rw [wg8]) <;> (try rw [wg9]) <;> omega))) ?_)
          exact ⟨_, rfl, z263, ⟨by omega, by omega⟩, (by (try rw [wg269]) <;> (try rw [w264]) <;> (try rw [wg270]) <;> (try rw [wg271]) <;> (try rw [wg272]) <;> (try rw [w265]) <;> (try rw [w266]) <;> (try rw [w267]) <;> (try rw [w268]) <;> (try rw [wg149]) <;> (try rw [wg150]) <;> (try rw [wg151]) <;> (try rw [wg152]) <;> (try rw [wg153]) <;> (try rw [wg154]) <;> (try rw [wg155]) <;> (try rw [wg156]) <;> (try rw [wg157]) <;> (try rw [wg1]) <;> (try rw [wg2]) <;> (try rw [wg3]) <;> (try rw [wg4]) <;> (try rw [wg5]) <;> (try rw [wg6]) <;> (try rw [wg7]) <;> (try rw [wg8]) <;> (try rw [wg9]) <;> omega), (by (try rw [wg269]) <;> (try rw [w264]) <;> (try rw [wg270]) <;> (try rw [wg271]) <;> (try rw [wg272]) <;> (try rw [w265]) <;> (try rw [w266]) <;> (try rw [w267]) <;> (try rw [w268]) <;> (try rw [wg149]) <;> (try rw [wg150]) <;> (try rw [wg151]) <;> (try rw [wg152]) <;> (try rw [wg153]) <;> (try rw [wg154]) <;> (try rw [wg155]) <;> (try rw [wg156]) <;> (try rw [wg157]) <;> (try rw [wg1]) <;> (try rw [wg2]) <;> (try rw [wg3]) <;> (try rw [wg4]) <;> (try rw [wg5]) <;> (try rw [wg6]) <;> (try rw [wg7]) <;> (try rw [wg8]) <;> (try rw [wg9]) <;> omega), ⟨rfl, i2b⟩, (by (try rw [wg269]) <;> (try rw [w264]) <;> (try rw [wg270]) <;> (try rw [wg271]) <;> (try rw [wg272]) <;> (try rw [w265]) <;> (try rw [w266]) <;> (try rw [w267]) <;> (try rw [w268]) <;> (try rw [wg149]) <;> (try rw [wg150]) <;> (try rw [wg151]) <;> (try rw [wg152]) <;> (try rw [wg153]) <;> (try rw [wg154]) <;> (try rw [wg155]) <;> (try rw [wg156]) <;> (try rw [wg157]) <;> (try rw [wg1]) <;> (try rw [wg2]) <;> (try rw [wg3]) <;> (try rw [wg4]) <;> (try rw [wg5]) <;> (try rw [wg6]) <;> (try rw [wg7]) <;> (try rw [wg8]) <;> (try rw [wg9]) <;> omega), HD3, (Int.lt_trans ZL i5), (Or.inr (by (try rw [wg269]) <;> (try rw [w264]) <;> (try rw [wg270]) <;> (try rw [wg271]) <;> (try rw [wg272]) <;> (try rw [w265]) <;> (try rw [w266]) <;> (try rw [w267]) <;> (try rw [w268]) <;> (try rw [wg149]) <;> (try rw [wg150]) <;> (try rw [wg151]) <;> (try rw [wg152]) <;> (try rw [wg153]) <;> (try rw [wg154]) <;> (try rw [wg155]) <;> (try rw [wg156]) <;> (try rw [wg157]) <;> (try rw [wg1]) <;> (try rw [wg2]) <;> (try rw [wg3]) <;> (try rw [wg4]) <;> (try rw [wg5]) <;> (try rw [wg6]) <;> (try rw [wg7]) <;> (try rw [wg8]) <;> (try rw [wg9]) <;> omega)), ot273, ⟨_, _, yR_s RQ (ym2_c ((rKd_n KK2).mp (by omega)) (by omega) (by rw [OQ]; omega) ((rKd_s 44 KK4 (by decide)).mp (by omega))), L4, N4, by rw [V4.1.2.2.2]; exact OQ, by rw [V4.1.1]; exact CQ, EQ2⟩, rfl⟩
        · refine ⟨yk_X9_want, ym_X9_want hg d (by omega), _, rfl, ⟨by omega, by omega⟩, (by (try rw [wg269]) <;> (try rw [w264]) <;> (try rw [wg270]) <;> (try rw [wg271]) <;> (try rw [wg272]) <;> (try rw [w265]) <;> (try rw [w266]) <;> (try rw [w267]) <;> (try rw [w268]) <;> (try rw [wg149]) <;> (try rw [wg150]) <;> (try rw [wg151]) <;> (try rw [wg152]) <;> (try rw [wg153]) <;> (try rw [wg154]) <;> (try rw [wg155]) <;> (try rw [wg156]) <;> (try rw [wg157]) <;> (try rw [wg1]) <;> (try rw [wg2]) <;> (try rw [wg3]) <;> (try rw [wg4]) <;> (try rw [wg5]) <;> (try rw [wg6]) <;> (try rw [wg7]) <;> (try rw [wg8]) <;> (try rw [wg9]) <;> omega), ?_⟩
          intro x276 m277 qm277 kx276 lx276 p278 p279 p280 p281 p282
          have z283 := zfx_t z263 qm277 rfl rfl
          have w284 : m277.1 66 ((30 : Nat) : Int) = g150 := (qm277.2.1 30 rfl).trans w264
          have w285 : m277.1 66 ((26 : Nat) : Int) = g154 := (qm277.2.1 26 rfl).trans w265
          have w286 : m277.1 66 ((27 : Nat) : Int) = (x230 + 1) := (qm277.2.1 27 rfl).trans w266
          have w287 : m277.1 66 ((24 : Nat) : Int) = g156 := (qm277.2.1 24 rfl).trans w267
          have w288 : m277.1 66 ((25 : Nat) : Int) = g157 := (qm277.2.1 25 rfl).trans w268
          obtain ⟨g289, wg289⟩ : ∃ z : Int, m277.1 66 ((31 : Nat) : Int) = z := ⟨_, rfl⟩
          obtain ⟨g290, wg290⟩ : ∃ z : Int, m277.1 66 ((33 : Nat) : Int) = z := ⟨_, rfl⟩
          obtain ⟨g291, wg291⟩ : ∃ z : Int, m277.1 66 ((34 : Nat) : Int) = z := ⟨_, rfl⟩
          obtain ⟨g292, wg292⟩ : ∃ z : Int, m277.1 66 ((32 : Nat) : Int) = z := ⟨_, rfl⟩
          try rw [wg289] at p278
          try rw [w284] at p278
          try rw [wg290] at p278
          try rw [wg291] at p278
          try rw [wg292] at p278
          try rw [w285] at p278
          try rw [w286] at p278
          try rw [w287] at p278
          try rw [w288] at p278
          try rw [wg269] at p278
          try rw [w264] at p278
          try rw [wg270] at p278
          try rw [wg271] at p278
          try rw [wg272] at p278
          try rw [w265] at p278
          try rw [w266] at p278
          try rw [w267] at p278
          try rw [w268] at p278
          try rw [wg1] at p278
          try rw [wg2] at p278
          try rw [wg3] at p278
          try rw [wg4] at p278
          try rw [wg5] at p278
          try rw [wg6] at p278
          try rw [wg7] at p278
          try rw [wg8] at p278
          try rw [wg9] at p278
          try rw [wg289] at p279
          try rw [w284] at p279
          try rw [wg290] at p279
          try rw [wg291] at p279
          try rw [wg292] at p279
          try rw [w285] at p279
          try rw [w286] at p279
          try rw [w287] at p279
          try rw [w288] at p279
          try rw [wg269] at p279
          try rw [w264] at p279
          try rw [wg270] at p279
          try rw [wg271] at p279
          try rw [wg272] at p279
          try rw [w265] at p279
          try rw [w266] at p279
          try rw [w267] at p279
          try rw [w268] at p279
          try rw [wg1] at p279
          try rw [wg2] at p279
          try rw [wg3] at p279
          try rw [wg4] at p279
          try rw [wg5] at p279
          try rw [wg6] at p279
          try rw [wg7] at p279
          try rw [wg8] at p279
          try rw [wg9] at p279
          try rw [wg289] at p280
          try rw [w284] at p280
          try rw [wg290] at p280
          try rw [wg291] at p280
          try rw [wg292] at p280
          try rw [w285] at p280
          try rw [w286] at p280
          try rw [w287] at p280
          try rw [w288] at p280
          try rw [wg269] at p280
          try rw [w264] at p280
          try rw [wg270] at p280
          try rw [wg271] at p280
          try rw [wg272] at p280
          try rw [w265] at p280
          try rw [w266] at p280
          try rw [w267] at p280
          try rw [w268] at p280
          try rw [wg1] at p280
          try rw [wg2] at p280
          try rw [wg3] at p280
          try rw [wg4] at p280
          try rw [wg5] at p280
          try rw [wg6] at p280
          try rw [wg7] at p280
          try rw [wg8] at p280
          try rw [wg9] at p280
          try rw [wg289] at p281
          try rw [w284] at p281
          try rw [wg290] at p281
          try rw [wg291] at p281
          try rw [wg292] at p281
          try rw [w285] at p281
          try rw [w286] at p281
          try rw [w287] at p281
          try rw [w288] at p281
          try rw [wg269] at p281
          try rw [w264] at p281
          try rw [wg270] at p281
          try rw [wg271] at p281
          try rw [wg272] at p281
          try rw [w265] at p281
          try rw [w266] at p281
          try rw [w267] at p281
          try rw [w268] at p281
          try rw [wg1] at p281
          try rw [wg2] at p281
          try rw [wg3] at p281
          try rw [wg4] at p281
          try rw [wg5] at p281
          try rw [wg6] at p281
          try rw [wg7] at p281
          try rw [wg8] at p281
          try rw [wg9] at p281
          clear wg269 w264 wg270 wg271 wg272 w265 w266 w267 w268
          have ot293 := zOt_fr ot273 (qm277.1 76 (by decide) rfl) (qm277.1 77 (by decide) rfl) (qm277.1 78 (by decide) rfl) (qm277.1 79 (by decide) rfl) (qm277.1 80 (by decide) rfl) (qm277.1 83 (by decide) rfl) (qm277.1 84 (by decide) rfl)
          have HD4 := zHd_fr HD3 (qm277.1 76 (by decide) rfl) (qm277.1 77 (by decide) rfl) (qm277.1 79 (by decide) rfl) (qm277.1 84 (by decide) rfl) (qm277.2.1 26 rfl) (qm277.2.1 27 rfl)
          have ZW : x276 = 1 → zrm m277 < zrm m0 := fun h => (by unfold zrm; simp only [wg289, w284, wg290, wg291, wg292, w285, w286, w287, w288, wg149, wg150, wg151, wg152, wg153, wg154, wg155, wg156, wg157, wg1, wg2, wg3, wg4, wg5, wg6, wg7, wg8, wg9]; (repeat' split) <;> omega)
          exact And.intro (zrtb (by omega)) (And.intro ⟨by omega, by omega⟩ (hQ _ _ z283 (by omega) (by omega) (by (try rw [wg289]) <;> (try rw [w284]) <;> (try rw [wg290]) <;> (try rw [wg291]) <;> (try rw [wg292]) <;> (try rw [w285]) <;> (try rw [w286]) <;> (try rw [w287]) <;> (try rw [w288]) <;> (try rw [wg149]) <;> (try rw [wg150]) <;> (try rw [wg151]) <;> (try rw [wg152]) <;> (try rw [wg153]) <;> (try rw [wg154]) <;> (try rw [wg155]) <;> (try rw [wg156]) <;> (try rw [wg157]) <;> (try rw [wg1]) <;> (try rw [wg2]) <;> (try rw [wg3]) <;> (try rw [wg4]) <;> (try rw [wg5]) <;> (try rw [wg6]) <;> (try rw [wg7]) <;> (try rw [wg8]) <;> (try rw [wg9]) <;> omega) (by (try rw [wg289]) <;> (try rw [w284]) <;> (try rw [wg290]) <;> (try rw [wg291]) <;> (try rw [wg292]) <;> (try rw [w285]) <;> (try rw [w286]) <;> (try rw [w287]) <;> (try rw [w288]) <;> (try rw [wg149]) <;> (try rw [wg150]) <;> (try rw [wg151]) <;> (try rw [wg152]) <;> (try rw [wg153]) <;> (try rw [wg154]) <;> (try rw [wg155]) <;> (try rw [wg156]) <;> (try rw [wg157]) <;> (try rw [wg1]) <;> (try rw [wg2]) <;> (try rw [wg3]) <;> (try rw [wg4]) <;> (try rw [wg5]) <;> (try rw [wg6]) <;> (try rw [wg7]) <;> (try rw [wg8]) <;> (try rw [wg9]) <;> omega) (fun h => ⟨by omega, HD4, Int.lt_trans (ZW h) i5⟩) ot293 (by rcases p282 with h0 | h0; exact Or.inl ⟨h0.1, rFa_t RQ (rFa_f L4 N4.1.2.2.2.2.2 (yR_s (yR_r τ _) (ym2_f ((rKd_n KK2).mp (by omega)) (by omega) (by rw [OQ]; omega) (fun h1 => h0.2.1 ((rKd_s 62 KK4 (by decide)).mpr h1)) (fun h1 => by have h2 := (rKd_s 44 KK4 (by decide)).mpr h1; omega))) h0.2.2)⟩; exact Or.inr ⟨h0.1, _, _, yR_s RQ (ym2_g ((rKd_n KK2).mp (by omega)) (by omega) (by rw [OQ]; omega) ((rKd_s 62 KK4 (by decide)).mp h0.2.1)), rLx_p L4 (qm277.1 85 (by decide) rfl) (qm277.2.1 30 rfl) h0.2.2.1, (rNu_f N4 (fun j hj => qm277.1 j (by rcases hj with h | h | h | h | h | h <;> rw [h] <;> decide) (by rcases hj with h | h | h | h | h | h <;> rw [h] <;> rfl)) (fun k hk => by rcases hk with h | h | h | h | h | h <;> subst h <;> first | exact qm277.2.1 _ rfl | exact h0.2.2.2)), by rw [V4.1.2.2.2]; exact OQ, EQ2⟩)))
      · refine ⟨yk_X9_fail, ym_X9_fail hg d (by omega), _, rfl, ⟨by omega, by omega⟩, ?_⟩
        intro x294 m295 qm295 kx294 lx294 p296
        have z297 := zfx_t z164 qm295 rfl rfl
        have w298 : m295.1 66 ((31 : Nat) : Int) = g170 := (qm295.2.1 31 rfl).trans wg170
        have w299 : m295.1 66 ((30 : Nat) : Int) = g150 := (qm295.2.1 30 rfl).trans w165
        have w300 : m295.1 66 ((33 : Nat) : Int) = g171 := (qm295.2.1 33 rfl).trans wg171
        have w301 : m295.1 66 ((34 : Nat) : Int) = g172 := (qm295.2.1 34 rfl).trans wg172
        have w302 : m295.1 66 ((32 : Nat) : Int) = g173 := (qm295.2.1 32 rfl).trans wg173
        have w303 : m295.1 66 ((26 : Nat) : Int) = g154 := (qm295.2.1 26 rfl).trans w166
        have w304 : m295.1 66 ((27 : Nat) : Int) = g155 := (qm295.2.1 27 rfl).trans w167
        have w305 : m295.1 66 ((24 : Nat) : Int) = g156 := (qm295.2.1 24 rfl).trans w168
        have w306 : m295.1 66 ((25 : Nat) : Int) = g157 := (qm295.2.1 25 rfl).trans w169
        clear wg170 w165 wg171 wg172 wg173 w166 w167 w168 w169
        have ot307 := zOt_fr ot174 (qm295.1 76 (by decide) rfl) (qm295.1 77 (by decide) rfl) (qm295.1 78 (by decide) rfl) (qm295.1 79 (by decide) rfl) (qm295.1 80 (by decide) rfl) (qm295.1 83 (by decide) rfl) (qm295.1 84 (by decide) rfl)
        exact And.intro (zrtb (by omega)) (And.intro ⟨by omega, by omega⟩ (hQ _ _ z297 (by omega) (by omega) (by (try rw [w298]) <;> (try rw [w299]) <;> (try rw [w300]) <;> (try rw [w301]) <;> (try rw [w302]) <;> (try rw [w303]) <;> (try rw [w304]) <;> (try rw [w305]) <;> (try rw [w306]) <;> (try rw [wg149]) <;> (try rw [wg150]) <;> (try rw [wg151]) <;> (try rw [wg152]) <;> (try rw [wg153]) <;> (try rw [wg154]) <;> (try rw [wg155]) <;> (try rw [wg156]) <;> (try rw [wg157]) <;> (try rw [wg1]) <;> (try rw [wg2]) <;> (try rw [wg3]) <;> (try rw [wg4]) <;> (try rw [wg5]) <;> (try rw [wg6]) <;> (try rw [wg7]) <;> (try rw [wg8]) <;> (try rw [wg9]) <;> omega) (by (try rw [w298]) <;> (try rw [w299]) <;> (try rw [w300]) <;> (try rw [w301]) <;> (try rw [w302]) <;> (try rw [w303]) <;> (try rw [w304]) <;> (try rw [w305]) <;> (try rw [w306]) <;> (try rw [wg149]) <;> (try rw [wg150]) <;> (try rw [wg151]) <;> (try rw [wg152]) <;> (try rw [wg153]) <;> (try rw [wg154]) <;> (try rw [wg155]) <;> (try rw [wg156]) <;> (try rw [wg157]) <;> (try rw [wg1]) <;> (try rw [wg2]) <;> (try rw [wg3]) <;> (try rw [wg4]) <;> (try rw [wg5]) <;> (try rw [wg6]) <;> (try rw [wg7]) <;> (try rw [wg8]) <;> (try rw [wg9]) <;> omega) (fun h => by exfalso; omega) ot307 (Or.inl ⟨by omega, rFa_t RQ (rFa_f L2 N2.1.2.2.2.2.2 (yR_s (yR_r τ _) (ym2_6 ((rKd_n KK2).mp (by omega)) (by omega) (by rw [OQ]; omega))) p296)⟩)))
    · refine ⟨yk_X9_fail, ym_X9_fail hg d (by omega), _, rfl, ⟨by omega, by omega⟩, ?_⟩
      intro x308 m309 qm309 kx308 lx308 p310
      have z311 := zfx_t z164 qm309 rfl rfl
      have w312 : m309.1 66 ((31 : Nat) : Int) = g170 := (qm309.2.1 31 rfl).trans wg170
      have w313 : m309.1 66 ((30 : Nat) : Int) = g150 := (qm309.2.1 30 rfl).trans w165
      have w314 : m309.1 66 ((33 : Nat) : Int) = g171 := (qm309.2.1 33 rfl).trans wg171
      have w315 : m309.1 66 ((34 : Nat) : Int) = g172 := (qm309.2.1 34 rfl).trans wg172
      have w316 : m309.1 66 ((32 : Nat) : Int) = g173 := (qm309.2.1 32 rfl).trans wg173
      have w317 : m309.1 66 ((26 : Nat) : Int) = g154 := (qm309.2.1 26 rfl).trans w166
      have w318 : m309.1 66 ((27 : Nat) : Int) = g155 := (qm309.2.1 27 rfl).trans w167
      have w319 : m309.1 66 ((24 : Nat) : Int) = g156 := (qm309.2.1 24 rfl).trans w168
      have w320 : m309.1 66 ((25 : Nat) : Int) = g157 := (qm309.2.1 25 rfl).trans w169
      clear wg170 w165 wg171 wg172 wg173 w166 w167 w168 w169
      have ot321 := zOt_fr ot174 (qm309.1 76 (by decide) rfl) (qm309.1 77 (by decide) rfl) (qm309.1 78 (by decide) rfl) (qm309.1 79 (by decide) rfl) (qm309.1 80 (by decide) rfl) (qm309.1 83 (by decide) rfl) (qm309.1 84 (by decide) rfl)
      exact And.intro (zrtb (by omega)) (And.intro ⟨by omega, by omega⟩ (hQ _ _ z311 (by omega) (by omega) (by (try rw [w312]) <;> (try rw [w313]) <;> (try rw [w314]) <;> (try rw [w315]) <;> (try rw [w316]) <;> (try rw [w317]) <;> (try rw [w318]) <;> (try rw [w319]) <;> (try rw [w320]) <;> (try rw [wg149]) <;> (try rw [wg150]) <;> (try rw [wg151]) <;> (try rw [wg152]) <;> (try rw [wg153]) <;> (try rw [wg154]) <;> (try rw [wg155]) <;> (try rw [wg156]) <;> (try rw [wg157]) <;> (try rw [wg1]) <;> (try rw [wg2]) <;> (try rw [wg3]) <;> (try rw [wg4]) <;> (try rw [wg5]) <;> (try rw [wg6]) <;> (try rw [wg7]) <;> (try rw [wg8]) <;> (try rw [wg9]) <;> omega) (by (try rw [w312]) <;> (try rw [w313]) <;> (try rw [w314]) <;> (try rw [w315]) <;> (try rw [w316]) <;> (try rw [w317]) <;> (try rw [w318]) <;> (try rw [w319]) <;> (try rw [w320]) <;> (try rw [wg149]) <;> (try rw [wg150]) <;> (try rw [wg151]) <;> (try rw [wg152]) <;> (try rw [wg153]) <;> (try rw [wg154]) <;> (try rw [wg155]) <;> (try rw [wg156]) <;> (try rw [wg157]) <;> (try rw [wg1]) <;> (try rw [wg2]) <;> (try rw [wg3]) <;> (try rw [wg4]) <;> (try rw [wg5]) <;> (try rw [wg6]) <;> (try rw [wg7]) <;> (try rw [wg8]) <;> (try rw [wg9]) <;> omega) (fun h => by exfalso; omega) ot321 (Or.inl ⟨by omega, rFa_t RQ (rFa_f L2 N2.1.2.2.2.2.2 (yR_s (yR_r τ _) (ym2_3 ((rKd_n KK2).mp (by omega)) (by omega))) p310)⟩)))
  · refine ⟨yk_X9_fail, ym_X9_fail hg d (by omega), _, rfl, ⟨by omega, by omega⟩, ?_⟩
    intro x322 m323 qm323 kx322 lx322 p324
    have z325 := zfx_t z164 qm323 rfl rfl
    have w326 : m323.1 66 ((31 : Nat) : Int) = g170 := (qm323.2.1 31 rfl).trans wg170
    have w327 : m323.1 66 ((30 : Nat) : Int) = g150 := (qm323.2.1 30 rfl).trans w165
    have w328 : m323.1 66 ((33 : Nat) : Int) = g171 := (qm323.2.1 33 rfl).trans wg171
    have w329 : m323.1 66 ((34 : Nat) : Int) = g172 := (qm323.2.1 34 rfl).trans wg172
    have w330 : m323.1 66 ((32 : Nat) : Int) = g173 := (qm323.2.1 32 rfl).trans wg173
    have w331 : m323.1 66 ((26 : Nat) : Int) = g154 := (qm323.2.1 26 rfl).trans w166
    have w332 : m323.1 66 ((27 : Nat) : Int) = g155 := (qm323.2.1 27 rfl).trans w167
    have w333 : m323.1 66 ((24 : Nat) : Int) = g156 := (qm323.2.1 24 rfl).trans w168
    have w334 : m323.1 66 ((25 : Nat) : Int) = g157 := (qm323.2.1 25 rfl).trans w169
    clear wg170 w165 wg171 wg172 wg173 w166 w167 w168 w169
    have ot335 := zOt_fr ot174 (qm323.1 76 (by decide) rfl) (qm323.1 77 (by decide) rfl) (qm323.1 78 (by decide) rfl) (qm323.1 79 (by decide) rfl) (qm323.1 80 (by decide) rfl) (qm323.1 83 (by decide) rfl) (qm323.1 84 (by decide) rfl)
    exact And.intro (zrtb (by omega)) (And.intro ⟨by omega, by omega⟩ (hQ _ _ z325 (by omega) (by omega) (by (try rw [w326]) <;> (try rw [w327]) <;> (try rw [w328]) <;> (try rw [w329]) <;> (try rw [w330]) <;> (try rw [w331]) <;> (try rw [w332]) <;> (try rw [w333]) <;> (try rw [w334]) <;> (try rw [wg149]) <;> (try rw [wg150]) <;> (try rw [wg151]) <;> (try rw [wg152]) <;> (try rw [wg153]) <;> (try rw [wg154]) <;> (try rw [wg155]) <;> (try rw [wg156]) <;> (try rw [wg157]) <;> (try rw [wg1]) <;> (try rw [wg2]) <;> (try rw [wg3]) <;> (try rw [wg4]) <;> (try rw [wg5]) <;> (try rw [wg6]) <;> (try rw [wg7]) <;> (try rw [wg8]) <;> (try rw [wg9]) <;> omega) (by (try rw [w326]) <;> (try rw [w327]) <;> (try rw [w328]) <;> (try rw [w329]) <;> (try rw [w330]) <;> (try rw [w331]) <;> (try rw [w332]) <;> (try rw [w333]) <;> (try rw [w334]) <;> (try rw [wg149]) <;> (try rw [wg150]) <;> (try rw [wg151]) <;> (try rw [wg152]) <;> (try rw [wg153]) <;> (try rw [wg154]) <;> (try rw [wg155]) <;> (try rw [wg156]) <;> (try rw [wg157]) <;> (try rw [wg1]) <;> (try rw [wg2]) <;> (try rw [wg3]) <;> (try rw [wg4]) <;> (try rw [wg5]) <;> (try rw [wg6]) <;> (try rw [wg7]) <;> (try rw [wg8]) <;> (try rw [wg9]) <;> omega) (fun h => by exfalso; omega) ot335 (Or.inl ⟨by omega, rFa_t RQ (rFa_f L2 N2.1.2.2.2.2.2 (yR_s (yR_r τ _) (ym2_2 (fun h0 => by have h1 := (rKd_n KK2).mpr h0; omega))) p324)⟩)))
