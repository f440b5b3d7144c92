def gk_X9_readPlace : zC := fun As μ Q => ∃ (lo : Int) (C : Int) (Pn : Int) (F : Int) (cf : Int → Int) (τ : yT) (B : yB) (cb : Int) (pb : Int), As = [.inr (.inr (66, 66))] ∧ (0 ≤ μ.1 66 ((33 : Nat) : Int) ∧ 0 ≤ μ.1 66 ((34 : Nat) : Int) ∧ μ.1 66 ((33 : Nat) : Int) + μ.1 66 ((34 : Nat) : Int) ≤ μ.1 66 ((31 : Nat) : Int) ∧ μ.1 66 ((31 : Nat) : Int) ≤ μ.1 66 ((30 : Nat) : Int) ∧ μ.1 66 ((30 : Nat) : Int) ≤ 800) ∧ (zND μ lo) ∧ (zWf μ lo (zTop μ) C Pn F cf) ∧ (μ.1 66 ((26 : Nat) : Int) ≤ C ∧ (∀ c : Int, 0 ≤ c → c < C → μ.1 76 (μ.1 66 ((24 : Nat) : Int) + c) + μ.1 77 (μ.1 66 ((24 : Nat) : Int) + c) ≤ Pn) ∧ C ≤ 21 ∧ Pn ≤ 80) ∧ (∀ v : Int, 0 ≤ v → v < C → cf v = μ.1 77 (μ.1 66 ((24 : Nat) : Int) + v)) ∧ (μ.1 66 ((8 : Nat) : Int) - μ.1 66 ((38 : Nat) : Int) ≤ 19699 ∧ 0 ≤ μ.1 66 ((38 : Nat) : Int) ∧ μ.1 66 ((38 : Nat) : Int) ≤ 300) ∧ (0 ≤ μ.1 66 ((26 : Nat) : Int)) ∧ (rLx μ τ 0 ∧ rNg cb pb μ (yN B 0 2 0)) ∧ (yI0 B) ∧ (C = B.1 0 0) ∧ (∀ (v : Int) (μ' : zM), zfx [67, 68, 69, 70, 71, 72, 73, 74, 100, 101, 102, 103, 104] [8, 31, 32, 33, 34, 35, 36, 38, 70, 71, 72] μ μ' → 0 ≤ v → v ≤ 1 → (0 ≤ μ'.1 66 ((33 : Nat) : Int) ∧ 0 ≤ μ'.1 66 ((34 : Nat) : Int) ∧ μ'.1 66 ((33 : Nat) : Int) + μ'.1 66 ((34 : Nat) : Int) ≤ μ'.1 66 ((31 : Nat) : Int) ∧ μ'.1 66 ((31 : Nat) : Int) ≤ μ'.1 66 ((30 : Nat) : Int) ∧ μ'.1 66 ((30 : Nat) : Int) ≤ 800) → (zTE μ μ' lo C Pn F cf) → (0 ≤ μ'.1 66 ((38 : Nat) : Int) ∧ μ'.1 66 ((38 : Nat) : Int) ≤ 300 ∧ μ'.1 66 ((30 : Nat) : Int) = μ.1 66 ((30 : Nat) : Int)) → (v = 1 → zTy μ' (μ'.1 66 ((71 : Nat) : Int)) ∧ 0 ≤ μ'.1 66 ((72 : Nat) : Int) ∧ μ'.1 66 ((72 : Nat) : Int) < μ.1 66 ((26 : Nat) : Int)) → ((v = 1 ∧ yQp τ B 0 0 ∧ μ'.1 66 ((35 : Nat) : Int) = 0 ∧ ∃ (o k : Int) (L : List Int), yPl τ B o L k ∧ rE μ' (μ'.1 66 ((71 : Nat) : Int)) L ∧ μ'.1 66 ((72 : Nat) : Int) = k) ∨ (v = 0 ∧ ∃ x l, yQp τ B x l ∧ μ'.1 66 ((35 : Nat) : Int) = x ∧ μ'.1 66 ((36 : Nat) : Int) = l ∧ x ≠ 0)) → Q (some (.inl v)) μ')
set_option maxHeartbeats 4000000 in
theorem gm_X9_readPlace {g : zΓ} (hg : zg g) (d : Nat) (hd : 6 ≤ d) : zOk g d 158 gk_X9_readPlace := by
  obtain ⟨d, rfl⟩ : ∃ d', d = d' + 1 := ⟨d - 1, by omega⟩
  refine zOk_straight hg (show mt_tab[158]? = some mt_X9_readPlace from rfl) [] 62 rfl fun As μ Q hC => ?_
  obtain ⟨lo, C, Pn, F, cf, τ, B, cb, pb, rfl, hp0, hp1, hp2, hp3, hp4, hp5, hp6, hp7, hp8, hp9, hQ⟩ := hC
  obtain ⟨g1, wg1⟩ : ∃ z : Int, μ.1 66 ((31 : Nat) : Int) = z := ⟨_, rfl⟩
  obtain ⟨g2, wg2⟩ : ∃ z : Int, μ.1 66 ((30 : Nat) : Int) = z := ⟨_, rfl⟩
  obtain ⟨g3, wg3⟩ : ∃ z : Int, μ.1 66 ((33 : Nat) : Int) = z := ⟨_, rfl⟩
  obtain ⟨g4, wg4⟩ : ∃ z : Int, μ.1 66 ((34 : Nat) : Int) = z := ⟨_, rfl⟩
  obtain ⟨g5, wg5⟩ : ∃ z : Int, μ.1 66 ((32 : Nat) : Int) = z := ⟨_, rfl⟩
  obtain ⟨g6, wg6⟩ : ∃ z : Int, μ.1 66 ((38 : Nat) : Int) = z := ⟨_, rfl⟩
  obtain ⟨g7, wg7⟩ : ∃ z : Int, μ.1 66 ((8 : Nat) : Int) = z := ⟨_, rfl⟩
  obtain ⟨g8, wg8⟩ : ∃ z : Int, μ.1 66 ((71 : Nat) : Int) = z := ⟨_, rfl⟩
  obtain ⟨g9, wg9⟩ : ∃ z : Int, μ.1 66 ((72 : Nat) : Int) = z := ⟨_, rfl⟩
  obtain ⟨g10, wg10⟩ : ∃ z : Int, μ.1 66 ((70 : Nat) : Int) = z := ⟨_, rfl⟩
  obtain ⟨g11, wg11⟩ : ∃ z : Int, μ.1 66 ((26 : Nat) : Int) = z := ⟨_, rfl⟩
  try rw [wg1] at hp0
  try rw [wg2] at hp0
  try rw [wg3] at hp0
  try rw [wg4] at hp0
  try rw [wg5] at hp0
  try rw [wg6] at hp0
  try rw [wg7] at hp0
  try rw [wg8] at hp0
  try rw [wg9] at hp0
  try rw [wg10] at hp0
  try rw [wg11] at hp0
  try rw [wg1] at hp1
  try rw [wg2] at hp1
  try rw [wg3] at hp1
  try rw [wg4] at hp1
  try rw [wg5] at hp1
  try rw [wg6] at hp1
  try rw [wg7] at hp1
  try rw [wg8] at hp1
  try rw [wg9] at hp1
  try rw [wg10] at hp1
  try rw [wg11] at hp1
  try rw [wg1] at hp2
  try rw [wg2] at hp2
  try rw [wg3] at hp2
  try rw [wg4] at hp2
  try rw [wg5] at hp2
  try rw [wg6] at hp2
  try rw [wg7] at hp2
  try rw [wg8] at hp2
  try rw [wg9] at hp2
  try rw [wg10] at hp2
  try rw [wg11] at hp2
  try rw [wg1] at hp3
  try rw [wg2] at hp3
  try rw [wg3] at hp3
  try rw [wg4] at hp3
  try rw [wg5] at hp3
  try rw [wg6] at hp3
  try rw [wg7] at hp3
  try rw [wg8] at hp3
  try rw [wg9] at hp3
  try rw [wg10] at hp3
  try rw [wg11] at hp3
  try rw [wg1] at hp4
  try rw [wg2] at hp4
  try rw [wg3] at hp4
  try rw [wg4] at hp4
  try rw [wg5] at hp4
  try rw [wg6] at hp4
  try rw [wg7] at hp4
  try rw [wg8] at hp4
  try rw [wg9] at hp4
  try rw [wg10] at hp4
  try rw [wg11] at hp4
  try rw [wg1] at hp5
  try rw [wg2] at hp5
  try rw [wg3] at hp5
  try rw [wg4] at hp5
  try rw [wg5] at hp5
  try rw [wg6] at hp5
  try rw [wg7] at hp5
  try rw [wg8] at hp5
  try rw [wg9] at hp5
  try rw [wg10] at hp5
  try rw [wg11] at hp5
  try rw [wg1] at hp6
  try rw [wg2] at hp6
  try rw [wg3] at hp6
  try rw [wg4] at hp6
  try rw [wg5] at hp6
  try rw [wg6] at hp6
  try rw [wg7] at hp6
  try rw [wg8] at hp6
  try rw [wg9] at hp6
  try rw [wg10] at hp6
  try rw [wg11] at hp6
  try rw [wg1] at hp7
  try rw [wg2] at hp7
  try rw [wg3] at hp7
  try rw [wg4] at hp7
  try rw [wg5] at hp7
  try rw [wg6] at hp7
  try rw [wg7] at hp7
  try rw [wg8] at hp7
  try rw [wg9] at hp7
  try rw [wg10] at hp7
  try rw [wg11] at hp7
  try rw [wg1] at hp8
  try rw [wg2] at hp8
  try rw [wg3] at hp8
  try rw [wg4] at hp8
  try rw [wg5] at hp8
  try rw [wg6] at hp8
  try rw [wg7] at hp8
  try rw [wg8] at hp8
  try rw [wg9] at hp8
  try rw [wg10] at hp8
  try rw [wg11] at hp8
  try rw [wg1] at hp9
  try rw [wg2] at hp9
  try rw [wg3] at hp9
  try rw [wg4] at hp9
  try rw [wg5] at hp9
  try rw [wg6] at hp9
  try rw [wg7] at hp9
  try rw [wg8] at hp9
  try rw [wg9] at hp9
  try rw [wg10] at hp9
  try rw [wg11] at hp9
  refine ⟨rfl, ?_⟩
  have z0 : zfx [67, 68, 69, 70, 71, 72, 73, 74, 100, 101, 102, 103, 104] [8, 31, 32, 33, 34, 35, 36, 38, 70, 71, 72] μ μ := zfx_x μ
  have TE0 := zTE_r hp1 hp2
  refine ⟨yk_X9_readIn, ym_X9_readIn hg d (by omega), τ, B, _, _, rfl, (by (try rw [wg1]) <;> (try rw [wg2]) <;> (try rw [wg3]) <;> (try rw [wg4]) <;> (try rw [wg5]) <;> (try rw [wg6]) <;> (try rw [wg7]) <;> (try rw [wg8]) <;> (try rw [wg9]) <;> (try rw [wg10]) <;> (try rw [wg11]) <;> omega), (by (try rw [wg1]) <;> (try rw [wg2]) <;> (try rw [wg3]) <;> (try rw [wg4]) <;> (try rw [wg5]) <;> (try rw [wg6]) <;> (try rw [wg7]) <;> (try rw [wg8]) <;> (try rw [wg9]) <;> (try rw [wg10]) <;> (try rw [wg11]) <;> omega), hp7.1, hp7.2, hp8.1.1.1, ?_⟩
  intro x12 m13 qm13 kx12 lx12 p14 p15 p16 p17
  have z18 := zfx_t z0 qm13 rfl rfl
  have w19 : m13.1 66 ((30 : Nat) : Int) = g2 := (qm13.2.1 30 rfl).trans wg2
  have w20 : m13.1 66 ((38 : Nat) : Int) = g6 := (qm13.2.1 38 rfl).trans wg6
  have w21 : m13.1 66 ((8 : Nat) : Int) = g7 := (qm13.2.1 8 rfl).trans wg7
  have w22 : m13.1 66 ((71 : Nat) : Int) = g8 := (qm13.2.1 71 rfl).trans wg8
  have w23 : m13.1 66 ((72 : Nat) : Int) = g9 := (qm13.2.1 72 rfl).trans wg9
  have w24 : m13.1 66 ((26 : Nat) : Int) = g11 := (qm13.2.1 26 rfl).trans wg11
  obtain ⟨g25, wg25⟩ : ∃ z : Int, m13.1 66 ((31 : Nat) : Int) = z := ⟨_, rfl⟩
  obtain ⟨g26, wg26⟩ : ∃ z : Int, m13.1 66 ((33 : Nat) : Int) = z := ⟨_, rfl⟩
  obtain ⟨g27, wg27⟩ : ∃ z : Int, m13.1 66 ((34 : Nat) : Int) = z := ⟨_, rfl⟩
  obtain ⟨g28, wg28⟩ : ∃ z : Int, m13.1 66 ((32 : Nat) : Int) = z := ⟨_, rfl⟩
  obtain ⟨g29, wg29⟩ : ∃ z : Int, m13.1 66 ((70 : Nat) : Int) = z := ⟨_, rfl⟩
  try rw [wg25] at p14
  try rw [w19] at p14
  try rw [wg26] at p14
  try rw [wg27] at p14
  try rw [wg28] at p14
  try rw [w20] at p14
  try rw [w21] at p14
  try rw [w22] at p14
  try rw [w23] at p14
  try rw [wg29] at p14
  try rw [w24] at p14
  try rw [wg1] at p14
  try rw [wg2] at p14
  try rw [wg3] at p14
  try rw [wg4] at p14
  try rw [wg5] at p14
  try rw [wg6] at p14
  try rw [wg7] at p14
  try rw [wg8] at p14
  try rw [wg9] at p14
  try rw [wg10] at p14
  try rw [wg11] at p14
  try rw [wg25] at p15
  try rw [w19] at p15
  try rw [wg26] at p15
  try rw [wg27] at p15
  try rw [wg28] at p15
  try rw [w20] at p15
  try rw [w21] at p15
  try rw [w22] at p15
  try rw [w23] at p15
  try rw [wg29] at p15
  try rw [w24] at p15
  try rw [wg1] at p15
  try rw [wg2] at p15
  try rw [wg3] at p15
  try rw [wg4] at p15
  try rw [wg5] at p15
  try rw [wg6] at p15
  try rw [wg7] at p15
  try rw [wg8] at p15
  try rw [wg9] at p15
  try rw [wg10] at p15
  try rw [wg11] at p15
  try rw [wg25] at p16
  try rw [w19] at p16
  try rw [wg26] at p16
  try rw [wg27] at p16
  try rw [wg28] at p16
  try rw [w20] at p16
  try rw [w21] at p16
  try rw [w22] at p16
  try rw [w23] at p16
  try rw [wg29] at p16
  try rw [w24] at p16
  try rw [wg1] at p16
  try rw [wg2] at p16
  try rw [wg3] at p16
  try rw [wg4] at p16
  try rw [wg5] at p16
  try rw [wg6] at p16
  try rw [wg7] at p16
  try rw [wg8] at p16
  try rw [wg9] at p16
  try rw [wg10] at p16
  try rw [wg11] at p16
  have TE30 := zTE_fr (m' := m13) TE0 (fun j a b => qm13.1 j (by omega) (zanyF (by simp <;> omega))) (qm13.2.1 8 rfl) (qm13.2.1 38 rfl)
  refine And.intro ⟨by omega, by omega⟩ (And.intro (fun c31 => ?_) (fun c31 => ?_))
  · obtain ⟨o, p0, QP, L1, N1, O1, OB⟩ := (by rcases p17 with h0 | h0; exact h0.2; (exfalso; have h2 := h0.1; omega) : ∃ o p, yqo τ B = .inl (o, p) ∧ rLx m13 τ p ∧ rNg cb pb m13 (yN B 0 2 0) ∧ m13.1 66 ((70 : Nat) : Int) = o ∧ (-1 ≤ o ∧ o < B.1 0 0))
    have V1 := yQB_v B 0 o 4
    intro x32 hx32 kx32 lx32
    rw [wg29] at hx32
    refine ⟨yk_X9_readType, ym_X9_readType hg d (by omega), _, _, _, _, _, _, _, _, _, _, τ, p0, (yQB B 0 o 4), _, _, rfl, ⟨by omega, by omega⟩, ⟨by omega, by omega⟩, ⟨by omega, by omega⟩, (by (try rw [wg25]) <;> (try rw [w19]) <;> (try rw [wg26]) <;> (try rw [wg27]) <;> (try rw [wg28]) <;> (try rw [w20]) <;> (try rw [w21]) <;> (try rw [w22]) <;> (try rw [w23]) <;> (try rw [wg29]) <;> (try rw [w24]) <;> (try rw [wg1]) <;> (try rw [wg2]) <;> (try rw [wg3]) <;> (try rw [wg4]) <;> (try rw [wg5]) <;> (try rw [wg6]) <;> (try rw [wg7]) <;> (try rw [wg8]) <;> (try rw [wg9]) <;> (try rw [wg10]) <;> (try rw [wg11]) <;> omega), TE30.1.1, TE30.1.2.1, ⟨by first | (rw [show m13.1 66 ((26 : Nat) : Int) = μ.1 66 ((26 : Nat) : Int) from z18.2.1 26 rfl]; exact hp3.1) | (exact (by (try rw [wg25]) <;> (try rw [w19]) <;> (try rw [wg26]) <;> (try rw [wg27]) <;> (try rw [wg28]) <;> (try rw [w20]) <;> (try rw [w21]) <;> (try rw [w22]) <;> (try rw [w23]) <;> (try rw [wg29]) <;> (try rw [w24]) <;> (try rw [wg1]) <;> (try rw [wg2]) <;> (try rw [wg3]) <;> (try rw [wg4]) <;> (try rw [wg5]) <;> (try rw [wg6]) <;> (try rw [wg7]) <;> (try rw [wg8]) <;> (try rw [wg9]) <;> (try rw [wg10]) <;> (try rw [wg11]) <;> omega)), fun h => by rw [show m13.1 76 = μ.1 76 from z18.1 76 (by decide) rfl, show m13.1 77 = μ.1 77 from z18.1 77 (by decide) rfl, show m13.1 66 ((24 : Nat) : Int) = μ.1 66 ((24 : Nat) : Int) from z18.2.1 24 rfl]; exact hp3.2.1 _ h (by omega), hp3.2.2⟩, (fun v a b => by rw [show m13.1 77 = μ.1 77 from z18.1 77 (by decide) rfl, show m13.1 66 ((24 : Nat) : Int) = μ.1 66 ((24 : Nat) : Int) from z18.2.1 24 rfl]; exact hp4 v a b), (by (try rw [w21]); (try rw [w20]); exact ⟨zTE_pre TE30 w21 w20 wg7 wg6 hp5.1, by omega, by omega⟩), (fun _ => ⟨Int.le_refl _, Int.le_refl _⟩), ⟨L1, rNg_q N1⟩, ⟨yI0_q hp8 OB, by rw [V1.2.2.2.1]; first | exact O1.symm | omega⟩, ⟨by rw [V1.1], by rw [V1.2.1, if_pos rfl]⟩, (by rw [V1.2.2.2.2.1]; exact hp9), ?_⟩
    intro x33 m34 qm34 kx33 lx33 p35 p36 p37 p38 p39 p40 p41 p42
    have z43 := zfx_t z18 qm34 rfl rfl
    have w44 : m34.1 66 ((30 : Nat) : Int) = g2 := (qm34.2.1 30 rfl).trans w19
    have w45 : m34.1 66 ((71 : Nat) : Int) = g8 := (qm34.2.1 71 rfl).trans w22
    have w46 : m34.1 66 ((72 : Nat) : Int) = g9 := (qm34.2.1 72 rfl).trans w23
    have w47 : m34.1 66 ((70 : Nat) : Int) = g29 := (qm34.2.1 70 rfl).trans wg29
    have w48 : m34.1 66 ((26 : Nat) : Int) = g11 := (qm34.2.1 26 rfl).trans w24
    obtain ⟨g49, wg49⟩ : ∃ z : Int, m34.1 66 ((31 : Nat) : Int) = z := ⟨_, rfl⟩
    obtain ⟨g50, wg50⟩ : ∃ z : Int, m34.1 66 ((33 : Nat) : Int) = z := ⟨_, rfl⟩
    obtain ⟨g51, wg51⟩ : ∃ z : Int, m34.1 66 ((34 : Nat) : Int) = z := ⟨_, rfl⟩
    obtain ⟨g52, wg52⟩ : ∃ z : Int, m34.1 66 ((32 : Nat) : Int) = z := ⟨_, rfl⟩
    obtain ⟨g53, wg53⟩ : ∃ z : Int, m34.1 66 ((38 : Nat) : Int) = z := ⟨_, rfl⟩
    obtain ⟨g54, wg54⟩ : ∃ z : Int, m34.1 66 ((8 : Nat) : Int) = z := ⟨_, rfl⟩
    try rw [wg49] at p35
    try rw [w44] at p35
    try rw [wg50] at p35
    try rw [wg51] at p35
    try rw [wg52] at p35
    try rw [wg53] at p35
    try rw [wg54] at p35
    try rw [w45] at p35
    try rw [w46] at p35
    try rw [w47] at p35
    try rw [w48] at p35
    try rw [wg25] at p35
    try rw [w19] at p35
    try rw [wg26] at p35
    try rw [wg27] at p35
    try rw [wg28] at p35
    try rw [w20] at p35
    try rw [w21] at p35
    try rw [w22] at p35
    try rw [w23] at p35
    try rw [wg29] at p35
    try rw [w24] at p35
    try rw [wg1] at p35
    try rw [wg2] at p35
    try rw [wg3] at p35
    try rw [wg4] at p35
    try rw [wg5] at p35
    try rw [wg6] at p35
    try rw [wg7] at p35
    try rw [wg8] at p35
    try rw [wg9] at p35
    try rw [wg10] at p35
    try rw [wg11] at p35
    try rw [wg49] at p36
    try rw [w44] at p36
    try rw [wg50] at p36
    try rw [wg51] at p36
    try rw [wg52] at p36
    try rw [wg53] at p36
    try rw [wg54] at p36
    try rw [w45] at p36
    try rw [w46] at p36
    try rw [w47] at p36
    try rw [w48] at p36
    try rw [wg25] at p36
    try rw [w19] at p36
    try rw [wg26] at p36
    try rw [wg27] at p36
    try rw [wg28] at p36
    try rw [w20] at p36
    try rw [w21] at p36
    try rw [w22] at p36
    try rw [w23] at p36
    try rw [wg29] at p36
    try rw [w24] at p36
    try rw [wg1] at p36
    try rw [wg2] at p36
    try rw [wg3] at p36
    try rw [wg4] at p36
    try rw [wg5] at p36
    try rw [wg6] at p36
    try rw [wg7] at p36
    try rw [wg8] at p36
    try rw [wg9] at p36
    try rw [wg10] at p36
    try rw [wg11] at p36
    try rw [wg49] at p37
    try rw [w44] at p37
    try rw [wg50] at p37
    try rw [wg51] at p37
    try rw [wg52] at p37
    try rw [wg53] at p37
    try rw [wg54] at p37
    try rw [w45] at p37
    try rw [w46] at p37
    try rw [w47] at p37
    try rw [w48] at p37
    try rw [wg25] at p37
    try rw [w19] at p37
    try rw [wg26] at p37
    try rw [wg27] at p37
    try rw [wg28] at p37
    try rw [w20] at p37
    try rw [w21] at p37
    try rw [w22] at p37
    try rw [w23] at p37
    try rw [wg29] at p37
    try rw [w24] at p37
    try rw [wg1] at p37
    try rw [wg2] at p37
    try rw [wg3] at p37
    try rw [wg4] at p37
    try rw [wg5] at p37
    try rw [wg6] at p37
    try rw [wg7] at p37
    try rw [wg8] at p37
    try rw [wg9] at p37
    try rw [wg10] at p37
    try rw [wg11] at p37
    try rw [wg49] at p38
    try rw [w44] at p38
    try rw [wg50] at p38
    try rw [wg51] at p38
    try rw [wg52] at p38
    try rw [wg53] at p38
    try rw [wg54] at p38
    try rw [w45] at p38
    try rw [w46] at p38
    try rw [w47] at p38
    try rw [w48] at p38
    try rw [wg25] at p38
    try rw [w19] at p38
    try rw [wg26] at p38
    try rw [wg27] at p38
    try rw [wg28] at p38
    try rw [w20] at p38
    try rw [w21] at p38
    try rw [w22] at p38
    try rw [w23] at p38
    try rw [wg29] at p38
    try rw [w24] at p38
    try rw [wg1] at p38
    try rw [wg2] at p38
    try rw [wg3] at p38
    try rw [wg4] at p38
    try rw [wg5] at p38
    try rw [wg6] at p38
    try rw [wg7] at p38
    try rw [wg8] at p38
    try rw [wg9] at p38
    try rw [wg10] at p38
    try rw [wg11] at p38
    try rw [wg49] at p39
    try rw [w44] at p39
    try rw [wg50] at p39
    try rw [wg51] at p39
    try rw [wg52] at p39
    try rw [wg53] at p39
    try rw [wg54] at p39
    try rw [w45] at p39
    try rw [w46] at p39
    try rw [w47] at p39
    try rw [w48] at p39
    try rw [wg25] at p39
    try rw [w19] at p39
    try rw [wg26] at p39
    try rw [wg27] at p39
    try rw [wg28] at p39
    try rw [w20] at p39
    try rw [w21] at p39
    try rw [w22] at p39
    try rw [w23] at p39
    try rw [wg29] at p39
    try rw [w24] at p39
    try rw [wg1] at p39
    try rw [wg2] at p39
    try rw [wg3] at p39
    try rw [wg4] at p39
    try rw [wg5] at p39
    try rw [wg6] at p39
    try rw [wg7] at p39
    try rw [wg8] at p39
    try rw [wg9] at p39
    try rw [wg10] at p39
    try rw [wg11] at p39
    try rw [wg49] at p40
    try rw [w44] at p40
    try rw [wg50] at p40
    try rw [wg51] at p40
    try rw [wg52] at p40
    try rw [wg53] at p40
    try rw [wg54] at p40
    try rw [w45] at p40
    try rw [w46] at p40
    try rw [w47] at p40
    try rw [w48] at p40
    try rw [wg25] at p40
    try rw [w19] at p40
    try rw [wg26] at p40
    try rw [wg27] at p40
    try rw [wg28] at p40
    try rw [w20] at p40
    try rw [w21] at p40
    try rw [w22] at p40
    try rw [w23] at p40
    try rw [wg29] at p40
    try rw [w24] at p40
    try rw [wg1] at p40
    try rw [wg2] at p40
    try rw [wg3] at p40
    try rw [wg4] at p40
    try rw [wg5] at p40
    try rw [wg6] at p40
    try rw [wg7] at p40
    try rw [wg8] at p40
    try rw [wg9] at p40
    try rw [wg10] at p40
    try rw [wg11] at p40
    try rw [wg49] at p41
    try rw [w44] at p41
    try rw [wg50] at p41
    try rw [wg51] at p41
    try rw [wg52] at p41
    try rw [wg53] at p41
    try rw [wg54] at p41
    try rw [w45] at p41
    try rw [w46] at p41
    try rw [w47] at p41
    try rw [w48] at p41
    try rw [wg25] at p41
    try rw [w19] at p41
    try rw [wg26] at p41
    try rw [wg27] at p41
    try rw [wg28] at p41
    try rw [w20] at p41
    try rw [w21] at p41
    try rw [w22] at p41
    try rw [w23] at p41
    try rw [wg29] at p41
    try rw [w24] at p41
    try rw [wg1] at p41
    try rw [wg2] at p41
    try rw [wg3] at p41
    try rw [wg4] at p41
    try rw [wg5] at p41
    try rw [wg6] at p41
    try rw [wg7] at p41
    try rw [wg8] at p41
    try rw [wg9] at p41
    try rw [wg10] at p41
    try rw [wg11] at p41
    clear wg25 w19 wg26 wg27 wg28 w20 w21 w22 w23 wg29 w24
    have TE55 := zTE_t TE30 p37
    have Y56 : 0 ≤ x33 → zTy m34 x33 := fun h => by have h1 : lo ≤ x33 ∧ x33 < zTop m34 ∧ m34.1 67 x33 ≤ 1 := (by rcases p40 with c | c; omega; exact ⟨c.1, c.2.1, c.2.2.1⟩); exact ⟨⟨h, h1.2.1⟩, by omega⟩
    clear p37 p39 p40
    refine And.intro ⟨by omega, by omega⟩ ?_
    intro m57 em57
    have z58 := zfx_f z43 em57 rfl
    have w59 : m57.1 66 ((31 : Nat) : Int) = g49 := by rw [em57]; exact (zu_nk (by decide)).trans wg49
    have w60 : m57.1 66 ((30 : Nat) : Int) = g2 := by rw [em57]; exact (zu_nk (by decide)).trans w44
    have w61 : m57.1 66 ((33 : Nat) : Int) = g50 := by rw [em57]; exact (zu_nk (by decide)).trans wg50
    have w62 : m57.1 66 ((34 : Nat) : Int) = g51 := by rw [em57]; exact (zu_nk (by decide)).trans wg51
    have w63 : m57.1 66 ((32 : Nat) : Int) = g52 := by rw [em57]; exact (zu_nk (by decide)).trans wg52
    have w64 : m57.1 66 ((38 : Nat) : Int) = g53 := by rw [em57]; exact (zu_nk (by decide)).trans wg53
    have w65 : m57.1 66 ((8 : Nat) : Int) = g54 := by rw [em57]; exact (zu_nk (by decide)).trans wg54
    have w66 : m57.1 66 ((71 : Nat) : Int) = x33 := by rw [em57]; exact zu_at
    have w67 : m57.1 66 ((72 : Nat) : Int) = g9 := by rw [em57]; exact (zu_nk (by decide)).trans w46
    have w68 : m57.1 66 ((70 : Nat) : Int) = g29 := by rw [em57]; exact (zu_nk (by decide)).trans w47
    have w69 : m57.1 66 ((26 : Nat) : Int) = g11 := by rw [em57]; exact (zu_nk (by decide)).trans w48
    clear wg49 w44 wg50 wg51 wg52 wg53 wg54 w45 w46 w47 w48
    have TE70 := zTE_fr (m' := m57) TE55 (fun j a b => by rw [em57, zu_ne (by omega)]) (by rw [em57]; exact zu_nk (by decide)) (by rw [em57]; exact zu_nk (by decide))
    have Y71 : 0 ≤ x33 → zTy m57 x33 := fun h => zTy_same (Y56 h) (by rw [em57, zu_ne (by decide)]) (by rw [em57]; exact zu_nk (by decide))
    intro x72 hx72 kx72 lx72
    rw [w66] at hx72
    refine And.intro ⟨by omega, by omega⟩ (And.intro (fun c73 => ?_) (fun c73 => ?_))
    · exact And.intro (zrtb (by omega)) (And.intro ⟨by omega, by omega⟩ (hQ _ _ z58 (by omega) (by omega) (by (try rw [w59]) <;> (try rw [w60]) <;> (try rw [w61]) <;> (try rw [w62]) <;> (try rw [w63]) <;> (try rw [w64]) <;> (try rw [w65]) <;> (try rw [w66]) <;> (try rw [w67]) <;> (try rw [w68]) <;> (try rw [w69]) <;> (try rw [wg1]) <;> (try rw [wg2]) <;> (try rw [wg3]) <;> (try rw [wg4]) <;> (try rw [wg5]) <;> (try rw [wg6]) <;> (try rw [wg7]) <;> (try rw [wg8]) <;> (try rw [wg9]) <;> (try rw [wg10]) <;> (try rw [wg11]) <;> omega) TE70 (by (try rw [w59]) <;> (try rw [w60]) <;> (try rw [w61]) <;> (try rw [w62]) <;> (try rw [w63]) <;> (try rw [w64]) <;> (try rw [w65]) <;> (try rw [w66]) <;> (try rw [w67]) <;> (try rw [w68]) <;> (try rw [w69]) <;> (try rw [wg1]) <;> (try rw [wg2]) <;> (try rw [wg3]) <;> (try rw [wg4]) <;> (try rw [wg5]) <;> (try rw [wg6]) <;> (try rw [wg7]) <;> (try rw [wg8]) <;> (try rw [wg9]) <;> (try rw [wg10]) <;> (try rw [wg11]) <;> omega) (fun h => by omega) (Or.inr ⟨rfl, by obtain ⟨l, x, B1, R1, F8, F9⟩ := (by rcases p42 with h0 | h0; exact h0.2; (exfalso; have h2 := h0.1; omega) : rFa τ _ m34); exact ⟨x, l, Or.inr ⟨o, p0, QP, Or.inl ⟨B1, R1⟩⟩, by rw [em57, zu_nk (by decide)]; exact F8, by rw [em57, zu_nk (by decide)]; exact F9, yKs_x hp8 OB (by decide) R1⟩⟩)))
    · obtain ⟨-, p1, n1, h1, as1, RT, L2, N2, RE⟩ := Or.resolve_left p42 (fun h0 => by have h2 := h0.1; omega)
      have L3 := rLx_66 L2 em57 (by decide)
      have N3 := rNg_66 (rNg_Q N2) em57 (by decide)
      have KK3 := rkd L3 rfl
      refine ⟨yk_X9_want, ym_X9_want hg d (by omega), _, rfl, ⟨by omega, by omega⟩, (by (try rw [w59]) <;> (try rw [w60]) <;> (try rw [w61]) <;> (try rw [w62]) <;> (try rw [w63]) <;> (try rw [w64]) <;> (try rw [w65]) <;> (try rw [w66]) <;> (try rw [w67]) <;> (try rw [w68]) <;> (try rw [w69]) <;> (try rw [wg1]) <;> (try rw [wg2]) <;> (try rw [wg3]) <;> (try rw [wg4]) <;> (try rw [wg5]) <;> (try rw [wg6]) <;> (try rw [wg7]) <;> (try rw [wg8]) <;> (try rw [wg9]) <;> (try rw [wg10]) <;> (try rw [wg11]) <;> omega), ?_⟩
      intro x74 m75 qm75 kx74 lx74 p76 p77 p78 p79 p80
      have z81 := zfx_t z58 qm75 rfl rfl
      have w82 : m75.1 66 ((30 : Nat) : Int) = g2 := (qm75.2.1 30 rfl).trans w60
      have w83 : m75.1 66 ((38 : Nat) : Int) = g53 := (qm75.2.1 38 rfl).trans w64
      have w84 : m75.1 66 ((8 : Nat) : Int) = g54 := (qm75.2.1 8 rfl).trans w65
      have w85 : m75.1 66 ((71 : Nat) : Int) = x33 := (qm75.2.1 71 rfl).trans w66
      have w86 : m75.1 66 ((72 : Nat) : Int) = g9 := (qm75.2.1 72 rfl).trans w67
      have w87 : m75.1 66 ((70 : Nat) : Int) = g29 := (qm75.2.1 70 rfl).trans w68
      have w88 : m75.1 66 ((26 : Nat) : Int) = g11 := (qm75.2.1 26 rfl).trans w69
      obtain ⟨g89, wg89⟩ : ∃ z : Int, m75.1 66 ((31 : Nat) : Int) = z := ⟨_, rfl⟩
      obtain ⟨g90, wg90⟩ : ∃ z : Int, m75.1 66 ((33 : Nat) : Int) = z := ⟨_, rfl⟩
      obtain ⟨g91, wg91⟩ : ∃ z : Int, m75.1 66 ((34 : Nat) : Int) = z := ⟨_, rfl⟩
      obtain ⟨g92, wg92⟩ : ∃ z : Int, m75.1 66 ((32 : Nat) : Int) = z := ⟨_, rfl⟩
      try rw [wg89] at p76
      try rw [w82] at p76
      try rw [wg90] at p76
      try rw [wg91] at p76
      try rw [wg92] at p76
      try rw [w83] at p76
      try rw [w84] at p76
      try rw [w85] at p76
      try rw [w86] at p76
      try rw [w87] at p76
      try rw [w88] at p76
      try rw [w59] at p76
      try rw [w60] at p76
      try rw [w61] at p76
      try rw [w62] at p76
      try rw [w63] at p76
      try rw [w64] at p76
      try rw [w65] at p76
      try rw [w66] at p76
      try rw [w67] at p76
      try rw [w68] at p76
      try rw [w69] at p76
      try rw [wg1] at p76
      try rw [wg2] at p76
      try rw [wg3] at p76
      try rw [wg4] at p76
      try rw [wg5] at p76
      try rw [wg6] at p76
      try rw [wg7] at p76
      try rw [wg8] at p76
      try rw [wg9] at p76
      try rw [wg10] at p76
      try rw [wg11] at p76
      try rw [wg89] at p77
      try rw [w82] at p77
      try rw [wg90] at p77
      try rw [wg91] at p77
      try rw [wg92] at p77
      try rw [w83] at p77
      try rw [w84] at p77
      try rw [w85] at p77
      try rw [w86] at p77
      try rw [w87] at p77
      try rw [w88] at p77
      try rw [w59] at p77
      try rw [w60] at p77
      try rw [w61] at p77
      try rw [w62] at p77
      try rw [w63] at p77
      try rw [w64] at p77
      try rw [w65] at p77
      try rw [w66] at p77
      try rw [w67] at p77
      try rw [w68] at p77
      try rw [w69] at p77
      try rw [wg1] at p77
      try rw [wg2] at p77
      try rw [wg3] at p77
      try rw [wg4] at p77
      try rw [wg5] at p77
      try rw [wg6] at p77
      try rw [wg7] at p77
      try rw [wg8] at p77
      try rw [wg9] at p77
      try rw [wg10] at p77
      try rw [wg11] at p77
      try rw [wg89] at p78
      try rw [w82] at p78
      try rw [wg90] at p78
      try rw [wg91] at p78
      try rw [wg92] at p78
      try rw [w83] at p78
      try rw [w84] at p78
      try rw [w85] at p78
      try rw [w86] at p78
      try rw [w87] at p78
      try rw [w88] at p78
      try rw [w59] at p78
      try rw [w60] at p78
      try rw [w61] at p78
      try rw [w62] at p78
      try rw [w63] at p78
      try rw [w64] at p78
      try rw [w65] at p78
      try rw [w66] at p78
      try rw [w67] at p78
      try rw [w68] at p78
      try rw [w69] at p78
      try rw [wg1] at p78
      try rw [wg2] at p78
      try rw [wg3] at p78
      try rw [wg4] at p78
      try rw [wg5] at p78
      try rw [wg6] at p78
      try rw [wg7] at p78
      try rw [wg8] at p78
      try rw [wg9] at p78
      try rw [wg10] at p78
      try rw [wg11] at p78
      try rw [wg89] at p79
      try rw [w82] at p79
      try rw [wg90] at p79
      try rw [wg91] at p79
      try rw [wg92] at p79
      try rw [w83] at p79
      try rw [w84] at p79
      try rw [w85] at p79
      try rw [w86] at p79
      try rw [w87] at p79
      try rw [w88] at p79
      try rw [w59] at p79
      try rw [w60] at p79
      try rw [w61] at p79
      try rw [w62] at p79
      try rw [w63] at p79
      try rw [w64] at p79
      try rw [w65] at p79
      try rw [w66] at p79
      try rw [w67] at p79
      try rw [w68] at p79
      try rw [w69] at p79
      try rw [wg1] at p79
      try rw [wg2] at p79
      try rw [wg3] at p79
      try rw [wg4] at p79
      try rw [wg5] at p79
      try rw [wg6] at p79
      try rw [wg7] at p79
      try rw [wg8] at p79
      try rw [wg9] at p79
      try rw [wg10] at p79
      try rw [wg11] at p79
      clear w59 w60 w61 w62 w63 w64 w65 w66 w67 w68 w69
      have TE93 := zTE_fr (m' := m75) TE70 (fun j a b => qm75.1 j (by omega) (zanyF (by simp <;> omega))) (qm75.2.1 8 rfl) (qm75.2.1 38 rfl)
      have Y94 : 0 ≤ x33 → zTy m75 x33 := fun h => zTy_same (Y71 h) (qm75.1 67 (by decide) rfl) (qm75.2.1 8 rfl)
      refine And.intro ⟨by omega, by omega⟩ (And.intro (fun c95 => ?_) (fun c95 => ?_))
      · have W1 := Or.resolve_left p80 (fun h0 => by have h2 := h0.1; omega)
        have L4 := rLx_p L3 (qm75.1 85 (by decide) rfl) (qm75.2.1 30 rfl) W1.2.2.1
        have N4 := (rNu_f N3 (fun j hj => qm75.1 j (by rcases hj with h | h | h | h | h | h <;> rw [h] <;> decide) (by rcases hj with h | h | h | h | h | h <;> rw [h] <;> rfl)) (fun k hk => by rcases hk with h | h | h | h | h | h <;> subst h <;> first | exact qm75.2.1 _ rfl | exact W1.2.2.2))
        have KK4 := rkd L4 wg92
        intro x96 hx96 kx96 lx96
        rw [wg92] at hx96
        refine And.intro ⟨⟨by omega, by omega⟩, ⟨by omega, by omega⟩⟩ (And.intro (fun c97 => ?_) (fun c97 => ?_))
        · refine ⟨yk_X9_name, ym_X9_name hg d (by omega), rfl, (by (try rw [wg89]) <;> (try rw [w82]) <;> (try rw [wg90]) <;> (try rw [wg91]) <;> (try rw [wg92]) <;> (try rw [w83]) <;> (try rw [w84]) <;> (try rw [w85]) <;> (try rw [w86]) <;> (try rw [w87]) <;> (try rw [w88]) <;> (try rw [wg1]) <;> (try rw [wg2]) <;> (try rw [wg3]) <;> (try rw [wg4]) <;> (try rw [wg5]) <;> (try rw [wg6]) <;> (try rw [wg7]) <;> (try rw [wg8]) <;> (try rw [wg9]) <;> (try rw [wg10]) <;> (try rw [wg11]) <;> omega), ?_⟩
          intro j98 p99
          refine ⟨yk_X9_findClass, ym_X9_findClass hg d (by omega), _, rfl, ?_⟩
          intro x100 kx100 lx100 p101 p102
          try rw [wg89] at p101
          try rw [w82] at p101
          try rw [wg90] at p101
          try rw [wg91] at p101
          try rw [wg92] at p101
          try rw [w83] at p101
          try rw [w84] at p101
          try rw [w85] at p101
          try rw [w86] at p101
          try rw [w87] at p101
          try rw [w88] at p101
          try rw [wg1] at p101
          try rw [wg2] at p101
          try rw [wg3] at p101
          try rw [wg4] at p101
          try rw [wg5] at p101
          try rw [wg6] at p101
          try rw [wg7] at p101
          try rw [wg8] at p101
          try rw [wg9] at p101
          try rw [wg10] at p101
          try rw [wg11] at p101
          have FC : x100 = yfc B (ynm τ (ynx τ p1)).toInt := (rNu_fc N4 (by have h1 := p102; rw [show j98 = ynm τ (ynx τ p1) from rLx_n L4 ((rKd_n KK4).mp (by omega)) p99] at h1; exact h1)).trans yfc_2
          refine And.intro ⟨by omega, by omega⟩ ?_
          intro m103 em103
          have z104 := zfx_f z81 em103 rfl
          have w105 : m103.1 66 ((31 : Nat) : Int) = g89 := by rw [em103]; exact (zu_nk (by decide)).trans wg89
          have w106 : m103.1 66 ((30 : Nat) : Int) = g2 := by rw [em103]; exact (zu_nk (by decide)).trans w82
          have w107 : m103.1 66 ((33 : Nat) : Int) = g90 := by rw [em103]; exact (zu_nk (by decide)).trans wg90
          have w108 : m103.1 66 ((34 : Nat) : Int) = g91 := by rw [em103]; exact (zu_nk (by decide)).trans wg91
          have w109 : m103.1 66 ((32 : Nat) : Int) = g92 := by rw [em103]; exact (zu_nk (by decide)).trans wg92
          have w110 : m103.1 66 ((38 : Nat) : Int) = g53 := by rw [em103]; exact (zu_nk (by decide)).trans w83
          have w111 : m103.1 66 ((8 : Nat) : Int) = g54 := by rw [em103]; exact (zu_nk (by decide)).trans w84
          have w112 : m103.1 66 ((71 : Nat) : Int) = x33 := by rw [em103]; exact (zu_nk (by decide)).trans w85
          have w113 : m103.1 66 ((72 : Nat) : Int) = x100 := by rw [em103]; exact zu_at
          have w114 : m103.1 66 ((70 : Nat) : Int) = g29 := by rw [em103]; exact (zu_nk (by decide)).trans w87
          have w115 : m103.1 66 ((26 : Nat) : Int) = g11 := by rw [em103]; exact (zu_nk (by decide)).trans w88
          clear wg89 w82 wg90 wg91 wg92 w83 w84 w85 w86 w87 w88
          have TE116 := zTE_fr (m' := m103) TE93 (fun j a b => by rw [em103, zu_ne (by omega)]) (by rw [em103]; exact zu_nk (by decide)) (by rw [em103]; exact zu_nk (by decide))
          have Y117 : 0 ≤ x33 → zTy m103 x33 := fun h => zTy_same (Y94 h) (by rw [em103, zu_ne (by decide)]) (by rw [em103]; exact zu_nk (by decide))
          have L5 := rLx_66 L4 em103 (by decide)
          have N5 := rNg_66 N4 em103 (by decide)
          intro x118 hx118 kx118 lx118
          rw [w113] at hx118
          refine And.intro ⟨by omega, by omega⟩ (And.intro (fun c119 => ?_) (fun c119 => ?_))
          · refine ⟨yk_X9_pass, ym_X9_pass hg d (by omega), rfl, (by (try rw [w105]) <;> (try rw [w106]) <;> (try rw [w107]) <;> (try rw [w108]) <;> (try rw [w109]) <;> (try rw [w110]) <;> (try rw [w111]) <;> (try rw [w112]) <;> (try rw [w113]) <;> (try rw [w114]) <;> (try rw [w115]) <;> (try rw [wg1]) <;> (try rw [wg2]) <;> (try rw [wg3]) <;> (try rw [wg4]) <;> (try rw [wg5]) <;> (try rw [wg6]) <;> (try rw [wg7]) <;> (try rw [wg8]) <;> (try rw [wg9]) <;> (try rw [wg10]) <;> (try rw [wg11]) <;> omega), ?_⟩
            intro m120 qm120 p121 p122 p123 p124 p125
            have z126 := zfx_t z104 qm120 rfl rfl
            have w127 : m120.1 66 ((30 : Nat) : Int) = g2 := (qm120.2.1 30 rfl).trans w106
            have w128 : m120.1 66 ((38 : Nat) : Int) = g53 := (qm120.2.1 38 rfl).trans w110
            have w129 : m120.1 66 ((8 : Nat) : Int) = g54 := (qm120.2.1 8 rfl).trans w111
            have w130 : m120.1 66 ((71 : Nat) : Int) = x33 := (qm120.2.1 71 rfl).trans w112
            have w131 : m120.1 66 ((72 : Nat) : Int) = x100 := (qm120.2.1 72 rfl).trans w113
            have w132 : m120.1 66 ((70 : Nat) : Int) = g29 := (qm120.2.1 70 rfl).trans w114
            have w133 : m120.1 66 ((26 : Nat) : Int) = g11 := (qm120.2.1 26 rfl).trans w115
            obtain ⟨g134, wg134⟩ : ∃ z : Int, m120.1 66 ((31 : Nat) : Int) = z := ⟨_, rfl⟩
            obtain ⟨g135, wg135⟩ : ∃ z : Int, m120.1 66 ((33 : Nat) : Int) = z := ⟨_, rfl⟩
            obtain ⟨g136, wg136⟩ : ∃ z : Int, m120.1 66 ((34 : Nat) : Int) = z := ⟨_, rfl⟩
            obtain ⟨g137, wg137⟩ : ∃ z : Int, m120.1 66 ((32 : Nat) : Int) = z := ⟨_, rfl⟩
            try rw [wg134] at p121
            try rw [w127] at p121
            try rw [wg135] at p121
            try rw [wg136] at p121
            try rw [wg137] at p121
            try rw [w128] at p121
            try rw [w129] at p121
            try rw [w130] at p121
            try rw [w131] at p121
            try rw [w132] at p121
            try rw [w133] at p121
            try rw [w105] at p121
            try rw [w106] at p121
            try rw [w107] at p121
            try rw [w108] at p121
            try rw [w109] at p121
            try rw [w110] at p121
            try rw [w111] at p121
            try rw [w112] at p121
            try rw [w113] at p121
            try rw [w114] at p121
            try rw [w115] at p121
            try rw [wg1] at p121
            try rw [wg2] at p121
            try rw [wg3] at p121
            try rw [wg4] at p121
            try rw [wg5] at p121
            try rw [wg6] at p121
            try rw [wg7] at p121
            try rw [wg8] at p121
            try rw [wg9] at p121
            try rw [wg10] at p121
            try rw [wg11] at p121
            try rw [wg134] at p122
            try rw [w127] at p122
            try rw [wg135] at p122
            try rw [wg136] at p122
            try rw [wg137] at p122
            try rw [w128] at p122
            try rw [w129] at p122
            try rw [w130] at p122
            try rw [w131] at p122
            try rw [w132] at p122
            try rw [w133] at p122
            try rw [w105] at p122
            try rw [w106] at p122
            try rw [w107] at p122
            try rw [w108] at p122
            try rw [w109] at p122
            try rw [w110] at p122
            try rw [w111] at p122
            try rw [w112] at p122
            try rw [w113] at p122
            try rw [w114] at p122
            try rw [w115] at p122
            try rw [wg1] at p122
            try rw [wg2] at p122
            try rw [wg3] at p122
            try rw [wg4] at p122
            try rw [wg5] at p122
            try rw [wg6] at p122
            try rw [wg7] at p122
            try rw [wg8] at p122
            try rw [wg9] at p122
            try rw [wg10] at p122
            try rw [wg11] at p122
            try rw [wg134] at p123
            try rw [w127] at p123
            try rw [wg135] at p123
            try rw [wg136] at p123
            try rw [wg137] at p123
            try rw [w128] at p123
            try rw [w129] at p123
            try rw [w130] at p123
            try rw [w131] at p123
            try rw [w132] at p123
            try rw [w133] at p123
            try rw [w105] at p123
            try rw [w106] at p123
            try rw [w107] at p123
            try rw [w108] at p123
            try rw [w109] at p123
            try rw [w110] at p123
            try rw [w111] at p123
            try rw [w112] at p123
            try rw [w113] at p123
            try rw [w114] at p123
            try rw [w115] at p123
            try rw [wg1] at p123
            try rw [wg2] at p123
            try rw [wg3] at p123
            try rw [wg4] at p123
            try rw [wg5] at p123
            try rw [wg6] at p123
            try rw [wg7] at p123
            try rw [wg8] at p123
            try rw [wg9] at p123
            try rw [wg10] at p123
            try rw [wg11] at p123
            try rw [wg134] at p124
            try rw [w127] at p124
            try rw [wg135] at p124
            try rw [wg136] at p124
            try rw [wg137] at p124
            try rw [w128] at p124
            try rw [w129] at p124
            try rw [w130] at p124
            try rw [w131] at p124
            try rw [w132] at p124
            try rw [w133] at p124
            try rw [w105] at p124
            try rw [w106] at p124
            try rw [w107] at p124
            try rw [w108] at p124
            try rw [w109] at p124
            try rw [w110] at p124
            try rw [w111] at p124
            try rw [w112] at p124
            try rw [w113] at p124
            try rw [w114] at p124
            try rw [w115] at p124
            try rw [wg1] at p124
            try rw [wg2] at p124
            try rw [wg3] at p124
            try rw [wg4] at p124
            try rw [wg5] at p124
            try rw [wg6] at p124
            try rw [wg7] at p124
            try rw [wg8] at p124
            try rw [wg9] at p124
            try rw [wg10] at p124
            try rw [wg11] at p124
            clear w105 w106 w107 w108 w109 w110 w111 w112 w113 w114 w115
            have TE138 := zTE_fr (m' := m120) TE116 (fun j a b => qm120.1 j (by omega) (zanyF (by simp <;> omega))) (qm120.2.1 8 rfl) (qm120.2.1 38 rfl)
            have Y139 : 0 ≤ x33 → zTy m120 x33 := fun h => zTy_same (Y117 h) (qm120.1 67 (by decide) rfl) (qm120.2.1 8 rfl)
            have L6 := rLx_p L5 (qm120.1 85 (by decide) rfl) (qm120.2.1 30 rfl) p125
            have N6 := rNu_z N5 qm120 ⟨rfl, rfl, rfl, rfl, rfl, rfl⟩ ⟨rfl, rfl, rfl, rfl, rfl, rfl⟩
            have KK6 := rkd L6 wg137
            intro x140 hx140 kx140 lx140
            rw [wg137] at hx140
            refine And.intro ⟨⟨by omega, by omega⟩, ⟨by omega, by omega⟩⟩ (And.intro (fun c141 => ?_) (fun c141 => ?_))
            · have PL : ∃ (o k : Int) (L : List Int), yPl τ B o L k ∧ rE m120 (m120.1 66 ((71 : Nat) : Int)) L ∧ m120.1 66 ((72 : Nat) : Int) = k := by
                have e71 : m120.1 66 ((71 : Nat) : Int) = x33 := (qm120.2.1 71 rfl).trans (by rw [em103, zu_nk (by decide), qm75.2.1 71 rfl, em57, zu_at])
                have e72 : m120.1 66 ((72 : Nat) : Int) = x100 := (qm120.2.1 72 rfl).trans (by rw [em103, zu_at])
                refine ⟨o, _, ycd ((0, h1, as1) : yF), ⟨p0, p1, n1, _, QP, RT, rfl, rfl, by omega⟩, ?_, e72.trans FC⟩
                rw [e71, show ycd ((0, h1, as1) : yF) = h1 :: as1.flatten by simp [ycd, ywr]]
                exact rE_c (fun j a b => by rw [qm120.1 j (by omega) rfl, em103, zu_ne (by omega), qm75.1 j (by omega) rfl, em57, zu_ne (by omega)]) RE
              exact And.intro (zrtb (by omega)) (And.intro ⟨by omega, by omega⟩ (hQ _ _ z126 (by omega) (by omega) (by (try rw [wg134]) <;> (try rw [w127]) <;> (try rw [wg135]) <;> (try rw [wg136]) <;> (try rw [wg137]) <;> (try rw [w128]) <;> (try rw [w129]) <;> (try rw [w130]) <;> (try rw [w131]) <;> (try rw [w132]) <;> (try rw [w133]) <;> (try rw [wg1]) <;> (try rw [wg2]) <;> (try rw [wg3]) <;> (try rw [wg4]) <;> (try rw [wg5]) <;> (try rw [wg6]) <;> (try rw [wg7]) <;> (try rw [wg8]) <;> (try rw [wg9]) <;> (try rw [wg10]) <;> (try rw [wg11]) <;> omega) TE138 (by (try rw [wg134]) <;> (try rw [w127]) <;> (try rw [wg135]) <;> (try rw [wg136]) <;> (try rw [wg137]) <;> (try rw [w128]) <;> (try rw [w129]) <;> (try rw [w130]) <;> (try rw [w131]) <;> (try rw [w132]) <;> (try rw [w133]) <;> (try rw [wg1]) <;> (try rw [wg2]) <;> (try rw [wg3]) <;> (try rw [wg4]) <;> (try rw [wg5]) <;> (try rw [wg6]) <;> (try rw [wg7]) <;> (try rw [wg8]) <;> (try rw [wg9]) <;> (try rw [wg10]) <;> (try rw [wg11]) <;> omega) (fun h => by rw [w130, w131]; exact ⟨Y139 (by omega), by omega, by omega⟩) (Or.inl ⟨rfl, Or.inr ⟨o, p0, QP, Or.inr ⟨p1, n1, _, RT, Or.inr ⟨(rKd_n KK4).mp (by omega), Or.inr ⟨by omega, Or.inr ⟨(rKd_w KK6).2.mp (by omega), rfl, rfl⟩⟩⟩⟩⟩, N6.1.2.2.2.2.2, PL⟩)))
            · refine ⟨yk_X9_fail, ym_X9_fail hg d (by omega), _, rfl, ⟨by omega, by omega⟩, ?_⟩
              intro x142 m143 qm143 kx142 lx142 p144
              have z145 := zfx_t z126 qm143 rfl rfl
              have w146 : m143.1 66 ((31 : Nat) : Int) = g134 := (qm143.2.1 31 rfl).trans wg134
              have w147 : m143.1 66 ((30 : Nat) : Int) = g2 := (qm143.2.1 30 rfl).trans w127
              have w148 : m143.1 66 ((33 : Nat) : Int) = g135 := (qm143.2.1 33 rfl).trans wg135
              have w149 : m143.1 66 ((34 : Nat) : Int) = g136 := (qm143.2.1 34 rfl).trans wg136
              have w150 : m143.1 66 ((32 : Nat) : Int) = g137 := (qm143.2.1 32 rfl).trans wg137
              have w151 : m143.1 66 ((38 : Nat) : Int) = g53 := (qm143.2.1 38 rfl).trans w128
              have w152 : m143.1 66 ((8 : Nat) : Int) = g54 := (qm143.2.1 8 rfl).trans w129
              have w153 : m143.1 66 ((71 : Nat) : Int) = x33 := (qm143.2.1 71 rfl).trans w130
              have w154 : m143.1 66 ((72 : Nat) : Int) = x100 := (qm143.2.1 72 rfl).trans w131
              have w155 : m143.1 66 ((70 : Nat) : Int) = g29 := (qm143.2.1 70 rfl).trans w132
              have w156 : m143.1 66 ((26 : Nat) : Int) = g11 := (qm143.2.1 26 rfl).trans w133
              clear wg134 w127 wg135 wg136 wg137 w128 w129 w130 w131 w132 w133
              have TE157 := zTE_fr (m' := m143) TE138 (fun j a b => qm143.1 j (by omega) (zanyF (by simp <;> omega))) (qm143.2.1 8 rfl) (qm143.2.1 38 rfl)
              have Y158 : 0 ≤ x33 → zTy m143 x33 := fun h => zTy_same (Y139 h) (qm143.1 67 (by decide) rfl) (qm143.2.1 8 rfl)
              refine And.intro ⟨by omega, by omega⟩ (And.intro (fun c159 => ?_) (fun c159 => ?_))
              · exact And.intro (zrtb (by omega)) (And.intro ⟨by omega, by omega⟩ (hQ _ _ z145 (by omega) (by omega) (by (try rw [w146]) <;> (try rw [w147]) <;> (try rw [w148]) <;> (try rw [w149]) <;> (try rw [w150]) <;> (try rw [w151]) <;> (try rw [w152]) <;> (try rw [w153]) <;> (try rw [w154]) <;> (try rw [w155]) <;> (try rw [w156]) <;> (try rw [wg1]) <;> (try rw [wg2]) <;> (try rw [wg3]) <;> (try rw [wg4]) <;> (try rw [wg5]) <;> (try rw [wg6]) <;> (try rw [wg7]) <;> (try rw [wg8]) <;> (try rw [wg9]) <;> (try rw [wg10]) <;> (try rw [wg11]) <;> omega) TE157 (by (try rw [w146]) <;> (try rw [w147]) <;> (try rw [w148]) <;> (try rw [w149]) <;> (try rw [w150]) <;> (try rw [w151]) <;> (try rw [w152]) <;> (try rw [w153]) <;> (try rw [w154]) <;> (try rw [w155]) <;> (try rw [w156]) <;> (try rw [wg1]) <;> (try rw [wg2]) <;> (try rw [wg3]) <;> (try rw [wg4]) <;> (try rw [wg5]) <;> (try rw [wg6]) <;> (try rw [wg7]) <;> (try rw [wg8]) <;> (try rw [wg9]) <;> (try rw [wg10]) <;> (try rw [wg11]) <;> omega) (fun h => by omega) (Or.inr ⟨rfl, _, _, Or.inr ⟨o, p0, QP, Or.inr ⟨p1, n1, _, RT, Or.inr ⟨(rKd_n KK4).mp (by omega), Or.inr ⟨by omega, Or.inl ⟨fun h0 => by have h1 := (rKd_w KK6).2.mpr h0; omega, rfl⟩⟩⟩⟩⟩, ⟨(rfq_f L6 N6.1.2.2.2.2.2 p144).1, (rfq_f L6 N6.1.2.2.2.2.2 p144).2, yfq_x (by decide)⟩⟩)))
              · exfalso; omega
          · refine ⟨yk_X9_fail, ym_X9_fail hg d (by omega), _, rfl, ⟨by omega, by omega⟩, ?_⟩
            intro x160 m161 qm161 kx160 lx160 p162
            have z163 := zfx_t z104 qm161 rfl rfl
            have w164 : m161.1 66 ((31 : Nat) : Int) = g89 := (qm161.2.1 31 rfl).trans w105
            have w165 : m161.1 66 ((30 : Nat) : Int) = g2 := (qm161.2.1 30 rfl).trans w106
            have w166 : m161.1 66 ((33 : Nat) : Int) = g90 := (qm161.2.1 33 rfl).trans w107
            have w167 : m161.1 66 ((34 : Nat) : Int) = g91 := (qm161.2.1 34 rfl).trans w108
            have w168 : m161.1 66 ((32 : Nat) : Int) = g92 := (qm161.2.1 32 rfl).trans w109
            have w169 : m161.1 66 ((38 : Nat) : Int) = g53 := (qm161.2.1 38 rfl).trans w110
            have w170 : m161.1 66 ((8 : Nat) : Int) = g54 := (qm161.2.1 8 rfl).trans w111
            have w171 : m161.1 66 ((71 : Nat) : Int) = x33 := (qm161.2.1 71 rfl).trans w112
            have w172 : m161.1 66 ((72 : Nat) : Int) = x100 := (qm161.2.1 72 rfl).trans w113
            have w173 : m161.1 66 ((70 : Nat) : Int) = g29 := (qm161.2.1 70 rfl).trans w114
            have w174 : m161.1 66 ((26 : Nat) : Int) = g11 := (qm161.2.1 26 rfl).trans w115
            clear w105 w106 w107 w108 w109 w110 w111 w112 w113 w114 w115
            have TE175 := zTE_fr (m' := m161) TE116 (fun j a b => qm161.1 j (by omega) (zanyF (by simp <;> omega))) (qm161.2.1 8 rfl) (qm161.2.1 38 rfl)
            have Y176 : 0 ≤ x33 → zTy m161 x33 := fun h => zTy_same (Y117 h) (qm161.1 67 (by decide) rfl) (qm161.2.1 8 rfl)
            exact And.intro (zrtb (by omega)) (And.intro ⟨by omega, by omega⟩ (hQ _ _ z163 (by omega) (by omega) (by (try rw [w164]) <;> (try rw [w165]) <;> (try rw [w166]) <;> (try rw [w167]) <;> (try rw [w168]) <;> (try rw [w169]) <;> (try rw [w170]) <;> (try rw [w171]) <;> (try rw [w172]) <;> (try rw [w173]) <;> (try rw [w174]) <;> (try rw [wg1]) <;> (try rw [wg2]) <;> (try rw [wg3]) <;> (try rw [wg4]) <;> (try rw [wg5]) <;> (try rw [wg6]) <;> (try rw [wg7]) <;> (try rw [wg8]) <;> (try rw [wg9]) <;> (try rw [wg10]) <;> (try rw [wg11]) <;> omega) TE175 (by (try rw [w164]) <;> (try rw [w165]) <;> (try rw [w166]) <;> (try rw [w167]) <;> (try rw [w168]) <;> (try rw [w169]) <;> (try rw [w170]) <;> (try rw [w171]) <;> (try rw [w172]) <;> (try rw [w173]) <;> (try rw [w174]) <;> (try rw [wg1]) <;> (try rw [wg2]) <;> (try rw [wg3]) <;> (try rw [wg4]) <;> (try rw [wg5]) <;> (try rw [wg6]) <;> (try rw [wg7]) <;> (try rw [wg8]) <;> (try rw [wg9]) <;> (try rw [wg10]) <;> (try rw [wg11]) <;> omega) (fun h => by rw [w171, w172]; exact ⟨Y176 (by omega), by omega, by omega⟩) (Or.inr ⟨by omega, _, _, Or.inr ⟨o, p0, QP, Or.inr ⟨p1, n1, _, RT, Or.inr ⟨(rKd_n KK4).mp (by omega), Or.inl ⟨by omega, rfl⟩⟩⟩⟩, ⟨(rfq_f L5 N5.1.2.2.2.2.2 p162).1, (rfq_f L5 N5.1.2.2.2.2.2 p162).2, yfq_x (by decide)⟩⟩)))
        · refine ⟨yk_X9_fail, ym_X9_fail hg d (by omega), _, rfl, ⟨by omega, by omega⟩, ?_⟩
          intro x177 m178 qm178 kx177 lx177 p179
          have z180 := zfx_t z81 qm178 rfl rfl
          have w181 : m178.1 66 ((31 : Nat) : Int) = g89 := (qm178.2.1 31 rfl).trans wg89
          have w182 : m178.1 66 ((30 : Nat) : Int) = g2 := (qm178.2.1 30 rfl).trans w82
          have w183 : m178.1 66 ((33 : Nat) : Int) = g90 := (qm178.2.1 33 rfl).trans wg90
          have w184 : m178.1 66 ((34 : Nat) : Int) = g91 := (qm178.2.1 34 rfl).trans wg91
          have w185 : m178.1 66 ((32 : Nat) : Int) = g92 := (qm178.2.1 32 rfl).trans wg92
          have w186 : m178.1 66 ((38 : Nat) : Int) = g53 := (qm178.2.1 38 rfl).trans w83
          have w187 : m178.1 66 ((8 : Nat) : Int) = g54 := (qm178.2.1 8 rfl).trans w84
          have w188 : m178.1 66 ((71 : Nat) : Int) = x33 := (qm178.2.1 71 rfl).trans w85
          have w189 : m178.1 66 ((72 : Nat) : Int) = g9 := (qm178.2.1 72 rfl).trans w86
          have w190 : m178.1 66 ((70 : Nat) : Int) = g29 := (qm178.2.1 70 rfl).trans w87
          have w191 : m178.1 66 ((26 : Nat) : Int) = g11 := (qm178.2.1 26 rfl).trans w88
          clear wg89 w82 wg90 wg91 wg92 w83 w84 w85 w86 w87 w88
          have TE192 := zTE_fr (m' := m178) TE93 (fun j a b => qm178.1 j (by omega) (zanyF (by simp <;> omega))) (qm178.2.1 8 rfl) (qm178.2.1 38 rfl)
          have Y193 : 0 ≤ x33 → zTy m178 x33 := fun h => zTy_same (Y94 h) (qm178.1 67 (by decide) rfl) (qm178.2.1 8 rfl)
          exact And.intro (zrtb (by omega)) (And.intro ⟨by omega, by omega⟩ (hQ _ _ z180 (by omega) (by omega) (by (try rw [w181]) <;> (try rw [w182]) <;> (try rw [w183]) <;> (try rw [w184]) <;> (try rw [w185]) <;> (try rw [w186]) <;> (try rw [w187]) <;> (try rw [w188]) <;> (try rw [w189]) <;> (try rw [w190]) <;> (try rw [w191]) <;> (try rw [wg1]) <;> (try rw [wg2]) <;> (try rw [wg3]) <;> (try rw [wg4]) <;> (try rw [wg5]) <;> (try rw [wg6]) <;> (try rw [wg7]) <;> (try rw [wg8]) <;> (try rw [wg9]) <;> (try rw [wg10]) <;> (try rw [wg11]) <;> omega) TE192 (by (try rw [w181]) <;> (try rw [w182]) <;> (try rw [w183]) <;> (try rw [w184]) <;> (try rw [w185]) <;> (try rw [w186]) <;> (try rw [w187]) <;> (try rw [w188]) <;> (try rw [w189]) <;> (try rw [w190]) <;> (try rw [w191]) <;> (try rw [wg1]) <;> (try rw [wg2]) <;> (try rw [wg3]) <;> (try rw [wg4]) <;> (try rw [wg5]) <;> (try rw [wg6]) <;> (try rw [wg7]) <;> (try rw [wg8]) <;> (try rw [wg9]) <;> (try rw [wg10]) <;> (try rw [wg11]) <;> omega) (fun h => by rw [w188, w189]; exact ⟨Y193 (by omega), by omega, by omega⟩) (Or.inr ⟨by omega, _, _, Or.inr ⟨o, p0, QP, Or.inr ⟨p1, n1, _, RT, Or.inl ⟨fun h0 => by have h1 := (rKd_n KK4).mpr h0; omega, rfl⟩⟩⟩, ⟨(rfq_f L4 N4.1.2.2.2.2.2 p179).1, (rfq_f L4 N4.1.2.2.2.2.2 p179).2, yfq_x (by decide)⟩⟩)))
      · exact And.intro (zrtb (by omega)) (And.intro ⟨by omega, by omega⟩ (hQ _ _ z81 (by omega) (by omega) (by (try rw [wg89]) <;> (try rw [w82]) <;> (try rw [wg90]) <;> (try rw [wg91]) <;> (try rw [wg92]) <;> (try rw [w83]) <;> (try rw [w84]) <;> (try rw [w85]) <;> (try rw [w86]) <;> (try rw [w87]) <;> (try rw [w88]) <;> (try rw [wg1]) <;> (try rw [wg2]) <;> (try rw [wg3]) <;> (try rw [wg4]) <;> (try rw [wg5]) <;> (try rw [wg6]) <;> (try rw [wg7]) <;> (try rw [wg8]) <;> (try rw [wg9]) <;> (try rw [wg10]) <;> (try rw [wg11]) <;> omega) TE93 (by (try rw [wg89]) <;> (try rw [w82]) <;> (try rw [wg90]) <;> (try rw [wg91]) <;> (try rw [wg92]) <;> (try rw [w83]) <;> (try rw [w84]) <;> (try rw [w85]) <;> (try rw [w86]) <;> (try rw [w87]) <;> (try rw [w88]) <;> (try rw [wg1]) <;> (try rw [wg2]) <;> (try rw [wg3]) <;> (try rw [wg4]) <;> (try rw [wg5]) <;> (try rw [wg6]) <;> (try rw [wg7]) <;> (try rw [wg8]) <;> (try rw [wg9]) <;> (try rw [wg10]) <;> (try rw [wg11]) <;> omega) (fun h => by omega) (by exfalso; have h0 := Or.resolve_right p80 (fun h0 => by have h2 := h0.1; omega); exact h0.2.1 ((rKd_o KK3).mpr (rTm_4 (by rw [V1.1]) RT)))))
  · exact And.intro (zrtb (by omega)) (And.intro ⟨by omega, by omega⟩ (hQ _ _ z18 (by omega) (by omega) (by (try rw [wg25]) <;> (try rw [w19]) <;> (try rw [wg26]) <;> (try rw [wg27]) <;> (try rw [wg28]) <;> (try rw [w20]) <;> (try rw [w21]) <;> (try rw [w22]) <;> (try rw [w23]) <;> (try rw [wg29]) <;> (try rw [w24]) <;> (try rw [wg1]) <;> (try rw [wg2]) <;> (try rw [wg3]) <;> (try rw [wg4]) <;> (try rw [wg5]) <;> (try rw [wg6]) <;> (try rw [wg7]) <;> (try rw [wg8]) <;> (try rw [wg9]) <;> (try rw [wg10]) <;> (try rw [wg11]) <;> omega) TE30 (by (try rw [wg25]) <;> (try rw [w19]) <;> (try rw [wg26]) <;> (try rw [wg27]) <;> (try rw [wg28]) <;> (try rw [w20]) <;> (try rw [w21]) <;> (try rw [w22]) <;> (try rw [w23]) <;> (try rw [wg29]) <;> (try rw [w24]) <;> (try rw [wg1]) <;> (try rw [wg2]) <;> (try rw [wg3]) <;> (try rw [wg4]) <;> (try rw [wg5]) <;> (try rw [wg6]) <;> (try rw [wg7]) <;> (try rw [wg8]) <;> (try rw [wg9]) <;> (try rw [wg10]) <;> (try rw [wg11]) <;> omega) (fun h => by omega) (Or.inr ⟨rfl, by obtain ⟨x, l, h1, h2, h3⟩ := (by rcases p17 with h0 | h0; (exfalso; have h2 := h0.1; omega); exact h0.2 : ∃ x l, yqo τ B = .inr (x, l) ∧ m13.1 66 ((35 : Nat) : Int) = x ∧ m13.1 66 ((36 : Nat) : Int) = l); exact ⟨x, l, Or.inl h1, h2, h3, yqo_x h1⟩⟩)))
