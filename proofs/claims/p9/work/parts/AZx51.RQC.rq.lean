/-! ### the reference reads a question, by rows -/
def hk_X9_readQuestion : zC := fun As μ Q => ∃ (lo : Int) (C : Int) (Pn : Int) (F : Int) (cf : Int → Int) (τ : yT) (B : yB) (cb : Int) (pb : Int), As = [.inr (.inr (66, 66))] ∧ (0 ≤ μ.1 66 ((33 : Nat) : Int) ∧ 0 ≤ μ.1 66 ((34 : Nat) : Int) ∧ μ.1 66 ((33 : Nat) : Int) + μ.1 66 ((34 : Nat) : Int) ≤ μ.1 66 ((31 : Nat) : Int) ∧ μ.1 66 ((31 : Nat) : Int) ≤ μ.1 66 ((30 : Nat) : Int) ∧ μ.1 66 ((30 : Nat) : Int) ≤ 800) ∧ (zND μ lo) ∧ (zWf μ lo (zTop μ) C Pn F cf) ∧ (μ.1 66 ((26 : Nat) : Int) ≤ C ∧ (∀ c : Int, 0 ≤ c → c < C → μ.1 76 (μ.1 66 ((24 : Nat) : Int) + c) + μ.1 77 (μ.1 66 ((24 : Nat) : Int) + c) ≤ Pn) ∧ C ≤ 21 ∧ Pn ≤ 80) ∧ (∀ v : Int, 0 ≤ v → v < C → cf v = μ.1 77 (μ.1 66 ((24 : Nat) : Int) + v)) ∧ (μ.1 66 ((8 : Nat) : Int) - μ.1 66 ((38 : Nat) : Int) ≤ 19699 ∧ 0 ≤ μ.1 66 ((38 : Nat) : Int) ∧ μ.1 66 ((38 : Nat) : Int) ≤ 300) ∧ (0 ≤ μ.1 66 ((26 : Nat) : Int)) ∧ (rLx μ τ 0 ∧ rNg cb pb μ (yN B 0 2 0)) ∧ (yI0 B) ∧ (C = B.1 0 0) ∧ (∀ (v : Int) (μ' : zM), zfx [67, 68, 69, 70, 71, 72, 73, 74, 100, 101, 102, 103, 104] [8, 31, 32, 33, 34, 35, 36, 38, 70, 71, 72] μ μ' → 0 ≤ v → v ≤ 1 → (0 ≤ μ'.1 66 ((33 : Nat) : Int) ∧ 0 ≤ μ'.1 66 ((34 : Nat) : Int) ∧ μ'.1 66 ((33 : Nat) : Int) + μ'.1 66 ((34 : Nat) : Int) ≤ μ'.1 66 ((31 : Nat) : Int) ∧ μ'.1 66 ((31 : Nat) : Int) ≤ μ'.1 66 ((30 : Nat) : Int) ∧ μ'.1 66 ((30 : Nat) : Int) ≤ 800) → (zTE μ μ' lo C Pn F cf) → (0 ≤ μ'.1 66 ((38 : Nat) : Int) ∧ μ'.1 66 ((38 : Nat) : Int) ≤ 300 ∧ μ'.1 66 ((30 : Nat) : Int) = μ.1 66 ((30 : Nat) : Int)) → (v = 1 → zTy μ' (μ'.1 66 ((71 : Nat) : Int)) ∧ zTy μ' (μ'.1 66 ((72 : Nat) : Int))) → ((v = 1 ∧ yQq τ B 0 0 ∧ μ'.1 66 ((35 : Nat) : Int) = 0 ∧ ∃ (o : Int) (L1 L2 : List Int), yQl τ B o L1 L2 ∧ rE μ' (μ'.1 66 ((71 : Nat) : Int)) L1 ∧ rE μ' (μ'.1 66 ((72 : Nat) : Int)) L2) ∨ (v = 0 ∧ ∃ x l, yQq τ B x l ∧ μ'.1 66 ((35 : Nat) : Int) = x ∧ μ'.1 66 ((36 : Nat) : Int) = l ∧ x ≠ 0)) → Q (some (.inl v)) μ')
set_option maxHeartbeats 4000000 in
theorem hm_X9_readQuestion {g : zΓ} (hg : zg g) (d : Nat) (hd : 6 ≤ d) : zOk g d 157 hk_X9_readQuestion := by
  obtain ⟨d, rfl⟩ : ∃ d', d = d' + 1 := ⟨d - 1, by omega⟩
  refine zOk_straight hg (show mt_tab[157]? = some mt_X9_readQuestion from rfl) [] 46 rfl fun As μ Q hC => ?_
  obtain ⟨lo, C, Pn, F, cf, τ, B, cb, pb, rfl, hp0, hp1, hp2, hp3, hp4, hp5, hp6, hp7, hp8, hp9, hQ⟩ := hC
  obtain ⟨g1, wg1⟩ : ∃ z : Int, μ.1 66 ((31 : Nat) : Int) = z := ⟨_, rfl⟩
  obtain ⟨g2, wg2⟩ : ∃ z : Int, μ.1 66 ((30 : Nat) : Int) = z := ⟨_, rfl⟩
  obtain ⟨g3, wg3⟩ : ∃ z : Int, μ.1 66 ((33 : Nat) : Int) = z := ⟨_, rfl⟩
  obtain ⟨g4, wg4⟩ : ∃ z : Int, μ.1 66 ((34 : Nat) : Int) = z := ⟨_, rfl⟩
  obtain ⟨g5, wg5⟩ : ∃ z : Int, μ.1 66 ((32 : Nat) : Int) = z := ⟨_, rfl⟩
  obtain ⟨g6, wg6⟩ : ∃ z : Int, μ.1 66 ((38 : Nat) : Int) = z := ⟨_, rfl⟩
  obtain ⟨g7, wg7⟩ : ∃ z : Int, μ.1 66 ((8 : Nat) : Int) = z := ⟨_, rfl⟩
  obtain ⟨g8, wg8⟩ : ∃ z : Int, μ.1 66 ((71 : Nat) : Int) = z := ⟨_, rfl⟩
  obtain ⟨g9, wg9⟩ : ∃ z : Int, μ.1 66 ((72 : Nat) : Int) = z := ⟨_, rfl⟩
  obtain ⟨g10, wg10⟩ : ∃ z : Int, μ.1 66 ((70 : Nat) : Int) = z := ⟨_, rfl⟩
  obtain ⟨g11, wg11⟩ : ∃ z : Int, μ.1 66 ((26 : Nat) : Int) = z := ⟨_, rfl⟩
  try rw [wg1] at hp0
  try rw [wg2] at hp0
  try rw [wg3] at hp0
  try rw [wg4] at hp0
  try rw [wg5] at hp0
  try rw [wg6] at hp0
  try rw [wg7] at hp0
  try rw [wg8] at hp0
  try rw [wg9] at hp0
  try rw [wg10] at hp0
  try rw [wg11] at hp0
  try rw [wg1] at hp1
  try rw [wg2] at hp1
  try rw [wg3] at hp1
  try rw [wg4] at hp1
  try rw [wg5] at hp1
  try rw [wg6] at hp1
  try rw [wg7] at hp1
  try rw [wg8] at hp1
  try rw [wg9] at hp1
  try rw [wg10] at hp1
  try rw [wg11] at hp1
  try rw [wg1] at hp2
  try rw [wg2] at hp2
  try rw [wg3] at hp2
  try rw [wg4] at hp2
  try rw [wg5] at hp2
  try rw [wg6] at hp2
  try rw [wg7] at hp2
  try rw [wg8] at hp2
  try rw [wg9] at hp2
  try rw [wg10] at hp2
  try rw [wg11] at hp2
  try rw [wg1] at hp3
  try rw [wg2] at hp3
  try rw [wg3] at hp3
  try rw [wg4] at hp3
  try rw [wg5] at hp3
  try rw [wg6] at hp3
  try rw [wg7] at hp3
  try rw [wg8] at hp3
  try rw [wg9] at hp3
  try rw [wg10] at hp3
  try rw [wg11] at hp3
  try rw [wg1] at hp4
  try rw [wg2] at hp4
  try rw [wg3] at hp4
  try rw [wg4] at hp4
  try rw [wg5] at hp4
  try rw [wg6] at hp4
  try rw [wg7] at hp4
  try rw [wg8] at hp4
  try rw [wg9] at hp4
  try rw [wg10] at hp4
  try rw [wg11] at hp4
  try rw [wg1] at hp5
  try rw [wg2] at hp5
  try rw [wg3] at hp5
  try rw [wg4] at hp5
  try rw [wg5] at hp5
  try rw [wg6] at hp5
  try rw [wg7] at hp5
  try rw [wg8] at hp5
  try rw [wg9] at hp5
  try rw [wg10] at hp5
  try rw [wg11] at hp5
  try rw [wg1] at hp6
  try rw [wg2] at hp6
  try rw [wg3] at hp6
  try rw [wg4] at hp6
  try rw [wg5] at hp6
  try rw [wg6] at hp6
  try rw [wg7] at hp6
  try rw [wg8] at hp6
  try rw [wg9] at hp6
  try rw [wg10] at hp6
  try rw [wg11] at hp6
  try rw [wg1] at hp7
  try rw [wg2] at hp7
  try rw [wg3] at hp7
  try rw [wg4] at hp7
  try rw [wg5] at hp7
  try rw [wg6] at hp7
  try rw [wg7] at hp7
  try rw [wg8] at hp7
  try rw [wg9] at hp7
  try rw [wg10] at hp7
  try rw [wg11] at hp7
  try rw [wg1] at hp8
  try rw [wg2] at hp8
  try rw [wg3] at hp8
  try rw [wg4] at hp8
  try rw [wg5] at hp8
  try rw [wg6] at hp8
  try rw [wg7] at hp8
  try rw [wg8] at hp8
  try rw [wg9] at hp8
  try rw [wg10] at hp8
  try rw [wg11] at hp8
  try rw [wg1] at hp9
  try rw [wg2] at hp9
  try rw [wg3] at hp9
  try rw [wg4] at hp9
  try rw [wg5] at hp9
  try rw [wg6] at hp9
  try rw [wg7] at hp9
  try rw [wg8] at hp9
  try rw [wg9] at hp9
  try rw [wg10] at hp9
  try rw [wg11] at hp9
  refine ⟨rfl, ?_⟩
  have z0 : zfx [67, 68, 69, 70, 71, 72, 73, 74, 100, 101, 102, 103, 104] [8, 31, 32, 33, 34, 35, 36, 38, 70, 71, 72] μ μ := zfx_x μ
  have TE0 := zTE_r hp1 hp2
  refine ⟨yk_X9_readIn, ym_X9_readIn hg d (by omega), τ, B, _, _, rfl, (by (try rw [wg1]) <;> (try rw [wg2]) <;> (try rw [wg3]) <;> (try rw [wg4]) <;> (try rw [wg5]) <;> (try rw [wg6]) <;> (try rw [wg7]) <;> (try rw [wg8]) <;> (try rw [wg9]) <;> (try rw [wg10]) <;> (try rw [wg11]) <;> omega), (by (try rw [wg1]) <;> (try rw [wg2]) <;> (try rw [wg3]) <;> (try rw [wg4]) <;> (try rw [wg5]) <;> (try rw [wg6]) <;> (try rw [wg7]) <;> (try rw [wg8]) <;> (try rw [wg9]) <;> (try rw [wg10]) <;> (try rw [wg11]) <;> omega), hp7.1, hp7.2, hp8.1.1.1, ?_⟩
  intro x12 m13 qm13 kx12 lx12 p14 p15 p16 p17
  have z18 := zfx_t z0 qm13 rfl rfl
  have w19 : m13.1 66 ((30 : Nat) : Int) = g2 := (qm13.2.1 30 rfl).trans wg2
  have w20 : m13.1 66 ((38 : Nat) : Int) = g6 := (qm13.2.1 38 rfl).trans wg6
  have w21 : m13.1 66 ((8 : Nat) : Int) = g7 := (qm13.2.1 8 rfl).trans wg7
  have w22 : m13.1 66 ((71 : Nat) : Int) = g8 := (qm13.2.1 71 rfl).trans wg8
  have w23 : m13.1 66 ((72 : Nat) : Int) = g9 := (qm13.2.1 72 rfl).trans wg9
  have w24 : m13.1 66 ((26 : Nat) : Int) = g11 := (qm13.2.1 26 rfl).trans wg11
  obtain ⟨g25, wg25⟩ : ∃ z : Int, m13.1 66 ((31 : Nat) : Int) = z := ⟨_, rfl⟩
  obtain ⟨g26, wg26⟩ : ∃ z : Int, m13.1 66 ((33 : Nat) : Int) = z := ⟨_, rfl⟩
  obtain ⟨g27, wg27⟩ : ∃ z : Int, m13.1 66 ((34 : Nat) : Int) = z := ⟨_, rfl⟩
  obtain ⟨g28, wg28⟩ : ∃ z : Int, m13.1 66 ((32 : Nat) : Int) = z := ⟨_, rfl⟩
  obtain ⟨g29, wg29⟩ : ∃ z : Int, m13.1 66 ((70 : Nat) : Int) = z := ⟨_, rfl⟩
  try rw [wg25] at p14
  try rw [w19] at p14
  try rw [wg26] at p14
  try rw [wg27] at p14
  try rw [wg28] at p14
  try rw [w20] at p14
  try rw [w21] at p14
  try rw [w22] at p14
  try rw [w23] at p14
  try rw [wg29] at p14
  try rw [w24] at p14
  try rw [wg1] at p14
  try rw [wg2] at p14
  try rw [wg3] at p14
  try rw [wg4] at p14
  try rw [wg5] at p14
  try rw [wg6] at p14
  try rw [wg7] at p14
  try rw [wg8] at p14
  try rw [wg9] at p14
  try rw [wg10] at p14
  try rw [wg11] at p14
  try rw [wg25] at p15
  try rw [w19] at p15
  try rw [wg26] at p15
  try rw [wg27] at p15
  try rw [wg28] at p15
  try rw [w20] at p15
  try rw [w21] at p15
  try rw [w22] at p15
  try rw [w23] at p15
  try rw [wg29] at p15
  try rw [w24] at p15
  try rw [wg1] at p15
  try rw [wg2] at p15
  try rw [wg3] at p15
  try rw [wg4] at p15
  try rw [wg5] at p15
  try rw [wg6] at p15
  try rw [wg7] at p15
  try rw [wg8] at p15
  try rw [wg9] at p15
  try rw [wg10] at p15
  try rw [wg11] at p15
  try rw [wg25] at p16
  try rw [w19] at p16
  try rw [wg26] at p16
  try rw [wg27] at p16
  try rw [wg28] at p16
  try rw [w20] at p16
  try rw [w21] at p16
  try rw [w22] at p16
  try rw [w23] at p16
  try rw [wg29] at p16
  try rw [w24] at p16
  try rw [wg1] at p16
  try rw [wg2] at p16
  try rw [wg3] at p16
  try rw [wg4] at p16
  try rw [wg5] at p16
  try rw [wg6] at p16
  try rw [wg7] at p16
  try rw [wg8] at p16
  try rw [wg9] at p16
  try rw [wg10] at p16
  try rw [wg11] at p16
  have TE30 := zTE_fr (m' := m13) TE0 (fun j a b => qm13.1 j (by omega) (zanyF (by simp <;> omega))) (qm13.2.1 8 rfl) (qm13.2.1 38 rfl)
  refine And.intro ⟨by omega, by omega⟩ (And.intro (fun c31 => ?_) (fun c31 => ?_))
  · obtain ⟨o, p0, QP, L1, N1, O1, OB⟩ := (by rcases p17 with h0 | h0; exact h0.2; (exfalso; have h2 := h0.1; omega) : ∃ o p, yqo τ B = .inl (o, p) ∧ rLx m13 τ p ∧ rNg cb pb m13 (yN B 0 2 0) ∧ m13.1 66 ((70 : Nat) : Int) = o ∧ (-1 ≤ o ∧ o < B.1 0 0))
    have V1 := yQB_v B 0 o 2
    intro x32 hx32 kx32 lx32
    rw [wg29] at hx32
    refine ⟨yk_X9_readType, ym_X9_readType hg d (by omega), _, _, _, _, _, _, _, _, _, _, τ, p0, (yQB B 0 o 2), _, _, rfl, ⟨by omega, by omega⟩, ⟨by omega, by omega⟩, ⟨by omega, by omega⟩, (by (try rw [wg25]) <;> (try rw [w19]) <;> (try rw [wg26]) <;> (try rw [wg27]) <;> (try rw [wg28]) <;> (try rw [w20]) <;> (try rw [w21]) <;> (try rw [w22]) <;> (try rw [w23]) <;> (try rw [wg29]) <;> (try rw [w24]) <;> (try rw [wg1]) <;> (try rw [wg2]) <;> (try rw [wg3]) <;> (try rw [wg4]) <;> (try rw [wg5]) <;> (try rw [wg6]) <;> (try rw [wg7]) <;> (try rw [wg8]) <;> (try rw [wg9]) <;> (try rw [wg10]) <;> (try rw [wg11]) <;> omega), TE30.1.1, TE30.1.2.1, ⟨by first | (rw [show m13.1 66 ((26 : Nat) : Int) = μ.1 66 ((26 : Nat) : Int) from z18.2.1 26 rfl]; exact hp3.1) | (exact (by (try rw [wg25]) <;> (try rw [w19]) <;> (try rw [wg26]) <;> (try rw [wg27]) <;> (try rw [wg28]) <;> (try rw [w20]) <;> (try rw [w21]) <;> (try rw [w22]) <;> (try rw [w23]) <;> (try rw [wg29]) <;> (try rw [w24]) <;> (try rw [wg1]) <;> (try rw [wg2]) <;> (try rw [wg3]) <;> (try rw [wg4]) <;> (try rw [wg5]) <;> (try rw [wg6]) <;> (try rw [wg7]) <;> (try rw [wg8]) <;> (try rw [wg9]) <;> (try rw [wg10]) <;> (try rw [wg11]) <;> omega)), fun h => by rw [show m13.1 76 = μ.1 76 from z18.1 76 (by decide) rfl, show m13.1 77 = μ.1 77 from z18.1 77 (by decide) rfl, show m13.1 66 ((24 : Nat) : Int) = μ.1 66 ((24 : Nat) : Int) from z18.2.1 24 rfl]; exact hp3.2.1 _ h (by omega), hp3.2.2⟩, (fun v a b => by rw [show m13.1 77 = μ.1 77 from z18.1 77 (by decide) rfl, show m13.1 66 ((24 : Nat) : Int) = μ.1 66 ((24 : Nat) : Int) from z18.2.1 24 rfl]; exact hp4 v a b), (by (try rw [w21]); (try rw [w20]); exact ⟨zTE_pre TE30 w21 w20 wg7 wg6 hp5.1, by omega, by omega⟩), (fun _ => ⟨Int.le_refl _, Int.le_refl _⟩), ⟨L1, rNg_q N1⟩, ⟨yI0_q hp8 OB, by rw [V1.2.2.2.1]; first | exact O1.symm | omega⟩, ⟨by rw [V1.1], by rw [V1.2.1, if_pos rfl]⟩, (by rw [V1.2.2.2.2.1]; exact hp9), ?_⟩
    intro x33 m34 qm34 kx33 lx33 p35 p36 p37 p38 p39 p40 p41 p42
    have z43 := zfx_t z18 qm34 rfl rfl
    have w44 : m34.1 66 ((30 : Nat) : Int) = g2 := (qm34.2.1 30 rfl).trans w19
    have w45 : m34.1 66 ((71 : Nat) : Int) = g8 := (qm34.2.1 71 rfl).trans w22
    have w46 : m34.1 66 ((72 : Nat) : Int) = g9 := (qm34.2.1 72 rfl).trans w23
    have w47 : m34.1 66 ((70 : Nat) : Int) = g29 := (qm34.2.1 70 rfl).trans wg29
    have w48 : m34.1 66 ((26 : Nat) : Int) = g11 := (qm34.2.1 26 rfl).trans w24
    obtain ⟨g49, wg49⟩ : ∃ z : Int, m34.1 66 ((31 : Nat) : Int) = z := ⟨_, rfl⟩
    obtain ⟨g50, wg50⟩ : ∃ z : Int, m34.1 66 ((33 : Nat) : Int) = z := ⟨_, rfl⟩
    obtain ⟨g51, wg51⟩ : ∃ z : Int, m34.1 66 ((34 : Nat) : Int) = z := ⟨_, rfl⟩
    obtain ⟨g52, wg52⟩ : ∃ z : Int, m34.1 66 ((32 : Nat) : Int) = z := ⟨_, rfl⟩
    obtain ⟨g53, wg53⟩ : ∃ z : Int, m34.1 66 ((38 : Nat) : Int) = z := ⟨_, rfl⟩
    obtain ⟨g54, wg54⟩ : ∃ z : Int, m34.1 66 ((8 : Nat) : Int) = z := ⟨_, rfl⟩
    try rw [wg49] at p35
    try rw [w44] at p35
    try rw [wg50] at p35
    try rw [wg51] at p35
    try rw [wg52] at p35
    try rw [wg53] at p35
    try rw [wg54] at p35
    try rw [w45] at p35
    try rw [w46] at p35
    try rw [w47] at p35
    try rw [w48] at p35
    try rw [wg25] at p35
    try rw [w19] at p35
    try rw [wg26] at p35
    try rw [wg27] at p35
    try rw [wg28] at p35
    try rw [w20] at p35
    try rw [w21] at p35
    try rw [w22] at p35
    try rw [w23] at p35
    try rw [wg29] at p35
    try rw [w24] at p35
    try rw [wg1] at p35
    try rw [wg2] at p35
    try rw [wg3] at p35
    try rw [wg4] at p35
    try rw [wg5] at p35
    try rw [wg6] at p35
    try rw [wg7] at p35
    try rw [wg8] at p35
    try rw [wg9] at p35
    try rw [wg10] at p35
    try rw [wg11] at p35
    try rw [wg49] at p36
    try rw [w44] at p36
    try rw [wg50] at p36
    try rw [wg51] at p36
    try rw [wg52] at p36
    try rw [wg53] at p36
    try rw [wg54] at p36
    try rw [w45] at p36
    try rw [w46] at p36
    try rw [w47] at p36
    try rw [w48] at p36
    try rw [wg25] at p36
    try rw [w19] at p36
    try rw [wg26] at p36
    try rw [wg27] at p36
    try rw [wg28] at p36
    try rw [w20] at p36
    try rw [w21] at p36
    try rw [w22] at p36
    try rw [w23] at p36
    try rw [wg29] at p36
    try rw [w24] at p36
    try rw [wg1] at p36
    try rw [wg2] at p36
    try rw [wg3] at p36
    try rw [wg4] at p36
    try rw [wg5] at p36
    try rw [wg6] at p36
    try rw [wg7] at p36
    try rw [wg8] at p36
    try rw [wg9] at p36
    try rw [wg10] at p36
    try rw [wg11] at p36
    try rw [wg49] at p37
    try rw [w44] at p37
    try rw [wg50] at p37
    try rw [wg51] at p37
    try rw [wg52] at p37
    try rw [wg53] at p37
    try rw [wg54] at p37
    try rw [w45] at p37
    try rw [w46] at p37
    try rw [w47] at p37
    try rw [w48] at p37
    try rw [wg25] at p37
    try rw [w19] at p37
    try rw [wg26] at p37
    try rw [wg27] at p37
    try rw [wg28] at p37
    try rw [w20] at p37
    try rw [w21] at p37
    try rw [w22] at p37
    try rw [w23] at p37
    try rw [wg29] at p37
    try rw [w24] at p37
    try rw [wg1] at p37
    try rw [wg2] at p37
    try rw [wg3] at p37
    try rw [wg4] at p37
    try rw [wg5] at p37
    try rw [wg6] at p37
    try rw [wg7] at p37
    try rw [wg8] at p37
    try rw [wg9] at p37
    try rw [wg10] at p37
    try rw [wg11] at p37
    try rw [wg49] at p38
    try rw [w44] at p38
    try rw [wg50] at p38
    try rw [wg51] at p38
    try rw [wg52] at p38
    try rw [wg53] at p38
    try rw [wg54] at p38
    try rw [w45] at p38
    try rw [w46] at p38
    try rw [w47] at p38
    try rw [w48] at p38
    try rw [wg25] at p38
    try rw [w19] at p38
    try rw [wg26] at p38
    try rw [wg27] at p38
    try rw [wg28] at p38
    try rw [w20] at p38
    try rw [w21] at p38
    try rw [w22] at p38
    try rw [w23] at p38
    try rw [wg29] at p38
    try rw [w24] at p38
    try rw [wg1] at p38
    try rw [wg2] at p38
    try rw [wg3] at p38
    try rw [wg4] at p38
    try rw [wg5] at p38
    try rw [wg6] at p38
    try rw [wg7] at p38
    try rw [wg8] at p38
    try rw [wg9] at p38
    try rw [wg10] at p38
    try rw [wg11] at p38
    try rw [wg49] at p39
    try rw [w44] at p39
    try rw [wg50] at p39
    try rw [wg51] at p39
    try rw [wg52] at p39
    try rw [wg53] at p39
    try rw [wg54] at p39
    try rw [w45] at p39
    try rw [w46] at p39
    try rw [w47] at p39
    try rw [w48] at p39
    try rw [wg25] at p39
    try rw [w19] at p39
    try rw [wg26] at p39
    try rw [wg27] at p39
    try rw [wg28] at p39
    try rw [w20] at p39
    try rw [w21] at p39
    try rw [w22] at p39
    try rw [w23] at p39
    try rw [wg29] at p39
    try rw [w24] at p39
    try rw [wg1] at p39
    try rw [wg2] at p39
    try rw [wg3] at p39
    try rw [wg4] at p39
    try rw [wg5] at p39
    try rw [wg6] at p39
    try rw [wg7] at p39
    try rw [wg8] at p39
    try rw [wg9] at p39
    try rw [wg10] at p39
    try rw [wg11] at p39
    try rw [wg49] at p40
    try rw [w44] at p40
    try rw [wg50] at p40
    try rw [wg51] at p40
    try rw [wg52] at p40
    try rw [wg53] at p40
    try rw [wg54] at p40
    try rw [w45] at p40
    try rw [w46] at p40
    try rw [w47] at p40
    try rw [w48] at p40
    try rw [wg25] at p40
    try rw [w19] at p40
    try rw [wg26] at p40
    try rw [wg27] at p40
    try rw [wg28] at p40
    try rw [w20] at p40
    try rw [w21] at p40
    try rw [w22] at p40
    try rw [w23] at p40
    try rw [wg29] at p40
    try rw [w24] at p40
    try rw [wg1] at p40
    try rw [wg2] at p40
    try rw [wg3] at p40
    try rw [wg4] at p40
    try rw [wg5] at p40
    try rw [wg6] at p40
    try rw [wg7] at p40
    try rw [wg8] at p40
    try rw [wg9] at p40
    try rw [wg10] at p40
    try rw [wg11] at p40
    try rw [wg49] at p41
    try rw [w44] at p41
    try rw [wg50] at p41
    try rw [wg51] at p41
    try rw [wg52] at p41
    try rw [wg53] at p41
    try rw [wg54] at p41
    try rw [w45] at p41
    try rw [w46] at p41
    try rw [w47] at p41
    try rw [w48] at p41
    try rw [wg25] at p41
    try rw [w19] at p41
    try rw [wg26] at p41
    try rw [wg27] at p41
    try rw [wg28] at p41
    try rw [w20] at p41
    try rw [w21] at p41
    try rw [w22] at p41
    try rw [w23] at p41
    try rw [wg29] at p41
    try rw [w24] at p41
    try rw [wg1] at p41
    try rw [wg2] at p41
    try rw [wg3] at p41
    try rw [wg4] at p41
    try rw [wg5] at p41
    try rw [wg6] at p41
    try rw [wg7] at p41
    try rw [wg8] at p41
    try rw [wg9] at p41
    try rw [wg10] at p41
    try rw [wg11] at p41
    clear wg25 w19 wg26 wg27 wg28 w20 w21 w22 w23 wg29 w24
    have TE55 := zTE_t TE30 p37
    have Y56 : 0 ≤ x33 → zTy m34 x33 := fun h => by have h1 : lo ≤ x33 ∧ x33 < zTop m34 ∧ m34.1 67 x33 ≤ 1 := (by rcases p40 with c | c; omega; exact ⟨c.1, c.2.1, c.2.2.1⟩); exact ⟨⟨h, h1.2.1⟩, by omega⟩
    clear p37 p39 p40
    refine And.intro ⟨by omega, by omega⟩ ?_
    intro m57 em57
    have z58 := zfx_f z43 em57 rfl
    have w59 : m57.1 66 ((31 : Nat) : Int) = g49 := by rw [em57]; exact (zu_nk (by decide)).trans wg49
    have w60 : m57.1 66 ((30 : Nat) : Int) = g2 := by rw [em57]; exact (zu_nk (by decide)).trans w44
    have w61 : m57.1 66 ((33 : Nat) : Int) = g50 := by rw [em57]; exact (zu_nk (by decide)).trans wg50
    have w62 : m57.1 66 ((34 : Nat) : Int) = g51 := by rw [em57]; exact (zu_nk (by decide)).trans wg51
    have w63 : m57.1 66 ((32 : Nat) : Int) = g52 := by rw [em57]; exact (zu_nk (by decide)).trans wg52
    have w64 : m57.1 66 ((38 : Nat) : Int) = g53 := by rw [em57]; exact (zu_nk (by decide)).trans wg53
    have w65 : m57.1 66 ((8 : Nat) : Int) = g54 := by rw [em57]; exact (zu_nk (by decide)).trans wg54
    have w66 : m57.1 66 ((71 : Nat) : Int) = x33 := by rw [em57]; exact zu_at
    have w67 : m57.1 66 ((72 : Nat) : Int) = g9 := by rw [em57]; exact (zu_nk (by decide)).trans w46
    have w68 : m57.1 66 ((70 : Nat) : Int) = g29 := by rw [em57]; exact (zu_nk (by decide)).trans w47
    have w69 : m57.1 66 ((26 : Nat) : Int) = g11 := by rw [em57]; exact (zu_nk (by decide)).trans w48
    clear wg49 w44 wg50 wg51 wg52 wg53 wg54 w45 w46 w47 w48
    have TE70 := zTE_fr (m' := m57) TE55 (fun j a b => by rw [em57, zu_ne (by omega)]) (by rw [em57]; exact zu_nk (by decide)) (by rw [em57]; exact zu_nk (by decide))
    have Y71 : 0 ≤ x33 → zTy m57 x33 := fun h => zTy_same (Y56 h) (by rw [em57, zu_ne (by decide)]) (by rw [em57]; exact zu_nk (by decide))
    intro x72 hx72 kx72 lx72
    rw [w66] at hx72
    refine And.intro ⟨by omega, by omega⟩ (And.intro (fun c73 => ?_) (fun c73 => ?_))
    · exact And.intro (zrtb (by omega)) (And.intro ⟨by omega, by omega⟩ (hQ _ _ z58 (by omega) (by omega) (by (try rw [w59]) <;> (try rw [w60]) <;> (try rw [w61]) <;> (try rw [w62]) <;> (try rw [w63]) <;> (try rw [w64]) <;> (try rw [w65]) <;> (try rw [w66]) <;> (try rw [w67]) <;> (try rw [w68]) <;> (try rw [w69]) <;> (try rw [wg1]) <;> (try rw [wg2]) <;> (try rw [wg3]) <;> (try rw [wg4]) <;> (try rw [wg5]) <;> (try rw [wg6]) <;> (try rw [wg7]) <;> (try rw [wg8]) <;> (try rw [wg9]) <;> (try rw [wg10]) <;> (try rw [wg11]) <;> omega) TE70 (by (try rw [w59]) <;> (try rw [w60]) <;> (try rw [w61]) <;> (try rw [w62]) <;> (try rw [w63]) <;> (try rw [w64]) <;> (try rw [w65]) <;> (try rw [w66]) <;> (try rw [w67]) <;> (try rw [w68]) <;> (try rw [w69]) <;> (try rw [wg1]) <;> (try rw [wg2]) <;> (try rw [wg3]) <;> (try rw [wg4]) <;> (try rw [wg5]) <;> (try rw [wg6]) <;> (try rw [wg7]) <;> (try rw [wg8]) <;> (try rw [wg9]) <;> (try rw [wg10]) <;> (try rw [wg11]) <;> omega) (fun h => by omega) (Or.inr ⟨rfl, by obtain ⟨l, x, B1, R1, F8, F9⟩ := (by rcases p42 with h0 | h0; exact h0.2; (exfalso; have h2 := h0.1; omega) : rFa τ _ m34); exact ⟨x, l, Or.inr ⟨o, p0, QP, Or.inl ⟨B1, R1⟩⟩, by rw [em57, zu_nk (by decide)]; exact F8, by rw [em57, zu_nk (by decide)]; exact F9, yKs_x hp8 OB (by decide) R1⟩⟩)))
    · obtain ⟨-, p1, n1, h1, as1, RT, L2, N2, RE⟩ := Or.resolve_left p42 (fun h0 => by have h2 := h0.1; omega)
      have L3 := rLx_66 L2 em57 (by decide)
      have N3 := rNg_66 (rNg_Q N2) em57 (by decide)
      have KK3 := rkd L3 rfl
      refine ⟨yk_X9_want, ym_X9_want hg d (by omega), _, rfl, ⟨by omega, by omega⟩, (by (try rw [w59]) <;> (try rw [w60]) <;> (try rw [w61]) <;> (try rw [w62]) <;> (try rw [w63]) <;> (try rw [w64]) <;> (try rw [w65]) <;> (try rw [w66]) <;> (try rw [w67]) <;> (try rw [w68]) <;> (try rw [w69]) <;> (try rw [wg1]) <;> (try rw [wg2]) <;> (try rw [wg3]) <;> (try rw [wg4]) <;> (try rw [wg5]) <;> (try rw [wg6]) <;> (try rw [wg7]) <;> (try rw [wg8]) <;> (try rw [wg9]) <;> (try rw [wg10]) <;> (try rw [wg11]) <;> omega), ?_⟩
      intro x74 m75 qm75 kx74 lx74 p76 p77 p78 p79 p80
      have z81 := zfx_t z58 qm75 rfl rfl
      have w82 : m75.1 66 ((30 : Nat) : Int) = g2 := (qm75.2.1 30 rfl).trans w60
      have w83 : m75.1 66 ((38 : Nat) : Int) = g53 := (qm75.2.1 38 rfl).trans w64
      have w84 : m75.1 66 ((8 : Nat) : Int) = g54 := (qm75.2.1 8 rfl).trans w65
      have w85 : m75.1 66 ((71 : Nat) : Int) = x33 := (qm75.2.1 71 rfl).trans w66
      have w86 : m75.1 66 ((72 : Nat) : Int) = g9 := (qm75.2.1 72 rfl).trans w67
      have w87 : m75.1 66 ((70 : Nat) : Int) = g29 := (qm75.2.1 70 rfl).trans w68
      have w88 : m75.1 66 ((26 : Nat) : Int) = g11 := (qm75.2.1 26 rfl).trans w69
      obtain ⟨g89, wg89⟩ : ∃ z : Int, m75.1 66 ((31 : Nat) : Int) = z := ⟨_, rfl⟩
      obtain ⟨g90, wg90⟩ : ∃ z : Int, m75.1 66 ((33 : Nat) : Int) = z := ⟨_, rfl⟩
      obtain ⟨g91, wg91⟩ : ∃ z : Int, m75.1 66 ((34 : Nat) : Int) = z := ⟨_, rfl⟩
      obtain ⟨g92, wg92⟩ : ∃ z : Int, m75.1 66 ((32 : Nat) : Int) = z := ⟨_, rfl⟩
      try rw [wg89] at p76
      try rw [w82] at p76
      try rw [wg90] at p76
      try rw [wg91] at p76
      try rw [wg92] at p76
      try rw [w83] at p76
      try rw [w84] at p76
      try rw [w85] at p76
      try rw [w86] at p76
      try rw [w87] at p76
      try rw [w88] at p76
      try rw [w59] at p76
      try rw [w60] at p76
      try rw [w61] at p76
      try rw [w62] at p76
      try rw [w63] at p76
      try rw [w64] at p76
      try rw [w65] at p76
      try rw [w66] at p76
      try rw [w67] at p76
      try rw [w68] at p76
      try rw [w69] at p76
      try rw [wg1] at p76
      try rw [wg2] at p76
      try rw [wg3] at p76
      try rw [wg4] at p76
      try rw [wg5] at p76
      try rw [wg6] at p76
      try rw [wg7] at p76
      try rw [wg8] at p76
      try rw [wg9] at p76
      try rw [wg10] at p76
      try rw [wg11] at p76
      try rw [wg89] at p77
      try rw [w82] at p77
      try rw [wg90] at p77
      try rw [wg91] at p77
      try rw [wg92] at p77
      try rw [w83] at p77
      try rw [w84] at p77
      try rw [w85] at p77
      try rw [w86] at p77
      try rw [w87] at p77
      try rw [w88] at p77
      try rw [w59] at p77
      try rw [w60] at p77
      try rw [w61] at p77
      try rw [w62] at p77
      try rw [w63] at p77
      try rw [w64] at p77
      try rw [w65] at p77
      try rw [w66] at p77
      try rw [w67] at p77
      try rw [w68] at p77
      try rw [w69] at p77
      try rw [wg1] at p77
      try rw [wg2] at p77
      try rw [wg3] at p77
      try rw [wg4] at p77
      try rw [wg5] at p77
      try rw [wg6] at p77
      try rw [wg7] at p77
      try rw [wg8] at p77
      try rw [wg9] at p77
      try rw [wg10] at p77
      try rw [wg11] at p77
      try rw [wg89] at p78
      try rw [w82] at p78
      try rw [wg90] at p78
      try rw [wg91] at p78
      try rw [wg92] at p78
      try rw [w83] at p78
      try rw [w84] at p78
      try rw [w85] at p78
      try rw [w86] at p78
      try rw [w87] at p78
      try rw [w88] at p78
      try rw [w59] at p78
      try rw [w60] at p78
      try rw [w61] at p78
      try rw [w62] at p78
      try rw [w63] at p78
      try rw [w64] at p78
      try rw [w65] at p78
      try rw [w66] at p78
      try rw [w67] at p78
      try rw [w68] at p78
      try rw [w69] at p78
      try rw [wg1] at p78
      try rw [wg2] at p78
      try rw [wg3] at p78
      try rw [wg4] at p78
      try rw [wg5] at p78
      try rw [wg6] at p78
      try rw [wg7] at p78
      try rw [wg8] at p78
      try rw [wg9] at p78
      try rw [wg10] at p78
      try rw [wg11] at p78
      try rw [wg89] at p79
      try rw [w82] at p79
      try rw [wg90] at p79
      try rw [wg91] at p79
      try rw [wg92] at p79
      try rw [w83] at p79
      try rw [w84] at p79
      try rw [w85] at p79
      try rw [w86] at p79
      try rw [w87] at p79
      try rw [w88] at p79
      try rw [w59] at p79
      try rw [w60] at p79
      try rw [w61] at p79
      try rw [w62] at p79
      try rw [w63] at p79
      try rw [w64] at p79
      try rw [w65] at p79
      try rw [w66] at p79
      try rw [w67] at p79
      try rw [w68] at p79
      try rw [w69] at p79
      try rw [wg1] at p79
      try rw [wg2] at p79
      try rw [wg3] at p79
      try rw [wg4] at p79
      try rw [wg5] at p79
      try rw [wg6] at p79
      try rw [wg7] at p79
      try rw [wg8] at p79
      try rw [wg9] at p79
      try rw [wg10] at p79
      try rw [wg11] at p79
      clear w59 w60 w61 w62 w63 w64 w65 w66 w67 w68 w69
      have TE93 := zTE_fr (m' := m75) TE70 (fun j a b => qm75.1 j (by omega) (zanyF (by simp <;> omega))) (qm75.2.1 8 rfl) (qm75.2.1 38 rfl)
      have Y94 : 0 ≤ x33 → zTy m75 x33 := fun h => zTy_same (Y71 h) (qm75.1 67 (by decide) rfl) (qm75.2.1 8 rfl)
      refine And.intro ⟨by omega, by omega⟩ (And.intro (fun c95 => ?_) (fun c95 => ?_))
      · exact And.intro (zrtb (by omega)) (And.intro ⟨by omega, by omega⟩ (hQ _ _ z81 (by omega) (by omega) (by (try rw [wg89]) <;> (try rw [w82]) <;> (try rw [wg90]) <;> (try rw [wg91]) <;> (try rw [wg92]) <;> (try rw [w83]) <;> (try rw [w84]) <;> (try rw [w85]) <;> (try rw [w86]) <;> (try rw [w87]) <;> (try rw [w88]) <;> (try rw [wg1]) <;> (try rw [wg2]) <;> (try rw [wg3]) <;> (try rw [wg4]) <;> (try rw [wg5]) <;> (try rw [wg6]) <;> (try rw [wg7]) <;> (try rw [wg8]) <;> (try rw [wg9]) <;> (try rw [wg10]) <;> (try rw [wg11]) <;> omega) TE93 (by (try rw [wg89]) <;> (try rw [w82]) <;> (try rw [wg90]) <;> (try rw [wg91]) <;> (try rw [wg92]) <;> (try rw [w83]) <;> (try rw [w84]) <;> (try rw [w85]) <;> (try rw [w86]) <;> (try rw [w87]) <;> (try rw [w88]) <;> (try rw [wg1]) <;> (try rw [wg2]) <;> (try rw [wg3]) <;> (try rw [wg4]) <;> (try rw [wg5]) <;> (try rw [wg6]) <;> (try rw [wg7]) <;> (try rw [wg8]) <;> (try rw [wg9]) <;> (try rw [wg10]) <;> (try rw [wg11]) <;> omega) (fun h => by omega) (by exfalso; have h0 := Or.resolve_right p80 (fun h0 => by have h2 := h0.1; omega); exact h0.2.1 ((rKd_s 60 KK3 (by decide)).mpr (rTm_2 (by rw [V1.1]) RT)))))
      · have W1 := Or.resolve_left p80 (fun h0 => by have h2 := h0.1; omega)
        have L4 := rLx_p L3 (qm75.1 85 (by decide) rfl) (qm75.2.1 30 rfl) W1.2.2.1
        have N4 := (rNu_f N3 (fun j hj => qm75.1 j (by rcases hj with h | h | h | h | h | h <;> rw [h] <;> decide) (by rcases hj with h | h | h | h | h | h <;> rw [h] <;> rfl)) (fun k hk => by rcases hk with h | h | h | h | h | h <;> subst h <;> first | exact qm75.2.1 _ rfl | exact W1.2.2.2))
        have KK4 := rkd L4 rfl
        refine ⟨yk_X9_want, ym_X9_want hg d (by omega), _, rfl, ⟨by omega, by omega⟩, (by (try rw [wg89]) <;> (try rw [w82]) <;> (try rw [wg90]) <;> (try rw [wg91]) <;> (try rw [wg92]) <;> (try rw [w83]) <;> (try rw [w84]) <;> (try rw [w85]) <;> (try rw [w86]) <;> (try rw [w87]) <;> (try rw [w88]) <;> (try rw [wg1]) <;> (try rw [wg2]) <;> (try rw [wg3]) <;> (try rw [wg4]) <;> (try rw [wg5]) <;> (try rw [wg6]) <;> (try rw [wg7]) <;> (try rw [wg8]) <;> (try rw [wg9]) <;> (try rw [wg10]) <;> (try rw [wg11]) <;> omega), ?_⟩
        intro x96 m97 qm97 kx96 lx96 p98 p99 p100 p101 p102
        have z103 := zfx_t z81 qm97 rfl rfl
        have w104 : m97.1 66 ((30 : Nat) : Int) = g2 := (qm97.2.1 30 rfl).trans w82
        have w105 : m97.1 66 ((38 : Nat) : Int) = g53 := (qm97.2.1 38 rfl).trans w83
        have w106 : m97.1 66 ((8 : Nat) : Int) = g54 := (qm97.2.1 8 rfl).trans w84
        have w107 : m97.1 66 ((71 : Nat) : Int) = x33 := (qm97.2.1 71 rfl).trans w85
        have w108 : m97.1 66 ((72 : Nat) : Int) = g9 := (qm97.2.1 72 rfl).trans w86
        have w109 : m97.1 66 ((70 : Nat) : Int) = g29 := (qm97.2.1 70 rfl).trans w87
        have w110 : m97.1 66 ((26 : Nat) : Int) = g11 := (qm97.2.1 26 rfl).trans w88
        obtain ⟨g111, wg111⟩ : ∃ z : Int, m97.1 66 ((31 : Nat) : Int) = z := ⟨_, rfl⟩
        obtain ⟨g112, wg112⟩ : ∃ z : Int, m97.1 66 ((33 : Nat) : Int) = z := ⟨_, rfl⟩
        obtain ⟨g113, wg113⟩ : ∃ z : Int, m97.1 66 ((34 : Nat) : Int) = z := ⟨_, rfl⟩
        obtain ⟨g114, wg114⟩ : ∃ z : Int, m97.1 66 ((32 : Nat) : Int) = z := ⟨_, rfl⟩
        try rw [wg111] at p98
        try rw [w104] at p98
        try rw [wg112] at p98
        try rw [wg113] at p98
        try rw [wg114] at p98
        try rw [w105] at p98
        try rw [w106] at p98
        try rw [w107] at p98
        try rw [w108] at p98
        try rw [w109] at p98
        try rw [w110] at p98
        try rw [wg89] at p98
        try rw [w82] at p98
        try rw [wg90] at p98
        try rw [wg91] at p98
        try rw [wg92] at p98
        try rw [w83] at p98
        try rw [w84] at p98
        try rw [w85] at p98
        try rw [w86] at p98
        try rw [w87] at p98
        try rw [w88] at p98
        try rw [wg1] at p98
        try rw [wg2] at p98
        try rw [wg3] at p98
        try rw [wg4] at p98
        try rw [wg5] at p98
        try rw [wg6] at p98
        try rw [wg7] at p98
        try rw [wg8] at p98
        try rw [wg9] at p98
        try rw [wg10] at p98
        try rw [wg11] at p98
        try rw [wg111] at p99
        try rw [w104] at p99
        try rw [wg112] at p99
        try rw [wg113] at p99
        try rw [wg114] at p99
        try rw [w105] at p99
        try rw [w106] at p99
        try rw [w107] at p99
        try rw [w108] at p99
        try rw [w109] at p99
        try rw [w110] at p99
        try rw [wg89] at p99
        try rw [w82] at p99
        try rw [wg90] at p99
        try rw [wg91] at p99
        try rw [wg92] at p99
        try rw [w83] at p99
        try rw [w84] at p99
        try rw [w85] at p99
        try rw [w86] at p99
        try rw [w87] at p99
        try rw [w88] at p99
        try rw [wg1] at p99
        try rw [wg2] at p99
        try rw [wg3] at p99
        try rw [wg4] at p99
        try rw [wg5] at p99
        try rw [wg6] at p99
        try rw [wg7] at p99
        try rw [wg8] at p99
        try rw [wg9] at p99
        try rw [wg10] at p99
        try rw [wg11] at p99
        try rw [wg111] at p100
        try rw [w104] at p100
        try rw [wg112] at p100
        try rw [wg113] at p100
        try rw [wg114] at p100
        try rw [w105] at p100
        try rw [w106] at p100
        try rw [w107] at p100
        try rw [w108] at p100
        try rw [w109] at p100
        try rw [w110] at p100
        try rw [wg89] at p100
        try rw [w82] at p100
        try rw [wg90] at p100
        try rw [wg91] at p100
        try rw [wg92] at p100
        try rw [w83] at p100
        try rw [w84] at p100
        try rw [w85] at p100
        try rw [w86] at p100
        try rw [w87] at p100
        try rw [w88] at p100
        try rw [wg1] at p100
        try rw [wg2] at p100
        try rw [wg3] at p100
        try rw [wg4] at p100
        try rw [wg5] at p100
        try rw [wg6] at p100
        try rw [wg7] at p100
        try rw [wg8] at p100
        try rw [wg9] at p100
        try rw [wg10] at p100
        try rw [wg11] at p100
        try rw [wg111] at p101
        try rw [w104] at p101
        try rw [wg112] at p101
        try rw [wg113] at p101
        try rw [wg114] at p101
        try rw [w105] at p101
        try rw [w106] at p101
        try rw [w107] at p101
        try rw [w108] at p101
        try rw [w109] at p101
        try rw [w110] at p101
        try rw [wg89] at p101
        try rw [w82] at p101
        try rw [wg90] at p101
        try rw [wg91] at p101
        try rw [wg92] at p101
        try rw [w83] at p101
        try rw [w84] at p101
        try rw [w85] at p101
        try rw [w86] at p101
        try rw [w87] at p101
        try rw [w88] at p101
        try rw [wg1] at p101
        try rw [wg2] at p101
        try rw [wg3] at p101
        try rw [wg4] at p101
        try rw [wg5] at p101
        try rw [wg6] at p101
        try rw [wg7] at p101
        try rw [wg8] at p101
        try rw [wg9] at p101
        try rw [wg10] at p101
        try rw [wg11] at p101
        clear wg89 w82 wg90 wg91 wg92 w83 w84 w85 w86 w87 w88
        have TE115 := zTE_fr (m' := m97) TE93 (fun j a b => qm97.1 j (by omega) (zanyF (by simp <;> omega))) (qm97.2.1 8 rfl) (qm97.2.1 38 rfl)
        have Y116 : 0 ≤ x33 → zTy m97 x33 := fun h => zTy_same (Y94 h) (qm97.1 67 (by decide) rfl) (qm97.2.1 8 rfl)
        refine And.intro ⟨by omega, by omega⟩ (And.intro (fun c117 => ?_) (fun c117 => ?_))
        · have W2 := Or.resolve_left p102 (fun h0 => by have h2 := h0.1; omega)
          have L5 := rLx_p L4 (qm97.1 85 (by decide) rfl) (qm97.2.1 30 rfl) W2.2.2.1
          have N5 := (rNu_f N4 (fun j hj => qm97.1 j (by rcases hj with h | h | h | h | h | h <;> rw [h] <;> decide) (by rcases hj with h | h | h | h | h | h <;> rw [h] <;> rfl)) (fun k hk => by rcases hk with h | h | h | h | h | h <;> subst h <;> first | exact qm97.2.1 _ rfl | exact W2.2.2.2))
          have E61 := (rKd_s 61 KK4 (by decide)).mp W2.2.1
          have V2 := yQB_v B n1 o 3
          have O5 : m97.1 66 ((70 : Nat) : Int) = o := by rw [qm97.2.1 70 rfl, qm75.2.1 70 rfl, em57, zu_nk (by decide), qm34.2.1 70 rfl]; exact O1
          intro x118 hx118 kx118 lx118
          rw [w109] at hx118
          refine ⟨yk_X9_readType, ym_X9_readType hg d (by omega), _, _, _, _, _, _, _, _, _, _, τ, (ynx τ (ynx τ p1)), (yQB B n1 o 3), _, _, rfl, ⟨by omega, by omega⟩, ⟨by omega, by omega⟩, ⟨by omega, by omega⟩, (by (try rw [wg111]) <;> (try rw [w104]) <;> (try rw [wg112]) <;> (try rw [wg113]) <;> (try rw [wg114]) <;> (try rw [w105]) <;> (try rw [w106]) <;> (try rw [w107]) <;> (try rw [w108]) <;> (try rw [w109]) <;> (try rw [w110]) <;> (try rw [wg1]) <;> (try rw [wg2]) <;> (try rw [wg3]) <;> (try rw [wg4]) <;> (try rw [wg5]) <;> (try rw [wg6]) <;> (try rw [wg7]) <;> (try rw [wg8]) <;> (try rw [wg9]) <;> (try rw [wg10]) <;> (try rw [wg11]) <;> omega), TE115.1.1, TE115.1.2.1, ⟨by first | (rw [show m97.1 66 ((26 : Nat) : Int) = μ.1 66 ((26 : Nat) : Int) from z103.2.1 26 rfl]; exact hp3.1) | (exact (by (try rw [wg111]) <;> (try rw [w104]) <;> (try rw [wg112]) <;> (try rw [wg113]) <;> (try rw [wg114]) <;> (try rw [w105]) <;> (try rw [w106]) <;> (try rw [w107]) <;> (try rw [w108]) <;> (try rw [w109]) <;> (try rw [w110]) <;> (try rw [wg1]) <;> (try rw [wg2]) <;> (try rw [wg3]) <;> (try rw [wg4]) <;> (try rw [wg5]) <;> (try rw [wg6]) <;> (try rw [wg7]) <;> (try rw [wg8]) <;> (try rw [wg9]) <;> (try rw [wg10]) <;> (try rw [wg11]) <;> omega)), fun h => by rw [show m97.1 76 = μ.1 76 from z103.1 76 (by decide) rfl, show m97.1 77 = μ.1 77 from z103.1 77 (by decide) rfl, show m97.1 66 ((24 : Nat) : Int) = μ.1 66 ((24 : Nat) : Int) from z103.2.1 24 rfl]; exact hp3.2.1 _ h (by omega), hp3.2.2⟩, (fun v a b => by rw [show m97.1 77 = μ.1 77 from z103.1 77 (by decide) rfl, show m97.1 66 ((24 : Nat) : Int) = μ.1 66 ((24 : Nat) : Int) from z103.2.1 24 rfl]; exact hp4 v a b), (by (try rw [w106]); (try rw [w105]); exact ⟨zTE_pre TE115 w106 w105 wg7 wg6 hp5.1, by omega, by omega⟩), (fun _ => ⟨Int.le_refl _, Int.le_refl _⟩), ⟨L5, rNg_q N5⟩, ⟨yI0_q hp8 OB, by rw [V2.2.2.2.1]; first | exact O5.symm | omega⟩, ⟨by rw [V2.1], by rw [V2.2.1, if_pos rfl]⟩, (by rw [V2.2.2.2.2.1]; exact hp9), ?_⟩
          intro x119 m120 qm120 kx119 lx119 p121 p122 p123 p124 p125 p126 p127 p128
          have z129 := zfx_t z103 qm120 rfl rfl
          have w130 : m120.1 66 ((30 : Nat) : Int) = g2 := (qm120.2.1 30 rfl).trans w104
          have w131 : m120.1 66 ((71 : Nat) : Int) = x33 := (qm120.2.1 71 rfl).trans w107
          have w132 : m120.1 66 ((72 : Nat) : Int) = g9 := (qm120.2.1 72 rfl).trans w108
          have w133 : m120.1 66 ((70 : Nat) : Int) = g29 := (qm120.2.1 70 rfl).trans w109
          have w134 : m120.1 66 ((26 : Nat) : Int) = g11 := (qm120.2.1 26 rfl).trans w110
          obtain ⟨g135, wg135⟩ : ∃ z : Int, m120.1 66 ((31 : Nat) : Int) = z := ⟨_, rfl⟩
          obtain ⟨g136, wg136⟩ : ∃ z : Int, m120.1 66 ((33 : Nat) : Int) = z := ⟨_, rfl⟩
          obtain ⟨g137, wg137⟩ : ∃ z : Int, m120.1 66 ((34 : Nat) : Int) = z := ⟨_, rfl⟩
          obtain ⟨g138, wg138⟩ : ∃ z : Int, m120.1 66 ((32 : Nat) : Int) = z := ⟨_, rfl⟩
          obtain ⟨g139, wg139⟩ : ∃ z : Int, m120.1 66 ((38 : Nat) : Int) = z := ⟨_, rfl⟩
          obtain ⟨g140, wg140⟩ : ∃ z : Int, m120.1 66 ((8 : Nat) : Int) = z := ⟨_, rfl⟩
          try rw [wg135] at p121
          try rw [w130] at p121
          try rw [wg136] at p121
          try rw [wg137] at p121
          try rw [wg138] at p121
          try rw [wg139] at p121
          try rw [wg140] at p121
          try rw [w131] at p121
          try rw [w132] at p121
          try rw [w133] at p121
          try rw [w134] at p121
          try rw [wg111] at p121
          try rw [w104] at p121
          try rw [wg112] at p121
          try rw [wg113] at p121
          try rw [wg114] at p121
          try rw [w105] at p121
          try rw [w106] at p121
          try rw [w107] at p121
          try rw [w108] at p121
          try rw [w109] at p121
          try rw [w110] at p121
          try rw [wg1] at p121
          try rw [wg2] at p121
          try rw [wg3] at p121
          try rw [wg4] at p121
          try rw [wg5] at p121
          try rw [wg6] at p121
          try rw [wg7] at p121
          try rw [wg8] at p121
          try rw [wg9] at p121
          try rw [wg10] at p121
          try rw [wg11] at p121
          try rw [wg135] at p122
          try rw [w130] at p122
          try rw [wg136] at p122
          try rw [wg137] at p122
          try rw [wg138] at p122
          try rw [wg139] at p122
          try rw [wg140] at p122
          try rw [w131] at p122
          try rw [w132] at p122
          try rw [w133] at p122
          try rw [w134] at p122
          try rw [wg111] at p122
          try rw [w104] at p122
          try rw [wg112] at p122
          try rw [wg113] at p122
          try rw [wg114] at p122
          try rw [w105] at p122
          try rw [w106] at p122
          try rw [w107] at p122
          try rw [w108] at p122
          try rw [w109] at p122
          try rw [w110] at p122
          try rw [wg1] at p122
          try rw [wg2] at p122
          try rw [wg3] at p122
          try rw [wg4] at p122
          try rw [wg5] at p122
          try rw [wg6] at p122
          try rw [wg7] at p122
          try rw [wg8] at p122
          try rw [wg9] at p122
          try rw [wg10] at p122
          try rw [wg11] at p122
          try rw [wg135] at p123
          try rw [w130] at p123
          try rw [wg136] at p123
          try rw [wg137] at p123
          try rw [wg138] at p123
          try rw [wg139] at p123
          try rw [wg140] at p123
          try rw [w131] at p123
          try rw [w132] at p123
          try rw [w133] at p123
          try rw [w134] at p123
          try rw [wg111] at p123
          try rw [w104] at p123
          try rw [wg112] at p123
          try rw [wg113] at p123
          try rw [wg114] at p123
          try rw [w105] at p123
          try rw [w106] at p123
          try rw [w107] at p123
          try rw [w108] at p123
          try rw [w109] at p123
          try rw [w110] at p123
          try rw [wg1] at p123
          try rw [wg2] at p123
          try rw [wg3] at p123
          try rw [wg4] at p123
          try rw [wg5] at p123
          try rw [wg6] at p123
          try rw [wg7] at p123
          try rw [wg8] at p123
          try rw [wg9] at p123
          try rw [wg10] at p123
          try rw [wg11] at p123
          try rw [wg135] at p124
          try rw [w130] at p124
          try rw [wg136] at p124
          try rw [wg137] at p124
          try rw [wg138] at p124
          try rw [wg139] at p124
          try rw [wg140] at p124
          try rw [w131] at p124
          try rw [w132] at p124
          try rw [w133] at p124
          try rw [w134] at p124
          try rw [wg111] at p124
          try rw [w104] at p124
          try rw [wg112] at p124
          try rw [wg113] at p124
          try rw [wg114] at p124
          try rw [w105] at p124
          try rw [w106] at p124
          try rw [w107] at p124
          try rw [w108] at p124
          try rw [w109] at p124
          try rw [w110] at p124
          try rw [wg1] at p124
          try rw [wg2] at p124
          try rw [wg3] at p124
          try rw [wg4] at p124
          try rw [wg5] at p124
          try rw [wg6] at p124
          try rw [wg7] at p124
          try rw [wg8] at p124
          try rw [wg9] at p124
          try rw [wg10] at p124
          try rw [wg11] at p124
          try rw [wg135] at p125
          try rw [w130] at p125
          try rw [wg136] at p125
          try rw [wg137] at p125
          try rw [wg138] at p125
          try rw [wg139] at p125
          try rw [wg140] at p125
          try rw [w131] at p125
          try rw [w132] at p125
          try rw [w133] at p125
          try rw [w134] at p125
          try rw [wg111] at p125
          try rw [w104] at p125
          try rw [wg112] at p125
          try rw [wg113] at p125
          try rw [wg114] at p125
          try rw [w105] at p125
          try rw [w106] at p125
          try rw [w107] at p125
          try rw [w108] at p125
          try rw [w109] at p125
          try rw [w110] at p125
          try rw [wg1] at p125
          try rw [wg2] at p125
          try rw [wg3] at p125
          try rw [wg4] at p125
          try rw [wg5] at p125
          try rw [wg6] at p125
          try rw [wg7] at p125
          try rw [wg8] at p125
          try rw [wg9] at p125
          try rw [wg10] at p125
          try rw [wg11] at p125
          try rw [wg135] at p126
          try rw [w130] at p126
          try rw [wg136] at p126
          try rw [wg137] at p126
          try rw [wg138] at p126
          try rw [wg139] at p126
          try rw [wg140] at p126
          try rw [w131] at p126
          try rw [w132] at p126
          try rw [w133] at p126
          try rw [w134] at p126
          try rw [wg111] at p126
          try rw [w104] at p126
          try rw [wg112] at p126
          try rw [wg113] at p126
          try rw [wg114] at p126
          try rw [w105] at p126
          try rw [w106] at p126
          try rw [w107] at p126
          try rw [w108] at p126
          try rw [w109] at p126
          try rw [w110] at p126
          try rw [wg1] at p126
          try rw [wg2] at p126
          try rw [wg3] at p126
          try rw [wg4] at p126
          try rw [wg5] at p126
          try rw [wg6] at p126
          try rw [wg7] at p126
          try rw [wg8] at p126
          try rw [wg9] at p126
          try rw [wg10] at p126
          try rw [wg11] at p126
          try rw [wg135] at p127
          try rw [w130] at p127
          try rw [wg136] at p127
          try rw [wg137] at p127
          try rw [wg138] at p127
          try rw [wg139] at p127
          try rw [wg140] at p127
          try rw [w131] at p127
          try rw [w132] at p127
          try rw [w133] at p127
          try rw [w134] at p127
          try rw [wg111] at p127
          try rw [w104] at p127
          try rw [wg112] at p127
          try rw [wg113] at p127
          try rw [wg114] at p127
          try rw [w105] at p127
          try rw [w106] at p127
          try rw [w107] at p127
          try rw [w108] at p127
          try rw [w109] at p127
          try rw [w110] at p127
          try rw [wg1] at p127
          try rw [wg2] at p127
          try rw [wg3] at p127
          try rw [wg4] at p127
          try rw [wg5] at p127
          try rw [wg6] at p127
          try rw [wg7] at p127
          try rw [wg8] at p127
          try rw [wg9] at p127
          try rw [wg10] at p127
          try rw [wg11] at p127
          clear wg111 w104 wg112 wg113 wg114 w105 w106 w107 w108 w109 w110
          have TE141 := zTE_t TE115 p123
          have Y142 : 0 ≤ x119 → zTy m120 x119 := fun h => by have h1 : lo ≤ x119 ∧ x119 < zTop m120 ∧ m120.1 67 x119 ≤ 1 := (by rcases p126 with c | c; omega; exact ⟨c.1, c.2.1, c.2.2.1⟩); exact ⟨⟨h, h1.2.1⟩, by omega⟩
          have Y143 : 0 ≤ x33 → zTy m120 x33 := fun h => zTy_old (Y116 h) p123.1.2.2.1 p123.1.2.2.2.1
          have O120 := p123.1.2.2.1
          clear p123 p125 p126
          refine And.intro ⟨by omega, by omega⟩ ?_
          intro m144 em144
          have z145 := zfx_f z129 em144 rfl
          have w146 : m144.1 66 ((31 : Nat) : Int) = g135 := by rw [em144]; exact (zu_nk (by decide)).trans wg135
          have w147 : m144.1 66 ((30 : Nat) : Int) = g2 := by rw [em144]; exact (zu_nk (by decide)).trans w130
          have w148 : m144.1 66 ((33 : Nat) : Int) = g136 := by rw [em144]; exact (zu_nk (by decide)).trans wg136
          have w149 : m144.1 66 ((34 : Nat) : Int) = g137 := by rw [em144]; exact (zu_nk (by decide)).trans wg137
          have w150 : m144.1 66 ((32 : Nat) : Int) = g138 := by rw [em144]; exact (zu_nk (by decide)).trans wg138
          have w151 : m144.1 66 ((38 : Nat) : Int) = g139 := by rw [em144]; exact (zu_nk (by decide)).trans wg139
          have w152 : m144.1 66 ((8 : Nat) : Int) = g140 := by rw [em144]; exact (zu_nk (by decide)).trans wg140
          have w153 : m144.1 66 ((71 : Nat) : Int) = x33 := by rw [em144]; exact (zu_nk (by decide)).trans w131
          have w154 : m144.1 66 ((72 : Nat) : Int) = x119 := by rw [em144]; exact zu_at
          have w155 : m144.1 66 ((70 : Nat) : Int) = g29 := by rw [em144]; exact (zu_nk (by decide)).trans w133
          have w156 : m144.1 66 ((26 : Nat) : Int) = g11 := by rw [em144]; exact (zu_nk (by decide)).trans w134
          clear wg135 w130 wg136 wg137 wg138 wg139 wg140 w131 w132 w133 w134
          have TE157 := zTE_fr (m' := m144) TE141 (fun j a b => by rw [em144, zu_ne (by omega)]) (by rw [em144]; exact zu_nk (by decide)) (by rw [em144]; exact zu_nk (by decide))
          have Y158 : 0 ≤ x33 → zTy m144 x33 := fun h => zTy_same (Y143 h) (by rw [em144, zu_ne (by decide)]) (by rw [em144]; exact zu_nk (by decide))
          have Y159 : 0 ≤ x119 → zTy m144 x119 := fun h => zTy_same (Y142 h) (by rw [em144, zu_ne (by decide)]) (by rw [em144]; exact zu_nk (by decide))
          intro x160 hx160 kx160 lx160
          rw [w154] at hx160
          refine And.intro ⟨by omega, by omega⟩ (And.intro (fun c161 => ?_) (fun c161 => ?_))
          · exact And.intro (zrtb (by omega)) (And.intro ⟨by omega, by omega⟩ (hQ _ _ z145 (by omega) (by omega) (by (try rw [w146]) <;> (try rw [w147]) <;> (try rw [w148]) <;> (try rw [w149]) <;> (try rw [w150]) <;> (try rw [w151]) <;> (try rw [w152]) <;> (try rw [w153]) <;> (try rw [w154]) <;> (try rw [w155]) <;> (try rw [w156]) <;> (try rw [wg1]) <;> (try rw [wg2]) <;> (try rw [wg3]) <;> (try rw [wg4]) <;> (try rw [wg5]) <;> (try rw [wg6]) <;> (try rw [wg7]) <;> (try rw [wg8]) <;> (try rw [wg9]) <;> (try rw [wg10]) <;> (try rw [wg11]) <;> omega) TE157 (by (try rw [w146]) <;> (try rw [w147]) <;> (try rw [w148]) <;> (try rw [w149]) <;> (try rw [w150]) <;> (try rw [w151]) <;> (try rw [w152]) <;> (try rw [w153]) <;> (try rw [w154]) <;> (try rw [w155]) <;> (try rw [w156]) <;> (try rw [wg1]) <;> (try rw [wg2]) <;> (try rw [wg3]) <;> (try rw [wg4]) <;> (try rw [wg5]) <;> (try rw [wg6]) <;> (try rw [wg7]) <;> (try rw [wg8]) <;> (try rw [wg9]) <;> (try rw [wg10]) <;> (try rw [wg11]) <;> omega) (fun h => by omega) (Or.inr ⟨rfl, by obtain ⟨l, x, B1, R1, F8, F9⟩ := (by rcases p128 with h0 | h0; exact h0.2; (exfalso; have h2 := h0.1; omega) : rFa τ _ m120); exact ⟨x, l, Or.inr ⟨o, p0, QP, Or.inr ⟨p1, n1, _, RT, Or.inr ⟨E61, Or.inl ⟨B1, R1⟩⟩⟩⟩, by rw [em144, zu_nk (by decide)]; exact F8, by rw [em144, zu_nk (by decide)]; exact F9, yKs_x hp8 OB (by decide) R1⟩⟩)))
          · obtain ⟨-, p2, n2, h2, as2, RT2, L6, N6, RE2⟩ := Or.resolve_left p128 (fun h0 => by have h2 := h0.1; omega)
            have QL : ∃ (o : Int) (L1 L2 : List Int), yQl τ B o L1 L2 ∧ rE m144 (m144.1 66 ((71 : Nat) : Int)) L1 ∧ rE m144 (m144.1 66 ((72 : Nat) : Int)) L2 := by
              refine ⟨o, ycd ((0, h1, as1) : yF), ycd ((0, h2, as2) : yF), ⟨p0, p1, n1, _, p2, n2, _, QP, RT, rfl, E61, RT2, rfl⟩, ?_, ?_⟩
              · rw [w153, show ycd ((0, h1, as1) : yF) = h1 :: as1.flatten by simp [ycd, ywr]]
                have y97 := Y116 (by omega)
                refine rE_c (μ := m120) (fun j a b => by rw [em144, zu_ne (by omega)]) (rE_old O120 TE115.1.1.2.1 y97.1.1 y97.1.2 ?_)
                exact rE_c (fun j a b => by rw [qm97.1 j (by omega) rfl, qm75.1 j (by omega) rfl, em57, zu_ne (by omega)]) RE
              · rw [w154, show ycd ((0, h2, as2) : yF) = h2 :: as2.flatten by simp [ycd, ywr]]
                exact rE_c (μ := m120) (fun j a b => by rw [em144, zu_ne (by omega)]) RE2
            exact And.intro (zrtb (by omega)) (And.intro ⟨by omega, by omega⟩ (hQ _ _ z145 (by omega) (by omega) (by (try rw [w146]) <;> (try rw [w147]) <;> (try rw [w148]) <;> (try rw [w149]) <;> (try rw [w150]) <;> (try rw [w151]) <;> (try rw [w152]) <;> (try rw [w153]) <;> (try rw [w154]) <;> (try rw [w155]) <;> (try rw [w156]) <;> (try rw [wg1]) <;> (try rw [wg2]) <;> (try rw [wg3]) <;> (try rw [wg4]) <;> (try rw [wg5]) <;> (try rw [wg6]) <;> (try rw [wg7]) <;> (try rw [wg8]) <;> (try rw [wg9]) <;> (try rw [wg10]) <;> (try rw [wg11]) <;> omega) TE157 (by (try rw [w146]) <;> (try rw [w147]) <;> (try rw [w148]) <;> (try rw [w149]) <;> (try rw [w150]) <;> (try rw [w151]) <;> (try rw [w152]) <;> (try rw [w153]) <;> (try rw [w154]) <;> (try rw [w155]) <;> (try rw [w156]) <;> (try rw [wg1]) <;> (try rw [wg2]) <;> (try rw [wg3]) <;> (try rw [wg4]) <;> (try rw [wg5]) <;> (try rw [wg6]) <;> (try rw [wg7]) <;> (try rw [wg8]) <;> (try rw [wg9]) <;> (try rw [wg10]) <;> (try rw [wg11]) <;> omega) (fun h => by rw [w153, w154]; exact ⟨Y158 (by omega), Y159 (by omega)⟩) (Or.inl ⟨rfl, Or.inr ⟨o, p0, QP, Or.inr ⟨p1, n1, _, RT, Or.inr ⟨E61, Or.inr ⟨⟨rfl, rfl⟩, p2, n2, _, RT2⟩⟩⟩⟩, by rw [em144, zu_nk (by decide)]; exact N6.1.2.2.2.2.2, QL⟩)))
        · exact And.intro (zrtb (by omega)) (And.intro ⟨by omega, by omega⟩ (hQ _ _ z103 (by omega) (by omega) (by (try rw [wg111]) <;> (try rw [w104]) <;> (try rw [wg112]) <;> (try rw [wg113]) <;> (try rw [wg114]) <;> (try rw [w105]) <;> (try rw [w106]) <;> (try rw [w107]) <;> (try rw [w108]) <;> (try rw [w109]) <;> (try rw [w110]) <;> (try rw [wg1]) <;> (try rw [wg2]) <;> (try rw [wg3]) <;> (try rw [wg4]) <;> (try rw [wg5]) <;> (try rw [wg6]) <;> (try rw [wg7]) <;> (try rw [wg8]) <;> (try rw [wg9]) <;> (try rw [wg10]) <;> (try rw [wg11]) <;> omega) TE115 (by (try rw [wg111]) <;> (try rw [w104]) <;> (try rw [wg112]) <;> (try rw [wg113]) <;> (try rw [wg114]) <;> (try rw [w105]) <;> (try rw [w106]) <;> (try rw [w107]) <;> (try rw [w108]) <;> (try rw [w109]) <;> (try rw [w110]) <;> (try rw [wg1]) <;> (try rw [wg2]) <;> (try rw [wg3]) <;> (try rw [wg4]) <;> (try rw [wg5]) <;> (try rw [wg6]) <;> (try rw [wg7]) <;> (try rw [wg8]) <;> (try rw [wg9]) <;> (try rw [wg10]) <;> (try rw [wg11]) <;> omega) (fun h => by omega) (Or.inr ⟨rfl, by have h0 := Or.resolve_right p102 (fun h0 => by have h2 := h0.1; omega); exact ⟨_, _, Or.inr ⟨o, p0, QP, Or.inr ⟨p1, n1, _, RT, Or.inl ⟨fun h1 => h0.2.1 ((rKd_s 61 KK4 (by decide)).mpr h1), rfl⟩⟩⟩, (rfq_f L4 N4.1.2.2.2.2.2 h0.2.2).1, (rfq_f L4 N4.1.2.2.2.2.2 h0.2.2).2, yfq_x (by decide)⟩⟩)))
  · exact And.intro (zrtb (by omega)) (And.intro ⟨by omega, by omega⟩ (hQ _ _ z18 (by omega) (by omega) (by (try rw [wg25]) <;> (try rw [w19]) <;> (try rw [wg26]) <;> (try rw [wg27]) <;> (try rw [wg28]) <;> (try rw [w20]) <;> (try rw [w21]) <;> (try rw [w22]) <;> (try rw [w23]) <;> (try rw [wg29]) <;> (try rw [w24]) <;> (try rw [wg1]) <;> (try rw [wg2]) <;> (try rw [wg3]) <;> (try rw [wg4]) <;> (try rw [wg5]) <;> (try rw [wg6]) <;> (try rw [wg7]) <;> (try rw [wg8]) <;> (try rw [wg9]) <;> (try rw [wg10]) <;> (try rw [wg11]) <;> omega) TE30 (by (try rw [wg25]) <;> (try rw [w19]) <;> (try rw [wg26]) <;> (try rw [wg27]) <;> (try rw [wg28]) <;> (try rw [w20]) <;> (try rw [w21]) <;> (try rw [w22]) <;> (try rw [w23]) <;> (try rw [wg29]) <;> (try rw [w24]) <;> (try rw [wg1]) <;> (try rw [wg2]) <;> (try rw [wg3]) <;> (try rw [wg4]) <;> (try rw [wg5]) <;> (try rw [wg6]) <;> (try rw [wg7]) <;> (try rw [wg8]) <;> (try rw [wg9]) <;> (try rw [wg10]) <;> (try rw [wg11]) <;> omega) (fun h => by omega) (Or.inr ⟨rfl, by obtain ⟨x, l, h1, h2, h3⟩ := (by rcases p17 with h0 | h0; (exfalso; have h2 := h0.1; omega); exact h0.2 : ∃ x l, yqo τ B = .inr (x, l) ∧ m13.1 66 ((35 : Nat) : Int) = x ∧ m13.1 66 ((36 : Nat) : Int) = l); exact ⟨x, l, Or.inl h1, h2, h3, yqo_x h1⟩⟩)))
