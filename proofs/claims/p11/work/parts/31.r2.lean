/-! ### the next token -/
def zk_X9_pass : zC := fun As μ Q => As = [.inr (.inr (66, 66))] ∧ (0 ≤ μ.1 66 ((31 : Nat) : Int) ∧ μ.1 66 ((31 : Nat) : Int) ≤ μ.1 66 ((30 : Nat) : Int) ∧ μ.1 66 ((30 : Nat) : Int) ≤ 800) ∧ (∀ (μ' : zM), zfx [] [31, 32, 33, 34] μ μ' → (0 ≤ μ'.1 66 ((33 : Nat) : Int) ∧ 0 ≤ μ'.1 66 ((34 : Nat) : Int) ∧ μ'.1 66 ((33 : Nat) : Int) + μ'.1 66 ((34 : Nat) : Int) ≤ μ'.1 66 ((31 : Nat) : Int) ∧ μ'.1 66 ((31 : Nat) : Int) ≤ μ'.1 66 ((30 : Nat) : Int) ∧ μ'.1 66 ((30 : Nat) : Int) ≤ 800) → (μ'.1 66 ((30 : Nat) : Int) = μ.1 66 ((30 : Nat) : Int)) → (μ'.1 66 ((32 : Nat) : Int) = 256 ∨ μ.1 66 ((31 : Nat) : Int) < μ'.1 66 ((31 : Nat) : Int)) → (μ.1 66 ((31 : Nat) : Int) ≤ μ'.1 66 ((31 : Nat) : Int)) → Q none μ')
set_option maxHeartbeats 1000000 in
theorem zm_X9_pass {g : zΓ} (hg : zg g) (d : Nat) (hd : 3 ≤ d) : zOk g d 131 zk_X9_pass := by
  obtain ⟨d, rfl⟩ : ∃ d', d = d' + 1 := ⟨d - 1, by omega⟩
  refine zOk_loop hg (show mt_tab[131]? = some mt_X9_pass from rfl) ([(0, [0]), (101, [0])], []) 131 rfl fun As μ Q hC => ?_
  obtain ⟨rfl, hp0, hQ⟩ := hC
  obtain ⟨g1, wg1⟩ : ∃ z : Int, μ.1 66 ((31 : Nat) : Int) = z := ⟨_, rfl⟩
  obtain ⟨g2, wg2⟩ : ∃ z : Int, μ.1 66 ((30 : Nat) : Int) = z := ⟨_, rfl⟩
  obtain ⟨g3, wg3⟩ : ∃ z : Int, μ.1 66 ((33 : Nat) : Int) = z := ⟨_, rfl⟩
  obtain ⟨g4, wg4⟩ : ∃ z : Int, μ.1 66 ((34 : Nat) : Int) = z := ⟨_, rfl⟩
  obtain ⟨g5, wg5⟩ : ∃ z : Int, μ.1 66 ((32 : Nat) : Int) = z := ⟨_, rfl⟩
  try rw [wg1] at hp0
  try rw [wg2] at hp0
  try rw [wg3] at hp0
  try rw [wg4] at hp0
  try rw [wg5] at hp0
  have z0 : zfx [] [31, 32, 33, 34] μ μ := zfx_x μ
  refine ⟨rfl, fun pc vs μ' n => (pc = 0 → vs = [.inr (.inr (66, 66))] ∧ zfx [] [31, 32, 33, 34] μ μ' ∧ (0 ≤ μ'.1 66 ((31 : Nat) : Int) ∧ μ'.1 66 ((31 : Nat) : Int) ≤ μ'.1 66 ((30 : Nat) : Int) ∧ μ'.1 66 ((30 : Nat) : Int) ≤ 800) ∧ (μ'.1 66 ((30 : Nat) : Int) = μ.1 66 ((30 : Nat) : Int)) ∧ (μ.1 66 ((31 : Nat) : Int) ≤ μ'.1 66 ((31 : Nat) : Int)) ∧ n = (Int.toNat (μ'.1 66 ((30 : Nat) : Int) - μ'.1 66 ((31 : Nat) : Int) + 1000000))) ∧ (pc = 101 → vs = [.inr (.inr (66, 66))] ∧ zfx [] [31, 32, 33, 34] μ μ' ∧ (0 ≤ μ'.1 66 ((34 : Nat) : Int) ∧ 0 ≤ μ'.1 66 ((31 : Nat) : Int) ∧ μ'.1 66 ((31 : Nat) : Int) < μ'.1 66 ((30 : Nat) : Int) ∧ μ'.1 66 ((30 : Nat) : Int) ≤ 800) ∧ (μ'.1 66 ((30 : Nat) : Int) = μ.1 66 ((30 : Nat) : Int)) ∧ (μ.1 66 ((31 : Nat) : Int) ≤ μ'.1 66 ((31 : Nat) : Int)) ∧ (μ'.1 66 ((31 : Nat) : Int) + μ'.1 66 ((34 : Nat) : Int) ≤ μ'.1 66 ((30 : Nat) : Int)) ∧ (μ'.1 66 ((33 : Nat) : Int) = μ'.1 66 ((31 : Nat) : Int)) ∧ (μ'.1 66 ((34 : Nat) : Int) = 0 → zlet (μ'.1 85 (μ'.1 66 ((31 : Nat) : Int)))) ∧ n = (Int.toNat (μ'.1 66 ((30 : Nat) : Int) - μ'.1 66 ((34 : Nat) : Int)))), ?_, ?_, ?_, trivial⟩
  · refine Exists.intro (Int.toNat (μ.1 66 ((30 : Nat) : Int) - μ.1 66 ((31 : Nat) : Int) + 1000000)) ?_
    exact ⟨(fun _ => ⟨rfl, z0, (by (try rw [wg1]) <;> (try rw [wg2]) <;> (try rw [wg3]) <;> (try rw [wg4]) <;> (try rw [wg5]) <;> omega), (by (try rw [wg1]) <;> (try rw [wg2]) <;> (try rw [wg3]) <;> (try rw [wg4]) <;> (try rw [wg5]) <;> omega), (by (try rw [wg1]) <;> (try rw [wg2]) <;> (try rw [wg3]) <;> (try rw [wg4]) <;> (try rw [wg5]) <;> omega), rfl⟩), (fun h => absurd h (by decide))⟩
  · intro vs m0 n hI
    replace hI := hI.1 rfl
    clear z0
    obtain ⟨rfl, z0, i0, i1, i2, rfl⟩ := hI
    obtain ⟨g6, wg6⟩ : ∃ z : Int, m0.1 66 ((31 : Nat) : Int) = z := ⟨_, rfl⟩
    obtain ⟨g7, wg7⟩ : ∃ z : Int, m0.1 66 ((30 : Nat) : Int) = z := ⟨_, rfl⟩
    obtain ⟨g8, wg8⟩ : ∃ z : Int, m0.1 66 ((33 : Nat) : Int) = z := ⟨_, rfl⟩
    obtain ⟨g9, wg9⟩ : ∃ z : Int, m0.1 66 ((34 : Nat) : Int) = z := ⟨_, rfl⟩
    obtain ⟨g10, wg10⟩ : ∃ z : Int, m0.1 66 ((32 : Nat) : Int) = z := ⟨_, rfl⟩
    try rw [wg6] at i0
    try rw [wg7] at i0
    try rw [wg8] at i0
    try rw [wg9] at i0
    try rw [wg10] at i0
    try rw [wg1] at i0
    try rw [wg2] at i0
    try rw [wg3] at i0
    try rw [wg4] at i0
    try rw [wg5] at i0
    try rw [wg6] at i1
    try rw [wg7] at i1
    try rw [wg8] at i1
    try rw [wg9] at i1
    try rw [wg10] at i1
    try rw [wg1] at i1
    try rw [wg2] at i1
    try rw [wg3] at i1
    try rw [wg4] at i1
    try rw [wg5] at i1
    try rw [wg6] at i2
    try rw [wg7] at i2
    try rw [wg8] at i2
    try rw [wg9] at i2
    try rw [wg10] at i2
    try rw [wg1] at i2
    try rw [wg2] at i2
    try rw [wg3] at i2
    try rw [wg4] at i2
    try rw [wg5] at i2
    intro x11 hx11 kx11 lx11
    rw [wg6] at hx11
    intro x12 hx12 kx12 lx12
    rw [wg7] at hx12
    refine And.intro ⟨⟨by omega, by omega⟩, ⟨by omega, by omega⟩⟩ (And.intro (fun c13 => ?_) (fun c13 => ?_))
    · intro x14 hx14 kx14 lx14
      rw [wg6] at hx14
      refine And.intro ⟨by omega, by omega⟩ ?_
      intro m15 em15
      have z16 := zfx_f z0 em15 rfl
      have w17 : m15.1 66 ((31 : Nat) : Int) = g6 := by rw [em15]; exact (zu_nk (by decide)).trans wg6
      have w18 : m15.1 66 ((30 : Nat) : Int) = g7 := by rw [em15]; exact (zu_nk (by decide)).trans wg7
      have w19 : m15.1 66 ((33 : Nat) : Int) = x14 := by rw [em15]; exact zu_at
      have w20 : m15.1 66 ((34 : Nat) : Int) = g9 := by rw [em15]; exact (zu_nk (by decide)).trans wg9
      have w21 : m15.1 66 ((32 : Nat) : Int) = g10 := by rw [em15]; exact (zu_nk (by decide)).trans wg10
      refine And.intro ⟨by omega, by omega⟩ ?_
      intro m22 em22
      have z23 := zfx_f z16 em22 rfl
      have w24 : m22.1 66 ((31 : Nat) : Int) = g6 := by rw [em22]; exact (zu_nk (by decide)).trans w17
      have w25 : m22.1 66 ((30 : Nat) : Int) = g7 := by rw [em22]; exact (zu_nk (by decide)).trans w18
      have w26 : m22.1 66 ((33 : Nat) : Int) = x14 := by rw [em22]; exact (zu_nk (by decide)).trans w19
      have w27 : m22.1 66 ((34 : Nat) : Int) = 0 := by rw [em22]; exact zu_at
      have w28 : m22.1 66 ((32 : Nat) : Int) = g10 := by rw [em22]; exact (zu_nk (by decide)).trans w21
      clear w17 w18 w19 w20 w21
      intro x29 hx29 kx29 lx29
      rw [w24] at hx29
      intro x30 hx30 kx30 lx30
      rw [w25] at hx30
      refine And.intro ⟨⟨by omega, by omega⟩, ⟨by omega, by omega⟩⟩ (And.intro (fun c31 => ?_) (fun c31 => ?_))
      · intro x32 hx32 kx32 lx32
        rw [w24] at hx32
        refine And.intro ⟨by omega, by omega⟩ ?_
        intro x33 hx33 kx33 lx33
        refine ⟨zk_X9_isLetter, zm_X9_isLetter hg d (by omega), _, rfl, ⟨by omega, by omega⟩, ?_⟩
        intro x34 kx34 lx34 p35
        try rw [w24] at p35
        try rw [w25] at p35
        try rw [w26] at p35
        try rw [w27] at p35
        try rw [w28] at p35
        try rw [wg1] at p35
        try rw [wg2] at p35
        try rw [wg3] at p35
        try rw [wg4] at p35
        try rw [wg5] at p35
        refine And.intro ⟨by omega, by omega⟩ (And.intro (fun c36 => ?_) (fun c36 => ?_))
        · refine And.intro ⟨by omega, by omega⟩ ?_
          intro m37 em37
          have z38 := zfx_f z23 em37 rfl
          have w39 : m37.1 66 ((31 : Nat) : Int) = g6 := by rw [em37]; exact (zu_nk (by decide)).trans w24
          have w40 : m37.1 66 ((30 : Nat) : Int) = g7 := by rw [em37]; exact (zu_nk (by decide)).trans w25
          have w41 : m37.1 66 ((33 : Nat) : Int) = x14 := by rw [em37]; exact (zu_nk (by decide)).trans w26
          have w42 : m37.1 66 ((34 : Nat) : Int) = 1 := by rw [em37]; exact zu_at
          have w43 : m37.1 66 ((32 : Nat) : Int) = g10 := by rw [em37]; exact (zu_nk (by decide)).trans w28
          clear w24 w25 w26 w27 w28
          refine ⟨zk_X9_isSign, zm_X9_isSign hg d (by omega), _, rfl, ⟨by omega, by omega⟩, ?_⟩
          intro x44 kx44 lx44
          refine And.intro ⟨by omega, by omega⟩ (And.intro (fun c45 => ?_) (fun c45 => ?_))
          · refine And.intro ⟨by omega, by omega⟩ ?_
            intro m46 em46
            have z47 := zfx_f z38 em46 rfl
            have w48 : m46.1 66 ((31 : Nat) : Int) = g6 := by rw [em46]; exact (zu_nk (by decide)).trans w39
            have w49 : m46.1 66 ((30 : Nat) : Int) = g7 := by rw [em46]; exact (zu_nk (by decide)).trans w40
            have w50 : m46.1 66 ((33 : Nat) : Int) = x14 := by rw [em46]; exact (zu_nk (by decide)).trans w41
            have w51 : m46.1 66 ((34 : Nat) : Int) = 1 := by rw [em46]; exact (zu_nk (by decide)).trans w42
            have w52 : m46.1 66 ((32 : Nat) : Int) = 261 := by rw [em46]; exact zu_at
            clear w39 w40 w41 w42 w43
            intro x53 hx53 kx53 lx53
            rw [w48] at hx53
            intro x54 hx54 kx54 lx54
            rw [w51] at hx54
            refine And.intro ⟨by omega, by omega⟩ ?_
            intro m55 em55
            have z56 := zfx_f z47 em55 rfl
            have w57 : m55.1 66 ((31 : Nat) : Int) = (x53 + x54) := by rw [em55]; exact zu_at
            have w58 : m55.1 66 ((30 : Nat) : Int) = g7 := by rw [em55]; exact (zu_nk (by decide)).trans w49
            have w59 : m55.1 66 ((33 : Nat) : Int) = x14 := by rw [em55]; exact (zu_nk (by decide)).trans w50
            have w60 : m55.1 66 ((34 : Nat) : Int) = 1 := by rw [em55]; exact (zu_nk (by decide)).trans w51
            have w61 : m55.1 66 ((32 : Nat) : Int) = 261 := by rw [em55]; exact (zu_nk (by decide)).trans w52
            clear w48 w49 w50 w51 w52
            exact And.intro rfl (hQ _ z56 (by (try rw [w57]) <;> (try rw [w58]) <;> (try rw [w59]) <;> (try rw [w60]) <;> (try rw [w61]) <;> (try rw [wg6]) <;> (try rw [wg7]) <;> (try rw [wg8]) <;> (try rw [wg9]) <;> (try rw [wg10]) <;> (try rw [wg1]) <;> (try rw [wg2]) <;> (try rw [wg3]) <;> (try rw [wg4]) <;> (try rw [wg5]) <;> omega) (by (try rw [w57]) <;> (try rw [w58]) <;> (try rw [w59]) <;> (try rw [w60]) <;> (try rw [w61]) <;> (try rw [wg6]) <;> (try rw [wg7]) <;> (try rw [wg8]) <;> (try rw [wg9]) <;> (try rw [wg10]) <;> (try rw [wg1]) <;> (try rw [wg2]) <;> (try rw [wg3]) <;> (try rw [wg4]) <;> (try rw [wg5]) <;> omega) (by (try rw [w57]) <;> (try rw [w58]) <;> (try rw [w59]) <;> (try rw [w60]) <;> (try rw [w61]) <;> (try rw [wg6]) <;> (try rw [wg7]) <;> (try rw [wg8]) <;> (try rw [wg9]) <;> (try rw [wg10]) <;> (try rw [wg1]) <;> (try rw [wg2]) <;> (try rw [wg3]) <;> (try rw [wg4]) <;> (try rw [wg5]) <;> omega) (by (try rw [w57]) <;> (try rw [w58]) <;> (try rw [w59]) <;> (try rw [w60]) <;> (try rw [w61]) <;> (try rw [wg6]) <;> (try rw [wg7]) <;> (try rw [wg8]) <;> (try rw [wg9]) <;> (try rw [wg10]) <;> (try rw [wg1]) <;> (try rw [wg2]) <;> (try rw [wg3]) <;> (try rw [wg4]) <;> (try rw [wg5]) <;> omega))
          · refine And.intro ⟨by omega, by omega⟩ ?_
            intro m62 em62
            have z63 := zfx_f z38 em62 rfl
            have w64 : m62.1 66 ((31 : Nat) : Int) = g6 := by rw [em62]; exact (zu_nk (by decide)).trans w39
            have w65 : m62.1 66 ((30 : Nat) : Int) = g7 := by rw [em62]; exact (zu_nk (by decide)).trans w40
            have w66 : m62.1 66 ((33 : Nat) : Int) = x14 := by rw [em62]; exact (zu_nk (by decide)).trans w41
            have w67 : m62.1 66 ((34 : Nat) : Int) = 1 := by rw [em62]; exact (zu_nk (by decide)).trans w42
            have w68 : m62.1 66 ((32 : Nat) : Int) = x33 := by rw [em62]; exact zu_at
            clear w39 w40 w41 w42 w43
            intro x69 hx69 kx69 lx69
            rw [w64] at hx69
            intro x70 hx70 kx70 lx70
            rw [w67] at hx70
            refine And.intro ⟨by omega, by omega⟩ ?_
            intro m71 em71
            have z72 := zfx_f z63 em71 rfl
            have w73 : m71.1 66 ((31 : Nat) : Int) = (x69 + x70) := by rw [em71]; exact zu_at
            have w74 : m71.1 66 ((30 : Nat) : Int) = g7 := by rw [em71]; exact (zu_nk (by decide)).trans w65
            have w75 : m71.1 66 ((33 : Nat) : Int) = x14 := by rw [em71]; exact (zu_nk (by decide)).trans w66
            have w76 : m71.1 66 ((34 : Nat) : Int) = 1 := by rw [em71]; exact (zu_nk (by decide)).trans w67
            have w77 : m71.1 66 ((32 : Nat) : Int) = x33 := by rw [em71]; exact (zu_nk (by decide)).trans w68
            clear w64 w65 w66 w67 w68
            exact And.intro rfl (hQ _ z72 (by (try rw [w73]) <;> (try rw [w74]) <;> (try rw [w75]) <;> (try rw [w76]) <;> (try rw [w77]) <;> (try rw [wg6]) <;> (try rw [wg7]) <;> (try rw [wg8]) <;> (try rw [wg9]) <;> (try rw [wg10]) <;> (try rw [wg1]) <;> (try rw [wg2]) <;> (try rw [wg3]) <;> (try rw [wg4]) <;> (try rw [wg5]) <;> omega) (by (try rw [w73]) <;> (try rw [w74]) <;> (try rw [w75]) <;> (try rw [w76]) <;> (try rw [w77]) <;> (try rw [wg6]) <;> (try rw [wg7]) <;> (try rw [wg8]) <;> (try rw [wg9]) <;> (try rw [wg10]) <;> (try rw [wg1]) <;> (try rw [wg2]) <;> (try rw [wg3]) <;> (try rw [wg4]) <;> (try rw [wg5]) <;> omega) (by (try rw [w73]) <;> (try rw [w74]) <;> (try rw [w75]) <;> (try rw [w76]) <;> (try rw [w77]) <;> (try rw [wg6]) <;> (try rw [wg7]) <;> (try rw [wg8]) <;> (try rw [wg9]) <;> (try rw [wg10]) <;> (try rw [wg1]) <;> (try rw [wg2]) <;> (try rw [wg3]) <;> (try rw [wg4]) <;> (try rw [wg5]) <;> omega) (by (try rw [w73]) <;> (try rw [w74]) <;> (try rw [w75]) <;> (try rw [w76]) <;> (try rw [w77]) <;> (try rw [wg6]) <;> (try rw [wg7]) <;> (try rw [wg8]) <;> (try rw [wg9]) <;> (try rw [wg10]) <;> (try rw [wg1]) <;> (try rw [wg2]) <;> (try rw [wg3]) <;> (try rw [wg4]) <;> (try rw [wg5]) <;> omega))
        · refine Exists.intro (Int.toNat (m22.1 66 ((30 : Nat) : Int) - m22.1 66 ((34 : Nat) : Int))) (And.intro (by (try rw [w24]) <;> (try rw [w25]) <;> (try rw [w26]) <;> (try rw [w27]) <;> (try rw [w28]) <;> (try rw [wg6]) <;> (try rw [wg7]) <;> (try rw [wg8]) <;> (try rw [wg9]) <;> (try rw [wg10]) <;> (try rw [wg1]) <;> (try rw [wg2]) <;> (try rw [wg3]) <;> (try rw [wg4]) <;> (try rw [wg5]) <;> omega) ?_)
          exact ⟨(fun h => absurd h (by decide)), (fun _ => ⟨rfl, z23, (by (try rw [w24]) <;> (try rw [w25]) <;> (try rw [w26]) <;> (try rw [w27]) <;> (try rw [w28]) <;> (try rw [wg6]) <;> (try rw [wg7]) <;> (try rw [wg8]) <;> (try rw [wg9]) <;> (try rw [wg10]) <;> (try rw [wg1]) <;> (try rw [wg2]) <;> (try rw [wg3]) <;> (try rw [wg4]) <;> (try rw [wg5]) <;> omega), (by (try rw [w24]) <;> (try rw [w25]) <;> (try rw [w26]) <;> (try rw [w27]) <;> (try rw [w28]) <;> (try rw [wg6]) <;> (try rw [wg7]) <;> (try rw [wg8]) <;> (try rw [wg9]) <;> (try rw [wg10]) <;> (try rw [wg1]) <;> (try rw [wg2]) <;> (try rw [wg3]) <;> (try rw [wg4]) <;> (try rw [wg5]) <;> omega), (by (try rw [w24]) <;> (try rw [w25]) <;> (try rw [w26]) <;> (try rw [w27]) <;> (try rw [w28]) <;> (try rw [wg6]) <;> (try rw [wg7]) <;> (try rw [wg8]) <;> (try rw [wg9]) <;> (try rw [wg10]) <;> (try rw [wg1]) <;> (try rw [wg2]) <;> (try rw [wg3]) <;> (try rw [wg4]) <;> (try rw [wg5]) <;> omega), (by (try rw [w24]) <;> (try rw [w25]) <;> (try rw [w26]) <;> (try rw [w27]) <;> (try rw [w28]) <;> (try rw [wg6]) <;> (try rw [wg7]) <;> (try rw [wg8]) <;> (try rw [wg9]) <;> (try rw [wg10]) <;> (try rw [wg1]) <;> (try rw [wg2]) <;> (try rw [wg3]) <;> (try rw [wg4]) <;> (try rw [wg5]) <;> omega), (by (try rw [w24]) <;> (try rw [w25]) <;> (try rw [w26]) <;> (try rw [w27]) <;> (try rw [w28]) <;> (try rw [wg6]) <;> (try rw [wg7]) <;> (try rw [wg8]) <;> (try rw [wg9]) <;> (try rw [wg10]) <;> (try rw [wg1]) <;> (try rw [wg2]) <;> (try rw [wg3]) <;> (try rw [wg4]) <;> (try rw [wg5]) <;> omega), (fun _ => by rw [show m22.1 66 ((31 : Nat) : Int) = x32 from (by rw [w24]; omega), ← hx33]; exact p35.1 (by omega)), rfl⟩)⟩
      · refine And.intro ⟨by omega, by omega⟩ ?_
        intro m78 em78
        have z79 := zfx_f z23 em78 rfl
        have w80 : m78.1 66 ((31 : Nat) : Int) = g6 := by rw [em78]; exact (zu_nk (by decide)).trans w24
        have w81 : m78.1 66 ((30 : Nat) : Int) = g7 := by rw [em78]; exact (zu_nk (by decide)).trans w25
        have w82 : m78.1 66 ((33 : Nat) : Int) = x14 := by rw [em78]; exact (zu_nk (by decide)).trans w26
        have w83 : m78.1 66 ((34 : Nat) : Int) = 0 := by rw [em78]; exact (zu_nk (by decide)).trans w27
        have w84 : m78.1 66 ((32 : Nat) : Int) = 256 := by rw [em78]; exact zu_at
        clear w24 w25 w26 w27 w28
        exact And.intro rfl (hQ _ z79 (by (try rw [w80]) <;> (try rw [w81]) <;> (try rw [w82]) <;> (try rw [w83]) <;> (try rw [w84]) <;> (try rw [wg6]) <;> (try rw [wg7]) <;> (try rw [wg8]) <;> (try rw [wg9]) <;> (try rw [wg10]) <;> (try rw [wg1]) <;> (try rw [wg2]) <;> (try rw [wg3]) <;> (try rw [wg4]) <;> (try rw [wg5]) <;> omega) (by (try rw [w80]) <;> (try rw [w81]) <;> (try rw [w82]) <;> (try rw [w83]) <;> (try rw [w84]) <;> (try rw [wg6]) <;> (try rw [wg7]) <;> (try rw [wg8]) <;> (try rw [wg9]) <;> (try rw [wg10]) <;> (try rw [wg1]) <;> (try rw [wg2]) <;> (try rw [wg3]) <;> (try rw [wg4]) <;> (try rw [wg5]) <;> omega) (by (try rw [w80]) <;> (try rw [w81]) <;> (try rw [w82]) <;> (try rw [w83]) <;> (try rw [w84]) <;> (try rw [wg6]) <;> (try rw [wg7]) <;> (try rw [wg8]) <;> (try rw [wg9]) <;> (try rw [wg10]) <;> (try rw [wg1]) <;> (try rw [wg2]) <;> (try rw [wg3]) <;> (try rw [wg4]) <;> (try rw [wg5]) <;> omega) (by (try rw [w80]) <;> (try rw [w81]) <;> (try rw [w82]) <;> (try rw [w83]) <;> (try rw [w84]) <;> (try rw [wg6]) <;> (try rw [wg7]) <;> (try rw [wg8]) <;> (try rw [wg9]) <;> (try rw [wg10]) <;> (try rw [wg1]) <;> (try rw [wg2]) <;> (try rw [wg3]) <;> (try rw [wg4]) <;> (try rw [wg5]) <;> omega))
    · intro x85 hx85 kx85 lx85
      rw [wg6] at hx85
      refine And.intro ⟨by omega, by omega⟩ ?_
      intro x86 hx86 kx86 lx86
      refine And.intro ⟨⟨by omega, by omega⟩, ⟨by omega, by omega⟩⟩ (And.intro (fun c87 => ?_) (fun c87 => ?_))
      · intro x88 hx88 kx88 lx88
        rw [wg6] at hx88
        refine And.intro ⟨by omega, by omega⟩ ?_
        intro m89 em89
        have z90 := zfx_f z0 em89 rfl
        have w91 : m89.1 66 ((31 : Nat) : Int) = (x88 + 1) := by rw [em89]; exact zu_at
        have w92 : m89.1 66 ((30 : Nat) : Int) = g7 := by rw [em89]; exact (zu_nk (by decide)).trans wg7
        have w93 : m89.1 66 ((33 : Nat) : Int) = g8 := by rw [em89]; exact (zu_nk (by decide)).trans wg8
        have w94 : m89.1 66 ((34 : Nat) : Int) = g9 := by rw [em89]; exact (zu_nk (by decide)).trans wg9
        have w95 : m89.1 66 ((32 : Nat) : Int) = g10 := by rw [em89]; exact (zu_nk (by decide)).trans wg10
        refine Exists.intro (Int.toNat (m89.1 66 ((30 : Nat) : Int) - m89.1 66 ((31 : Nat) : Int) + 1000000)) (And.intro (by (try rw [w91]) <;> (try rw [w92]) <;> (try rw [w93]) <;> (try rw [w94]) <;> (try rw [w95]) <;> (try rw [wg6]) <;> (try rw [wg7]) <;> (try rw [wg8]) <;> (try rw [wg9]) <;> (try rw [wg10]) <;> (try rw [wg1]) <;> (try rw [wg2]) <;> (try rw [wg3]) <;> (try rw [wg4]) <;> (try rw [wg5]) <;> omega) ?_)
        exact ⟨(fun _ => ⟨rfl, z90, (by (try rw [w91]) <;> (try rw [w92]) <;> (try rw [w93]) <;> (try rw [w94]) <;> (try rw [w95]) <;> (try rw [wg6]) <;> (try rw [wg7]) <;> (try rw [wg8]) <;> (try rw [wg9]) <;> (try rw [wg10]) <;> (try rw [wg1]) <;> (try rw [wg2]) <;> (try rw [wg3]) <;> (try rw [wg4]) <;> (try rw [wg5]) <;> omega), (by (try rw [w91]) <;> (try rw [w92]) <;> (try rw [w93]) <;> (try rw [w94]) <;> (try rw [w95]) <;> (try rw [wg6]) <;> (try rw [wg7]) <;> (try rw [wg8]) <;> (try rw [wg9]) <;> (try rw [wg10]) <;> (try rw [wg1]) <;> (try rw [wg2]) <;> (try rw [wg3]) <;> (try rw [wg4]) <;> (try rw [wg5]) <;> omega), (by (try rw [w91]) <;> (try rw [w92]) <;> (try rw [w93]) <;> (try rw [w94]) <;> (try rw [w95]) <;> (try rw [wg6]) <;> (try rw [wg7]) <;> (try rw [wg8]) <;> (try rw [wg9]) <;> (try rw [wg10]) <;> (try rw [wg1]) <;> (try rw [wg2]) <;> (try rw [wg3]) <;> (try rw [wg4]) <;> (try rw [wg5]) <;> omega), rfl⟩), (fun h => absurd h (by decide))⟩
      · clear c87
        intro x96 hx96 kx96 lx96
        rw [wg6] at hx96
        refine And.intro ⟨by omega, by omega⟩ ?_
        intro x97 hx97 kx97 lx97
        refine And.intro ⟨⟨by omega, by omega⟩, ⟨by omega, by omega⟩⟩ (And.intro (fun c98 => ?_) (fun c98 => ?_))
        · clear c98
          intro x99 hx99 kx99 lx99
          rw [wg6] at hx99
          refine And.intro ⟨by omega, by omega⟩ ?_
          intro m100 em100
          have z101 := zfx_f z0 em100 rfl
          have w102 : m100.1 66 ((31 : Nat) : Int) = g6 := by rw [em100]; exact (zu_nk (by decide)).trans wg6
          have w103 : m100.1 66 ((30 : Nat) : Int) = g7 := by rw [em100]; exact (zu_nk (by decide)).trans wg7
          have w104 : m100.1 66 ((33 : Nat) : Int) = x99 := by rw [em100]; exact zu_at
          have w105 : m100.1 66 ((34 : Nat) : Int) = g9 := by rw [em100]; exact (zu_nk (by decide)).trans wg9
          have w106 : m100.1 66 ((32 : Nat) : Int) = g10 := by rw [em100]; exact (zu_nk (by decide)).trans wg10
          refine And.intro ⟨by omega, by omega⟩ ?_
          intro m107 em107
          have z108 := zfx_f z101 em107 rfl
          have w109 : m107.1 66 ((31 : Nat) : Int) = g6 := by rw [em107]; exact (zu_nk (by decide)).trans w102
          have w110 : m107.1 66 ((30 : Nat) : Int) = g7 := by rw [em107]; exact (zu_nk (by decide)).trans w103
          have w111 : m107.1 66 ((33 : Nat) : Int) = x99 := by rw [em107]; exact (zu_nk (by decide)).trans w104
          have w112 : m107.1 66 ((34 : Nat) : Int) = 0 := by rw [em107]; exact zu_at
          have w113 : m107.1 66 ((32 : Nat) : Int) = g10 := by rw [em107]; exact (zu_nk (by decide)).trans w106
          clear w102 w103 w104 w105 w106
          intro x114 hx114 kx114 lx114
          rw [w109] at hx114
          intro x115 hx115 kx115 lx115
          rw [w110] at hx115
          refine And.intro ⟨⟨by omega, by omega⟩, ⟨by omega, by omega⟩⟩ (And.intro (fun c116 => ?_) (fun c116 => ?_))
          · intro x117 hx117 kx117 lx117
            rw [w109] at hx117
            refine And.intro ⟨by omega, by omega⟩ ?_
            intro x118 hx118 kx118 lx118
            refine ⟨zk_X9_isLetter, zm_X9_isLetter hg d (by omega), _, rfl, ⟨by omega, by omega⟩, ?_⟩
            intro x119 kx119 lx119 p120
            try rw [w109] at p120
            try rw [w110] at p120
            try rw [w111] at p120
            try rw [w112] at p120
            try rw [w113] at p120
            try rw [wg1] at p120
            try rw [wg2] at p120
            try rw [wg3] at p120
            try rw [wg4] at p120
            try rw [wg5] at p120
            refine And.intro ⟨by omega, by omega⟩ (And.intro (fun c121 => ?_) (fun c121 => ?_))
            · refine And.intro ⟨by omega, by omega⟩ ?_
              intro m122 em122
              have z123 := zfx_f z108 em122 rfl
              have w124 : m122.1 66 ((31 : Nat) : Int) = g6 := by rw [em122]; exact (zu_nk (by decide)).trans w109
              have w125 : m122.1 66 ((30 : Nat) : Int) = g7 := by rw [em122]; exact (zu_nk (by decide)).trans w110
              have w126 : m122.1 66 ((33 : Nat) : Int) = x99 := by rw [em122]; exact (zu_nk (by decide)).trans w111
              have w127 : m122.1 66 ((34 : Nat) : Int) = 1 := by rw [em122]; exact zu_at
              have w128 : m122.1 66 ((32 : Nat) : Int) = g10 := by rw [em122]; exact (zu_nk (by decide)).trans w113
              clear w109 w110 w111 w112 w113
              refine ⟨zk_X9_isSign, zm_X9_isSign hg d (by omega), _, rfl, ⟨by omega, by omega⟩, ?_⟩
              intro x129 kx129 lx129
              refine And.intro ⟨by omega, by omega⟩ (And.intro (fun c130 => ?_) (fun c130 => ?_))
              · refine And.intro ⟨by omega, by omega⟩ ?_
                intro m131 em131
                have z132 := zfx_f z123 em131 rfl
                have w133 : m131.1 66 ((31 : Nat) : Int) = g6 := by rw [em131]; exact (zu_nk (by decide)).trans w124
                have w134 : m131.1 66 ((30 : Nat) : Int) = g7 := by rw [em131]; exact (zu_nk (by decide)).trans w125
                have w135 : m131.1 66 ((33 : Nat) : Int) = x99 := by rw [em131]; exact (zu_nk (by decide)).trans w126
                have w136 : m131.1 66 ((34 : Nat) : Int) = 1 := by rw [em131]; exact (zu_nk (by decide)).trans w127
                have w137 : m131.1 66 ((32 : Nat) : Int) = 261 := by rw [em131]; exact zu_at
                clear w124 w125 w126 w127 w128
                intro x138 hx138 kx138 lx138
                rw [w133] at hx138
                intro x139 hx139 kx139 lx139
                rw [w136] at hx139
                refine And.intro ⟨by omega, by omega⟩ ?_
                intro m140 em140
                have z141 := zfx_f z132 em140 rfl
                have w142 : m140.1 66 ((31 : Nat) : Int) = (x138 + x139) := by rw [em140]; exact zu_at
                have w143 : m140.1 66 ((30 : Nat) : Int) = g7 := by rw [em140]; exact (zu_nk (by decide)).trans w134
                have w144 : m140.1 66 ((33 : Nat) : Int) = x99 := by rw [em140]; exact (zu_nk (by decide)).trans w135
                have w145 : m140.1 66 ((34 : Nat) : Int) = 1 := by rw [em140]; exact (zu_nk (by decide)).trans w136
                have w146 : m140.1 66 ((32 : Nat) : Int) = 261 := by rw [em140]; exact (zu_nk (by decide)).trans w137
                clear w133 w134 w135 w136 w137
                exact And.intro rfl (hQ _ z141 (by (try rw [w142]) <;> (try rw [w143]) <;> (try rw [w144]) <;> (try rw [w145]) <;> (try rw [w146]) <;> (try rw [wg6]) <;> (try rw [wg7]) <;> (try rw [wg8]) <;> (try rw [wg9]) <;> (try rw [wg10]) <;> (try rw [wg1]) <;> (try rw [wg2]) <;> (try rw [wg3]) <;> (try rw [wg4]) <;> (try rw [wg5]) <;> omega) (by (try rw [w142]) <;> (try rw [w143]) <;> (try rw [w144]) <;> (try rw [w145]) <;> (try rw [w146]) <;> (try rw [wg6]) <;> (try rw [wg7]) <;> (try rw [wg8]) <;> (try rw [wg9]) <;> (try rw [wg10]) <;> (try rw [wg1]) <;> (try rw [wg2]) <;> (try rw [wg3]) <;> (try rw [wg4]) <;> (try rw [wg5]) <;> omega) (by (try rw [w142]) <;> (try rw [w143]) <;> (try rw [w144]) <;> (try rw [w145]) <;> (try rw [w146]) <;> (try rw [wg6]) <;> (try rw [wg7]) <;> (try rw [wg8]) <;> (try rw [wg9]) <;> (try rw [wg10]) <;> (try rw [wg1]) <;> (try rw [wg2]) <;> (try rw [wg3]) <;> (try rw [wg4]) <;> (try rw [wg5]) <;> omega) (by (try rw [w142]) <;> (try rw [w143]) <;> (try rw [w144]) <;> (try rw [w145]) <;> (try rw [w146]) <;> (try rw [wg6]) <;> (try rw [wg7]) <;> (try rw [wg8]) <;> (try rw [wg9]) <;> (try rw [wg10]) <;> (try rw [wg1]) <;> (try rw [wg2]) <;> (try rw [wg3]) <;> (try rw [wg4]) <;> (try rw [wg5]) <;> omega))
              · refine And.intro ⟨by omega, by omega⟩ ?_
                intro m147 em147
                have z148 := zfx_f z123 em147 rfl
                have w149 : m147.1 66 ((31 : Nat) : Int) = g6 := by rw [em147]; exact (zu_nk (by decide)).trans w124
                have w150 : m147.1 66 ((30 : Nat) : Int) = g7 := by rw [em147]; exact (zu_nk (by decide)).trans w125
                have w151 : m147.1 66 ((33 : Nat) : Int) = x99 := by rw [em147]; exact (zu_nk (by decide)).trans w126
                have w152 : m147.1 66 ((34 : Nat) : Int) = 1 := by rw [em147]; exact (zu_nk (by decide)).trans w127
                have w153 : m147.1 66 ((32 : Nat) : Int) = x118 := by rw [em147]; exact zu_at
                clear w124 w125 w126 w127 w128
                intro x154 hx154 kx154 lx154
                rw [w149] at hx154
                intro x155 hx155 kx155 lx155
                rw [w152] at hx155
                refine And.intro ⟨by omega, by omega⟩ ?_
                intro m156 em156
                have z157 := zfx_f z148 em156 rfl
                have w158 : m156.1 66 ((31 : Nat) : Int) = (x154 + x155) := by rw [em156]; exact zu_at
                have w159 : m156.1 66 ((30 : Nat) : Int) = g7 := by rw [em156]; exact (zu_nk (by decide)).trans w150
                have w160 : m156.1 66 ((33 : Nat) : Int) = x99 := by rw [em156]; exact (zu_nk (by decide)).trans w151
                have w161 : m156.1 66 ((34 : Nat) : Int) = 1 := by rw [em156]; exact (zu_nk (by decide)).trans w152
                have w162 : m156.1 66 ((32 : Nat) : Int) = x118 := by rw [em156]; exact (zu_nk (by decide)).trans w153
                clear w149 w150 w151 w152 w153
                exact And.intro rfl (hQ _ z157 (by (try rw [w158]) <;> (try rw [w159]) <;> (try rw [w160]) <;> (try rw [w161]) <;> (try rw [w162]) <;> (try rw [wg6]) <;> (try rw [wg7]) <;> (try rw [wg8]) <;> (try rw [wg9]) <;> (try rw [wg10]) <;> (try rw [wg1]) <;> (try rw [wg2]) <;> (try rw [wg3]) <;> (try rw [wg4]) <;> (try rw [wg5]) <;> omega) (by (try rw [w158]) <;> (try rw [w159]) <;> (try rw [w160]) <;> (try rw [w161]) <;> (try rw [w162]) <;> (try rw [wg6]) <;> (try rw [wg7]) <;> (try rw [wg8]) <;> (try rw [wg9]) <;> (try rw [wg10]) <;> (try rw [wg1]) <;> (try rw [wg2]) <;> (try rw [wg3]) <;> (try rw [wg4]) <;> (try rw [wg5]) <;> omega) (by (try rw [w158]) <;> (try rw [w159]) <;> (try rw [w160]) <;> (try rw [w161]) <;> (try rw [w162]) <;> (try rw [wg6]) <;> (try rw [wg7]) <;> (try rw [wg8]) <;> (try rw [wg9]) <;> (try rw [wg10]) <;> (try rw [wg1]) <;> (try rw [wg2]) <;> (try rw [wg3]) <;> (try rw [wg4]) <;> (try rw [wg5]) <;> omega) (by (try rw [w158]) <;> (try rw [w159]) <;> (try rw [w160]) <;> (try rw [w161]) <;> (try rw [w162]) <;> (try rw [wg6]) <;> (try rw [wg7]) <;> (try rw [wg8]) <;> (try rw [wg9]) <;> (try rw [wg10]) <;> (try rw [wg1]) <;> (try rw [wg2]) <;> (try rw [wg3]) <;> (try rw [wg4]) <;> (try rw [wg5]) <;> omega))
            · refine Exists.intro (Int.toNat (m107.1 66 ((30 : Nat) : Int) - m107.1 66 ((34 : Nat) : Int))) (And.intro (by (try rw [w109]) <;> (try rw [w110]) <;> (try rw [w111]) <;> (try rw [w112]) <;> (try rw [w113]) <;> (try rw [wg6]) <;> (try rw [wg7]) <;> (try rw [wg8]) <;> (try rw [wg9]) <;> (try rw [wg10]) <;> (try rw [wg1]) <;> (try rw [wg2]) <;> (try rw [wg3]) <;> (try rw [wg4]) <;> (try rw [wg5]) <;> omega) ?_)
              exact ⟨(fun h => absurd h (by decide)), (fun _ => ⟨rfl, z108, (by (try rw [w109]) <;> (try rw [w110]) <;> (try rw [w111]) <;> (try rw [w112]) <;> (try rw [w113]) <;> (try rw [wg6]) <;> (try rw [wg7]) <;> (try rw [wg8]) <;> (try rw [wg9]) <;> (try rw [wg10]) <;> (try rw [wg1]) <;> (try rw [wg2]) <;> (try rw [wg3]) <;> (try rw [wg4]) <;> (try rw [wg5]) <;> omega), (by (try rw [w109]) <;> (try rw [w110]) <;> (try rw [w111]) <;> (try rw [w112]) <;> (try rw [w113]) <;> (try rw [wg6]) <;> (try rw [wg7]) <;> (try rw [wg8]) <;> (try rw [wg9]) <;> (try rw [wg10]) <;> (try rw [wg1]) <;> (try rw [wg2]) <;> (try rw [wg3]) <;> (try rw [wg4]) <;> (try rw [wg5]) <;> omega), (by (try rw [w109]) <;> (try rw [w110]) <;> (try rw [w111]) <;> (try rw [w112]) <;> (try rw [w113]) <;> (try rw [wg6]) <;> (try rw [wg7]) <;> (try rw [wg8]) <;> (try rw [wg9]) <;> (try rw [wg10]) <;> (try rw [wg1]) <;> (try rw [wg2]) <;> (try rw [wg3]) <;> (try rw [wg4]) <;> (try rw [wg5]) <;> omega), (by (try rw [w109]) <;> (try rw [w110]) <;> (try rw [w111]) <;> (try rw [w112]) <;> (try rw [w113]) <;> (try rw [wg6]) <;> (try rw [wg7]) <;> (try rw [wg8]) <;> (try rw [wg9]) <;> (try rw [wg10]) <;> (try rw [wg1]) <;> (try rw [wg2]) <;> (try rw [wg3]) <;> (try rw [wg4]) <;> (try rw [wg5]) <;> omega), (by (try rw [w109]) <;> (try rw [w110]) <;> (try rw [w111]) <;> (try rw [w112]) <;> (try rw [w113]) <;> (try rw [wg6]) <;> (try rw [wg7]) <;> (try rw [wg8]) <;> (try rw [wg9]) <;> (try rw [wg10]) <;> (try rw [wg1]) <;> (try rw [wg2]) <;> (try rw [wg3]) <;> (try rw [wg4]) <;> (try rw [wg5]) <;> omega), (fun _ => by rw [show m107.1 66 ((31 : Nat) : Int) = x117 from (by rw [w109]; omega), ← hx118]; exact p120.1 (by omega)), rfl⟩)⟩
          · refine And.intro ⟨by omega, by omega⟩ ?_
            intro m163 em163
            have z164 := zfx_f z108 em163 rfl
            have w165 : m163.1 66 ((31 : Nat) : Int) = g6 := by rw [em163]; exact (zu_nk (by decide)).trans w109
            have w166 : m163.1 66 ((30 : Nat) : Int) = g7 := by rw [em163]; exact (zu_nk (by decide)).trans w110
            have w167 : m163.1 66 ((33 : Nat) : Int) = x99 := by rw [em163]; exact (zu_nk (by decide)).trans w111
            have w168 : m163.1 66 ((34 : Nat) : Int) = 0 := by rw [em163]; exact (zu_nk (by decide)).trans w112
            have w169 : m163.1 66 ((32 : Nat) : Int) = 256 := by rw [em163]; exact zu_at
            clear w109 w110 w111 w112 w113
            exact And.intro rfl (hQ _ z164 (by (try rw [w165]) <;> (try rw [w166]) <;> (try rw [w167]) <;> (try rw [w168]) <;> (try rw [w169]) <;> (try rw [wg6]) <;> (try rw [wg7]) <;> (try rw [wg8]) <;> (try rw [wg9]) <;> (try rw [wg10]) <;> (try rw [wg1]) <;> (try rw [wg2]) <;> (try rw [wg3]) <;> (try rw [wg4]) <;> (try rw [wg5]) <;> omega) (by (try rw [w165]) <;> (try rw [w166]) <;> (try rw [w167]) <;> (try rw [w168]) <;> (try rw [w169]) <;> (try rw [wg6]) <;> (try rw [wg7]) <;> (try rw [wg8]) <;> (try rw [wg9]) <;> (try rw [wg10]) <;> (try rw [wg1]) <;> (try rw [wg2]) <;> (try rw [wg3]) <;> (try rw [wg4]) <;> (try rw [wg5]) <;> omega) (by (try rw [w165]) <;> (try rw [w166]) <;> (try rw [w167]) <;> (try rw [w168]) <;> (try rw [w169]) <;> (try rw [wg6]) <;> (try rw [wg7]) <;> (try rw [wg8]) <;> (try rw [wg9]) <;> (try rw [wg10]) <;> (try rw [wg1]) <;> (try rw [wg2]) <;> (try rw [wg3]) <;> (try rw [wg4]) <;> (try rw [wg5]) <;> omega) (by (try rw [w165]) <;> (try rw [w166]) <;> (try rw [w167]) <;> (try rw [w168]) <;> (try rw [w169]) <;> (try rw [wg6]) <;> (try rw [wg7]) <;> (try rw [wg8]) <;> (try rw [wg9]) <;> (try rw [wg10]) <;> (try rw [wg1]) <;> (try rw [wg2]) <;> (try rw [wg3]) <;> (try rw [wg4]) <;> (try rw [wg5]) <;> omega))
        · intro x170 hx170 kx170 lx170
          rw [wg6] at hx170
          refine And.intro ⟨by omega, by omega⟩ ?_
          intro m171 em171
          have z172 := zfx_f z0 em171 rfl
          have w173 : m171.1 66 ((31 : Nat) : Int) = (x170 + 1) := by rw [em171]; exact zu_at
          have w174 : m171.1 66 ((30 : Nat) : Int) = g7 := by rw [em171]; exact (zu_nk (by decide)).trans wg7
          have w175 : m171.1 66 ((33 : Nat) : Int) = g8 := by rw [em171]; exact (zu_nk (by decide)).trans wg8
          have w176 : m171.1 66 ((34 : Nat) : Int) = g9 := by rw [em171]; exact (zu_nk (by decide)).trans wg9
          have w177 : m171.1 66 ((32 : Nat) : Int) = g10 := by rw [em171]; exact (zu_nk (by decide)).trans wg10
          refine Exists.intro (Int.toNat (m171.1 66 ((30 : Nat) : Int) - m171.1 66 ((31 : Nat) : Int) + 1000000)) (And.intro (by (try rw [w173]) <;> (try rw [w174]) <;> (try rw [w175]) <;> (try rw [w176]) <;> (try rw [w177]) <;> (try rw [wg6]) <;> (try rw [wg7]) <;> (try rw [wg8]) <;> (try rw [wg9]) <;> (try rw [wg10]) <;> (try rw [wg1]) <;> (try rw [wg2]) <;> (try rw [wg3]) <;> (try rw [wg4]) <;> (try rw [wg5]) <;> omega) ?_)
          exact ⟨(fun _ => ⟨rfl, z172, (by (try rw [w173]) <;> (try rw [w174]) <;> (try rw [w175]) <;> (try rw [w176]) <;> (try rw [w177]) <;> (try rw [wg6]) <;> (try rw [wg7]) <;> (try rw [wg8]) <;> (try rw [wg9]) <;> (try rw [wg10]) <;> (try rw [wg1]) <;> (try rw [wg2]) <;> (try rw [wg3]) <;> (try rw [wg4]) <;> (try rw [wg5]) <;> omega), (by (try rw [w173]) <;> (try rw [w174]) <;> (try rw [w175]) <;> (try rw [w176]) <;> (try rw [w177]) <;> (try rw [wg6]) <;> (try rw [wg7]) <;> (try rw [wg8]) <;> (try rw [wg9]) <;> (try rw [wg10]) <;> (try rw [wg1]) <;> (try rw [wg2]) <;> (try rw [wg3]) <;> (try rw [wg4]) <;> (try rw [wg5]) <;> omega), (by (try rw [w173]) <;> (try rw [w174]) <;> (try rw [w175]) <;> (try rw [w176]) <;> (try rw [w177]) <;> (try rw [wg6]) <;> (try rw [wg7]) <;> (try rw [wg8]) <;> (try rw [wg9]) <;> (try rw [wg10]) <;> (try rw [wg1]) <;> (try rw [wg2]) <;> (try rw [wg3]) <;> (try rw [wg4]) <;> (try rw [wg5]) <;> omega), rfl⟩), (fun h => absurd h (by decide))⟩
  · intro vs m0 n hI
    replace hI := hI.2 rfl
    clear z0
    obtain ⟨rfl, z0, i0, i1, i2, i3, i4, i5, rfl⟩ := hI
    obtain ⟨g178, wg178⟩ : ∃ z : Int, m0.1 66 ((31 : Nat) : Int) = z := ⟨_, rfl⟩
    obtain ⟨g179, wg179⟩ : ∃ z : Int, m0.1 66 ((30 : Nat) : Int) = z := ⟨_, rfl⟩
    obtain ⟨g180, wg180⟩ : ∃ z : Int, m0.1 66 ((33 : Nat) : Int) = z := ⟨_, rfl⟩
    obtain ⟨g181, wg181⟩ : ∃ z : Int, m0.1 66 ((34 : Nat) : Int) = z := ⟨_, rfl⟩
    obtain ⟨g182, wg182⟩ : ∃ z : Int, m0.1 66 ((32 : Nat) : Int) = z := ⟨_, rfl⟩
    try rw [wg178] at i0
    try rw [wg179] at i0
    try rw [wg180] at i0
    try rw [wg181] at i0
    try rw [wg182] at i0
    try rw [wg1] at i0
    try rw [wg2] at i0
    try rw [wg3] at i0
    try rw [wg4] at i0
    try rw [wg5] at i0
    try rw [wg178] at i1
    try rw [wg179] at i1
    try rw [wg180] at i1
    try rw [wg181] at i1
    try rw [wg182] at i1
    try rw [wg1] at i1
    try rw [wg2] at i1
    try rw [wg3] at i1
    try rw [wg4] at i1
    try rw [wg5] at i1
    try rw [wg178] at i2
    try rw [wg179] at i2
    try rw [wg180] at i2
    try rw [wg181] at i2
    try rw [wg182] at i2
    try rw [wg1] at i2
    try rw [wg2] at i2
    try rw [wg3] at i2
    try rw [wg4] at i2
    try rw [wg5] at i2
    try rw [wg178] at i3
    try rw [wg179] at i3
    try rw [wg180] at i3
    try rw [wg181] at i3
    try rw [wg182] at i3
    try rw [wg1] at i3
    try rw [wg2] at i3
    try rw [wg3] at i3
    try rw [wg4] at i3
    try rw [wg5] at i3
    try rw [wg178] at i4
    try rw [wg179] at i4
    try rw [wg180] at i4
    try rw [wg181] at i4
    try rw [wg182] at i4
    try rw [wg1] at i4
    try rw [wg2] at i4
    try rw [wg3] at i4
    try rw [wg4] at i4
    try rw [wg5] at i4
    try rw [wg178] at i5
    try rw [wg179] at i5
    try rw [wg180] at i5
    try rw [wg181] at i5
    try rw [wg182] at i5
    try rw [wg1] at i5
    try rw [wg2] at i5
    try rw [wg3] at i5
    try rw [wg4] at i5
    try rw [wg5] at i5
    intro x183 hx183 kx183 lx183
    rw [wg178] at hx183
    intro x184 hx184 kx184 lx184
    rw [wg181] at hx184
    refine ⟨zk_X9_isPart, zm_X9_isPart hg d (by omega), _, rfl, ⟨by omega, by omega⟩, ?_⟩
    intro x185 kx185 lx185 p186 p187
    try rw [wg178] at p186
    try rw [wg179] at p186
    try rw [wg180] at p186
    try rw [wg181] at p186
    try rw [wg182] at p186
    try rw [wg1] at p186
    try rw [wg2] at p186
    try rw [wg3] at p186
    try rw [wg4] at p186
    try rw [wg5] at p186
    try rw [wg178] at p187
    try rw [wg179] at p187
    try rw [wg180] at p187
    try rw [wg181] at p187
    try rw [wg182] at p187
    try rw [wg1] at p187
    try rw [wg2] at p187
    try rw [wg3] at p187
    try rw [wg4] at p187
    try rw [wg5] at p187
    refine And.intro ⟨by omega, by omega⟩ (And.intro (fun c188 => ?_) (fun c188 => ?_))
    · have hts : 1 ≤ g181 := by
        rcases Int.lt_or_le (g181) 1 with q | q
        · exfalso
          have q1 := i5 (by omega)
          have q2 := p186 (by omega) (by rw [show (x183 + x184) = g178 by omega]; exact q1)
          omega
        · exact q
      intro x189 hx189 kx189 lx189
      rw [wg181] at hx189
      refine And.intro ⟨⟨by omega, by omega⟩, ⟨by omega, by omega⟩⟩ (And.intro (fun c190 => ?_) (fun c190 => ?_))
      · intro x191 hx191 kx191 lx191
        rw [wg178] at hx191
        intro x192 hx192 kx192 lx192
        rw [wg181] at hx192
        refine ⟨zk_X9_nameAt, zm_X9_nameAt hg d (by omega), _, _, rfl, ⟨by omega, by omega⟩, ⟨by omega, by omega⟩, (by (try rw [wg178]) <;> (try rw [wg179]) <;> (try rw [wg180]) <;> (try rw [wg181]) <;> (try rw [wg182]) <;> (try rw [wg1]) <;> (try rw [wg2]) <;> (try rw [wg3]) <;> (try rw [wg4]) <;> (try rw [wg5]) <;> omega), ?_⟩
        intro j193
        intro x194 hx194 kx194 lx194
        rw [wg181] at hx194
        refine And.intro ⟨⟨by omega, by omega⟩, ⟨by omega, by omega⟩⟩ (And.intro (fun c195 => ?_) (fun c195 => ?_))
        · intro x196 hx196 kx196 lx196
          refine And.intro ⟨by omega, by omega⟩ (And.intro (fun c197 => ?_) (fun c197 => ?_))
          · clear c197
            intro x198 hx198 kx198 lx198
            refine And.intro ⟨by omega, by omega⟩ (And.intro (fun c199 => ?_) (fun c199 => ?_))
            · clear c199
              intro x200 hx200 kx200 lx200
              refine And.intro ⟨by omega, by omega⟩ (And.intro (fun c201 => ?_) (fun c201 => ?_))
              · clear c201
                refine And.intro ⟨by omega, by omega⟩ ?_
                intro m202 em202
                have z203 := zfx_f z0 em202 rfl
                have w204 : m202.1 66 ((31 : Nat) : Int) = g178 := by rw [em202]; exact (zu_nk (by decide)).trans wg178
                have w205 : m202.1 66 ((30 : Nat) : Int) = g179 := by rw [em202]; exact (zu_nk (by decide)).trans wg179
                have w206 : m202.1 66 ((33 : Nat) : Int) = g180 := by rw [em202]; exact (zu_nk (by decide)).trans wg180
                have w207 : m202.1 66 ((34 : Nat) : Int) = g181 := by rw [em202]; exact (zu_nk (by decide)).trans wg181
                have w208 : m202.1 66 ((32 : Nat) : Int) = 257 := by rw [em202]; exact zu_at
                intro x209 hx209 kx209 lx209
                rw [w204] at hx209
                intro x210 hx210 kx210 lx210
                rw [w207] at hx210
                refine And.intro ⟨by omega, by omega⟩ ?_
                intro m211 em211
                have z212 := zfx_f z203 em211 rfl
                have w213 : m211.1 66 ((31 : Nat) : Int) = (x209 + x210) := by rw [em211]; exact zu_at
                have w214 : m211.1 66 ((30 : Nat) : Int) = g179 := by rw [em211]; exact (zu_nk (by decide)).trans w205
                have w215 : m211.1 66 ((33 : Nat) : Int) = g180 := by rw [em211]; exact (zu_nk (by decide)).trans w206
                have w216 : m211.1 66 ((34 : Nat) : Int) = g181 := by rw [em211]; exact (zu_nk (by decide)).trans w207
                have w217 : m211.1 66 ((32 : Nat) : Int) = 257 := by rw [em211]; exact (zu_nk (by decide)).trans w208
                clear w204 w205 w206 w207 w208
                exact And.intro rfl (hQ _ z212 (by (try rw [w213]) <;> (try rw [w214]) <;> (try rw [w215]) <;> (try rw [w216]) <;> (try rw [w217]) <;> (try rw [wg178]) <;> (try rw [wg179]) <;> (try rw [wg180]) <;> (try rw [wg181]) <;> (try rw [wg182]) <;> (try rw [wg1]) <;> (try rw [wg2]) <;> (try rw [wg3]) <;> (try rw [wg4]) <;> (try rw [wg5]) <;> omega) (by (try rw [w213]) <;> (try rw [w214]) <;> (try rw [w215]) <;> (try rw [w216]) <;> (try rw [w217]) <;> (try rw [wg178]) <;> (try rw [wg179]) <;> (try rw [wg180]) <;> (try rw [wg181]) <;> (try rw [wg182]) <;> (try rw [wg1]) <;> (try rw [wg2]) <;> (try rw [wg3]) <;> (try rw [wg4]) <;> (try rw [wg5]) <;> omega) (by (try rw [w213]) <;> (try rw [w214]) <;> (try rw [w215]) <;> (try rw [w216]) <;> (try rw [w217]) <;> (try rw [wg178]) <;> (try rw [wg179]) <;> (try rw [wg180]) <;> (try rw [wg181]) <;> (try rw [wg182]) <;> (try rw [wg1]) <;> (try rw [wg2]) <;> (try rw [wg3]) <;> (try rw [wg4]) <;> (try rw [wg5]) <;> omega) (by (try rw [w213]) <;> (try rw [w214]) <;> (try rw [w215]) <;> (try rw [w216]) <;> (try rw [w217]) <;> (try rw [wg178]) <;> (try rw [wg179]) <;> (try rw [wg180]) <;> (try rw [wg181]) <;> (try rw [wg182]) <;> (try rw [wg1]) <;> (try rw [wg2]) <;> (try rw [wg3]) <;> (try rw [wg4]) <;> (try rw [wg5]) <;> omega))
              · refine And.intro ⟨by omega, by omega⟩ ?_
                intro m218 em218
                have z219 := zfx_f z0 em218 rfl
                have w220 : m218.1 66 ((31 : Nat) : Int) = g178 := by rw [em218]; exact (zu_nk (by decide)).trans wg178
                have w221 : m218.1 66 ((30 : Nat) : Int) = g179 := by rw [em218]; exact (zu_nk (by decide)).trans wg179
                have w222 : m218.1 66 ((33 : Nat) : Int) = g180 := by rw [em218]; exact (zu_nk (by decide)).trans wg180
                have w223 : m218.1 66 ((34 : Nat) : Int) = g181 := by rw [em218]; exact (zu_nk (by decide)).trans wg181
                have w224 : m218.1 66 ((32 : Nat) : Int) = 260 := by rw [em218]; exact zu_at
                intro x225 hx225 kx225 lx225
                rw [w220] at hx225
                intro x226 hx226 kx226 lx226
                rw [w223] at hx226
                refine And.intro ⟨by omega, by omega⟩ ?_
                intro m227 em227
                have z228 := zfx_f z219 em227 rfl
                have w229 : m227.1 66 ((31 : Nat) : Int) = (x225 + x226) := by rw [em227]; exact zu_at
                have w230 : m227.1 66 ((30 : Nat) : Int) = g179 := by rw [em227]; exact (zu_nk (by decide)).trans w221
                have w231 : m227.1 66 ((33 : Nat) : Int) = g180 := by rw [em227]; exact (zu_nk (by decide)).trans w222
                have w232 : m227.1 66 ((34 : Nat) : Int) = g181 := by rw [em227]; exact (zu_nk (by decide)).trans w223
                have w233 : m227.1 66 ((32 : Nat) : Int) = 260 := by rw [em227]; exact (zu_nk (by decide)).trans w224
                clear w220 w221 w222 w223 w224
                exact And.intro rfl (hQ _ z228 (by (try rw [w229]) <;> (try rw [w230]) <;> (try rw [w231]) <;> (try rw [w232]) <;> (try rw [w233]) <;> (try rw [wg178]) <;> (try rw [wg179]) <;> (try rw [wg180]) <;> (try rw [wg181]) <;> (try rw [wg182]) <;> (try rw [wg1]) <;> (try rw [wg2]) <;> (try rw [wg3]) <;> (try rw [wg4]) <;> (try rw [wg5]) <;> omega) (by (try rw [w229]) <;> (try rw [w230]) <;> (try rw [w231]) <;> (try rw [w232]) <;> (try rw [w233]) <;> (try rw [wg178]) <;> (try rw [wg179]) <;> (try rw [wg180]) <;> (try rw [wg181]) <;> (try rw [wg182]) <;> (try rw [wg1]) <;> (try rw [wg2]) <;> (try rw [wg3]) <;> (try rw [wg4]) <;> (try rw [wg5]) <;> omega) (by (try rw [w229]) <;> (try rw [w230]) <;> (try rw [w231]) <;> (try rw [w232]) <;> (try rw [w233]) <;> (try rw [wg178]) <;> (try rw [wg179]) <;> (try rw [wg180]) <;> (try rw [wg181]) <;> (try rw [wg182]) <;> (try rw [wg1]) <;> (try rw [wg2]) <;> (try rw [wg3]) <;> (try rw [wg4]) <;> (try rw [wg5]) <;> omega) (by (try rw [w229]) <;> (try rw [w230]) <;> (try rw [w231]) <;> (try rw [w232]) <;> (try rw [w233]) <;> (try rw [wg178]) <;> (try rw [wg179]) <;> (try rw [wg180]) <;> (try rw [wg181]) <;> (try rw [wg182]) <;> (try rw [wg1]) <;> (try rw [wg2]) <;> (try rw [wg3]) <;> (try rw [wg4]) <;> (try rw [wg5]) <;> omega))
            · refine And.intro ⟨by omega, by omega⟩ ?_
              intro m234 em234
              have z235 := zfx_f z0 em234 rfl
              have w236 : m234.1 66 ((31 : Nat) : Int) = g178 := by rw [em234]; exact (zu_nk (by decide)).trans wg178
              have w237 : m234.1 66 ((30 : Nat) : Int) = g179 := by rw [em234]; exact (zu_nk (by decide)).trans wg179
              have w238 : m234.1 66 ((33 : Nat) : Int) = g180 := by rw [em234]; exact (zu_nk (by decide)).trans wg180
              have w239 : m234.1 66 ((34 : Nat) : Int) = g181 := by rw [em234]; exact (zu_nk (by decide)).trans wg181
              have w240 : m234.1 66 ((32 : Nat) : Int) = 259 := by rw [em234]; exact zu_at
              intro x241 hx241 kx241 lx241
              rw [w236] at hx241
              intro x242 hx242 kx242 lx242
              rw [w239] at hx242
              refine And.intro ⟨by omega, by omega⟩ ?_
              intro m243 em243
              have z244 := zfx_f z235 em243 rfl
              have w245 : m243.1 66 ((31 : Nat) : Int) = (x241 + x242) := by rw [em243]; exact zu_at
              have w246 : m243.1 66 ((30 : Nat) : Int) = g179 := by rw [em243]; exact (zu_nk (by decide)).trans w237
              have w247 : m243.1 66 ((33 : Nat) : Int) = g180 := by rw [em243]; exact (zu_nk (by decide)).trans w238
              have w248 : m243.1 66 ((34 : Nat) : Int) = g181 := by rw [em243]; exact (zu_nk (by decide)).trans w239
              have w249 : m243.1 66 ((32 : Nat) : Int) = 259 := by rw [em243]; exact (zu_nk (by decide)).trans w240
              clear w236 w237 w238 w239 w240
              exact And.intro rfl (hQ _ z244 (by (try rw [w245]) <;> (try rw [w246]) <;> (try rw [w247]) <;> (try rw [w248]) <;> (try rw [w249]) <;> (try rw [wg178]) <;> (try rw [wg179]) <;> (try rw [wg180]) <;> (try rw [wg181]) <;> (try rw [wg182]) <;> (try rw [wg1]) <;> (try rw [wg2]) <;> (try rw [wg3]) <;> (try rw [wg4]) <;> (try rw [wg5]) <;> omega) (by (try rw [w245]) <;> (try rw [w246]) <;> (try rw [w247]) <;> (try rw [w248]) <;> (try rw [w249]) <;> (try rw [wg178]) <;> (try rw [wg179]) <;> (try rw [wg180]) <;> (try rw [wg181]) <;> (try rw [wg182]) <;> (try rw [wg1]) <;> (try rw [wg2]) <;> (try rw [wg3]) <;> (try rw [wg4]) <;> (try rw [wg5]) <;> omega) (by (try rw [w245]) <;> (try rw [w246]) <;> (try rw [w247]) <;> (try rw [w248]) <;> (try rw [w249]) <;> (try rw [wg178]) <;> (try rw [wg179]) <;> (try rw [wg180]) <;> (try rw [wg181]) <;> (try rw [wg182]) <;> (try rw [wg1]) <;> (try rw [wg2]) <;> (try rw [wg3]) <;> (try rw [wg4]) <;> (try rw [wg5]) <;> omega) (by (try rw [w245]) <;> (try rw [w246]) <;> (try rw [w247]) <;> (try rw [w248]) <;> (try rw [w249]) <;> (try rw [wg178]) <;> (try rw [wg179]) <;> (try rw [wg180]) <;> (try rw [wg181]) <;> (try rw [wg182]) <;> (try rw [wg1]) <;> (try rw [wg2]) <;> (try rw [wg3]) <;> (try rw [wg4]) <;> (try rw [wg5]) <;> omega))
          · refine And.intro ⟨by omega, by omega⟩ ?_
            intro m250 em250
            have z251 := zfx_f z0 em250 rfl
            have w252 : m250.1 66 ((31 : Nat) : Int) = g178 := by rw [em250]; exact (zu_nk (by decide)).trans wg178
            have w253 : m250.1 66 ((30 : Nat) : Int) = g179 := by rw [em250]; exact (zu_nk (by decide)).trans wg179
            have w254 : m250.1 66 ((33 : Nat) : Int) = g180 := by rw [em250]; exact (zu_nk (by decide)).trans wg180
            have w255 : m250.1 66 ((34 : Nat) : Int) = g181 := by rw [em250]; exact (zu_nk (by decide)).trans wg181
            have w256 : m250.1 66 ((32 : Nat) : Int) = 258 := by rw [em250]; exact zu_at
            intro x257 hx257 kx257 lx257
            rw [w252] at hx257
            intro x258 hx258 kx258 lx258
            rw [w255] at hx258
            refine And.intro ⟨by omega, by omega⟩ ?_
            intro m259 em259
            have z260 := zfx_f z251 em259 rfl
            have w261 : m259.1 66 ((31 : Nat) : Int) = (x257 + x258) := by rw [em259]; exact zu_at
            have w262 : m259.1 66 ((30 : Nat) : Int) = g179 := by rw [em259]; exact (zu_nk (by decide)).trans w253
            have w263 : m259.1 66 ((33 : Nat) : Int) = g180 := by rw [em259]; exact (zu_nk (by decide)).trans w254
            have w264 : m259.1 66 ((34 : Nat) : Int) = g181 := by rw [em259]; exact (zu_nk (by decide)).trans w255
            have w265 : m259.1 66 ((32 : Nat) : Int) = 258 := by rw [em259]; exact (zu_nk (by decide)).trans w256
            clear w252 w253 w254 w255 w256
            exact And.intro rfl (hQ _ z260 (by (try rw [w261]) <;> (try rw [w262]) <;> (try rw [w263]) <;> (try rw [w264]) <;> (try rw [w265]) <;> (try rw [wg178]) <;> (try rw [wg179]) <;> (try rw [wg180]) <;> (try rw [wg181]) <;> (try rw [wg182]) <;> (try rw [wg1]) <;> (try rw [wg2]) <;> (try rw [wg3]) <;> (try rw [wg4]) <;> (try rw [wg5]) <;> omega) (by (try rw [w261]) <;> (try rw [w262]) <;> (try rw [w263]) <;> (try rw [w264]) <;> (try rw [w265]) <;> (try rw [wg178]) <;> (try rw [wg179]) <;> (try rw [wg180]) <;> (try rw [wg181]) <;> (try rw [wg182]) <;> (try rw [wg1]) <;> (try rw [wg2]) <;> (try rw [wg3]) <;> (try rw [wg4]) <;> (try rw [wg5]) <;> omega) (by (try rw [w261]) <;> (try rw [w262]) <;> (try rw [w263]) <;> (try rw [w264]) <;> (try rw [w265]) <;> (try rw [wg178]) <;> (try rw [wg179]) <;> (try rw [wg180]) <;> (try rw [wg181]) <;> (try rw [wg182]) <;> (try rw [wg1]) <;> (try rw [wg2]) <;> (try rw [wg3]) <;> (try rw [wg4]) <;> (try rw [wg5]) <;> omega) (by (try rw [w261]) <;> (try rw [w262]) <;> (try rw [w263]) <;> (try rw [w264]) <;> (try rw [w265]) <;> (try rw [wg178]) <;> (try rw [wg179]) <;> (try rw [wg180]) <;> (try rw [wg181]) <;> (try rw [wg182]) <;> (try rw [wg1]) <;> (try rw [wg2]) <;> (try rw [wg3]) <;> (try rw [wg4]) <;> (try rw [wg5]) <;> omega))
        · refine And.intro ⟨by omega, by omega⟩ ?_
          intro m266 em266
          have z267 := zfx_f z0 em266 rfl
          have w268 : m266.1 66 ((31 : Nat) : Int) = g178 := by rw [em266]; exact (zu_nk (by decide)).trans wg178
          have w269 : m266.1 66 ((30 : Nat) : Int) = g179 := by rw [em266]; exact (zu_nk (by decide)).trans wg179
          have w270 : m266.1 66 ((33 : Nat) : Int) = g180 := by rw [em266]; exact (zu_nk (by decide)).trans wg180
          have w271 : m266.1 66 ((34 : Nat) : Int) = g181 := by rw [em266]; exact (zu_nk (by decide)).trans wg181
          have w272 : m266.1 66 ((32 : Nat) : Int) = 261 := by rw [em266]; exact zu_at
          intro x273 hx273 kx273 lx273
          rw [w268] at hx273
          intro x274 hx274 kx274 lx274
          rw [w271] at hx274
          refine And.intro ⟨by omega, by omega⟩ ?_
          intro m275 em275
          have z276 := zfx_f z267 em275 rfl
          have w277 : m275.1 66 ((31 : Nat) : Int) = (x273 + x274) := by rw [em275]; exact zu_at
          have w278 : m275.1 66 ((30 : Nat) : Int) = g179 := by rw [em275]; exact (zu_nk (by decide)).trans w269
          have w279 : m275.1 66 ((33 : Nat) : Int) = g180 := by rw [em275]; exact (zu_nk (by decide)).trans w270
          have w280 : m275.1 66 ((34 : Nat) : Int) = g181 := by rw [em275]; exact (zu_nk (by decide)).trans w271
          have w281 : m275.1 66 ((32 : Nat) : Int) = 261 := by rw [em275]; exact (zu_nk (by decide)).trans w272
          clear w268 w269 w270 w271 w272
          exact And.intro rfl (hQ _ z276 (by (try rw [w277]) <;> (try rw [w278]) <;> (try rw [w279]) <;> (try rw [w280]) <;> (try rw [w281]) <;> (try rw [wg178]) <;> (try rw [wg179]) <;> (try rw [wg180]) <;> (try rw [wg181]) <;> (try rw [wg182]) <;> (try rw [wg1]) <;> (try rw [wg2]) <;> (try rw [wg3]) <;> (try rw [wg4]) <;> (try rw [wg5]) <;> omega) (by (try rw [w277]) <;> (try rw [w278]) <;> (try rw [w279]) <;> (try rw [w280]) <;> (try rw [w281]) <;> (try rw [wg178]) <;> (try rw [wg179]) <;> (try rw [wg180]) <;> (try rw [wg181]) <;> (try rw [wg182]) <;> (try rw [wg1]) <;> (try rw [wg2]) <;> (try rw [wg3]) <;> (try rw [wg4]) <;> (try rw [wg5]) <;> omega) (by (try rw [w277]) <;> (try rw [w278]) <;> (try rw [w279]) <;> (try rw [w280]) <;> (try rw [w281]) <;> (try rw [wg178]) <;> (try rw [wg179]) <;> (try rw [wg180]) <;> (try rw [wg181]) <;> (try rw [wg182]) <;> (try rw [wg1]) <;> (try rw [wg2]) <;> (try rw [wg3]) <;> (try rw [wg4]) <;> (try rw [wg5]) <;> omega) (by (try rw [w277]) <;> (try rw [w278]) <;> (try rw [w279]) <;> (try rw [w280]) <;> (try rw [w281]) <;> (try rw [wg178]) <;> (try rw [wg179]) <;> (try rw [wg180]) <;> (try rw [wg181]) <;> (try rw [wg182]) <;> (try rw [wg1]) <;> (try rw [wg2]) <;> (try rw [wg3]) <;> (try rw [wg4]) <;> (try rw [wg5]) <;> omega))
      · intro x282 hx282 kx282 lx282
        rw [wg181] at hx282
        refine And.intro ⟨⟨by omega, by omega⟩, ⟨by omega, by omega⟩⟩ (And.intro (fun c283 => ?_) (fun c283 => ?_))
        · intro x284 hx284 kx284 lx284
          refine And.intro ⟨by omega, by omega⟩ (And.intro (fun c285 => ?_) (fun c285 => ?_))
          · clear c285
            intro x286 hx286 kx286 lx286
            refine And.intro ⟨by omega, by omega⟩ (And.intro (fun c287 => ?_) (fun c287 => ?_))
            · clear c287
              intro x288 hx288 kx288 lx288
              refine And.intro ⟨by omega, by omega⟩ (And.intro (fun c289 => ?_) (fun c289 => ?_))
              · clear c289
                refine And.intro ⟨by omega, by omega⟩ ?_
                intro m290 em290
                have z291 := zfx_f z0 em290 rfl
                have w292 : m290.1 66 ((31 : Nat) : Int) = g178 := by rw [em290]; exact (zu_nk (by decide)).trans wg178
                have w293 : m290.1 66 ((30 : Nat) : Int) = g179 := by rw [em290]; exact (zu_nk (by decide)).trans wg179
                have w294 : m290.1 66 ((33 : Nat) : Int) = g180 := by rw [em290]; exact (zu_nk (by decide)).trans wg180
                have w295 : m290.1 66 ((34 : Nat) : Int) = g181 := by rw [em290]; exact (zu_nk (by decide)).trans wg181
                have w296 : m290.1 66 ((32 : Nat) : Int) = 257 := by rw [em290]; exact zu_at
                intro x297 hx297 kx297 lx297
                rw [w292] at hx297
                intro x298 hx298 kx298 lx298
                rw [w295] at hx298
                refine And.intro ⟨by omega, by omega⟩ ?_
                intro m299 em299
                have z300 := zfx_f z291 em299 rfl
                have w301 : m299.1 66 ((31 : Nat) : Int) = (x297 + x298) := by rw [em299]; exact zu_at
                have w302 : m299.1 66 ((30 : Nat) : Int) = g179 := by rw [em299]; exact (zu_nk (by decide)).trans w293
                have w303 : m299.1 66 ((33 : Nat) : Int) = g180 := by rw [em299]; exact (zu_nk (by decide)).trans w294
                have w304 : m299.1 66 ((34 : Nat) : Int) = g181 := by rw [em299]; exact (zu_nk (by decide)).trans w295
                have w305 : m299.1 66 ((32 : Nat) : Int) = 257 := by rw [em299]; exact (zu_nk (by decide)).trans w296
                clear w292 w293 w294 w295 w296
                exact And.intro rfl (hQ _ z300 (by (try rw [w301]) <;> (try rw [w302]) <;> (try rw [w303]) <;> (try rw [w304]) <;> (try rw [w305]) <;> (try rw [wg178]) <;> (try rw [wg179]) <;> (try rw [wg180]) <;> (try rw [wg181]) <;> (try rw [wg182]) <;> (try rw [wg1]) <;> (try rw [wg2]) <;> (try rw [wg3]) <;> (try rw [wg4]) <;> (try rw [wg5]) <;> omega) (by (try rw [w301]) <;> (try rw [w302]) <;> (try rw [w303]) <;> (try rw [w304]) <;> (try rw [w305]) <;> (try rw [wg178]) <;> (try rw [wg179]) <;> (try rw [wg180]) <;> (try rw [wg181]) <;> (try rw [wg182]) <;> (try rw [wg1]) <;> (try rw [wg2]) <;> (try rw [wg3]) <;> (try rw [wg4]) <;> (try rw [wg5]) <;> omega) (by (try rw [w301]) <;> (try rw [w302]) <;> (try rw [w303]) <;> (try rw [w304]) <;> (try rw [w305]) <;> (try rw [wg178]) <;> (try rw [wg179]) <;> (try rw [wg180]) <;> (try rw [wg181]) <;> (try rw [wg182]) <;> (try rw [wg1]) <;> (try rw [wg2]) <;> (try rw [wg3]) <;> (try rw [wg4]) <;> (try rw [wg5]) <;> omega) (by (try rw [w301]) <;> (try rw [w302]) <;> (try rw [w303]) <;> (try rw [w304]) <;> (try rw [w305]) <;> (try rw [wg178]) <;> (try rw [wg179]) <;> (try rw [wg180]) <;> (try rw [wg181]) <;> (try rw [wg182]) <;> (try rw [wg1]) <;> (try rw [wg2]) <;> (try rw [wg3]) <;> (try rw [wg4]) <;> (try rw [wg5]) <;> omega))
              · refine And.intro ⟨by omega, by omega⟩ ?_
                intro m306 em306
                have z307 := zfx_f z0 em306 rfl
                have w308 : m306.1 66 ((31 : Nat) : Int) = g178 := by rw [em306]; exact (zu_nk (by decide)).trans wg178
                have w309 : m306.1 66 ((30 : Nat) : Int) = g179 := by rw [em306]; exact (zu_nk (by decide)).trans wg179
                have w310 : m306.1 66 ((33 : Nat) : Int) = g180 := by rw [em306]; exact (zu_nk (by decide)).trans wg180
                have w311 : m306.1 66 ((34 : Nat) : Int) = g181 := by rw [em306]; exact (zu_nk (by decide)).trans wg181
                have w312 : m306.1 66 ((32 : Nat) : Int) = 260 := by rw [em306]; exact zu_at
                intro x313 hx313 kx313 lx313
                rw [w308] at hx313
                intro x314 hx314 kx314 lx314
                rw [w311] at hx314
                refine And.intro ⟨by omega, by omega⟩ ?_
                intro m315 em315
                have z316 := zfx_f z307 em315 rfl
                have w317 : m315.1 66 ((31 : Nat) : Int) = (x313 + x314) := by rw [em315]; exact zu_at
                have w318 : m315.1 66 ((30 : Nat) : Int) = g179 := by rw [em315]; exact (zu_nk (by decide)).trans w309
                have w319 : m315.1 66 ((33 : Nat) : Int) = g180 := by rw [em315]; exact (zu_nk (by decide)).trans w310
                have w320 : m315.1 66 ((34 : Nat) : Int) = g181 := by rw [em315]; exact (zu_nk (by decide)).trans w311
                have w321 : m315.1 66 ((32 : Nat) : Int) = 260 := by rw [em315]; exact (zu_nk (by decide)).trans w312
                clear w308 w309 w310 w311 w312
                exact And.intro rfl (hQ _ z316 (by (try rw [w317]) <;> (try rw [w318]) <;> (try rw [w319]) <;> (try rw [w320]) <;> (try rw [w321]) <;> (try rw [wg178]) <;> (try rw [wg179]) <;> (try rw [wg180]) <;> (try rw [wg181]) <;> (try rw [wg182]) <;> (try rw [wg1]) <;> (try rw [wg2]) <;> (try rw [wg3]) <;> (try rw [wg4]) <;> (try rw [wg5]) <;> omega) (by (try rw [w317]) <;> (try rw [w318]) <;> (try rw [w319]) <;> (try rw [w320]) <;> (try rw [w321]) <;> (try rw [wg178]) <;> (try rw [wg179]) <;> (try rw [wg180]) <;> (try rw [wg181]) <;> (try rw [wg182]) <;> (try rw [wg1]) <;> (try rw [wg2]) <;> (try rw [wg3]) <;> (try rw [wg4]) <;> (try rw [wg5]) <;> omega) (by (try rw [w317]) <;> (try rw [w318]) <;> (try rw [w319]) <;> (try rw [w320]) <;> (try rw [w321]) <;> (try rw [wg178]) <;> (try rw [wg179]) <;> (try rw [wg180]) <;> (try rw [wg181]) <;> (try rw [wg182]) <;> (try rw [wg1]) <;> (try rw [wg2]) <;> (try rw [wg3]) <;> (try rw [wg4]) <;> (try rw [wg5]) <;> omega) (by (try rw [w317]) <;> (try rw [w318]) <;> (try rw [w319]) <;> (try rw [w320]) <;> (try rw [w321]) <;> (try rw [wg178]) <;> (try rw [wg179]) <;> (try rw [wg180]) <;> (try rw [wg181]) <;> (try rw [wg182]) <;> (try rw [wg1]) <;> (try rw [wg2]) <;> (try rw [wg3]) <;> (try rw [wg4]) <;> (try rw [wg5]) <;> omega))
            · refine And.intro ⟨by omega, by omega⟩ ?_
              intro m322 em322
              have z323 := zfx_f z0 em322 rfl
              have w324 : m322.1 66 ((31 : Nat) : Int) = g178 := by rw [em322]; exact (zu_nk (by decide)).trans wg178
              have w325 : m322.1 66 ((30 : Nat) : Int) = g179 := by rw [em322]; exact (zu_nk (by decide)).trans wg179
              have w326 : m322.1 66 ((33 : Nat) : Int) = g180 := by rw [em322]; exact (zu_nk (by decide)).trans wg180
              have w327 : m322.1 66 ((34 : Nat) : Int) = g181 := by rw [em322]; exact (zu_nk (by decide)).trans wg181
              have w328 : m322.1 66 ((32 : Nat) : Int) = 259 := by rw [em322]; exact zu_at
              intro x329 hx329 kx329 lx329
              rw [w324] at hx329
              intro x330 hx330 kx330 lx330
              rw [w327] at hx330
              refine And.intro ⟨by omega, by omega⟩ ?_
              intro m331 em331
              have z332 := zfx_f z323 em331 rfl
              have w333 : m331.1 66 ((31 : Nat) : Int) = (x329 + x330) := by rw [em331]; exact zu_at
              have w334 : m331.1 66 ((30 : Nat) : Int) = g179 := by rw [em331]; exact (zu_nk (by decide)).trans w325
              have w335 : m331.1 66 ((33 : Nat) : Int) = g180 := by rw [em331]; exact (zu_nk (by decide)).trans w326
              have w336 : m331.1 66 ((34 : Nat) : Int) = g181 := by rw [em331]; exact (zu_nk (by decide)).trans w327
              have w337 : m331.1 66 ((32 : Nat) : Int) = 259 := by rw [em331]; exact (zu_nk (by decide)).trans w328
              clear w324 w325 w326 w327 w328
              exact And.intro rfl (hQ _ z332 (by (try rw [w333]) <;> (try rw [w334]) <;> (try rw [w335]) <;> (try rw [w336]) <;> (try rw [w337]) <;> (try rw [wg178]) <;> (try rw [wg179]) <;> (try rw [wg180]) <;> (try rw [wg181]) <;> (try rw [wg182]) <;> (try rw [wg1]) <;> (try rw [wg2]) <;> (try rw [wg3]) <;> (try rw [wg4]) <;> (try rw [wg5]) <;> omega) (by (try rw [w333]) <;> (try rw [w334]) <;> (try rw [w335]) <;> (try rw [w336]) <;> (try rw [w337]) <;> (try rw [wg178]) <;> (try rw [wg179]) <;> (try rw [wg180]) <;> (try rw [wg181]) <;> (try rw [wg182]) <;> (try rw [wg1]) <;> (try rw [wg2]) <;> (try rw [wg3]) <;> (try rw [wg4]) <;> (try rw [wg5]) <;> omega) (by (try rw [w333]) <;> (try rw [w334]) <;> (try rw [w335]) <;> (try rw [w336]) <;> (try rw [w337]) <;> (try rw [wg178]) <;> (try rw [wg179]) <;> (try rw [wg180]) <;> (try rw [wg181]) <;> (try rw [wg182]) <;> (try rw [wg1]) <;> (try rw [wg2]) <;> (try rw [wg3]) <;> (try rw [wg4]) <;> (try rw [wg5]) <;> omega) (by (try rw [w333]) <;> (try rw [w334]) <;> (try rw [w335]) <;> (try rw [w336]) <;> (try rw [w337]) <;> (try rw [wg178]) <;> (try rw [wg179]) <;> (try rw [wg180]) <;> (try rw [wg181]) <;> (try rw [wg182]) <;> (try rw [wg1]) <;> (try rw [wg2]) <;> (try rw [wg3]) <;> (try rw [wg4]) <;> (try rw [wg5]) <;> omega))
          · refine And.intro ⟨by omega, by omega⟩ ?_
            intro m338 em338
            have z339 := zfx_f z0 em338 rfl
            have w340 : m338.1 66 ((31 : Nat) : Int) = g178 := by rw [em338]; exact (zu_nk (by decide)).trans wg178
            have w341 : m338.1 66 ((30 : Nat) : Int) = g179 := by rw [em338]; exact (zu_nk (by decide)).trans wg179
            have w342 : m338.1 66 ((33 : Nat) : Int) = g180 := by rw [em338]; exact (zu_nk (by decide)).trans wg180
            have w343 : m338.1 66 ((34 : Nat) : Int) = g181 := by rw [em338]; exact (zu_nk (by decide)).trans wg181
            have w344 : m338.1 66 ((32 : Nat) : Int) = 258 := by rw [em338]; exact zu_at
            intro x345 hx345 kx345 lx345
            rw [w340] at hx345
            intro x346 hx346 kx346 lx346
            rw [w343] at hx346
            refine And.intro ⟨by omega, by omega⟩ ?_
            intro m347 em347
            have z348 := zfx_f z339 em347 rfl
            have w349 : m347.1 66 ((31 : Nat) : Int) = (x345 + x346) := by rw [em347]; exact zu_at
            have w350 : m347.1 66 ((30 : Nat) : Int) = g179 := by rw [em347]; exact (zu_nk (by decide)).trans w341
            have w351 : m347.1 66 ((33 : Nat) : Int) = g180 := by rw [em347]; exact (zu_nk (by decide)).trans w342
            have w352 : m347.1 66 ((34 : Nat) : Int) = g181 := by rw [em347]; exact (zu_nk (by decide)).trans w343
            have w353 : m347.1 66 ((32 : Nat) : Int) = 258 := by rw [em347]; exact (zu_nk (by decide)).trans w344
            clear w340 w341 w342 w343 w344
            exact And.intro rfl (hQ _ z348 (by (try rw [w349]) <;> (try rw [w350]) <;> (try rw [w351]) <;> (try rw [w352]) <;> (try rw [w353]) <;> (try rw [wg178]) <;> (try rw [wg179]) <;> (try rw [wg180]) <;> (try rw [wg181]) <;> (try rw [wg182]) <;> (try rw [wg1]) <;> (try rw [wg2]) <;> (try rw [wg3]) <;> (try rw [wg4]) <;> (try rw [wg5]) <;> omega) (by (try rw [w349]) <;> (try rw [w350]) <;> (try rw [w351]) <;> (try rw [w352]) <;> (try rw [w353]) <;> (try rw [wg178]) <;> (try rw [wg179]) <;> (try rw [wg180]) <;> (try rw [wg181]) <;> (try rw [wg182]) <;> (try rw [wg1]) <;> (try rw [wg2]) <;> (try rw [wg3]) <;> (try rw [wg4]) <;> (try rw [wg5]) <;> omega) (by (try rw [w349]) <;> (try rw [w350]) <;> (try rw [w351]) <;> (try rw [w352]) <;> (try rw [w353]) <;> (try rw [wg178]) <;> (try rw [wg179]) <;> (try rw [wg180]) <;> (try rw [wg181]) <;> (try rw [wg182]) <;> (try rw [wg1]) <;> (try rw [wg2]) <;> (try rw [wg3]) <;> (try rw [wg4]) <;> (try rw [wg5]) <;> omega) (by (try rw [w349]) <;> (try rw [w350]) <;> (try rw [w351]) <;> (try rw [w352]) <;> (try rw [w353]) <;> (try rw [wg178]) <;> (try rw [wg179]) <;> (try rw [wg180]) <;> (try rw [wg181]) <;> (try rw [wg182]) <;> (try rw [wg1]) <;> (try rw [wg2]) <;> (try rw [wg3]) <;> (try rw [wg4]) <;> (try rw [wg5]) <;> omega))
        · refine And.intro ⟨by omega, by omega⟩ ?_
          intro m354 em354
          have z355 := zfx_f z0 em354 rfl
          have w356 : m354.1 66 ((31 : Nat) : Int) = g178 := by rw [em354]; exact (zu_nk (by decide)).trans wg178
          have w357 : m354.1 66 ((30 : Nat) : Int) = g179 := by rw [em354]; exact (zu_nk (by decide)).trans wg179
          have w358 : m354.1 66 ((33 : Nat) : Int) = g180 := by rw [em354]; exact (zu_nk (by decide)).trans wg180
          have w359 : m354.1 66 ((34 : Nat) : Int) = g181 := by rw [em354]; exact (zu_nk (by decide)).trans wg181
          have w360 : m354.1 66 ((32 : Nat) : Int) = 261 := by rw [em354]; exact zu_at
          intro x361 hx361 kx361 lx361
          rw [w356] at hx361
          intro x362 hx362 kx362 lx362
          rw [w359] at hx362
          refine And.intro ⟨by omega, by omega⟩ ?_
          intro m363 em363
          have z364 := zfx_f z355 em363 rfl
          have w365 : m363.1 66 ((31 : Nat) : Int) = (x361 + x362) := by rw [em363]; exact zu_at
          have w366 : m363.1 66 ((30 : Nat) : Int) = g179 := by rw [em363]; exact (zu_nk (by decide)).trans w357
          have w367 : m363.1 66 ((33 : Nat) : Int) = g180 := by rw [em363]; exact (zu_nk (by decide)).trans w358
          have w368 : m363.1 66 ((34 : Nat) : Int) = g181 := by rw [em363]; exact (zu_nk (by decide)).trans w359
          have w369 : m363.1 66 ((32 : Nat) : Int) = 261 := by rw [em363]; exact (zu_nk (by decide)).trans w360
          clear w356 w357 w358 w359 w360
          exact And.intro rfl (hQ _ z364 (by (try rw [w365]) <;> (try rw [w366]) <;> (try rw [w367]) <;> (try rw [w368]) <;> (try rw [w369]) <;> (try rw [wg178]) <;> (try rw [wg179]) <;> (try rw [wg180]) <;> (try rw [wg181]) <;> (try rw [wg182]) <;> (try rw [wg1]) <;> (try rw [wg2]) <;> (try rw [wg3]) <;> (try rw [wg4]) <;> (try rw [wg5]) <;> omega) (by (try rw [w365]) <;> (try rw [w366]) <;> (try rw [w367]) <;> (try rw [w368]) <;> (try rw [w369]) <;> (try rw [wg178]) <;> (try rw [wg179]) <;> (try rw [wg180]) <;> (try rw [wg181]) <;> (try rw [wg182]) <;> (try rw [wg1]) <;> (try rw [wg2]) <;> (try rw [wg3]) <;> (try rw [wg4]) <;> (try rw [wg5]) <;> omega) (by (try rw [w365]) <;> (try rw [w366]) <;> (try rw [w367]) <;> (try rw [w368]) <;> (try rw [w369]) <;> (try rw [wg178]) <;> (try rw [wg179]) <;> (try rw [wg180]) <;> (try rw [wg181]) <;> (try rw [wg182]) <;> (try rw [wg1]) <;> (try rw [wg2]) <;> (try rw [wg3]) <;> (try rw [wg4]) <;> (try rw [wg5]) <;> omega) (by (try rw [w365]) <;> (try rw [w366]) <;> (try rw [w367]) <;> (try rw [w368]) <;> (try rw [w369]) <;> (try rw [wg178]) <;> (try rw [wg179]) <;> (try rw [wg180]) <;> (try rw [wg181]) <;> (try rw [wg182]) <;> (try rw [wg1]) <;> (try rw [wg2]) <;> (try rw [wg3]) <;> (try rw [wg4]) <;> (try rw [wg5]) <;> omega))
    · intro x370 hx370 kx370 lx370
      rw [wg181] at hx370
      refine And.intro ⟨by omega, by omega⟩ ?_
      intro m371 em371
      have z372 := zfx_f z0 em371 rfl
      have w373 : m371.1 66 ((31 : Nat) : Int) = g178 := by rw [em371]; exact (zu_nk (by decide)).trans wg178
      have w374 : m371.1 66 ((30 : Nat) : Int) = g179 := by rw [em371]; exact (zu_nk (by decide)).trans wg179
      have w375 : m371.1 66 ((33 : Nat) : Int) = g180 := by rw [em371]; exact (zu_nk (by decide)).trans wg180
      have w376 : m371.1 66 ((34 : Nat) : Int) = (x370 + 1) := by rw [em371]; exact zu_at
      have w377 : m371.1 66 ((32 : Nat) : Int) = g182 := by rw [em371]; exact (zu_nk (by decide)).trans wg182
      refine Exists.intro (Int.toNat (m371.1 66 ((30 : Nat) : Int) - m371.1 66 ((34 : Nat) : Int))) (And.intro (by (try rw [w373]) <;> (try rw [w374]) <;> (try rw [w375]) <;> (try rw [w376]) <;> (try rw [w377]) <;> (try rw [wg178]) <;> (try rw [wg179]) <;> (try rw [wg180]) <;> (try rw [wg181]) <;> (try rw [wg182]) <;> (try rw [wg1]) <;> (try rw [wg2]) <;> (try rw [wg3]) <;> (try rw [wg4]) <;> (try rw [wg5]) <;> omega) ?_)
      exact ⟨(fun h => absurd h (by decide)), (fun _ => ⟨rfl, z372, (by (try rw [w373]) <;> (try rw [w374]) <;> (try rw [w375]) <;> (try rw [w376]) <;> (try rw [w377]) <;> (try rw [wg178]) <;> (try rw [wg179]) <;> (try rw [wg180]) <;> (try rw [wg181]) <;> (try rw [wg182]) <;> (try rw [wg1]) <;> (try rw [wg2]) <;> (try rw [wg3]) <;> (try rw [wg4]) <;> (try rw [wg5]) <;> omega), (by (try rw [w373]) <;> (try rw [w374]) <;> (try rw [w375]) <;> (try rw [w376]) <;> (try rw [w377]) <;> (try rw [wg178]) <;> (try rw [wg179]) <;> (try rw [wg180]) <;> (try rw [wg181]) <;> (try rw [wg182]) <;> (try rw [wg1]) <;> (try rw [wg2]) <;> (try rw [wg3]) <;> (try rw [wg4]) <;> (try rw [wg5]) <;> omega), (by (try rw [w373]) <;> (try rw [w374]) <;> (try rw [w375]) <;> (try rw [w376]) <;> (try rw [w377]) <;> (try rw [wg178]) <;> (try rw [wg179]) <;> (try rw [wg180]) <;> (try rw [wg181]) <;> (try rw [wg182]) <;> (try rw [wg1]) <;> (try rw [wg2]) <;> (try rw [wg3]) <;> (try rw [wg4]) <;> (try rw [wg5]) <;> omega), (by (try rw [w373]) <;> (try rw [w374]) <;> (try rw [w375]) <;> (try rw [w376]) <;> (try rw [w377]) <;> (try rw [wg178]) <;> (try rw [wg179]) <;> (try rw [wg180]) <;> (try rw [wg181]) <;> (try rw [wg182]) <;> (try rw [wg1]) <;> (try rw [wg2]) <;> (try rw [wg3]) <;> (try rw [wg4]) <;> (try rw [wg5]) <;> omega), (by (try rw [w373]) <;> (try rw [w374]) <;> (try rw [w375]) <;> (try rw [w376]) <;> (try rw [w377]) <;> (try rw [wg178]) <;> (try rw [wg179]) <;> (try rw [wg180]) <;> (try rw [wg181]) <;> (try rw [wg182]) <;> (try rw [wg1]) <;> (try rw [wg2]) <;> (try rw [wg3]) <;> (try rw [wg4]) <;> (try rw [wg5]) <;> omega), (fun h => by exfalso; omega), rfl⟩)⟩
