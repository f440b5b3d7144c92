/-! ### readHead -/
def zk_X9_readHead : zC := fun As μ Q => ∃ (a1 : Int), As = [.inr (.inr (66, 66)), .inl a1] ∧ (1 ≤ a1 ∧ a1 ≤ 21) ∧ (0 ≤ μ.1 66 ((33 : Nat) : Int) ∧ 0 ≤ μ.1 66 ((34 : Nat) : Int) ∧ μ.1 66 ((33 : Nat) : Int) + μ.1 66 ((34 : Nat) : Int) ≤ μ.1 66 ((31 : Nat) : Int) ∧ μ.1 66 ((31 : Nat) : Int) ≤ μ.1 66 ((30 : Nat) : Int) ∧ μ.1 66 ((30 : Nat) : Int) ≤ 800) ∧ (μ.1 66 ((24 : Nat) : Int) = 21 ∧ μ.1 66 ((25 : Nat) : Int) = 80 ∧ μ.1 66 ((26 : Nat) : Int) = a1) ∧ (0 ≤ μ.1 66 ((27 : Nat) : Int) ∧ μ.1 66 ((27 : Nat) : Int) ≤ 4 * (a1 - 1)) ∧ (∀ (v : Int) (μ' : zM), zfx [76, 77, 79, 82, 84] [26, 27, 31, 32, 33, 34, 35, 36] μ μ' → 0 ≤ v → v ≤ 1 → (0 ≤ μ'.1 66 ((33 : Nat) : Int) ∧ 0 ≤ μ'.1 66 ((34 : Nat) : Int) ∧ μ'.1 66 ((33 : Nat) : Int) + μ'.1 66 ((34 : Nat) : Int) ≤ μ'.1 66 ((31 : Nat) : Int) ∧ μ'.1 66 ((31 : Nat) : Int) ≤ μ'.1 66 ((30 : Nat) : Int) ∧ μ'.1 66 ((30 : Nat) : Int) ≤ 800) → (μ'.1 66 ((30 : Nat) : Int) = μ.1 66 ((30 : Nat) : Int)) → (v = 1 → a1 ≤ 20 ∧ zHd μ μ' a1 ∧ zrm μ' < zrm μ) → (zOt μ μ') → Q (some (.inl v)) μ')
set_option maxHeartbeats 800000 in
theorem zm_X9_readHead {g : zΓ} (hg : zg g) (d : Nat) (hd : 5 ≤ d) : zOk g d 143 zk_X9_readHead := by
  obtain ⟨d, rfl⟩ : ∃ d', d = d' + 1 := ⟨d - 1, by omega⟩
  refine zOk_loop hg (show mt_tab[143]? = some mt_X9_readHead from rfl) ([(128, [0, 1])], []) 166 rfl fun As μ Q hC => ?_
  obtain ⟨a1, rfl, ha1, hp0, hp1, hp2, hQ⟩ := hC
  obtain ⟨g1, wg1⟩ : ∃ z : Int, μ.1 66 ((31 : Nat) : Int) = z := ⟨_, rfl⟩
  obtain ⟨g2, wg2⟩ : ∃ z : Int, μ.1 66 ((30 : Nat) : Int) = z := ⟨_, rfl⟩
  obtain ⟨g3, wg3⟩ : ∃ z : Int, μ.1 66 ((33 : Nat) : Int) = z := ⟨_, rfl⟩
  obtain ⟨g4, wg4⟩ : ∃ z : Int, μ.1 66 ((34 : Nat) : Int) = z := ⟨_, rfl⟩
  obtain ⟨g5, wg5⟩ : ∃ z : Int, μ.1 66 ((32 : Nat) : Int) = z := ⟨_, rfl⟩
  obtain ⟨g6, wg6⟩ : ∃ z : Int, μ.1 66 ((26 : Nat) : Int) = z := ⟨_, rfl⟩
  obtain ⟨g7, wg7⟩ : ∃ z : Int, μ.1 66 ((27 : Nat) : Int) = z := ⟨_, rfl⟩
  obtain ⟨g8, wg8⟩ : ∃ z : Int, μ.1 66 ((24 : Nat) : Int) = z := ⟨_, rfl⟩
  obtain ⟨g9, wg9⟩ : ∃ z : Int, μ.1 66 ((25 : Nat) : Int) = z := ⟨_, rfl⟩
  try rw [wg1] at hp0
  try rw [wg2] at hp0
  try rw [wg3] at hp0
  try rw [wg4] at hp0
  try rw [wg5] at hp0
  try rw [wg6] at hp0
  try rw [wg7] at hp0
  try rw [wg8] at hp0
  try rw [wg9] at hp0
  try rw [wg1] at hp1
  try rw [wg2] at hp1
  try rw [wg3] at hp1
  try rw [wg4] at hp1
  try rw [wg5] at hp1
  try rw [wg6] at hp1
  try rw [wg7] at hp1
  try rw [wg8] at hp1
  try rw [wg9] at hp1
  try rw [wg1] at hp2
  try rw [wg2] at hp2
  try rw [wg3] at hp2
  try rw [wg4] at hp2
  try rw [wg5] at hp2
  try rw [wg6] at hp2
  try rw [wg7] at hp2
  try rw [wg8] at hp2
  try rw [wg9] at hp2
  have z0 : zfx [76, 77, 79, 82, 84] [26, 27, 31, 32, 33, 34, 35, 36] μ μ := zfx_x μ
  refine ⟨rfl, fun pc vs μ' n => ∃ (v1 : Int), vs = [.inr (.inr (66, 66)), .inl v1] ∧ zfx [76, 77, 79, 82, 84] [26, 27, 31, 32, 33, 34, 35, 36] μ μ' ∧ (1 ≤ v1 ∧ v1 ≤ 20) ∧ (0 ≤ μ'.1 66 ((33 : Nat) : Int) ∧ 0 ≤ μ'.1 66 ((34 : Nat) : Int) ∧ μ'.1 66 ((33 : Nat) : Int) + μ'.1 66 ((34 : Nat) : Int) ≤ μ'.1 66 ((31 : Nat) : Int) ∧ μ'.1 66 ((31 : Nat) : Int) ≤ μ'.1 66 ((30 : Nat) : Int) ∧ μ'.1 66 ((30 : Nat) : Int) ≤ 800) ∧ (μ'.1 66 ((30 : Nat) : Int) = μ.1 66 ((30 : Nat) : Int)) ∧ (v1 = a1 ∧ a1 ≤ 20) ∧ (μ'.1 66 ((24 : Nat) : Int) = 21 ∧ μ'.1 66 ((25 : Nat) : Int) = 80) ∧ (zHd μ μ' a1) ∧ (zrm μ' < zrm μ) ∧ (μ'.1 66 ((32 : Nat) : Int) = 60 ∨ μ'.1 66 ((32 : Nat) : Int) = 44) ∧ (zOt μ μ') ∧ n = (Int.toNat (zrm μ')), ?_, ?_, trivial⟩
  · intro x10 hx10 kx10 lx10
    rw [wg5] at hx10
    refine And.intro ⟨⟨by omega, by omega⟩, ⟨by omega, by omega⟩⟩ (And.intro (fun c11 => ?_) (fun c11 => ?_))
    · refine ⟨zk_X9_name, zm_X9_name hg d (by omega), rfl, (by (try rw [wg1]) <;> (try rw [wg2]) <;> (try rw [wg3]) <;> (try rw [wg4]) <;> (try rw [wg5]) <;> (try rw [wg6]) <;> (try rw [wg7]) <;> (try rw [wg8]) <;> (try rw [wg9]) <;> omega), ?_⟩
      intro j12
      refine ⟨zk_X9_findClass, zm_X9_findClass hg d (by omega), _, rfl, ?_⟩
      intro x13 kx13 lx13 p14
      try rw [wg1] at p14
      try rw [wg2] at p14
      try rw [wg3] at p14
      try rw [wg4] at p14
      try rw [wg5] at p14
      try rw [wg6] at p14
      try rw [wg7] at p14
      try rw [wg8] at p14
      try rw [wg9] at p14
      try rw [wg1] at p14
      try rw [wg2] at p14
      try rw [wg3] at p14
      try rw [wg4] at p14
      try rw [wg5] at p14
      try rw [wg6] at p14
      try rw [wg7] at p14
      try rw [wg8] at p14
      try rw [wg9] at p14
      refine And.intro ⟨by omega, by omega⟩ (And.intro (fun c15 => ?_) (fun c15 => ?_))
      · intro x16 hx16 kx16 lx16
        rw [wg6] at hx16
        refine And.intro ⟨⟨by omega, by omega⟩, ⟨by omega, by omega⟩⟩ (And.intro (fun c17 => ?_) (fun c17 => ?_))
        · intro x18 hx18 kx18 lx18
          rw [wg8] at hx18
          refine ⟨zk_X9_name, zm_X9_name hg d (by omega), rfl, (by (try rw [wg1]) <;> (try rw [wg2]) <;> (try rw [wg3]) <;> (try rw [wg4]) <;> (try rw [wg5]) <;> (try rw [wg6]) <;> (try rw [wg7]) <;> (try rw [wg8]) <;> (try rw [wg9]) <;> omega), ?_⟩
          intro j19
          refine And.intro ⟨by omega, by omega⟩ ?_
          intro x20 hx20 kx20 lx20
          rw [wg8] at hx20
          intro x21 hx21 kx21 lx21
          rw [wg7] at hx21
          refine And.intro ⟨by omega, by omega⟩ (And.intro ⟨by omega, by omega⟩ ?_)
          intro m22 em22
          have z23 := zfx_r z0 em22 rfl (by decide)
          have w24 : m22.1 66 ((31 : Nat) : Int) = g1 := by rw [em22]; exact (congrFun (zu_ne (by decide)) _).trans wg1
          have w25 : m22.1 66 ((30 : Nat) : Int) = g2 := by rw [em22]; exact (congrFun (zu_ne (by decide)) _).trans wg2
          have w26 : m22.1 66 ((33 : Nat) : Int) = g3 := by rw [em22]; exact (congrFun (zu_ne (by decide)) _).trans wg3
          have w27 : m22.1 66 ((34 : Nat) : Int) = g4 := by rw [em22]; exact (congrFun (zu_ne (by decide)) _).trans wg4
          have w28 : m22.1 66 ((32 : Nat) : Int) = g5 := by rw [em22]; exact (congrFun (zu_ne (by decide)) _).trans wg5
          have w29 : m22.1 66 ((26 : Nat) : Int) = g6 := by rw [em22]; exact (congrFun (zu_ne (by decide)) _).trans wg6
          have w30 : m22.1 66 ((27 : Nat) : Int) = g7 := by rw [em22]; exact (congrFun (zu_ne (by decide)) _).trans wg7
          have w31 : m22.1 66 ((24 : Nat) : Int) = g8 := by rw [em22]; exact (congrFun (zu_ne (by decide)) _).trans wg8
          have w32 : m22.1 66 ((25 : Nat) : Int) = g9 := by rw [em22]; exact (congrFun (zu_ne (by decide)) _).trans wg9
          have ot33 := zOt_w (zOt_r μ) em22 (by have hk : (21 : Int) ≤ (x20 + a1) := (by omega); refine ⟨fun h => ?_, fun h => ?_, fun h => ?_, fun h => ?_, fun h => ?_⟩ <;> first | exact hk | (exfalso; revert h; decide))
          intro x34 hx34 kx34 lx34
          rw [w31] at hx34
          refine And.intro ⟨by omega, by omega⟩ (And.intro ⟨by omega, by omega⟩ ?_)
          intro m35 em35
          have z36 := zfx_r z23 em35 rfl (by decide)
          have w37 : m35.1 66 ((31 : Nat) : Int) = g1 := by rw [em35]; exact (congrFun (zu_ne (by decide)) _).trans w24
          have w38 : m35.1 66 ((30 : Nat) : Int) = g2 := by rw [em35]; exact (congrFun (zu_ne (by decide)) _).trans w25
          have w39 : m35.1 66 ((33 : Nat) : Int) = g3 := by rw [em35]; exact (congrFun (zu_ne (by decide)) _).trans w26
          have w40 : m35.1 66 ((34 : Nat) : Int) = g4 := by rw [em35]; exact (congrFun (zu_ne (by decide)) _).trans w27
          have w41 : m35.1 66 ((32 : Nat) : Int) = g5 := by rw [em35]; exact (congrFun (zu_ne (by decide)) _).trans w28
          have w42 : m35.1 66 ((26 : Nat) : Int) = g6 := by rw [em35]; exact (congrFun (zu_ne (by decide)) _).trans w29
          have w43 : m35.1 66 ((27 : Nat) : Int) = g7 := by rw [em35]; exact (congrFun (zu_ne (by decide)) _).trans w30
          have w44 : m35.1 66 ((24 : Nat) : Int) = g8 := by rw [em35]; exact (congrFun (zu_ne (by decide)) _).trans w31
          have w45 : m35.1 66 ((25 : Nat) : Int) = g9 := by rw [em35]; exact (congrFun (zu_ne (by decide)) _).trans w32
          clear w24 w25 w26 w27 w28 w29 w30 w31 w32
          have ot46 := zOt_w ot33 em35 (by have hk : (21 : Int) ≤ (x34 + a1) := (by omega); refine ⟨fun h => ?_, fun h => ?_, fun h => ?_, fun h => ?_, fun h => ?_⟩ <;> first | exact hk | (exfalso; revert h; decide))
          intro x47 hx47 kx47 lx47
          rw [w44] at hx47
          refine And.intro ⟨by omega, by omega⟩ (And.intro ⟨by omega, by omega⟩ ?_)
          intro m48 em48
          have z49 := zfx_r z36 em48 rfl (by decide)
          have w50 : m48.1 66 ((31 : Nat) : Int) = g1 := by rw [em48]; exact (congrFun (zu_ne (by decide)) _).trans w37
          have w51 : m48.1 66 ((30 : Nat) : Int) = g2 := by rw [em48]; exact (congrFun (zu_ne (by decide)) _).trans w38
          have w52 : m48.1 66 ((33 : Nat) : Int) = g3 := by rw [em48]; exact (congrFun (zu_ne (by decide)) _).trans w39
          have w53 : m48.1 66 ((34 : Nat) : Int) = g4 := by rw [em48]; exact (congrFun (zu_ne (by decide)) _).trans w40
          have w54 : m48.1 66 ((32 : Nat) : Int) = g5 := by rw [em48]; exact (congrFun (zu_ne (by decide)) _).trans w41
          have w55 : m48.1 66 ((26 : Nat) : Int) = g6 := by rw [em48]; exact (congrFun (zu_ne (by decide)) _).trans w42
          have w56 : m48.1 66 ((27 : Nat) : Int) = g7 := by rw [em48]; exact (congrFun (zu_ne (by decide)) _).trans w43
          have w57 : m48.1 66 ((24 : Nat) : Int) = g8 := by rw [em48]; exact (congrFun (zu_ne (by decide)) _).trans w44
          have w58 : m48.1 66 ((25 : Nat) : Int) = g9 := by rw [em48]; exact (congrFun (zu_ne (by decide)) _).trans w45
          clear w37 w38 w39 w40 w41 w42 w43 w44 w45
          have ot59 := zOt_w ot46 em48 (by have hk : (21 : Int) ≤ (x47 + a1) := (by omega); refine ⟨fun h => ?_, fun h => ?_, fun h => ?_, fun h => ?_, fun h => ?_⟩ <;> first | exact hk | (exfalso; revert h; decide))
          intro x60 hx60 kx60 lx60
          rw [w55] at hx60
          refine And.intro ⟨by omega, by omega⟩ ?_
          intro m61 em61
          have z62 := zfx_f z49 em61 rfl
          have w63 : m61.1 66 ((31 : Nat) : Int) = g1 := by rw [em61]; exact (zu_nk (by decide)).trans w50
          have w64 : m61.1 66 ((30 : Nat) : Int) = g2 := by rw [em61]; exact (zu_nk (by decide)).trans w51
          have w65 : m61.1 66 ((33 : Nat) : Int) = g3 := by rw [em61]; exact (zu_nk (by decide)).trans w52
          have w66 : m61.1 66 ((34 : Nat) : Int) = g4 := by rw [em61]; exact (zu_nk (by decide)).trans w53
          have w67 : m61.1 66 ((32 : Nat) : Int) = g5 := by rw [em61]; exact (zu_nk (by decide)).trans w54
          have w68 : m61.1 66 ((26 : Nat) : Int) = (x60 + 1) := by rw [em61]; exact zu_at
          have w69 : m61.1 66 ((27 : Nat) : Int) = g7 := by rw [em61]; exact (zu_nk (by decide)).trans w56
          have w70 : m61.1 66 ((24 : Nat) : Int) = g8 := by rw [em61]; exact (zu_nk (by decide)).trans w57
          have w71 : m61.1 66 ((25 : Nat) : Int) = g9 := by rw [em61]; exact (zu_nk (by decide)).trans w58
          clear w50 w51 w52 w53 w54 w55 w56 w57 w58
          have ot72 := zOt_w ot59 em61 ⟨fun h => absurd h (by decide), fun h => absurd h (by decide), fun h => absurd h (by decide), fun h => absurd h (by decide), fun h => absurd h (by decide)⟩
          have HD := zHd_0 (c := a1) em22 em35 em48 em61 (by omega) (by omega) (by omega) (by omega) (by omega)
          refine ⟨zk_X9_pass, zm_X9_pass hg d (by omega), rfl, (by (try rw [w63]) <;> (try rw [w64]) <;> (try rw [w65]) <;> (try rw [w66]) <;> (try rw [w67]) <;> (try rw [w68]) <;> (try rw [w69]) <;> (try rw [w70]) <;> (try rw [w71]) <;> (try rw [wg1]) <;> (try rw [wg2]) <;> (try rw [wg3]) <;> (try rw [wg4]) <;> (try rw [wg5]) <;> (try rw [wg6]) <;> (try rw [wg7]) <;> (try rw [wg8]) <;> (try rw [wg9]) <;> omega), ?_⟩
          intro m73 qm73 p74 p75 p76 p77
          have z78 := zfx_t z62 qm73 rfl rfl
          have w79 : m73.1 66 ((30 : Nat) : Int) = g2 := (qm73.2.1 30 rfl).trans w64
          have w80 : m73.1 66 ((26 : Nat) : Int) = (x60 + 1) := (qm73.2.1 26 rfl).trans w68
          have w81 : m73.1 66 ((27 : Nat) : Int) = g7 := (qm73.2.1 27 rfl).trans w69
          have w82 : m73.1 66 ((24 : Nat) : Int) = g8 := (qm73.2.1 24 rfl).trans w70
          have w83 : m73.1 66 ((25 : Nat) : Int) = g9 := (qm73.2.1 25 rfl).trans w71
          obtain ⟨g84, wg84⟩ : ∃ z : Int, m73.1 66 ((31 : Nat) : Int) = z := ⟨_, rfl⟩
          obtain ⟨g85, wg85⟩ : ∃ z : Int, m73.1 66 ((33 : Nat) : Int) = z := ⟨_, rfl⟩
          obtain ⟨g86, wg86⟩ : ∃ z : Int, m73.1 66 ((34 : Nat) : Int) = z := ⟨_, rfl⟩
          obtain ⟨g87, wg87⟩ : ∃ z : Int, m73.1 66 ((32 : Nat) : Int) = z := ⟨_, rfl⟩
          try rw [wg84] at p74
          try rw [w79] at p74
          try rw [wg85] at p74
          try rw [wg86] at p74
          try rw [wg87] at p74
          try rw [w80] at p74
          try rw [w81] at p74
          try rw [w82] at p74
          try rw [w83] at p74
          try rw [w63] at p74
          try rw [w64] at p74
          try rw [w65] at p74
          try rw [w66] at p74
          try rw [w67] at p74
          try rw [w68] at p74
          try rw [w69] at p74
          try rw [w70] at p74
          try rw [w71] at p74
          try rw [wg1] at p74
          try rw [wg2] at p74
          try rw [wg3] at p74
          try rw [wg4] at p74
          try rw [wg5] at p74
          try rw [wg6] at p74
          try rw [wg7] at p74
          try rw [wg8] at p74
          try rw [wg9] at p74
          try rw [wg84] at p75
          try rw [w79] at p75
          try rw [wg85] at p75
          try rw [wg86] at p75
          try rw [wg87] at p75
          try rw [w80] at p75
          try rw [w81] at p75
          try rw [w82] at p75
          try rw [w83] at p75
          try rw [w63] at p75
          try rw [w64] at p75
          try rw [w65] at p75
          try rw [w66] at p75
          try rw [w67] at p75
          try rw [w68] at p75
          try rw [w69] at p75
          try rw [w70] at p75
          try rw [w71] at p75
          try rw [wg1] at p75
          try rw [wg2] at p75
          try rw [wg3] at p75
          try rw [wg4] at p75
          try rw [wg5] at p75
          try rw [wg6] at p75
          try rw [wg7] at p75
          try rw [wg8] at p75
          try rw [wg9] at p75
          try rw [wg84] at p76
          try rw [w79] at p76
          try rw [wg85] at p76
          try rw [wg86] at p76
          try rw [wg87] at p76
          try rw [w80] at p76
          try rw [w81] at p76
          try rw [w82] at p76
          try rw [w83] at p76
          try rw [w63] at p76
          try rw [w64] at p76
          try rw [w65] at p76
          try rw [w66] at p76
          try rw [w67] at p76
          try rw [w68] at p76
          try rw [w69] at p76
          try rw [w70] at p76
          try rw [w71] at p76
          try rw [wg1] at p76
          try rw [wg2] at p76
          try rw [wg3] at p76
          try rw [wg4] at p76
          try rw [wg5] at p76
          try rw [wg6] at p76
          try rw [wg7] at p76
          try rw [wg8] at p76
          try rw [wg9] at p76
          try rw [wg84] at p77
          try rw [w79] at p77
          try rw [wg85] at p77
          try rw [wg86] at p77
          try rw [wg87] at p77
          try rw [w80] at p77
          try rw [w81] at p77
          try rw [w82] at p77
          try rw [w83] at p77
          try rw [w63] at p77
          try rw [w64] at p77
          try rw [w65] at p77
          try rw [w66] at p77
          try rw [w67] at p77
          try rw [w68] at p77
          try rw [w69] at p77
          try rw [w70] at p77
          try rw [w71] at p77
          try rw [wg1] at p77
          try rw [wg2] at p77
          try rw [wg3] at p77
          try rw [wg4] at p77
          try rw [wg5] at p77
          try rw [wg6] at p77
          try rw [wg7] at p77
          try rw [wg8] at p77
          try rw [wg9] at p77
          clear w63 w64 w65 w66 w67 w68 w69 w70 w71
          have ot88 := zOt_fr ot72 (qm73.1 76 (by decide) rfl) (qm73.1 77 (by decide) rfl) (qm73.1 78 (by decide) rfl) (qm73.1 79 (by decide) rfl) (qm73.1 80 (by decide) rfl) (qm73.1 83 (by decide) rfl) (qm73.1 84 (by decide) rfl)
          have HD1 := zHd_fr HD (qm73.1 76 (by decide) rfl) (qm73.1 77 (by decide) rfl) (qm73.1 79 (by decide) rfl) (qm73.1 84 (by decide) rfl) (qm73.2.1 26 rfl) (qm73.2.1 27 rfl)
          have ZL : zrm m73 < zrm μ := (by unfold zrm; simp only [wg84, w79, wg85, wg86, wg87, w80, w81, w82, w83, wg1, wg2, wg3, wg4, wg5, wg6, wg7, wg8, wg9]; (repeat' split) <;> omega)
          intro x89 hx89 kx89 lx89
          rw [wg87] at hx89
          refine And.intro ⟨⟨by omega, by omega⟩, ⟨by omega, by omega⟩⟩ (And.intro (fun c90 => ?_) (fun c90 => ?_))
          · refine Exists.intro (Int.toNat (zrm m73)) ?_
            exact ⟨_, rfl, z78, ⟨by omega, by omega⟩, (by (try rw [wg84]) <;> (try rw [w79]) <;> (try rw [wg85]) <;> (try rw [wg86]) <;> (try rw [wg87]) <;> (try rw [w80]) <;> (try rw [w81]) <;> (try rw [w82]) <;> (try rw [w83]) <;> (try rw [wg1]) <;> (try rw [wg2]) <;> (try rw [wg3]) <;> (try rw [wg4]) <;> (try rw [wg5]) <;> (try rw [wg6]) <;> (try rw [wg7]) <;> (try rw [wg8]) <;> (try rw [wg9]) <;> omega), (by (try rw [wg84]) <;> (try rw [w79]) <;> (try rw [wg85]) <;> (try rw [wg86]) <;> (try rw [wg87]) <;> (try rw [w80]) <;> (try rw [w81]) <;> (try rw [w82]) <;> (try rw [w83]) <;> (try rw [wg1]) <;> (try rw [wg2]) <;> (try rw [wg3]) <;> (try rw [wg4]) <;> (try rw [wg5]) <;> (try rw [wg6]) <;> (try rw [wg7]) <;> (try rw [wg8]) <;> (try rw [wg9]) <;> omega), ⟨rfl, by omega⟩, (by (try rw [wg84]) <;> (try rw [w79]) <;> (try rw [wg85]) <;> (try rw [wg86]) <;> (try rw [wg87]) <;> (try rw [w80]) <;> (try rw [w81]) <;> (try rw [w82]) <;> (try rw [w83]) <;> (try rw [wg1]) <;> (try rw [wg2]) <;> (try rw [wg3]) <;> (try rw [wg4]) <;> (try rw [wg5]) <;> (try rw [wg6]) <;> (try rw [wg7]) <;> (try rw [wg8]) <;> (try rw [wg9]) <;> omega), HD1, ZL, (Or.inl (by (try rw [wg84]) <;> (try rw [w79]) <;> (try rw [wg85]) <;> (try rw [wg86]) <;> (try rw [wg87]) <;> (try rw [w80]) <;> (try rw [w81]) <;> (try rw [w82]) <;> (try rw [w83]) <;> (try rw [wg1]) <;> (try rw [wg2]) <;> (try rw [wg3]) <;> (try rw [wg4]) <;> (try rw [wg5]) <;> (try rw [wg6]) <;> (try rw [wg7]) <;> (try rw [wg8]) <;> (try rw [wg9]) <;> omega)), ot88, rfl⟩
          · exact And.intro (zrtb (by omega)) (And.intro ⟨by omega, by omega⟩ (hQ _ _ z78 (by omega) (by omega) (by (try rw [wg84]) <;> (try rw [w79]) <;> (try rw [wg85]) <;> (try rw [wg86]) <;> (try rw [wg87]) <;> (try rw [w80]) <;> (try rw [w81]) <;> (try rw [w82]) <;> (try rw [w83]) <;> (try rw [wg1]) <;> (try rw [wg2]) <;> (try rw [wg3]) <;> (try rw [wg4]) <;> (try rw [wg5]) <;> (try rw [wg6]) <;> (try rw [wg7]) <;> (try rw [wg8]) <;> (try rw [wg9]) <;> omega) (by (try rw [wg84]) <;> (try rw [w79]) <;> (try rw [wg85]) <;> (try rw [wg86]) <;> (try rw [wg87]) <;> (try rw [w80]) <;> (try rw [w81]) <;> (try rw [w82]) <;> (try rw [w83]) <;> (try rw [wg1]) <;> (try rw [wg2]) <;> (try rw [wg3]) <;> (try rw [wg4]) <;> (try rw [wg5]) <;> (try rw [wg6]) <;> (try rw [wg7]) <;> (try rw [wg8]) <;> (try rw [wg9]) <;> omega) (fun h => ⟨by omega, HD1, ZL⟩) ot88))
        · refine ⟨zk_X9_fail, zm_X9_fail hg d (by omega), _, rfl, ⟨by omega, by omega⟩, ?_⟩
          intro x91 m92 qm92 kx91 lx91
          have z93 := zfx_t z0 qm92 rfl rfl
          have w94 : m92.1 66 ((31 : Nat) : Int) = g1 := (qm92.2.1 31 rfl).trans wg1
          have w95 : m92.1 66 ((30 : Nat) : Int) = g2 := (qm92.2.1 30 rfl).trans wg2
          have w96 : m92.1 66 ((33 : Nat) : Int) = g3 := (qm92.2.1 33 rfl).trans wg3
          have w97 : m92.1 66 ((34 : Nat) : Int) = g4 := (qm92.2.1 34 rfl).trans wg4
          have w98 : m92.1 66 ((32 : Nat) : Int) = g5 := (qm92.2.1 32 rfl).trans wg5
          have w99 : m92.1 66 ((26 : Nat) : Int) = g6 := (qm92.2.1 26 rfl).trans wg6
          have w100 : m92.1 66 ((27 : Nat) : Int) = g7 := (qm92.2.1 27 rfl).trans wg7
          have w101 : m92.1 66 ((24 : Nat) : Int) = g8 := (qm92.2.1 24 rfl).trans wg8
          have w102 : m92.1 66 ((25 : Nat) : Int) = g9 := (qm92.2.1 25 rfl).trans wg9
          have ot103 := zOt_fr (zOt_r μ) (qm92.1 76 (by decide) rfl) (qm92.1 77 (by decide) rfl) (qm92.1 78 (by decide) rfl) (qm92.1 79 (by decide) rfl) (qm92.1 80 (by decide) rfl) (qm92.1 83 (by decide) rfl) (qm92.1 84 (by decide) rfl)
          exact And.intro (zrtb (by omega)) (And.intro ⟨by omega, by omega⟩ (hQ _ _ z93 (by omega) (by omega) (by (try rw [w94]) <;> (try rw [w95]) <;> (try rw [w96]) <;> (try rw [w97]) <;> (try rw [w98]) <;> (try rw [w99]) <;> (try rw [w100]) <;> (try rw [w101]) <;> (try rw [w102]) <;> (try rw [wg1]) <;> (try rw [wg2]) <;> (try rw [wg3]) <;> (try rw [wg4]) <;> (try rw [wg5]) <;> (try rw [wg6]) <;> (try rw [wg7]) <;> (try rw [wg8]) <;> (try rw [wg9]) <;> omega) (by (try rw [w94]) <;> (try rw [w95]) <;> (try rw [w96]) <;> (try rw [w97]) <;> (try rw [w98]) <;> (try rw [w99]) <;> (try rw [w100]) <;> (try rw [w101]) <;> (try rw [w102]) <;> (try rw [wg1]) <;> (try rw [wg2]) <;> (try rw [wg3]) <;> (try rw [wg4]) <;> (try rw [wg5]) <;> (try rw [wg6]) <;> (try rw [wg7]) <;> (try rw [wg8]) <;> (try rw [wg9]) <;> omega) (fun h => by exfalso; omega) ot103))
      · refine ⟨zk_X9_fail, zm_X9_fail hg d (by omega), _, rfl, ⟨by omega, by omega⟩, ?_⟩
        intro x104 m105 qm105 kx104 lx104
        have z106 := zfx_t z0 qm105 rfl rfl
        have w107 : m105.1 66 ((31 : Nat) : Int) = g1 := (qm105.2.1 31 rfl).trans wg1
        have w108 : m105.1 66 ((30 : Nat) : Int) = g2 := (qm105.2.1 30 rfl).trans wg2
        have w109 : m105.1 66 ((33 : Nat) : Int) = g3 := (qm105.2.1 33 rfl).trans wg3
        have w110 : m105.1 66 ((34 : Nat) : Int) = g4 := (qm105.2.1 34 rfl).trans wg4
        have w111 : m105.1 66 ((32 : Nat) : Int) = g5 := (qm105.2.1 32 rfl).trans wg5
        have w112 : m105.1 66 ((26 : Nat) : Int) = g6 := (qm105.2.1 26 rfl).trans wg6
        have w113 : m105.1 66 ((27 : Nat) : Int) = g7 := (qm105.2.1 27 rfl).trans wg7
        have w114 : m105.1 66 ((24 : Nat) : Int) = g8 := (qm105.2.1 24 rfl).trans wg8
        have w115 : m105.1 66 ((25 : Nat) : Int) = g9 := (qm105.2.1 25 rfl).trans wg9
        have ot116 := zOt_fr (zOt_r μ) (qm105.1 76 (by decide) rfl) (qm105.1 77 (by decide) rfl) (qm105.1 78 (by decide) rfl) (qm105.1 79 (by decide) rfl) (qm105.1 80 (by decide) rfl) (qm105.1 83 (by decide) rfl) (qm105.1 84 (by decide) rfl)
        exact And.intro (zrtb (by omega)) (And.intro ⟨by omega, by omega⟩ (hQ _ _ z106 (by omega) (by omega) (by (try rw [w107]) <;> (try rw [w108]) <;> (try rw [w109]) <;> (try rw [w110]) <;> (try rw [w111]) <;> (try rw [w112]) <;> (try rw [w113]) <;> (try rw [w114]) <;> (try rw [w115]) <;> (try rw [wg1]) <;> (try rw [wg2]) <;> (try rw [wg3]) <;> (try rw [wg4]) <;> (try rw [wg5]) <;> (try rw [wg6]) <;> (try rw [wg7]) <;> (try rw [wg8]) <;> (try rw [wg9]) <;> omega) (by (try rw [w107]) <;> (try rw [w108]) <;> (try rw [w109]) <;> (try rw [w110]) <;> (try rw [w111]) <;> (try rw [w112]) <;> (try rw [w113]) <;> (try rw [w114]) <;> (try rw [w115]) <;> (try rw [wg1]) <;> (try rw [wg2]) <;> (try rw [wg3]) <;> (try rw [wg4]) <;> (try rw [wg5]) <;> (try rw [wg6]) <;> (try rw [wg7]) <;> (try rw [wg8]) <;> (try rw [wg9]) <;> omega) (fun h => by exfalso; omega) ot116))
    · refine ⟨zk_X9_fail, zm_X9_fail hg d (by omega), _, rfl, ⟨by omega, by omega⟩, ?_⟩
      intro x117 m118 qm118 kx117 lx117
      have z119 := zfx_t z0 qm118 rfl rfl
      have w120 : m118.1 66 ((31 : Nat) : Int) = g1 := (qm118.2.1 31 rfl).trans wg1
      have w121 : m118.1 66 ((30 : Nat) : Int) = g2 := (qm118.2.1 30 rfl).trans wg2
      have w122 : m118.1 66 ((33 : Nat) : Int) = g3 := (qm118.2.1 33 rfl).trans wg3
      have w123 : m118.1 66 ((34 : Nat) : Int) = g4 := (qm118.2.1 34 rfl).trans wg4
      have w124 : m118.1 66 ((32 : Nat) : Int) = g5 := (qm118.2.1 32 rfl).trans wg5
      have w125 : m118.1 66 ((26 : Nat) : Int) = g6 := (qm118.2.1 26 rfl).trans wg6
      have w126 : m118.1 66 ((27 : Nat) : Int) = g7 := (qm118.2.1 27 rfl).trans wg7
      have w127 : m118.1 66 ((24 : Nat) : Int) = g8 := (qm118.2.1 24 rfl).trans wg8
      have w128 : m118.1 66 ((25 : Nat) : Int) = g9 := (qm118.2.1 25 rfl).trans wg9
      have ot129 := zOt_fr (zOt_r μ) (qm118.1 76 (by decide) rfl) (qm118.1 77 (by decide) rfl) (qm118.1 78 (by decide) rfl) (qm118.1 79 (by decide) rfl) (qm118.1 80 (by decide) rfl) (qm118.1 83 (by decide) rfl) (qm118.1 84 (by decide) rfl)
      exact And.intro (zrtb (by omega)) (And.intro ⟨by omega, by omega⟩ (hQ _ _ z119 (by omega) (by omega) (by (try rw [w120]) <;> (try rw [w121]) <;> (try rw [w122]) <;> (try rw [w123]) <;> (try rw [w124]) <;> (try rw [w125]) <;> (try rw [w126]) <;> (try rw [w127]) <;> (try rw [w128]) <;> (try rw [wg1]) <;> (try rw [wg2]) <;> (try rw [wg3]) <;> (try rw [wg4]) <;> (try rw [wg5]) <;> (try rw [wg6]) <;> (try rw [wg7]) <;> (try rw [wg8]) <;> (try rw [wg9]) <;> omega) (by (try rw [w120]) <;> (try rw [w121]) <;> (try rw [w122]) <;> (try rw [w123]) <;> (try rw [w124]) <;> (try rw [w125]) <;> (try rw [w126]) <;> (try rw [w127]) <;> (try rw [w128]) <;> (try rw [wg1]) <;> (try rw [wg2]) <;> (try rw [wg3]) <;> (try rw [wg4]) <;> (try rw [wg5]) <;> (try rw [wg6]) <;> (try rw [wg7]) <;> (try rw [wg8]) <;> (try rw [wg9]) <;> omega) (fun h => by exfalso; omega) ot129))
  · intro vs m0 n hI
    clear z0
    obtain ⟨v1, rfl, z0, hv1, i0, i1, i2, i3, i4, i5, i6, i7, rfl⟩ := hI
    obtain ⟨j1, i2b⟩ := i2
    subst j1
    have HH := i4.1
    have i2 := i2b
    obtain ⟨g130, wg130⟩ : ∃ z : Int, m0.1 66 ((31 : Nat) : Int) = z := ⟨_, rfl⟩
    obtain ⟨g131, wg131⟩ : ∃ z : Int, m0.1 66 ((30 : Nat) : Int) = z := ⟨_, rfl⟩
    obtain ⟨g132, wg132⟩ : ∃ z : Int, m0.1 66 ((33 : Nat) : Int) = z := ⟨_, rfl⟩
    obtain ⟨g133, wg133⟩ : ∃ z : Int, m0.1 66 ((34 : Nat) : Int) = z := ⟨_, rfl⟩
    obtain ⟨g134, wg134⟩ : ∃ z : Int, m0.1 66 ((32 : Nat) : Int) = z := ⟨_, rfl⟩
    obtain ⟨g135, wg135⟩ : ∃ z : Int, m0.1 66 ((26 : Nat) : Int) = z := ⟨_, rfl⟩
    obtain ⟨g136, wg136⟩ : ∃ z : Int, m0.1 66 ((27 : Nat) : Int) = z := ⟨_, rfl⟩
    obtain ⟨g137, wg137⟩ : ∃ z : Int, m0.1 66 ((24 : Nat) : Int) = z := ⟨_, rfl⟩
    obtain ⟨g138, wg138⟩ : ∃ z : Int, m0.1 66 ((25 : Nat) : Int) = z := ⟨_, rfl⟩
    try rw [wg130] at i0
    try rw [wg131] at i0
    try rw [wg132] at i0
    try rw [wg133] at i0
    try rw [wg134] at i0
    try rw [wg135] at i0
    try rw [wg136] at i0
    try rw [wg137] at i0
    try rw [wg138] at i0
    try rw [wg1] at i0
    try rw [wg2] at i0
    try rw [wg3] at i0
    try rw [wg4] at i0
    try rw [wg5] at i0
    try rw [wg6] at i0
    try rw [wg7] at i0
    try rw [wg8] at i0
    try rw [wg9] at i0
    try rw [wg130] at i1
    try rw [wg131] at i1
    try rw [wg132] at i1
    try rw [wg133] at i1
    try rw [wg134] at i1
    try rw [wg135] at i1
    try rw [wg136] at i1
    try rw [wg137] at i1
    try rw [wg138] at i1
    try rw [wg1] at i1
    try rw [wg2] at i1
    try rw [wg3] at i1
    try rw [wg4] at i1
    try rw [wg5] at i1
    try rw [wg6] at i1
    try rw [wg7] at i1
    try rw [wg8] at i1
    try rw [wg9] at i1
    try rw [wg130] at i2
    try rw [wg131] at i2
    try rw [wg132] at i2
    try rw [wg133] at i2
    try rw [wg134] at i2
    try rw [wg135] at i2
    try rw [wg136] at i2
    try rw [wg137] at i2
    try rw [wg138] at i2
    try rw [wg1] at i2
    try rw [wg2] at i2
    try rw [wg3] at i2
    try rw [wg4] at i2
    try rw [wg5] at i2
    try rw [wg6] at i2
    try rw [wg7] at i2
    try rw [wg8] at i2
    try rw [wg9] at i2
    try rw [wg130] at i3
    try rw [wg131] at i3
    try rw [wg132] at i3
    try rw [wg133] at i3
    try rw [wg134] at i3
    try rw [wg135] at i3
    try rw [wg136] at i3
    try rw [wg137] at i3
    try rw [wg138] at i3
    try rw [wg1] at i3
    try rw [wg2] at i3
    try rw [wg3] at i3
    try rw [wg4] at i3
    try rw [wg5] at i3
    try rw [wg6] at i3
    try rw [wg7] at i3
    try rw [wg8] at i3
    try rw [wg9] at i3
    try rw [wg130] at i4
    try rw [wg131] at i4
    try rw [wg132] at i4
    try rw [wg133] at i4
    try rw [wg134] at i4
    try rw [wg135] at i4
    try rw [wg136] at i4
    try rw [wg137] at i4
    try rw [wg138] at i4
    try rw [wg1] at i4
    try rw [wg2] at i4
    try rw [wg3] at i4
    try rw [wg4] at i4
    try rw [wg5] at i4
    try rw [wg6] at i4
    try rw [wg7] at i4
    try rw [wg8] at i4
    try rw [wg9] at i4
    try rw [wg130] at i5
    try rw [wg131] at i5
    try rw [wg132] at i5
    try rw [wg133] at i5
    try rw [wg134] at i5
    try rw [wg135] at i5
    try rw [wg136] at i5
    try rw [wg137] at i5
    try rw [wg138] at i5
    try rw [wg1] at i5
    try rw [wg2] at i5
    try rw [wg3] at i5
    try rw [wg4] at i5
    try rw [wg5] at i5
    try rw [wg6] at i5
    try rw [wg7] at i5
    try rw [wg8] at i5
    try rw [wg9] at i5
    try rw [wg130] at i6
    try rw [wg131] at i6
    try rw [wg132] at i6
    try rw [wg133] at i6
    try rw [wg134] at i6
    try rw [wg135] at i6
    try rw [wg136] at i6
    try rw [wg137] at i6
    try rw [wg138] at i6
    try rw [wg1] at i6
    try rw [wg2] at i6
    try rw [wg3] at i6
    try rw [wg4] at i6
    try rw [wg5] at i6
    try rw [wg6] at i6
    try rw [wg7] at i6
    try rw [wg8] at i6
    try rw [wg9] at i6
    try rw [wg130] at i7
    try rw [wg131] at i7
    try rw [wg132] at i7
    try rw [wg133] at i7
    try rw [wg134] at i7
    try rw [wg135] at i7
    try rw [wg136] at i7
    try rw [wg137] at i7
    try rw [wg138] at i7
    try rw [wg1] at i7
    try rw [wg2] at i7
    try rw [wg3] at i7
    try rw [wg4] at i7
    try rw [wg5] at i7
    try rw [wg6] at i7
    try rw [wg7] at i7
    try rw [wg8] at i7
    try rw [wg9] at i7
    refine ⟨zk_X9_pass, zm_X9_pass hg d (by omega), rfl, (by (try rw [wg130]) <;> (try rw [wg131]) <;> (try rw [wg132]) <;> (try rw [wg133]) <;> (try rw [wg134]) <;> (try rw [wg135]) <;> (try rw [wg136]) <;> (try rw [wg137]) <;> (try rw [wg138]) <;> (try rw [wg1]) <;> (try rw [wg2]) <;> (try rw [wg3]) <;> (try rw [wg4]) <;> (try rw [wg5]) <;> (try rw [wg6]) <;> (try rw [wg7]) <;> (try rw [wg8]) <;> (try rw [wg9]) <;> omega), ?_⟩
    intro m139 qm139 p140 p141 p142 p143
    have z144 := zfx_t z0 qm139 rfl rfl
    have w145 : m139.1 66 ((30 : Nat) : Int) = g131 := (qm139.2.1 30 rfl).trans wg131
    have w146 : m139.1 66 ((26 : Nat) : Int) = g135 := (qm139.2.1 26 rfl).trans wg135
    have w147 : m139.1 66 ((27 : Nat) : Int) = g136 := (qm139.2.1 27 rfl).trans wg136
    have w148 : m139.1 66 ((24 : Nat) : Int) = g137 := (qm139.2.1 24 rfl).trans wg137
    have w149 : m139.1 66 ((25 : Nat) : Int) = g138 := (qm139.2.1 25 rfl).trans wg138
    obtain ⟨g150, wg150⟩ : ∃ z : Int, m139.1 66 ((31 : Nat) : Int) = z := ⟨_, rfl⟩
    obtain ⟨g151, wg151⟩ : ∃ z : Int, m139.1 66 ((33 : Nat) : Int) = z := ⟨_, rfl⟩
    obtain ⟨g152, wg152⟩ : ∃ z : Int, m139.1 66 ((34 : Nat) : Int) = z := ⟨_, rfl⟩
    obtain ⟨g153, wg153⟩ : ∃ z : Int, m139.1 66 ((32 : Nat) : Int) = z := ⟨_, rfl⟩
    try rw [wg150] at p140
    try rw [w145] at p140
    try rw [wg151] at p140
    try rw [wg152] at p140
    try rw [wg153] at p140
    try rw [w146] at p140
    try rw [w147] at p140
    try rw [w148] at p140
    try rw [w149] at p140
    try rw [wg130] at p140
    try rw [wg131] at p140
    try rw [wg132] at p140
    try rw [wg133] at p140
    try rw [wg134] at p140
    try rw [wg135] at p140
    try rw [wg136] at p140
    try rw [wg137] at p140
    try rw [wg138] at p140
    try rw [wg1] at p140
    try rw [wg2] at p140
    try rw [wg3] at p140
    try rw [wg4] at p140
    try rw [wg5] at p140
    try rw [wg6] at p140
    try rw [wg7] at p140
    try rw [wg8] at p140
    try rw [wg9] at p140
    try rw [wg150] at p141
    try rw [w145] at p141
    try rw [wg151] at p141
    try rw [wg152] at p141
    try rw [wg153] at p141
    try rw [w146] at p141
    try rw [w147] at p141
    try rw [w148] at p141
    try rw [w149] at p141
    try rw [wg130] at p141
    try rw [wg131] at p141
    try rw [wg132] at p141
    try rw [wg133] at p141
    try rw [wg134] at p141
    try rw [wg135] at p141
    try rw [wg136] at p141
    try rw [wg137] at p141
    try rw [wg138] at p141
    try rw [wg1] at p141
    try rw [wg2] at p141
    try rw [wg3] at p141
    try rw [wg4] at p141
    try rw [wg5] at p141
    try rw [wg6] at p141
    try rw [wg7] at p141
    try rw [wg8] at p141
    try rw [wg9] at p141
    try rw [wg150] at p142
    try rw [w145] at p142
    try rw [wg151] at p142
    try rw [wg152] at p142
    try rw [wg153] at p142
    try rw [w146] at p142
    try rw [w147] at p142
    try rw [w148] at p142
    try rw [w149] at p142
    try rw [wg130] at p142
    try rw [wg131] at p142
    try rw [wg132] at p142
    try rw [wg133] at p142
    try rw [wg134] at p142
    try rw [wg135] at p142
    try rw [wg136] at p142
    try rw [wg137] at p142
    try rw [wg138] at p142
    try rw [wg1] at p142
    try rw [wg2] at p142
    try rw [wg3] at p142
    try rw [wg4] at p142
    try rw [wg5] at p142
    try rw [wg6] at p142
    try rw [wg7] at p142
    try rw [wg8] at p142
    try rw [wg9] at p142
    try rw [wg150] at p143
    try rw [w145] at p143
    try rw [wg151] at p143
    try rw [wg152] at p143
    try rw [wg153] at p143
    try rw [w146] at p143
    try rw [w147] at p143
    try rw [w148] at p143
    try rw [w149] at p143
    try rw [wg130] at p143
    try rw [wg131] at p143
    try rw [wg132] at p143
    try rw [wg133] at p143
    try rw [wg134] at p143
    try rw [wg135] at p143
    try rw [wg136] at p143
    try rw [wg137] at p143
    try rw [wg138] at p143
    try rw [wg1] at p143
    try rw [wg2] at p143
    try rw [wg3] at p143
    try rw [wg4] at p143
    try rw [wg5] at p143
    try rw [wg6] at p143
    try rw [wg7] at p143
    try rw [wg8] at p143
    try rw [wg9] at p143
    have ot154 := zOt_fr i7 (qm139.1 76 (by decide) rfl) (qm139.1 77 (by decide) rfl) (qm139.1 78 (by decide) rfl) (qm139.1 79 (by decide) rfl) (qm139.1 80 (by decide) rfl) (qm139.1 83 (by decide) rfl) (qm139.1 84 (by decide) rfl)
    have HD0 := zHd_fr i4 (qm139.1 76 (by decide) rfl) (qm139.1 77 (by decide) rfl) (qm139.1 79 (by decide) rfl) (qm139.1 84 (by decide) rfl) (qm139.2.1 26 rfl) (qm139.2.1 27 rfl)
    intro x155 hx155 kx155 lx155
    rw [wg153] at hx155
    refine And.intro ⟨⟨by omega, by omega⟩, ⟨by omega, by omega⟩⟩ (And.intro (fun c156 => ?_) (fun c156 => ?_))
    · refine ⟨zk_X9_name, zm_X9_name hg d (by omega), rfl, (by (try rw [wg150]) <;> (try rw [w145]) <;> (try rw [wg151]) <;> (try rw [wg152]) <;> (try rw [wg153]) <;> (try rw [w146]) <;> (try rw [w147]) <;> (try rw [w148]) <;> (try rw [w149]) <;> (try rw [wg130]) <;> (try rw [wg131]) <;> (try rw [wg132]) <;> (try rw [wg133]) <;> (try rw [wg134]) <;> (try rw [wg135]) <;> (try rw [wg136]) <;> (try rw [wg137]) <;> (try rw [wg138]) <;> (try rw [wg1]) <;> (try rw [wg2]) <;> (try rw [wg3]) <;> (try rw [wg4]) <;> (try rw [wg5]) <;> (try rw [wg6]) <;> (try rw [wg7]) <;> (try rw [wg8]) <;> (try rw [wg9]) <;> omega), ?_⟩
      intro j157
      refine ⟨zk_X9_findParam, zm_X9_findParam hg d (by omega), _, _, rfl, ⟨by omega, by omega⟩, ?_⟩
      intro x158 kx158 lx158 p159
      try rw [wg150] at p159
      try rw [w145] at p159
      try rw [wg151] at p159
      try rw [wg152] at p159
      try rw [wg153] at p159
      try rw [w146] at p159
      try rw [w147] at p159
      try rw [w148] at p159
      try rw [w149] at p159
      try rw [wg1] at p159
      try rw [wg2] at p159
      try rw [wg3] at p159
      try rw [wg4] at p159
      try rw [wg5] at p159
      try rw [wg6] at p159
      try rw [wg7] at p159
      try rw [wg8] at p159
      try rw [wg9] at p159
      refine And.intro ⟨by omega, by omega⟩ (And.intro (fun c160 => ?_) (fun c160 => ?_))
      · intro x161 hx161 kx161 lx161
        rw [w148] at hx161
        refine And.intro ⟨by omega, by omega⟩ ?_
        intro x162 hx162 kx162 lx162
        have X7 : x162 = m139.1 77 (21 + v1) := by rw [hx162, show (x161 + v1) = 21 + v1 by omega]
        have H7 := HD0.1
        refine And.intro ⟨⟨by omega, by omega⟩, ⟨by omega, by omega⟩⟩ (And.intro (fun c163 => ?_) (fun c163 => ?_))
        · have FB : g136 ≤ 79 ∧ g136 = m139.1 66 ((27 : Nat) : Int) := by omega
          intro x164 hx164 kx164 lx164
          rw [w149] at hx164
          intro x165 hx165 kx165 lx165
          rw [w147] at hx165
          refine ⟨zk_X9_name, zm_X9_name hg d (by omega), rfl, (by (try rw [wg150]) <;> (try rw [w145]) <;> (try rw [wg151]) <;> (try rw [wg152]) <;> (try rw [wg153]) <;> (try rw [w146]) <;> (try rw [w147]) <;> (try rw [w148]) <;> (try rw [w149]) <;> (try rw [wg130]) <;> (try rw [wg131]) <;> (try rw [wg132]) <;> (try rw [wg133]) <;> (try rw [wg134]) <;> (try rw [wg135]) <;> (try rw [wg136]) <;> (try rw [wg137]) <;> (try rw [wg138]) <;> (try rw [wg1]) <;> (try rw [wg2]) <;> (try rw [wg3]) <;> (try rw [wg4]) <;> (try rw [wg5]) <;> (try rw [wg6]) <;> (try rw [wg7]) <;> (try rw [wg8]) <;> (try rw [wg9]) <;> omega), ?_⟩
          intro j166
          refine And.intro ⟨by omega, by omega⟩ ?_
          intro x167 hx167 kx167 lx167
          rw [w149] at hx167
          intro x168 hx168 kx168 lx168
          rw [w147] at hx168
          refine And.intro ⟨by omega, by omega⟩ (And.intro ⟨by omega, by omega⟩ ?_)
          intro m169 em169
          have z170 := zfx_r z144 em169 rfl (by decide)
          have w171 : m169.1 66 ((31 : Nat) : Int) = g150 := by rw [em169]; exact (congrFun (zu_ne (by decide)) _).trans wg150
          have w172 : m169.1 66 ((30 : Nat) : Int) = g131 := by rw [em169]; exact (congrFun (zu_ne (by decide)) _).trans w145
          have w173 : m169.1 66 ((33 : Nat) : Int) = g151 := by rw [em169]; exact (congrFun (zu_ne (by decide)) _).trans wg151
          have w174 : m169.1 66 ((34 : Nat) : Int) = g152 := by rw [em169]; exact (congrFun (zu_ne (by decide)) _).trans wg152
          have w175 : m169.1 66 ((32 : Nat) : Int) = g153 := by rw [em169]; exact (congrFun (zu_ne (by decide)) _).trans wg153
          have w176 : m169.1 66 ((26 : Nat) : Int) = g135 := by rw [em169]; exact (congrFun (zu_ne (by decide)) _).trans w146
          have w177 : m169.1 66 ((27 : Nat) : Int) = g136 := by rw [em169]; exact (congrFun (zu_ne (by decide)) _).trans w147
          have w178 : m169.1 66 ((24 : Nat) : Int) = g137 := by rw [em169]; exact (congrFun (zu_ne (by decide)) _).trans w148
          have w179 : m169.1 66 ((25 : Nat) : Int) = g138 := by rw [em169]; exact (congrFun (zu_ne (by decide)) _).trans w149
          clear wg150 w145 wg151 wg152 wg153 w146 w147 w148 w149
          have ot180 := zOt_w ot154 em169 ⟨fun h => absurd h (by decide), fun h => absurd h (by decide), fun h => absurd h (by decide), fun h => absurd h (by decide), fun h => absurd h (by decide)⟩
          intro x181 hx181 kx181 lx181
          rw [w179] at hx181
          intro x182 hx182 kx182 lx182
          rw [w177] at hx182
          refine And.intro ⟨by omega, by omega⟩ (And.intro ⟨by omega, by omega⟩ ?_)
          intro m183 em183
          have z184 := zfx_r z170 em183 rfl (by decide)
          have w185 : m183.1 66 ((31 : Nat) : Int) = g150 := by rw [em183]; exact (congrFun (zu_ne (by decide)) _).trans w171
          have w186 : m183.1 66 ((30 : Nat) : Int) = g131 := by rw [em183]; exact (congrFun (zu_ne (by decide)) _).trans w172
          have w187 : m183.1 66 ((33 : Nat) : Int) = g151 := by rw [em183]; exact (congrFun (zu_ne (by decide)) _).trans w173
          have w188 : m183.1 66 ((34 : Nat) : Int) = g152 := by rw [em183]; exact (congrFun (zu_ne (by decide)) _).trans w174
          have w189 : m183.1 66 ((32 : Nat) : Int) = g153 := by rw [em183]; exact (congrFun (zu_ne (by decide)) _).trans w175
          have w190 : m183.1 66 ((26 : Nat) : Int) = g135 := by rw [em183]; exact (congrFun (zu_ne (by decide)) _).trans w176
          have w191 : m183.1 66 ((27 : Nat) : Int) = g136 := by rw [em183]; exact (congrFun (zu_ne (by decide)) _).trans w177
          have w192 : m183.1 66 ((24 : Nat) : Int) = g137 := by rw [em183]; exact (congrFun (zu_ne (by decide)) _).trans w178
          have w193 : m183.1 66 ((25 : Nat) : Int) = g138 := by rw [em183]; exact (congrFun (zu_ne (by decide)) _).trans w179
          clear w171 w172 w173 w174 w175 w176 w177 w178 w179
          have ot194 := zOt_w ot180 em183 (by have hk : (80 : Int) ≤ (x181 + x182) := (by omega); refine ⟨fun h => ?_, fun h => ?_, fun h => ?_, fun h => ?_, fun h => ?_⟩ <;> first | exact hk | (exfalso; revert h; decide))
          intro x195 hx195 kx195 lx195
          rw [w191] at hx195
          refine And.intro ⟨by omega, by omega⟩ ?_
          intro m196 em196
          have z197 := zfx_f z184 em196 rfl
          have w198 : m196.1 66 ((31 : Nat) : Int) = g150 := by rw [em196]; exact (zu_nk (by decide)).trans w185
          have w199 : m196.1 66 ((30 : Nat) : Int) = g131 := by rw [em196]; exact (zu_nk (by decide)).trans w186
          have w200 : m196.1 66 ((33 : Nat) : Int) = g151 := by rw [em196]; exact (zu_nk (by decide)).trans w187
          have w201 : m196.1 66 ((34 : Nat) : Int) = g152 := by rw [em196]; exact (zu_nk (by decide)).trans w188
          have w202 : m196.1 66 ((32 : Nat) : Int) = g153 := by rw [em196]; exact (zu_nk (by decide)).trans w189
          have w203 : m196.1 66 ((26 : Nat) : Int) = g135 := by rw [em196]; exact (zu_nk (by decide)).trans w190
          have w204 : m196.1 66 ((27 : Nat) : Int) = (x195 + 1) := by rw [em196]; exact zu_at
          have w205 : m196.1 66 ((24 : Nat) : Int) = g137 := by rw [em196]; exact (zu_nk (by decide)).trans w192
          have w206 : m196.1 66 ((25 : Nat) : Int) = g138 := by rw [em196]; exact (zu_nk (by decide)).trans w193
          clear w185 w186 w187 w188 w189 w190 w191 w192 w193
          have ot207 := zOt_w ot194 em196 ⟨fun h => absurd h (by decide), fun h => absurd h (by decide), fun h => absurd h (by decide), fun h => absurd h (by decide), fun h => absurd h (by decide)⟩
          intro x208 hx208 kx208 lx208
          rw [w205] at hx208
          refine And.intro ⟨by omega, by omega⟩ ?_
          intro x209 hx209 kx209 lx209
          have X8 : x209 = m139.1 77 (21 + v1) := by rw [hx209, em196, zu_ne (by decide), em183, zu_ne (by decide), em169, zu_ne (by decide), show (x208 + v1) = 21 + v1 by omega]
          refine And.intro ⟨by omega, by omega⟩ (And.intro ⟨by omega, by omega⟩ ?_)
          intro m210 em210
          have z211 := zfx_r z197 em210 rfl (by decide)
          have w212 : m210.1 66 ((31 : Nat) : Int) = g150 := by rw [em210]; exact (congrFun (zu_ne (by decide)) _).trans w198
          have w213 : m210.1 66 ((30 : Nat) : Int) = g131 := by rw [em210]; exact (congrFun (zu_ne (by decide)) _).trans w199
          have w214 : m210.1 66 ((33 : Nat) : Int) = g151 := by rw [em210]; exact (congrFun (zu_ne (by decide)) _).trans w200
          have w215 : m210.1 66 ((34 : Nat) : Int) = g152 := by rw [em210]; exact (congrFun (zu_ne (by decide)) _).trans w201
          have w216 : m210.1 66 ((32 : Nat) : Int) = g153 := by rw [em210]; exact (congrFun (zu_ne (by decide)) _).trans w202
          have w217 : m210.1 66 ((26 : Nat) : Int) = g135 := by rw [em210]; exact (congrFun (zu_ne (by decide)) _).trans w203
          have w218 : m210.1 66 ((27 : Nat) : Int) = (x195 + 1) := by rw [em210]; exact (congrFun (zu_ne (by decide)) _).trans w204
          have w219 : m210.1 66 ((24 : Nat) : Int) = g137 := by rw [em210]; exact (congrFun (zu_ne (by decide)) _).trans w205
          have w220 : m210.1 66 ((25 : Nat) : Int) = g138 := by rw [em210]; exact (congrFun (zu_ne (by decide)) _).trans w206
          clear w198 w199 w200 w201 w202 w203 w204 w205 w206
          have ot221 := zOt_w ot207 em210 (by have hk : (21 : Int) ≤ (x208 + v1) := (by omega); refine ⟨fun h => ?_, fun h => ?_, fun h => ?_, fun h => ?_, fun h => ?_⟩ <;> first | exact hk | (exfalso; revert h; decide))
          have HD2 := zHd_s HD0 (by omega) em169 em183 em196 em210 (by omega) (by omega) (by omega) (by omega)
          refine ⟨zk_X9_pass, zm_X9_pass hg d (by omega), rfl, (by (try rw [w212]) <;> (try rw [w213]) <;> (try rw [w214]) <;> (try rw [w215]) <;> (try rw [w216]) <;> (try rw [w217]) <;> (try rw [w218]) <;> (try rw [w219]) <;> (try rw [w220]) <;> (try rw [wg130]) <;> (try rw [wg131]) <;> (try rw [wg132]) <;> (try rw [wg133]) <;> (try rw [wg134]) <;> (try rw [wg135]) <;> (try rw [wg136]) <;> (try rw [wg137]) <;> (try rw [wg138]) <;> (try rw [wg1]) <;> (try rw [wg2]) <;> (try rw [wg3]) <;> (try rw [wg4]) <;> (try rw [wg5]) <;> (try rw [wg6]) <;> (try rw [wg7]) <;> (try rw [wg8]) <;> (try rw [wg9]) <;> omega), ?_⟩
          intro m222 qm222 p223 p224 p225 p226
          have z227 := zfx_t z211 qm222 rfl rfl
          have w228 : m222.1 66 ((30 : Nat) : Int) = g131 := (qm222.2.1 30 rfl).trans w213
          have w229 : m222.1 66 ((26 : Nat) : Int) = g135 := (qm222.2.1 26 rfl).trans w217
          have w230 : m222.1 66 ((27 : Nat) : Int) = (x195 + 1) := (qm222.2.1 27 rfl).trans w218
          have w231 : m222.1 66 ((24 : Nat) : Int) = g137 := (qm222.2.1 24 rfl).trans w219
          have w232 : m222.1 66 ((25 : Nat) : Int) = g138 := (qm222.2.1 25 rfl).trans w220
          obtain ⟨g233, wg233⟩ : ∃ z : Int, m222.1 66 ((31 : Nat) : Int) = z := ⟨_, rfl⟩
          obtain ⟨g234, wg234⟩ : ∃ z : Int, m222.1 66 ((33 : Nat) : Int) = z := ⟨_, rfl⟩
          obtain ⟨g235, wg235⟩ : ∃ z : Int, m222.1 66 ((34 : Nat) : Int) = z := ⟨_, rfl⟩
          obtain ⟨g236, wg236⟩ : ∃ z : Int, m222.1 66 ((32 : Nat) : Int) = z := ⟨_, rfl⟩
          try rw [wg233] at p223
          try rw [w228] at p223
          try rw [wg234] at p223
          try rw [wg235] at p223
          try rw [wg236] at p223
          try rw [w229] at p223
          try rw [w230] at p223
          try rw [w231] at p223
          try rw [w232] at p223
          try rw [w212] at p223
          try rw [w213] at p223
          try rw [w214] at p223
          try rw [w215] at p223
          try rw [w216] at p223
          try rw [w217] at p223
          try rw [w218] at p223
          try rw [w219] at p223
          try rw [w220] at p223
          try rw [wg1] at p223
          try rw [wg2] at p223
          try rw [wg3] at p223
          try rw [wg4] at p223
          try rw [wg5] at p223
          try rw [wg6] at p223
          try rw [wg7] at p223
          try rw [wg8] at p223
          try rw [wg9] at p223
          try rw [wg233] at p224
          try rw [w228] at p224
          try rw [wg234] at p224
          try rw [wg235] at p224
          try rw [wg236] at p224
          try rw [w229] at p224
          try rw [w230] at p224
          try rw [w231] at p224
          try rw [w232] at p224
          try rw [w212] at p224
          try rw [w213] at p224
          try rw [w214] at p224
          try rw [w215] at p224
          try rw [w216] at p224
          try rw [w217] at p224
          try rw [w218] at p224
          try rw [w219] at p224
          try rw [w220] at p224
          try rw [wg1] at p224
          try rw [wg2] at p224
          try rw [wg3] at p224
          try rw [wg4] at p224
          try rw [wg5] at p224
          try rw [wg6] at p224
          try rw [wg7] at p224
          try rw [wg8] at p224
          try rw [wg9] at p224
          try rw [wg233] at p225
          try rw [w228] at p225
          try rw [wg234] at p225
          try rw [wg235] at p225
          try rw [wg236] at p225
          try rw [w229] at p225
          try rw [w230] at p225
          try rw [w231] at p225
          try rw [w232] at p225
          try rw [w212] at p225
          try rw [w213] at p225
          try rw [w214] at p225
          try rw [w215] at p225
          try rw [w216] at p225
          try rw [w217] at p225
          try rw [w218] at p225
          try rw [w219] at p225
          try rw [w220] at p225
          try rw [wg1] at p225
          try rw [wg2] at p225
          try rw [wg3] at p225
          try rw [wg4] at p225
          try rw [wg5] at p225
          try rw [wg6] at p225
          try rw [wg7] at p225
          try rw [wg8] at p225
          try rw [wg9] at p225
          try rw [wg233] at p226
          try rw [w228] at p226
          try rw [wg234] at p226
          try rw [wg235] at p226
          try rw [wg236] at p226
          try rw [w229] at p226
          try rw [w230] at p226
          try rw [w231] at p226
          try rw [w232] at p226
          try rw [w212] at p226
          try rw [w213] at p226
          try rw [w214] at p226
          try rw [w215] at p226
          try rw [w216] at p226
          try rw [w217] at p226
          try rw [w218] at p226
          try rw [w219] at p226
          try rw [w220] at p226
          try rw [wg1] at p226
          try rw [wg2] at p226
          try rw [wg3] at p226
          try rw [wg4] at p226
          try rw [wg5] at p226
          try rw [wg6] at p226
          try rw [wg7] at p226
          try rw [wg8] at p226
          try rw [wg9] at p226
          clear w212 w213 w214 w215 w216 w217 w218 w219 w220
          have ot237 := zOt_fr ot221 (qm222.1 76 (by decide) rfl) (qm222.1 77 (by decide) rfl) (qm222.1 78 (by decide) rfl) (qm222.1 79 (by decide) rfl) (qm222.1 80 (by decide) rfl) (qm222.1 83 (by decide) rfl) (qm222.1 84 (by decide) rfl)
          have HD3 := zHd_fr HD2 (qm222.1 76 (by decide) rfl) (qm222.1 77 (by decide) rfl) (qm222.1 79 (by decide) rfl) (qm222.1 84 (by decide) rfl) (qm222.2.1 26 rfl) (qm222.2.1 27 rfl)
          have ZL : zrm m222 < zrm m0 := (by unfold zrm; simp only [wg233, w228, wg234, wg235, wg236, w229, w230, w231, w232, wg130, wg131, wg132, wg133, wg134, wg135, wg136, wg137, wg138, wg1, wg2, wg3, wg4, wg5, wg6, wg7, wg8, wg9]; (repeat' split) <;> omega)
          intro x238 hx238 kx238 lx238
          rw [wg236] at hx238
          refine And.intro ⟨⟨by omega, by omega⟩, ⟨by omega, by omega⟩⟩ (And.intro (fun c239 => ?_) (fun c239 => ?_))
          · refine Exists.intro (Int.toNat (zrm m222)) (And.intro (zrN ZL (zrm_0 (by (try rw [wg233]) <;> (try rw [w228]) <;> (try rw [wg234]) <;> (try rw [wg235]) <;> (try rw [wg236]) <;> (try rw [w229]) <;> (try rw [w230]) <;> (try rw [w231]) <;> (try rw [w232]) <;> (try rw [wg130]) <;> (try rw [wg131]) <;> (try rw [wg132]) <;> (try rw [wg133]) <;> (try rw [wg134]) <;> (try rw [wg135]) <;> (try rw [wg136]) <;> (try rw [wg137]) <;> (try rw [wg138]) <;> (try rw [wg1]) <;> (try rw [wg2]) <;> (try rw [wg3]) <;> (try rw [wg4]) <;> (try rw [wg5]) <;> (try rw [wg6]) <;> (try rw [wg7]) <;> (try rw [wg8]) <;> (try rw [wg9]) <;> omega))) ?_)
            exact ⟨_, rfl, z227, ⟨by omega, by omega⟩, (by (try rw [wg233]) <;> (try rw [w228]) <;> (try rw [wg234]) <;> (try rw [wg235]) <;> (try rw [wg236]) <;> (try rw [w229]) <;> (try rw [w230]) <;> (try rw [w231]) <;> (try rw [w232]) <;> (try rw [wg130]) <;> (try rw [wg131]) <;> (try rw [wg132]) <;> (try rw [wg133]) <;> (try rw [wg134]) <;> (try rw [wg135]) <;> (try rw [wg136]) <;> (try rw [wg137]) <;> (try rw [wg138]) <;> (try rw [wg1]) <;> (try rw [wg2]) <;> (try rw [wg3]) <;> (try rw [wg4]) <;> (try rw [wg5]) <;> (try rw [wg6]) <;> (try rw [wg7]) <;> (try rw [wg8]) <;> (try rw [wg9]) <;> omega), (by (try rw [wg233]) <;> (try rw [w228]) <;> (try rw [wg234]) <;> (try rw [wg235]) <;> (try rw [wg236]) <;> (try rw [w229]) <;> (try rw [w230]) <;> (try rw [w231]) <;> (try rw [w232]) <;> (try rw [wg130]) <;> (try rw [wg131]) <;> (try rw [wg132]) <;> (try rw [wg133]) <;> (try rw [wg134]) <;> (try rw [wg135]) <;> (try rw [wg136]) <;> (try rw [wg137]) <;> (try rw [wg138]) <;> (try rw [wg1]) <;> (try rw [wg2]) <;> (try rw [wg3]) <;> (try rw [wg4]) <;> (try rw [wg5]) <;> (try rw [wg6]) <;> (try rw [wg7]) <;> (try rw [wg8]) <;> (try rw [wg9]) <;> omega), ⟨rfl, i2b⟩, (by (try rw [wg233]) <;> (try rw [w228]) <;> (try rw [wg234]) <;> (try rw [wg235]) <;> (try rw [wg236]) <;> (try rw [w229]) <;> (try rw [w230]) <;> (try rw [w231]) <;> (try rw [w232]) <;> (try rw [wg130]) <;> (try rw [wg131]) <;> (try rw [wg132]) <;> (try rw [wg133]) <;> (try rw [wg134]) <;> (try rw [wg135]) <;> (try rw [wg136]) <;> (try rw [wg137]) <;> (try rw [wg138]) <;> (try rw [wg1]) <;> (try rw [wg2]) <;> (try rw [wg3]) <;> (try rw [wg4]) <;> (try rw [wg5]) <;> (try rw [wg6]) <;> (try rw [wg7]) <;> (try rw [wg8]) <;> (try rw [wg9]) <;> omega), HD3, (Int.lt_trans ZL i5), (Or.inr (by (try rw [wg233]) <;> (try rw [w228]) <;> (try rw [wg234]) <;> (try rw [wg235]) <;> (try rw [wg236]) <;> (try rw [w229]) <;> (try rw [w230]) <;> (try rw [w231]) <;> (try rw [w232]) <;> (try rw [wg130]) <;> (try rw [wg131]) <;> (try rw [wg132]) <;> (try rw [wg133]) <;> (try rw [wg134]) <;> (try rw [wg135]) <;> (try rw [wg136]) <;> (try rw [wg137]) <;> (try rw [wg138]) <;> (try rw [wg1]) <;> (try rw [wg2]) <;> (try rw [wg3]) <;> (try rw [wg4]) <;> (try rw [wg5]) <;> (try rw [wg6]) <;> (try rw [wg7]) <;> (try rw [wg8]) <;> (try rw [wg9]) <;> omega)), ot237, rfl⟩
          · refine ⟨zk_X9_want, zm_X9_want hg d (by omega), _, rfl, ⟨by omega, by omega⟩, (by (try rw [wg233]) <;> (try rw [w228]) <;> (try rw [wg234]) <;> (try rw [wg235]) <;> (try rw [wg236]) <;> (try rw [w229]) <;> (try rw [w230]) <;> (try rw [w231]) <;> (try rw [w232]) <;> (try rw [wg130]) <;> (try rw [wg131]) <;> (try rw [wg132]) <;> (try rw [wg133]) <;> (try rw [wg134]) <;> (try rw [wg135]) <;> (try rw [wg136]) <;> (try rw [wg137]) <;> (try rw [wg138]) <;> (try rw [wg1]) <;> (try rw [wg2]) <;> (try rw [wg3]) <;> (try rw [wg4]) <;> (try rw [wg5]) <;> (try rw [wg6]) <;> (try rw [wg7]) <;> (try rw [wg8]) <;> (try rw [wg9]) <;> omega), ?_⟩
            intro x240 m241 qm241 kx240 lx240 p242 p243 p244 p245
            have z246 := zfx_t z227 qm241 rfl rfl
            have w247 : m241.1 66 ((30 : Nat) : Int) = g131 := (qm241.2.1 30 rfl).trans w228
            have w248 : m241.1 66 ((26 : Nat) : Int) = g135 := (qm241.2.1 26 rfl).trans w229
            have w249 : m241.1 66 ((27 : Nat) : Int) = (x195 + 1) := (qm241.2.1 27 rfl).trans w230
            have w250 : m241.1 66 ((24 : Nat) : Int) = g137 := (qm241.2.1 24 rfl).trans w231
            have w251 : m241.1 66 ((25 : Nat) : Int) = g138 := (qm241.2.1 25 rfl).trans w232
            obtain ⟨g252, wg252⟩ : ∃ z : Int, m241.1 66 ((31 : Nat) : Int) = z := ⟨_, rfl⟩
            obtain ⟨g253, wg253⟩ : ∃ z : Int, m241.1 66 ((33 : Nat) : Int) = z := ⟨_, rfl⟩
            obtain ⟨g254, wg254⟩ : ∃ z : Int, m241.1 66 ((34 : Nat) : Int) = z := ⟨_, rfl⟩
            obtain ⟨g255, wg255⟩ : ∃ z : Int, m241.1 66 ((32 : Nat) : Int) = z := ⟨_, rfl⟩
            try rw [wg252] at p242
            try rw [w247] at p242
            try rw [wg253] at p242
            try rw [wg254] at p242
            try rw [wg255] at p242
            try rw [w248] at p242
            try rw [w249] at p242
            try rw [w250] at p242
            try rw [w251] at p242
            try rw [wg233] at p242
            try rw [w228] at p242
            try rw [wg234] at p242
            try rw [wg235] at p242
            try rw [wg236] at p242
            try rw [w229] at p242
            try rw [w230] at p242
            try rw [w231] at p242
            try rw [w232] at p242
            try rw [wg1] at p242
            try rw [wg2] at p242
            try rw [wg3] at p242
            try rw [wg4] at p242
            try rw [wg5] at p242
            try rw [wg6] at p242
            try rw [wg7] at p242
            try rw [wg8] at p242
            try rw [wg9] at p242
            try rw [wg252] at p243
            try rw [w247] at p243
            try rw [wg253] at p243
            try rw [wg254] at p243
            try rw [wg255] at p243
            try rw [w248] at p243
            try rw [w249] at p243
            try rw [w250] at p243
            try rw [w251] at p243
            try rw [wg233] at p243
            try rw [w228] at p243
            try rw [wg234] at p243
            try rw [wg235] at p243
            try rw [wg236] at p243
            try rw [w229] at p243
            try rw [w230] at p243
            try rw [w231] at p243
            try rw [w232] at p243
            try rw [wg1] at p243
            try rw [wg2] at p243
            try rw [wg3] at p243
            try rw [wg4] at p243
            try rw [wg5] at p243
            try rw [wg6] at p243
            try rw [wg7] at p243
            try rw [wg8] at p243
            try rw [wg9] at p243
            try rw [wg252] at p244
            try rw [w247] at p244
            try rw [wg253] at p244
            try rw [wg254] at p244
            try rw [wg255] at p244
            try rw [w248] at p244
            try rw [w249] at p244
            try rw [w250] at p244
            try rw [w251] at p244
            try rw [wg233] at p244
            try rw [w228] at p244
            try rw [wg234] at p244
            try rw [wg235] at p244
            try rw [wg236] at p244
            try rw [w229] at p244
            try rw [w230] at p244
            try rw [w231] at p244
            try rw [w232] at p244
            try rw [wg1] at p244
            try rw [wg2] at p244
            try rw [wg3] at p244
            try rw [wg4] at p244
            try rw [wg5] at p244
            try rw [wg6] at p244
            try rw [wg7] at p244
            try rw [wg8] at p244
            try rw [wg9] at p244
            try rw [wg252] at p245
            try rw [w247] at p245
            try rw [wg253] at p245
            try rw [wg254] at p245
            try rw [wg255] at p245
            try rw [w248] at p245
            try rw [w249] at p245
            try rw [w250] at p245
            try rw [w251] at p245
            try rw [wg233] at p245
            try rw [w228] at p245
            try rw [wg234] at p245
            try rw [wg235] at p245
            try rw [wg236] at p245
            try rw [w229] at p245
            try rw [w230] at p245
            try rw [w231] at p245
            try rw [w232] at p245
            try rw [wg1] at p245
            try rw [wg2] at p245
            try rw [wg3] at p245
            try rw [wg4] at p245
            try rw [wg5] at p245
            try rw [wg6] at p245
            try rw [wg7] at p245
            try rw [wg8] at p245
            try rw [wg9] at p245
            clear wg233 w228 wg234 wg235 wg236 w229 w230 w231 w232
            have ot256 := zOt_fr ot237 (qm241.1 76 (by decide) rfl) (qm241.1 77 (by decide) rfl) (qm241.1 78 (by decide) rfl) (qm241.1 79 (by decide) rfl) (qm241.1 80 (by decide) rfl) (qm241.1 83 (by decide) rfl) (qm241.1 84 (by decide) rfl)
            have HD4 := zHd_fr HD3 (qm241.1 76 (by decide) rfl) (qm241.1 77 (by decide) rfl) (qm241.1 79 (by decide) rfl) (qm241.1 84 (by decide) rfl) (qm241.2.1 26 rfl) (qm241.2.1 27 rfl)
            have ZW : x240 = 1 → zrm m241 < zrm m0 := fun h => (by unfold zrm; simp only [wg252, w247, wg253, wg254, wg255, w248, w249, w250, w251, wg130, wg131, wg132, wg133, wg134, wg135, wg136, wg137, wg138, wg1, wg2, wg3, wg4, wg5, wg6, wg7, wg8, wg9]; (repeat' split) <;> omega)
            exact And.intro (zrtb (by omega)) (And.intro ⟨by omega, by omega⟩ (hQ _ _ z246 (by omega) (by omega) (by (try rw [wg252]) <;> (try rw [w247]) <;> (try rw [wg253]) <;> (try rw [wg254]) <;> (try rw [wg255]) <;> (try rw [w248]) <;> (try rw [w249]) <;> (try rw [w250]) <;> (try rw [w251]) <;> (try rw [wg130]) <;> (try rw [wg131]) <;> (try rw [wg132]) <;> (try rw [wg133]) <;> (try rw [wg134]) <;> (try rw [wg135]) <;> (try rw [wg136]) <;> (try rw [wg137]) <;> (try rw [wg138]) <;> (try rw [wg1]) <;> (try rw [wg2]) <;> (try rw [wg3]) <;> (try rw [wg4]) <;> (try rw [wg5]) <;> (try rw [wg6]) <;> (try rw [wg7]) <;> (try rw [wg8]) <;> (try rw [wg9]) <;> omega) (by (try rw [wg252]) <;> (try rw [w247]) <;> (try rw [wg253]) <;> (try rw [wg254]) <;> (try rw [wg255]) <;> (try rw [w248]) <;> (try rw [w249]) <;> (try rw [w250]) <;> (try rw [w251]) <;> (try rw [wg130]) <;> (try rw [wg131]) <;> (try rw [wg132]) <;> (try rw [wg133]) <;> (try rw [wg134]) <;> (try rw [wg135]) <;> (try rw [wg136]) <;> (try rw [wg137]) <;> (try rw [wg138]) <;> (try rw [wg1]) <;> (try rw [wg2]) <;> (try rw [wg3]) <;> (try rw [wg4]) <;> (try rw [wg5]) <;> (try rw [wg6]) <;> (try rw [wg7]) <;> (try rw [wg8]) <;> (try rw [wg9]) <;> omega) (fun h => ⟨by omega, HD4, Int.lt_trans (ZW h) i5⟩) ot256))
        · refine ⟨zk_X9_fail, zm_X9_fail hg d (by omega), _, rfl, ⟨by omega, by omega⟩, ?_⟩
          intro x257 m258 qm258 kx257 lx257
          have z259 := zfx_t z144 qm258 rfl rfl
          have w260 : m258.1 66 ((31 : Nat) : Int) = g150 := (qm258.2.1 31 rfl).trans wg150
          have w261 : m258.1 66 ((30 : Nat) : Int) = g131 := (qm258.2.1 30 rfl).trans w145
          have w262 : m258.1 66 ((33 : Nat) : Int) = g151 := (qm258.2.1 33 rfl).trans wg151
          have w263 : m258.1 66 ((34 : Nat) : Int) = g152 := (qm258.2.1 34 rfl).trans wg152
          have w264 : m258.1 66 ((32 : Nat) : Int) = g153 := (qm258.2.1 32 rfl).trans wg153
          have w265 : m258.1 66 ((26 : Nat) : Int) = g135 := (qm258.2.1 26 rfl).trans w146
          have w266 : m258.1 66 ((27 : Nat) : Int) = g136 := (qm258.2.1 27 rfl).trans w147
          have w267 : m258.1 66 ((24 : Nat) : Int) = g137 := (qm258.2.1 24 rfl).trans w148
          have w268 : m258.1 66 ((25 : Nat) : Int) = g138 := (qm258.2.1 25 rfl).trans w149
          clear wg150 w145 wg151 wg152 wg153 w146 w147 w148 w149
          have ot269 := zOt_fr ot154 (qm258.1 76 (by decide) rfl) (qm258.1 77 (by decide) rfl) (qm258.1 78 (by decide) rfl) (qm258.1 79 (by decide) rfl) (qm258.1 80 (by decide) rfl) (qm258.1 83 (by decide) rfl) (qm258.1 84 (by decide) rfl)
          exact And.intro (zrtb (by omega)) (And.intro ⟨by omega, by omega⟩ (hQ _ _ z259 (by omega) (by omega) (by (try rw [w260]) <;> (try rw [w261]) <;> (try rw [w262]) <;> (try rw [w263]) <;> (try rw [w264]) <;> (try rw [w265]) <;> (try rw [w266]) <;> (try rw [w267]) <;> (try rw [w268]) <;> (try rw [wg130]) <;> (try rw [wg131]) <;> (try rw [wg132]) <;> (try rw [wg133]) <;> (try rw [wg134]) <;> (try rw [wg135]) <;> (try rw [wg136]) <;> (try rw [wg137]) <;> (try rw [wg138]) <;> (try rw [wg1]) <;> (try rw [wg2]) <;> (try rw [wg3]) <;> (try rw [wg4]) <;> (try rw [wg5]) <;> (try rw [wg6]) <;> (try rw [wg7]) <;> (try rw [wg8]) <;> (try rw [wg9]) <;> omega) (by (try rw [w260]) <;> (try rw [w261]) <;> (try rw [w262]) <;> (try rw [w263]) <;> (try rw [w264]) <;> (try rw [w265]) <;> (try rw [w266]) <;> (try rw [w267]) <;> (try rw [w268]) <;> (try rw [wg130]) <;> (try rw [wg131]) <;> (try rw [wg132]) <;> (try rw [wg133]) <;> (try rw [wg134]) <;> (try rw [wg135]) <;> (try rw [wg136]) <;> (try rw [wg137]) <;> (try rw [wg138]) <;> (try rw [wg1]) <;> (try rw [wg2]) <;> (try rw [wg3]) <;> (try rw [wg4]) <;> (try rw [wg5]) <;> (try rw [wg6]) <;> (try rw [wg7]) <;> (try rw [wg8]) <;> (try rw [wg9]) <;> omega) (fun h => by exfalso; omega) ot269))
      · refine ⟨zk_X9_fail, zm_X9_fail hg d (by omega), _, rfl, ⟨by omega, by omega⟩, ?_⟩
        intro x270 m271 qm271 kx270 lx270
        have z272 := zfx_t z144 qm271 rfl rfl
        have w273 : m271.1 66 ((31 : Nat) : Int) = g150 := (qm271.2.1 31 rfl).trans wg150
        have w274 : m271.1 66 ((30 : Nat) : Int) = g131 := (qm271.2.1 30 rfl).trans w145
        have w275 : m271.1 66 ((33 : Nat) : Int) = g151 := (qm271.2.1 33 rfl).trans wg151
        have w276 : m271.1 66 ((34 : Nat) : Int) = g152 := (qm271.2.1 34 rfl).trans wg152
        have w277 : m271.1 66 ((32 : Nat) : Int) = g153 := (qm271.2.1 32 rfl).trans wg153
        have w278 : m271.1 66 ((26 : Nat) : Int) = g135 := (qm271.2.1 26 rfl).trans w146
        have w279 : m271.1 66 ((27 : Nat) : Int) = g136 := (qm271.2.1 27 rfl).trans w147
        have w280 : m271.1 66 ((24 : Nat) : Int) = g137 := (qm271.2.1 24 rfl).trans w148
        have w281 : m271.1 66 ((25 : Nat) : Int) = g138 := (qm271.2.1 25 rfl).trans w149
        clear wg150 w145 wg151 wg152 wg153 w146 w147 w148 w149
        have ot282 := zOt_fr ot154 (qm271.1 76 (by decide) rfl) (qm271.1 77 (by decide) rfl) (qm271.1 78 (by decide) rfl) (qm271.1 79 (by decide) rfl) (qm271.1 80 (by decide) rfl) (qm271.1 83 (by decide) rfl) (qm271.1 84 (by decide) rfl)
        exact And.intro (zrtb (by omega)) (And.intro ⟨by omega, by omega⟩ (hQ _ _ z272 (by omega) (by omega) (by (try rw [w273]) <;> (try rw [w274]) <;> (try rw [w275]) <;> (try rw [w276]) <;> (try rw [w277]) <;> (try rw [w278]) <;> (try rw [w279]) <;> (try rw [w280]) <;> (try rw [w281]) <;> (try rw [wg130]) <;> (try rw [wg131]) <;> (try rw [wg132]) <;> (try rw [wg133]) <;> (try rw [wg134]) <;> (try rw [wg135]) <;> (try rw [wg136]) <;> (try rw [wg137]) <;> (try rw [wg138]) <;> (try rw [wg1]) <;> (try rw [wg2]) <;> (try rw [wg3]) <;> (try rw [wg4]) <;> (try rw [wg5]) <;> (try rw [wg6]) <;> (try rw [wg7]) <;> (try rw [wg8]) <;> (try rw [wg9]) <;> omega) (by (try rw [w273]) <;> (try rw [w274]) <;> (try rw [w275]) <;> (try rw [w276]) <;> (try rw [w277]) <;> (try rw [w278]) <;> (try rw [w279]) <;> (try rw [w280]) <;> (try rw [w281]) <;> (try rw [wg130]) <;> (try rw [wg131]) <;> (try rw [wg132]) <;> (try rw [wg133]) <;> (try rw [wg134]) <;> (try rw [wg135]) <;> (try rw [wg136]) <;> (try rw [wg137]) <;> (try rw [wg138]) <;> (try rw [wg1]) <;> (try rw [wg2]) <;> (try rw [wg3]) <;> (try rw [wg4]) <;> (try rw [wg5]) <;> (try rw [wg6]) <;> (try rw [wg7]) <;> (try rw [wg8]) <;> (try rw [wg9]) <;> omega) (fun h => by exfalso; omega) ot282))
    · refine ⟨zk_X9_fail, zm_X9_fail hg d (by omega), _, rfl, ⟨by omega, by omega⟩, ?_⟩
      intro x283 m284 qm284 kx283 lx283
      have z285 := zfx_t z144 qm284 rfl rfl
      have w286 : m284.1 66 ((31 : Nat) : Int) = g150 := (qm284.2.1 31 rfl).trans wg150
      have w287 : m284.1 66 ((30 : Nat) : Int) = g131 := (qm284.2.1 30 rfl).trans w145
      have w288 : m284.1 66 ((33 : Nat) : Int) = g151 := (qm284.2.1 33 rfl).trans wg151
      have w289 : m284.1 66 ((34 : Nat) : Int) = g152 := (qm284.2.1 34 rfl).trans wg152
      have w290 : m284.1 66 ((32 : Nat) : Int) = g153 := (qm284.2.1 32 rfl).trans wg153
      have w291 : m284.1 66 ((26 : Nat) : Int) = g135 := (qm284.2.1 26 rfl).trans w146
      have w292 : m284.1 66 ((27 : Nat) : Int) = g136 := (qm284.2.1 27 rfl).trans w147
      have w293 : m284.1 66 ((24 : Nat) : Int) = g137 := (qm284.2.1 24 rfl).trans w148
      have w294 : m284.1 66 ((25 : Nat) : Int) = g138 := (qm284.2.1 25 rfl).trans w149
      clear wg150 w145 wg151 wg152 wg153 w146 w147 w148 w149
      have ot295 := zOt_fr ot154 (qm284.1 76 (by decide) rfl) (qm284.1 77 (by decide) rfl) (qm284.1 78 (by decide) rfl) (qm284.1 79 (by decide) rfl) (qm284.1 80 (by decide) rfl) (qm284.1 83 (by decide) rfl) (qm284.1 84 (by decide) rfl)
      exact And.intro (zrtb (by omega)) (And.intro ⟨by omega, by omega⟩ (hQ _ _ z285 (by omega) (by omega) (by (try rw [w286]) <;> (try rw [w287]) <;> (try rw [w288]) <;> (try rw [w289]) <;> (try rw [w290]) <;> (try rw [w291]) <;> (try rw [w292]) <;> (try rw [w293]) <;> (try rw [w294]) <;> (try rw [wg130]) <;> (try rw [wg131]) <;> (try rw [wg132]) <;> (try rw [wg133]) <;> (try rw [wg134]) <;> (try rw [wg135]) <;> (try rw [wg136]) <;> (try rw [wg137]) <;> (try rw [wg138]) <;> (try rw [wg1]) <;> (try rw [wg2]) <;> (try rw [wg3]) <;> (try rw [wg4]) <;> (try rw [wg5]) <;> (try rw [wg6]) <;> (try rw [wg7]) <;> (try rw [wg8]) <;> (try rw [wg9]) <;> omega) (by (try rw [w286]) <;> (try rw [w287]) <;> (try rw [w288]) <;> (try rw [w289]) <;> (try rw [w290]) <;> (try rw [w291]) <;> (try rw [w292]) <;> (try rw [w293]) <;> (try rw [w294]) <;> (try rw [wg130]) <;> (try rw [wg131]) <;> (try rw [wg132]) <;> (try rw [wg133]) <;> (try rw [wg134]) <;> (try rw [wg135]) <;> (try rw [wg136]) <;> (try rw [wg137]) <;> (try rw [wg138]) <;> (try rw [wg1]) <;> (try rw [wg2]) <;> (try rw [wg3]) <;> (try rw [wg4]) <;> (try rw [wg5]) <;> (try rw [wg6]) <;> (try rw [wg7]) <;> (try rw [wg8]) <;> (try rw [wg9]) <;> omega) (fun h => by exfalso; omega) ot295))
