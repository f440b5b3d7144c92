/-! ### readHead -/
def zk_X9_readHead : zC := fun As μ Q => ∃ (a1 : Int), As = [.inr (.inr (66, 66)), .inl a1] ∧ (1 ≤ a1 ∧ a1 ≤ 21) ∧ (0 ≤ μ.1 66 ((33 : Nat) : Int) ∧ 0 ≤ μ.1 66 ((34 : Nat) : Int) ∧ μ.1 66 ((33 : Nat) : Int) + μ.1 66 ((34 : Nat) : Int) ≤ μ.1 66 ((31 : Nat) : Int) ∧ μ.1 66 ((31 : Nat) : Int) ≤ μ.1 66 ((30 : Nat) : Int) ∧ μ.1 66 ((30 : Nat) : Int) ≤ 800) ∧ (μ.1 66 ((24 : Nat) : Int) = 21 ∧ μ.1 66 ((25 : Nat) : Int) = 80 ∧ μ.1 66 ((26 : Nat) : Int) = a1) ∧ (0 ≤ μ.1 66 ((27 : Nat) : Int) ∧ μ.1 66 ((27 : Nat) : Int) ≤ 4 * (a1 - 1)) ∧ (∀ (v : Int) (μ' : zM), zfx [76, 77, 79, 82, 84, 3000075, 3000081] [26, 27, 31, 32, 33, 34, 35, 36] μ μ' → 0 ≤ v → v ≤ 1 → (0 ≤ μ'.1 66 ((33 : Nat) : Int) ∧ 0 ≤ μ'.1 66 ((34 : Nat) : Int) ∧ μ'.1 66 ((33 : Nat) : Int) + μ'.1 66 ((34 : Nat) : Int) ≤ μ'.1 66 ((31 : Nat) : Int) ∧ μ'.1 66 ((31 : Nat) : Int) ≤ μ'.1 66 ((30 : Nat) : Int) ∧ μ'.1 66 ((30 : Nat) : Int) ≤ 800) → (μ'.1 66 ((30 : Nat) : Int) = μ.1 66 ((30 : Nat) : Int)) → (v = 1 → a1 ≤ 20 ∧ zHd μ μ' a1 ∧ zrm μ' < zrm μ) → (zOt μ μ') → Q (some (.inl v)) μ')
set_option maxHeartbeats 2000000 in
theorem zm_X9_readHead {g : zΓ} (hg : zg g) (d : Nat) (hd : 5 ≤ d) : zOk g d 143 zk_X9_readHead := by
  obtain ⟨d, rfl⟩ : ∃ d', d = d' + 1 := ⟨d - 1, by omega⟩
  refine zOk_loop hg (show mt_tab[143]? = some mt_X9_readHead from rfl) ([(128, [0, 1])], []) 166 rfl fun As μ Q hC => ?_
  obtain ⟨a1, rfl, ha1, hp0, hp1, hp2, hQ⟩ := hC
  obtain ⟨g1, wg1⟩ : ∃ z : Int, μ.1 66 ((31 : Nat) : Int) = z := ⟨_, rfl⟩
  obtain ⟨g2, wg2⟩ : ∃ z : Int, μ.1 66 ((30 : Nat) : Int) = z := ⟨_, rfl⟩
  obtain ⟨g3, wg3⟩ : ∃ z : Int, μ.1 66 ((33 : Nat) : Int) = z := ⟨_, rfl⟩
  obtain ⟨g4, wg4⟩ : ∃ z : Int, μ.1 66 ((34 : Nat) : Int) = z := ⟨_, rfl⟩
  obtain ⟨g5, wg5⟩ : ∃ z : Int, μ.1 66 ((32 : Nat) : Int) = z := ⟨_, rfl⟩
  obtain ⟨g6, wg6⟩ : ∃ z : Int, μ.1 66 ((26 : Nat) : Int) = z := ⟨_, rfl⟩
  obtain ⟨g7, wg7⟩ : ∃ z : Int, μ.1 66 ((27 : Nat) : Int) = z := ⟨_, rfl⟩
  obtain ⟨g8, wg8⟩ : ∃ z : Int, μ.1 66 ((24 : Nat) : Int) = z := ⟨_, rfl⟩
  obtain ⟨g9, wg9⟩ : ∃ z : Int, μ.1 66 ((25 : Nat) : Int) = z := ⟨_, rfl⟩
  try rw [wg1] at hp0
  try rw [wg2] at hp0
  try rw [wg3] at hp0
  try rw [wg4] at hp0
  try rw [wg5] at hp0
  try rw [wg6] at hp0
  try rw [wg7] at hp0
  try rw [wg8] at hp0
  try rw [wg9] at hp0
  try rw [wg1] at hp1
  try rw [wg2] at hp1
  try rw [wg3] at hp1
  try rw [wg4] at hp1
  try rw [wg5] at hp1
  try rw [wg6] at hp1
  try rw [wg7] at hp1
  try rw [wg8] at hp1
  try rw [wg9] at hp1
  try rw [wg1] at hp2
  try rw [wg2] at hp2
  try rw [wg3] at hp2
  try rw [wg4] at hp2
  try rw [wg5] at hp2
  try rw [wg6] at hp2
  try rw [wg7] at hp2
  try rw [wg8] at hp2
  try rw [wg9] at hp2
  have z0 : zfx [76, 77, 79, 82, 84, 3000075, 3000081] [26, 27, 31, 32, 33, 34, 35, 36] μ μ := zfx_x μ
  refine ⟨rfl, fun pc vs μ' n => ∃ (v1 : Int), vs = [.inr (.inr (66, 66)), .inl v1] ∧ zfx [76, 77, 79, 82, 84, 3000075, 3000081] [26, 27, 31, 32, 33, 34, 35, 36] μ μ' ∧ (1 ≤ v1 ∧ v1 ≤ 20) ∧ (0 ≤ μ'.1 66 ((33 : Nat) : Int) ∧ 0 ≤ μ'.1 66 ((34 : Nat) : Int) ∧ μ'.1 66 ((33 : Nat) : Int) + μ'.1 66 ((34 : Nat) : Int) ≤ μ'.1 66 ((31 : Nat) : Int) ∧ μ'.1 66 ((31 : Nat) : Int) ≤ μ'.1 66 ((30 : Nat) : Int) ∧ μ'.1 66 ((30 : Nat) : Int) ≤ 800) ∧ (μ'.1 66 ((30 : Nat) : Int) = μ.1 66 ((30 : Nat) : Int)) ∧ (v1 = a1 ∧ a1 ≤ 20) ∧ (μ'.1 66 ((24 : Nat) : Int) = 21 ∧ μ'.1 66 ((25 : Nat) : Int) = 80) ∧ (zHd μ μ' a1) ∧ (zrm μ' < zrm μ) ∧ (μ'.1 66 ((32 : Nat) : Int) = 60 ∨ μ'.1 66 ((32 : Nat) : Int) = 44) ∧ (zOt μ μ') ∧ n = (Int.toNat (zrm μ')), ?_, ?_, trivial⟩
  · intro x10 hx10 kx10 lx10
    rw [wg5] at hx10
    refine And.intro ⟨⟨by omega, by omega⟩, ⟨by omega, by omega⟩⟩ (And.intro (fun c11 => ?_) (fun c11 => ?_))
    · refine ⟨zk_X9_name, zm_X9_name hg d (by omega), rfl, (by (try rw [wg1]) <;> (try rw [wg2]) <;> (try rw [wg3]) <;> (try rw [wg4]) <;> (try rw [wg5]) <;> (try rw [wg6]) <;> (try rw [wg7]) <;> (try rw [wg8]) <;> (try rw [wg9]) <;> omega), ?_⟩
      intro j12
      refine ⟨zk_X9_findClass, zm_X9_findClass hg d (by omega), _, rfl, ?_⟩
      intro x13 kx13 lx13 p14
      try rw [wg1] at p14
      try rw [wg2] at p14
      try rw [wg3] at p14
      try rw [wg4] at p14
      try rw [wg5] at p14
      try rw [wg6] at p14
      try rw [wg7] at p14
      try rw [wg8] at p14
      try rw [wg9] at p14
      try rw [wg1] at p14
      try rw [wg2] at p14
      try rw [wg3] at p14
      try rw [wg4] at p14
      try rw [wg5] at p14
      try rw [wg6] at p14
      try rw [wg7] at p14
      try rw [wg8] at p14
      try rw [wg9] at p14
      refine And.intro ⟨by omega, by omega⟩ (And.intro (fun c15 => ?_) (fun c15 => ?_))
      · intro x16 hx16 kx16 lx16
        rw [wg6] at hx16
        refine And.intro ⟨⟨by omega, by omega⟩, ⟨by omega, by omega⟩⟩ (And.intro (fun c17 => ?_) (fun c17 => ?_))
        · intro x18 hx18 kx18 lx18
          rw [wg8] at hx18
          refine ⟨zk_X9_name, zm_X9_name hg d (by omega), rfl, (by (try rw [wg1]) <;> (try rw [wg2]) <;> (try rw [wg3]) <;> (try rw [wg4]) <;> (try rw [wg5]) <;> (try rw [wg6]) <;> (try rw [wg7]) <;> (try rw [wg8]) <;> (try rw [wg9]) <;> omega), ?_⟩
          intro j19
          refine And.intro ⟨by omega, by omega⟩ ?_
          intro m20 em20
          have z21 := zfx_r z0 em20 rfl (by decide)
          have w22 : m20.1 66 ((31 : Nat) : Int) = g1 := by rw [em20]; exact (congrFun (zu_ne (by decide)) _).trans wg1
          have w23 : m20.1 66 ((30 : Nat) : Int) = g2 := by rw [em20]; exact (congrFun (zu_ne (by decide)) _).trans wg2
          have w24 : m20.1 66 ((33 : Nat) : Int) = g3 := by rw [em20]; exact (congrFun (zu_ne (by decide)) _).trans wg3
          have w25 : m20.1 66 ((34 : Nat) : Int) = g4 := by rw [em20]; exact (congrFun (zu_ne (by decide)) _).trans wg4
          have w26 : m20.1 66 ((32 : Nat) : Int) = g5 := by rw [em20]; exact (congrFun (zu_ne (by decide)) _).trans wg5
          have w27 : m20.1 66 ((26 : Nat) : Int) = g6 := by rw [em20]; exact (congrFun (zu_ne (by decide)) _).trans wg6
          have w28 : m20.1 66 ((27 : Nat) : Int) = g7 := by rw [em20]; exact (congrFun (zu_ne (by decide)) _).trans wg7
          have w29 : m20.1 66 ((24 : Nat) : Int) = g8 := by rw [em20]; exact (congrFun (zu_ne (by decide)) _).trans wg8
          have w30 : m20.1 66 ((25 : Nat) : Int) = g9 := by rw [em20]; exact (congrFun (zu_ne (by decide)) _).trans wg9
          have ot31 := zOt_w (zOt_r μ) em20 ⟨fun h => absurd h (by decide), fun h => absurd h (by decide), fun h => absurd h (by decide), fun h => absurd h (by decide), fun h => absurd h (by decide)⟩
          intro x32 hx32 kx32 lx32
          rw [w29] at hx32
          intro x33 hx33 kx33 lx33
          rw [w28] at hx33
          refine And.intro ⟨by omega, by omega⟩ (And.intro ⟨by omega, by omega⟩ ?_)
          intro m34 em34
          have z35 := zfx_r z21 em34 rfl (by decide)
          have w36 : m34.1 66 ((31 : Nat) : Int) = g1 := by rw [em34]; exact (congrFun (zu_ne (by decide)) _).trans w22
          have w37 : m34.1 66 ((30 : Nat) : Int) = g2 := by rw [em34]; exact (congrFun (zu_ne (by decide)) _).trans w23
          have w38 : m34.1 66 ((33 : Nat) : Int) = g3 := by rw [em34]; exact (congrFun (zu_ne (by decide)) _).trans w24
          have w39 : m34.1 66 ((34 : Nat) : Int) = g4 := by rw [em34]; exact (congrFun (zu_ne (by decide)) _).trans w25
          have w40 : m34.1 66 ((32 : Nat) : Int) = g5 := by rw [em34]; exact (congrFun (zu_ne (by decide)) _).trans w26
          have w41 : m34.1 66 ((26 : Nat) : Int) = g6 := by rw [em34]; exact (congrFun (zu_ne (by decide)) _).trans w27
          have w42 : m34.1 66 ((27 : Nat) : Int) = g7 := by rw [em34]; exact (congrFun (zu_ne (by decide)) _).trans w28
          have w43 : m34.1 66 ((24 : Nat) : Int) = g8 := by rw [em34]; exact (congrFun (zu_ne (by decide)) _).trans w29
          have w44 : m34.1 66 ((25 : Nat) : Int) = g9 := by rw [em34]; exact (congrFun (zu_ne (by decide)) _).trans w30
          clear w22 w23 w24 w25 w26 w27 w28 w29 w30
          have ot45 := zOt_w ot31 em34 (by have hk : (21 : Int) ≤ (x32 + a1) := (by omega); refine ⟨fun h => ?_, fun h => ?_, fun h => ?_, fun h => ?_, fun h => ?_⟩ <;> first | exact hk | (exfalso; revert h; decide))
          intro x46 hx46 kx46 lx46
          rw [w43] at hx46
          refine And.intro ⟨by omega, by omega⟩ (And.intro ⟨by omega, by omega⟩ ?_)
          intro m47 em47
          have z48 := zfx_r z35 em47 rfl (by decide)
          have w49 : m47.1 66 ((31 : Nat) : Int) = g1 := by rw [em47]; exact (congrFun (zu_ne (by decide)) _).trans w36
          have w50 : m47.1 66 ((30 : Nat) : Int) = g2 := by rw [em47]; exact (congrFun (zu_ne (by decide)) _).trans w37
          have w51 : m47.1 66 ((33 : Nat) : Int) = g3 := by rw [em47]; exact (congrFun (zu_ne (by decide)) _).trans w38
          have w52 : m47.1 66 ((34 : Nat) : Int) = g4 := by rw [em47]; exact (congrFun (zu_ne (by decide)) _).trans w39
          have w53 : m47.1 66 ((32 : Nat) : Int) = g5 := by rw [em47]; exact (congrFun (zu_ne (by decide)) _).trans w40
          have w54 : m47.1 66 ((26 : Nat) : Int) = g6 := by rw [em47]; exact (congrFun (zu_ne (by decide)) _).trans w41
          have w55 : m47.1 66 ((27 : Nat) : Int) = g7 := by rw [em47]; exact (congrFun (zu_ne (by decide)) _).trans w42
          have w56 : m47.1 66 ((24 : Nat) : Int) = g8 := by rw [em47]; exact (congrFun (zu_ne (by decide)) _).trans w43
          have w57 : m47.1 66 ((25 : Nat) : Int) = g9 := by rw [em47]; exact (congrFun (zu_ne (by decide)) _).trans w44
          clear w36 w37 w38 w39 w40 w41 w42 w43 w44
          have ot58 := zOt_w ot45 em47 (by have hk : (21 : Int) ≤ (x46 + a1) := (by omega); refine ⟨fun h => ?_, fun h => ?_, fun h => ?_, fun h => ?_, fun h => ?_⟩ <;> first | exact hk | (exfalso; revert h; decide))
          intro x59 hx59 kx59 lx59
          rw [w56] at hx59
          refine And.intro ⟨by omega, by omega⟩ (And.intro ⟨by omega, by omega⟩ ?_)
          intro m60 em60
          have z61 := zfx_r z48 em60 rfl (by decide)
          have w62 : m60.1 66 ((31 : Nat) : Int) = g1 := by rw [em60]; exact (congrFun (zu_ne (by decide)) _).trans w49
          have w63 : m60.1 66 ((30 : Nat) : Int) = g2 := by rw [em60]; exact (congrFun (zu_ne (by decide)) _).trans w50
          have w64 : m60.1 66 ((33 : Nat) : Int) = g3 := by rw [em60]; exact (congrFun (zu_ne (by decide)) _).trans w51
          have w65 : m60.1 66 ((34 : Nat) : Int) = g4 := by rw [em60]; exact (congrFun (zu_ne (by decide)) _).trans w52
          have w66 : m60.1 66 ((32 : Nat) : Int) = g5 := by rw [em60]; exact (congrFun (zu_ne (by decide)) _).trans w53
          have w67 : m60.1 66 ((26 : Nat) : Int) = g6 := by rw [em60]; exact (congrFun (zu_ne (by decide)) _).trans w54
          have w68 : m60.1 66 ((27 : Nat) : Int) = g7 := by rw [em60]; exact (congrFun (zu_ne (by decide)) _).trans w55
          have w69 : m60.1 66 ((24 : Nat) : Int) = g8 := by rw [em60]; exact (congrFun (zu_ne (by decide)) _).trans w56
          have w70 : m60.1 66 ((25 : Nat) : Int) = g9 := by rw [em60]; exact (congrFun (zu_ne (by decide)) _).trans w57
          clear w49 w50 w51 w52 w53 w54 w55 w56 w57
          have ot71 := zOt_w ot58 em60 (by have hk : (21 : Int) ≤ (x59 + a1) := (by omega); refine ⟨fun h => ?_, fun h => ?_, fun h => ?_, fun h => ?_, fun h => ?_⟩ <;> first | exact hk | (exfalso; revert h; decide))
          intro x72 hx72 kx72 lx72
          rw [w67] at hx72
          refine And.intro ⟨by omega, by omega⟩ ?_
          intro m73 em73
          have z74 := zfx_f z61 em73 rfl
          have w75 : m73.1 66 ((31 : Nat) : Int) = g1 := by rw [em73]; exact (zu_nk (by decide)).trans w62
          have w76 : m73.1 66 ((30 : Nat) : Int) = g2 := by rw [em73]; exact (zu_nk (by decide)).trans w63
          have w77 : m73.1 66 ((33 : Nat) : Int) = g3 := by rw [em73]; exact (zu_nk (by decide)).trans w64
          have w78 : m73.1 66 ((34 : Nat) : Int) = g4 := by rw [em73]; exact (zu_nk (by decide)).trans w65
          have w79 : m73.1 66 ((32 : Nat) : Int) = g5 := by rw [em73]; exact (zu_nk (by decide)).trans w66
          have w80 : m73.1 66 ((26 : Nat) : Int) = (x72 + 1) := by rw [em73]; exact zu_at
          have w81 : m73.1 66 ((27 : Nat) : Int) = g7 := by rw [em73]; exact (zu_nk (by decide)).trans w68
          have w82 : m73.1 66 ((24 : Nat) : Int) = g8 := by rw [em73]; exact (zu_nk (by decide)).trans w69
          have w83 : m73.1 66 ((25 : Nat) : Int) = g9 := by rw [em73]; exact (zu_nk (by decide)).trans w70
          clear w62 w63 w64 w65 w66 w67 w68 w69 w70
          have ot84 := zOt_w ot71 em73 ⟨fun h => absurd h (by decide), fun h => absurd h (by decide), fun h => absurd h (by decide), fun h => absurd h (by decide), fun h => absurd h (by decide)⟩
          have HD := zHd_L em20 (by decide) (zHd_0 (c := a1) em34 em47 em60 em73 (by omega) (by omega) (by omega) (by rw [em20, zu_ne (by decide)]; omega) (by omega))
          refine ⟨zk_X9_pass, zm_X9_pass hg d (by omega), rfl, (by (try rw [w75]) <;> (try rw [w76]) <;> (try rw [w77]) <;> (try rw [w78]) <;> (try rw [w79]) <;> (try rw [w80]) <;> (try rw [w81]) <;> (try rw [w82]) <;> (try rw [w83]) <;> (try rw [wg1]) <;> (try rw [wg2]) <;> (try rw [wg3]) <;> (try rw [wg4]) <;> (try rw [wg5]) <;> (try rw [wg6]) <;> (try rw [wg7]) <;> (try rw [wg8]) <;> (try rw [wg9]) <;> omega), ?_⟩
          intro m85 qm85 p86 p87 p88 p89
          have z90 := zfx_t z74 qm85 rfl rfl
          have w91 : m85.1 66 ((30 : Nat) : Int) = g2 := (qm85.2.1 30 rfl).trans w76
          have w92 : m85.1 66 ((26 : Nat) : Int) = (x72 + 1) := (qm85.2.1 26 rfl).trans w80
          have w93 : m85.1 66 ((27 : Nat) : Int) = g7 := (qm85.2.1 27 rfl).trans w81
          have w94 : m85.1 66 ((24 : Nat) : Int) = g8 := (qm85.2.1 24 rfl).trans w82
          have w95 : m85.1 66 ((25 : Nat) : Int) = g9 := (qm85.2.1 25 rfl).trans w83
          obtain ⟨g96, wg96⟩ : ∃ z : Int, m85.1 66 ((31 : Nat) : Int) = z := ⟨_, rfl⟩
          obtain ⟨g97, wg97⟩ : ∃ z : Int, m85.1 66 ((33 : Nat) : Int) = z := ⟨_, rfl⟩
          obtain ⟨g98, wg98⟩ : ∃ z : Int, m85.1 66 ((34 : Nat) : Int) = z := ⟨_, rfl⟩
          obtain ⟨g99, wg99⟩ : ∃ z : Int, m85.1 66 ((32 : Nat) : Int) = z := ⟨_, rfl⟩
          try rw [wg96] at p86
          try rw [w91] at p86
          try rw [wg97] at p86
          try rw [wg98] at p86
          try rw [wg99] at p86
          try rw [w92] at p86
          try rw [w93] at p86
          try rw [w94] at p86
          try rw [w95] at p86
          try rw [w75] at p86
          try rw [w76] at p86
          try rw [w77] at p86
          try rw [w78] at p86
          try rw [w79] at p86
          try rw [w80] at p86
          try rw [w81] at p86
          try rw [w82] at p86
          try rw [w83] at p86
          try rw [wg1] at p86
          try rw [wg2] at p86
          try rw [wg3] at p86
          try rw [wg4] at p86
          try rw [wg5] at p86
          try rw [wg6] at p86
          try rw [wg7] at p86
          try rw [wg8] at p86
          try rw [wg9] at p86
          try rw [wg96] at p87
          try rw [w91] at p87
          try rw [wg97] at p87
          try rw [wg98] at p87
          try rw [wg99] at p87
          try rw [w92] at p87
          try rw [w93] at p87
          try rw [w94] at p87
          try rw [w95] at p87
          try rw [w75] at p87
          try rw [w76] at p87
          try rw [w77] at p87
          try rw [w78] at p87
          try rw [w79] at p87
          try rw [w80] at p87
          try rw [w81] at p87
          try rw [w82] at p87
          try rw [w83] at p87
          try rw [wg1] at p87
          try rw [wg2] at p87
          try rw [wg3] at p87
          try rw [wg4] at p87
          try rw [wg5] at p87
          try rw [wg6] at p87
          try rw [wg7] at p87
          try rw [wg8] at p87
          try rw [wg9] at p87
          try rw [wg96] at p88
          try rw [w91] at p88
          try rw [wg97] at p88
          try rw [wg98] at p88
          try rw [wg99] at p88
          try rw [w92] at p88
          try rw [w93] at p88
          try rw [w94] at p88
          try rw [w95] at p88
          try rw [w75] at p88
          try rw [w76] at p88
          try rw [w77] at p88
          try rw [w78] at p88
          try rw [w79] at p88
          try rw [w80] at p88
          try rw [w81] at p88
          try rw [w82] at p88
          try rw [w83] at p88
          try rw [wg1] at p88
          try rw [wg2] at p88
          try rw [wg3] at p88
          try rw [wg4] at p88
          try rw [wg5] at p88
          try rw [wg6] at p88
          try rw [wg7] at p88
          try rw [wg8] at p88
          try rw [wg9] at p88
          try rw [wg96] at p89
          try rw [w91] at p89
          try rw [wg97] at p89
          try rw [wg98] at p89
          try rw [wg99] at p89
          try rw [w92] at p89
          try rw [w93] at p89
          try rw [w94] at p89
          try rw [w95] at p89
          try rw [w75] at p89
          try rw [w76] at p89
          try rw [w77] at p89
          try rw [w78] at p89
          try rw [w79] at p89
          try rw [w80] at p89
          try rw [w81] at p89
          try rw [w82] at p89
          try rw [w83] at p89
          try rw [wg1] at p89
          try rw [wg2] at p89
          try rw [wg3] at p89
          try rw [wg4] at p89
          try rw [wg5] at p89
          try rw [wg6] at p89
          try rw [wg7] at p89
          try rw [wg8] at p89
          try rw [wg9] at p89
          clear w75 w76 w77 w78 w79 w80 w81 w82 w83
          have ot100 := zOt_fr ot84 (qm85.1 76 (by decide) rfl) (qm85.1 77 (by decide) rfl) (qm85.1 78 (by decide) rfl) (qm85.1 79 (by decide) rfl) (qm85.1 80 (by decide) rfl) (qm85.1 83 (by decide) rfl) (qm85.1 84 (by decide) rfl)
          have HD1 := zHd_fr HD (qm85.1 76 (by decide) rfl) (qm85.1 77 (by decide) rfl) (qm85.1 79 (by decide) rfl) (qm85.1 84 (by decide) rfl) (qm85.2.1 26 rfl) (qm85.2.1 27 rfl)
          have ZL : zrm m85 < zrm μ := (by unfold zrm; simp only [wg96, w91, wg97, wg98, wg99, w92, w93, w94, w95, wg1, wg2, wg3, wg4, wg5, wg6, wg7, wg8, wg9]; (repeat' split) <;> omega)
          intro x101 hx101 kx101 lx101
          rw [wg99] at hx101
          refine And.intro ⟨⟨by omega, by omega⟩, ⟨by omega, by omega⟩⟩ (And.intro (fun c102 => ?_) (fun c102 => ?_))
          · refine Exists.intro (Int.toNat (zrm m85)) ?_
            exact ⟨_, rfl, z90, ⟨by omega, by omega⟩, (by (try rw [wg96]) <;> (try rw [w91]) <;> (try rw [wg97]) <;> (try rw [wg98]) <;> (try rw [wg99]) <;> (try rw [w92]) <;> (try rw [w93]) <;> (try rw [w94]) <;> (try rw [w95]) <;> (try rw [wg1]) <;> (try rw [wg2]) <;> (try rw [wg3]) <;> (try rw [wg4]) <;> (try rw [wg5]) <;> (try rw [wg6]) <;> (try rw [wg7]) <;> (try rw [wg8]) <;> (try rw [wg9]) <;> omega), (by (try rw [wg96]) <;> (try rw [w91]) <;> (try rw [wg97]) <;> (try rw [wg98]) <;> (try rw [wg99]) <;> (try rw [w92]) <;> (try rw [w93]) <;> (try rw [w94]) <;> (try rw [w95]) <;> (try rw [wg1]) <;> (try rw [wg2]) <;> (try rw [wg3]) <;> (try rw [wg4]) <;> (try rw [wg5]) <;> (try rw [wg6]) <;> (try rw [wg7]) <;> (try rw [wg8]) <;> (try rw [wg9]) <;> omega), ⟨rfl, by omega⟩, (by (try rw [wg96]) <;> (try rw [w91]) <;> (try rw [wg97]) <;> (try rw [wg98]) <;> (try rw [wg99]) <;> (try rw [w92]) <;> (try rw [w93]) <;> (try rw [w94]) <;> (try rw [w95]) <;> (try rw [wg1]) <;> (try rw [wg2]) <;> (try rw [wg3]) <;> (try rw [wg4]) <;> (try rw [wg5]) <;> (try rw [wg6]) <;> (try rw [wg7]) <;> (try rw [wg8]) <;> (try rw [wg9]) <;> omega), HD1, ZL, (Or.inl (by (try rw [wg96]) <;> (try rw [w91]) <;> (try rw [wg97]) <;> (try rw [wg98]) <;> (try rw [wg99]) <;> (try rw [w92]) <;> (try rw [w93]) <;> (try rw [w94]) <;> (try rw [w95]) <;> (try rw [wg1]) <;> (try rw [wg2]) <;> (try rw [wg3]) <;> (try rw [wg4]) <;> (try rw [wg5]) <;> (try rw [wg6]) <;> (try rw [wg7]) <;> (try rw [wg8]) <;> (try rw [wg9]) <;> omega)), ot100, rfl⟩
          · exact And.intro (zrtb (by omega)) (And.intro ⟨by omega, by omega⟩ (hQ _ _ z90 (by omega) (by omega) (by (try rw [wg96]) <;> (try rw [w91]) <;> (try rw [wg97]) <;> (try rw [wg98]) <;> (try rw [wg99]) <;> (try rw [w92]) <;> (try rw [w93]) <;> (try rw [w94]) <;> (try rw [w95]) <;> (try rw [wg1]) <;> (try rw [wg2]) <;> (try rw [wg3]) <;> (try rw [wg4]) <;> (try rw [wg5]) <;> (try rw [wg6]) <;> (try rw [wg7]) <;> (try rw [wg8]) <;> (try rw [wg9]) <;> omega) (by (try rw [wg96]) <;> (try rw [w91]) <;> (try rw [wg97]) <;> (try rw [wg98]) <;> (try rw [wg99]) <;> (try rw [w92]) <;> (try rw [w93]) <;> (try rw [w94]) <;> (try rw [w95]) <;> (try rw [wg1]) <;> (try rw [wg2]) <;> (try rw [wg3]) <;> (try rw [wg4]) <;> (try rw [wg5]) <;> (try rw [wg6]) <;> (try rw [wg7]) <;> (try rw [wg8]) <;> (try rw [wg9]) <;> omega) (fun h => ⟨by omega, HD1, ZL⟩) ot100))
        · refine ⟨zk_X9_fail, zm_X9_fail hg d (by omega), _, rfl, ⟨by omega, by omega⟩, ?_⟩
          intro x103 m104 qm104 kx103 lx103
          have z105 := zfx_t z0 qm104 rfl rfl
          have w106 : m104.1 66 ((31 : Nat) : Int) = g1 := (qm104.2.1 31 rfl).trans wg1
          have w107 : m104.1 66 ((30 : Nat) : Int) = g2 := (qm104.2.1 30 rfl).trans wg2
          have w108 : m104.1 66 ((33 : Nat) : Int) = g3 := (qm104.2.1 33 rfl).trans wg3
          have w109 : m104.1 66 ((34 : Nat) : Int) = g4 := (qm104.2.1 34 rfl).trans wg4
          have w110 : m104.1 66 ((32 : Nat) : Int) = g5 := (qm104.2.1 32 rfl).trans wg5
          have w111 : m104.1 66 ((26 : Nat) : Int) = g6 := (qm104.2.1 26 rfl).trans wg6
          have w112 : m104.1 66 ((27 : Nat) : Int) = g7 := (qm104.2.1 27 rfl).trans wg7
          have w113 : m104.1 66 ((24 : Nat) : Int) = g8 := (qm104.2.1 24 rfl).trans wg8
          have w114 : m104.1 66 ((25 : Nat) : Int) = g9 := (qm104.2.1 25 rfl).trans wg9
          have ot115 := zOt_fr (zOt_r μ) (qm104.1 76 (by decide) rfl) (qm104.1 77 (by decide) rfl) (qm104.1 78 (by decide) rfl) (qm104.1 79 (by decide) rfl) (qm104.1 80 (by decide) rfl) (qm104.1 83 (by decide) rfl) (qm104.1 84 (by decide) rfl)
          exact And.intro (zrtb (by omega)) (And.intro ⟨by omega, by omega⟩ (hQ _ _ z105 (by omega) (by omega) (by (try rw [w106]) <;> (try rw [w107]) <;> (try rw [w108]) <;> (try rw [w109]) <;> (try rw [w110]) <;> (try rw [w111]) <;> (try rw [w112]) <;> (try rw [w113]) <;> (try rw [w114]) <;> (try rw [wg1]) <;> (try rw [wg2]) <;> (try rw [wg3]) <;> (try rw [wg4]) <;> (try rw [wg5]) <;> (try rw [wg6]) <;> (try rw [wg7]) <;> (try rw [wg8]) <;> (try rw [wg9]) <;> omega) (by (try rw [w106]) <;> (try rw [w107]) <;> (try rw [w108]) <;> (try rw [w109]) <;> (try rw [w110]) <;> (try rw [w111]) <;> (try rw [w112]) <;> (try rw [w113]) <;> (try rw [w114]) <;> (try rw [wg1]) <;> (try rw [wg2]) <;> (try rw [wg3]) <;> (try rw [wg4]) <;> (try rw [wg5]) <;> (try rw [wg6]) <;> (try rw [wg7]) <;> (try rw [wg8]) <;> (try rw [wg9]) <;> omega) (fun h => by exfalso; omega) ot115))
      · refine ⟨zk_X9_fail, zm_X9_fail hg d (by omega), _, rfl, ⟨by omega, by omega⟩, ?_⟩
        intro x116 m117 qm117 kx116 lx116
        have z118 := zfx_t z0 qm117 rfl rfl
        have w119 : m117.1 66 ((31 : Nat) : Int) = g1 := (qm117.2.1 31 rfl).trans wg1
        have w120 : m117.1 66 ((30 : Nat) : Int) = g2 := (qm117.2.1 30 rfl).trans wg2
        have w121 : m117.1 66 ((33 : Nat) : Int) = g3 := (qm117.2.1 33 rfl).trans wg3
        have w122 : m117.1 66 ((34 : Nat) : Int) = g4 := (qm117.2.1 34 rfl).trans wg4
        have w123 : m117.1 66 ((32 : Nat) : Int) = g5 := (qm117.2.1 32 rfl).trans wg5
        have w124 : m117.1 66 ((26 : Nat) : Int) = g6 := (qm117.2.1 26 rfl).trans wg6
        have w125 : m117.1 66 ((27 : Nat) : Int) = g7 := (qm117.2.1 27 rfl).trans wg7
        have w126 : m117.1 66 ((24 : Nat) : Int) = g8 := (qm117.2.1 24 rfl).trans wg8
        have w127 : m117.1 66 ((25 : Nat) : Int) = g9 := (qm117.2.1 25 rfl).trans wg9
        have ot128 := zOt_fr (zOt_r μ) (qm117.1 76 (by decide) rfl) (qm117.1 77 (by decide) rfl) (qm117.1 78 (by decide) rfl) (qm117.1 79 (by decide) rfl) (qm117.1 80 (by decide) rfl) (qm117.1 83 (by decide) rfl) (qm117.1 84 (by decide) rfl)
        exact And.intro (zrtb (by omega)) (And.intro ⟨by omega, by omega⟩ (hQ _ _ z118 (by omega) (by omega) (by (try rw [w119]) <;> (try rw [w120]) <;> (try rw [w121]) <;> (try rw [w122]) <;> (try rw [w123]) <;> (try rw [w124]) <;> (try rw [w125]) <;> (try rw [w126]) <;> (try rw [w127]) <;> (try rw [wg1]) <;> (try rw [wg2]) <;> (try rw [wg3]) <;> (try rw [wg4]) <;> (try rw [wg5]) <;> (try rw [wg6]) <;> (try rw [wg7]) <;> (try rw [wg8]) <;> (try rw [wg9]) <;> omega) (by (try rw [w119]) <;> (try rw [w120]) <;> (try rw [w121]) <;> (try rw [w122]) <;> (try rw [w123]) <;> (try rw [w124]) <;> (try rw [w125]) <;> (try rw [w126]) <;> (try rw [w127]) <;> (try rw [wg1]) <;> (try rw [wg2]) <;> (try rw [wg3]) <;> (try rw [wg4]) <;> (try rw [wg5]) <;> (try rw [wg6]) <;> (try rw [wg7]) <;> (try rw [wg8]) <;> (try rw [wg9]) <;> omega) (fun h => by exfalso; omega) ot128))
    · refine ⟨zk_X9_fail, zm_X9_fail hg d (by omega), _, rfl, ⟨by omega, by omega⟩, ?_⟩
      intro x129 m130 qm130 kx129 lx129
      have z131 := zfx_t z0 qm130 rfl rfl
      have w132 : m130.1 66 ((31 : Nat) : Int) = g1 := (qm130.2.1 31 rfl).trans wg1
      have w133 : m130.1 66 ((30 : Nat) : Int) = g2 := (qm130.2.1 30 rfl).trans wg2
      have w134 : m130.1 66 ((33 : Nat) : Int) = g3 := (qm130.2.1 33 rfl).trans wg3
      have w135 : m130.1 66 ((34 : Nat) : Int) = g4 := (qm130.2.1 34 rfl).trans wg4
      have w136 : m130.1 66 ((32 : Nat) : Int) = g5 := (qm130.2.1 32 rfl).trans wg5
      have w137 : m130.1 66 ((26 : Nat) : Int) = g6 := (qm130.2.1 26 rfl).trans wg6
      have w138 : m130.1 66 ((27 : Nat) : Int) = g7 := (qm130.2.1 27 rfl).trans wg7
      have w139 : m130.1 66 ((24 : Nat) : Int) = g8 := (qm130.2.1 24 rfl).trans wg8
      have w140 : m130.1 66 ((25 : Nat) : Int) = g9 := (qm130.2.1 25 rfl).trans wg9
      have ot141 := zOt_fr (zOt_r μ) (qm130.1 76 (by decide) rfl) (qm130.1 77 (by decide) rfl) (qm130.1 78 (by decide) rfl) (qm130.1 79 (by decide) rfl) (qm130.1 80 (by decide) rfl) (qm130.1 83 (by decide) rfl) (qm130.1 84 (by decide) rfl)
      exact And.intro (zrtb (by omega)) (And.intro ⟨by omega, by omega⟩ (hQ _ _ z131 (by omega) (by omega) (by (try rw [w132]) <;> (try rw [w133]) <;> (try rw [w134]) <;> (try rw [w135]) <;> (try rw [w136]) <;> (try rw [w137]) <;> (try rw [w138]) <;> (try rw [w139]) <;> (try rw [w140]) <;> (try rw [wg1]) <;> (try rw [wg2]) <;> (try rw [wg3]) <;> (try rw [wg4]) <;> (try rw [wg5]) <;> (try rw [wg6]) <;> (try rw [wg7]) <;> (try rw [wg8]) <;> (try rw [wg9]) <;> omega) (by (try rw [w132]) <;> (try rw [w133]) <;> (try rw [w134]) <;> (try rw [w135]) <;> (try rw [w136]) <;> (try rw [w137]) <;> (try rw [w138]) <;> (try rw [w139]) <;> (try rw [w140]) <;> (try rw [wg1]) <;> (try rw [wg2]) <;> (try rw [wg3]) <;> (try rw [wg4]) <;> (try rw [wg5]) <;> (try rw [wg6]) <;> (try rw [wg7]) <;> (try rw [wg8]) <;> (try rw [wg9]) <;> omega) (fun h => by exfalso; omega) ot141))
  · intro vs m0 n hI
    clear z0
    obtain ⟨v1, rfl, z0, hv1, i0, i1, i2, i3, i4, i5, i6, i7, rfl⟩ := hI
    obtain ⟨j1, i2b⟩ := i2
    subst j1
    have HH := i4.1
    have i2 := i2b
    obtain ⟨g142, wg142⟩ : ∃ z : Int, m0.1 66 ((31 : Nat) : Int) = z := ⟨_, rfl⟩
    obtain ⟨g143, wg143⟩ : ∃ z : Int, m0.1 66 ((30 : Nat) : Int) = z := ⟨_, rfl⟩
    obtain ⟨g144, wg144⟩ : ∃ z : Int, m0.1 66 ((33 : Nat) : Int) = z := ⟨_, rfl⟩
    obtain ⟨g145, wg145⟩ : ∃ z : Int, m0.1 66 ((34 : Nat) : Int) = z := ⟨_, rfl⟩
    obtain ⟨g146, wg146⟩ : ∃ z : Int, m0.1 66 ((32 : Nat) : Int) = z := ⟨_, rfl⟩
    obtain ⟨g147, wg147⟩ : ∃ z : Int, m0.1 66 ((26 : Nat) : Int) = z := ⟨_, rfl⟩
    obtain ⟨g148, wg148⟩ : ∃ z : Int, m0.1 66 ((27 : Nat) : Int) = z := ⟨_, rfl⟩
    obtain ⟨g149, wg149⟩ : ∃ z : Int, m0.1 66 ((24 : Nat) : Int) = z := ⟨_, rfl⟩
    obtain ⟨g150, wg150⟩ : ∃ z : Int, m0.1 66 ((25 : Nat) : Int) = z := ⟨_, rfl⟩
    try rw [wg142] at i0
    try rw [wg143] at i0
    try rw [wg144] at i0
    try rw [wg145] at i0
    try rw [wg146] at i0
    try rw [wg147] at i0
    try rw [wg148] at i0
    try rw [wg149] at i0
    try rw [wg150] at i0
    try rw [wg1] at i0
    try rw [wg2] at i0
    try rw [wg3] at i0
    try rw [wg4] at i0
    try rw [wg5] at i0
    try rw [wg6] at i0
    try rw [wg7] at i0
    try rw [wg8] at i0
    try rw [wg9] at i0
    try rw [wg142] at i1
    try rw [wg143] at i1
    try rw [wg144] at i1
    try rw [wg145] at i1
    try rw [wg146] at i1
    try rw [wg147] at i1
    try rw [wg148] at i1
    try rw [wg149] at i1
    try rw [wg150] at i1
    try rw [wg1] at i1
    try rw [wg2] at i1
    try rw [wg3] at i1
    try rw [wg4] at i1
    try rw [wg5] at i1
    try rw [wg6] at i1
    try rw [wg7] at i1
    try rw [wg8] at i1
    try rw [wg9] at i1
    try rw [wg142] at i2
    try rw [wg143] at i2
    try rw [wg144] at i2
    try rw [wg145] at i2
    try rw [wg146] at i2
    try rw [wg147] at i2
    try rw [wg148] at i2
    try rw [wg149] at i2
    try rw [wg150] at i2
    try rw [wg1] at i2
    try rw [wg2] at i2
    try rw [wg3] at i2
    try rw [wg4] at i2
    try rw [wg5] at i2
    try rw [wg6] at i2
    try rw [wg7] at i2
    try rw [wg8] at i2
    try rw [wg9] at i2
    try rw [wg142] at i3
    try rw [wg143] at i3
    try rw [wg144] at i3
    try rw [wg145] at i3
    try rw [wg146] at i3
    try rw [wg147] at i3
    try rw [wg148] at i3
    try rw [wg149] at i3
    try rw [wg150] at i3
    try rw [wg1] at i3
    try rw [wg2] at i3
    try rw [wg3] at i3
    try rw [wg4] at i3
    try rw [wg5] at i3
    try rw [wg6] at i3
    try rw [wg7] at i3
    try rw [wg8] at i3
    try rw [wg9] at i3
    try rw [wg142] at i4
    try rw [wg143] at i4
    try rw [wg144] at i4
    try rw [wg145] at i4
    try rw [wg146] at i4
    try rw [wg147] at i4
    try rw [wg148] at i4
    try rw [wg149] at i4
    try rw [wg150] at i4
    try rw [wg1] at i4
    try rw [wg2] at i4
    try rw [wg3] at i4
    try rw [wg4] at i4
    try rw [wg5] at i4
    try rw [wg6] at i4
    try rw [wg7] at i4
    try rw [wg8] at i4
    try rw [wg9] at i4
    try rw [wg142] at i5
    try rw [wg143] at i5
    try rw [wg144] at i5
    try rw [wg145] at i5
    try rw [wg146] at i5
    try rw [wg147] at i5
    try rw [wg148] at i5
    try rw [wg149] at i5
    try rw [wg150] at i5
    try rw [wg1] at i5
    try rw [wg2] at i5
    try rw [wg3] at i5
    try rw [wg4] at i5
    try rw [wg5] at i5
    try rw [wg6] at i5
    try rw [wg7] at i5
    try rw [wg8] at i5
    try rw [wg9] at i5
    try rw [wg142] at i6
    try rw [wg143] at i6
    try rw [wg144] at i6
    try rw [wg145] at i6
    try rw [wg146] at i6
    try rw [wg147] at i6
    try rw [wg148] at i6
    try rw [wg149] at i6
    try rw [wg150] at i6
    try rw [wg1] at i6
    try rw [wg2] at i6
    try rw [wg3] at i6
    try rw [wg4] at i6
    try rw [wg5] at i6
    try rw [wg6] at i6
    try rw [wg7] at i6
    try rw [wg8] at i6
    try rw [wg9] at i6
    try rw [wg142] at i7
    try rw [wg143] at i7
    try rw [wg144] at i7
    try rw [wg145] at i7
    try rw [wg146] at i7
    try rw [wg147] at i7
    try rw [wg148] at i7
    try rw [wg149] at i7
    try rw [wg150] at i7
    try rw [wg1] at i7
    try rw [wg2] at i7
    try rw [wg3] at i7
    try rw [wg4] at i7
    try rw [wg5] at i7
    try rw [wg6] at i7
    try rw [wg7] at i7
    try rw [wg8] at i7
    try rw [wg9] at i7
    refine ⟨zk_X9_pass, zm_X9_pass hg d (by omega), rfl, (by (try rw [wg142]) <;> (try rw [wg143]) <;> (try rw [wg144]) <;> (try rw [wg145]) <;> (try rw [wg146]) <;> (try rw [wg147]) <;> (try rw [wg148]) <;> (try rw [wg149]) <;> (try rw [wg150]) <;> (try rw [wg1]) <;> (try rw [wg2]) <;> (try rw [wg3]) <;> (try rw [wg4]) <;> (try rw [wg5]) <;> (try rw [wg6]) <;> (try rw [wg7]) <;> (try rw [wg8]) <;> (try rw [wg9]) <;> omega), ?_⟩
    intro m151 qm151 p152 p153 p154 p155
    have z156 := zfx_t z0 qm151 rfl rfl
    have w157 : m151.1 66 ((30 : Nat) : Int) = g143 := (qm151.2.1 30 rfl).trans wg143
    have w158 : m151.1 66 ((26 : Nat) : Int) = g147 := (qm151.2.1 26 rfl).trans wg147
    have w159 : m151.1 66 ((27 : Nat) : Int) = g148 := (qm151.2.1 27 rfl).trans wg148
    have w160 : m151.1 66 ((24 : Nat) : Int) = g149 := (qm151.2.1 24 rfl).trans wg149
    have w161 : m151.1 66 ((25 : Nat) : Int) = g150 := (qm151.2.1 25 rfl).trans wg150
    obtain ⟨g162, wg162⟩ : ∃ z : Int, m151.1 66 ((31 : Nat) : Int) = z := ⟨_, rfl⟩
    obtain ⟨g163, wg163⟩ : ∃ z : Int, m151.1 66 ((33 : Nat) : Int) = z := ⟨_, rfl⟩
    obtain ⟨g164, wg164⟩ : ∃ z : Int, m151.1 66 ((34 : Nat) : Int) = z := ⟨_, rfl⟩
    obtain ⟨g165, wg165⟩ : ∃ z : Int, m151.1 66 ((32 : Nat) : Int) = z := ⟨_, rfl⟩
    try rw [wg162] at p152
    try rw [w157] at p152
    try rw [wg163] at p152
    try rw [wg164] at p152
    try rw [wg165] at p152
    try rw [w158] at p152
    try rw [w159] at p152
    try rw [w160] at p152
    try rw [w161] at p152
    try rw [wg142] at p152
    try rw [wg143] at p152
    try rw [wg144] at p152
    try rw [wg145] at p152
    try rw [wg146] at p152
    try rw [wg147] at p152
    try rw [wg148] at p152
    try rw [wg149] at p152
    try rw [wg150] at p152
    try rw [wg1] at p152
    try rw [wg2] at p152
    try rw [wg3] at p152
    try rw [wg4] at p152
    try rw [wg5] at p152
    try rw [wg6] at p152
    try rw [wg7] at p152
    try rw [wg8] at p152
    try rw [wg9] at p152
    try rw [wg162] at p153
    try rw [w157] at p153
    try rw [wg163] at p153
    try rw [wg164] at p153
    try rw [wg165] at p153
    try rw [w158] at p153
    try rw [w159] at p153
    try rw [w160] at p153
    try rw [w161] at p153
    try rw [wg142] at p153
    try rw [wg143] at p153
    try rw [wg144] at p153
    try rw [wg145] at p153
    try rw [wg146] at p153
    try rw [wg147] at p153
    try rw [wg148] at p153
    try rw [wg149] at p153
    try rw [wg150] at p153
    try rw [wg1] at p153
    try rw [wg2] at p153
    try rw [wg3] at p153
    try rw [wg4] at p153
    try rw [wg5] at p153
    try rw [wg6] at p153
    try rw [wg7] at p153
    try rw [wg8] at p153
    try rw [wg9] at p153
    try rw [wg162] at p154
    try rw [w157] at p154
    try rw [wg163] at p154
    try rw [wg164] at p154
    try rw [wg165] at p154
    try rw [w158] at p154
    try rw [w159] at p154
    try rw [w160] at p154
    try rw [w161] at p154
    try rw [wg142] at p154
    try rw [wg143] at p154
    try rw [wg144] at p154
    try rw [wg145] at p154
    try rw [wg146] at p154
    try rw [wg147] at p154
    try rw [wg148] at p154
    try rw [wg149] at p154
    try rw [wg150] at p154
    try rw [wg1] at p154
    try rw [wg2] at p154
    try rw [wg3] at p154
    try rw [wg4] at p154
    try rw [wg5] at p154
    try rw [wg6] at p154
    try rw [wg7] at p154
    try rw [wg8] at p154
    try rw [wg9] at p154
    try rw [wg162] at p155
    try rw [w157] at p155
    try rw [wg163] at p155
    try rw [wg164] at p155
    try rw [wg165] at p155
    try rw [w158] at p155
    try rw [w159] at p155
    try rw [w160] at p155
    try rw [w161] at p155
    try rw [wg142] at p155
    try rw [wg143] at p155
    try rw [wg144] at p155
    try rw [wg145] at p155
    try rw [wg146] at p155
    try rw [wg147] at p155
    try rw [wg148] at p155
    try rw [wg149] at p155
    try rw [wg150] at p155
    try rw [wg1] at p155
    try rw [wg2] at p155
    try rw [wg3] at p155
    try rw [wg4] at p155
    try rw [wg5] at p155
    try rw [wg6] at p155
    try rw [wg7] at p155
    try rw [wg8] at p155
    try rw [wg9] at p155
    have ot166 := zOt_fr i7 (qm151.1 76 (by decide) rfl) (qm151.1 77 (by decide) rfl) (qm151.1 78 (by decide) rfl) (qm151.1 79 (by decide) rfl) (qm151.1 80 (by decide) rfl) (qm151.1 83 (by decide) rfl) (qm151.1 84 (by decide) rfl)
    have HD0 := zHd_fr i4 (qm151.1 76 (by decide) rfl) (qm151.1 77 (by decide) rfl) (qm151.1 79 (by decide) rfl) (qm151.1 84 (by decide) rfl) (qm151.2.1 26 rfl) (qm151.2.1 27 rfl)
    intro x167 hx167 kx167 lx167
    rw [wg165] at hx167
    refine And.intro ⟨⟨by omega, by omega⟩, ⟨by omega, by omega⟩⟩ (And.intro (fun c168 => ?_) (fun c168 => ?_))
    · refine ⟨zk_X9_name, zm_X9_name hg d (by omega), rfl, (by (try rw [wg162]) <;> (try rw [w157]) <;> (try rw [wg163]) <;> (try rw [wg164]) <;> (try rw [wg165]) <;> (try rw [w158]) <;> (try rw [w159]) <;> (try rw [w160]) <;> (try rw [w161]) <;> (try rw [wg142]) <;> (try rw [wg143]) <;> (try rw [wg144]) <;> (try rw [wg145]) <;> (try rw [wg146]) <;> (try rw [wg147]) <;> (try rw [wg148]) <;> (try rw [wg149]) <;> (try rw [wg150]) <;> (try rw [wg1]) <;> (try rw [wg2]) <;> (try rw [wg3]) <;> (try rw [wg4]) <;> (try rw [wg5]) <;> (try rw [wg6]) <;> (try rw [wg7]) <;> (try rw [wg8]) <;> (try rw [wg9]) <;> omega), ?_⟩
      intro j169
      refine ⟨zk_X9_findParam, zm_X9_findParam hg d (by omega), _, _, rfl, ⟨by omega, by omega⟩, ?_⟩
      intro x170 kx170 lx170 p171
      try rw [wg162] at p171
      try rw [w157] at p171
      try rw [wg163] at p171
      try rw [wg164] at p171
      try rw [wg165] at p171
      try rw [w158] at p171
      try rw [w159] at p171
      try rw [w160] at p171
      try rw [w161] at p171
      try rw [wg1] at p171
      try rw [wg2] at p171
      try rw [wg3] at p171
      try rw [wg4] at p171
      try rw [wg5] at p171
      try rw [wg6] at p171
      try rw [wg7] at p171
      try rw [wg8] at p171
      try rw [wg9] at p171
      refine And.intro ⟨by omega, by omega⟩ (And.intro (fun c172 => ?_) (fun c172 => ?_))
      · intro x173 hx173 kx173 lx173
        rw [w160] at hx173
        refine And.intro ⟨by omega, by omega⟩ ?_
        intro x174 hx174 kx174 lx174
        have X7 : x174 = m151.1 77 (21 + v1) := by rw [hx174, show (x173 + v1) = 21 + v1 by omega]
        have H7 := HD0.1
        refine And.intro ⟨⟨by omega, by omega⟩, ⟨by omega, by omega⟩⟩ (And.intro (fun c175 => ?_) (fun c175 => ?_))
        · have FB : g148 ≤ 79 ∧ g148 = m151.1 66 ((27 : Nat) : Int) := by omega
          intro x176 hx176 kx176 lx176
          rw [w161] at hx176
          intro x177 hx177 kx177 lx177
          rw [w159] at hx177
          refine ⟨zk_X9_name, zm_X9_name hg d (by omega), rfl, (by (try rw [wg162]) <;> (try rw [w157]) <;> (try rw [wg163]) <;> (try rw [wg164]) <;> (try rw [wg165]) <;> (try rw [w158]) <;> (try rw [w159]) <;> (try rw [w160]) <;> (try rw [w161]) <;> (try rw [wg142]) <;> (try rw [wg143]) <;> (try rw [wg144]) <;> (try rw [wg145]) <;> (try rw [wg146]) <;> (try rw [wg147]) <;> (try rw [wg148]) <;> (try rw [wg149]) <;> (try rw [wg150]) <;> (try rw [wg1]) <;> (try rw [wg2]) <;> (try rw [wg3]) <;> (try rw [wg4]) <;> (try rw [wg5]) <;> (try rw [wg6]) <;> (try rw [wg7]) <;> (try rw [wg8]) <;> (try rw [wg9]) <;> omega), ?_⟩
          intro j178
          refine And.intro ⟨by omega, by omega⟩ ?_
          intro m179 em179
          have z180 := zfx_r z156 em179 rfl (by decide)
          have w181 : m179.1 66 ((31 : Nat) : Int) = g162 := by rw [em179]; exact (congrFun (zu_ne (by decide)) _).trans wg162
          have w182 : m179.1 66 ((30 : Nat) : Int) = g143 := by rw [em179]; exact (congrFun (zu_ne (by decide)) _).trans w157
          have w183 : m179.1 66 ((33 : Nat) : Int) = g163 := by rw [em179]; exact (congrFun (zu_ne (by decide)) _).trans wg163
          have w184 : m179.1 66 ((34 : Nat) : Int) = g164 := by rw [em179]; exact (congrFun (zu_ne (by decide)) _).trans wg164
          have w185 : m179.1 66 ((32 : Nat) : Int) = g165 := by rw [em179]; exact (congrFun (zu_ne (by decide)) _).trans wg165
          have w186 : m179.1 66 ((26 : Nat) : Int) = g147 := by rw [em179]; exact (congrFun (zu_ne (by decide)) _).trans w158
          have w187 : m179.1 66 ((27 : Nat) : Int) = g148 := by rw [em179]; exact (congrFun (zu_ne (by decide)) _).trans w159
          have w188 : m179.1 66 ((24 : Nat) : Int) = g149 := by rw [em179]; exact (congrFun (zu_ne (by decide)) _).trans w160
          have w189 : m179.1 66 ((25 : Nat) : Int) = g150 := by rw [em179]; exact (congrFun (zu_ne (by decide)) _).trans w161
          clear wg162 w157 wg163 wg164 wg165 w158 w159 w160 w161
          have ot190 := zOt_w ot166 em179 ⟨fun h => absurd h (by decide), fun h => absurd h (by decide), fun h => absurd h (by decide), fun h => absurd h (by decide), fun h => absurd h (by decide)⟩
          intro x191 hx191 kx191 lx191
          rw [w189] at hx191
          intro x192 hx192 kx192 lx192
          rw [w187] at hx192
          refine And.intro ⟨by omega, by omega⟩ (And.intro ⟨by omega, by omega⟩ ?_)
          intro m193 em193
          have z194 := zfx_r z180 em193 rfl (by decide)
          have w195 : m193.1 66 ((31 : Nat) : Int) = g162 := by rw [em193]; exact (congrFun (zu_ne (by decide)) _).trans w181
          have w196 : m193.1 66 ((30 : Nat) : Int) = g143 := by rw [em193]; exact (congrFun (zu_ne (by decide)) _).trans w182
          have w197 : m193.1 66 ((33 : Nat) : Int) = g163 := by rw [em193]; exact (congrFun (zu_ne (by decide)) _).trans w183
          have w198 : m193.1 66 ((34 : Nat) : Int) = g164 := by rw [em193]; exact (congrFun (zu_ne (by decide)) _).trans w184
          have w199 : m193.1 66 ((32 : Nat) : Int) = g165 := by rw [em193]; exact (congrFun (zu_ne (by decide)) _).trans w185
          have w200 : m193.1 66 ((26 : Nat) : Int) = g147 := by rw [em193]; exact (congrFun (zu_ne (by decide)) _).trans w186
          have w201 : m193.1 66 ((27 : Nat) : Int) = g148 := by rw [em193]; exact (congrFun (zu_ne (by decide)) _).trans w187
          have w202 : m193.1 66 ((24 : Nat) : Int) = g149 := by rw [em193]; exact (congrFun (zu_ne (by decide)) _).trans w188
          have w203 : m193.1 66 ((25 : Nat) : Int) = g150 := by rw [em193]; exact (congrFun (zu_ne (by decide)) _).trans w189
          clear w181 w182 w183 w184 w185 w186 w187 w188 w189
          have ot204 := zOt_w ot190 em193 ⟨fun h => absurd h (by decide), fun h => absurd h (by decide), fun h => absurd h (by decide), fun h => absurd h (by decide), fun h => absurd h (by decide)⟩
          intro x205 hx205 kx205 lx205
          rw [w203] at hx205
          intro x206 hx206 kx206 lx206
          rw [w201] at hx206
          refine And.intro ⟨by omega, by omega⟩ (And.intro ⟨by omega, by omega⟩ ?_)
          intro m207 em207
          have z208 := zfx_r z194 em207 rfl (by decide)
          have w209 : m207.1 66 ((31 : Nat) : Int) = g162 := by rw [em207]; exact (congrFun (zu_ne (by decide)) _).trans w195
          have w210 : m207.1 66 ((30 : Nat) : Int) = g143 := by rw [em207]; exact (congrFun (zu_ne (by decide)) _).trans w196
          have w211 : m207.1 66 ((33 : Nat) : Int) = g163 := by rw [em207]; exact (congrFun (zu_ne (by decide)) _).trans w197
          have w212 : m207.1 66 ((34 : Nat) : Int) = g164 := by rw [em207]; exact (congrFun (zu_ne (by decide)) _).trans w198
          have w213 : m207.1 66 ((32 : Nat) : Int) = g165 := by rw [em207]; exact (congrFun (zu_ne (by decide)) _).trans w199
          have w214 : m207.1 66 ((26 : Nat) : Int) = g147 := by rw [em207]; exact (congrFun (zu_ne (by decide)) _).trans w200
          have w215 : m207.1 66 ((27 : Nat) : Int) = g148 := by rw [em207]; exact (congrFun (zu_ne (by decide)) _).trans w201
          have w216 : m207.1 66 ((24 : Nat) : Int) = g149 := by rw [em207]; exact (congrFun (zu_ne (by decide)) _).trans w202
          have w217 : m207.1 66 ((25 : Nat) : Int) = g150 := by rw [em207]; exact (congrFun (zu_ne (by decide)) _).trans w203
          clear w195 w196 w197 w198 w199 w200 w201 w202 w203
          have ot218 := zOt_w ot204 em207 (by have hk : (80 : Int) ≤ (x205 + x206) := (by omega); refine ⟨fun h => ?_, fun h => ?_, fun h => ?_, fun h => ?_, fun h => ?_⟩ <;> first | exact hk | (exfalso; revert h; decide))
          intro x219 hx219 kx219 lx219
          rw [w215] at hx219
          refine And.intro ⟨by omega, by omega⟩ ?_
          intro m220 em220
          have z221 := zfx_f z208 em220 rfl
          have w222 : m220.1 66 ((31 : Nat) : Int) = g162 := by rw [em220]; exact (zu_nk (by decide)).trans w209
          have w223 : m220.1 66 ((30 : Nat) : Int) = g143 := by rw [em220]; exact (zu_nk (by decide)).trans w210
          have w224 : m220.1 66 ((33 : Nat) : Int) = g163 := by rw [em220]; exact (zu_nk (by decide)).trans w211
          have w225 : m220.1 66 ((34 : Nat) : Int) = g164 := by rw [em220]; exact (zu_nk (by decide)).trans w212
          have w226 : m220.1 66 ((32 : Nat) : Int) = g165 := by rw [em220]; exact (zu_nk (by decide)).trans w213
          have w227 : m220.1 66 ((26 : Nat) : Int) = g147 := by rw [em220]; exact (zu_nk (by decide)).trans w214
          have w228 : m220.1 66 ((27 : Nat) : Int) = (x219 + 1) := by rw [em220]; exact zu_at
          have w229 : m220.1 66 ((24 : Nat) : Int) = g149 := by rw [em220]; exact (zu_nk (by decide)).trans w216
          have w230 : m220.1 66 ((25 : Nat) : Int) = g150 := by rw [em220]; exact (zu_nk (by decide)).trans w217
          clear w209 w210 w211 w212 w213 w214 w215 w216 w217
          have ot231 := zOt_w ot218 em220 ⟨fun h => absurd h (by decide), fun h => absurd h (by decide), fun h => absurd h (by decide), fun h => absurd h (by decide), fun h => absurd h (by decide)⟩
          intro x232 hx232 kx232 lx232
          rw [w229] at hx232
          refine And.intro ⟨by omega, by omega⟩ ?_
          intro x233 hx233 kx233 lx233
          have X8 : x233 = m151.1 77 (21 + v1) := by rw [hx233, em220, zu_ne (by decide), em207, zu_ne (by decide), em193, zu_ne (by decide), em179, zu_ne (by decide), show (x232 + v1) = 21 + v1 by omega]
          refine And.intro ⟨by omega, by omega⟩ (And.intro ⟨by omega, by omega⟩ ?_)
          intro m234 em234
          have z235 := zfx_r z221 em234 rfl (by decide)
          have w236 : m234.1 66 ((31 : Nat) : Int) = g162 := by rw [em234]; exact (congrFun (zu_ne (by decide)) _).trans w222
          have w237 : m234.1 66 ((30 : Nat) : Int) = g143 := by rw [em234]; exact (congrFun (zu_ne (by decide)) _).trans w223
          have w238 : m234.1 66 ((33 : Nat) : Int) = g163 := by rw [em234]; exact (congrFun (zu_ne (by decide)) _).trans w224
          have w239 : m234.1 66 ((34 : Nat) : Int) = g164 := by rw [em234]; exact (congrFun (zu_ne (by decide)) _).trans w225
          have w240 : m234.1 66 ((32 : Nat) : Int) = g165 := by rw [em234]; exact (congrFun (zu_ne (by decide)) _).trans w226
          have w241 : m234.1 66 ((26 : Nat) : Int) = g147 := by rw [em234]; exact (congrFun (zu_ne (by decide)) _).trans w227
          have w242 : m234.1 66 ((27 : Nat) : Int) = (x219 + 1) := by rw [em234]; exact (congrFun (zu_ne (by decide)) _).trans w228
          have w243 : m234.1 66 ((24 : Nat) : Int) = g149 := by rw [em234]; exact (congrFun (zu_ne (by decide)) _).trans w229
          have w244 : m234.1 66 ((25 : Nat) : Int) = g150 := by rw [em234]; exact (congrFun (zu_ne (by decide)) _).trans w230
          clear w222 w223 w224 w225 w226 w227 w228 w229 w230
          have ot245 := zOt_w ot231 em234 (by have hk : (21 : Int) ≤ (x232 + v1) := (by omega); refine ⟨fun h => ?_, fun h => ?_, fun h => ?_, fun h => ?_, fun h => ?_⟩ <;> first | exact hk | (exfalso; revert h; decide))
          have HD0b := zHd_fr (m' := m179) HD0 (by rw [em179]; exact zu_ne (by decide)) (by rw [em179]; exact zu_ne (by decide)) (by rw [em179]; exact zu_ne (by decide)) (by rw [em179]; exact zu_ne (by decide)) (by rw [em179, zu_ne (by decide)]) (by rw [em179, zu_ne (by decide)])
          have L7 : m179.1 77 (21 + v1) = m151.1 77 (21 + v1) ∧ m179.1 66 ((27 : Nat) : Int) = m151.1 66 ((27 : Nat) : Int) := ⟨by rw [em179, zu_ne (by decide)], by rw [em179, zu_ne (by decide)]⟩
          have HD2 := zHd_s HD0b (by omega) em193 em207 em220 em234 (by omega) (by omega) (by omega) (by omega)
          refine ⟨zk_X9_pass, zm_X9_pass hg d (by omega), rfl, (by (try rw [w236]) <;> (try rw [w237]) <;> (try rw [w238]) <;> (try rw [w239]) <;> (try rw [w240]) <;> (try rw [w241]) <;> (try rw [w242]) <;> (try rw [w243]) <;> (try rw [w244]) <;> (try rw [wg142]) <;> (try rw [wg143]) <;> (try rw [wg144]) <;> (try rw [wg145]) <;> (try rw [wg146]) <;> (try rw [wg147]) <;> (try rw [wg148]) <;> (try rw [wg149]) <;> (try rw [wg150]) <;> (try rw [wg1]) <;> (try rw [wg2]) <;> (try rw [wg3]) <;> (try rw [wg4]) <;> (try rw [wg5]) <;> (try rw [wg6]) <;> (try rw [wg7]) <;> (try rw [wg8]) <;> (try rw [wg9]) <;> omega), ?_⟩
          intro m246 qm246 p247 p248 p249 p250
          have z251 := zfx_t z235 qm246 rfl rfl
          have w252 : m246.1 66 ((30 : Nat) : Int) = g143 := (qm246.2.1 30 rfl).trans w237
          have w253 : m246.1 66 ((26 : Nat) : Int) = g147 := (qm246.2.1 26 rfl).trans w241
          have w254 : m246.1 66 ((27 : Nat) : Int) = (x219 + 1) := (qm246.2.1 27 rfl).trans w242
          have w255 : m246.1 66 ((24 : Nat) : Int) = g149 := (qm246.2.1 24 rfl).trans w243
          have w256 : m246.1 66 ((25 : Nat) : Int) = g150 := (qm246.2.1 25 rfl).trans w244
          obtain ⟨g257, wg257⟩ : ∃ z : Int, m246.1 66 ((31 : Nat) : Int) = z := ⟨_, rfl⟩
          obtain ⟨g258, wg258⟩ : ∃ z : Int, m246.1 66 ((33 : Nat) : Int) = z := ⟨_, rfl⟩
          obtain ⟨g259, wg259⟩ : ∃ z : Int, m246.1 66 ((34 : Nat) : Int) = z := ⟨_, rfl⟩
          obtain ⟨g260, wg260⟩ : ∃ z : Int, m246.1 66 ((32 : Nat) : Int) = z := ⟨_, rfl⟩
          try rw [wg257] at p247
          try rw [w252] at p247
          try rw [wg258] at p247
          try rw [wg259] at p247
          try rw [wg260] at p247
          try rw [w253] at p247
          try rw [w254] at p247
          try rw [w255] at p247
          try rw [w256] at p247
          try rw [w236] at p247
          try rw [w237] at p247
          try rw [w238] at p247
          try rw [w239] at p247
          try rw [w240] at p247
          try rw [w241] at p247
          try rw [w242] at p247
          try rw [w243] at p247
          try rw [w244] at p247
          try rw [wg1] at p247
          try rw [wg2] at p247
          try rw [wg3] at p247
          try rw [wg4] at p247
          try rw [wg5] at p247
          try rw [wg6] at p247
          try rw [wg7] at p247
          try rw [wg8] at p247
          try rw [wg9] at p247
          try rw [wg257] at p248
          try rw [w252] at p248
          try rw [wg258] at p248
          try rw [wg259] at p248
          try rw [wg260] at p248
          try rw [w253] at p248
          try rw [w254] at p248
          try rw [w255] at p248
          try rw [w256] at p248
          try rw [w236] at p248
          try rw [w237] at p248
          try rw [w238] at p248
          try rw [w239] at p248
          try rw [w240] at p248
          try rw [w241] at p248
          try rw [w242] at p248
          try rw [w243] at p248
          try rw [w244] at p248
          try rw [wg1] at p248
          try rw [wg2] at p248
          try rw [wg3] at p248
          try rw [wg4] at p248
          try rw [wg5] at p248
          try rw [wg6] at p248
          try rw [wg7] at p248
          try rw [wg8] at p248
          try rw [wg9] at p248
          try rw [wg257] at p249
          try rw [w252] at p249
          try rw [wg258] at p249
          try rw [wg259] at p249
          try rw [wg260] at p249
          try rw [w253] at p249
          try rw [w254] at p249
          try rw [w255] at p249
          try rw [w256] at p249
          try rw [w236] at p249
          try rw [w237] at p249
          try rw [w238] at p249
          try rw [w239] at p249
          try rw [w240] at p249
          try rw [w241] at p249
          try rw [w242] at p249
          try rw [w243] at p249
          try rw [w244] at p249
          try rw [wg1] at p249
          try rw [wg2] at p249
          try rw [wg3] at p249
          try rw [wg4] at p249
          try rw [wg5] at p249
          try rw [wg6] at p249
          try rw [wg7] at p249
          try rw [wg8] at p249
          try rw [wg9] at p249
          try rw [wg257] at p250
          try rw [w252] at p250
          try rw [wg258] at p250
          try rw [wg259] at p250
          try rw [wg260] at p250
          try rw [w253] at p250
          try rw [w254] at p250
          try rw [w255] at p250
          try rw [w256] at p250
          try rw [w236] at p250
          try rw [w237] at p250
          try rw [w238] at p250
          try rw [w239] at p250
          try rw [w240] at p250
          try rw [w241] at p250
          try rw [w242] at p250
          try rw [w243] at p250
          try rw [w244] at p250
          try rw [wg1] at p250
          try rw [wg2] at p250
          try rw [wg3] at p250
          try rw [wg4] at p250
          try rw [wg5] at p250
          try rw [wg6] at p250
          try rw [wg7] at p250
          try rw [wg8] at p250
          try rw [wg9] at p250
          clear w236 w237 w238 w239 w240 w241 w242 w243 w244
          have ot261 := zOt_fr ot245 (qm246.1 76 (by decide) rfl) (qm246.1 77 (by decide) rfl) (qm246.1 78 (by decide) rfl) (qm246.1 79 (by decide) rfl) (qm246.1 80 (by decide) rfl) (qm246.1 83 (by decide) rfl) (qm246.1 84 (by decide) rfl)
          have HD3 := zHd_fr HD2 (qm246.1 76 (by decide) rfl) (qm246.1 77 (by decide) rfl) (qm246.1 79 (by decide) rfl) (qm246.1 84 (by decide) rfl) (qm246.2.1 26 rfl) (qm246.2.1 27 rfl)
          have ZL : zrm m246 < zrm m0 := (by unfold zrm; simp only [wg257, w252, wg258, wg259, wg260, w253, w254, w255, w256, wg142, wg143, wg144, wg145, wg146, wg147, wg148, wg149, wg150, wg1, wg2, wg3, wg4, wg5, wg6, wg7, wg8, wg9]; (repeat' split) <;> omega)
          intro x262 hx262 kx262 lx262
          rw [wg260] at hx262
          refine And.intro ⟨⟨by omega, by omega⟩, ⟨by omega, by omega⟩⟩ (And.intro (fun c263 => ?_) (fun c263 => ?_))
          · refine Exists.intro (Int.toNat (zrm m246)) (And.intro (zrN ZL (zrm_0 (by (try rw [wg257]) <;> (try rw [w252]) <;> (try rw [wg258]) <;> (try rw [wg259]) <;> (try rw [wg260]) <;> (try rw [w253]) <;> (try rw [w254]) <;> (try rw [w255]) <;> (try rw [w256]) <;> (try rw [wg142]) <;> (try rw [wg143]) <;> (try rw [wg144]) <;> (try rw [wg145]) <;> (try rw [wg146]) <;> (try rw [wg147]) <;> (try rw [wg148]) <;> (try rw [wg149]) <;> (try rw [wg150]) <;> (try rw [wg1]) <;> (try rw [wg2]) <;> (try rw [wg3]) <;> (try rw [wg4]) <;> (try rw [wg5]) <;> (try rw [wg6]) <;> (try rw [wg7]) <;> (try rw [wg8]) <;> (try rw [wg9]) <;> omega))) ?_)
            exact ⟨_, rfl, z251, ⟨by omega, by omega⟩, (by (try rw [wg257]) <;> (try rw [w252]) <;> (try rw [wg258]) <;> (try rw [wg259]) <;> (try rw [wg260]) <;> (try rw [w253]) <;> (try rw [w254]) <;> (try rw [w255]) <;> (try rw [w256]) <;> (try rw [wg142]) <;> (try rw [wg143]) <;> (try rw [wg144]) <;> (try rw [wg145]) <;> (try rw [wg146]) <;> (try rw [wg147]) <;> (try rw [wg148]) <;> (try rw [wg149]) <;> (try rw [wg150]) <;> (try rw [wg1]) <;> (try rw [wg2]) <;> (try rw [wg3]) <;> (try rw [wg4]) <;> (try rw [wg5]) <;> (try rw [wg6]) <;> (try rw [wg7]) <;> (try rw [wg8]) <;> (try rw [wg9]) <;> omega), (by (try rw [wg257]) <;> (try rw [w252]) <;> (try rw [wg258]) <;> (try rw [wg259]) <;> (try rw [wg260]) <;> (try rw [w253]) <;> (try rw [w254]) <;> (try rw [w255]) <;> (try rw [w256]) <;> (try rw [wg142]) <;> (try rw [wg143]) <;> (try rw [wg144]) <;> (try rw [wg145]) <;> (try rw [wg146]) <;> (try rw [wg147]) <;> (try rw [wg148]) <;> (try rw [wg149]) <;> (try rw [wg150]) <;> (try rw [wg1]) <;> (try rw [wg2]) <;> (try rw [wg3]) <;> (try rw [wg4]) <;> (try rw [wg5]) <;> (try rw [wg6]) <;> (try rw [wg7]) <;> (try rw [wg8]) <;> (try rw [wg9]) <;> omega), ⟨rfl, i2b⟩, (by (try rw [wg257]) <;> (try rw [w252]) <;> (try rw [wg258]) <;> (try rw [wg259]) <;> (try rw [wg260]) <;> (try rw [w253]) <;> (try rw [w254]) <;> (try rw [w255]) <;> (try rw [w256]) <;> (try rw [wg142]) <;> (try rw [wg143]) <;> (try rw [wg144]) <;> (try rw [wg145]) <;> (try rw [wg146]) <;> (try rw [wg147]) <;> (try rw [wg148]) <;> (try rw [wg149]) <;> (try rw [wg150]) <;> (try rw [wg1]) <;> (try rw [wg2]) <;> (try rw [wg3]) <;> (try rw [wg4]) <;> (try rw [wg5]) <;> (try rw [wg6]) <;> (try rw [wg7]) <;> (try rw [wg8]) <;> (try rw [wg9]) <;> omega), HD3, (Int.lt_trans ZL i5), (Or.inr (by (try rw [wg257]) <;> (try rw [w252]) <;> (try rw [wg258]) <;> (try rw [wg259]) <;> (try rw [wg260]) <;> (try rw [w253]) <;> (try rw [w254]) <;> (try rw [w255]) <;> (try rw [w256]) <;> (try rw [wg142]) <;> (try rw [wg143]) <;> (try rw [wg144]) <;> (try rw [wg145]) <;> (try rw [wg146]) <;> (try rw [wg147]) <;> (try rw [wg148]) <;> (try rw [wg149]) <;> (try rw [wg150]) <;> (try rw [wg1]) <;> (try rw [wg2]) <;> (try rw [wg3]) <;> (try rw [wg4]) <;> (try rw [wg5]) <;> (try rw [wg6]) <;> (try rw [wg7]) <;> (try rw [wg8]) <;> (try rw [wg9]) <;> omega)), ot261, rfl⟩
          · refine ⟨zk_X9_want, zm_X9_want hg d (by omega), _, rfl, ⟨by omega, by omega⟩, (by (try rw [wg257]) <;> (try rw [w252]) <;> (try rw [wg258]) <;> (try rw [wg259]) <;> (try rw [wg260]) <;> (try rw [w253]) <;> (try rw [w254]) <;> (try rw [w255]) <;> (try rw [w256]) <;> (try rw [wg142]) <;> (try rw [wg143]) <;> (try rw [wg144]) <;> (try rw [wg145]) <;> (try rw [wg146]) <;> (try rw [wg147]) <;> (try rw [wg148]) <;> (try rw [wg149]) <;> (try rw [wg150]) <;> (try rw [wg1]) <;> (try rw [wg2]) <;> (try rw [wg3]) <;> (try rw [wg4]) <;> (try rw [wg5]) <;> (try rw [wg6]) <;> (try rw [wg7]) <;> (try rw [wg8]) <;> (try rw [wg9]) <;> omega), ?_⟩
            intro x264 m265 qm265 kx264 lx264 p266 p267 p268 p269
            have z270 := zfx_t z251 qm265 rfl rfl
            have w271 : m265.1 66 ((30 : Nat) : Int) = g143 := (qm265.2.1 30 rfl).trans w252
            have w272 : m265.1 66 ((26 : Nat) : Int) = g147 := (qm265.2.1 26 rfl).trans w253
            have w273 : m265.1 66 ((27 : Nat) : Int) = (x219 + 1) := (qm265.2.1 27 rfl).trans w254
            have w274 : m265.1 66 ((24 : Nat) : Int) = g149 := (qm265.2.1 24 rfl).trans w255
            have w275 : m265.1 66 ((25 : Nat) : Int) = g150 := (qm265.2.1 25 rfl).trans w256
            obtain ⟨g276, wg276⟩ : ∃ z : Int, m265.1 66 ((31 : Nat) : Int) = z := ⟨_, rfl⟩
            obtain ⟨g277, wg277⟩ : ∃ z : Int, m265.1 66 ((33 : Nat) : Int) = z := ⟨_, rfl⟩
            obtain ⟨g278, wg278⟩ : ∃ z : Int, m265.1 66 ((34 : Nat) : Int) = z := ⟨_, rfl⟩
            obtain ⟨g279, wg279⟩ : ∃ z : Int, m265.1 66 ((32 : Nat) : Int) = z := ⟨_, rfl⟩
            try rw [wg276] at p266
            try rw [w271] at p266
            try rw [wg277] at p266
            try rw [wg278] at p266
            try rw [wg279] at p266
            try rw [w272] at p266
            try rw [w273] at p266
            try rw [w274] at p266
            try rw [w275] at p266
            try rw [wg257] at p266
            try rw [w252] at p266
            try rw [wg258] at p266
            try rw [wg259] at p266
            try rw [wg260] at p266
            try rw [w253] at p266
            try rw [w254] at p266
            try rw [w255] at p266
            try rw [w256] at p266
            try rw [wg1] at p266
            try rw [wg2] at p266
            try rw [wg3] at p266
            try rw [wg4] at p266
            try rw [wg5] at p266
            try rw [wg6] at p266
            try rw [wg7] at p266
            try rw [wg8] at p266
            try rw [wg9] at p266
            try rw [wg276] at p267
            try rw [w271] at p267
            try rw [wg277] at p267
            try rw [wg278] at p267
            try rw [wg279] at p267
            try rw [w272] at p267
            try rw [w273] at p267
            try rw [w274] at p267
            try rw [w275] at p267
            try rw [wg257] at p267
            try rw [w252] at p267
            try rw [wg258] at p267
            try rw [wg259] at p267
            try rw [wg260] at p267
            try rw [w253] at p267
            try rw [w254] at p267
            try rw [w255] at p267
            try rw [w256] at p267
            try rw [wg1] at p267
            try rw [wg2] at p267
            try rw [wg3] at p267
            try rw [wg4] at p267
            try rw [wg5] at p267
            try rw [wg6] at p267
            try rw [wg7] at p267
            try rw [wg8] at p267
            try rw [wg9] at p267
            try rw [wg276] at p268
            try rw [w271] at p268
            try rw [wg277] at p268
            try rw [wg278] at p268
            try rw [wg279] at p268
            try rw [w272] at p268
            try rw [w273] at p268
            try rw [w274] at p268
            try rw [w275] at p268
            try rw [wg257] at p268
            try rw [w252] at p268
            try rw [wg258] at p268
            try rw [wg259] at p268
            try rw [wg260] at p268
            try rw [w253] at p268
            try rw [w254] at p268
            try rw [w255] at p268
            try rw [w256] at p268
            try rw [wg1] at p268
            try rw [wg2] at p268
            try rw [wg3] at p268
            try rw [wg4] at p268
            try rw [wg5] at p268
            try rw [wg6] at p268
            try rw [wg7] at p268
            try rw [wg8] at p268
            try rw [wg9] at p268
            try rw [wg276] at p269
            try rw [w271] at p269
            try rw [wg277] at p269
            try rw [wg278] at p269
            try rw [wg279] at p269
            try rw [w272] at p269
            try rw [w273] at p269
            try rw [w274] at p269
            try rw [w275] at p269
            try rw [wg257] at p269
            try rw [w252] at p269
            try rw [wg258] at p269
            try rw [wg259] at p269
            try rw [wg260] at p269
            try rw [w253] at p269
            try rw [w254] at p269
            try rw [w255] at p269
            try rw [w256] at p269
            try rw [wg1] at p269
            try rw [wg2] at p269
            try rw [wg3] at p269
            try rw [wg4] at p269
            try rw [wg5] at p269
            try rw [wg6] at p269
            try rw [wg7] at p269
            try rw [wg8] at p269
            try rw [wg9] at p269
            clear wg257 w252 wg258 wg259 wg260 w253 w254 w255 w256
            have ot280 := zOt_fr ot261 (qm265.1 76 (by decide) rfl) (qm265.1 77 (by decide) rfl) (qm265.1 78 (by decide) rfl) (qm265.1 79 (by decide) rfl) (qm265.1 80 (by decide) rfl) (qm265.1 83 (by decide) rfl) (qm265.1 84 (by decide) rfl)
            have HD4 := zHd_fr HD3 (qm265.1 76 (by decide) rfl) (qm265.1 77 (by decide) rfl) (qm265.1 79 (by decide) rfl) (qm265.1 84 (by decide) rfl) (qm265.2.1 26 rfl) (qm265.2.1 27 rfl)
            have ZW : x264 = 1 → zrm m265 < zrm m0 := fun h => (by unfold zrm; simp only [wg276, w271, wg277, wg278, wg279, w272, w273, w274, w275, wg142, wg143, wg144, wg145, wg146, wg147, wg148, wg149, wg150, wg1, wg2, wg3, wg4, wg5, wg6, wg7, wg8, wg9]; (repeat' split) <;> omega)
            exact And.intro (zrtb (by omega)) (And.intro ⟨by omega, by omega⟩ (hQ _ _ z270 (by omega) (by omega) (by (try rw [wg276]) <;> (try rw [w271]) <;> (try rw [wg277]) <;> (try rw [wg278]) <;> (try rw [wg279]) <;> (try rw [w272]) <;> (try rw [w273]) <;> (try rw [w274]) <;> (try rw [w275]) <;> (try rw [wg142]) <;> (try rw [wg143]) <;> (try rw [wg144]) <;> (try rw [wg145]) <;> (try rw [wg146]) <;> (try rw [wg147]) <;> (try rw [wg148]) <;> (try rw [wg149]) <;> (try rw [wg150]) <;> (try rw [wg1]) <;> (try rw [wg2]) <;> (try rw [wg3]) <;> (try rw [wg4]) <;> (try rw [wg5]) <;> (try rw [wg6]) <;> (try rw [wg7]) <;> (try rw [wg8]) <;> (try rw [wg9]) <;> omega) (by (try rw [wg276]) <;> (try rw [w271]) <;> (try rw [wg277]) <;> (try rw [wg278]) <;> (try rw [wg279]) <;> (try rw [w272]) <;> (try rw [w273]) <;> (try rw [w274]) <;> (try rw [w275]) <;> (try rw [wg142]) <;> (try rw [wg143]) <;> (try rw [wg144]) <;> (try rw [wg145]) <;> (try rw [wg146]) <;> (try rw [wg147]) <;> (try rw [wg148]) <;> (try rw [wg149]) <;> (try rw [wg150]) <;> (try rw [wg1]) <;> (try rw [wg2]) <;> (try rw [wg3]) <;> (try rw [wg4]) <;> (try rw [wg5]) <;> (try rw [wg6]) <;> (try rw [wg7]) <;> (try rw [wg8]) <;> (try rw [wg9]) <;> omega) (fun h => ⟨by omega, HD4, Int.lt_trans (ZW h) i5⟩) ot280))
        · refine ⟨zk_X9_fail, zm_X9_fail hg d (by omega), _, rfl, ⟨by omega, by omega⟩, ?_⟩
          intro x281 m282 qm282 kx281 lx281
          have z283 := zfx_t z156 qm282 rfl rfl
          have w284 : m282.1 66 ((31 : Nat) : Int) = g162 := (qm282.2.1 31 rfl).trans wg162
          have w285 : m282.1 66 ((30 : Nat) : Int) = g143 := (qm282.2.1 30 rfl).trans w157
          have w286 : m282.1 66 ((33 : Nat) : Int) = g163 := (qm282.2.1 33 rfl).trans wg163
          have w287 : m282.1 66 ((34 : Nat) : Int) = g164 := (qm282.2.1 34 rfl).trans wg164
          have w288 : m282.1 66 ((32 : Nat) : Int) = g165 := (qm282.2.1 32 rfl).trans wg165
          have w289 : m282.1 66 ((26 : Nat) : Int) = g147 := (qm282.2.1 26 rfl).trans w158
          have w290 : m282.1 66 ((27 : Nat) : Int) = g148 := (qm282.2.1 27 rfl).trans w159
          have w291 : m282.1 66 ((24 : Nat) : Int) = g149 := (qm282.2.1 24 rfl).trans w160
          have w292 : m282.1 66 ((25 : Nat) : Int) = g150 := (qm282.2.1 25 rfl).trans w161
          clear wg162 w157 wg163 wg164 wg165 w158 w159 w160 w161
          have ot293 := zOt_fr ot166 (qm282.1 76 (by decide) rfl) (qm282.1 77 (by decide) rfl) (qm282.1 78 (by decide) rfl) (qm282.1 79 (by decide) rfl) (qm282.1 80 (by decide) rfl) (qm282.1 83 (by decide) rfl) (qm282.1 84 (by decide) rfl)
          exact And.intro (zrtb (by omega)) (And.intro ⟨by omega, by omega⟩ (hQ _ _ z283 (by omega) (by omega) (by (try rw [w284]) <;> (try rw [w285]) <;> (try rw [w286]) <;> (try rw [w287]) <;> (try rw [w288]) <;> (try rw [w289]) <;> (try rw [w290]) <;> (try rw [w291]) <;> (try rw [w292]) <;> (try rw [wg142]) <;> (try rw [wg143]) <;> (try rw [wg144]) <;> (try rw [wg145]) <;> (try rw [wg146]) <;> (try rw [wg147]) <;> (try rw [wg148]) <;> (try rw [wg149]) <;> (try rw [wg150]) <;> (try rw [wg1]) <;> (try rw [wg2]) <;> (try rw [wg3]) <;> (try rw [wg4]) <;> (try rw [wg5]) <;> (try rw [wg6]) <;> (try rw [wg7]) <;> (try rw [wg8]) <;> (try rw [wg9]) <;> omega) (by (try rw [w284]) <;> (try rw [w285]) <;> (try rw [w286]) <;> (try rw [w287]) <;> (try rw [w288]) <;> (try rw [w289]) <;> (try rw [w290]) <;> (try rw [w291]) <;> (try rw [w292]) <;> (try rw [wg142]) <;> (try rw [wg143]) <;> (try rw [wg144]) <;> (try rw [wg145]) <;> (try rw [wg146]) <;> (try rw [wg147]) <;> (try rw [wg148]) <;> (try rw [wg149]) <;> (try rw [wg150]) <;> (try rw [wg1]) <;> (try rw [wg2]) <;> (try rw [wg3]) <;> (try rw [wg4]) <;> (try rw [wg5]) <;> (try rw [wg6]) <;> (try rw [wg7]) <;> (try rw [wg8]) <;> (try rw [wg9]) <;> omega) (fun h => by exfalso; omega) ot293))
      · refine ⟨zk_X9_fail, zm_X9_fail hg d (by omega), _, rfl, ⟨by omega, by omega⟩, ?_⟩
        intro x294 m295 qm295 kx294 lx294
        have z296 := zfx_t z156 qm295 rfl rfl
        have w297 : m295.1 66 ((31 : Nat) : Int) = g162 := (qm295.2.1 31 rfl).trans wg162
        have w298 : m295.1 66 ((30 : Nat) : Int) = g143 := (qm295.2.1 30 rfl).trans w157
        have w299 : m295.1 66 ((33 : Nat) : Int) = g163 := (qm295.2.1 33 rfl).trans wg163
        have w300 : m295.1 66 ((34 : Nat) : Int) = g164 := (qm295.2.1 34 rfl).trans wg164
        have w301 : m295.1 66 ((32 : Nat) : Int) = g165 := (qm295.2.1 32 rfl).trans wg165
        have w302 : m295.1 66 ((26 : Nat) : Int) = g147 := (qm295.2.1 26 rfl).trans w158
        have w303 : m295.1 66 ((27 : Nat) : Int) = g148 := (qm295.2.1 27 rfl).trans w159
        have w304 : m295.1 66 ((24 : Nat) : Int) = g149 := (qm295.2.1 24 rfl).trans w160
        have w305 : m295.1 66 ((25 : Nat) : Int) = g150 := (qm295.2.1 25 rfl).trans w161
        clear wg162 w157 wg163 wg164 wg165 w158 w159 w160 w161
        have ot306 := zOt_fr ot166 (qm295.1 76 (by decide) rfl) (qm295.1 77 (by decide) rfl) (qm295.1 78 (by decide) rfl) (qm295.1 79 (by decide) rfl) (qm295.1 80 (by decide) rfl) (qm295.1 83 (by decide) rfl) (qm295.1 84 (by decide) rfl)
        exact And.intro (zrtb (by omega)) (And.intro ⟨by omega, by omega⟩ (hQ _ _ z296 (by omega) (by omega) (by (try rw [w297]) <;> (try rw [w298]) <;> (try rw [w299]) <;> (try rw [w300]) <;> (try rw [w301]) <;> (try rw [w302]) <;> (try rw [w303]) <;> (try rw [w304]) <;> (try rw [w305]) <;> (try rw [wg142]) <;> (try rw [wg143]) <;> (try rw [wg144]) <;> (try rw [wg145]) <;> (try rw [wg146]) <;> (try rw [wg147]) <;> (try rw [wg148]) <;> (try rw [wg149]) <;> (try rw [wg150]) <;> (try rw [wg1]) <;> (try rw [wg2]) <;> (try rw [wg3]) <;> (try rw [wg4]) <;> (try rw [wg5]) <;> (try rw [wg6]) <;> (try rw [wg7]) <;> (try rw [wg8]) <;> (try rw [wg9]) <;> omega) (by (try rw [w297]) <;> (try rw [w298]) <;> (try rw [w299]) <;> (try rw [w300]) <;> (try rw [w301]) <;> (try rw [w302]) <;> (try rw [w303]) <;> (try rw [w304]) <;> (try rw [w305]) <;> (try rw [wg142]) <;> (try rw [wg143]) <;> (try rw [wg144]) <;> (try rw [wg145]) <;> (try rw [wg146]) <;> (try rw [wg147]) <;> (try rw [wg148]) <;> (try rw [wg149]) <;> (try rw [wg150]) <;> (try rw [wg1]) <;> (try rw [wg2]) <;> (try rw [wg3]) <;> (try rw [wg4]) <;> (try rw [wg5]) <;> (try rw [wg6]) <;> (try rw [wg7]) <;> (try rw [wg8]) <;> (try rw [wg9]) <;> omega) (fun h => by exfalso; omega) ot306))
    · refine ⟨zk_X9_fail, zm_X9_fail hg d (by omega), _, rfl, ⟨by omega, by omega⟩, ?_⟩
      intro x307 m308 qm308 kx307 lx307
      have z309 := zfx_t z156 qm308 rfl rfl
      have w310 : m308.1 66 ((31 : Nat) : Int) = g162 := (qm308.2.1 31 rfl).trans wg162
      have w311 : m308.1 66 ((30 : Nat) : Int) = g143 := (qm308.2.1 30 rfl).trans w157
      have w312 : m308.1 66 ((33 : Nat) : Int) = g163 := (qm308.2.1 33 rfl).trans wg163
      have w313 : m308.1 66 ((34 : Nat) : Int) = g164 := (qm308.2.1 34 rfl).trans wg164
      have w314 : m308.1 66 ((32 : Nat) : Int) = g165 := (qm308.2.1 32 rfl).trans wg165
      have w315 : m308.1 66 ((26 : Nat) : Int) = g147 := (qm308.2.1 26 rfl).trans w158
      have w316 : m308.1 66 ((27 : Nat) : Int) = g148 := (qm308.2.1 27 rfl).trans w159
      have w317 : m308.1 66 ((24 : Nat) : Int) = g149 := (qm308.2.1 24 rfl).trans w160
      have w318 : m308.1 66 ((25 : Nat) : Int) = g150 := (qm308.2.1 25 rfl).trans w161
      clear wg162 w157 wg163 wg164 wg165 w158 w159 w160 w161
      have ot319 := zOt_fr ot166 (qm308.1 76 (by decide) rfl) (qm308.1 77 (by decide) rfl) (qm308.1 78 (by decide) rfl) (qm308.1 79 (by decide) rfl) (qm308.1 80 (by decide) rfl) (qm308.1 83 (by decide) rfl) (qm308.1 84 (by decide) rfl)
      exact And.intro (zrtb (by omega)) (And.intro ⟨by omega, by omega⟩ (hQ _ _ z309 (by omega) (by omega) (by (try rw [w310]) <;> (try rw [w311]) <;> (try rw [w312]) <;> (try rw [w313]) <;> (try rw [w314]) <;> (try rw [w315]) <;> (try rw [w316]) <;> (try rw [w317]) <;> (try rw [w318]) <;> (try rw [wg142]) <;> (try rw [wg143]) <;> (try rw [wg144]) <;> (try rw [wg145]) <;> (try rw [wg146]) <;> (try rw [wg147]) <;> (try rw [wg148]) <;> (try rw [wg149]) <;> (try rw [wg150]) <;> (try rw [wg1]) <;> (try rw [wg2]) <;> (try rw [wg3]) <;> (try rw [wg4]) <;> (try rw [wg5]) <;> (try rw [wg6]) <;> (try rw [wg7]) <;> (try rw [wg8]) <;> (try rw [wg9]) <;> omega) (by (try rw [w310]) <;> (try rw [w311]) <;> (try rw [w312]) <;> (try rw [w313]) <;> (try rw [w314]) <;> (try rw [w315]) <;> (try rw [w316]) <;> (try rw [w317]) <;> (try rw [w318]) <;> (try rw [wg142]) <;> (try rw [wg143]) <;> (try rw [wg144]) <;> (try rw [wg145]) <;> (try rw [wg146]) <;> (try rw [wg147]) <;> (try rw [wg148]) <;> (try rw [wg149]) <;> (try rw [wg150]) <;> (try rw [wg1]) <;> (try rw [wg2]) <;> (try rw [wg3]) <;> (try rw [wg4]) <;> (try rw [wg5]) <;> (try rw [wg6]) <;> (try rw [wg7]) <;> (try rw [wg8]) <;> (try rw [wg9]) <;> omega) (fun h => by exfalso; omega) ot319))
