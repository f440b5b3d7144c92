set_option maxHeartbeats 4000000 in
theorem ym_X9_readHead {g : zΓ} (hg : zg g) (d : Nat) (hd : 5 ≤ d) : zOk g d 143 yk_X9_readHead := by
  obtain ⟨d, rfl⟩ : ∃ d', d = d' + 1 := ⟨d - 1, by omega⟩
  refine zOk_loop hg (show mt_tab[143]? = some mt_X9_readHead from rfl) ([(128, [0, 1])], []) 166 rfl fun As μ Q hC => ?_
  obtain ⟨a1, τ, p, B, rfl, ha1, hp0, hp1, hp2, hp3, hp4, hp5, hQ⟩ := hC
  have r_ha1 := ha1
  have r_hp0 := hp0
  have r_hp1 := hp1
  have r_hp2 := hp2
  have r_hp3 := hp3
  have r_hp4 := hp4
  have r_hp5 := hp5
  have NB : a1 = B.1 0 0 := hp1.2.2.symm.trans hp4.1.2.2.1
  have HI0 : yI 0 0 [] B := (by rcases hp5 with q | q; exact absurd (show (0 : Nat) = 20 from q) (by decide); exact q)
  have HB0 := HI0.1.1
  have NP0 : μ.1 66 ((27 : Nat) : Int) = B.1 0 1 := hp4.1.2.2.2.1
  obtain ⟨g1, wg1⟩ : ∃ z : Int, μ.1 66 ((31 : Nat) : Int) = z := ⟨_, rfl⟩
  obtain ⟨g2, wg2⟩ : ∃ z : Int, μ.1 66 ((30 : Nat) : Int) = z := ⟨_, rfl⟩
  obtain ⟨g3, wg3⟩ : ∃ z : Int, μ.1 66 ((33 : Nat) : Int) = z := ⟨_, rfl⟩
  obtain ⟨g4, wg4⟩ : ∃ z : Int, μ.1 66 ((34 : Nat) : Int) = z := ⟨_, rfl⟩
  obtain ⟨g5, wg5⟩ : ∃ z : Int, μ.1 66 ((32 : Nat) : Int) = z := ⟨_, rfl⟩
  obtain ⟨g6, wg6⟩ : ∃ z : Int, μ.1 66 ((26 : Nat) : Int) = z := ⟨_, rfl⟩
  obtain ⟨g7, wg7⟩ : ∃ z : Int, μ.1 66 ((27 : Nat) : Int) = z := ⟨_, rfl⟩
  obtain ⟨g8, wg8⟩ : ∃ z : Int, μ.1 66 ((24 : Nat) : Int) = z := ⟨_, rfl⟩
  obtain ⟨g9, wg9⟩ : ∃ z : Int, μ.1 66 ((25 : Nat) : Int) = z := ⟨_, rfl⟩
  try rw [wg1] at hp0
  try rw [wg2] at hp0
  try rw [wg3] at hp0
  try rw [wg4] at hp0
  try rw [wg5] at hp0
  try rw [wg6] at hp0
  try rw [wg7] at hp0
  try rw [wg8] at hp0
  try rw [wg9] at hp0
  try rw [wg1] at hp1
  try rw [wg2] at hp1
  try rw [wg3] at hp1
  try rw [wg4] at hp1
  try rw [wg5] at hp1
  try rw [wg6] at hp1
  try rw [wg7] at hp1
  try rw [wg8] at hp1
  try rw [wg9] at hp1
  try rw [wg1] at hp2
  try rw [wg2] at hp2
  try rw [wg3] at hp2
  try rw [wg4] at hp2
  try rw [wg5] at hp2
  try rw [wg6] at hp2
  try rw [wg7] at hp2
  try rw [wg8] at hp2
  try rw [wg9] at hp2
  try rw [wg1] at hp3
  try rw [wg2] at hp3
  try rw [wg3] at hp3
  try rw [wg4] at hp3
  try rw [wg5] at hp3
  try rw [wg6] at hp3
  try rw [wg7] at hp3
  try rw [wg8] at hp3
  try rw [wg9] at hp3
  try rw [wg1] at hp4
  try rw [wg2] at hp4
  try rw [wg3] at hp4
  try rw [wg4] at hp4
  try rw [wg5] at hp4
  try rw [wg6] at hp4
  try rw [wg7] at hp4
  try rw [wg8] at hp4
  try rw [wg9] at hp4
  try rw [wg1] at hp5
  try rw [wg2] at hp5
  try rw [wg3] at hp5
  try rw [wg4] at hp5
  try rw [wg5] at hp5
  try rw [wg6] at hp5
  try rw [wg7] at hp5
  try rw [wg8] at hp5
  try rw [wg9] at hp5
  have KK0 := rkd hp3 wg5
  rw [wg7] at NP0
  have z0 : zfx [76, 77, 79, 82, 84, 3000075, 3000081] [26, 27, 31, 32, 33, 34, 35, 36] μ μ := zfx_x μ
  refine ⟨rfl, yi_X9_readHead μ a1 τ p B, ?_, ym_X9_readHead_128 hg d hd μ Q a1 τ p B r_ha1 r_hp0 r_hp1 r_hp2 r_hp3 r_hp4 r_hp5 hQ, trivial⟩
  · intro x10 hx10 kx10 lx10
    rw [wg5] at hx10
    refine And.intro ⟨⟨by omega, by omega⟩, ⟨by omega, by omega⟩⟩ (And.intro (fun c11 => ?_) (fun c11 => ?_))
    · refine ⟨yk_X9_name, ym_X9_name hg d (by omega), rfl, (by (try rw [wg1]) <;> (try rw [wg2]) <;> (try rw [wg3]) <;> (try rw [wg4]) <;> (try rw [wg5]) <;> (try rw [wg6]) <;> (try rw [wg7]) <;> (try rw [wg8]) <;> (try rw [wg9]) <;> omega), ?_⟩
      intro j12 p13
      refine ⟨yk_X9_findClass, ym_X9_findClass hg d (by omega), _, rfl, ?_⟩
      intro x14 kx14 lx14 p15 p16
      try rw [wg1] at p15
      try rw [wg2] at p15
      try rw [wg3] at p15
      try rw [wg4] at p15
      try rw [wg5] at p15
      try rw [wg6] at p15
      try rw [wg7] at p15
      try rw [wg8] at p15
      try rw [wg9] at p15
      try rw [wg1] at p15
      try rw [wg2] at p15
      try rw [wg3] at p15
      try rw [wg4] at p15
      try rw [wg5] at p15
      try rw [wg6] at p15
      try rw [wg7] at p15
      try rw [wg8] at p15
      try rw [wg9] at p15
      have FC : x14 = yfc B (ynm τ p).toInt := rNu_fc hp4 (by have h1 := p16; rw [show j12 = ynm τ p from rLx_n hp3 ((rKd_n KK0).mp (by omega)) p13] at h1; exact h1)
      refine And.intro ⟨by omega, by omega⟩ (And.intro (fun c17 => ?_) (fun c17 => ?_))
      · intro x18 hx18 kx18 lx18
        rw [wg6] at hx18
        refine And.intro ⟨⟨by omega, by omega⟩, ⟨by omega, by omega⟩⟩ (And.intro (fun c19 => ?_) (fun c19 => ?_))
        · intro x20 hx20 kx20 lx20
          rw [wg8] at hx20
          refine ⟨yk_X9_name, ym_X9_name hg d (by omega), rfl, (by (try rw [wg1]) <;> (try rw [wg2]) <;> (try rw [wg3]) <;> (try rw [wg4]) <;> (try rw [wg5]) <;> (try rw [wg6]) <;> (try rw [wg7]) <;> (try rw [wg8]) <;> (try rw [wg9]) <;> omega), ?_⟩
          intro j21 p22
          refine And.intro ⟨by omega, by omega⟩ ?_
          intro m23 em23
          have z24 := zfx_r z0 em23 rfl (by decide)
          have w25 : m23.1 66 ((31 : Nat) : Int) = g1 := by rw [em23]; exact (congrFun (zu_ne (by decide)) _).trans wg1
          have w26 : m23.1 66 ((30 : Nat) : Int) = g2 := by rw [em23]; exact (congrFun (zu_ne (by decide)) _).trans wg2
          have w27 : m23.1 66 ((33 : Nat) : Int) = g3 := by rw [em23]; exact (congrFun (zu_ne (by decide)) _).trans wg3
          have w28 : m23.1 66 ((34 : Nat) : Int) = g4 := by rw [em23]; exact (congrFun (zu_ne (by decide)) _).trans wg4
          have w29 : m23.1 66 ((32 : Nat) : Int) = g5 := by rw [em23]; exact (congrFun (zu_ne (by decide)) _).trans wg5
          have w30 : m23.1 66 ((26 : Nat) : Int) = g6 := by rw [em23]; exact (congrFun (zu_ne (by decide)) _).trans wg6
          have w31 : m23.1 66 ((27 : Nat) : Int) = g7 := by rw [em23]; exact (congrFun (zu_ne (by decide)) _).trans wg7
          have w32 : m23.1 66 ((24 : Nat) : Int) = g8 := by rw [em23]; exact (congrFun (zu_ne (by decide)) _).trans wg8
          have w33 : m23.1 66 ((25 : Nat) : Int) = g9 := by rw [em23]; exact (congrFun (zu_ne (by decide)) _).trans wg9
          have ot34 := zOt_w (zOt_r μ) em23 ⟨fun h => absurd h (by decide), fun h => absurd h (by decide), fun h => absurd h (by decide), fun h => absurd h (by decide), fun h => absurd h (by decide)⟩
          intro x35 hx35 kx35 lx35
          rw [w32] at hx35
          intro x36 hx36 kx36 lx36
          rw [w31] at hx36
          refine And.intro ⟨by omega, by omega⟩ (And.intro ⟨by omega, by omega⟩ ?_)
          intro m37 em37
          have z38 := zfx_r z24 em37 rfl (by decide)
          have w39 : m37.1 66 ((31 : Nat) : Int) = g1 := by rw [em37]; exact (congrFun (zu_ne (by decide)) _).trans w25
          have w40 : m37.1 66 ((30 : Nat) : Int) = g2 := by rw [em37]; exact (congrFun (zu_ne (by decide)) _).trans w26
          have w41 : m37.1 66 ((33 : Nat) : Int) = g3 := by rw [em37]; exact (congrFun (zu_ne (by decide)) _).trans w27
          have w42 : m37.1 66 ((34 : Nat) : Int) = g4 := by rw [em37]; exact (congrFun (zu_ne (by decide)) _).trans w28
          have w43 : m37.1 66 ((32 : Nat) : Int) = g5 := by rw [em37]; exact (congrFun (zu_ne (by decide)) _).trans w29
          have w44 : m37.1 66 ((26 : Nat) : Int) = g6 := by rw [em37]; exact (congrFun (zu_ne (by decide)) _).trans w30
          have w45 : m37.1 66 ((27 : Nat) : Int) = g7 := by rw [em37]; exact (congrFun (zu_ne (by decide)) _).trans w31
          have w46 : m37.1 66 ((24 : Nat) : Int) = g8 := by rw [em37]; exact (congrFun (zu_ne (by decide)) _).trans w32
          have w47 : m37.1 66 ((25 : Nat) : Int) = g9 := by rw [em37]; exact (congrFun (zu_ne (by decide)) _).trans w33
          clear w25 w26 w27 w28 w29 w30 w31 w32 w33
          have ot48 := zOt_w ot34 em37 (by have hk : (21 : Int) ≤ (x35 + a1) := (by omega); refine ⟨fun h => ?_, fun h => ?_, fun h => ?_, fun h => ?_, fun h => ?_⟩ <;> first | exact hk | (exfalso; revert h; decide))
          intro x49 hx49 kx49 lx49
          rw [w46] at hx49
          refine And.intro ⟨by omega, by omega⟩ (And.intro ⟨by omega, by omega⟩ ?_)
          intro m50 em50
          have z51 := zfx_r z38 em50 rfl (by decide)
          have w52 : m50.1 66 ((31 : Nat) : Int) = g1 := by rw [em50]; exact (congrFun (zu_ne (by decide)) _).trans w39
          have w53 : m50.1 66 ((30 : Nat) : Int) = g2 := by rw [em50]; exact (congrFun (zu_ne (by decide)) _).trans w40
          have w54 : m50.1 66 ((33 : Nat) : Int) = g3 := by rw [em50]; exact (congrFun (zu_ne (by decide)) _).trans w41
          have w55 : m50.1 66 ((34 : Nat) : Int) = g4 := by rw [em50]; exact (congrFun (zu_ne (by decide)) _).trans w42
          have w56 : m50.1 66 ((32 : Nat) : Int) = g5 := by rw [em50]; exact (congrFun (zu_ne (by decide)) _).trans w43
          have w57 : m50.1 66 ((26 : Nat) : Int) = g6 := by rw [em50]; exact (congrFun (zu_ne (by decide)) _).trans w44
          have w58 : m50.1 66 ((27 : Nat) : Int) = g7 := by rw [em50]; exact (congrFun (zu_ne (by decide)) _).trans w45
          have w59 : m50.1 66 ((24 : Nat) : Int) = g8 := by rw [em50]; exact (congrFun (zu_ne (by decide)) _).trans w46
          have w60 : m50.1 66 ((25 : Nat) : Int) = g9 := by rw [em50]; exact (congrFun (zu_ne (by decide)) _).trans w47
          clear w39 w40 w41 w42 w43 w44 w45 w46 w47
          have ot61 := zOt_w ot48 em50 (by have hk : (21 : Int) ≤ (x49 + a1) := (by omega); refine ⟨fun h => ?_, fun h => ?_, fun h => ?_, fun h => ?_, fun h => ?_⟩ <;> first | exact hk | (exfalso; revert h; decide))
          intro x62 hx62 kx62 lx62
          rw [w59] at hx62
          refine And.intro ⟨by omega, by omega⟩ (And.intro ⟨by omega, by omega⟩ ?_)
          intro m63 em63
          have z64 := zfx_r z51 em63 rfl (by decide)
          have w65 : m63.1 66 ((31 : Nat) : Int) = g1 := by rw [em63]; exact (congrFun (zu_ne (by decide)) _).trans w52
          have w66 : m63.1 66 ((30 : Nat) : Int) = g2 := by rw [em63]; exact (congrFun (zu_ne (by decide)) _).trans w53
          have w67 : m63.1 66 ((33 : Nat) : Int) = g3 := by rw [em63]; exact (congrFun (zu_ne (by decide)) _).trans w54
          have w68 : m63.1 66 ((34 : Nat) : Int) = g4 := by rw [em63]; exact (congrFun (zu_ne (by decide)) _).trans w55
          have w69 : m63.1 66 ((32 : Nat) : Int) = g5 := by rw [em63]; exact (congrFun (zu_ne (by decide)) _).trans w56
          have w70 : m63.1 66 ((26 : Nat) : Int) = g6 := by rw [em63]; exact (congrFun (zu_ne (by decide)) _).trans w57
          have w71 : m63.1 66 ((27 : Nat) : Int) = g7 := by rw [em63]; exact (congrFun (zu_ne (by decide)) _).trans w58
          have w72 : m63.1 66 ((24 : Nat) : Int) = g8 := by rw [em63]; exact (congrFun (zu_ne (by decide)) _).trans w59
          have w73 : m63.1 66 ((25 : Nat) : Int) = g9 := by rw [em63]; exact (congrFun (zu_ne (by decide)) _).trans w60
          clear w52 w53 w54 w55 w56 w57 w58 w59 w60
          have ot74 := zOt_w ot61 em63 (by have hk : (21 : Int) ≤ (x62 + a1) := (by omega); refine ⟨fun h => ?_, fun h => ?_, fun h => ?_, fun h => ?_, fun h => ?_⟩ <;> first | exact hk | (exfalso; revert h; decide))
          intro x75 hx75 kx75 lx75
          rw [w70] at hx75
          refine And.intro ⟨by omega, by omega⟩ ?_
          intro m76 em76
          have z77 := zfx_f z64 em76 rfl
          have w78 : m76.1 66 ((31 : Nat) : Int) = g1 := by rw [em76]; exact (zu_nk (by decide)).trans w65
          have w79 : m76.1 66 ((30 : Nat) : Int) = g2 := by rw [em76]; exact (zu_nk (by decide)).trans w66
          have w80 : m76.1 66 ((33 : Nat) : Int) = g3 := by rw [em76]; exact (zu_nk (by decide)).trans w67
          have w81 : m76.1 66 ((34 : Nat) : Int) = g4 := by rw [em76]; exact (zu_nk (by decide)).trans w68
          have w82 : m76.1 66 ((32 : Nat) : Int) = g5 := by rw [em76]; exact (zu_nk (by decide)).trans w69
          have w83 : m76.1 66 ((26 : Nat) : Int) = (x75 + 1) := by rw [em76]; exact zu_at
          have w84 : m76.1 66 ((27 : Nat) : Int) = g7 := by rw [em76]; exact (zu_nk (by decide)).trans w71
          have w85 : m76.1 66 ((24 : Nat) : Int) = g8 := by rw [em76]; exact (zu_nk (by decide)).trans w72
          have w86 : m76.1 66 ((25 : Nat) : Int) = g9 := by rw [em76]; exact (zu_nk (by decide)).trans w73
          clear w65 w66 w67 w68 w69 w70 w71 w72 w73
          have ot87 := zOt_w ot74 em76 ⟨fun h => absurd h (by decide), fun h => absurd h (by decide), fun h => absurd h (by decide), fun h => absurd h (by decide), fun h => absurd h (by decide)⟩
          have NJ : j21 = ynm τ p := rLx_n hp3 ((rKd_n KK0).mp (by omega)) p22
          have N0 : rNu m76 (yB1 B (ynm τ p).toInt) := rNu_ac hp4 (fun k => by rw [em76, zu_ne (by decide), em63, zu_ne (by decide), em50, zu_ne (by decide), em37, zu_ne (by decide), em23, zu_if]; by_cases hk : k = 21 + B.1 0 0; (rw [if_pos hk, if_pos (by omega)]; rw [NJ]); (rw [if_neg hk, if_neg (by omega)])) (fun k => by rw [em76, zu_ne (by decide), em63, zu_ne (by decide), em50, zu_ne (by decide), em37, zu_if, em23, zu_ne (by decide)]; by_cases hk : k = 21 + B.1 0 0; (rw [if_pos hk, if_pos (by omega)]; omega); (rw [if_neg hk, if_neg (by omega)])) (fun k => by rw [em76, zu_ne (by decide), em63, zu_ne (by decide), em50, zu_if, em37, zu_ne (by decide), em23, zu_ne (by decide)]; by_cases hk : k = 21 + B.1 0 0; (rw [if_pos hk, if_pos (by omega)]); (rw [if_neg hk, if_neg (by omega)])) (fun k => by rw [em76, zu_ne (by decide), em63, zu_if, em50, zu_ne (by decide), em37, zu_ne (by decide), em23, zu_ne (by decide)]; by_cases hk : k = 21 + B.1 0 0; (rw [if_pos hk, if_pos (by omega)]); (rw [if_neg hk, if_neg (by omega)])) (by rw [em76, zu_ne (by decide), em63, zu_ne (by decide), em50, zu_ne (by decide), em37, zu_ne (by decide), em23, zu_ne (by decide)]) (by rw [em76, zu_ne (by decide), em63, zu_ne (by decide), em50, zu_ne (by decide), em37, zu_ne (by decide), em23, zu_ne (by decide)]) (fun k hk => by rw [em76, zu_nk (by omega), em63, zu_ne (by decide), em50, zu_ne (by decide), em37, zu_ne (by decide), em23, zu_ne (by decide)]) (by rw [em76, zu_at]; omega)
          have L0 : rLx m76 τ p := rLx_f hp3 (by rw [em76, zu_ne (by decide), em63, zu_ne (by decide), em50, zu_ne (by decide), em37, zu_ne (by decide), em23, zu_ne (by decide)]) (fun k a b => by rw [em76, zu_nk (by omega), em63, zu_ne (by decide), em50, zu_ne (by decide), em37, zu_ne (by decide), em23, zu_ne (by decide)])
          have HD := zHd_L em23 (by decide) (zHd_0 (c := a1) em37 em50 em63 em76 (by omega) (by omega) (by omega) (by rw [em23, zu_ne (by decide)]; omega) (by omega))
          refine ⟨yk_X9_pass, ym_X9_pass hg d (by omega), rfl, (by (try rw [w78]) <;> (try rw [w79]) <;> (try rw [w80]) <;> (try rw [w81]) <;> (try rw [w82]) <;> (try rw [w83]) <;> (try rw [w84]) <;> (try rw [w85]) <;> (try rw [w86]) <;> (try rw [wg1]) <;> (try rw [wg2]) <;> (try rw [wg3]) <;> (try rw [wg4]) <;> (try rw [wg5]) <;> (try rw [wg6]) <;> (try rw [wg7]) <;> (try rw [wg8]) <;> (try rw [wg9]) <;> omega), ?_⟩
          intro m88 qm88 p89 p90 p91 p92 p93
          have z94 := zfx_t z77 qm88 rfl rfl
          have w95 : m88.1 66 ((30 : Nat) : Int) = g2 := (qm88.2.1 30 rfl).trans w79
          have w96 : m88.1 66 ((26 : Nat) : Int) = (x75 + 1) := (qm88.2.1 26 rfl).trans w83
          have w97 : m88.1 66 ((27 : Nat) : Int) = g7 := (qm88.2.1 27 rfl).trans w84
          have w98 : m88.1 66 ((24 : Nat) : Int) = g8 := (qm88.2.1 24 rfl).trans w85
          have w99 : m88.1 66 ((25 : Nat) : Int) = g9 := (qm88.2.1 25 rfl).trans w86
          obtain ⟨g100, wg100⟩ : ∃ z : Int, m88.1 66 ((31 : Nat) : Int) = z := ⟨_, rfl⟩
          obtain ⟨g101, wg101⟩ : ∃ z : Int, m88.1 66 ((33 : Nat) : Int) = z := ⟨_, rfl⟩
          obtain ⟨g102, wg102⟩ : ∃ z : Int, m88.1 66 ((34 : Nat) : Int) = z := ⟨_, rfl⟩
          obtain ⟨g103, wg103⟩ : ∃ z : Int, m88.1 66 ((32 : Nat) : Int) = z := ⟨_, rfl⟩
          try rw [wg100] at p89
          try rw [w95] at p89
          try rw [wg101] at p89
          try rw [wg102] at p89
          try rw [wg103] at p89
          try rw [w96] at p89
          try rw [w97] at p89
          try rw [w98] at p89
          try rw [w99] at p89
          try rw [w78] at p89
          try rw [w79] at p89
          try rw [w80] at p89
          try rw [w81] at p89
          try rw [w82] at p89
          try rw [w83] at p89
          try rw [w84] at p89
          try rw [w85] at p89
          try rw [w86] at p89
          try rw [wg1] at p89
          try rw [wg2] at p89
          try rw [wg3] at p89
          try rw [wg4] at p89
          try rw [wg5] at p89
          try rw [wg6] at p89
          try rw [wg7] at p89
          try rw [wg8] at p89
          try rw [wg9] at p89
          try rw [wg100] at p90
          try rw [w95] at p90
          try rw [wg101] at p90
          try rw [wg102] at p90
          try rw [wg103] at p90
          try rw [w96] at p90
          try rw [w97] at p90
          try rw [w98] at p90
          try rw [w99] at p90
          try rw [w78] at p90
          try rw [w79] at p90
          try rw [w80] at p90
          try rw [w81] at p90
          try rw [w82] at p90
          try rw [w83] at p90
          try rw [w84] at p90
          try rw [w85] at p90
          try rw [w86] at p90
          try rw [wg1] at p90
          try rw [wg2] at p90
          try rw [wg3] at p90
          try rw [wg4] at p90
          try rw [wg5] at p90
          try rw [wg6] at p90
          try rw [wg7] at p90
          try rw [wg8] at p90
          try rw [wg9] at p90
          try rw [wg100] at p91
          try rw [w95] at p91
          try rw [wg101] at p91
          try rw [wg102] at p91
          try rw [wg103] at p91
          try rw [w96] at p91
          try rw [w97] at p91
          try rw [w98] at p91
          try rw [w99] at p91
          try rw [w78] at p91
          try rw [w79] at p91
          try rw [w80] at p91
          try rw [w81] at p91
          try rw [w82] at p91
          try rw [w83] at p91
          try rw [w84] at p91
          try rw [w85] at p91
          try rw [w86] at p91
          try rw [wg1] at p91
          try rw [wg2] at p91
          try rw [wg3] at p91
          try rw [wg4] at p91
          try rw [wg5] at p91
          try rw [wg6] at p91
          try rw [wg7] at p91
          try rw [wg8] at p91
          try rw [wg9] at p91
          try rw [wg100] at p92
          try rw [w95] at p92
          try rw [wg101] at p92
          try rw [wg102] at p92
          try rw [wg103] at p92
          try rw [w96] at p92
          try rw [w97] at p92
          try rw [w98] at p92
          try rw [w99] at p92
          try rw [w78] at p92
          try rw [w79] at p92
          try rw [w80] at p92
          try rw [w81] at p92
          try rw [w82] at p92
          try rw [w83] at p92
          try rw [w84] at p92
          try rw [w85] at p92
          try rw [w86] at p92
          try rw [wg1] at p92
          try rw [wg2] at p92
          try rw [wg3] at p92
          try rw [wg4] at p92
          try rw [wg5] at p92
          try rw [wg6] at p92
          try rw [wg7] at p92
          try rw [wg8] at p92
          try rw [wg9] at p92
          clear w78 w79 w80 w81 w82 w83 w84 w85 w86
          have ot104 := zOt_fr ot87 (qm88.1 76 (by decide) rfl) (qm88.1 77 (by decide) rfl) (qm88.1 78 (by decide) rfl) (qm88.1 79 (by decide) rfl) (qm88.1 80 (by decide) rfl) (qm88.1 83 (by decide) rfl) (qm88.1 84 (by decide) rfl)
          have HD1 := zHd_fr HD (qm88.1 76 (by decide) rfl) (qm88.1 77 (by decide) rfl) (qm88.1 79 (by decide) rfl) (qm88.1 84 (by decide) rfl) (qm88.2.1 26 rfl) (qm88.2.1 27 rfl)
          have ZL : zrm m88 < zrm μ := (by unfold zrm; simp only [wg100, w95, wg101, wg102, wg103, w96, w97, w98, w99, wg1, wg2, wg3, wg4, wg5, wg6, wg7, wg8, wg9]; (repeat' split) <;> omega)
          have L1 := rLx_p L0 (qm88.1 85 (by decide) rfl) (qm88.2.1 30 rfl) p93
          have N1 := rNu_z N0 qm88 ⟨rfl, rfl, rfl, rfl, rfl, rfl⟩ ⟨rfl, rfl, rfl, rfl, rfl, rfl⟩
          have KK1 := rkd L1 wg103
          have R1 := yR_s (yR_r τ (0, p, 0, [], B)) (ym0_k ((rKd_n KK0).mp (by omega)) (by omega) (by omega))
          have V1 := yB1_v B (ynm τ p).toInt
          intro x105 hx105 kx105 lx105
          rw [wg103] at hx105
          refine And.intro ⟨⟨by omega, by omega⟩, ⟨by omega, by omega⟩⟩ (And.intro (fun c106 => ?_) (fun c106 => ?_))
          · refine Exists.intro (Int.toNat (zrm m88)) ?_
            exact ⟨_, rfl, z94, ⟨by omega, by omega⟩, (by (try rw [wg100]) <;> (try rw [w95]) <;> (try rw [wg101]) <;> (try rw [wg102]) <;> (try rw [wg103]) <;> (try rw [w96]) <;> (try rw [w97]) <;> (try rw [w98]) <;> (try rw [w99]) <;> (try rw [wg1]) <;> (try rw [wg2]) <;> (try rw [wg3]) <;> (try rw [wg4]) <;> (try rw [wg5]) <;> (try rw [wg6]) <;> (try rw [wg7]) <;> (try rw [wg8]) <;> (try rw [wg9]) <;> omega), (by (try rw [wg100]) <;> (try rw [w95]) <;> (try rw [wg101]) <;> (try rw [wg102]) <;> (try rw [wg103]) <;> (try rw [w96]) <;> (try rw [w97]) <;> (try rw [w98]) <;> (try rw [w99]) <;> (try rw [wg1]) <;> (try rw [wg2]) <;> (try rw [wg3]) <;> (try rw [wg4]) <;> (try rw [wg5]) <;> (try rw [wg6]) <;> (try rw [wg7]) <;> (try rw [wg8]) <;> (try rw [wg9]) <;> omega), ⟨rfl, by omega⟩, (by (try rw [wg100]) <;> (try rw [w95]) <;> (try rw [wg101]) <;> (try rw [wg102]) <;> (try rw [wg103]) <;> (try rw [w96]) <;> (try rw [w97]) <;> (try rw [w98]) <;> (try rw [w99]) <;> (try rw [wg1]) <;> (try rw [wg2]) <;> (try rw [wg3]) <;> (try rw [wg4]) <;> (try rw [wg5]) <;> (try rw [wg6]) <;> (try rw [wg7]) <;> (try rw [wg8]) <;> (try rw [wg9]) <;> omega), HD1, ZL, (Or.inl (by (try rw [wg100]) <;> (try rw [w95]) <;> (try rw [wg101]) <;> (try rw [wg102]) <;> (try rw [wg103]) <;> (try rw [w96]) <;> (try rw [w97]) <;> (try rw [w98]) <;> (try rw [w99]) <;> (try rw [wg1]) <;> (try rw [wg2]) <;> (try rw [wg3]) <;> (try rw [wg4]) <;> (try rw [wg5]) <;> (try rw [wg6]) <;> (try rw [wg7]) <;> (try rw [wg8]) <;> (try rw [wg9]) <;> omega)), ot104, ⟨_, _, yR_s R1 (ym1_a ((rKd_s 60 KK1 (by decide)).mp (by omega))), L1, N1, by rw [V1.1.2.2.2]; omega, by rw [V1.1.1]; omega, V1.2.2.2.2⟩, rfl⟩
          · exact And.intro (zrtb (by omega)) (And.intro ⟨by omega, by omega⟩ (hQ _ _ z94 (by omega) (by omega) (by (try rw [wg100]) <;> (try rw [w95]) <;> (try rw [wg101]) <;> (try rw [wg102]) <;> (try rw [wg103]) <;> (try rw [w96]) <;> (try rw [w97]) <;> (try rw [w98]) <;> (try rw [w99]) <;> (try rw [wg1]) <;> (try rw [wg2]) <;> (try rw [wg3]) <;> (try rw [wg4]) <;> (try rw [wg5]) <;> (try rw [wg6]) <;> (try rw [wg7]) <;> (try rw [wg8]) <;> (try rw [wg9]) <;> omega) (by (try rw [wg100]) <;> (try rw [w95]) <;> (try rw [wg101]) <;> (try rw [wg102]) <;> (try rw [wg103]) <;> (try rw [w96]) <;> (try rw [w97]) <;> (try rw [w98]) <;> (try rw [w99]) <;> (try rw [wg1]) <;> (try rw [wg2]) <;> (try rw [wg3]) <;> (try rw [wg4]) <;> (try rw [wg5]) <;> (try rw [wg6]) <;> (try rw [wg7]) <;> (try rw [wg8]) <;> (try rw [wg9]) <;> omega) (fun h => ⟨by omega, HD1, ZL⟩) ot104 (Or.inr ⟨rfl, _, _, yR_s R1 (ym1_b (fun h0 => by have h1 := (rKd_s 60 KK1 (by decide)).mpr h0; omega)), L1, N1, by rw [V1.1.2.2.2]; omega, V1.2.2.2.2⟩)))
        · refine ⟨yk_X9_fail, ym_X9_fail hg d (by omega), _, rfl, ⟨by omega, by omega⟩, ?_⟩
          intro x107 m108 qm108 kx107 lx107 p109
          have z110 := zfx_t z0 qm108 rfl rfl
          have w111 : m108.1 66 ((31 : Nat) : Int) = g1 := (qm108.2.1 31 rfl).trans wg1
          have w112 : m108.1 66 ((30 : Nat) : Int) = g2 := (qm108.2.1 30 rfl).trans wg2
          have w113 : m108.1 66 ((33 : Nat) : Int) = g3 := (qm108.2.1 33 rfl).trans wg3
          have w114 : m108.1 66 ((34 : Nat) : Int) = g4 := (qm108.2.1 34 rfl).trans wg4
          have w115 : m108.1 66 ((32 : Nat) : Int) = g5 := (qm108.2.1 32 rfl).trans wg5
          have w116 : m108.1 66 ((26 : Nat) : Int) = g6 := (qm108.2.1 26 rfl).trans wg6
          have w117 : m108.1 66 ((27 : Nat) : Int) = g7 := (qm108.2.1 27 rfl).trans wg7
          have w118 : m108.1 66 ((24 : Nat) : Int) = g8 := (qm108.2.1 24 rfl).trans wg8
          have w119 : m108.1 66 ((25 : Nat) : Int) = g9 := (qm108.2.1 25 rfl).trans wg9
          have ot120 := zOt_fr (zOt_r μ) (qm108.1 76 (by decide) rfl) (qm108.1 77 (by decide) rfl) (qm108.1 78 (by decide) rfl) (qm108.1 79 (by decide) rfl) (qm108.1 80 (by decide) rfl) (qm108.1 83 (by decide) rfl) (qm108.1 84 (by decide) rfl)
          exact And.intro (zrtb (by omega)) (And.intro ⟨by omega, by omega⟩ (hQ _ _ z110 (by omega) (by omega) (by (try rw [w111]) <;> (try rw [w112]) <;> (try rw [w113]) <;> (try rw [w114]) <;> (try rw [w115]) <;> (try rw [w116]) <;> (try rw [w117]) <;> (try rw [w118]) <;> (try rw [w119]) <;> (try rw [wg1]) <;> (try rw [wg2]) <;> (try rw [wg3]) <;> (try rw [wg4]) <;> (try rw [wg5]) <;> (try rw [wg6]) <;> (try rw [wg7]) <;> (try rw [wg8]) <;> (try rw [wg9]) <;> omega) (by (try rw [w111]) <;> (try rw [w112]) <;> (try rw [w113]) <;> (try rw [w114]) <;> (try rw [w115]) <;> (try rw [w116]) <;> (try rw [w117]) <;> (try rw [w118]) <;> (try rw [w119]) <;> (try rw [wg1]) <;> (try rw [wg2]) <;> (try rw [wg3]) <;> (try rw [wg4]) <;> (try rw [wg5]) <;> (try rw [wg6]) <;> (try rw [wg7]) <;> (try rw [wg8]) <;> (try rw [wg9]) <;> omega) (fun h => by exfalso; omega) ot120 (Or.inl ⟨by omega, rFa_t (yR_r τ _) (rFa_f hp3 hp4.1.2.2.2.2.2 (yR_s (yR_r τ _) (ym0_6 ((rKd_n KK0).mp (by omega)) (by omega) (by omega))) p109)⟩)))
      · refine ⟨yk_X9_fail, ym_X9_fail hg d (by omega), _, rfl, ⟨by omega, by omega⟩, ?_⟩
        intro x121 m122 qm122 kx121 lx121 p123
        have z124 := zfx_t z0 qm122 rfl rfl
        have w125 : m122.1 66 ((31 : Nat) : Int) = g1 := (qm122.2.1 31 rfl).trans wg1
        have w126 : m122.1 66 ((30 : Nat) : Int) = g2 := (qm122.2.1 30 rfl).trans wg2
        have w127 : m122.1 66 ((33 : Nat) : Int) = g3 := (qm122.2.1 33 rfl).trans wg3
        have w128 : m122.1 66 ((34 : Nat) : Int) = g4 := (qm122.2.1 34 rfl).trans wg4
        have w129 : m122.1 66 ((32 : Nat) : Int) = g5 := (qm122.2.1 32 rfl).trans wg5
        have w130 : m122.1 66 ((26 : Nat) : Int) = g6 := (qm122.2.1 26 rfl).trans wg6
        have w131 : m122.1 66 ((27 : Nat) : Int) = g7 := (qm122.2.1 27 rfl).trans wg7
        have w132 : m122.1 66 ((24 : Nat) : Int) = g8 := (qm122.2.1 24 rfl).trans wg8
        have w133 : m122.1 66 ((25 : Nat) : Int) = g9 := (qm122.2.1 25 rfl).trans wg9
        have ot134 := zOt_fr (zOt_r μ) (qm122.1 76 (by decide) rfl) (qm122.1 77 (by decide) rfl) (qm122.1 78 (by decide) rfl) (qm122.1 79 (by decide) rfl) (qm122.1 80 (by decide) rfl) (qm122.1 83 (by decide) rfl) (qm122.1 84 (by decide) rfl)
        exact And.intro (zrtb (by omega)) (And.intro ⟨by omega, by omega⟩ (hQ _ _ z124 (by omega) (by omega) (by (try rw [w125]) <;> (try rw [w126]) <;> (try rw [w127]) <;> (try rw [w128]) <;> (try rw [w129]) <;> (try rw [w130]) <;> (try rw [w131]) <;> (try rw [w132]) <;> (try rw [w133]) <;> (try rw [wg1]) <;> (try rw [wg2]) <;> (try rw [wg3]) <;> (try rw [wg4]) <;> (try rw [wg5]) <;> (try rw [wg6]) <;> (try rw [wg7]) <;> (try rw [wg8]) <;> (try rw [wg9]) <;> omega) (by (try rw [w125]) <;> (try rw [w126]) <;> (try rw [w127]) <;> (try rw [w128]) <;> (try rw [w129]) <;> (try rw [w130]) <;> (try rw [w131]) <;> (try rw [w132]) <;> (try rw [w133]) <;> (try rw [wg1]) <;> (try rw [wg2]) <;> (try rw [wg3]) <;> (try rw [wg4]) <;> (try rw [wg5]) <;> (try rw [wg6]) <;> (try rw [wg7]) <;> (try rw [wg8]) <;> (try rw [wg9]) <;> omega) (fun h => by exfalso; omega) ot134 (Or.inl ⟨by omega, rFa_t (yR_r τ _) (rFa_f hp3 hp4.1.2.2.2.2.2 (yR_s (yR_r τ _) (ym0_3 ((rKd_n KK0).mp (by omega)) (by omega))) p123)⟩)))
    · refine ⟨yk_X9_fail, ym_X9_fail hg d (by omega), _, rfl, ⟨by omega, by omega⟩, ?_⟩
      intro x135 m136 qm136 kx135 lx135 p137
      have z138 := zfx_t z0 qm136 rfl rfl
      have w139 : m136.1 66 ((31 : Nat) : Int) = g1 := (qm136.2.1 31 rfl).trans wg1
      have w140 : m136.1 66 ((30 : Nat) : Int) = g2 := (qm136.2.1 30 rfl).trans wg2
      have w141 : m136.1 66 ((33 : Nat) : Int) = g3 := (qm136.2.1 33 rfl).trans wg3
      have w142 : m136.1 66 ((34 : Nat) : Int) = g4 := (qm136.2.1 34 rfl).trans wg4
      have w143 : m136.1 66 ((32 : Nat) : Int) = g5 := (qm136.2.1 32 rfl).trans wg5
      have w144 : m136.1 66 ((26 : Nat) : Int) = g6 := (qm136.2.1 26 rfl).trans wg6
      have w145 : m136.1 66 ((27 : Nat) : Int) = g7 := (qm136.2.1 27 rfl).trans wg7
      have w146 : m136.1 66 ((24 : Nat) : Int) = g8 := (qm136.2.1 24 rfl).trans wg8
      have w147 : m136.1 66 ((25 : Nat) : Int) = g9 := (qm136.2.1 25 rfl).trans wg9
      have ot148 := zOt_fr (zOt_r μ) (qm136.1 76 (by decide) rfl) (qm136.1 77 (by decide) rfl) (qm136.1 78 (by decide) rfl) (qm136.1 79 (by decide) rfl) (qm136.1 80 (by decide) rfl) (qm136.1 83 (by decide) rfl) (qm136.1 84 (by decide) rfl)
      exact And.intro (zrtb (by omega)) (And.intro ⟨by omega, by omega⟩ (hQ _ _ z138 (by omega) (by omega) (by (try rw [w139]) <;> (try rw [w140]) <;> (try rw [w141]) <;> (try rw [w142]) <;> (try rw [w143]) <;> (try rw [w144]) <;> (try rw [w145]) <;> (try rw [w146]) <;> (try rw [w147]) <;> (try rw [wg1]) <;> (try rw [wg2]) <;> (try rw [wg3]) <;> (try rw [wg4]) <;> (try rw [wg5]) <;> (try rw [wg6]) <;> (try rw [wg7]) <;> (try rw [wg8]) <;> (try rw [wg9]) <;> omega) (by (try rw [w139]) <;> (try rw [w140]) <;> (try rw [w141]) <;> (try rw [w142]) <;> (try rw [w143]) <;> (try rw [w144]) <;> (try rw [w145]) <;> (try rw [w146]) <;> (try rw [w147]) <;> (try rw [wg1]) <;> (try rw [wg2]) <;> (try rw [wg3]) <;> (try rw [wg4]) <;> (try rw [wg5]) <;> (try rw [wg6]) <;> (try rw [wg7]) <;> (try rw [wg8]) <;> (try rw [wg9]) <;> omega) (fun h => by exfalso; omega) ot148 (Or.inl ⟨by omega, rFa_t (yR_r τ _) (rFa_f hp3 hp4.1.2.2.2.2.2 (yR_s (yR_r τ _) (ym0_2 (fun h0 => by have h1 := (rKd_n KK0).mpr h0; omega))) p137)⟩)))
