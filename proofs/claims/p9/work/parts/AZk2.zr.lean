set_option maxHeartbeats 4000000 in
theorem ym_X9_readHead {g : zΓ} (hg : zg g) (d : Nat) (hd : 5 ≤ d) : zOk g d 143 yk_X9_readHead := by
  obtain ⟨d, rfl⟩ : ∃ d', d = d' + 1 := ⟨d - 1, by omega⟩
  refine zOk_loop hg (show mt_tab[143]? = some mt_X9_readHead from rfl) ([(128, [0, 1])], []) 166 rfl fun As μ Q hC => ?_
  obtain ⟨a1, τ, p, B, rfl, ha1, hp0, hp1, hp2, hp3, hp4, hp5, hQ⟩ := hC
  have r_ha1 := ha1
  have r_hp0 := hp0
  have r_hp1 := hp1
  have r_hp2 := hp2
  have r_hp3 := hp3
  have r_hp4 := hp4
  have r_hp5 := hp5
  have NB : a1 = B.1 0 0 := hp1.2.2.symm.trans hp4.1.2.2.1
  have HI0 : yI 0 0 [] B := (by rcases hp5 with q | q; exact absurd (show (0 : Nat) = 20 from q) (by decide); exact q)
  have HB0 := HI0.1.1
  have NP0 : μ.1 66 ((27 : Nat) : Int) = B.1 0 1 := hp4.1.2.2.2.1
  obtain ⟨g1, wg1⟩ : ∃ z : Int, μ.1 66 ((31 : Nat) : Int) = z := ⟨_, rfl⟩
  obtain ⟨g2, wg2⟩ : ∃ z : Int, μ.1 66 ((30 : Nat) : Int) = z := ⟨_, rfl⟩
  obtain ⟨g3, wg3⟩ : ∃ z : Int, μ.1 66 ((33 : Nat) : Int) = z := ⟨_, rfl⟩
  obtain ⟨g4, wg4⟩ : ∃ z : Int, μ.1 66 ((34 : Nat) : Int) = z := ⟨_, rfl⟩
  obtain ⟨g5, wg5⟩ : ∃ z : Int, μ.1 66 ((32 : Nat) : Int) = z := ⟨_, rfl⟩
  obtain ⟨g6, wg6⟩ : ∃ z : Int, μ.1 66 ((26 : Nat) : Int) = z := ⟨_, rfl⟩
  obtain ⟨g7, wg7⟩ : ∃ z : Int, μ.1 66 ((27 : Nat) : Int) = z := ⟨_, rfl⟩
  obtain ⟨g8, wg8⟩ : ∃ z : Int, μ.1 66 ((24 : Nat) : Int) = z := ⟨_, rfl⟩
  obtain ⟨g9, wg9⟩ : ∃ z : Int, μ.1 66 ((25 : Nat) : Int) = z := ⟨_, rfl⟩
  try rw [wg1] at hp0
  try rw [wg2] at hp0
  try rw [wg3] at hp0
  try rw [wg4] at hp0
  try rw [wg5] at hp0
  try rw [wg6] at hp0
  try rw [wg7] at hp0
  try rw [wg8] at hp0
  try rw [wg9] at hp0
  try rw [wg1] at hp1
  try rw [wg2] at hp1
  try rw [wg3] at hp1
  try rw [wg4] at hp1
  try rw [wg5] at hp1
  try rw [wg6] at hp1
  try rw [wg7] at hp1
  try rw [wg8] at hp1
  try rw [wg9] at hp1
  try rw [wg1] at hp2
  try rw [wg2] at hp2
  try rw [wg3] at hp2
  try rw [wg4] at hp2
  try rw [wg5] at hp2
  try rw [wg6] at hp2
  try rw [wg7] at hp2
  try rw [wg8] at hp2
  try rw [wg9] at hp2
  try rw [wg1] at hp3
  try rw [wg2] at hp3
  try rw [wg3] at hp3
  try rw [wg4] at hp3
  try rw [wg5] at hp3
  try rw [wg6] at hp3
  try rw [wg7] at hp3
  try rw [wg8] at hp3
  try rw [wg9] at hp3
  try rw [wg1] at hp4
  try rw [wg2] at hp4
  try rw [wg3] at hp4
  try rw [wg4] at hp4
  try rw [wg5] at hp4
  try rw [wg6] at hp4
  try rw [wg7] at hp4
  try rw [wg8] at hp4
  try rw [wg9] at hp4
  try rw [wg1] at hp5
  try rw [wg2] at hp5
  try rw [wg3] at hp5
  try rw [wg4] at hp5
  try rw [wg5] at hp5
  try rw [wg6] at hp5
  try rw [wg7] at hp5
  try rw [wg8] at hp5
  try rw [wg9] at hp5
  have KK0 := rkd hp3 wg5
  rw [wg7] at NP0
  have z0 : zfx [76, 77, 79, 82, 84, 3000075, 3000081] [26, 27, 31, 32, 33, 34, 35, 36] μ μ := zfx_x μ
  refine ⟨rfl, yi_X9_readHead μ a1 τ p B, ?_, ym_X9_readHead_128 hg d hd μ Q a1 τ p B r_ha1 r_hp0 r_hp1 r_hp2 r_hp3 r_hp4 r_hp5 hQ, trivial⟩
  · intro x10 hx10 kx10 lx10
    rw [wg5] at hx10
    refine And.intro ⟨⟨by omega, by omega⟩, ⟨by omega, by omega⟩⟩ (And.intro (fun c11 => ?_) (fun c11 => ?_))
    · refine ⟨yk_X9_name, ym_X9_name hg d (by omega), rfl, (by (try rw [wg1]) <;> (try rw [wg2]) <;> (try rw [wg3]) <;> (try rw [wg4]) <;> (try rw [wg5]) <;> (try rw [wg6]) <;> (try rw [wg7]) <;> (try rw [wg8]) <;> (try rw [wg9]) <;> omega), ?_⟩
      intro j12 p13
      refine ⟨yk_X9_findClass, ym_X9_findClass hg d (by omega), _, rfl, ?_⟩
      intro x14 kx14 lx14 p15 p16
      try rw [wg1] at p15
      try rw [wg2] at p15
      try rw [wg3] at p15
      try rw [wg4] at p15
      try rw [wg5] at p15
      try rw [wg6] at p15
      try rw [wg7] at p15
      try rw [wg8] at p15
      try rw [wg9] at p15
      try rw [wg1] at p15
      try rw [wg2] at p15
      try rw [wg3] at p15
      try rw [wg4] at p15
      try rw [wg5] at p15
      try rw [wg6] at p15
      try rw [wg7] at p15
      try rw [wg8] at p15
      try rw [wg9] at p15
      have FC : x14 = yfc B (ynm τ p).toInt := rNu_fc hp4 (by have h1 := p16; rw [show j12 = ynm τ p from rLx_n hp3 ((rKd_n KK0).mp (by omega)) p13] at h1; exact h1)
      refine And.intro ⟨by omega, by omega⟩ (And.intro (fun c17 => ?_) (fun c17 => ?_))
      · intro x18 hx18 kx18 lx18
        rw [wg6] at hx18
        refine And.intro ⟨⟨by omega, by omega⟩, ⟨by omega, by omega⟩⟩ (And.intro (fun c19 => ?_) (fun c19 => ?_))
        · intro x20 hx20 kx20 lx20
          rw [wg8] at hx20
          refine ⟨yk_X9_name, ym_X9_name hg d (by omega), rfl, (by (try rw [wg1]) <;> (try rw [wg2]) <;> (try rw [wg3]) <;> (try rw [wg4]) <;> (try rw [wg5]) <;> (try rw [wg6]) <;> (try rw [wg7]) <;> (try rw [wg8]) <;> (try rw [wg9]) <;> omega), ?_⟩
          intro j21 p22
          refine And.intro ⟨by omega, by omega⟩ ?_
          intro m23 em23
          have z24 := zfx_r z0 em23 rfl (by decide)
          have w25 : m23.1 66 ((31 : Nat) : Int) = g1 := by rw [em23]; exact (congrFun (zu_ne (by decide)) _).trans wg1
          have w26 : m23.1 66 ((30 : Nat) : Int) = g2 := by rw [em23]; exact (congrFun (zu_ne (by decide)) _).trans wg2
          have w27 : m23.1 66 ((33 : Nat) : Int) = g3 := by rw [em23]; exact (congrFun (zu_ne (by decide)) _).trans wg3
          have w28 : m23.1 66 ((34 : Nat) : Int) = g4 := by rw [em23]; exact (congrFun (zu_ne (by decide)) _).trans wg4
          have w29 : m23.1 66 ((32 : Nat) : Int) = g5 := by rw [em23]; exact (congrFun (zu_ne (by decide)) _).trans wg5
          have w30 : m23.1 66 ((26 : Nat) : Int) = g6 := by rw [em23]; exact (congrFun (zu_ne (by decide)) _).trans wg6
          have w31 : m23.1 66 ((27 : Nat) : Int) = g7 := by rw [em23]; exact (congrFun (zu_ne (by decide)) _).trans wg7
          have w32 : m23.1 66 ((24 : Nat) : Int) = g8 := by rw [em23]; exact (congrFun (zu_ne (by decide)) _).trans wg8
          have w33 : m23.1 66 ((25 : Nat) : Int) = g9 := by rw [em23]; exact (congrFun (zu_ne (by decide)) _).trans wg9
          have ot34 := zOt_w (zOt_r μ) em23 ⟨fun h => absurd h (by decide), fun h => absurd h (by decide), fun h => absurd h (by decide), fun h => absurd h (by decide), fun h => absurd h (by decide)⟩
          have on35 := zOn_w (zOn_r μ) em23 ⟨fun _ => by omega, fun h => absurd h (by decide), fun h => absurd h (by decide)⟩
          intro x36 hx36 kx36 lx36
          rw [w32] at hx36
          intro x37 hx37 kx37 lx37
          rw [w31] at hx37
          refine And.intro ⟨by omega, by omega⟩ (And.intro ⟨by omega, by omega⟩ ?_)
          intro m38 em38
          have z39 := zfx_r z24 em38 rfl (by decide)
          have w40 : m38.1 66 ((31 : Nat) : Int) = g1 := by rw [em38]; exact (congrFun (zu_ne (by decide)) _).trans w25
          have w41 : m38.1 66 ((30 : Nat) : Int) = g2 := by rw [em38]; exact (congrFun (zu_ne (by decide)) _).trans w26
          have w42 : m38.1 66 ((33 : Nat) : Int) = g3 := by rw [em38]; exact (congrFun (zu_ne (by decide)) _).trans w27
          have w43 : m38.1 66 ((34 : Nat) : Int) = g4 := by rw [em38]; exact (congrFun (zu_ne (by decide)) _).trans w28
          have w44 : m38.1 66 ((32 : Nat) : Int) = g5 := by rw [em38]; exact (congrFun (zu_ne (by decide)) _).trans w29
          have w45 : m38.1 66 ((26 : Nat) : Int) = g6 := by rw [em38]; exact (congrFun (zu_ne (by decide)) _).trans w30
          have w46 : m38.1 66 ((27 : Nat) : Int) = g7 := by rw [em38]; exact (congrFun (zu_ne (by decide)) _).trans w31
          have w47 : m38.1 66 ((24 : Nat) : Int) = g8 := by rw [em38]; exact (congrFun (zu_ne (by decide)) _).trans w32
          have w48 : m38.1 66 ((25 : Nat) : Int) = g9 := by rw [em38]; exact (congrFun (zu_ne (by decide)) _).trans w33
          clear w25 w26 w27 w28 w29 w30 w31 w32 w33
          have ot49 := zOt_w ot34 em38 (by have hk : (21 : Int) ≤ (x36 + a1) := (by omega); refine ⟨fun h => ?_, fun h => ?_, fun h => ?_, fun h => ?_, fun h => ?_⟩ <;> first | exact hk | (exfalso; revert h; decide))
          have on50 := zOn_w on35 em38 ⟨fun h => absurd h (by decide), fun h => absurd h (by decide), fun h => absurd h (by decide)⟩
          intro x51 hx51 kx51 lx51
          rw [w47] at hx51
          refine And.intro ⟨by omega, by omega⟩ (And.intro ⟨by omega, by omega⟩ ?_)
          intro m52 em52
          have z53 := zfx_r z39 em52 rfl (by decide)
          have w54 : m52.1 66 ((31 : Nat) : Int) = g1 := by rw [em52]; exact (congrFun (zu_ne (by decide)) _).trans w40
          have w55 : m52.1 66 ((30 : Nat) : Int) = g2 := by rw [em52]; exact (congrFun (zu_ne (by decide)) _).trans w41
          have w56 : m52.1 66 ((33 : Nat) : Int) = g3 := by rw [em52]; exact (congrFun (zu_ne (by decide)) _).trans w42
          have w57 : m52.1 66 ((34 : Nat) : Int) = g4 := by rw [em52]; exact (congrFun (zu_ne (by decide)) _).trans w43
          have w58 : m52.1 66 ((32 : Nat) : Int) = g5 := by rw [em52]; exact (congrFun (zu_ne (by decide)) _).trans w44
          have w59 : m52.1 66 ((26 : Nat) : Int) = g6 := by rw [em52]; exact (congrFun (zu_ne (by decide)) _).trans w45
          have w60 : m52.1 66 ((27 : Nat) : Int) = g7 := by rw [em52]; exact (congrFun (zu_ne (by decide)) _).trans w46
          have w61 : m52.1 66 ((24 : Nat) : Int) = g8 := by rw [em52]; exact (congrFun (zu_ne (by decide)) _).trans w47
          have w62 : m52.1 66 ((25 : Nat) : Int) = g9 := by rw [em52]; exact (congrFun (zu_ne (by decide)) _).trans w48
          clear w40 w41 w42 w43 w44 w45 w46 w47 w48
          have ot63 := zOt_w ot49 em52 (by have hk : (21 : Int) ≤ (x51 + a1) := (by omega); refine ⟨fun h => ?_, fun h => ?_, fun h => ?_, fun h => ?_, fun h => ?_⟩ <;> first | exact hk | (exfalso; revert h; decide))
          have on64 := zOn_w on50 em52 ⟨fun h => absurd h (by decide), fun h => absurd h (by decide), fun h => absurd h (by decide)⟩
          intro x65 hx65 kx65 lx65
          rw [w61] at hx65
          refine And.intro ⟨by omega, by omega⟩ (And.intro ⟨by omega, by omega⟩ ?_)
          intro m66 em66
          have z67 := zfx_r z53 em66 rfl (by decide)
          have w68 : m66.1 66 ((31 : Nat) : Int) = g1 := by rw [em66]; exact (congrFun (zu_ne (by decide)) _).trans w54
          have w69 : m66.1 66 ((30 : Nat) : Int) = g2 := by rw [em66]; exact (congrFun (zu_ne (by decide)) _).trans w55
          have w70 : m66.1 66 ((33 : Nat) : Int) = g3 := by rw [em66]; exact (congrFun (zu_ne (by decide)) _).trans w56
          have w71 : m66.1 66 ((34 : Nat) : Int) = g4 := by rw [em66]; exact (congrFun (zu_ne (by decide)) _).trans w57
          have w72 : m66.1 66 ((32 : Nat) : Int) = g5 := by rw [em66]; exact (congrFun (zu_ne (by decide)) _).trans w58
          have w73 : m66.1 66 ((26 : Nat) : Int) = g6 := by rw [em66]; exact (congrFun (zu_ne (by decide)) _).trans w59
          have w74 : m66.1 66 ((27 : Nat) : Int) = g7 := by rw [em66]; exact (congrFun (zu_ne (by decide)) _).trans w60
          have w75 : m66.1 66 ((24 : Nat) : Int) = g8 := by rw [em66]; exact (congrFun (zu_ne (by decide)) _).trans w61
          have w76 : m66.1 66 ((25 : Nat) : Int) = g9 := by rw [em66]; exact (congrFun (zu_ne (by decide)) _).trans w62
          clear w54 w55 w56 w57 w58 w59 w60 w61 w62
          have ot77 := zOt_w ot63 em66 (by have hk : (21 : Int) ≤ (x65 + a1) := (by omega); refine ⟨fun h => ?_, fun h => ?_, fun h => ?_, fun h => ?_, fun h => ?_⟩ <;> first | exact hk | (exfalso; revert h; decide))
          have on78 := zOn_w on64 em66 ⟨fun h => absurd h (by decide), fun h => absurd h (by decide), fun h => absurd h (by decide)⟩
          intro x79 hx79 kx79 lx79
          rw [w73] at hx79
          refine And.intro ⟨by omega, by omega⟩ ?_
          intro m80 em80
          have z81 := zfx_f z67 em80 rfl
          have w82 : m80.1 66 ((31 : Nat) : Int) = g1 := by rw [em80]; exact (zu_nk (by decide)).trans w68
          have w83 : m80.1 66 ((30 : Nat) : Int) = g2 := by rw [em80]; exact (zu_nk (by decide)).trans w69
          have w84 : m80.1 66 ((33 : Nat) : Int) = g3 := by rw [em80]; exact (zu_nk (by decide)).trans w70
          have w85 : m80.1 66 ((34 : Nat) : Int) = g4 := by rw [em80]; exact (zu_nk (by decide)).trans w71
          have w86 : m80.1 66 ((32 : Nat) : Int) = g5 := by rw [em80]; exact (zu_nk (by decide)).trans w72
          have w87 : m80.1 66 ((26 : Nat) : Int) = (x79 + 1) := by rw [em80]; exact zu_at
          have w88 : m80.1 66 ((27 : Nat) : Int) = g7 := by rw [em80]; exact (zu_nk (by decide)).trans w74
          have w89 : m80.1 66 ((24 : Nat) : Int) = g8 := by rw [em80]; exact (zu_nk (by decide)).trans w75
          have w90 : m80.1 66 ((25 : Nat) : Int) = g9 := by rw [em80]; exact (zu_nk (by decide)).trans w76
          clear w68 w69 w70 w71 w72 w73 w74 w75 w76
          have ot91 := zOt_w ot77 em80 ⟨fun h => absurd h (by decide), fun h => absurd h (by decide), fun h => absurd h (by decide), fun h => absurd h (by decide), fun h => absurd h (by decide)⟩
          have on92 := zOn_w on78 em80 ⟨fun h => absurd h (by decide), fun h => absurd h (by decide), fun h => absurd h (by decide)⟩
          have NJ : j21 = ynm τ p := rLx_n hp3 ((rKd_n KK0).mp (by omega)) p22
          have N0 : rNu m80 (yB1 B (ynm τ p).toInt) := rNu_ac hp4 (fun k => by rw [em80, zu_ne (by decide), em66, zu_ne (by decide), em52, zu_ne (by decide), em38, zu_ne (by decide), em23, zu_if]; by_cases hk : k = 21 + B.1 0 0; (rw [if_pos hk, if_pos (by omega)]; rw [NJ]); (rw [if_neg hk, if_neg (by omega)])) (fun k => by rw [em80, zu_ne (by decide), em66, zu_ne (by decide), em52, zu_ne (by decide), em38, zu_if, em23, zu_ne (by decide)]; by_cases hk : k = 21 + B.1 0 0; (rw [if_pos hk, if_pos (by omega)]; omega); (rw [if_neg hk, if_neg (by omega)])) (fun k => by rw [em80, zu_ne (by decide), em66, zu_ne (by decide), em52, zu_if, em38, zu_ne (by decide), em23, zu_ne (by decide)]; by_cases hk : k = 21 + B.1 0 0; (rw [if_pos hk, if_pos (by omega)]); (rw [if_neg hk, if_neg (by omega)])) (fun k => by rw [em80, zu_ne (by decide), em66, zu_if, em52, zu_ne (by decide), em38, zu_ne (by decide), em23, zu_ne (by decide)]; by_cases hk : k = 21 + B.1 0 0; (rw [if_pos hk, if_pos (by omega)]); (rw [if_neg hk, if_neg (by omega)])) (by rw [em80, zu_ne (by decide), em66, zu_ne (by decide), em52, zu_ne (by decide), em38, zu_ne (by decide), em23, zu_ne (by decide)]) (by rw [em80, zu_ne (by decide), em66, zu_ne (by decide), em52, zu_ne (by decide), em38, zu_ne (by decide), em23, zu_ne (by decide)]) (fun k hk => by rw [em80, zu_nk (by omega), em66, zu_ne (by decide), em52, zu_ne (by decide), em38, zu_ne (by decide), em23, zu_ne (by decide)]) (by rw [em80, zu_at]; omega)
          have L0 : rLx m80 τ p := rLx_f hp3 (by rw [em80, zu_ne (by decide), em66, zu_ne (by decide), em52, zu_ne (by decide), em38, zu_ne (by decide), em23, zu_ne (by decide)]) (fun k a b => by rw [em80, zu_nk (by omega), em66, zu_ne (by decide), em52, zu_ne (by decide), em38, zu_ne (by decide), em23, zu_ne (by decide)])
          have HD := zHd_L em23 (by decide) (zHd_0 (c := a1) em38 em52 em66 em80 (by omega) (by omega) (by omega) (by rw [em23, zu_ne (by decide)]; omega) (by omega))
          refine ⟨yk_X9_pass, ym_X9_pass hg d (by omega), rfl, (by (try rw [w82]) <;> (try rw [w83]) <;> (try rw [w84]) <;> (try rw [w85]) <;> (try rw [w86]) <;> (try rw [w87]) <;> (try rw [w88]) <;> (try rw [w89]) <;> (try rw [w90]) <;> (try rw [wg1]) <;> (try rw [wg2]) <;> (try rw [wg3]) <;> (try rw [wg4]) <;> (try rw [wg5]) <;> (try rw [wg6]) <;> (try rw [wg7]) <;> (try rw [wg8]) <;> (try rw [wg9]) <;> omega), ?_⟩
          intro m93 qm93 p94 p95 p96 p97 p98
          have z99 := zfx_t z81 qm93 rfl rfl
          have w100 : m93.1 66 ((30 : Nat) : Int) = g2 := (qm93.2.1 30 rfl).trans w83
          have w101 : m93.1 66 ((26 : Nat) : Int) = (x79 + 1) := (qm93.2.1 26 rfl).trans w87
          have w102 : m93.1 66 ((27 : Nat) : Int) = g7 := (qm93.2.1 27 rfl).trans w88
          have w103 : m93.1 66 ((24 : Nat) : Int) = g8 := (qm93.2.1 24 rfl).trans w89
          have w104 : m93.1 66 ((25 : Nat) : Int) = g9 := (qm93.2.1 25 rfl).trans w90
          obtain ⟨g105, wg105⟩ : ∃ z : Int, m93.1 66 ((31 : Nat) : Int) = z := ⟨_, rfl⟩
          obtain ⟨g106, wg106⟩ : ∃ z : Int, m93.1 66 ((33 : Nat) : Int) = z := ⟨_, rfl⟩
          obtain ⟨g107, wg107⟩ : ∃ z : Int, m93.1 66 ((34 : Nat) : Int) = z := ⟨_, rfl⟩
          obtain ⟨g108, wg108⟩ : ∃ z : Int, m93.1 66 ((32 : Nat) : Int) = z := ⟨_, rfl⟩
          try rw [wg105] at p94
          try rw [w100] at p94
          try rw [wg106] at p94
          try rw [wg107] at p94
          try rw [wg108] at p94
          try rw [w101] at p94
          try rw [w102] at p94
          try rw [w103] at p94
          try rw [w104] at p94
          try rw [w82] at p94
          try rw [w83] at p94
          try rw [w84] at p94
          try rw [w85] at p94
          try rw [w86] at p94
          try rw [w87] at p94
          try rw [w88] at p94
          try rw [w89] at p94
          try rw [w90] at p94
          try rw [wg1] at p94
          try rw [wg2] at p94
          try rw [wg3] at p94
          try rw [wg4] at p94
          try rw [wg5] at p94
          try rw [wg6] at p94
          try rw [wg7] at p94
          try rw [wg8] at p94
          try rw [wg9] at p94
          try rw [wg105] at p95
          try rw [w100] at p95
          try rw [wg106] at p95
          try rw [wg107] at p95
          try rw [wg108] at p95
          try rw [w101] at p95
          try rw [w102] at p95
          try rw [w103] at p95
          try rw [w104] at p95
          try rw [w82] at p95
          try rw [w83] at p95
          try rw [w84] at p95
          try rw [w85] at p95
          try rw [w86] at p95
          try rw [w87] at p95
          try rw [w88] at p95
          try rw [w89] at p95
          try rw [w90] at p95
          try rw [wg1] at p95
          try rw [wg2] at p95
          try rw [wg3] at p95
          try rw [wg4] at p95
          try rw [wg5] at p95
          try rw [wg6] at p95
          try rw [wg7] at p95
          try rw [wg8] at p95
          try rw [wg9] at p95
          try rw [wg105] at p96
          try rw [w100] at p96
          try rw [wg106] at p96
          try rw [wg107] at p96
          try rw [wg108] at p96
          try rw [w101] at p96
          try rw [w102] at p96
          try rw [w103] at p96
          try rw [w104] at p96
          try rw [w82] at p96
          try rw [w83] at p96
          try rw [w84] at p96
          try rw [w85] at p96
          try rw [w86] at p96
          try rw [w87] at p96
          try rw [w88] at p96
          try rw [w89] at p96
          try rw [w90] at p96
          try rw [wg1] at p96
          try rw [wg2] at p96
          try rw [wg3] at p96
          try rw [wg4] at p96
          try rw [wg5] at p96
          try rw [wg6] at p96
          try rw [wg7] at p96
          try rw [wg8] at p96
          try rw [wg9] at p96
          try rw [wg105] at p97
          try rw [w100] at p97
          try rw [wg106] at p97
          try rw [wg107] at p97
          try rw [wg108] at p97
          try rw [w101] at p97
          try rw [w102] at p97
          try rw [w103] at p97
          try rw [w104] at p97
          try rw [w82] at p97
          try rw [w83] at p97
          try rw [w84] at p97
          try rw [w85] at p97
          try rw [w86] at p97
          try rw [w87] at p97
          try rw [w88] at p97
          try rw [w89] at p97
          try rw [w90] at p97
          try rw [wg1] at p97
          try rw [wg2] at p97
          try rw [wg3] at p97
          try rw [wg4] at p97
          try rw [wg5] at p97
          try rw [wg6] at p97
          try rw [wg7] at p97
          try rw [wg8] at p97
          try rw [wg9] at p97
          clear w82 w83 w84 w85 w86 w87 w88 w89 w90
          have ot109 := zOt_fr ot91 (qm93.1 76 (by decide) rfl) (qm93.1 77 (by decide) rfl) (qm93.1 78 (by decide) rfl) (qm93.1 79 (by decide) rfl) (qm93.1 80 (by decide) rfl) (qm93.1 83 (by decide) rfl) (qm93.1 84 (by decide) rfl)
          have on110 := zOn_fr on92 (qm93.1 3000075 (by decide) rfl) (qm93.1 3000081 (by decide) rfl) (qm93.1 82 (by decide) rfl)
          have HD1 := zHd_fr HD (qm93.1 76 (by decide) rfl) (qm93.1 77 (by decide) rfl) (qm93.1 79 (by decide) rfl) (qm93.1 84 (by decide) rfl) (qm93.2.1 26 rfl) (qm93.2.1 27 rfl)
          have ZL : zrm m93 < zrm μ := (by unfold zrm; simp only [wg105, w100, wg106, wg107, wg108, w101, w102, w103, w104, wg1, wg2, wg3, wg4, wg5, wg6, wg7, wg8, wg9]; (repeat' split) <;> omega)
          have L1 := rLx_p L0 (qm93.1 85 (by decide) rfl) (qm93.2.1 30 rfl) p98
          have N1 := rNu_z N0 qm93 ⟨rfl, rfl, rfl, rfl, rfl, rfl⟩ ⟨rfl, rfl, rfl, rfl, rfl, rfl⟩
          have KK1 := rkd L1 wg108
          have R1 := yR_s (yR_r τ (0, p, 0, [], B)) (ym0_k ((rKd_n KK0).mp (by omega)) (by omega) (by omega))
          have V1 := yB1_v B (ynm τ p).toInt
          intro x111 hx111 kx111 lx111
          rw [wg108] at hx111
          refine And.intro ⟨⟨by omega, by omega⟩, ⟨by omega, by omega⟩⟩ (And.intro (fun c112 => ?_) (fun c112 => ?_))
          · refine Exists.intro (Int.toNat (zrm m93)) ?_
            exact ⟨_, rfl, z99, ⟨by omega, by omega⟩, (by (try rw [wg105]) <;> (try rw [w100]) <;> (try rw [wg106]) <;> (try rw [wg107]) <;> (try rw [wg108]) <;> (try rw [w101]) <;> (try rw [w102]) <;> (try rw [w103]) <;> (try rw [w104]) <;> (try rw [wg1]) <;> (try rw [wg2]) <;> (try rw [wg3]) <;> (try rw [wg4]) <;> (try rw [wg5]) <;> (try rw [wg6]) <;> (try rw [wg7]) <;> (try rw [wg8]) <;> (try rw [wg9]) <;> omega), (by (try rw [wg105]) <;> (try rw [w100]) <;> (try rw [wg106]) <;> (try rw [wg107]) <;> (try rw [wg108]) <;> (try rw [w101]) <;> (try rw [w102]) <;> (try rw [w103]) <;> (try rw [w104]) <;> (try rw [wg1]) <;> (try rw [wg2]) <;> (try rw [wg3]) <;> (try rw [wg4]) <;> (try rw [wg5]) <;> (try rw [wg6]) <;> (try rw [wg7]) <;> (try rw [wg8]) <;> (try rw [wg9]) <;> omega), ⟨rfl, by omega⟩, (by (try rw [wg105]) <;> (try rw [w100]) <;> (try rw [wg106]) <;> (try rw [wg107]) <;> (try rw [wg108]) <;> (try rw [w101]) <;> (try rw [w102]) <;> (try rw [w103]) <;> (try rw [w104]) <;> (try rw [wg1]) <;> (try rw [wg2]) <;> (try rw [wg3]) <;> (try rw [wg4]) <;> (try rw [wg5]) <;> (try rw [wg6]) <;> (try rw [wg7]) <;> (try rw [wg8]) <;> (try rw [wg9]) <;> omega), HD1, ZL, (Or.inl (by (try rw [wg105]) <;> (try rw [w100]) <;> (try rw [wg106]) <;> (try rw [wg107]) <;> (try rw [wg108]) <;> (try rw [w101]) <;> (try rw [w102]) <;> (try rw [w103]) <;> (try rw [w104]) <;> (try rw [wg1]) <;> (try rw [wg2]) <;> (try rw [wg3]) <;> (try rw [wg4]) <;> (try rw [wg5]) <;> (try rw [wg6]) <;> (try rw [wg7]) <;> (try rw [wg8]) <;> (try rw [wg9]) <;> omega)), ot109, ⟨_, _, yR_s R1 (ym1_a ((rKd_s 60 KK1 (by decide)).mp (by omega))), L1, N1, by rw [V1.1.2.2.2]; omega, by rw [V1.1.1]; omega, V1.2.2.2.2⟩, on110, rfl⟩
          · exact And.intro (zrtb (by omega)) (And.intro ⟨by omega, by omega⟩ (hQ _ _ z99 (by omega) (by omega) (by (try rw [wg105]) <;> (try rw [w100]) <;> (try rw [wg106]) <;> (try rw [wg107]) <;> (try rw [wg108]) <;> (try rw [w101]) <;> (try rw [w102]) <;> (try rw [w103]) <;> (try rw [w104]) <;> (try rw [wg1]) <;> (try rw [wg2]) <;> (try rw [wg3]) <;> (try rw [wg4]) <;> (try rw [wg5]) <;> (try rw [wg6]) <;> (try rw [wg7]) <;> (try rw [wg8]) <;> (try rw [wg9]) <;> omega) (by (try rw [wg105]) <;> (try rw [w100]) <;> (try rw [wg106]) <;> (try rw [wg107]) <;> (try rw [wg108]) <;> (try rw [w101]) <;> (try rw [w102]) <;> (try rw [w103]) <;> (try rw [w104]) <;> (try rw [wg1]) <;> (try rw [wg2]) <;> (try rw [wg3]) <;> (try rw [wg4]) <;> (try rw [wg5]) <;> (try rw [wg6]) <;> (try rw [wg7]) <;> (try rw [wg8]) <;> (try rw [wg9]) <;> omega) (fun h => ⟨by omega, HD1, ZL⟩) ot109 (Or.inr ⟨rfl, _, _, yR_s R1 (ym1_b (fun h0 => by have h1 := (rKd_s 60 KK1 (by decide)).mpr h0; omega)), L1, N1, by rw [V1.1.2.2.2]; omega, V1.2.2.2.2⟩) on110))
        · refine ⟨yk_X9_fail, ym_X9_fail hg d (by omega), _, rfl, ⟨by omega, by omega⟩, ?_⟩
          intro x113 m114 qm114 kx113 lx113 p115
          have z116 := zfx_t z0 qm114 rfl rfl
          have w117 : m114.1 66 ((31 : Nat) : Int) = g1 := (qm114.2.1 31 rfl).trans wg1
          have w118 : m114.1 66 ((30 : Nat) : Int) = g2 := (qm114.2.1 30 rfl).trans wg2
          have w119 : m114.1 66 ((33 : Nat) : Int) = g3 := (qm114.2.1 33 rfl).trans wg3
          have w120 : m114.1 66 ((34 : Nat) : Int) = g4 := (qm114.2.1 34 rfl).trans wg4
          have w121 : m114.1 66 ((32 : Nat) : Int) = g5 := (qm114.2.1 32 rfl).trans wg5
          have w122 : m114.1 66 ((26 : Nat) : Int) = g6 := (qm114.2.1 26 rfl).trans wg6
          have w123 : m114.1 66 ((27 : Nat) : Int) = g7 := (qm114.2.1 27 rfl).trans wg7
          have w124 : m114.1 66 ((24 : Nat) : Int) = g8 := (qm114.2.1 24 rfl).trans wg8
          have w125 : m114.1 66 ((25 : Nat) : Int) = g9 := (qm114.2.1 25 rfl).trans wg9
          have ot126 := zOt_fr (zOt_r μ) (qm114.1 76 (by decide) rfl) (qm114.1 77 (by decide) rfl) (qm114.1 78 (by decide) rfl) (qm114.1 79 (by decide) rfl) (qm114.1 80 (by decide) rfl) (qm114.1 83 (by decide) rfl) (qm114.1 84 (by decide) rfl)
          have on127 := zOn_fr (zOn_r μ) (qm114.1 3000075 (by decide) rfl) (qm114.1 3000081 (by decide) rfl) (qm114.1 82 (by decide) rfl)
          exact And.intro (zrtb (by omega)) (And.intro ⟨by omega, by omega⟩ (hQ _ _ z116 (by omega) (by omega) (by (try rw [w117]) <;> (try rw [w118]) <;> (try rw [w119]) <;> (try rw [w120]) <;> (try rw [w121]) <;> (try rw [w122]) <;> (try rw [w123]) <;> (try rw [w124]) <;> (try rw [w125]) <;> (try rw [wg1]) <;> (try rw [wg2]) <;> (try rw [wg3]) <;> (try rw [wg4]) <;> (try rw [wg5]) <;> (try rw [wg6]) <;> (try rw [wg7]) <;> (try rw [wg8]) <;> (try rw [wg9]) <;> omega) (by (try rw [w117]) <;> (try rw [w118]) <;> (try rw [w119]) <;> (try rw [w120]) <;> (try rw [w121]) <;> (try rw [w122]) <;> (try rw [w123]) <;> (try rw [w124]) <;> (try rw [w125]) <;> (try rw [wg1]) <;> (try rw [wg2]) <;> (try rw [wg3]) <;> (try rw [wg4]) <;> (try rw [wg5]) <;> (try rw [wg6]) <;> (try rw [wg7]) <;> (try rw [wg8]) <;> (try rw [wg9]) <;> omega) (fun h => by exfalso; omega) ot126 (Or.inl ⟨by omega, rFa_t (yR_r τ _) (rFa_f hp3 hp4.1.2.2.2.2.2 (yR_s (yR_r τ _) (ym0_6 ((rKd_n KK0).mp (by omega)) (by omega) (by omega))) p115)⟩) on127))
      · refine ⟨yk_X9_fail, ym_X9_fail hg d (by omega), _, rfl, ⟨by omega, by omega⟩, ?_⟩
        intro x128 m129 qm129 kx128 lx128 p130
        have z131 := zfx_t z0 qm129 rfl rfl
        have w132 : m129.1 66 ((31 : Nat) : Int) = g1 := (qm129.2.1 31 rfl).trans wg1
        have w133 : m129.1 66 ((30 : Nat) : Int) = g2 := (qm129.2.1 30 rfl).trans wg2
        have w134 : m129.1 66 ((33 : Nat) : Int) = g3 := (qm129.2.1 33 rfl).trans wg3
        have w135 : m129.1 66 ((34 : Nat) : Int) = g4 := (qm129.2.1 34 rfl).trans wg4
        have w136 : m129.1 66 ((32 : Nat) : Int) = g5 := (qm129.2.1 32 rfl).trans wg5
        have w137 : m129.1 66 ((26 : Nat) : Int) = g6 := (qm129.2.1 26 rfl).trans wg6
        have w138 : m129.1 66 ((27 : Nat) : Int) = g7 := (qm129.2.1 27 rfl).trans wg7
        have w139 : m129.1 66 ((24 : Nat) : Int) = g8 := (qm129.2.1 24 rfl).trans wg8
        have w140 : m129.1 66 ((25 : Nat) : Int) = g9 := (qm129.2.1 25 rfl).trans wg9
        have ot141 := zOt_fr (zOt_r μ) (qm129.1 76 (by decide) rfl) (qm129.1 77 (by decide) rfl) (qm129.1 78 (by decide) rfl) (qm129.1 79 (by decide) rfl) (qm129.1 80 (by decide) rfl) (qm129.1 83 (by decide) rfl) (qm129.1 84 (by decide) rfl)
        have on142 := zOn_fr (zOn_r μ) (qm129.1 3000075 (by decide) rfl) (qm129.1 3000081 (by decide) rfl) (qm129.1 82 (by decide) rfl)
        exact And.intro (zrtb (by omega)) (And.intro ⟨by omega, by omega⟩ (hQ _ _ z131 (by omega) (by omega) (by (try rw [w132]) <;> (try rw [w133]) <;> (try rw [w134]) <;> (try rw [w135]) <;> (try rw [w136]) <;> (try rw [w137]) <;> (try rw [w138]) <;> (try rw [w139]) <;> (try rw [w140]) <;> (try rw [wg1]) <;> (try rw [wg2]) <;> (try rw [wg3]) <;> (try rw [wg4]) <;> (try rw [wg5]) <;> (try rw [wg6]) <;> (try rw [wg7]) <;> (try rw [wg8]) <;> (try rw [wg9]) <;> omega) (by (try rw [w132]) <;> (try rw [w133]) <;> (try rw [w134]) <;> (try rw [w135]) <;> (try rw [w136]) <;> (try rw [w137]) <;> (try rw [w138]) <;> (try rw [w139]) <;> (try rw [w140]) <;> (try rw [wg1]) <;> (try rw [wg2]) <;> (try rw [wg3]) <;> (try rw [wg4]) <;> (try rw [wg5]) <;> (try rw [wg6]) <;> (try rw [wg7]) <;> (try rw [wg8]) <;> (try rw [wg9]) <;> omega) (fun h => by exfalso; omega) ot141 (Or.inl ⟨by omega, rFa_t (yR_r τ _) (rFa_f hp3 hp4.1.2.2.2.2.2 (yR_s (yR_r τ _) (ym0_3 ((rKd_n KK0).mp (by omega)) (by omega))) p130)⟩) on142))
    · refine ⟨yk_X9_fail, ym_X9_fail hg d (by omega), _, rfl, ⟨by omega, by omega⟩, ?_⟩
      intro x143 m144 qm144 kx143 lx143 p145
      have z146 := zfx_t z0 qm144 rfl rfl
      have w147 : m144.1 66 ((31 : Nat) : Int) = g1 := (qm144.2.1 31 rfl).trans wg1
      have w148 : m144.1 66 ((30 : Nat) : Int) = g2 := (qm144.2.1 30 rfl).trans wg2
      have w149 : m144.1 66 ((33 : Nat) : Int) = g3 := (qm144.2.1 33 rfl).trans wg3
      have w150 : m144.1 66 ((34 : Nat) : Int) = g4 := (qm144.2.1 34 rfl).trans wg4
      have w151 : m144.1 66 ((32 : Nat) : Int) = g5 := (qm144.2.1 32 rfl).trans wg5
      have w152 : m144.1 66 ((26 : Nat) : Int) = g6 := (qm144.2.1 26 rfl).trans wg6
      have w153 : m144.1 66 ((27 : Nat) : Int) = g7 := (qm144.2.1 27 rfl).trans wg7
      have w154 : m144.1 66 ((24 : Nat) : Int) = g8 := (qm144.2.1 24 rfl).trans wg8
      have w155 : m144.1 66 ((25 : Nat) : Int) = g9 := (qm144.2.1 25 rfl).trans wg9
      have ot156 := zOt_fr (zOt_r μ) (qm144.1 76 (by decide) rfl) (qm144.1 77 (by decide) rfl) (qm144.1 78 (by decide) rfl) (qm144.1 79 (by decide) rfl) (qm144.1 80 (by decide) rfl) (qm144.1 83 (by decide) rfl) (qm144.1 84 (by decide) rfl)
      have on157 := zOn_fr (zOn_r μ) (qm144.1 3000075 (by decide) rfl) (qm144.1 3000081 (by decide) rfl) (qm144.1 82 (by decide) rfl)
      exact And.intro (zrtb (by omega)) (And.intro ⟨by omega, by omega⟩ (hQ _ _ z146 (by omega) (by omega) (by (try rw [w147]) <;> (try rw [w148]) <;> (try rw [w149]) <;> (try rw [w150]) <;> (try rw [w151]) <;> (try rw [w152]) <;> (try rw [w153]) <;> (try rw [w154]) <;> (try rw [w155]) <;> (try rw [wg1]) <;> (try rw [wg2]) <;> (try rw [wg3]) <;> (try rw [wg4]) <;> (try rw [wg5]) <;> (try rw [wg6]) <;> (try rw [wg7]) <;> (try rw [wg8]) <;> (try rw [wg9]) <;> omega) (by (try rw [w147]) <;> (try rw [w148]) <;> (try rw [w149]) <;> (try rw [w150]) <;> (try rw [w151]) <;> (try rw [w152]) <;> (try rw [w153]) <;> (try rw [w154]) <;> (try rw [w155]) <;> (try rw [wg1]) <;> (try rw [wg2]) <;> (try rw [wg3]) <;> (try rw [wg4]) <;> (try rw [wg5]) <;> (try rw [wg6]) <;> (try rw [wg7]) <;> (try rw [wg8]) <;> (try rw [wg9]) <;> omega) (fun h => by exfalso; omega) ot156 (Or.inl ⟨by omega, rFa_t (yR_r τ _) (rFa_f hp3 hp4.1.2.2.2.2.2 (yR_s (yR_r τ _) (ym0_2 (fun h0 => by have h1 := (rKd_n KK0).mpr h0; omega))) p145)⟩) on157))
