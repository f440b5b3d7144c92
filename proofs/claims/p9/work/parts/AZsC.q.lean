def yk_X9_readIn : zC := fun As μ Q => ∃ (τ : yT) (B : yB) (cb : Int) (pb : Int), As = [.inr (.inr (66, 66))] ∧ (0 ≤ μ.1 66 ((33 : Nat) : Int) ∧ 0 ≤ μ.1 66 ((34 : Nat) : Int) ∧ μ.1 66 ((33 : Nat) : Int) + μ.1 66 ((34 : Nat) : Int) ≤ μ.1 66 ((31 : Nat) : Int) ∧ μ.1 66 ((31 : Nat) : Int) ≤ μ.1 66 ((30 : Nat) : Int) ∧ μ.1 66 ((30 : Nat) : Int) ≤ 800) ∧ (0 ≤ μ.1 66 ((26 : Nat) : Int)) ∧ (rLx μ τ 0) ∧ (rNg cb pb μ (yN B 0 2 0)) ∧ (1 ≤ B.1 0 0) ∧ (∀ (v : Int) (μ' : zM), zfx [] [31, 32, 33, 34, 35, 36, 70] μ μ' → 0 ≤ v → v ≤ 1 → (0 ≤ μ'.1 66 ((33 : Nat) : Int) ∧ 0 ≤ μ'.1 66 ((34 : Nat) : Int) ∧ μ'.1 66 ((33 : Nat) : Int) + μ'.1 66 ((34 : Nat) : Int) ≤ μ'.1 66 ((31 : Nat) : Int) ∧ μ'.1 66 ((31 : Nat) : Int) ≤ μ'.1 66 ((30 : Nat) : Int) ∧ μ'.1 66 ((30 : Nat) : Int) ≤ 800) → (μ'.1 66 ((30 : Nat) : Int) = μ.1 66 ((30 : Nat) : Int)) → (μ'.1 66 ((70 : Nat) : Int) < μ.1 66 ((26 : Nat) : Int)) → ((v = 1 ∧ ∃ o p, yqo τ B = .inl (o, p) ∧ rLx μ' τ p ∧ rNg cb pb μ' (yN B 0 2 0) ∧ μ'.1 66 ((70 : Nat) : Int) = o ∧ (-1 ≤ o ∧ o < B.1 0 0)) ∨ (v = 0 ∧ ∃ x l, yqo τ B = .inr (x, l) ∧ μ'.1 66 ((35 : Nat) : Int) = x ∧ μ'.1 66 ((36 : Nat) : Int) = l)) → Q (some (.inl v)) μ')
set_option maxHeartbeats 4000000 in
theorem ym_X9_readIn {g : zΓ} (hg : zg g) (d : Nat) (hd : 5 ≤ d) : zOk g d 156 yk_X9_readIn := by
  obtain ⟨d, rfl⟩ : ∃ d', d = d' + 1 := ⟨d - 1, by omega⟩
  refine zOk_straight hg (show mt_tab[156]? = some mt_X9_readIn from rfl) [] 43 rfl fun As μ Q hC => ?_
  obtain ⟨τ, B, cb, pb, rfl, hp0, hp1, hp2, hp3, hp4, hQ⟩ := hC
  obtain ⟨g1, wg1⟩ : ∃ z : Int, μ.1 66 ((31 : Nat) : Int) = z := ⟨_, rfl⟩
  obtain ⟨g2, wg2⟩ : ∃ z : Int, μ.1 66 ((30 : Nat) : Int) = z := ⟨_, rfl⟩
  obtain ⟨g3, wg3⟩ : ∃ z : Int, μ.1 66 ((33 : Nat) : Int) = z := ⟨_, rfl⟩
  obtain ⟨g4, wg4⟩ : ∃ z : Int, μ.1 66 ((34 : Nat) : Int) = z := ⟨_, rfl⟩
  obtain ⟨g5, wg5⟩ : ∃ z : Int, μ.1 66 ((32 : Nat) : Int) = z := ⟨_, rfl⟩
  obtain ⟨g6, wg6⟩ : ∃ z : Int, μ.1 66 ((26 : Nat) : Int) = z := ⟨_, rfl⟩
  obtain ⟨g7, wg7⟩ : ∃ z : Int, μ.1 66 ((70 : Nat) : Int) = z := ⟨_, rfl⟩
  try rw [wg1] at hp0
  try rw [wg2] at hp0
  try rw [wg3] at hp0
  try rw [wg4] at hp0
  try rw [wg5] at hp0
  try rw [wg6] at hp0
  try rw [wg7] at hp0
  try rw [wg1] at hp1
  try rw [wg2] at hp1
  try rw [wg3] at hp1
  try rw [wg4] at hp1
  try rw [wg5] at hp1
  try rw [wg6] at hp1
  try rw [wg7] at hp1
  try rw [wg1] at hp2
  try rw [wg2] at hp2
  try rw [wg3] at hp2
  try rw [wg4] at hp2
  try rw [wg5] at hp2
  try rw [wg6] at hp2
  try rw [wg7] at hp2
  try rw [wg1] at hp3
  try rw [wg2] at hp3
  try rw [wg3] at hp3
  try rw [wg4] at hp3
  try rw [wg5] at hp3
  try rw [wg6] at hp3
  try rw [wg7] at hp3
  try rw [wg1] at hp4
  try rw [wg2] at hp4
  try rw [wg3] at hp4
  try rw [wg4] at hp4
  try rw [wg5] at hp4
  try rw [wg6] at hp4
  try rw [wg7] at hp4
  refine ⟨rfl, ?_⟩
  have z0 : zfx [] [31, 32, 33, 34, 35, 36, 70] μ μ := zfx_x μ
  have KK0 := rkd hp2 wg5
  refine And.intro ⟨by omega, by omega⟩ ?_
  intro m8 em8
  have z9 := zfx_f z0 em8 rfl
  have w10 : m8.1 66 ((31 : Nat) : Int) = g1 := by rw [em8]; exact (zu_nk (by decide)).trans wg1
  have w11 : m8.1 66 ((30 : Nat) : Int) = g2 := by rw [em8]; exact (zu_nk (by decide)).trans wg2
  have w12 : m8.1 66 ((33 : Nat) : Int) = g3 := by rw [em8]; exact (zu_nk (by decide)).trans wg3
  have w13 : m8.1 66 ((34 : Nat) : Int) = g4 := by rw [em8]; exact (zu_nk (by decide)).trans wg4
  have w14 : m8.1 66 ((32 : Nat) : Int) = g5 := by rw [em8]; exact (zu_nk (by decide)).trans wg5
  have w15 : m8.1 66 ((26 : Nat) : Int) = g6 := by rw [em8]; exact (zu_nk (by decide)).trans wg6
  have w16 : m8.1 66 ((70 : Nat) : Int) = (-1) := by rw [em8]; exact zu_at
  have L0 := rLx_66 hp2 em8 (by decide)
  have N0 := rNg_66 hp3 em8 (by decide)
  intro x17 hx17 kx17 lx17
  rw [w14] at hx17
  refine And.intro ⟨⟨by omega, by omega⟩, ⟨by omega, by omega⟩⟩ (And.intro (fun c18 => ?_) (fun c18 => ?_))
  · refine ⟨yk_X9_pass, ym_X9_pass hg d (by omega), rfl, (by (try rw [w10]) <;> (try rw [w11]) <;> (try rw [w12]) <;> (try rw [w13]) <;> (try rw [w14]) <;> (try rw [w15]) <;> (try rw [w16]) <;> (try rw [wg1]) <;> (try rw [wg2]) <;> (try rw [wg3]) <;> (try rw [wg4]) <;> (try rw [wg5]) <;> (try rw [wg6]) <;> (try rw [wg7]) <;> omega), ?_⟩
    intro m19 qm19 p20 p21 p22 p23 p24
    have z25 := zfx_t z9 qm19 rfl rfl
    have w26 : m19.1 66 ((30 : Nat) : Int) = g2 := (qm19.2.1 30 rfl).trans w11
    have w27 : m19.1 66 ((26 : Nat) : Int) = g6 := (qm19.2.1 26 rfl).trans w15
    have w28 : m19.1 66 ((70 : Nat) : Int) = (-1) := (qm19.2.1 70 rfl).trans w16
    obtain ⟨g29, wg29⟩ : ∃ z : Int, m19.1 66 ((31 : Nat) : Int) = z := ⟨_, rfl⟩
    obtain ⟨g30, wg30⟩ : ∃ z : Int, m19.1 66 ((33 : Nat) : Int) = z := ⟨_, rfl⟩
    obtain ⟨g31, wg31⟩ : ∃ z : Int, m19.1 66 ((34 : Nat) : Int) = z := ⟨_, rfl⟩
    obtain ⟨g32, wg32⟩ : ∃ z : Int, m19.1 66 ((32 : Nat) : Int) = z := ⟨_, rfl⟩
    try rw [wg29] at p20
    try rw [w26] at p20
    try rw [wg30] at p20
    try rw [wg31] at p20
    try rw [wg32] at p20
    try rw [w27] at p20
    try rw [w28] at p20
    try rw [w10] at p20
    try rw [w11] at p20
    try rw [w12] at p20
    try rw [w13] at p20
    try rw [w14] at p20
    try rw [w15] at p20
    try rw [w16] at p20
    try rw [wg1] at p20
    try rw [wg2] at p20
    try rw [wg3] at p20
    try rw [wg4] at p20
    try rw [wg5] at p20
    try rw [wg6] at p20
    try rw [wg7] at p20
    try rw [wg29] at p21
    try rw [w26] at p21
    try rw [wg30] at p21
    try rw [wg31] at p21
    try rw [wg32] at p21
    try rw [w27] at p21
    try rw [w28] at p21
    try rw [w10] at p21
    try rw [w11] at p21
    try rw [w12] at p21
    try rw [w13] at p21
    try rw [w14] at p21
    try rw [w15] at p21
    try rw [w16] at p21
    try rw [wg1] at p21
    try rw [wg2] at p21
    try rw [wg3] at p21
    try rw [wg4] at p21
    try rw [wg5] at p21
    try rw [wg6] at p21
    try rw [wg7] at p21
    try rw [wg29] at p22
    try rw [w26] at p22
    try rw [wg30] at p22
    try rw [wg31] at p22
    try rw [wg32] at p22
    try rw [w27] at p22
    try rw [w28] at p22
    try rw [w10] at p22
    try rw [w11] at p22
    try rw [w12] at p22
    try rw [w13] at p22
    try rw [w14] at p22
    try rw [w15] at p22
    try rw [w16] at p22
    try rw [wg1] at p22
    try rw [wg2] at p22
    try rw [wg3] at p22
    try rw [wg4] at p22
    try rw [wg5] at p22
    try rw [wg6] at p22
    try rw [wg7] at p22
    try rw [wg29] at p23
    try rw [w26] at p23
    try rw [wg30] at p23
    try rw [wg31] at p23
    try rw [wg32] at p23
    try rw [w27] at p23
    try rw [w28] at p23
    try rw [w10] at p23
    try rw [w11] at p23
    try rw [w12] at p23
    try rw [w13] at p23
    try rw [w14] at p23
    try rw [w15] at p23
    try rw [w16] at p23
    try rw [wg1] at p23
    try rw [wg2] at p23
    try rw [wg3] at p23
    try rw [wg4] at p23
    try rw [wg5] at p23
    try rw [wg6] at p23
    try rw [wg7] at p23
    clear w10 w11 w12 w13 w14 w15 w16
    have L1 := rLx_p L0 (qm19.1 85 (by decide) rfl) (qm19.2.1 30 rfl) p24
    have N1 := rNu_z N0 qm19 ⟨rfl, rfl, rfl, rfl, rfl, rfl⟩ ⟨rfl, rfl, rfl, rfl, rfl, rfl⟩
    have KK1 := rkd L1 wg32
    intro x33 hx33 kx33 lx33
    rw [wg32] at hx33
    refine And.intro ⟨⟨by omega, by omega⟩, ⟨by omega, by omega⟩⟩ (And.intro (fun c34 => ?_) (fun c34 => ?_))
    · refine ⟨yk_X9_name, ym_X9_name hg d (by omega), rfl, (by (try rw [wg29]) <;> (try rw [w26]) <;> (try rw [wg30]) <;> (try rw [wg31]) <;> (try rw [wg32]) <;> (try rw [w27]) <;> (try rw [w28]) <;> (try rw [wg1]) <;> (try rw [wg2]) <;> (try rw [wg3]) <;> (try rw [wg4]) <;> (try rw [wg5]) <;> (try rw [wg6]) <;> (try rw [wg7]) <;> omega), ?_⟩
      intro j35 p36
      refine ⟨yk_X9_findClass, ym_X9_findClass hg d (by omega), _, rfl, ?_⟩
      intro x37 kx37 lx37 p38 p39
      try rw [wg29] at p38
      try rw [w26] at p38
      try rw [wg30] at p38
      try rw [wg31] at p38
      try rw [wg32] at p38
      try rw [w27] at p38
      try rw [w28] at p38
      try rw [wg1] at p38
      try rw [wg2] at p38
      try rw [wg3] at p38
      try rw [wg4] at p38
      try rw [wg5] at p38
      try rw [wg6] at p38
      try rw [wg7] at p38
      have FC : x37 = yfc B (ynm τ (ynx τ 0)).toInt := (rNu_fc N1 (by have h1 := p39; rw [show j35 = ynm τ (ynx τ 0) from rLx_n L1 ((rKd_n KK1).mp (by omega)) p36] at h1; exact h1)).trans yfc_2
      have FB := yfc_lt B (ynm τ (ynx τ 0)).toInt hp4
      refine And.intro ⟨by omega, by omega⟩ ?_
      intro m40 em40
      have z41 := zfx_f z25 em40 rfl
      have w42 : m40.1 66 ((31 : Nat) : Int) = g29 := by rw [em40]; exact (zu_nk (by decide)).trans wg29
      have w43 : m40.1 66 ((30 : Nat) : Int) = g2 := by rw [em40]; exact (zu_nk (by decide)).trans w26
      have w44 : m40.1 66 ((33 : Nat) : Int) = g30 := by rw [em40]; exact (zu_nk (by decide)).trans wg30
      have w45 : m40.1 66 ((34 : Nat) : Int) = g31 := by rw [em40]; exact (zu_nk (by decide)).trans wg31
      have w46 : m40.1 66 ((32 : Nat) : Int) = g32 := by rw [em40]; exact (zu_nk (by decide)).trans wg32
      have w47 : m40.1 66 ((26 : Nat) : Int) = g6 := by rw [em40]; exact (zu_nk (by decide)).trans w27
      have w48 : m40.1 66 ((70 : Nat) : Int) = x37 := by rw [em40]; exact zu_at
      clear wg29 w26 wg30 wg31 wg32 w27 w28
      have L2 := rLx_66 L1 em40 (by decide)
      have N2 := rNg_66 N1 em40 (by decide)
      intro x49 hx49 kx49 lx49
      rw [w48] at hx49
      refine And.intro ⟨by omega, by omega⟩ (And.intro (fun c50 => ?_) (fun c50 => ?_))
      · refine ⟨yk_X9_pass, ym_X9_pass hg d (by omega), rfl, (by (try rw [w42]) <;> (try rw [w43]) <;> (try rw [w44]) <;> (try rw [w45]) <;> (try rw [w46]) <;> (try rw [w47]) <;> (try rw [w48]) <;> (try rw [wg1]) <;> (try rw [wg2]) <;> (try rw [wg3]) <;> (try rw [wg4]) <;> (try rw [wg5]) <;> (try rw [wg6]) <;> (try rw [wg7]) <;> omega), ?_⟩
        intro m51 qm51 p52 p53 p54 p55 p56
        have z57 := zfx_t z41 qm51 rfl rfl
        have w58 : m51.1 66 ((30 : Nat) : Int) = g2 := (qm51.2.1 30 rfl).trans w43
        have w59 : m51.1 66 ((26 : Nat) : Int) = g6 := (qm51.2.1 26 rfl).trans w47
        have w60 : m51.1 66 ((70 : Nat) : Int) = x37 := (qm51.2.1 70 rfl).trans w48
        obtain ⟨g61, wg61⟩ : ∃ z : Int, m51.1 66 ((31 : Nat) : Int) = z := ⟨_, rfl⟩
        obtain ⟨g62, wg62⟩ : ∃ z : Int, m51.1 66 ((33 : Nat) : Int) = z := ⟨_, rfl⟩
        obtain ⟨g63, wg63⟩ : ∃ z : Int, m51.1 66 ((34 : Nat) : Int) = z := ⟨_, rfl⟩
        obtain ⟨g64, wg64⟩ : ∃ z : Int, m51.1 66 ((32 : Nat) : Int) = z := ⟨_, rfl⟩
        try rw [wg61] at p52
        try rw [w58] at p52
        try rw [wg62] at p52
        try rw [wg63] at p52
        try rw [wg64] at p52
        try rw [w59] at p52
        try rw [w60] at p52
        try rw [w42] at p52
        try rw [w43] at p52
        try rw [w44] at p52
        try rw [w45] at p52
        try rw [w46] at p52
        try rw [w47] at p52
        try rw [w48] at p52
        try rw [wg1] at p52
        try rw [wg2] at p52
        try rw [wg3] at p52
        try rw [wg4] at p52
        try rw [wg5] at p52
        try rw [wg6] at p52
        try rw [wg7] at p52
        try rw [wg61] at p53
        try rw [w58] at p53
        try rw [wg62] at p53
        try rw [wg63] at p53
        try rw [wg64] at p53
        try rw [w59] at p53
        try rw [w60] at p53
        try rw [w42] at p53
        try rw [w43] at p53
        try rw [w44] at p53
        try rw [w45] at p53
        try rw [w46] at p53
        try rw [w47] at p53
        try rw [w48] at p53
        try rw [wg1] at p53
        try rw [wg2] at p53
        try rw [wg3] at p53
        try rw [wg4] at p53
        try rw [wg5] at p53
        try rw [wg6] at p53
        try rw [wg7] at p53
        try rw [wg61] at p54
        try rw [w58] at p54
        try rw [wg62] at p54
        try rw [wg63] at p54
        try rw [wg64] at p54
        try rw [w59] at p54
        try rw [w60] at p54
        try rw [w42] at p54
        try rw [w43] at p54
        try rw [w44] at p54
        try rw [w45] at p54
        try rw [w46] at p54
        try rw [w47] at p54
        try rw [w48] at p54
        try rw [wg1] at p54
        try rw [wg2] at p54
        try rw [wg3] at p54
        try rw [wg4] at p54
        try rw [wg5] at p54
        try rw [wg6] at p54
        try rw [wg7] at p54
        try rw [wg61] at p55
        try rw [w58] at p55
        try rw [wg62] at p55
        try rw [wg63] at p55
        try rw [wg64] at p55
        try rw [w59] at p55
        try rw [w60] at p55
        try rw [w42] at p55
        try rw [w43] at p55
        try rw [w44] at p55
        try rw [w45] at p55
        try rw [w46] at p55
        try rw [w47] at p55
        try rw [w48] at p55
        try rw [wg1] at p55
        try rw [wg2] at p55
        try rw [wg3] at p55
        try rw [wg4] at p55
        try rw [wg5] at p55
        try rw [wg6] at p55
        try rw [wg7] at p55
        clear w42 w43 w44 w45 w46 w47 w48
        have L3 := rLx_p L2 (qm51.1 85 (by decide) rfl) (qm51.2.1 30 rfl) p56
        have N3 := rNu_z N2 qm51 ⟨rfl, rfl, rfl, rfl, rfl, rfl⟩ ⟨rfl, rfl, rfl, rfl, rfl, rfl⟩
        have KK3 := rkd L3 rfl
        refine ⟨yk_X9_want, ym_X9_want hg d (by omega), _, rfl, ⟨by omega, by omega⟩, (by (try rw [wg61]) <;> (try rw [w58]) <;> (try rw [wg62]) <;> (try rw [wg63]) <;> (try rw [wg64]) <;> (try rw [w59]) <;> (try rw [w60]) <;> (try rw [wg1]) <;> (try rw [wg2]) <;> (try rw [wg3]) <;> (try rw [wg4]) <;> (try rw [wg5]) <;> (try rw [wg6]) <;> (try rw [wg7]) <;> omega), ?_⟩
        intro x65 m66 qm66 kx65 lx65 p67 p68 p69 p70 p71
        have z72 := zfx_t z57 qm66 rfl rfl
        have w73 : m66.1 66 ((30 : Nat) : Int) = g2 := (qm66.2.1 30 rfl).trans w58
        have w74 : m66.1 66 ((26 : Nat) : Int) = g6 := (qm66.2.1 26 rfl).trans w59
        have w75 : m66.1 66 ((70 : Nat) : Int) = x37 := (qm66.2.1 70 rfl).trans w60
        obtain ⟨g76, wg76⟩ : ∃ z : Int, m66.1 66 ((31 : Nat) : Int) = z := ⟨_, rfl⟩
        obtain ⟨g77, wg77⟩ : ∃ z : Int, m66.1 66 ((33 : Nat) : Int) = z := ⟨_, rfl⟩
        obtain ⟨g78, wg78⟩ : ∃ z : Int, m66.1 66 ((34 : Nat) : Int) = z := ⟨_, rfl⟩
        obtain ⟨g79, wg79⟩ : ∃ z : Int, m66.1 66 ((32 : Nat) : Int) = z := ⟨_, rfl⟩
        try rw [wg76] at p67
        try rw [w73] at p67
        try rw [wg77] at p67
        try rw [wg78] at p67
        try rw [wg79] at p67
        try rw [w74] at p67
        try rw [w75] at p67
        try rw [wg61] at p67
        try rw [w58] at p67
        try rw [wg62] at p67
        try rw [wg63] at p67
        try rw [wg64] at p67
        try rw [w59] at p67
        try rw [w60] at p67
        try rw [wg1] at p67
        try rw [wg2] at p67
        try rw [wg3] at p67
        try rw [wg4] at p67
        try rw [wg5] at p67
        try rw [wg6] at p67
        try rw [wg7] at p67
        try rw [wg76] at p68
        try rw [w73] at p68
        try rw [wg77] at p68
        try rw [wg78] at p68
        try rw [wg79] at p68
        try rw [w74] at p68
        try rw [w75] at p68
        try rw [wg61] at p68
        try rw [w58] at p68
        try rw [wg62] at p68
        try rw [wg63] at p68
        try rw [wg64] at p68
        try rw [w59] at p68
        try rw [w60] at p68
        try rw [wg1] at p68
        try rw [wg2] at p68
        try rw [wg3] at p68
        try rw [wg4] at p68
        try rw [wg5] at p68
        try rw [wg6] at p68
        try rw [wg7] at p68
        try rw [wg76] at p69
        try rw [w73] at p69
        try rw [wg77] at p69
        try rw [wg78] at p69
        try rw [wg79] at p69
        try rw [w74] at p69
        try rw [w75] at p69
        try rw [wg61] at p69
        try rw [w58] at p69
        try rw [wg62] at p69
        try rw [wg63] at p69
        try rw [wg64] at p69
        try rw [w59] at p69
        try rw [w60] at p69
        try rw [wg1] at p69
        try rw [wg2] at p69
        try rw [wg3] at p69
        try rw [wg4] at p69
        try rw [wg5] at p69
        try rw [wg6] at p69
        try rw [wg7] at p69
        try rw [wg76] at p70
        try rw [w73] at p70
        try rw [wg77] at p70
        try rw [wg78] at p70
        try rw [wg79] at p70
        try rw [w74] at p70
        try rw [w75] at p70
        try rw [wg61] at p70
        try rw [w58] at p70
        try rw [wg62] at p70
        try rw [wg63] at p70
        try rw [wg64] at p70
        try rw [w59] at p70
        try rw [w60] at p70
        try rw [wg1] at p70
        try rw [wg2] at p70
        try rw [wg3] at p70
        try rw [wg4] at p70
        try rw [wg5] at p70
        try rw [wg6] at p70
        try rw [wg7] at p70
        clear wg61 w58 wg62 wg63 wg64 w59 w60
        exact And.intro (zrtb (by omega)) (And.intro ⟨by omega, by omega⟩ (hQ _ _ z72 (by omega) (by omega) (by (try rw [wg76]) <;> (try rw [w73]) <;> (try rw [wg77]) <;> (try rw [wg78]) <;> (try rw [wg79]) <;> (try rw [w74]) <;> (try rw [w75]) <;> (try rw [wg1]) <;> (try rw [wg2]) <;> (try rw [wg3]) <;> (try rw [wg4]) <;> (try rw [wg5]) <;> (try rw [wg6]) <;> (try rw [wg7]) <;> omega) (by (try rw [wg76]) <;> (try rw [w73]) <;> (try rw [wg77]) <;> (try rw [wg78]) <;> (try rw [wg79]) <;> (try rw [w74]) <;> (try rw [w75]) <;> (try rw [wg1]) <;> (try rw [wg2]) <;> (try rw [wg3]) <;> (try rw [wg4]) <;> (try rw [wg5]) <;> (try rw [wg6]) <;> (try rw [wg7]) <;> omega) (by (try rw [wg76]) <;> (try rw [w73]) <;> (try rw [wg77]) <;> (try rw [wg78]) <;> (try rw [wg79]) <;> (try rw [w74]) <;> (try rw [w75]) <;> (try rw [wg1]) <;> (try rw [wg2]) <;> (try rw [wg3]) <;> (try rw [wg4]) <;> (try rw [wg5]) <;> (try rw [wg6]) <;> (try rw [wg7]) <;> omega) (by rcases p71 with h0 | h0; exact Or.inr ⟨h0.1, _, _, yqo_3 ((rKd_i KK0).mp (by omega)) ((rKd_n KK1).mp (by omega)) (by omega) (fun h1 => h0.2.1 ((rKd_s 58 KK3 (by decide)).mpr h1)), rfq_f L3 N3.1.2.2.2.2.2 h0.2.2⟩; exact Or.inl ⟨h0.1, x37, _, by rw [yqo_4 ((rKd_i KK0).mp (by omega)) ((rKd_n KK1).mp (by omega)) (by omega) ((rKd_s 58 KK3 (by decide)).mp h0.2.1), FC], rLx_p L3 (qm66.1 85 (by decide) rfl) (qm66.2.1 30 rfl) h0.2.2.1, (rNu_f N3 (fun j hj => qm66.1 j (by rcases hj with h | h | h | h | h | h <;> rw [h] <;> decide) (by rcases hj with h | h | h | h | h | h <;> rw [h] <;> rfl)) (fun k hk => by rcases hk with h | h | h | h | h | h <;> subst h <;> first | exact qm66.2.1 _ rfl | exact h0.2.2.2)), by rw [qm66.2.1 70 rfl, qm51.2.1 70 rfl, em40, zu_at], by omega⟩)))
      · refine ⟨yk_X9_fail, ym_X9_fail hg d (by omega), _, rfl, ⟨by omega, by omega⟩, ?_⟩
        intro x80 m81 qm81 kx80 lx80 p82
        have z83 := zfx_t z41 qm81 rfl rfl
        have w84 : m81.1 66 ((31 : Nat) : Int) = g29 := (qm81.2.1 31 rfl).trans w42
        have w85 : m81.1 66 ((30 : Nat) : Int) = g2 := (qm81.2.1 30 rfl).trans w43
        have w86 : m81.1 66 ((33 : Nat) : Int) = g30 := (qm81.2.1 33 rfl).trans w44
        have w87 : m81.1 66 ((34 : Nat) : Int) = g31 := (qm81.2.1 34 rfl).trans w45
        have w88 : m81.1 66 ((32 : Nat) : Int) = g32 := (qm81.2.1 32 rfl).trans w46
        have w89 : m81.1 66 ((26 : Nat) : Int) = g6 := (qm81.2.1 26 rfl).trans w47
        have w90 : m81.1 66 ((70 : Nat) : Int) = x37 := (qm81.2.1 70 rfl).trans w48
        clear w42 w43 w44 w45 w46 w47 w48
        exact And.intro (zrtb (by omega)) (And.intro ⟨by omega, by omega⟩ (hQ _ _ z83 (by omega) (by omega) (by (try rw [w84]) <;> (try rw [w85]) <;> (try rw [w86]) <;> (try rw [w87]) <;> (try rw [w88]) <;> (try rw [w89]) <;> (try rw [w90]) <;> (try rw [wg1]) <;> (try rw [wg2]) <;> (try rw [wg3]) <;> (try rw [wg4]) <;> (try rw [wg5]) <;> (try rw [wg6]) <;> (try rw [wg7]) <;> omega) (by (try rw [w84]) <;> (try rw [w85]) <;> (try rw [w86]) <;> (try rw [w87]) <;> (try rw [w88]) <;> (try rw [w89]) <;> (try rw [w90]) <;> (try rw [wg1]) <;> (try rw [wg2]) <;> (try rw [wg3]) <;> (try rw [wg4]) <;> (try rw [wg5]) <;> (try rw [wg6]) <;> (try rw [wg7]) <;> omega) (by (try rw [w84]) <;> (try rw [w85]) <;> (try rw [w86]) <;> (try rw [w87]) <;> (try rw [w88]) <;> (try rw [w89]) <;> (try rw [w90]) <;> (try rw [wg1]) <;> (try rw [wg2]) <;> (try rw [wg3]) <;> (try rw [wg4]) <;> (try rw [wg5]) <;> (try rw [wg6]) <;> (try rw [wg7]) <;> omega) (Or.inr ⟨by omega, _, _, yqo_2 ((rKd_i KK0).mp (by omega)) ((rKd_n KK1).mp (by omega)) (by omega), rfq_f L2 N2.1.2.2.2.2.2 p82⟩)))
    · refine ⟨yk_X9_fail, ym_X9_fail hg d (by omega), _, rfl, ⟨by omega, by omega⟩, ?_⟩
      intro x91 m92 qm92 kx91 lx91 p93
      have z94 := zfx_t z25 qm92 rfl rfl
      have w95 : m92.1 66 ((31 : Nat) : Int) = g29 := (qm92.2.1 31 rfl).trans wg29
      have w96 : m92.1 66 ((30 : Nat) : Int) = g2 := (qm92.2.1 30 rfl).trans w26
      have w97 : m92.1 66 ((33 : Nat) : Int) = g30 := (qm92.2.1 33 rfl).trans wg30
      have w98 : m92.1 66 ((34 : Nat) : Int) = g31 := (qm92.2.1 34 rfl).trans wg31
      have w99 : m92.1 66 ((32 : Nat) : Int) = g32 := (qm92.2.1 32 rfl).trans wg32
      have w100 : m92.1 66 ((26 : Nat) : Int) = g6 := (qm92.2.1 26 rfl).trans w27
      have w101 : m92.1 66 ((70 : Nat) : Int) = (-1) := (qm92.2.1 70 rfl).trans w28
      clear wg29 w26 wg30 wg31 wg32 w27 w28
      exact And.intro (zrtb (by omega)) (And.intro ⟨by omega, by omega⟩ (hQ _ _ z94 (by omega) (by omega) (by (try rw [w95]) <;> (try rw [w96]) <;> (try rw [w97]) <;> (try rw [w98]) <;> (try rw [w99]) <;> (try rw [w100]) <;> (try rw [w101]) <;> (try rw [wg1]) <;> (try rw [wg2]) <;> (try rw [wg3]) <;> (try rw [wg4]) <;> (try rw [wg5]) <;> (try rw [wg6]) <;> (try rw [wg7]) <;> omega) (by (try rw [w95]) <;> (try rw [w96]) <;> (try rw [w97]) <;> (try rw [w98]) <;> (try rw [w99]) <;> (try rw [w100]) <;> (try rw [w101]) <;> (try rw [wg1]) <;> (try rw [wg2]) <;> (try rw [wg3]) <;> (try rw [wg4]) <;> (try rw [wg5]) <;> (try rw [wg6]) <;> (try rw [wg7]) <;> omega) (by (try rw [w95]) <;> (try rw [w96]) <;> (try rw [w97]) <;> (try rw [w98]) <;> (try rw [w99]) <;> (try rw [w100]) <;> (try rw [w101]) <;> (try rw [wg1]) <;> (try rw [wg2]) <;> (try rw [wg3]) <;> (try rw [wg4]) <;> (try rw [wg5]) <;> (try rw [wg6]) <;> (try rw [wg7]) <;> omega) (Or.inr ⟨by omega, _, _, yqo_1 ((rKd_i KK0).mp (by omega)) (fun h0 => by have h1 := (rKd_n KK1).mpr h0; omega), rfq_f L1 N1.1.2.2.2.2.2 p93⟩)))
  · exact And.intro (zrtb (by omega)) (And.intro ⟨by omega, by omega⟩ (hQ _ _ z9 (by omega) (by omega) (by (try rw [w10]) <;> (try rw [w11]) <;> (try rw [w12]) <;> (try rw [w13]) <;> (try rw [w14]) <;> (try rw [w15]) <;> (try rw [w16]) <;> (try rw [wg1]) <;> (try rw [wg2]) <;> (try rw [wg3]) <;> (try rw [wg4]) <;> (try rw [wg5]) <;> (try rw [wg6]) <;> (try rw [wg7]) <;> omega) (by (try rw [w10]) <;> (try rw [w11]) <;> (try rw [w12]) <;> (try rw [w13]) <;> (try rw [w14]) <;> (try rw [w15]) <;> (try rw [w16]) <;> (try rw [wg1]) <;> (try rw [wg2]) <;> (try rw [wg3]) <;> (try rw [wg4]) <;> (try rw [wg5]) <;> (try rw [wg6]) <;> (try rw [wg7]) <;> omega) (by (try rw [w10]) <;> (try rw [w11]) <;> (try rw [w12]) <;> (try rw [w13]) <;> (try rw [w14]) <;> (try rw [w15]) <;> (try rw [w16]) <;> (try rw [wg1]) <;> (try rw [wg2]) <;> (try rw [wg3]) <;> (try rw [wg4]) <;> (try rw [wg5]) <;> (try rw [wg6]) <;> (try rw [wg7]) <;> omega) (Or.inl ⟨rfl, -1, 0, yqo_0 (fun h0 => by have h1 := (rKd_i KK0).mpr h0; omega), L0, N0, by rw [em8, zu_at], by omega⟩)))
