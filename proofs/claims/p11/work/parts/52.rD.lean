/-! ### questions are read -/
def zk_X9_readIn : zC := fun As μ Q => As = [.inr (.inr (66, 66))] ∧ (0 ≤ μ.1 66 ((33 : Nat) : Int) ∧ 0 ≤ μ.1 66 ((34 : Nat) : Int) ∧ μ.1 66 ((33 : Nat) : Int) + μ.1 66 ((34 : Nat) : Int) ≤ μ.1 66 ((31 : Nat) : Int) ∧ μ.1 66 ((31 : Nat) : Int) ≤ μ.1 66 ((30 : Nat) : Int) ∧ μ.1 66 ((30 : Nat) : Int) ≤ 800) ∧ (0 ≤ μ.1 66 ((26 : Nat) : Int)) ∧ (∀ (v : Int) (μ' : zM), zfx [] [31, 32, 33, 34, 35, 36, 70] μ μ' → 0 ≤ v → v ≤ 1 → (0 ≤ μ'.1 66 ((33 : Nat) : Int) ∧ 0 ≤ μ'.1 66 ((34 : Nat) : Int) ∧ μ'.1 66 ((33 : Nat) : Int) + μ'.1 66 ((34 : Nat) : Int) ≤ μ'.1 66 ((31 : Nat) : Int) ∧ μ'.1 66 ((31 : Nat) : Int) ≤ μ'.1 66 ((30 : Nat) : Int) ∧ μ'.1 66 ((30 : Nat) : Int) ≤ 800) → (μ'.1 66 ((30 : Nat) : Int) = μ.1 66 ((30 : Nat) : Int)) → (μ'.1 66 ((70 : Nat) : Int) < μ.1 66 ((26 : Nat) : Int)) → Q (some (.inl v)) μ')
set_option maxHeartbeats 2000000 in
theorem zm_X9_readIn {g : zΓ} (hg : zg g) (d : Nat) (hd : 5 ≤ d) : zOk g d 156 zk_X9_readIn := by
  obtain ⟨d, rfl⟩ : ∃ d', d = d' + 1 := ⟨d - 1, by omega⟩
  refine zOk_straight hg (show mt_tab[156]? = some mt_X9_readIn from rfl) [] 43 rfl fun As μ Q hC => ?_
  obtain ⟨rfl, hp0, hp1, hQ⟩ := hC
  obtain ⟨g1, wg1⟩ : ∃ z : Int, μ.1 66 ((31 : Nat) : Int) = z := ⟨_, rfl⟩
  obtain ⟨g2, wg2⟩ : ∃ z : Int, μ.1 66 ((30 : Nat) : Int) = z := ⟨_, rfl⟩
  obtain ⟨g3, wg3⟩ : ∃ z : Int, μ.1 66 ((33 : Nat) : Int) = z := ⟨_, rfl⟩
  obtain ⟨g4, wg4⟩ : ∃ z : Int, μ.1 66 ((34 : Nat) : Int) = z := ⟨_, rfl⟩
  obtain ⟨g5, wg5⟩ : ∃ z : Int, μ.1 66 ((32 : Nat) : Int) = z := ⟨_, rfl⟩
  obtain ⟨g6, wg6⟩ : ∃ z : Int, μ.1 66 ((26 : Nat) : Int) = z := ⟨_, rfl⟩
  obtain ⟨g7, wg7⟩ : ∃ z : Int, μ.1 66 ((70 : Nat) : Int) = z := ⟨_, rfl⟩
  try rw [wg1] at hp0
  try rw [wg2] at hp0
  try rw [wg3] at hp0
  try rw [wg4] at hp0
  try rw [wg5] at hp0
  try rw [wg6] at hp0
  try rw [wg7] at hp0
  try rw [wg1] at hp1
  try rw [wg2] at hp1
  try rw [wg3] at hp1
  try rw [wg4] at hp1
  try rw [wg5] at hp1
  try rw [wg6] at hp1
  try rw [wg7] at hp1
  refine ⟨rfl, ?_⟩
  have z0 : zfx [] [31, 32, 33, 34, 35, 36, 70] μ μ := zfx_x μ
  refine And.intro ⟨by omega, by omega⟩ ?_
  intro m8 em8
  have z9 := zfx_f z0 em8 rfl
  have w10 : m8.1 66 ((31 : Nat) : Int) = g1 := by rw [em8]; exact (zu_nk (by decide)).trans wg1
  have w11 : m8.1 66 ((30 : Nat) : Int) = g2 := by rw [em8]; exact (zu_nk (by decide)).trans wg2
  have w12 : m8.1 66 ((33 : Nat) : Int) = g3 := by rw [em8]; exact (zu_nk (by decide)).trans wg3
  have w13 : m8.1 66 ((34 : Nat) : Int) = g4 := by rw [em8]; exact (zu_nk (by decide)).trans wg4
  have w14 : m8.1 66 ((32 : Nat) : Int) = g5 := by rw [em8]; exact (zu_nk (by decide)).trans wg5
  have w15 : m8.1 66 ((26 : Nat) : Int) = g6 := by rw [em8]; exact (zu_nk (by decide)).trans wg6
  have w16 : m8.1 66 ((70 : Nat) : Int) = (-1) := by rw [em8]; exact zu_at
  intro x17 hx17 kx17 lx17
  rw [w14] at hx17
  refine And.intro ⟨⟨by omega, by omega⟩, ⟨by omega, by omega⟩⟩ (And.intro (fun c18 => ?_) (fun c18 => ?_))
  · refine ⟨zk_X9_pass, zm_X9_pass hg d (by omega), rfl, (by (try rw [w10]) <;> (try rw [w11]) <;> (try rw [w12]) <;> (try rw [w13]) <;> (try rw [w14]) <;> (try rw [w15]) <;> (try rw [w16]) <;> (try rw [wg1]) <;> (try rw [wg2]) <;> (try rw [wg3]) <;> (try rw [wg4]) <;> (try rw [wg5]) <;> (try rw [wg6]) <;> (try rw [wg7]) <;> omega), ?_⟩
    intro m19 qm19 p20 p21 p22 p23
    have z24 := zfx_t z9 qm19 rfl rfl
    have w25 : m19.1 66 ((30 : Nat) : Int) = g2 := (qm19.2.1 30 rfl).trans w11
    have w26 : m19.1 66 ((26 : Nat) : Int) = g6 := (qm19.2.1 26 rfl).trans w15
    have w27 : m19.1 66 ((70 : Nat) : Int) = (-1) := (qm19.2.1 70 rfl).trans w16
    obtain ⟨g28, wg28⟩ : ∃ z : Int, m19.1 66 ((31 : Nat) : Int) = z := ⟨_, rfl⟩
    obtain ⟨g29, wg29⟩ : ∃ z : Int, m19.1 66 ((33 : Nat) : Int) = z := ⟨_, rfl⟩
    obtain ⟨g30, wg30⟩ : ∃ z : Int, m19.1 66 ((34 : Nat) : Int) = z := ⟨_, rfl⟩
    obtain ⟨g31, wg31⟩ : ∃ z : Int, m19.1 66 ((32 : Nat) : Int) = z := ⟨_, rfl⟩
    try rw [wg28] at p20
    try rw [w25] at p20
    try rw [wg29] at p20
    try rw [wg30] at p20
    try rw [wg31] at p20
    try rw [w26] at p20
    try rw [w27] at p20
    try rw [w10] at p20
    try rw [w11] at p20
    try rw [w12] at p20
    try rw [w13] at p20
    try rw [w14] at p20
    try rw [w15] at p20
    try rw [w16] at p20
    try rw [wg1] at p20
    try rw [wg2] at p20
    try rw [wg3] at p20
    try rw [wg4] at p20
    try rw [wg5] at p20
    try rw [wg6] at p20
    try rw [wg7] at p20
    try rw [wg28] at p21
    try rw [w25] at p21
    try rw [wg29] at p21
    try rw [wg30] at p21
    try rw [wg31] at p21
    try rw [w26] at p21
    try rw [w27] at p21
    try rw [w10] at p21
    try rw [w11] at p21
    try rw [w12] at p21
    try rw [w13] at p21
    try rw [w14] at p21
    try rw [w15] at p21
    try rw [w16] at p21
    try rw [wg1] at p21
    try rw [wg2] at p21
    try rw [wg3] at p21
    try rw [wg4] at p21
    try rw [wg5] at p21
    try rw [wg6] at p21
    try rw [wg7] at p21
    try rw [wg28] at p22
    try rw [w25] at p22
    try rw [wg29] at p22
    try rw [wg30] at p22
    try rw [wg31] at p22
    try rw [w26] at p22
    try rw [w27] at p22
    try rw [w10] at p22
    try rw [w11] at p22
    try rw [w12] at p22
    try rw [w13] at p22
    try rw [w14] at p22
    try rw [w15] at p22
    try rw [w16] at p22
    try rw [wg1] at p22
    try rw [wg2] at p22
    try rw [wg3] at p22
    try rw [wg4] at p22
    try rw [wg5] at p22
    try rw [wg6] at p22
    try rw [wg7] at p22
    try rw [wg28] at p23
    try rw [w25] at p23
    try rw [wg29] at p23
    try rw [wg30] at p23
    try rw [wg31] at p23
    try rw [w26] at p23
    try rw [w27] at p23
    try rw [w10] at p23
    try rw [w11] at p23
    try rw [w12] at p23
    try rw [w13] at p23
    try rw [w14] at p23
    try rw [w15] at p23
    try rw [w16] at p23
    try rw [wg1] at p23
    try rw [wg2] at p23
    try rw [wg3] at p23
    try rw [wg4] at p23
    try rw [wg5] at p23
    try rw [wg6] at p23
    try rw [wg7] at p23
    clear w10 w11 w12 w13 w14 w15 w16
    intro x32 hx32 kx32 lx32
    rw [wg31] at hx32
    refine And.intro ⟨⟨by omega, by omega⟩, ⟨by omega, by omega⟩⟩ (And.intro (fun c33 => ?_) (fun c33 => ?_))
    · refine ⟨zk_X9_name, zm_X9_name hg d (by omega), rfl, (by (try rw [wg28]) <;> (try rw [w25]) <;> (try rw [wg29]) <;> (try rw [wg30]) <;> (try rw [wg31]) <;> (try rw [w26]) <;> (try rw [w27]) <;> (try rw [wg1]) <;> (try rw [wg2]) <;> (try rw [wg3]) <;> (try rw [wg4]) <;> (try rw [wg5]) <;> (try rw [wg6]) <;> (try rw [wg7]) <;> omega), ?_⟩
      intro j34
      refine ⟨zk_X9_findClass, zm_X9_findClass hg d (by omega), _, rfl, ?_⟩
      intro x35 kx35 lx35 p36
      try rw [wg28] at p36
      try rw [w25] at p36
      try rw [wg29] at p36
      try rw [wg30] at p36
      try rw [wg31] at p36
      try rw [w26] at p36
      try rw [w27] at p36
      try rw [wg1] at p36
      try rw [wg2] at p36
      try rw [wg3] at p36
      try rw [wg4] at p36
      try rw [wg5] at p36
      try rw [wg6] at p36
      try rw [wg7] at p36
      refine And.intro ⟨by omega, by omega⟩ ?_
      intro m37 em37
      have z38 := zfx_f z24 em37 rfl
      have w39 : m37.1 66 ((31 : Nat) : Int) = g28 := by rw [em37]; exact (zu_nk (by decide)).trans wg28
      have w40 : m37.1 66 ((30 : Nat) : Int) = g2 := by rw [em37]; exact (zu_nk (by decide)).trans w25
      have w41 : m37.1 66 ((33 : Nat) : Int) = g29 := by rw [em37]; exact (zu_nk (by decide)).trans wg29
      have w42 : m37.1 66 ((34 : Nat) : Int) = g30 := by rw [em37]; exact (zu_nk (by decide)).trans wg30
      have w43 : m37.1 66 ((32 : Nat) : Int) = g31 := by rw [em37]; exact (zu_nk (by decide)).trans wg31
      have w44 : m37.1 66 ((26 : Nat) : Int) = g6 := by rw [em37]; exact (zu_nk (by decide)).trans w26
      have w45 : m37.1 66 ((70 : Nat) : Int) = x35 := by rw [em37]; exact zu_at
      clear wg28 w25 wg29 wg30 wg31 w26 w27
      intro x46 hx46 kx46 lx46
      rw [w45] at hx46
      refine And.intro ⟨by omega, by omega⟩ (And.intro (fun c47 => ?_) (fun c47 => ?_))
      · refine ⟨zk_X9_pass, zm_X9_pass hg d (by omega), rfl, (by (try rw [w39]) <;> (try rw [w40]) <;> (try rw [w41]) <;> (try rw [w42]) <;> (try rw [w43]) <;> (try rw [w44]) <;> (try rw [w45]) <;> (try rw [wg1]) <;> (try rw [wg2]) <;> (try rw [wg3]) <;> (try rw [wg4]) <;> (try rw [wg5]) <;> (try rw [wg6]) <;> (try rw [wg7]) <;> omega), ?_⟩
        intro m48 qm48 p49 p50 p51 p52
        have z53 := zfx_t z38 qm48 rfl rfl
        have w54 : m48.1 66 ((30 : Nat) : Int) = g2 := (qm48.2.1 30 rfl).trans w40
        have w55 : m48.1 66 ((26 : Nat) : Int) = g6 := (qm48.2.1 26 rfl).trans w44
        have w56 : m48.1 66 ((70 : Nat) : Int) = x35 := (qm48.2.1 70 rfl).trans w45
        obtain ⟨g57, wg57⟩ : ∃ z : Int, m48.1 66 ((31 : Nat) : Int) = z := ⟨_, rfl⟩
        obtain ⟨g58, wg58⟩ : ∃ z : Int, m48.1 66 ((33 : Nat) : Int) = z := ⟨_, rfl⟩
        obtain ⟨g59, wg59⟩ : ∃ z : Int, m48.1 66 ((34 : Nat) : Int) = z := ⟨_, rfl⟩
        obtain ⟨g60, wg60⟩ : ∃ z : Int, m48.1 66 ((32 : Nat) : Int) = z := ⟨_, rfl⟩
        try rw [wg57] at p49
        try rw [w54] at p49
        try rw [wg58] at p49
        try rw [wg59] at p49
        try rw [wg60] at p49
        try rw [w55] at p49
        try rw [w56] at p49
        try rw [w39] at p49
        try rw [w40] at p49
        try rw [w41] at p49
        try rw [w42] at p49
        try rw [w43] at p49
        try rw [w44] at p49
        try rw [w45] at p49
        try rw [wg1] at p49
        try rw [wg2] at p49
        try rw [wg3] at p49
        try rw [wg4] at p49
        try rw [wg5] at p49
        try rw [wg6] at p49
        try rw [wg7] at p49
        try rw [wg57] at p50
        try rw [w54] at p50
        try rw [wg58] at p50
        try rw [wg59] at p50
        try rw [wg60] at p50
        try rw [w55] at p50
        try rw [w56] at p50
        try rw [w39] at p50
        try rw [w40] at p50
        try rw [w41] at p50
        try rw [w42] at p50
        try rw [w43] at p50
        try rw [w44] at p50
        try rw [w45] at p50
        try rw [wg1] at p50
        try rw [wg2] at p50
        try rw [wg3] at p50
        try rw [wg4] at p50
        try rw [wg5] at p50
        try rw [wg6] at p50
        try rw [wg7] at p50
        try rw [wg57] at p51
        try rw [w54] at p51
        try rw [wg58] at p51
        try rw [wg59] at p51
        try rw [wg60] at p51
        try rw [w55] at p51
        try rw [w56] at p51
        try rw [w39] at p51
        try rw [w40] at p51
        try rw [w41] at p51
        try rw [w42] at p51
        try rw [w43] at p51
        try rw [w44] at p51
        try rw [w45] at p51
        try rw [wg1] at p51
        try rw [wg2] at p51
        try rw [wg3] at p51
        try rw [wg4] at p51
        try rw [wg5] at p51
        try rw [wg6] at p51
        try rw [wg7] at p51
        try rw [wg57] at p52
        try rw [w54] at p52
        try rw [wg58] at p52
        try rw [wg59] at p52
        try rw [wg60] at p52
        try rw [w55] at p52
        try rw [w56] at p52
        try rw [w39] at p52
        try rw [w40] at p52
        try rw [w41] at p52
        try rw [w42] at p52
        try rw [w43] at p52
        try rw [w44] at p52
        try rw [w45] at p52
        try rw [wg1] at p52
        try rw [wg2] at p52
        try rw [wg3] at p52
        try rw [wg4] at p52
        try rw [wg5] at p52
        try rw [wg6] at p52
        try rw [wg7] at p52
        clear w39 w40 w41 w42 w43 w44 w45
        refine ⟨zk_X9_want, zm_X9_want hg d (by omega), _, rfl, ⟨by omega, by omega⟩, (by (try rw [wg57]) <;> (try rw [w54]) <;> (try rw [wg58]) <;> (try rw [wg59]) <;> (try rw [wg60]) <;> (try rw [w55]) <;> (try rw [w56]) <;> (try rw [wg1]) <;> (try rw [wg2]) <;> (try rw [wg3]) <;> (try rw [wg4]) <;> (try rw [wg5]) <;> (try rw [wg6]) <;> (try rw [wg7]) <;> omega), ?_⟩
        intro x61 m62 qm62 kx61 lx61 p63 p64 p65 p66
        have z67 := zfx_t z53 qm62 rfl rfl
        have w68 : m62.1 66 ((30 : Nat) : Int) = g2 := (qm62.2.1 30 rfl).trans w54
        have w69 : m62.1 66 ((26 : Nat) : Int) = g6 := (qm62.2.1 26 rfl).trans w55
        have w70 : m62.1 66 ((70 : Nat) : Int) = x35 := (qm62.2.1 70 rfl).trans w56
        obtain ⟨g71, wg71⟩ : ∃ z : Int, m62.1 66 ((31 : Nat) : Int) = z := ⟨_, rfl⟩
        obtain ⟨g72, wg72⟩ : ∃ z : Int, m62.1 66 ((33 : Nat) : Int) = z := ⟨_, rfl⟩
        obtain ⟨g73, wg73⟩ : ∃ z : Int, m62.1 66 ((34 : Nat) : Int) = z := ⟨_, rfl⟩
        obtain ⟨g74, wg74⟩ : ∃ z : Int, m62.1 66 ((32 : Nat) : Int) = z := ⟨_, rfl⟩
        try rw [wg71] at p63
        try rw [w68] at p63
        try rw [wg72] at p63
        try rw [wg73] at p63
        try rw [wg74] at p63
        try rw [w69] at p63
        try rw [w70] at p63
        try rw [wg57] at p63
        try rw [w54] at p63
        try rw [wg58] at p63
        try rw [wg59] at p63
        try rw [wg60] at p63
        try rw [w55] at p63
        try rw [w56] at p63
        try rw [wg1] at p63
        try rw [wg2] at p63
        try rw [wg3] at p63
        try rw [wg4] at p63
        try rw [wg5] at p63
        try rw [wg6] at p63
        try rw [wg7] at p63
        try rw [wg71] at p64
        try rw [w68] at p64
        try rw [wg72] at p64
        try rw [wg73] at p64
        try rw [wg74] at p64
        try rw [w69] at p64
        try rw [w70] at p64
        try rw [wg57] at p64
        try rw [w54] at p64
        try rw [wg58] at p64
        try rw [wg59] at p64
        try rw [wg60] at p64
        try rw [w55] at p64
        try rw [w56] at p64
        try rw [wg1] at p64
        try rw [wg2] at p64
        try rw [wg3] at p64
        try rw [wg4] at p64
        try rw [wg5] at p64
        try rw [wg6] at p64
        try rw [wg7] at p64
        try rw [wg71] at p65
        try rw [w68] at p65
        try rw [wg72] at p65
        try rw [wg73] at p65
        try rw [wg74] at p65
        try rw [w69] at p65
        try rw [w70] at p65
        try rw [wg57] at p65
        try rw [w54] at p65
        try rw [wg58] at p65
        try rw [wg59] at p65
        try rw [wg60] at p65
        try rw [w55] at p65
        try rw [w56] at p65
        try rw [wg1] at p65
        try rw [wg2] at p65
        try rw [wg3] at p65
        try rw [wg4] at p65
        try rw [wg5] at p65
        try rw [wg6] at p65
        try rw [wg7] at p65
        try rw [wg71] at p66
        try rw [w68] at p66
        try rw [wg72] at p66
        try rw [wg73] at p66
        try rw [wg74] at p66
        try rw [w69] at p66
        try rw [w70] at p66
        try rw [wg57] at p66
        try rw [w54] at p66
        try rw [wg58] at p66
        try rw [wg59] at p66
        try rw [wg60] at p66
        try rw [w55] at p66
        try rw [w56] at p66
        try rw [wg1] at p66
        try rw [wg2] at p66
        try rw [wg3] at p66
        try rw [wg4] at p66
        try rw [wg5] at p66
        try rw [wg6] at p66
        try rw [wg7] at p66
        clear wg57 w54 wg58 wg59 wg60 w55 w56
        exact And.intro (zrtb (by omega)) (And.intro ⟨by omega, by omega⟩ (hQ _ _ z67 (by omega) (by omega) (by (try rw [wg71]) <;> (try rw [w68]) <;> (try rw [wg72]) <;> (try rw [wg73]) <;> (try rw [wg74]) <;> (try rw [w69]) <;> (try rw [w70]) <;> (try rw [wg1]) <;> (try rw [wg2]) <;> (try rw [wg3]) <;> (try rw [wg4]) <;> (try rw [wg5]) <;> (try rw [wg6]) <;> (try rw [wg7]) <;> omega) (by (try rw [wg71]) <;> (try rw [w68]) <;> (try rw [wg72]) <;> (try rw [wg73]) <;> (try rw [wg74]) <;> (try rw [w69]) <;> (try rw [w70]) <;> (try rw [wg1]) <;> (try rw [wg2]) <;> (try rw [wg3]) <;> (try rw [wg4]) <;> (try rw [wg5]) <;> (try rw [wg6]) <;> (try rw [wg7]) <;> omega) (by (try rw [wg71]) <;> (try rw [w68]) <;> (try rw [wg72]) <;> (try rw [wg73]) <;> (try rw [wg74]) <;> (try rw [w69]) <;> (try rw [w70]) <;> (try rw [wg1]) <;> (try rw [wg2]) <;> (try rw [wg3]) <;> (try rw [wg4]) <;> (try rw [wg5]) <;> (try rw [wg6]) <;> (try rw [wg7]) <;> omega)))
      · refine ⟨zk_X9_fail, zm_X9_fail hg d (by omega), _, rfl, ⟨by omega, by omega⟩, ?_⟩
        intro x75 m76 qm76 kx75 lx75
        have z77 := zfx_t z38 qm76 rfl rfl
        have w78 : m76.1 66 ((31 : Nat) : Int) = g28 := (qm76.2.1 31 rfl).trans w39
        have w79 : m76.1 66 ((30 : Nat) : Int) = g2 := (qm76.2.1 30 rfl).trans w40
        have w80 : m76.1 66 ((33 : Nat) : Int) = g29 := (qm76.2.1 33 rfl).trans w41
        have w81 : m76.1 66 ((34 : Nat) : Int) = g30 := (qm76.2.1 34 rfl).trans w42
        have w82 : m76.1 66 ((32 : Nat) : Int) = g31 := (qm76.2.1 32 rfl).trans w43
        have w83 : m76.1 66 ((26 : Nat) : Int) = g6 := (qm76.2.1 26 rfl).trans w44
        have w84 : m76.1 66 ((70 : Nat) : Int) = x35 := (qm76.2.1 70 rfl).trans w45
        clear w39 w40 w41 w42 w43 w44 w45
        exact And.intro (zrtb (by omega)) (And.intro ⟨by omega, by omega⟩ (hQ _ _ z77 (by omega) (by omega) (by (try rw [w78]) <;> (try rw [w79]) <;> (try rw [w80]) <;> (try rw [w81]) <;> (try rw [w82]) <;> (try rw [w83]) <;> (try rw [w84]) <;> (try rw [wg1]) <;> (try rw [wg2]) <;> (try rw [wg3]) <;> (try rw [wg4]) <;> (try rw [wg5]) <;> (try rw [wg6]) <;> (try rw [wg7]) <;> omega) (by (try rw [w78]) <;> (try rw [w79]) <;> (try rw [w80]) <;> (try rw [w81]) <;> (try rw [w82]) <;> (try rw [w83]) <;> (try rw [w84]) <;> (try rw [wg1]) <;> (try rw [wg2]) <;> (try rw [wg3]) <;> (try rw [wg4]) <;> (try rw [wg5]) <;> (try rw [wg6]) <;> (try rw [wg7]) <;> omega) (by (try rw [w78]) <;> (try rw [w79]) <;> (try rw [w80]) <;> (try rw [w81]) <;> (try rw [w82]) <;> (try rw [w83]) <;> (try rw [w84]) <;> (try rw [wg1]) <;> (try rw [wg2]) <;> (try rw [wg3]) <;> (try rw [wg4]) <;> (try rw [wg5]) <;> (try rw [wg6]) <;> (try rw [wg7]) <;> omega)))
    · clear c33
      refine ⟨zk_X9_fail, zm_X9_fail hg d (by omega), _, rfl, ⟨by omega, by omega⟩, ?_⟩
      intro x85 m86 qm86 kx85 lx85
      have z87 := zfx_t z24 qm86 rfl rfl
      have w88 : m86.1 66 ((31 : Nat) : Int) = g28 := (qm86.2.1 31 rfl).trans wg28
      have w89 : m86.1 66 ((30 : Nat) : Int) = g2 := (qm86.2.1 30 rfl).trans w25
      have w90 : m86.1 66 ((33 : Nat) : Int) = g29 := (qm86.2.1 33 rfl).trans wg29
      have w91 : m86.1 66 ((34 : Nat) : Int) = g30 := (qm86.2.1 34 rfl).trans wg30
      have w92 : m86.1 66 ((32 : Nat) : Int) = g31 := (qm86.2.1 32 rfl).trans wg31
      have w93 : m86.1 66 ((26 : Nat) : Int) = g6 := (qm86.2.1 26 rfl).trans w26
      have w94 : m86.1 66 ((70 : Nat) : Int) = (-1) := (qm86.2.1 70 rfl).trans w27
      clear wg28 w25 wg29 wg30 wg31 w26 w27
      exact And.intro (zrtb (by omega)) (And.intro ⟨by omega, by omega⟩ (hQ _ _ z87 (by omega) (by omega) (by (try rw [w88]) <;> (try rw [w89]) <;> (try rw [w90]) <;> (try rw [w91]) <;> (try rw [w92]) <;> (try rw [w93]) <;> (try rw [w94]) <;> (try rw [wg1]) <;> (try rw [wg2]) <;> (try rw [wg3]) <;> (try rw [wg4]) <;> (try rw [wg5]) <;> (try rw [wg6]) <;> (try rw [wg7]) <;> omega) (by (try rw [w88]) <;> (try rw [w89]) <;> (try rw [w90]) <;> (try rw [w91]) <;> (try rw [w92]) <;> (try rw [w93]) <;> (try rw [w94]) <;> (try rw [wg1]) <;> (try rw [wg2]) <;> (try rw [wg3]) <;> (try rw [wg4]) <;> (try rw [wg5]) <;> (try rw [wg6]) <;> (try rw [wg7]) <;> omega) (by (try rw [w88]) <;> (try rw [w89]) <;> (try rw [w90]) <;> (try rw [w91]) <;> (try rw [w92]) <;> (try rw [w93]) <;> (try rw [w94]) <;> (try rw [wg1]) <;> (try rw [wg2]) <;> (try rw [wg3]) <;> (try rw [wg4]) <;> (try rw [wg5]) <;> (try rw [wg6]) <;> (try rw [wg7]) <;> omega)))
  · clear c18
    exact And.intro (zrtb (by omega)) (And.intro ⟨by omega, by omega⟩ (hQ _ _ z9 (by omega) (by omega) (by (try rw [w10]) <;> (try rw [w11]) <;> (try rw [w12]) <;> (try rw [w13]) <;> (try rw [w14]) <;> (try rw [w15]) <;> (try rw [w16]) <;> (try rw [wg1]) <;> (try rw [wg2]) <;> (try rw [wg3]) <;> (try rw [wg4]) <;> (try rw [wg5]) <;> (try rw [wg6]) <;> (try rw [wg7]) <;> omega) (by (try rw [w10]) <;> (try rw [w11]) <;> (try rw [w12]) <;> (try rw [w13]) <;> (try rw [w14]) <;> (try rw [w15]) <;> (try rw [w16]) <;> (try rw [wg1]) <;> (try rw [wg2]) <;> (try rw [wg3]) <;> (try rw [wg4]) <;> (try rw [wg5]) <;> (try rw [wg6]) <;> (try rw [wg7]) <;> omega) (by (try rw [w10]) <;> (try rw [w11]) <;> (try rw [w12]) <;> (try rw [w13]) <;> (try rw [w14]) <;> (try rw [w15]) <;> (try rw [w16]) <;> (try rw [wg1]) <;> (try rw [wg2]) <;> (try rw [wg3]) <;> (try rw [wg4]) <;> (try rw [wg5]) <;> (try rw [wg6]) <;> (try rw [wg7]) <;> omega)))
def zk_X9_readQuestion : zC := fun As μ Q => ∃ (lo : Int) (C : Int) (Pn : Int) (F : Int) (cf : Int → Int), As = [.inr (.inr (66, 66))] ∧ (0 ≤ μ.1 66 ((33 : Nat) : Int) ∧ 0 ≤ μ.1 66 ((34 : Nat) : Int) ∧ μ.1 66 ((33 : Nat) : Int) + μ.1 66 ((34 : Nat) : Int) ≤ μ.1 66 ((31 : Nat) : Int) ∧ μ.1 66 ((31 : Nat) : Int) ≤ μ.1 66 ((30 : Nat) : Int) ∧ μ.1 66 ((30 : Nat) : Int) ≤ 800) ∧ (zND μ lo) ∧ (zWf μ lo (zTop μ) C Pn F cf) ∧ (μ.1 66 ((26 : Nat) : Int) ≤ C ∧ (∀ c : Int, 0 ≤ c → c < C → μ.1 76 (μ.1 66 ((24 : Nat) : Int) + c) + μ.1 77 (μ.1 66 ((24 : Nat) : Int) + c) ≤ Pn) ∧ C ≤ 21 ∧ Pn ≤ 80) ∧ (∀ v : Int, 0 ≤ v → v < C → cf v = μ.1 77 (μ.1 66 ((24 : Nat) : Int) + v)) ∧ (μ.1 66 ((8 : Nat) : Int) - μ.1 66 ((38 : Nat) : Int) ≤ 19699 ∧ 0 ≤ μ.1 66 ((38 : Nat) : Int) ∧ μ.1 66 ((38 : Nat) : Int) ≤ 300) ∧ (0 ≤ μ.1 66 ((26 : Nat) : Int)) ∧ (∀ (v : Int) (μ' : zM), zfx [67, 68, 69, 70, 71, 72, 73, 74, 100, 101, 102, 103, 104] [8, 31, 32, 33, 34, 35, 36, 38, 70, 71, 72] μ μ' → 0 ≤ v → v ≤ 1 → (0 ≤ μ'.1 66 ((33 : Nat) : Int) ∧ 0 ≤ μ'.1 66 ((34 : Nat) : Int) ∧ μ'.1 66 ((33 : Nat) : Int) + μ'.1 66 ((34 : Nat) : Int) ≤ μ'.1 66 ((31 : Nat) : Int) ∧ μ'.1 66 ((31 : Nat) : Int) ≤ μ'.1 66 ((30 : Nat) : Int) ∧ μ'.1 66 ((30 : Nat) : Int) ≤ 800) → (zTE μ μ' lo C Pn F cf) → (0 ≤ μ'.1 66 ((38 : Nat) : Int) ∧ μ'.1 66 ((38 : Nat) : Int) ≤ 300 ∧ μ'.1 66 ((30 : Nat) : Int) = μ.1 66 ((30 : Nat) : Int)) → (v = 1 → zTy μ' (μ'.1 66 ((71 : Nat) : Int)) ∧ zTy μ' (μ'.1 66 ((72 : Nat) : Int))) → Q (some (.inl v)) μ')
set_option maxHeartbeats 2000000 in
theorem zm_X9_readQuestion {g : zΓ} (hg : zg g) (d : Nat) (hd : 6 ≤ d) : zOk g d 157 zk_X9_readQuestion := by
  obtain ⟨d, rfl⟩ : ∃ d', d = d' + 1 := ⟨d - 1, by omega⟩
  refine zOk_straight hg (show mt_tab[157]? = some mt_X9_readQuestion from rfl) [] 46 rfl fun As μ Q hC => ?_
  obtain ⟨lo, C, Pn, F, cf, rfl, hp0, hp1, hp2, hp3, hp4, hp5, hp6, hQ⟩ := hC
  obtain ⟨g1, wg1⟩ : ∃ z : Int, μ.1 66 ((31 : Nat) : Int) = z := ⟨_, rfl⟩
  obtain ⟨g2, wg2⟩ : ∃ z : Int, μ.1 66 ((30 : Nat) : Int) = z := ⟨_, rfl⟩
  obtain ⟨g3, wg3⟩ : ∃ z : Int, μ.1 66 ((33 : Nat) : Int) = z := ⟨_, rfl⟩
  obtain ⟨g4, wg4⟩ : ∃ z : Int, μ.1 66 ((34 : Nat) : Int) = z := ⟨_, rfl⟩
  obtain ⟨g5, wg5⟩ : ∃ z : Int, μ.1 66 ((32 : Nat) : Int) = z := ⟨_, rfl⟩
  obtain ⟨g6, wg6⟩ : ∃ z : Int, μ.1 66 ((38 : Nat) : Int) = z := ⟨_, rfl⟩
  obtain ⟨g7, wg7⟩ : ∃ z : Int, μ.1 66 ((8 : Nat) : Int) = z := ⟨_, rfl⟩
  obtain ⟨g8, wg8⟩ : ∃ z : Int, μ.1 66 ((71 : Nat) : Int) = z := ⟨_, rfl⟩
  obtain ⟨g9, wg9⟩ : ∃ z : Int, μ.1 66 ((72 : Nat) : Int) = z := ⟨_, rfl⟩
  obtain ⟨g10, wg10⟩ : ∃ z : Int, μ.1 66 ((70 : Nat) : Int) = z := ⟨_, rfl⟩
  obtain ⟨g11, wg11⟩ : ∃ z : Int, μ.1 66 ((26 : Nat) : Int) = z := ⟨_, rfl⟩
  try rw [wg1] at hp0
  try rw [wg2] at hp0
  try rw [wg3] at hp0
  try rw [wg4] at hp0
  try rw [wg5] at hp0
  try rw [wg6] at hp0
  try rw [wg7] at hp0
  try rw [wg8] at hp0
  try rw [wg9] at hp0
  try rw [wg10] at hp0
  try rw [wg11] at hp0
  try rw [wg1] at hp1
  try rw [wg2] at hp1
  try rw [wg3] at hp1
  try rw [wg4] at hp1
  try rw [wg5] at hp1
  try rw [wg6] at hp1
  try rw [wg7] at hp1
  try rw [wg8] at hp1
  try rw [wg9] at hp1
  try rw [wg10] at hp1
  try rw [wg11] at hp1
  try rw [wg1] at hp2
  try rw [wg2] at hp2
  try rw [wg3] at hp2
  try rw [wg4] at hp2
  try rw [wg5] at hp2
  try rw [wg6] at hp2
  try rw [wg7] at hp2
  try rw [wg8] at hp2
  try rw [wg9] at hp2
  try rw [wg10] at hp2
  try rw [wg11] at hp2
  try rw [wg1] at hp3
  try rw [wg2] at hp3
  try rw [wg3] at hp3
  try rw [wg4] at hp3
  try rw [wg5] at hp3
  try rw [wg6] at hp3
  try rw [wg7] at hp3
  try rw [wg8] at hp3
  try rw [wg9] at hp3
  try rw [wg10] at hp3
  try rw [wg11] at hp3
  try rw [wg1] at hp4
  try rw [wg2] at hp4
  try rw [wg3] at hp4
  try rw [wg4] at hp4
  try rw [wg5] at hp4
  try rw [wg6] at hp4
  try rw [wg7] at hp4
  try rw [wg8] at hp4
  try rw [wg9] at hp4
  try rw [wg10] at hp4
  try rw [wg11] at hp4
  try rw [wg1] at hp5
  try rw [wg2] at hp5
  try rw [wg3] at hp5
  try rw [wg4] at hp5
  try rw [wg5] at hp5
  try rw [wg6] at hp5
  try rw [wg7] at hp5
  try rw [wg8] at hp5
  try rw [wg9] at hp5
  try rw [wg10] at hp5
  try rw [wg11] at hp5
  try rw [wg1] at hp6
  try rw [wg2] at hp6
  try rw [wg3] at hp6
  try rw [wg4] at hp6
  try rw [wg5] at hp6
  try rw [wg6] at hp6
  try rw [wg7] at hp6
  try rw [wg8] at hp6
  try rw [wg9] at hp6
  try rw [wg10] at hp6
  try rw [wg11] at hp6
  refine ⟨rfl, ?_⟩
  have z0 : zfx [67, 68, 69, 70, 71, 72, 73, 74, 100, 101, 102, 103, 104] [8, 31, 32, 33, 34, 35, 36, 38, 70, 71, 72] μ μ := zfx_x μ
  have TE0 := zTE_r hp1 hp2
  refine ⟨zk_X9_readIn, zm_X9_readIn hg d (by omega), rfl, (by (try rw [wg1]) <;> (try rw [wg2]) <;> (try rw [wg3]) <;> (try rw [wg4]) <;> (try rw [wg5]) <;> (try rw [wg6]) <;> (try rw [wg7]) <;> (try rw [wg8]) <;> (try rw [wg9]) <;> (try rw [wg10]) <;> (try rw [wg11]) <;> omega), (by (try rw [wg1]) <;> (try rw [wg2]) <;> (try rw [wg3]) <;> (try rw [wg4]) <;> (try rw [wg5]) <;> (try rw [wg6]) <;> (try rw [wg7]) <;> (try rw [wg8]) <;> (try rw [wg9]) <;> (try rw [wg10]) <;> (try rw [wg11]) <;> omega), ?_⟩
  intro x12 m13 qm13 kx12 lx12 p14 p15 p16
  have z17 := zfx_t z0 qm13 rfl rfl
  have w18 : m13.1 66 ((30 : Nat) : Int) = g2 := (qm13.2.1 30 rfl).trans wg2
  have w19 : m13.1 66 ((38 : Nat) : Int) = g6 := (qm13.2.1 38 rfl).trans wg6
  have w20 : m13.1 66 ((8 : Nat) : Int) = g7 := (qm13.2.1 8 rfl).trans wg7
  have w21 : m13.1 66 ((71 : Nat) : Int) = g8 := (qm13.2.1 71 rfl).trans wg8
  have w22 : m13.1 66 ((72 : Nat) : Int) = g9 := (qm13.2.1 72 rfl).trans wg9
  have w23 : m13.1 66 ((26 : Nat) : Int) = g11 := (qm13.2.1 26 rfl).trans wg11
  obtain ⟨g24, wg24⟩ : ∃ z : Int, m13.1 66 ((31 : Nat) : Int) = z := ⟨_, rfl⟩
  obtain ⟨g25, wg25⟩ : ∃ z : Int, m13.1 66 ((33 : Nat) : Int) = z := ⟨_, rfl⟩
  obtain ⟨g26, wg26⟩ : ∃ z : Int, m13.1 66 ((34 : Nat) : Int) = z := ⟨_, rfl⟩
  obtain ⟨g27, wg27⟩ : ∃ z : Int, m13.1 66 ((32 : Nat) : Int) = z := ⟨_, rfl⟩
  obtain ⟨g28, wg28⟩ : ∃ z : Int, m13.1 66 ((70 : Nat) : Int) = z := ⟨_, rfl⟩
  try rw [wg24] at p14
  try rw [w18] at p14
  try rw [wg25] at p14
  try rw [wg26] at p14
  try rw [wg27] at p14
  try rw [w19] at p14
  try rw [w20] at p14
  try rw [w21] at p14
  try rw [w22] at p14
  try rw [wg28] at p14
  try rw [w23] at p14
  try rw [wg1] at p14
  try rw [wg2] at p14
  try rw [wg3] at p14
  try rw [wg4] at p14
  try rw [wg5] at p14
  try rw [wg6] at p14
  try rw [wg7] at p14
  try rw [wg8] at p14
  try rw [wg9] at p14
  try rw [wg10] at p14
  try rw [wg11] at p14
  try rw [wg24] at p15
  try rw [w18] at p15
  try rw [wg25] at p15
  try rw [wg26] at p15
  try rw [wg27] at p15
  try rw [w19] at p15
  try rw [w20] at p15
  try rw [w21] at p15
  try rw [w22] at p15
  try rw [wg28] at p15
  try rw [w23] at p15
  try rw [wg1] at p15
  try rw [wg2] at p15
  try rw [wg3] at p15
  try rw [wg4] at p15
  try rw [wg5] at p15
  try rw [wg6] at p15
  try rw [wg7] at p15
  try rw [wg8] at p15
  try rw [wg9] at p15
  try rw [wg10] at p15
  try rw [wg11] at p15
  try rw [wg24] at p16
  try rw [w18] at p16
  try rw [wg25] at p16
  try rw [wg26] at p16
  try rw [wg27] at p16
  try rw [w19] at p16
  try rw [w20] at p16
  try rw [w21] at p16
  try rw [w22] at p16
  try rw [wg28] at p16
  try rw [w23] at p16
  try rw [wg1] at p16
  try rw [wg2] at p16
  try rw [wg3] at p16
  try rw [wg4] at p16
  try rw [wg5] at p16
  try rw [wg6] at p16
  try rw [wg7] at p16
  try rw [wg8] at p16
  try rw [wg9] at p16
  try rw [wg10] at p16
  try rw [wg11] at p16
  have TE29 := zTE_fr (m' := m13) TE0 (fun j a b => qm13.1 j (by omega) (zanyF (by simp <;> omega))) (qm13.2.1 8 rfl) (qm13.2.1 38 rfl)
  refine And.intro ⟨by omega, by omega⟩ (And.intro (fun c30 => ?_) (fun c30 => ?_))
  · intro x31 hx31 kx31 lx31
    rw [wg28] at hx31
    refine ⟨zk_X9_readType, zm_X9_readType hg d (by omega), _, _, _, _, _, _, _, _, _, _, rfl, ⟨by omega, by omega⟩, ⟨by omega, by omega⟩, ⟨by omega, by omega⟩, (by (try rw [wg24]) <;> (try rw [w18]) <;> (try rw [wg25]) <;> (try rw [wg26]) <;> (try rw [wg27]) <;> (try rw [w19]) <;> (try rw [w20]) <;> (try rw [w21]) <;> (try rw [w22]) <;> (try rw [wg28]) <;> (try rw [w23]) <;> (try rw [wg1]) <;> (try rw [wg2]) <;> (try rw [wg3]) <;> (try rw [wg4]) <;> (try rw [wg5]) <;> (try rw [wg6]) <;> (try rw [wg7]) <;> (try rw [wg8]) <;> (try rw [wg9]) <;> (try rw [wg10]) <;> (try rw [wg11]) <;> omega), TE29.1.1, TE29.1.2.1, ⟨by first | (rw [show m13.1 66 ((26 : Nat) : Int) = μ.1 66 ((26 : Nat) : Int) from z17.2.1 26 rfl]; exact hp3.1) | (exact (by (try rw [wg24]) <;> (try rw [w18]) <;> (try rw [wg25]) <;> (try rw [wg26]) <;> (try rw [wg27]) <;> (try rw [w19]) <;> (try rw [w20]) <;> (try rw [w21]) <;> (try rw [w22]) <;> (try rw [wg28]) <;> (try rw [w23]) <;> (try rw [wg1]) <;> (try rw [wg2]) <;> (try rw [wg3]) <;> (try rw [wg4]) <;> (try rw [wg5]) <;> (try rw [wg6]) <;> (try rw [wg7]) <;> (try rw [wg8]) <;> (try rw [wg9]) <;> (try rw [wg10]) <;> (try rw [wg11]) <;> omega)), fun h => by rw [show m13.1 76 = μ.1 76 from z17.1 76 (by decide) rfl, show m13.1 77 = μ.1 77 from z17.1 77 (by decide) rfl, show m13.1 66 ((24 : Nat) : Int) = μ.1 66 ((24 : Nat) : Int) from z17.2.1 24 rfl]; exact hp3.2.1 _ h (by omega), hp3.2.2⟩, (fun v a b => by rw [show m13.1 77 = μ.1 77 from z17.1 77 (by decide) rfl, show m13.1 66 ((24 : Nat) : Int) = μ.1 66 ((24 : Nat) : Int) from z17.2.1 24 rfl]; exact hp4 v a b), (by (try rw [w20]); (try rw [w19]); exact ⟨zTE_pre TE29 w20 w19 wg7 wg6 hp5.1, by omega, by omega⟩), (fun _ => ⟨Int.le_refl _, Int.le_refl _⟩), ?_⟩
    intro x32 m33 qm33 kx32 lx32 p34 p35 p36 p37 p38 p39 p40
    have z41 := zfx_t z17 qm33 rfl rfl
    have w42 : m33.1 66 ((30 : Nat) : Int) = g2 := (qm33.2.1 30 rfl).trans w18
    have w43 : m33.1 66 ((71 : Nat) : Int) = g8 := (qm33.2.1 71 rfl).trans w21
    have w44 : m33.1 66 ((72 : Nat) : Int) = g9 := (qm33.2.1 72 rfl).trans w22
    have w45 : m33.1 66 ((70 : Nat) : Int) = g28 := (qm33.2.1 70 rfl).trans wg28
    have w46 : m33.1 66 ((26 : Nat) : Int) = g11 := (qm33.2.1 26 rfl).trans w23
    obtain ⟨g47, wg47⟩ : ∃ z : Int, m33.1 66 ((31 : Nat) : Int) = z := ⟨_, rfl⟩
    obtain ⟨g48, wg48⟩ : ∃ z : Int, m33.1 66 ((33 : Nat) : Int) = z := ⟨_, rfl⟩
    obtain ⟨g49, wg49⟩ : ∃ z : Int, m33.1 66 ((34 : Nat) : Int) = z := ⟨_, rfl⟩
    obtain ⟨g50, wg50⟩ : ∃ z : Int, m33.1 66 ((32 : Nat) : Int) = z := ⟨_, rfl⟩
    obtain ⟨g51, wg51⟩ : ∃ z : Int, m33.1 66 ((38 : Nat) : Int) = z := ⟨_, rfl⟩
    obtain ⟨g52, wg52⟩ : ∃ z : Int, m33.1 66 ((8 : Nat) : Int) = z := ⟨_, rfl⟩
    try rw [wg47] at p34
    try rw [w42] at p34
    try rw [wg48] at p34
    try rw [wg49] at p34
    try rw [wg50] at p34
    try rw [wg51] at p34
    try rw [wg52] at p34
    try rw [w43] at p34
    try rw [w44] at p34
    try rw [w45] at p34
    try rw [w46] at p34
    try rw [wg24] at p34
    try rw [w18] at p34
    try rw [wg25] at p34
    try rw [wg26] at p34
    try rw [wg27] at p34
    try rw [w19] at p34
    try rw [w20] at p34
    try rw [w21] at p34
    try rw [w22] at p34
    try rw [wg28] at p34
    try rw [w23] at p34
    try rw [wg1] at p34
    try rw [wg2] at p34
    try rw [wg3] at p34
    try rw [wg4] at p34
    try rw [wg5] at p34
    try rw [wg6] at p34
    try rw [wg7] at p34
    try rw [wg8] at p34
    try rw [wg9] at p34
    try rw [wg10] at p34
    try rw [wg11] at p34
    try rw [wg47] at p35
    try rw [w42] at p35
    try rw [wg48] at p35
    try rw [wg49] at p35
    try rw [wg50] at p35
    try rw [wg51] at p35
    try rw [wg52] at p35
    try rw [w43] at p35
    try rw [w44] at p35
    try rw [w45] at p35
    try rw [w46] at p35
    try rw [wg24] at p35
    try rw [w18] at p35
    try rw [wg25] at p35
    try rw [wg26] at p35
    try rw [wg27] at p35
    try rw [w19] at p35
    try rw [w20] at p35
    try rw [w21] at p35
    try rw [w22] at p35
    try rw [wg28] at p35
    try rw [w23] at p35
    try rw [wg1] at p35
    try rw [wg2] at p35
    try rw [wg3] at p35
    try rw [wg4] at p35
    try rw [wg5] at p35
    try rw [wg6] at p35
    try rw [wg7] at p35
    try rw [wg8] at p35
    try rw [wg9] at p35
    try rw [wg10] at p35
    try rw [wg11] at p35
    try rw [wg47] at p36
    try rw [w42] at p36
    try rw [wg48] at p36
    try rw [wg49] at p36
    try rw [wg50] at p36
    try rw [wg51] at p36
    try rw [wg52] at p36
    try rw [w43] at p36
    try rw [w44] at p36
    try rw [w45] at p36
    try rw [w46] at p36
    try rw [wg24] at p36
    try rw [w18] at p36
    try rw [wg25] at p36
    try rw [wg26] at p36
    try rw [wg27] at p36
    try rw [w19] at p36
    try rw [w20] at p36
    try rw [w21] at p36
    try rw [w22] at p36
    try rw [wg28] at p36
    try rw [w23] at p36
    try rw [wg1] at p36
    try rw [wg2] at p36
    try rw [wg3] at p36
    try rw [wg4] at p36
    try rw [wg5] at p36
    try rw [wg6] at p36
    try rw [wg7] at p36
    try rw [wg8] at p36
    try rw [wg9] at p36
    try rw [wg10] at p36
    try rw [wg11] at p36
    try rw [wg47] at p37
    try rw [w42] at p37
    try rw [wg48] at p37
    try rw [wg49] at p37
    try rw [wg50] at p37
    try rw [wg51] at p37
    try rw [wg52] at p37
    try rw [w43] at p37
    try rw [w44] at p37
    try rw [w45] at p37
    try rw [w46] at p37
    try rw [wg24] at p37
    try rw [w18] at p37
    try rw [wg25] at p37
    try rw [wg26] at p37
    try rw [wg27] at p37
    try rw [w19] at p37
    try rw [w20] at p37
    try rw [w21] at p37
    try rw [w22] at p37
    try rw [wg28] at p37
    try rw [w23] at p37
    try rw [wg1] at p37
    try rw [wg2] at p37
    try rw [wg3] at p37
    try rw [wg4] at p37
    try rw [wg5] at p37
    try rw [wg6] at p37
    try rw [wg7] at p37
    try rw [wg8] at p37
    try rw [wg9] at p37
    try rw [wg10] at p37
    try rw [wg11] at p37
    try rw [wg47] at p38
    try rw [w42] at p38
    try rw [wg48] at p38
    try rw [wg49] at p38
    try rw [wg50] at p38
    try rw [wg51] at p38
    try rw [wg52] at p38
    try rw [w43] at p38
    try rw [w44] at p38
    try rw [w45] at p38
    try rw [w46] at p38
    try rw [wg24] at p38
    try rw [w18] at p38
    try rw [wg25] at p38
    try rw [wg26] at p38
    try rw [wg27] at p38
    try rw [w19] at p38
    try rw [w20] at p38
    try rw [w21] at p38
    try rw [w22] at p38
    try rw [wg28] at p38
    try rw [w23] at p38
    try rw [wg1] at p38
    try rw [wg2] at p38
    try rw [wg3] at p38
    try rw [wg4] at p38
    try rw [wg5] at p38
    try rw [wg6] at p38
    try rw [wg7] at p38
    try rw [wg8] at p38
    try rw [wg9] at p38
    try rw [wg10] at p38
    try rw [wg11] at p38
    try rw [wg47] at p39
    try rw [w42] at p39
    try rw [wg48] at p39
    try rw [wg49] at p39
    try rw [wg50] at p39
    try rw [wg51] at p39
    try rw [wg52] at p39
    try rw [w43] at p39
    try rw [w44] at p39
    try rw [w45] at p39
    try rw [w46] at p39
    try rw [wg24] at p39
    try rw [w18] at p39
    try rw [wg25] at p39
    try rw [wg26] at p39
    try rw [wg27] at p39
    try rw [w19] at p39
    try rw [w20] at p39
    try rw [w21] at p39
    try rw [w22] at p39
    try rw [wg28] at p39
    try rw [w23] at p39
    try rw [wg1] at p39
    try rw [wg2] at p39
    try rw [wg3] at p39
    try rw [wg4] at p39
    try rw [wg5] at p39
    try rw [wg6] at p39
    try rw [wg7] at p39
    try rw [wg8] at p39
    try rw [wg9] at p39
    try rw [wg10] at p39
    try rw [wg11] at p39
    try rw [wg47] at p40
    try rw [w42] at p40
    try rw [wg48] at p40
    try rw [wg49] at p40
    try rw [wg50] at p40
    try rw [wg51] at p40
    try rw [wg52] at p40
    try rw [w43] at p40
    try rw [w44] at p40
    try rw [w45] at p40
    try rw [w46] at p40
    try rw [wg24] at p40
    try rw [w18] at p40
    try rw [wg25] at p40
    try rw [wg26] at p40
    try rw [wg27] at p40
    try rw [w19] at p40
    try rw [w20] at p40
    try rw [w21] at p40
    try rw [w22] at p40
    try rw [wg28] at p40
    try rw [w23] at p40
    try rw [wg1] at p40
    try rw [wg2] at p40
    try rw [wg3] at p40
    try rw [wg4] at p40
    try rw [wg5] at p40
    try rw [wg6] at p40
    try rw [wg7] at p40
    try rw [wg8] at p40
    try rw [wg9] at p40
    try rw [wg10] at p40
    try rw [wg11] at p40
    clear wg24 w18 wg25 wg26 wg27 w19 w20 w21 w22 wg28 w23
    have TE53 := zTE_t TE29 p36
    have Y54 : 0 ≤ x32 → zTy m33 x32 := fun h => by have h1 : lo ≤ x32 ∧ x32 < zTop m33 ∧ m33.1 67 x32 ≤ 1 := (by rcases p39 with c | c; omega; exact ⟨c.1, c.2.1, c.2.2.1⟩); exact ⟨⟨h, h1.2.1⟩, by omega⟩
    clear p36 p38 p39
    refine And.intro ⟨by omega, by omega⟩ ?_
    intro m55 em55
    have z56 := zfx_f z41 em55 rfl
    have w57 : m55.1 66 ((31 : Nat) : Int) = g47 := by rw [em55]; exact (zu_nk (by decide)).trans wg47
    have w58 : m55.1 66 ((30 : Nat) : Int) = g2 := by rw [em55]; exact (zu_nk (by decide)).trans w42
    have w59 : m55.1 66 ((33 : Nat) : Int) = g48 := by rw [em55]; exact (zu_nk (by decide)).trans wg48
    have w60 : m55.1 66 ((34 : Nat) : Int) = g49 := by rw [em55]; exact (zu_nk (by decide)).trans wg49
    have w61 : m55.1 66 ((32 : Nat) : Int) = g50 := by rw [em55]; exact (zu_nk (by decide)).trans wg50
    have w62 : m55.1 66 ((38 : Nat) : Int) = g51 := by rw [em55]; exact (zu_nk (by decide)).trans wg51
    have w63 : m55.1 66 ((8 : Nat) : Int) = g52 := by rw [em55]; exact (zu_nk (by decide)).trans wg52
    have w64 : m55.1 66 ((71 : Nat) : Int) = x32 := by rw [em55]; exact zu_at
    have w65 : m55.1 66 ((72 : Nat) : Int) = g9 := by rw [em55]; exact (zu_nk (by decide)).trans w44
    have w66 : m55.1 66 ((70 : Nat) : Int) = g28 := by rw [em55]; exact (zu_nk (by decide)).trans w45
    have w67 : m55.1 66 ((26 : Nat) : Int) = g11 := by rw [em55]; exact (zu_nk (by decide)).trans w46
    clear wg47 w42 wg48 wg49 wg50 wg51 wg52 w43 w44 w45 w46
    have TE68 := zTE_fr (m' := m55) TE53 (fun j a b => by rw [em55, zu_ne (by omega)]) (by rw [em55]; exact zu_nk (by decide)) (by rw [em55]; exact zu_nk (by decide))
    have Y69 : 0 ≤ x32 → zTy m55 x32 := fun h => zTy_same (Y54 h) (by rw [em55, zu_ne (by decide)]) (by rw [em55]; exact zu_nk (by decide))
    intro x70 hx70 kx70 lx70
    rw [w64] at hx70
    refine And.intro ⟨by omega, by omega⟩ (And.intro (fun c71 => ?_) (fun c71 => ?_))
    · exact And.intro (zrtb (by omega)) (And.intro ⟨by omega, by omega⟩ (hQ _ _ z56 (by omega) (by omega) (by (try rw [w57]) <;> (try rw [w58]) <;> (try rw [w59]) <;> (try rw [w60]) <;> (try rw [w61]) <;> (try rw [w62]) <;> (try rw [w63]) <;> (try rw [w64]) <;> (try rw [w65]) <;> (try rw [w66]) <;> (try rw [w67]) <;> (try rw [wg1]) <;> (try rw [wg2]) <;> (try rw [wg3]) <;> (try rw [wg4]) <;> (try rw [wg5]) <;> (try rw [wg6]) <;> (try rw [wg7]) <;> (try rw [wg8]) <;> (try rw [wg9]) <;> (try rw [wg10]) <;> (try rw [wg11]) <;> omega) TE68 (by (try rw [w57]) <;> (try rw [w58]) <;> (try rw [w59]) <;> (try rw [w60]) <;> (try rw [w61]) <;> (try rw [w62]) <;> (try rw [w63]) <;> (try rw [w64]) <;> (try rw [w65]) <;> (try rw [w66]) <;> (try rw [w67]) <;> (try rw [wg1]) <;> (try rw [wg2]) <;> (try rw [wg3]) <;> (try rw [wg4]) <;> (try rw [wg5]) <;> (try rw [wg6]) <;> (try rw [wg7]) <;> (try rw [wg8]) <;> (try rw [wg9]) <;> (try rw [wg10]) <;> (try rw [wg11]) <;> omega) (fun h => by omega)))
    · refine ⟨zk_X9_want, zm_X9_want hg d (by omega), _, rfl, ⟨by omega, by omega⟩, (by (try rw [w57]) <;> (try rw [w58]) <;> (try rw [w59]) <;> (try rw [w60]) <;> (try rw [w61]) <;> (try rw [w62]) <;> (try rw [w63]) <;> (try rw [w64]) <;> (try rw [w65]) <;> (try rw [w66]) <;> (try rw [w67]) <;> (try rw [wg1]) <;> (try rw [wg2]) <;> (try rw [wg3]) <;> (try rw [wg4]) <;> (try rw [wg5]) <;> (try rw [wg6]) <;> (try rw [wg7]) <;> (try rw [wg8]) <;> (try rw [wg9]) <;> (try rw [wg10]) <;> (try rw [wg11]) <;> omega), ?_⟩
      intro x72 m73 qm73 kx72 lx72 p74 p75 p76 p77
      have z78 := zfx_t z56 qm73 rfl rfl
      have w79 : m73.1 66 ((30 : Nat) : Int) = g2 := (qm73.2.1 30 rfl).trans w58
      have w80 : m73.1 66 ((38 : Nat) : Int) = g51 := (qm73.2.1 38 rfl).trans w62
      have w81 : m73.1 66 ((8 : Nat) : Int) = g52 := (qm73.2.1 8 rfl).trans w63
      have w82 : m73.1 66 ((71 : Nat) : Int) = x32 := (qm73.2.1 71 rfl).trans w64
      have w83 : m73.1 66 ((72 : Nat) : Int) = g9 := (qm73.2.1 72 rfl).trans w65
      have w84 : m73.1 66 ((70 : Nat) : Int) = g28 := (qm73.2.1 70 rfl).trans w66
      have w85 : m73.1 66 ((26 : Nat) : Int) = g11 := (qm73.2.1 26 rfl).trans w67
      obtain ⟨g86, wg86⟩ : ∃ z : Int, m73.1 66 ((31 : Nat) : Int) = z := ⟨_, rfl⟩
      obtain ⟨g87, wg87⟩ : ∃ z : Int, m73.1 66 ((33 : Nat) : Int) = z := ⟨_, rfl⟩
      obtain ⟨g88, wg88⟩ : ∃ z : Int, m73.1 66 ((34 : Nat) : Int) = z := ⟨_, rfl⟩
      obtain ⟨g89, wg89⟩ : ∃ z : Int, m73.1 66 ((32 : Nat) : Int) = z := ⟨_, rfl⟩
      try rw [wg86] at p74
      try rw [w79] at p74
      try rw [wg87] at p74
      try rw [wg88] at p74
      try rw [wg89] at p74
      try rw [w80] at p74
      try rw [w81] at p74
      try rw [w82] at p74
      try rw [w83] at p74
      try rw [w84] at p74
      try rw [w85] at p74
      try rw [w57] at p74
      try rw [w58] at p74
      try rw [w59] at p74
      try rw [w60] at p74
      try rw [w61] at p74
      try rw [w62] at p74
      try rw [w63] at p74
      try rw [w64] at p74
      try rw [w65] at p74
      try rw [w66] at p74
      try rw [w67] at p74
      try rw [wg1] at p74
      try rw [wg2] at p74
      try rw [wg3] at p74
      try rw [wg4] at p74
      try rw [wg5] at p74
      try rw [wg6] at p74
      try rw [wg7] at p74
      try rw [wg8] at p74
      try rw [wg9] at p74
      try rw [wg10] at p74
      try rw [wg11] at p74
      try rw [wg86] at p75
      try rw [w79] at p75
      try rw [wg87] at p75
      try rw [wg88] at p75
      try rw [wg89] at p75
      try rw [w80] at p75
      try rw [w81] at p75
      try rw [w82] at p75
      try rw [w83] at p75
      try rw [w84] at p75
      try rw [w85] at p75
      try rw [w57] at p75
      try rw [w58] at p75
      try rw [w59] at p75
      try rw [w60] at p75
      try rw [w61] at p75
      try rw [w62] at p75
      try rw [w63] at p75
      try rw [w64] at p75
      try rw [w65] at p75
      try rw [w66] at p75
      try rw [w67] at p75
      try rw [wg1] at p75
      try rw [wg2] at p75
      try rw [wg3] at p75
      try rw [wg4] at p75
      try rw [wg5] at p75
      try rw [wg6] at p75
      try rw [wg7] at p75
      try rw [wg8] at p75
      try rw [wg9] at p75
      try rw [wg10] at p75
      try rw [wg11] at p75
      try rw [wg86] at p76
      try rw [w79] at p76
      try rw [wg87] at p76
      try rw [wg88] at p76
      try rw [wg89] at p76
      try rw [w80] at p76
      try rw [w81] at p76
      try rw [w82] at p76
      try rw [w83] at p76
      try rw [w84] at p76
      try rw [w85] at p76
      try rw [w57] at p76
      try rw [w58] at p76
      try rw [w59] at p76
      try rw [w60] at p76
      try rw [w61] at p76
      try rw [w62] at p76
      try rw [w63] at p76
      try rw [w64] at p76
      try rw [w65] at p76
      try rw [w66] at p76
      try rw [w67] at p76
      try rw [wg1] at p76
      try rw [wg2] at p76
      try rw [wg3] at p76
      try rw [wg4] at p76
      try rw [wg5] at p76
      try rw [wg6] at p76
      try rw [wg7] at p76
      try rw [wg8] at p76
      try rw [wg9] at p76
      try rw [wg10] at p76
      try rw [wg11] at p76
      try rw [wg86] at p77
      try rw [w79] at p77
      try rw [wg87] at p77
      try rw [wg88] at p77
      try rw [wg89] at p77
      try rw [w80] at p77
      try rw [w81] at p77
      try rw [w82] at p77
      try rw [w83] at p77
      try rw [w84] at p77
      try rw [w85] at p77
      try rw [w57] at p77
      try rw [w58] at p77
      try rw [w59] at p77
      try rw [w60] at p77
      try rw [w61] at p77
      try rw [w62] at p77
      try rw [w63] at p77
      try rw [w64] at p77
      try rw [w65] at p77
      try rw [w66] at p77
      try rw [w67] at p77
      try rw [wg1] at p77
      try rw [wg2] at p77
      try rw [wg3] at p77
      try rw [wg4] at p77
      try rw [wg5] at p77
      try rw [wg6] at p77
      try rw [wg7] at p77
      try rw [wg8] at p77
      try rw [wg9] at p77
      try rw [wg10] at p77
      try rw [wg11] at p77
      clear w57 w58 w59 w60 w61 w62 w63 w64 w65 w66 w67
      have TE90 := zTE_fr (m' := m73) TE68 (fun j a b => qm73.1 j (by omega) (zanyF (by simp <;> omega))) (qm73.2.1 8 rfl) (qm73.2.1 38 rfl)
      have Y91 : 0 ≤ x32 → zTy m73 x32 := fun h => zTy_same (Y69 h) (qm73.1 67 (by decide) rfl) (qm73.2.1 8 rfl)
      refine And.intro ⟨by omega, by omega⟩ (And.intro (fun c92 => ?_) (fun c92 => ?_))
      · exact And.intro (zrtb (by omega)) (And.intro ⟨by omega, by omega⟩ (hQ _ _ z78 (by omega) (by omega) (by (try rw [wg86]) <;> (try rw [w79]) <;> (try rw [wg87]) <;> (try rw [wg88]) <;> (try rw [wg89]) <;> (try rw [w80]) <;> (try rw [w81]) <;> (try rw [w82]) <;> (try rw [w83]) <;> (try rw [w84]) <;> (try rw [w85]) <;> (try rw [wg1]) <;> (try rw [wg2]) <;> (try rw [wg3]) <;> (try rw [wg4]) <;> (try rw [wg5]) <;> (try rw [wg6]) <;> (try rw [wg7]) <;> (try rw [wg8]) <;> (try rw [wg9]) <;> (try rw [wg10]) <;> (try rw [wg11]) <;> omega) TE90 (by (try rw [wg86]) <;> (try rw [w79]) <;> (try rw [wg87]) <;> (try rw [wg88]) <;> (try rw [wg89]) <;> (try rw [w80]) <;> (try rw [w81]) <;> (try rw [w82]) <;> (try rw [w83]) <;> (try rw [w84]) <;> (try rw [w85]) <;> (try rw [wg1]) <;> (try rw [wg2]) <;> (try rw [wg3]) <;> (try rw [wg4]) <;> (try rw [wg5]) <;> (try rw [wg6]) <;> (try rw [wg7]) <;> (try rw [wg8]) <;> (try rw [wg9]) <;> (try rw [wg10]) <;> (try rw [wg11]) <;> omega) (fun h => by omega)))
      · refine ⟨zk_X9_want, zm_X9_want hg d (by omega), _, rfl, ⟨by omega, by omega⟩, (by (try rw [wg86]) <;> (try rw [w79]) <;> (try rw [wg87]) <;> (try rw [wg88]) <;> (try rw [wg89]) <;> (try rw [w80]) <;> (try rw [w81]) <;> (try rw [w82]) <;> (try rw [w83]) <;> (try rw [w84]) <;> (try rw [w85]) <;> (try rw [wg1]) <;> (try rw [wg2]) <;> (try rw [wg3]) <;> (try rw [wg4]) <;> (try rw [wg5]) <;> (try rw [wg6]) <;> (try rw [wg7]) <;> (try rw [wg8]) <;> (try rw [wg9]) <;> (try rw [wg10]) <;> (try rw [wg11]) <;> omega), ?_⟩
        intro x93 m94 qm94 kx93 lx93 p95 p96 p97 p98
        have z99 := zfx_t z78 qm94 rfl rfl
        have w100 : m94.1 66 ((30 : Nat) : Int) = g2 := (qm94.2.1 30 rfl).trans w79
        have w101 : m94.1 66 ((38 : Nat) : Int) = g51 := (qm94.2.1 38 rfl).trans w80
        have w102 : m94.1 66 ((8 : Nat) : Int) = g52 := (qm94.2.1 8 rfl).trans w81
        have w103 : m94.1 66 ((71 : Nat) : Int) = x32 := (qm94.2.1 71 rfl).trans w82
        have w104 : m94.1 66 ((72 : Nat) : Int) = g9 := (qm94.2.1 72 rfl).trans w83
        have w105 : m94.1 66 ((70 : Nat) : Int) = g28 := (qm94.2.1 70 rfl).trans w84
        have w106 : m94.1 66 ((26 : Nat) : Int) = g11 := (qm94.2.1 26 rfl).trans w85
        obtain ⟨g107, wg107⟩ : ∃ z : Int, m94.1 66 ((31 : Nat) : Int) = z := ⟨_, rfl⟩
        obtain ⟨g108, wg108⟩ : ∃ z : Int, m94.1 66 ((33 : Nat) : Int) = z := ⟨_, rfl⟩
        obtain ⟨g109, wg109⟩ : ∃ z : Int, m94.1 66 ((34 : Nat) : Int) = z := ⟨_, rfl⟩
        obtain ⟨g110, wg110⟩ : ∃ z : Int, m94.1 66 ((32 : Nat) : Int) = z := ⟨_, rfl⟩
        try rw [wg107] at p95
        try rw [w100] at p95
        try rw [wg108] at p95
        try rw [wg109] at p95
        try rw [wg110] at p95
        try rw [w101] at p95
        try rw [w102] at p95
        try rw [w103] at p95
        try rw [w104] at p95
        try rw [w105] at p95
        try rw [w106] at p95
        try rw [wg86] at p95
        try rw [w79] at p95
        try rw [wg87] at p95
        try rw [wg88] at p95
        try rw [wg89] at p95
        try rw [w80] at p95
        try rw [w81] at p95
        try rw [w82] at p95
        try rw [w83] at p95
        try rw [w84] at p95
        try rw [w85] at p95
        try rw [wg1] at p95
        try rw [wg2] at p95
        try rw [wg3] at p95
        try rw [wg4] at p95
        try rw [wg5] at p95
        try rw [wg6] at p95
        try rw [wg7] at p95
        try rw [wg8] at p95
        try rw [wg9] at p95
        try rw [wg10] at p95
        try rw [wg11] at p95
        try rw [wg107] at p96
        try rw [w100] at p96
        try rw [wg108] at p96
        try rw [wg109] at p96
        try rw [wg110] at p96
        try rw [w101] at p96
        try rw [w102] at p96
        try rw [w103] at p96
        try rw [w104] at p96
        try rw [w105] at p96
        try rw [w106] at p96
        try rw [wg86] at p96
        try rw [w79] at p96
        try rw [wg87] at p96
        try rw [wg88] at p96
        try rw [wg89] at p96
        try rw [w80] at p96
        try rw [w81] at p96
        try rw [w82] at p96
        try rw [w83] at p96
        try rw [w84] at p96
        try rw [w85] at p96
        try rw [wg1] at p96
        try rw [wg2] at p96
        try rw [wg3] at p96
        try rw [wg4] at p96
        try rw [wg5] at p96
        try rw [wg6] at p96
        try rw [wg7] at p96
        try rw [wg8] at p96
        try rw [wg9] at p96
        try rw [wg10] at p96
        try rw [wg11] at p96
        try rw [wg107] at p97
        try rw [w100] at p97
        try rw [wg108] at p97
        try rw [wg109] at p97
        try rw [wg110] at p97
        try rw [w101] at p97
        try rw [w102] at p97
        try rw [w103] at p97
        try rw [w104] at p97
        try rw [w105] at p97
        try rw [w106] at p97
        try rw [wg86] at p97
        try rw [w79] at p97
        try rw [wg87] at p97
        try rw [wg88] at p97
        try rw [wg89] at p97
        try rw [w80] at p97
        try rw [w81] at p97
        try rw [w82] at p97
        try rw [w83] at p97
        try rw [w84] at p97
        try rw [w85] at p97
        try rw [wg1] at p97
        try rw [wg2] at p97
        try rw [wg3] at p97
        try rw [wg4] at p97
        try rw [wg5] at p97
        try rw [wg6] at p97
        try rw [wg7] at p97
        try rw [wg8] at p97
        try rw [wg9] at p97
        try rw [wg10] at p97
        try rw [wg11] at p97
        try rw [wg107] at p98
        try rw [w100] at p98
        try rw [wg108] at p98
        try rw [wg109] at p98
        try rw [wg110] at p98
        try rw [w101] at p98
        try rw [w102] at p98
        try rw [w103] at p98
        try rw [w104] at p98
        try rw [w105] at p98
        try rw [w106] at p98
        try rw [wg86] at p98
        try rw [w79] at p98
        try rw [wg87] at p98
        try rw [wg88] at p98
        try rw [wg89] at p98
        try rw [w80] at p98
        try rw [w81] at p98
        try rw [w82] at p98
        try rw [w83] at p98
        try rw [w84] at p98
        try rw [w85] at p98
        try rw [wg1] at p98
        try rw [wg2] at p98
        try rw [wg3] at p98
        try rw [wg4] at p98
        try rw [wg5] at p98
        try rw [wg6] at p98
        try rw [wg7] at p98
        try rw [wg8] at p98
        try rw [wg9] at p98
        try rw [wg10] at p98
        try rw [wg11] at p98
        clear wg86 w79 wg87 wg88 wg89 w80 w81 w82 w83 w84 w85
        have TE111 := zTE_fr (m' := m94) TE90 (fun j a b => qm94.1 j (by omega) (zanyF (by simp <;> omega))) (qm94.2.1 8 rfl) (qm94.2.1 38 rfl)
        have Y112 : 0 ≤ x32 → zTy m94 x32 := fun h => zTy_same (Y91 h) (qm94.1 67 (by decide) rfl) (qm94.2.1 8 rfl)
        refine And.intro ⟨by omega, by omega⟩ (And.intro (fun c113 => ?_) (fun c113 => ?_))
        · intro x114 hx114 kx114 lx114
          rw [w105] at hx114
          refine ⟨zk_X9_readType, zm_X9_readType hg d (by omega), _, _, _, _, _, _, _, _, _, _, rfl, ⟨by omega, by omega⟩, ⟨by omega, by omega⟩, ⟨by omega, by omega⟩, (by (try rw [wg107]) <;> (try rw [w100]) <;> (try rw [wg108]) <;> (try rw [wg109]) <;> (try rw [wg110]) <;> (try rw [w101]) <;> (try rw [w102]) <;> (try rw [w103]) <;> (try rw [w104]) <;> (try rw [w105]) <;> (try rw [w106]) <;> (try rw [wg1]) <;> (try rw [wg2]) <;> (try rw [wg3]) <;> (try rw [wg4]) <;> (try rw [wg5]) <;> (try rw [wg6]) <;> (try rw [wg7]) <;> (try rw [wg8]) <;> (try rw [wg9]) <;> (try rw [wg10]) <;> (try rw [wg11]) <;> omega), TE111.1.1, TE111.1.2.1, ⟨by first | (rw [show m94.1 66 ((26 : Nat) : Int) = μ.1 66 ((26 : Nat) : Int) from z99.2.1 26 rfl]; exact hp3.1) | (exact (by (try rw [wg107]) <;> (try rw [w100]) <;> (try rw [wg108]) <;> (try rw [wg109]) <;> (try rw [wg110]) <;> (try rw [w101]) <;> (try rw [w102]) <;> (try rw [w103]) <;> (try rw [w104]) <;> (try rw [w105]) <;> (try rw [w106]) <;> (try rw [wg1]) <;> (try rw [wg2]) <;> (try rw [wg3]) <;> (try rw [wg4]) <;> (try rw [wg5]) <;> (try rw [wg6]) <;> (try rw [wg7]) <;> (try rw [wg8]) <;> (try rw [wg9]) <;> (try rw [wg10]) <;> (try rw [wg11]) <;> omega)), fun h => by rw [show m94.1 76 = μ.1 76 from z99.1 76 (by decide) rfl, show m94.1 77 = μ.1 77 from z99.1 77 (by decide) rfl, show m94.1 66 ((24 : Nat) : Int) = μ.1 66 ((24 : Nat) : Int) from z99.2.1 24 rfl]; exact hp3.2.1 _ h (by omega), hp3.2.2⟩, (fun v a b => by rw [show m94.1 77 = μ.1 77 from z99.1 77 (by decide) rfl, show m94.1 66 ((24 : Nat) : Int) = μ.1 66 ((24 : Nat) : Int) from z99.2.1 24 rfl]; exact hp4 v a b), (by (try rw [w102]); (try rw [w101]); exact ⟨zTE_pre TE111 w102 w101 wg7 wg6 hp5.1, by omega, by omega⟩), (fun _ => ⟨Int.le_refl _, Int.le_refl _⟩), ?_⟩
          intro x115 m116 qm116 kx115 lx115 p117 p118 p119 p120 p121 p122 p123
          have z124 := zfx_t z99 qm116 rfl rfl
          have w125 : m116.1 66 ((30 : Nat) : Int) = g2 := (qm116.2.1 30 rfl).trans w100
          have w126 : m116.1 66 ((71 : Nat) : Int) = x32 := (qm116.2.1 71 rfl).trans w103
          have w127 : m116.1 66 ((72 : Nat) : Int) = g9 := (qm116.2.1 72 rfl).trans w104
          have w128 : m116.1 66 ((70 : Nat) : Int) = g28 := (qm116.2.1 70 rfl).trans w105
          have w129 : m116.1 66 ((26 : Nat) : Int) = g11 := (qm116.2.1 26 rfl).trans w106
          obtain ⟨g130, wg130⟩ : ∃ z : Int, m116.1 66 ((31 : Nat) : Int) = z := ⟨_, rfl⟩
          obtain ⟨g131, wg131⟩ : ∃ z : Int, m116.1 66 ((33 : Nat) : Int) = z := ⟨_, rfl⟩
          obtain ⟨g132, wg132⟩ : ∃ z : Int, m116.1 66 ((34 : Nat) : Int) = z := ⟨_, rfl⟩
          obtain ⟨g133, wg133⟩ : ∃ z : Int, m116.1 66 ((32 : Nat) : Int) = z := ⟨_, rfl⟩
          obtain ⟨g134, wg134⟩ : ∃ z : Int, m116.1 66 ((38 : Nat) : Int) = z := ⟨_, rfl⟩
          obtain ⟨g135, wg135⟩ : ∃ z : Int, m116.1 66 ((8 : Nat) : Int) = z := ⟨_, rfl⟩
          try rw [wg130] at p117
          try rw [w125] at p117
          try rw [wg131] at p117
          try rw [wg132] at p117
          try rw [wg133] at p117
          try rw [wg134] at p117
          try rw [wg135] at p117
          try rw [w126] at p117
          try rw [w127] at p117
          try rw [w128] at p117
          try rw [w129] at p117
          try rw [wg107] at p117
          try rw [w100] at p117
          try rw [wg108] at p117
          try rw [wg109] at p117
          try rw [wg110] at p117
          try rw [w101] at p117
          try rw [w102] at p117
          try rw [w103] at p117
          try rw [w104] at p117
          try rw [w105] at p117
          try rw [w106] at p117
          try rw [wg1] at p117
          try rw [wg2] at p117
          try rw [wg3] at p117
          try rw [wg4] at p117
          try rw [wg5] at p117
          try rw [wg6] at p117
          try rw [wg7] at p117
          try rw [wg8] at p117
          try rw [wg9] at p117
          try rw [wg10] at p117
          try rw [wg11] at p117
          try rw [wg130] at p118
          try rw [w125] at p118
          try rw [wg131] at p118
          try rw [wg132] at p118
          try rw [wg133] at p118
          try rw [wg134] at p118
          try rw [wg135] at p118
          try rw [w126] at p118
          try rw [w127] at p118
          try rw [w128] at p118
          try rw [w129] at p118
          try rw [wg107] at p118
          try rw [w100] at p118
          try rw [wg108] at p118
          try rw [wg109] at p118
          try rw [wg110] at p118
          try rw [w101] at p118
          try rw [w102] at p118
          try rw [w103] at p118
          try rw [w104] at p118
          try rw [w105] at p118
          try rw [w106] at p118
          try rw [wg1] at p118
          try rw [wg2] at p118
          try rw [wg3] at p118
          try rw [wg4] at p118
          try rw [wg5] at p118
          try rw [wg6] at p118
          try rw [wg7] at p118
          try rw [wg8] at p118
          try rw [wg9] at p118
          try rw [wg10] at p118
          try rw [wg11] at p118
          try rw [wg130] at p119
          try rw [w125] at p119
          try rw [wg131] at p119
          try rw [wg132] at p119
          try rw [wg133] at p119
          try rw [wg134] at p119
          try rw [wg135] at p119
          try rw [w126] at p119
          try rw [w127] at p119
          try rw [w128] at p119
          try rw [w129] at p119
          try rw [wg107] at p119
          try rw [w100] at p119
          try rw [wg108] at p119
          try rw [wg109] at p119
          try rw [wg110] at p119
          try rw [w101] at p119
          try rw [w102] at p119
          try rw [w103] at p119
          try rw [w104] at p119
          try rw [w105] at p119
          try rw [w106] at p119
          try rw [wg1] at p119
          try rw [wg2] at p119
          try rw [wg3] at p119
          try rw [wg4] at p119
          try rw [wg5] at p119
          try rw [wg6] at p119
          try rw [wg7] at p119
          try rw [wg8] at p119
          try rw [wg9] at p119
          try rw [wg10] at p119
          try rw [wg11] at p119
          try rw [wg130] at p120
          try rw [w125] at p120
          try rw [wg131] at p120
          try rw [wg132] at p120
          try rw [wg133] at p120
          try rw [wg134] at p120
          try rw [wg135] at p120
          try rw [w126] at p120
          try rw [w127] at p120
          try rw [w128] at p120
          try rw [w129] at p120
          try rw [wg107] at p120
          try rw [w100] at p120
          try rw [wg108] at p120
          try rw [wg109] at p120
          try rw [wg110] at p120
          try rw [w101] at p120
          try rw [w102] at p120
          try rw [w103] at p120
          try rw [w104] at p120
          try rw [w105] at p120
          try rw [w106] at p120
          try rw [wg1] at p120
          try rw [wg2] at p120
          try rw [wg3] at p120
          try rw [wg4] at p120
          try rw [wg5] at p120
          try rw [wg6] at p120
          try rw [wg7] at p120
          try rw [wg8] at p120
          try rw [wg9] at p120
          try rw [wg10] at p120
          try rw [wg11] at p120
          try rw [wg130] at p121
          try rw [w125] at p121
          try rw [wg131] at p121
          try rw [wg132] at p121
          try rw [wg133] at p121
          try rw [wg134] at p121
          try rw [wg135] at p121
          try rw [w126] at p121
          try rw [w127] at p121
          try rw [w128] at p121
          try rw [w129] at p121
          try rw [wg107] at p121
          try rw [w100] at p121
          try rw [wg108] at p121
          try rw [wg109] at p121
          try rw [wg110] at p121
          try rw [w101] at p121
          try rw [w102] at p121
          try rw [w103] at p121
          try rw [w104] at p121
          try rw [w105] at p121
          try rw [w106] at p121
          try rw [wg1] at p121
          try rw [wg2] at p121
          try rw [wg3] at p121
          try rw [wg4] at p121
          try rw [wg5] at p121
          try rw [wg6] at p121
          try rw [wg7] at p121
          try rw [wg8] at p121
          try rw [wg9] at p121
          try rw [wg10] at p121
          try rw [wg11] at p121
          try rw [wg130] at p122
          try rw [w125] at p122
          try rw [wg131] at p122
          try rw [wg132] at p122
          try rw [wg133] at p122
          try rw [wg134] at p122
          try rw [wg135] at p122
          try rw [w126] at p122
          try rw [w127] at p122
          try rw [w128] at p122
          try rw [w129] at p122
          try rw [wg107] at p122
          try rw [w100] at p122
          try rw [wg108] at p122
          try rw [wg109] at p122
          try rw [wg110] at p122
          try rw [w101] at p122
          try rw [w102] at p122
          try rw [w103] at p122
          try rw [w104] at p122
          try rw [w105] at p122
          try rw [w106] at p122
          try rw [wg1] at p122
          try rw [wg2] at p122
          try rw [wg3] at p122
          try rw [wg4] at p122
          try rw [wg5] at p122
          try rw [wg6] at p122
          try rw [wg7] at p122
          try rw [wg8] at p122
          try rw [wg9] at p122
          try rw [wg10] at p122
          try rw [wg11] at p122
          try rw [wg130] at p123
          try rw [w125] at p123
          try rw [wg131] at p123
          try rw [wg132] at p123
          try rw [wg133] at p123
          try rw [wg134] at p123
          try rw [wg135] at p123
          try rw [w126] at p123
          try rw [w127] at p123
          try rw [w128] at p123
          try rw [w129] at p123
          try rw [wg107] at p123
          try rw [w100] at p123
          try rw [wg108] at p123
          try rw [wg109] at p123
          try rw [wg110] at p123
          try rw [w101] at p123
          try rw [w102] at p123
          try rw [w103] at p123
          try rw [w104] at p123
          try rw [w105] at p123
          try rw [w106] at p123
          try rw [wg1] at p123
          try rw [wg2] at p123
          try rw [wg3] at p123
          try rw [wg4] at p123
          try rw [wg5] at p123
          try rw [wg6] at p123
          try rw [wg7] at p123
          try rw [wg8] at p123
          try rw [wg9] at p123
          try rw [wg10] at p123
          try rw [wg11] at p123
          clear wg107 w100 wg108 wg109 wg110 w101 w102 w103 w104 w105 w106
          have TE136 := zTE_t TE111 p119
          have Y137 : 0 ≤ x115 → zTy m116 x115 := fun h => by have h1 : lo ≤ x115 ∧ x115 < zTop m116 ∧ m116.1 67 x115 ≤ 1 := (by rcases p122 with c | c; omega; exact ⟨c.1, c.2.1, c.2.2.1⟩); exact ⟨⟨h, h1.2.1⟩, by omega⟩
          have Y138 : 0 ≤ x32 → zTy m116 x32 := fun h => zTy_old (Y112 h) p119.1.2.2.1 p119.1.2.2.2.1
          clear p119 p121 p122
          refine And.intro ⟨by omega, by omega⟩ ?_
          intro m139 em139
          have z140 := zfx_f z124 em139 rfl
          have w141 : m139.1 66 ((31 : Nat) : Int) = g130 := by rw [em139]; exact (zu_nk (by decide)).trans wg130
          have w142 : m139.1 66 ((30 : Nat) : Int) = g2 := by rw [em139]; exact (zu_nk (by decide)).trans w125
          have w143 : m139.1 66 ((33 : Nat) : Int) = g131 := by rw [em139]; exact (zu_nk (by decide)).trans wg131
          have w144 : m139.1 66 ((34 : Nat) : Int) = g132 := by rw [em139]; exact (zu_nk (by decide)).trans wg132
          have w145 : m139.1 66 ((32 : Nat) : Int) = g133 := by rw [em139]; exact (zu_nk (by decide)).trans wg133
          have w146 : m139.1 66 ((38 : Nat) : Int) = g134 := by rw [em139]; exact (zu_nk (by decide)).trans wg134
          have w147 : m139.1 66 ((8 : Nat) : Int) = g135 := by rw [em139]; exact (zu_nk (by decide)).trans wg135
          have w148 : m139.1 66 ((71 : Nat) : Int) = x32 := by rw [em139]; exact (zu_nk (by decide)).trans w126
          have w149 : m139.1 66 ((72 : Nat) : Int) = x115 := by rw [em139]; exact zu_at
          have w150 : m139.1 66 ((70 : Nat) : Int) = g28 := by rw [em139]; exact (zu_nk (by decide)).trans w128
          have w151 : m139.1 66 ((26 : Nat) : Int) = g11 := by rw [em139]; exact (zu_nk (by decide)).trans w129
          clear wg130 w125 wg131 wg132 wg133 wg134 wg135 w126 w127 w128 w129
          have TE152 := zTE_fr (m' := m139) TE136 (fun j a b => by rw [em139, zu_ne (by omega)]) (by rw [em139]; exact zu_nk (by decide)) (by rw [em139]; exact zu_nk (by decide))
          have Y153 : 0 ≤ x32 → zTy m139 x32 := fun h => zTy_same (Y138 h) (by rw [em139, zu_ne (by decide)]) (by rw [em139]; exact zu_nk (by decide))
          have Y154 : 0 ≤ x115 → zTy m139 x115 := fun h => zTy_same (Y137 h) (by rw [em139, zu_ne (by decide)]) (by rw [em139]; exact zu_nk (by decide))
          intro x155 hx155 kx155 lx155
          rw [w149] at hx155
          refine And.intro ⟨by omega, by omega⟩ (And.intro (fun c156 => ?_) (fun c156 => ?_))
          · exact And.intro (zrtb (by omega)) (And.intro ⟨by omega, by omega⟩ (hQ _ _ z140 (by omega) (by omega) (by (try rw [w141]) <;> (try rw [w142]) <;> (try rw [w143]) <;> (try rw [w144]) <;> (try rw [w145]) <;> (try rw [w146]) <;> (try rw [w147]) <;> (try rw [w148]) <;> (try rw [w149]) <;> (try rw [w150]) <;> (try rw [w151]) <;> (try rw [wg1]) <;> (try rw [wg2]) <;> (try rw [wg3]) <;> (try rw [wg4]) <;> (try rw [wg5]) <;> (try rw [wg6]) <;> (try rw [wg7]) <;> (try rw [wg8]) <;> (try rw [wg9]) <;> (try rw [wg10]) <;> (try rw [wg11]) <;> omega) TE152 (by (try rw [w141]) <;> (try rw [w142]) <;> (try rw [w143]) <;> (try rw [w144]) <;> (try rw [w145]) <;> (try rw [w146]) <;> (try rw [w147]) <;> (try rw [w148]) <;> (try rw [w149]) <;> (try rw [w150]) <;> (try rw [w151]) <;> (try rw [wg1]) <;> (try rw [wg2]) <;> (try rw [wg3]) <;> (try rw [wg4]) <;> (try rw [wg5]) <;> (try rw [wg6]) <;> (try rw [wg7]) <;> (try rw [wg8]) <;> (try rw [wg9]) <;> (try rw [wg10]) <;> (try rw [wg11]) <;> omega) (fun h => by omega)))
          · exact And.intro (zrtb (by omega)) (And.intro ⟨by omega, by omega⟩ (hQ _ _ z140 (by omega) (by omega) (by (try rw [w141]) <;> (try rw [w142]) <;> (try rw [w143]) <;> (try rw [w144]) <;> (try rw [w145]) <;> (try rw [w146]) <;> (try rw [w147]) <;> (try rw [w148]) <;> (try rw [w149]) <;> (try rw [w150]) <;> (try rw [w151]) <;> (try rw [wg1]) <;> (try rw [wg2]) <;> (try rw [wg3]) <;> (try rw [wg4]) <;> (try rw [wg5]) <;> (try rw [wg6]) <;> (try rw [wg7]) <;> (try rw [wg8]) <;> (try rw [wg9]) <;> (try rw [wg10]) <;> (try rw [wg11]) <;> omega) TE152 (by (try rw [w141]) <;> (try rw [w142]) <;> (try rw [w143]) <;> (try rw [w144]) <;> (try rw [w145]) <;> (try rw [w146]) <;> (try rw [w147]) <;> (try rw [w148]) <;> (try rw [w149]) <;> (try rw [w150]) <;> (try rw [w151]) <;> (try rw [wg1]) <;> (try rw [wg2]) <;> (try rw [wg3]) <;> (try rw [wg4]) <;> (try rw [wg5]) <;> (try rw [wg6]) <;> (try rw [wg7]) <;> (try rw [wg8]) <;> (try rw [wg9]) <;> (try rw [wg10]) <;> (try rw [wg11]) <;> omega) (fun h => by rw [w148, w149]; exact ⟨Y153 (by omega), Y154 (by omega)⟩)))
        · exact And.intro (zrtb (by omega)) (And.intro ⟨by omega, by omega⟩ (hQ _ _ z99 (by omega) (by omega) (by (try rw [wg107]) <;> (try rw [w100]) <;> (try rw [wg108]) <;> (try rw [wg109]) <;> (try rw [wg110]) <;> (try rw [w101]) <;> (try rw [w102]) <;> (try rw [w103]) <;> (try rw [w104]) <;> (try rw [w105]) <;> (try rw [w106]) <;> (try rw [wg1]) <;> (try rw [wg2]) <;> (try rw [wg3]) <;> (try rw [wg4]) <;> (try rw [wg5]) <;> (try rw [wg6]) <;> (try rw [wg7]) <;> (try rw [wg8]) <;> (try rw [wg9]) <;> (try rw [wg10]) <;> (try rw [wg11]) <;> omega) TE111 (by (try rw [wg107]) <;> (try rw [w100]) <;> (try rw [wg108]) <;> (try rw [wg109]) <;> (try rw [wg110]) <;> (try rw [w101]) <;> (try rw [w102]) <;> (try rw [w103]) <;> (try rw [w104]) <;> (try rw [w105]) <;> (try rw [w106]) <;> (try rw [wg1]) <;> (try rw [wg2]) <;> (try rw [wg3]) <;> (try rw [wg4]) <;> (try rw [wg5]) <;> (try rw [wg6]) <;> (try rw [wg7]) <;> (try rw [wg8]) <;> (try rw [wg9]) <;> (try rw [wg10]) <;> (try rw [wg11]) <;> omega) (fun h => by omega)))
  · exact And.intro (zrtb (by omega)) (And.intro ⟨by omega, by omega⟩ (hQ _ _ z17 (by omega) (by omega) (by (try rw [wg24]) <;> (try rw [w18]) <;> (try rw [wg25]) <;> (try rw [wg26]) <;> (try rw [wg27]) <;> (try rw [w19]) <;> (try rw [w20]) <;> (try rw [w21]) <;> (try rw [w22]) <;> (try rw [wg28]) <;> (try rw [w23]) <;> (try rw [wg1]) <;> (try rw [wg2]) <;> (try rw [wg3]) <;> (try rw [wg4]) <;> (try rw [wg5]) <;> (try rw [wg6]) <;> (try rw [wg7]) <;> (try rw [wg8]) <;> (try rw [wg9]) <;> (try rw [wg10]) <;> (try rw [wg11]) <;> omega) TE29 (by (try rw [wg24]) <;> (try rw [w18]) <;> (try rw [wg25]) <;> (try rw [wg26]) <;> (try rw [wg27]) <;> (try rw [w19]) <;> (try rw [w20]) <;> (try rw [w21]) <;> (try rw [w22]) <;> (try rw [wg28]) <;> (try rw [w23]) <;> (try rw [wg1]) <;> (try rw [wg2]) <;> (try rw [wg3]) <;> (try rw [wg4]) <;> (try rw [wg5]) <;> (try rw [wg6]) <;> (try rw [wg7]) <;> (try rw [wg8]) <;> (try rw [wg9]) <;> (try rw [wg10]) <;> (try rw [wg11]) <;> omega) (fun h => by omega)))
