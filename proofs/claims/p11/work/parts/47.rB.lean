/-! ### a type is opened -/
def zk_X9_openType : zC := fun As μ Q => ∃ (a1 : Int) (a2 : Int) (a3 : Int) (a4 : Int), As = [.inr (.inr (66, 66)), .inl a1, .inl a2, .inl a3, .inl a4] ∧ ((-1) ≤ a1 ∧ a1 ≤ 20) ∧ (0 ≤ a2 ∧ a2 ≤ 4) ∧ (0 ≤ a3 ∧ a3 ≤ 8) ∧ (0 ≤ a4 ∧ a4 ≤ 1) ∧ (0 ≤ μ.1 66 ((33 : Nat) : Int) ∧ 0 ≤ μ.1 66 ((34 : Nat) : Int) ∧ μ.1 66 ((33 : Nat) : Int) + μ.1 66 ((34 : Nat) : Int) ≤ μ.1 66 ((31 : Nat) : Int) ∧ μ.1 66 ((31 : Nat) : Int) ≤ μ.1 66 ((30 : Nat) : Int) ∧ μ.1 66 ((30 : Nat) : Int) ≤ 800) ∧ (∀ (v : Int) (μ' : zM), zfx [100, 101, 102] [31, 32, 33, 34, 35, 36, 38] μ μ' → 0 ≤ v → v ≤ 1 → (0 ≤ μ'.1 66 ((33 : Nat) : Int) ∧ 0 ≤ μ'.1 66 ((34 : Nat) : Int) ∧ μ'.1 66 ((33 : Nat) : Int) + μ'.1 66 ((34 : Nat) : Int) ≤ μ'.1 66 ((31 : Nat) : Int) ∧ μ'.1 66 ((31 : Nat) : Int) ≤ μ'.1 66 ((30 : Nat) : Int) ∧ μ'.1 66 ((30 : Nat) : Int) ≤ 800) → (μ'.1 66 ((30 : Nat) : Int) = μ.1 66 ((30 : Nat) : Int)) → ((v = 0 ∧ μ'.1 66 ((38 : Nat) : Int) = μ.1 66 ((38 : Nat) : Int)) ∨ (v = 1 ∧ μ'.1 66 ((38 : Nat) : Int) = μ.1 66 ((38 : Nat) : Int) + 1 ∧ μ.1 66 ((38 : Nat) : Int) ≤ 299 ∧ a3 ≤ 7 ∧ μ.1 66 ((32 : Nat) : Int) = 257 ∧ (μ'.1 66 ((32 : Nat) : Int) = 256 ∨ μ.1 66 ((31 : Nat) : Int) < μ'.1 66 ((31 : Nat) : Int)) ∧ μ.1 66 ((31 : Nat) : Int) ≤ μ'.1 66 ((31 : Nat) : Int))) → (v = 1 → μ'.1 102 a3 = 0 ∧ ((μ'.1 100 a3 = 1 ∧ 0 ≤ μ'.1 101 a3 ∧ μ'.1 101 a3 ≤ 79) ∨ (μ'.1 100 a3 = 0 ∧ 0 ≤ μ'.1 101 a3 ∧ μ'.1 101 a3 ≤ 20))) → (∀ q : Int, q ≠ a3 → μ'.1 100 q = μ.1 100 q ∧ μ'.1 101 q = μ.1 101 q ∧ μ'.1 102 q = μ.1 102 q) → (v = 1 → (μ'.1 100 a3 = 1 → 0 ≤ a1 ∧ μ.1 76 (μ.1 66 ((24 : Nat) : Int) + a1) ≤ μ'.1 101 a3 ∧ μ'.1 101 a3 < μ.1 76 (μ.1 66 ((24 : Nat) : Int) + a1) + μ.1 77 (μ.1 66 ((24 : Nat) : Int) + a1)) ∧ (μ'.1 100 a3 = 0 → μ'.1 101 a3 < μ.1 66 ((26 : Nat) : Int))) → (v = 1 → a3 = 0 → (a2 ≤ 1 → μ'.1 100 a3 = 0) ∧ (a2 = 1 → μ'.1 101 a3 ≠ a1) ∧ a4 = 0) → Q (some (.inl v)) μ')
set_option maxHeartbeats 2000000 in
theorem zm_X9_openType {g : zΓ} (hg : zg g) (d : Nat) (hd : 4 ≤ d) : zOk g d 139 zk_X9_openType := by
  obtain ⟨d, rfl⟩ : ∃ d', d = d' + 1 := ⟨d - 1, by omega⟩
  refine zOk_straight hg (show mt_tab[139]? = some mt_X9_openType from rfl) [] 102 rfl fun As μ Q hC => ?_
  obtain ⟨a1, a2, a3, a4, rfl, ha1, ha2, ha3, ha4, hp0, hQ⟩ := hC
  obtain ⟨g1, wg1⟩ : ∃ z : Int, μ.1 66 ((31 : Nat) : Int) = z := ⟨_, rfl⟩
  obtain ⟨g2, wg2⟩ : ∃ z : Int, μ.1 66 ((30 : Nat) : Int) = z := ⟨_, rfl⟩
  obtain ⟨g3, wg3⟩ : ∃ z : Int, μ.1 66 ((33 : Nat) : Int) = z := ⟨_, rfl⟩
  obtain ⟨g4, wg4⟩ : ∃ z : Int, μ.1 66 ((34 : Nat) : Int) = z := ⟨_, rfl⟩
  obtain ⟨g5, wg5⟩ : ∃ z : Int, μ.1 66 ((32 : Nat) : Int) = z := ⟨_, rfl⟩
  obtain ⟨g6, wg6⟩ : ∃ z : Int, μ.1 66 ((38 : Nat) : Int) = z := ⟨_, rfl⟩
  try rw [wg1] at hp0
  try rw [wg2] at hp0
  try rw [wg3] at hp0
  try rw [wg4] at hp0
  try rw [wg5] at hp0
  try rw [wg6] at hp0
  refine ⟨rfl, ?_⟩
  have z0 : zfx [100, 101, 102] [31, 32, 33, 34, 35, 36, 38] μ μ := zfx_x μ
  intro x7 hx7 kx7 lx7
  rw [wg5] at hx7
  refine And.intro ⟨⟨by omega, by omega⟩, ⟨by omega, by omega⟩⟩ (And.intro (fun c8 => ?_) (fun c8 => ?_))
  · refine ⟨zk_X9_name, zm_X9_name hg d (by omega), rfl, (by (try rw [wg1]) <;> (try rw [wg2]) <;> (try rw [wg3]) <;> (try rw [wg4]) <;> (try rw [wg5]) <;> (try rw [wg6]) <;> omega), ?_⟩
    intro j9
    refine ⟨zk_X9_findParam, zm_X9_findParam hg d (by omega), _, _, rfl, ⟨by omega, by omega⟩, ?_⟩
    intro x10 kx10 lx10 p11
    try rw [wg1] at p11
    try rw [wg2] at p11
    try rw [wg3] at p11
    try rw [wg4] at p11
    try rw [wg5] at p11
    try rw [wg6] at p11
    try rw [wg1] at p11
    try rw [wg2] at p11
    try rw [wg3] at p11
    try rw [wg4] at p11
    try rw [wg5] at p11
    try rw [wg6] at p11
    refine And.intro ⟨by omega, by omega⟩ (And.intro (fun c12 => ?_) (fun c12 => ?_))
    · refine And.intro ⟨by omega, by omega⟩ (And.intro (fun c13 => ?_) (fun c13 => ?_))
      · intro x14 hx14 kx14 lx14
        rw [wg6] at hx14
        refine And.intro ⟨⟨by omega, by omega⟩, ⟨by omega, by omega⟩⟩ (And.intro (fun c15 => ?_) (fun c15 => ?_))
        · refine ⟨zk_X9_fail, zm_X9_fail hg d (by omega), _, rfl, ⟨by omega, by omega⟩, ?_⟩
          intro x16 m17 qm17 kx16 lx16
          have z18 := zfx_t z0 qm17 rfl rfl
          have w19 : m17.1 66 ((31 : Nat) : Int) = g1 := (qm17.2.1 31 rfl).trans wg1
          have w20 : m17.1 66 ((30 : Nat) : Int) = g2 := (qm17.2.1 30 rfl).trans wg2
          have w21 : m17.1 66 ((33 : Nat) : Int) = g3 := (qm17.2.1 33 rfl).trans wg3
          have w22 : m17.1 66 ((34 : Nat) : Int) = g4 := (qm17.2.1 34 rfl).trans wg4
          have w23 : m17.1 66 ((32 : Nat) : Int) = g5 := (qm17.2.1 32 rfl).trans wg5
          have w24 : m17.1 66 ((38 : Nat) : Int) = g6 := (qm17.2.1 38 rfl).trans wg6
          exact And.intro (zrtb (by omega)) (And.intro ⟨by omega, by omega⟩ (hQ _ _ z18 (by omega) (by omega) (by (try rw [w19]) <;> (try rw [w20]) <;> (try rw [w21]) <;> (try rw [w22]) <;> (try rw [w23]) <;> (try rw [w24]) <;> (try rw [wg1]) <;> (try rw [wg2]) <;> (try rw [wg3]) <;> (try rw [wg4]) <;> (try rw [wg5]) <;> (try rw [wg6]) <;> omega) (by (try rw [w19]) <;> (try rw [w20]) <;> (try rw [w21]) <;> (try rw [w22]) <;> (try rw [w23]) <;> (try rw [w24]) <;> (try rw [wg1]) <;> (try rw [wg2]) <;> (try rw [wg3]) <;> (try rw [wg4]) <;> (try rw [wg5]) <;> (try rw [wg6]) <;> omega) (by (try rw [w19]) <;> (try rw [w20]) <;> (try rw [w21]) <;> (try rw [w22]) <;> (try rw [w23]) <;> (try rw [w24]) <;> (try rw [wg1]) <;> (try rw [wg2]) <;> (try rw [wg3]) <;> (try rw [wg4]) <;> (try rw [wg5]) <;> (try rw [wg6]) <;> omega) (fun h => by omega) (fun q _ => ⟨by rw [qm17.1 100 (by decide) rfl], by rw [qm17.1 101 (by decide) rfl], by rw [qm17.1 102 (by decide) rfl]⟩) (fun h => by omega) (fun h _ => by omega)))
        · refine And.intro ⟨⟨by omega, by omega⟩, ⟨by omega, by omega⟩⟩ (And.intro (fun c25 => ?_) (fun c25 => ?_))
          · refine ⟨zk_X9_fail, zm_X9_fail hg d (by omega), _, rfl, ⟨by omega, by omega⟩, ?_⟩
            intro x26 m27 qm27 kx26 lx26
            have z28 := zfx_t z0 qm27 rfl rfl
            have w29 : m27.1 66 ((31 : Nat) : Int) = g1 := (qm27.2.1 31 rfl).trans wg1
            have w30 : m27.1 66 ((30 : Nat) : Int) = g2 := (qm27.2.1 30 rfl).trans wg2
            have w31 : m27.1 66 ((33 : Nat) : Int) = g3 := (qm27.2.1 33 rfl).trans wg3
            have w32 : m27.1 66 ((34 : Nat) : Int) = g4 := (qm27.2.1 34 rfl).trans wg4
            have w33 : m27.1 66 ((32 : Nat) : Int) = g5 := (qm27.2.1 32 rfl).trans wg5
            have w34 : m27.1 66 ((38 : Nat) : Int) = g6 := (qm27.2.1 38 rfl).trans wg6
            exact And.intro (zrtb (by omega)) (And.intro ⟨by omega, by omega⟩ (hQ _ _ z28 (by omega) (by omega) (by (try rw [w29]) <;> (try rw [w30]) <;> (try rw [w31]) <;> (try rw [w32]) <;> (try rw [w33]) <;> (try rw [w34]) <;> (try rw [wg1]) <;> (try rw [wg2]) <;> (try rw [wg3]) <;> (try rw [wg4]) <;> (try rw [wg5]) <;> (try rw [wg6]) <;> omega) (by (try rw [w29]) <;> (try rw [w30]) <;> (try rw [w31]) <;> (try rw [w32]) <;> (try rw [w33]) <;> (try rw [w34]) <;> (try rw [wg1]) <;> (try rw [wg2]) <;> (try rw [wg3]) <;> (try rw [wg4]) <;> (try rw [wg5]) <;> (try rw [wg6]) <;> omega) (by (try rw [w29]) <;> (try rw [w30]) <;> (try rw [w31]) <;> (try rw [w32]) <;> (try rw [w33]) <;> (try rw [w34]) <;> (try rw [wg1]) <;> (try rw [wg2]) <;> (try rw [wg3]) <;> (try rw [wg4]) <;> (try rw [wg5]) <;> (try rw [wg6]) <;> omega) (fun h => by omega) (fun q _ => ⟨by rw [qm27.1 100 (by decide) rfl], by rw [qm27.1 101 (by decide) rfl], by rw [qm27.1 102 (by decide) rfl]⟩) (fun h => by omega) (fun h _ => by omega)))
          · refine And.intro ⟨by omega, by omega⟩ (And.intro (fun c35 => ?_) (fun c35 => ?_))
            · refine And.intro ⟨by omega, by omega⟩ (And.intro (fun c36 => ?_) (fun c36 => ?_))
              · intro x37 hx37 kx37 lx37
                rw [wg6] at hx37
                refine And.intro ⟨by omega, by omega⟩ ?_
                intro m38 em38
                have z39 := zfx_f z0 em38 rfl
                have w40 : m38.1 66 ((31 : Nat) : Int) = g1 := by rw [em38]; exact (zu_nk (by decide)).trans wg1
                have w41 : m38.1 66 ((30 : Nat) : Int) = g2 := by rw [em38]; exact (zu_nk (by decide)).trans wg2
                have w42 : m38.1 66 ((33 : Nat) : Int) = g3 := by rw [em38]; exact (zu_nk (by decide)).trans wg3
                have w43 : m38.1 66 ((34 : Nat) : Int) = g4 := by rw [em38]; exact (zu_nk (by decide)).trans wg4
                have w44 : m38.1 66 ((32 : Nat) : Int) = g5 := by rw [em38]; exact (zu_nk (by decide)).trans wg5
                have w45 : m38.1 66 ((38 : Nat) : Int) = (x37 + 1) := by rw [em38]; exact zu_at
                refine And.intro ⟨by omega, by omega⟩ (And.intro (fun c46 => ?_) (fun c46 => ?_))
                · exfalso; omega
                · refine And.intro ⟨by omega, by omega⟩ (And.intro ⟨by omega, by omega⟩ ?_)
                  intro m47 em47
                  have z48 := zfx_r z39 em47 rfl (by decide)
                  have w49 : m47.1 66 ((31 : Nat) : Int) = g1 := by rw [em47]; exact (congrFun (zu_ne (by decide)) _).trans w40
                  have w50 : m47.1 66 ((30 : Nat) : Int) = g2 := by rw [em47]; exact (congrFun (zu_ne (by decide)) _).trans w41
                  have w51 : m47.1 66 ((33 : Nat) : Int) = g3 := by rw [em47]; exact (congrFun (zu_ne (by decide)) _).trans w42
                  have w52 : m47.1 66 ((34 : Nat) : Int) = g4 := by rw [em47]; exact (congrFun (zu_ne (by decide)) _).trans w43
                  have w53 : m47.1 66 ((32 : Nat) : Int) = g5 := by rw [em47]; exact (congrFun (zu_ne (by decide)) _).trans w44
                  have w54 : m47.1 66 ((38 : Nat) : Int) = (x37 + 1) := by rw [em47]; exact (congrFun (zu_ne (by decide)) _).trans w45
                  clear w40 w41 w42 w43 w44 w45
                  refine And.intro ⟨by omega, by omega⟩ (And.intro (fun c55 => ?_) (fun c55 => ?_))
                  · exfalso; omega
                  · refine And.intro ⟨by omega, by omega⟩ (And.intro ⟨by omega, by omega⟩ ?_)
                    intro m56 em56
                    have z57 := zfx_r z48 em56 rfl (by decide)
                    have w58 : m56.1 66 ((31 : Nat) : Int) = g1 := by rw [em56]; exact (congrFun (zu_ne (by decide)) _).trans w49
                    have w59 : m56.1 66 ((30 : Nat) : Int) = g2 := by rw [em56]; exact (congrFun (zu_ne (by decide)) _).trans w50
                    have w60 : m56.1 66 ((33 : Nat) : Int) = g3 := by rw [em56]; exact (congrFun (zu_ne (by decide)) _).trans w51
                    have w61 : m56.1 66 ((34 : Nat) : Int) = g4 := by rw [em56]; exact (congrFun (zu_ne (by decide)) _).trans w52
                    have w62 : m56.1 66 ((32 : Nat) : Int) = g5 := by rw [em56]; exact (congrFun (zu_ne (by decide)) _).trans w53
                    have w63 : m56.1 66 ((38 : Nat) : Int) = (x37 + 1) := by rw [em56]; exact (congrFun (zu_ne (by decide)) _).trans w54
                    clear w49 w50 w51 w52 w53 w54
                    refine And.intro ⟨by omega, by omega⟩ (And.intro ⟨by omega, by omega⟩ ?_)
                    intro m64 em64
                    have z65 := zfx_r z57 em64 rfl (by decide)
                    have w66 : m64.1 66 ((31 : Nat) : Int) = g1 := by rw [em64]; exact (congrFun (zu_ne (by decide)) _).trans w58
                    have w67 : m64.1 66 ((30 : Nat) : Int) = g2 := by rw [em64]; exact (congrFun (zu_ne (by decide)) _).trans w59
                    have w68 : m64.1 66 ((33 : Nat) : Int) = g3 := by rw [em64]; exact (congrFun (zu_ne (by decide)) _).trans w60
                    have w69 : m64.1 66 ((34 : Nat) : Int) = g4 := by rw [em64]; exact (congrFun (zu_ne (by decide)) _).trans w61
                    have w70 : m64.1 66 ((32 : Nat) : Int) = g5 := by rw [em64]; exact (congrFun (zu_ne (by decide)) _).trans w62
                    have w71 : m64.1 66 ((38 : Nat) : Int) = (x37 + 1) := by rw [em64]; exact (congrFun (zu_ne (by decide)) _).trans w63
                    clear w58 w59 w60 w61 w62 w63
                    refine ⟨zk_X9_pass, zm_X9_pass hg d (by omega), rfl, (by (try rw [w66]) <;> (try rw [w67]) <;> (try rw [w68]) <;> (try rw [w69]) <;> (try rw [w70]) <;> (try rw [w71]) <;> (try rw [wg1]) <;> (try rw [wg2]) <;> (try rw [wg3]) <;> (try rw [wg4]) <;> (try rw [wg5]) <;> (try rw [wg6]) <;> omega), ?_⟩
                    intro m72 qm72 p73 p74 p75 p76
                    have z77 := zfx_t z65 qm72 rfl rfl
                    have w78 : m72.1 66 ((30 : Nat) : Int) = g2 := (qm72.2.1 30 rfl).trans w67
                    have w79 : m72.1 66 ((38 : Nat) : Int) = (x37 + 1) := (qm72.2.1 38 rfl).trans w71
                    obtain ⟨g80, wg80⟩ : ∃ z : Int, m72.1 66 ((31 : Nat) : Int) = z := ⟨_, rfl⟩
                    obtain ⟨g81, wg81⟩ : ∃ z : Int, m72.1 66 ((33 : Nat) : Int) = z := ⟨_, rfl⟩
                    obtain ⟨g82, wg82⟩ : ∃ z : Int, m72.1 66 ((34 : Nat) : Int) = z := ⟨_, rfl⟩
                    obtain ⟨g83, wg83⟩ : ∃ z : Int, m72.1 66 ((32 : Nat) : Int) = z := ⟨_, rfl⟩
                    try rw [wg80] at p73
                    try rw [w78] at p73
                    try rw [wg81] at p73
                    try rw [wg82] at p73
                    try rw [wg83] at p73
                    try rw [w79] at p73
                    try rw [w66] at p73
                    try rw [w67] at p73
                    try rw [w68] at p73
                    try rw [w69] at p73
                    try rw [w70] at p73
                    try rw [w71] at p73
                    try rw [wg1] at p73
                    try rw [wg2] at p73
                    try rw [wg3] at p73
                    try rw [wg4] at p73
                    try rw [wg5] at p73
                    try rw [wg6] at p73
                    try rw [wg80] at p74
                    try rw [w78] at p74
                    try rw [wg81] at p74
                    try rw [wg82] at p74
                    try rw [wg83] at p74
                    try rw [w79] at p74
                    try rw [w66] at p74
                    try rw [w67] at p74
                    try rw [w68] at p74
                    try rw [w69] at p74
                    try rw [w70] at p74
                    try rw [w71] at p74
                    try rw [wg1] at p74
                    try rw [wg2] at p74
                    try rw [wg3] at p74
                    try rw [wg4] at p74
                    try rw [wg5] at p74
                    try rw [wg6] at p74
                    try rw [wg80] at p75
                    try rw [w78] at p75
                    try rw [wg81] at p75
                    try rw [wg82] at p75
                    try rw [wg83] at p75
                    try rw [w79] at p75
                    try rw [w66] at p75
                    try rw [w67] at p75
                    try rw [w68] at p75
                    try rw [w69] at p75
                    try rw [w70] at p75
                    try rw [w71] at p75
                    try rw [wg1] at p75
                    try rw [wg2] at p75
                    try rw [wg3] at p75
                    try rw [wg4] at p75
                    try rw [wg5] at p75
                    try rw [wg6] at p75
                    try rw [wg80] at p76
                    try rw [w78] at p76
                    try rw [wg81] at p76
                    try rw [wg82] at p76
                    try rw [wg83] at p76
                    try rw [w79] at p76
                    try rw [w66] at p76
                    try rw [w67] at p76
                    try rw [w68] at p76
                    try rw [w69] at p76
                    try rw [w70] at p76
                    try rw [w71] at p76
                    try rw [wg1] at p76
                    try rw [wg2] at p76
                    try rw [wg3] at p76
                    try rw [wg4] at p76
                    try rw [wg5] at p76
                    try rw [wg6] at p76
                    clear w66 w67 w68 w69 w70 w71
                    have R100 : ∀ q : Int, m72.1 100 q = if q = a3 then 1 else μ.1 100 q := fun q => by rw [qm72.1 100 (by decide) rfl, em64, zu_ne (by decide), em56, zu_ne (by decide), em47]; by_cases hq : q = a3 <;> first | (rw [if_pos hq, hq]; exact zu_at) | (rw [if_neg hq, zu_nk hq, em38, zu_ne (by decide)])
                    have R101 : ∀ q : Int, m72.1 101 q = if q = a3 then x10 else μ.1 101 q := fun q => by rw [qm72.1 101 (by decide) rfl, em64, zu_ne (by decide), em56]; by_cases hq : q = a3 <;> first | (rw [if_pos hq, hq]; exact zu_at) | (rw [if_neg hq, zu_nk hq, em47, zu_ne (by decide), em38, zu_ne (by decide)])
                    have R102 : ∀ q : Int, m72.1 102 q = if q = a3 then 0 else μ.1 102 q := fun q => by rw [qm72.1 102 (by decide) rfl, em64]; by_cases hq : q = a3 <;> first | (rw [if_pos hq, hq]; exact zu_at) | (rw [if_neg hq, zu_nk hq, em56, zu_ne (by decide), em47, zu_ne (by decide), em38, zu_ne (by decide)])
                    exact And.intro (zrtb (by omega)) (And.intro ⟨by omega, by omega⟩ (hQ _ _ z77 (by omega) (by omega) (by (try rw [wg80]) <;> (try rw [w78]) <;> (try rw [wg81]) <;> (try rw [wg82]) <;> (try rw [wg83]) <;> (try rw [w79]) <;> (try rw [wg1]) <;> (try rw [wg2]) <;> (try rw [wg3]) <;> (try rw [wg4]) <;> (try rw [wg5]) <;> (try rw [wg6]) <;> omega) (by (try rw [wg80]) <;> (try rw [w78]) <;> (try rw [wg81]) <;> (try rw [wg82]) <;> (try rw [wg83]) <;> (try rw [w79]) <;> (try rw [wg1]) <;> (try rw [wg2]) <;> (try rw [wg3]) <;> (try rw [wg4]) <;> (try rw [wg5]) <;> (try rw [wg6]) <;> omega) (by (try rw [wg80]) <;> (try rw [w78]) <;> (try rw [wg81]) <;> (try rw [wg82]) <;> (try rw [wg83]) <;> (try rw [w79]) <;> (try rw [wg1]) <;> (try rw [wg2]) <;> (try rw [wg3]) <;> (try rw [wg4]) <;> (try rw [wg5]) <;> (try rw [wg6]) <;> omega) (fun _ => by rw [R102, R100, R101, if_pos rfl, if_pos rfl, if_pos rfl]; omega) (fun q hq => ⟨by rw [R100, if_neg hq], by rw [R101, if_neg hq], by rw [R102, if_neg hq]⟩) (fun _ => by rw [R100, R101, if_pos rfl, if_pos rfl]; exact ⟨fun h => by omega, fun h => by exfalso; omega⟩) (fun _ _ => by rw [R100, R101, if_pos rfl, if_pos rfl]; exact ⟨fun h => by omega, fun h => by omega, by omega⟩)))
              · refine And.intro ⟨by omega, by omega⟩ (And.intro (fun c84 => ?_) (fun c84 => ?_))
                · refine And.intro ⟨⟨by omega, by omega⟩, ⟨by omega, by omega⟩⟩ (And.intro (fun c85 => ?_) (fun c85 => ?_))
                  · intro x86 hx86 kx86 lx86
                    rw [wg6] at hx86
                    refine And.intro ⟨by omega, by omega⟩ ?_
                    intro m87 em87
                    have z88 := zfx_f z0 em87 rfl
                    have w89 : m87.1 66 ((31 : Nat) : Int) = g1 := by rw [em87]; exact (zu_nk (by decide)).trans wg1
                    have w90 : m87.1 66 ((30 : Nat) : Int) = g2 := by rw [em87]; exact (zu_nk (by decide)).trans wg2
                    have w91 : m87.1 66 ((33 : Nat) : Int) = g3 := by rw [em87]; exact (zu_nk (by decide)).trans wg3
                    have w92 : m87.1 66 ((34 : Nat) : Int) = g4 := by rw [em87]; exact (zu_nk (by decide)).trans wg4
                    have w93 : m87.1 66 ((32 : Nat) : Int) = g5 := by rw [em87]; exact (zu_nk (by decide)).trans wg5
                    have w94 : m87.1 66 ((38 : Nat) : Int) = (x86 + 1) := by rw [em87]; exact zu_at
                    refine And.intro ⟨by omega, by omega⟩ (And.intro (fun c95 => ?_) (fun c95 => ?_))
                    · exfalso; omega
                    · refine And.intro ⟨by omega, by omega⟩ (And.intro ⟨by omega, by omega⟩ ?_)
                      intro m96 em96
                      have z97 := zfx_r z88 em96 rfl (by decide)
                      have w98 : m96.1 66 ((31 : Nat) : Int) = g1 := by rw [em96]; exact (congrFun (zu_ne (by decide)) _).trans w89
                      have w99 : m96.1 66 ((30 : Nat) : Int) = g2 := by rw [em96]; exact (congrFun (zu_ne (by decide)) _).trans w90
                      have w100 : m96.1 66 ((33 : Nat) : Int) = g3 := by rw [em96]; exact (congrFun (zu_ne (by decide)) _).trans w91
                      have w101 : m96.1 66 ((34 : Nat) : Int) = g4 := by rw [em96]; exact (congrFun (zu_ne (by decide)) _).trans w92
                      have w102 : m96.1 66 ((32 : Nat) : Int) = g5 := by rw [em96]; exact (congrFun (zu_ne (by decide)) _).trans w93
                      have w103 : m96.1 66 ((38 : Nat) : Int) = (x86 + 1) := by rw [em96]; exact (congrFun (zu_ne (by decide)) _).trans w94
                      clear w89 w90 w91 w92 w93 w94
                      refine And.intro ⟨by omega, by omega⟩ (And.intro (fun c104 => ?_) (fun c104 => ?_))
                      · exfalso; omega
                      · refine And.intro ⟨by omega, by omega⟩ (And.intro ⟨by omega, by omega⟩ ?_)
                        intro m105 em105
                        have z106 := zfx_r z97 em105 rfl (by decide)
                        have w107 : m105.1 66 ((31 : Nat) : Int) = g1 := by rw [em105]; exact (congrFun (zu_ne (by decide)) _).trans w98
                        have w108 : m105.1 66 ((30 : Nat) : Int) = g2 := by rw [em105]; exact (congrFun (zu_ne (by decide)) _).trans w99
                        have w109 : m105.1 66 ((33 : Nat) : Int) = g3 := by rw [em105]; exact (congrFun (zu_ne (by decide)) _).trans w100
                        have w110 : m105.1 66 ((34 : Nat) : Int) = g4 := by rw [em105]; exact (congrFun (zu_ne (by decide)) _).trans w101
                        have w111 : m105.1 66 ((32 : Nat) : Int) = g5 := by rw [em105]; exact (congrFun (zu_ne (by decide)) _).trans w102
                        have w112 : m105.1 66 ((38 : Nat) : Int) = (x86 + 1) := by rw [em105]; exact (congrFun (zu_ne (by decide)) _).trans w103
                        clear w98 w99 w100 w101 w102 w103
                        refine And.intro ⟨by omega, by omega⟩ (And.intro ⟨by omega, by omega⟩ ?_)
                        intro m113 em113
                        have z114 := zfx_r z106 em113 rfl (by decide)
                        have w115 : m113.1 66 ((31 : Nat) : Int) = g1 := by rw [em113]; exact (congrFun (zu_ne (by decide)) _).trans w107
                        have w116 : m113.1 66 ((30 : Nat) : Int) = g2 := by rw [em113]; exact (congrFun (zu_ne (by decide)) _).trans w108
                        have w117 : m113.1 66 ((33 : Nat) : Int) = g3 := by rw [em113]; exact (congrFun (zu_ne (by decide)) _).trans w109
                        have w118 : m113.1 66 ((34 : Nat) : Int) = g4 := by rw [em113]; exact (congrFun (zu_ne (by decide)) _).trans w110
                        have w119 : m113.1 66 ((32 : Nat) : Int) = g5 := by rw [em113]; exact (congrFun (zu_ne (by decide)) _).trans w111
                        have w120 : m113.1 66 ((38 : Nat) : Int) = (x86 + 1) := by rw [em113]; exact (congrFun (zu_ne (by decide)) _).trans w112
                        clear w107 w108 w109 w110 w111 w112
                        refine ⟨zk_X9_pass, zm_X9_pass hg d (by omega), rfl, (by (try rw [w115]) <;> (try rw [w116]) <;> (try rw [w117]) <;> (try rw [w118]) <;> (try rw [w119]) <;> (try rw [w120]) <;> (try rw [wg1]) <;> (try rw [wg2]) <;> (try rw [wg3]) <;> (try rw [wg4]) <;> (try rw [wg5]) <;> (try rw [wg6]) <;> omega), ?_⟩
                        intro m121 qm121 p122 p123 p124 p125
                        have z126 := zfx_t z114 qm121 rfl rfl
                        have w127 : m121.1 66 ((30 : Nat) : Int) = g2 := (qm121.2.1 30 rfl).trans w116
                        have w128 : m121.1 66 ((38 : Nat) : Int) = (x86 + 1) := (qm121.2.1 38 rfl).trans w120
                        obtain ⟨g129, wg129⟩ : ∃ z : Int, m121.1 66 ((31 : Nat) : Int) = z := ⟨_, rfl⟩
                        obtain ⟨g130, wg130⟩ : ∃ z : Int, m121.1 66 ((33 : Nat) : Int) = z := ⟨_, rfl⟩
                        obtain ⟨g131, wg131⟩ : ∃ z : Int, m121.1 66 ((34 : Nat) : Int) = z := ⟨_, rfl⟩
                        obtain ⟨g132, wg132⟩ : ∃ z : Int, m121.1 66 ((32 : Nat) : Int) = z := ⟨_, rfl⟩
                        try rw [wg129] at p122
                        try rw [w127] at p122
                        try rw [wg130] at p122
                        try rw [wg131] at p122
                        try rw [wg132] at p122
                        try rw [w128] at p122
                        try rw [w115] at p122
                        try rw [w116] at p122
                        try rw [w117] at p122
                        try rw [w118] at p122
                        try rw [w119] at p122
                        try rw [w120] at p122
                        try rw [wg1] at p122
                        try rw [wg2] at p122
                        try rw [wg3] at p122
                        try rw [wg4] at p122
                        try rw [wg5] at p122
                        try rw [wg6] at p122
                        try rw [wg129] at p123
                        try rw [w127] at p123
                        try rw [wg130] at p123
                        try rw [wg131] at p123
                        try rw [wg132] at p123
                        try rw [w128] at p123
                        try rw [w115] at p123
                        try rw [w116] at p123
                        try rw [w117] at p123
                        try rw [w118] at p123
                        try rw [w119] at p123
                        try rw [w120] at p123
                        try rw [wg1] at p123
                        try rw [wg2] at p123
                        try rw [wg3] at p123
                        try rw [wg4] at p123
                        try rw [wg5] at p123
                        try rw [wg6] at p123
                        try rw [wg129] at p124
                        try rw [w127] at p124
                        try rw [wg130] at p124
                        try rw [wg131] at p124
                        try rw [wg132] at p124
                        try rw [w128] at p124
                        try rw [w115] at p124
                        try rw [w116] at p124
                        try rw [w117] at p124
                        try rw [w118] at p124
                        try rw [w119] at p124
                        try rw [w120] at p124
                        try rw [wg1] at p124
                        try rw [wg2] at p124
                        try rw [wg3] at p124
                        try rw [wg4] at p124
                        try rw [wg5] at p124
                        try rw [wg6] at p124
                        try rw [wg129] at p125
                        try rw [w127] at p125
                        try rw [wg130] at p125
                        try rw [wg131] at p125
                        try rw [wg132] at p125
                        try rw [w128] at p125
                        try rw [w115] at p125
                        try rw [w116] at p125
                        try rw [w117] at p125
                        try rw [w118] at p125
                        try rw [w119] at p125
                        try rw [w120] at p125
                        try rw [wg1] at p125
                        try rw [wg2] at p125
                        try rw [wg3] at p125
                        try rw [wg4] at p125
                        try rw [wg5] at p125
                        try rw [wg6] at p125
                        clear w115 w116 w117 w118 w119 w120
                        have R100 : ∀ q : Int, m121.1 100 q = if q = a3 then 1 else μ.1 100 q := fun q => by rw [qm121.1 100 (by decide) rfl, em113, zu_ne (by decide), em105, zu_ne (by decide), em96]; by_cases hq : q = a3 <;> first | (rw [if_pos hq, hq]; exact zu_at) | (rw [if_neg hq, zu_nk hq, em87, zu_ne (by decide)])
                        have R101 : ∀ q : Int, m121.1 101 q = if q = a3 then x10 else μ.1 101 q := fun q => by rw [qm121.1 101 (by decide) rfl, em113, zu_ne (by decide), em105]; by_cases hq : q = a3 <;> first | (rw [if_pos hq, hq]; exact zu_at) | (rw [if_neg hq, zu_nk hq, em96, zu_ne (by decide), em87, zu_ne (by decide)])
                        have R102 : ∀ q : Int, m121.1 102 q = if q = a3 then 0 else μ.1 102 q := fun q => by rw [qm121.1 102 (by decide) rfl, em113]; by_cases hq : q = a3 <;> first | (rw [if_pos hq, hq]; exact zu_at) | (rw [if_neg hq, zu_nk hq, em105, zu_ne (by decide), em96, zu_ne (by decide), em87, zu_ne (by decide)])
                        exact And.intro (zrtb (by omega)) (And.intro ⟨by omega, by omega⟩ (hQ _ _ z126 (by omega) (by omega) (by (try rw [wg129]) <;> (try rw [w127]) <;> (try rw [wg130]) <;> (try rw [wg131]) <;> (try rw [wg132]) <;> (try rw [w128]) <;> (try rw [wg1]) <;> (try rw [wg2]) <;> (try rw [wg3]) <;> (try rw [wg4]) <;> (try rw [wg5]) <;> (try rw [wg6]) <;> omega) (by (try rw [wg129]) <;> (try rw [w127]) <;> (try rw [wg130]) <;> (try rw [wg131]) <;> (try rw [wg132]) <;> (try rw [w128]) <;> (try rw [wg1]) <;> (try rw [wg2]) <;> (try rw [wg3]) <;> (try rw [wg4]) <;> (try rw [wg5]) <;> (try rw [wg6]) <;> omega) (by (try rw [wg129]) <;> (try rw [w127]) <;> (try rw [wg130]) <;> (try rw [wg131]) <;> (try rw [wg132]) <;> (try rw [w128]) <;> (try rw [wg1]) <;> (try rw [wg2]) <;> (try rw [wg3]) <;> (try rw [wg4]) <;> (try rw [wg5]) <;> (try rw [wg6]) <;> omega) (fun _ => by rw [R102, R100, R101, if_pos rfl, if_pos rfl, if_pos rfl]; omega) (fun q hq => ⟨by rw [R100, if_neg hq], by rw [R101, if_neg hq], by rw [R102, if_neg hq]⟩) (fun _ => by rw [R100, R101, if_pos rfl, if_pos rfl]; exact ⟨fun h => by omega, fun h => by exfalso; omega⟩) (fun _ _ => by rw [R100, R101, if_pos rfl, if_pos rfl]; exact ⟨fun h => by omega, fun h => by omega, by omega⟩)))
                  · refine And.intro ⟨by omega, by omega⟩ (And.intro (fun c133 => ?_) (fun c133 => ?_))
                    · refine ⟨zk_X9_fail, zm_X9_fail hg d (by omega), _, rfl, ⟨by omega, by omega⟩, ?_⟩
                      intro x134 m135 qm135 kx134 lx134
                      have z136 := zfx_t z0 qm135 rfl rfl
                      have w137 : m135.1 66 ((31 : Nat) : Int) = g1 := (qm135.2.1 31 rfl).trans wg1
                      have w138 : m135.1 66 ((30 : Nat) : Int) = g2 := (qm135.2.1 30 rfl).trans wg2
                      have w139 : m135.1 66 ((33 : Nat) : Int) = g3 := (qm135.2.1 33 rfl).trans wg3
                      have w140 : m135.1 66 ((34 : Nat) : Int) = g4 := (qm135.2.1 34 rfl).trans wg4
                      have w141 : m135.1 66 ((32 : Nat) : Int) = g5 := (qm135.2.1 32 rfl).trans wg5
                      have w142 : m135.1 66 ((38 : Nat) : Int) = g6 := (qm135.2.1 38 rfl).trans wg6
                      exact And.intro (zrtb (by omega)) (And.intro ⟨by omega, by omega⟩ (hQ _ _ z136 (by omega) (by omega) (by (try rw [w137]) <;> (try rw [w138]) <;> (try rw [w139]) <;> (try rw [w140]) <;> (try rw [w141]) <;> (try rw [w142]) <;> (try rw [wg1]) <;> (try rw [wg2]) <;> (try rw [wg3]) <;> (try rw [wg4]) <;> (try rw [wg5]) <;> (try rw [wg6]) <;> omega) (by (try rw [w137]) <;> (try rw [w138]) <;> (try rw [w139]) <;> (try rw [w140]) <;> (try rw [w141]) <;> (try rw [w142]) <;> (try rw [wg1]) <;> (try rw [wg2]) <;> (try rw [wg3]) <;> (try rw [wg4]) <;> (try rw [wg5]) <;> (try rw [wg6]) <;> omega) (by (try rw [w137]) <;> (try rw [w138]) <;> (try rw [w139]) <;> (try rw [w140]) <;> (try rw [w141]) <;> (try rw [w142]) <;> (try rw [wg1]) <;> (try rw [wg2]) <;> (try rw [wg3]) <;> (try rw [wg4]) <;> (try rw [wg5]) <;> (try rw [wg6]) <;> omega) (fun h => by omega) (fun q _ => ⟨by rw [qm135.1 100 (by decide) rfl], by rw [qm135.1 101 (by decide) rfl], by rw [qm135.1 102 (by decide) rfl]⟩) (fun h => by omega) (fun h _ => by omega)))
                    · exfalso; omega
                · refine And.intro ⟨by omega, by omega⟩ (And.intro (fun c143 => ?_) (fun c143 => ?_))
                  · refine ⟨zk_X9_fail, zm_X9_fail hg d (by omega), _, rfl, ⟨by omega, by omega⟩, ?_⟩
                    intro x144 m145 qm145 kx144 lx144
                    have z146 := zfx_t z0 qm145 rfl rfl
                    have w147 : m145.1 66 ((31 : Nat) : Int) = g1 := (qm145.2.1 31 rfl).trans wg1
                    have w148 : m145.1 66 ((30 : Nat) : Int) = g2 := (qm145.2.1 30 rfl).trans wg2
                    have w149 : m145.1 66 ((33 : Nat) : Int) = g3 := (qm145.2.1 33 rfl).trans wg3
                    have w150 : m145.1 66 ((34 : Nat) : Int) = g4 := (qm145.2.1 34 rfl).trans wg4
                    have w151 : m145.1 66 ((32 : Nat) : Int) = g5 := (qm145.2.1 32 rfl).trans wg5
                    have w152 : m145.1 66 ((38 : Nat) : Int) = g6 := (qm145.2.1 38 rfl).trans wg6
                    exact And.intro (zrtb (by omega)) (And.intro ⟨by omega, by omega⟩ (hQ _ _ z146 (by omega) (by omega) (by (try rw [w147]) <;> (try rw [w148]) <;> (try rw [w149]) <;> (try rw [w150]) <;> (try rw [w151]) <;> (try rw [w152]) <;> (try rw [wg1]) <;> (try rw [wg2]) <;> (try rw [wg3]) <;> (try rw [wg4]) <;> (try rw [wg5]) <;> (try rw [wg6]) <;> omega) (by (try rw [w147]) <;> (try rw [w148]) <;> (try rw [w149]) <;> (try rw [w150]) <;> (try rw [w151]) <;> (try rw [w152]) <;> (try rw [wg1]) <;> (try rw [wg2]) <;> (try rw [wg3]) <;> (try rw [wg4]) <;> (try rw [wg5]) <;> (try rw [wg6]) <;> omega) (by (try rw [w147]) <;> (try rw [w148]) <;> (try rw [w149]) <;> (try rw [w150]) <;> (try rw [w151]) <;> (try rw [w152]) <;> (try rw [wg1]) <;> (try rw [wg2]) <;> (try rw [wg3]) <;> (try rw [wg4]) <;> (try rw [wg5]) <;> (try rw [wg6]) <;> omega) (fun h => by omega) (fun q _ => ⟨by rw [qm145.1 100 (by decide) rfl], by rw [qm145.1 101 (by decide) rfl], by rw [qm145.1 102 (by decide) rfl]⟩) (fun h => by omega) (fun h _ => by omega)))
                  · exfalso; omega
            · refine And.intro ⟨by omega, by omega⟩ (And.intro (fun c153 => ?_) (fun c153 => ?_))
              · refine And.intro ⟨by omega, by omega⟩ (And.intro (fun c154 => ?_) (fun c154 => ?_))
                · exfalso; omega
                · refine And.intro ⟨by omega, by omega⟩ (And.intro (fun c155 => ?_) (fun c155 => ?_))
                  · refine And.intro ⟨⟨by omega, by omega⟩, ⟨by omega, by omega⟩⟩ (And.intro (fun c156 => ?_) (fun c156 => ?_))
                    · intro x157 hx157 kx157 lx157
                      rw [wg6] at hx157
                      refine And.intro ⟨by omega, by omega⟩ ?_
                      intro m158 em158
                      have z159 := zfx_f z0 em158 rfl
                      have w160 : m158.1 66 ((31 : Nat) : Int) = g1 := by rw [em158]; exact (zu_nk (by decide)).trans wg1
                      have w161 : m158.1 66 ((30 : Nat) : Int) = g2 := by rw [em158]; exact (zu_nk (by decide)).trans wg2
                      have w162 : m158.1 66 ((33 : Nat) : Int) = g3 := by rw [em158]; exact (zu_nk (by decide)).trans wg3
                      have w163 : m158.1 66 ((34 : Nat) : Int) = g4 := by rw [em158]; exact (zu_nk (by decide)).trans wg4
                      have w164 : m158.1 66 ((32 : Nat) : Int) = g5 := by rw [em158]; exact (zu_nk (by decide)).trans wg5
                      have w165 : m158.1 66 ((38 : Nat) : Int) = (x157 + 1) := by rw [em158]; exact zu_at
                      refine And.intro ⟨by omega, by omega⟩ (And.intro (fun c166 => ?_) (fun c166 => ?_))
                      · exfalso; omega
                      · refine And.intro ⟨by omega, by omega⟩ (And.intro ⟨by omega, by omega⟩ ?_)
                        intro m167 em167
                        have z168 := zfx_r z159 em167 rfl (by decide)
                        have w169 : m167.1 66 ((31 : Nat) : Int) = g1 := by rw [em167]; exact (congrFun (zu_ne (by decide)) _).trans w160
                        have w170 : m167.1 66 ((30 : Nat) : Int) = g2 := by rw [em167]; exact (congrFun (zu_ne (by decide)) _).trans w161
                        have w171 : m167.1 66 ((33 : Nat) : Int) = g3 := by rw [em167]; exact (congrFun (zu_ne (by decide)) _).trans w162
                        have w172 : m167.1 66 ((34 : Nat) : Int) = g4 := by rw [em167]; exact (congrFun (zu_ne (by decide)) _).trans w163
                        have w173 : m167.1 66 ((32 : Nat) : Int) = g5 := by rw [em167]; exact (congrFun (zu_ne (by decide)) _).trans w164
                        have w174 : m167.1 66 ((38 : Nat) : Int) = (x157 + 1) := by rw [em167]; exact (congrFun (zu_ne (by decide)) _).trans w165
                        clear w160 w161 w162 w163 w164 w165
                        refine And.intro ⟨by omega, by omega⟩ (And.intro (fun c175 => ?_) (fun c175 => ?_))
                        · exfalso; omega
                        · refine And.intro ⟨by omega, by omega⟩ (And.intro ⟨by omega, by omega⟩ ?_)
                          intro m176 em176
                          have z177 := zfx_r z168 em176 rfl (by decide)
                          have w178 : m176.1 66 ((31 : Nat) : Int) = g1 := by rw [em176]; exact (congrFun (zu_ne (by decide)) _).trans w169
                          have w179 : m176.1 66 ((30 : Nat) : Int) = g2 := by rw [em176]; exact (congrFun (zu_ne (by decide)) _).trans w170
                          have w180 : m176.1 66 ((33 : Nat) : Int) = g3 := by rw [em176]; exact (congrFun (zu_ne (by decide)) _).trans w171
                          have w181 : m176.1 66 ((34 : Nat) : Int) = g4 := by rw [em176]; exact (congrFun (zu_ne (by decide)) _).trans w172
                          have w182 : m176.1 66 ((32 : Nat) : Int) = g5 := by rw [em176]; exact (congrFun (zu_ne (by decide)) _).trans w173
                          have w183 : m176.1 66 ((38 : Nat) : Int) = (x157 + 1) := by rw [em176]; exact (congrFun (zu_ne (by decide)) _).trans w174
                          clear w169 w170 w171 w172 w173 w174
                          refine And.intro ⟨by omega, by omega⟩ (And.intro ⟨by omega, by omega⟩ ?_)
                          intro m184 em184
                          have z185 := zfx_r z177 em184 rfl (by decide)
                          have w186 : m184.1 66 ((31 : Nat) : Int) = g1 := by rw [em184]; exact (congrFun (zu_ne (by decide)) _).trans w178
                          have w187 : m184.1 66 ((30 : Nat) : Int) = g2 := by rw [em184]; exact (congrFun (zu_ne (by decide)) _).trans w179
                          have w188 : m184.1 66 ((33 : Nat) : Int) = g3 := by rw [em184]; exact (congrFun (zu_ne (by decide)) _).trans w180
                          have w189 : m184.1 66 ((34 : Nat) : Int) = g4 := by rw [em184]; exact (congrFun (zu_ne (by decide)) _).trans w181
                          have w190 : m184.1 66 ((32 : Nat) : Int) = g5 := by rw [em184]; exact (congrFun (zu_ne (by decide)) _).trans w182
                          have w191 : m184.1 66 ((38 : Nat) : Int) = (x157 + 1) := by rw [em184]; exact (congrFun (zu_ne (by decide)) _).trans w183
                          clear w178 w179 w180 w181 w182 w183
                          refine ⟨zk_X9_pass, zm_X9_pass hg d (by omega), rfl, (by (try rw [w186]) <;> (try rw [w187]) <;> (try rw [w188]) <;> (try rw [w189]) <;> (try rw [w190]) <;> (try rw [w191]) <;> (try rw [wg1]) <;> (try rw [wg2]) <;> (try rw [wg3]) <;> (try rw [wg4]) <;> (try rw [wg5]) <;> (try rw [wg6]) <;> omega), ?_⟩
                          intro m192 qm192 p193 p194 p195 p196
                          have z197 := zfx_t z185 qm192 rfl rfl
                          have w198 : m192.1 66 ((30 : Nat) : Int) = g2 := (qm192.2.1 30 rfl).trans w187
                          have w199 : m192.1 66 ((38 : Nat) : Int) = (x157 + 1) := (qm192.2.1 38 rfl).trans w191
                          obtain ⟨g200, wg200⟩ : ∃ z : Int, m192.1 66 ((31 : Nat) : Int) = z := ⟨_, rfl⟩
                          obtain ⟨g201, wg201⟩ : ∃ z : Int, m192.1 66 ((33 : Nat) : Int) = z := ⟨_, rfl⟩
                          obtain ⟨g202, wg202⟩ : ∃ z : Int, m192.1 66 ((34 : Nat) : Int) = z := ⟨_, rfl⟩
                          obtain ⟨g203, wg203⟩ : ∃ z : Int, m192.1 66 ((32 : Nat) : Int) = z := ⟨_, rfl⟩
                          try rw [wg200] at p193
                          try rw [w198] at p193
                          try rw [wg201] at p193
                          try rw [wg202] at p193
                          try rw [wg203] at p193
                          try rw [w199] at p193
                          try rw [w186] at p193
                          try rw [w187] at p193
                          try rw [w188] at p193
                          try rw [w189] at p193
                          try rw [w190] at p193
                          try rw [w191] at p193
                          try rw [wg1] at p193
                          try rw [wg2] at p193
                          try rw [wg3] at p193
                          try rw [wg4] at p193
                          try rw [wg5] at p193
                          try rw [wg6] at p193
                          try rw [wg200] at p194
                          try rw [w198] at p194
                          try rw [wg201] at p194
                          try rw [wg202] at p194
                          try rw [wg203] at p194
                          try rw [w199] at p194
                          try rw [w186] at p194
                          try rw [w187] at p194
                          try rw [w188] at p194
                          try rw [w189] at p194
                          try rw [w190] at p194
                          try rw [w191] at p194
                          try rw [wg1] at p194
                          try rw [wg2] at p194
                          try rw [wg3] at p194
                          try rw [wg4] at p194
                          try rw [wg5] at p194
                          try rw [wg6] at p194
                          try rw [wg200] at p195
                          try rw [w198] at p195
                          try rw [wg201] at p195
                          try rw [wg202] at p195
                          try rw [wg203] at p195
                          try rw [w199] at p195
                          try rw [w186] at p195
                          try rw [w187] at p195
                          try rw [w188] at p195
                          try rw [w189] at p195
                          try rw [w190] at p195
                          try rw [w191] at p195
                          try rw [wg1] at p195
                          try rw [wg2] at p195
                          try rw [wg3] at p195
                          try rw [wg4] at p195
                          try rw [wg5] at p195
                          try rw [wg6] at p195
                          try rw [wg200] at p196
                          try rw [w198] at p196
                          try rw [wg201] at p196
                          try rw [wg202] at p196
                          try rw [wg203] at p196
                          try rw [w199] at p196
                          try rw [w186] at p196
                          try rw [w187] at p196
                          try rw [w188] at p196
                          try rw [w189] at p196
                          try rw [w190] at p196
                          try rw [w191] at p196
                          try rw [wg1] at p196
                          try rw [wg2] at p196
                          try rw [wg3] at p196
                          try rw [wg4] at p196
                          try rw [wg5] at p196
                          try rw [wg6] at p196
                          clear w186 w187 w188 w189 w190 w191
                          have R100 : ∀ q : Int, m192.1 100 q = if q = a3 then 1 else μ.1 100 q := fun q => by rw [qm192.1 100 (by decide) rfl, em184, zu_ne (by decide), em176, zu_ne (by decide), em167]; by_cases hq : q = a3 <;> first | (rw [if_pos hq, hq]; exact zu_at) | (rw [if_neg hq, zu_nk hq, em158, zu_ne (by decide)])
                          have R101 : ∀ q : Int, m192.1 101 q = if q = a3 then x10 else μ.1 101 q := fun q => by rw [qm192.1 101 (by decide) rfl, em184, zu_ne (by decide), em176]; by_cases hq : q = a3 <;> first | (rw [if_pos hq, hq]; exact zu_at) | (rw [if_neg hq, zu_nk hq, em167, zu_ne (by decide), em158, zu_ne (by decide)])
                          have R102 : ∀ q : Int, m192.1 102 q = if q = a3 then 0 else μ.1 102 q := fun q => by rw [qm192.1 102 (by decide) rfl, em184]; by_cases hq : q = a3 <;> first | (rw [if_pos hq, hq]; exact zu_at) | (rw [if_neg hq, zu_nk hq, em176, zu_ne (by decide), em167, zu_ne (by decide), em158, zu_ne (by decide)])
                          exact And.intro (zrtb (by omega)) (And.intro ⟨by omega, by omega⟩ (hQ _ _ z197 (by omega) (by omega) (by (try rw [wg200]) <;> (try rw [w198]) <;> (try rw [wg201]) <;> (try rw [wg202]) <;> (try rw [wg203]) <;> (try rw [w199]) <;> (try rw [wg1]) <;> (try rw [wg2]) <;> (try rw [wg3]) <;> (try rw [wg4]) <;> (try rw [wg5]) <;> (try rw [wg6]) <;> omega) (by (try rw [wg200]) <;> (try rw [w198]) <;> (try rw [wg201]) <;> (try rw [wg202]) <;> (try rw [wg203]) <;> (try rw [w199]) <;> (try rw [wg1]) <;> (try rw [wg2]) <;> (try rw [wg3]) <;> (try rw [wg4]) <;> (try rw [wg5]) <;> (try rw [wg6]) <;> omega) (by (try rw [wg200]) <;> (try rw [w198]) <;> (try rw [wg201]) <;> (try rw [wg202]) <;> (try rw [wg203]) <;> (try rw [w199]) <;> (try rw [wg1]) <;> (try rw [wg2]) <;> (try rw [wg3]) <;> (try rw [wg4]) <;> (try rw [wg5]) <;> (try rw [wg6]) <;> omega) (fun _ => by rw [R102, R100, R101, if_pos rfl, if_pos rfl, if_pos rfl]; omega) (fun q hq => ⟨by rw [R100, if_neg hq], by rw [R101, if_neg hq], by rw [R102, if_neg hq]⟩) (fun _ => by rw [R100, R101, if_pos rfl, if_pos rfl]; exact ⟨fun h => by omega, fun h => by exfalso; omega⟩) (fun _ _ => by rw [R100, R101, if_pos rfl, if_pos rfl]; exact ⟨fun h => by omega, fun h => by omega, by omega⟩)))
                    · refine And.intro ⟨by omega, by omega⟩ (And.intro (fun c204 => ?_) (fun c204 => ?_))
                      · refine ⟨zk_X9_fail, zm_X9_fail hg d (by omega), _, rfl, ⟨by omega, by omega⟩, ?_⟩
                        intro x205 m206 qm206 kx205 lx205
                        have z207 := zfx_t z0 qm206 rfl rfl
                        have w208 : m206.1 66 ((31 : Nat) : Int) = g1 := (qm206.2.1 31 rfl).trans wg1
                        have w209 : m206.1 66 ((30 : Nat) : Int) = g2 := (qm206.2.1 30 rfl).trans wg2
                        have w210 : m206.1 66 ((33 : Nat) : Int) = g3 := (qm206.2.1 33 rfl).trans wg3
                        have w211 : m206.1 66 ((34 : Nat) : Int) = g4 := (qm206.2.1 34 rfl).trans wg4
                        have w212 : m206.1 66 ((32 : Nat) : Int) = g5 := (qm206.2.1 32 rfl).trans wg5
                        have w213 : m206.1 66 ((38 : Nat) : Int) = g6 := (qm206.2.1 38 rfl).trans wg6
                        exact And.intro (zrtb (by omega)) (And.intro ⟨by omega, by omega⟩ (hQ _ _ z207 (by omega) (by omega) (by (try rw [w208]) <;> (try rw [w209]) <;> (try rw [w210]) <;> (try rw [w211]) <;> (try rw [w212]) <;> (try rw [w213]) <;> (try rw [wg1]) <;> (try rw [wg2]) <;> (try rw [wg3]) <;> (try rw [wg4]) <;> (try rw [wg5]) <;> (try rw [wg6]) <;> omega) (by (try rw [w208]) <;> (try rw [w209]) <;> (try rw [w210]) <;> (try rw [w211]) <;> (try rw [w212]) <;> (try rw [w213]) <;> (try rw [wg1]) <;> (try rw [wg2]) <;> (try rw [wg3]) <;> (try rw [wg4]) <;> (try rw [wg5]) <;> (try rw [wg6]) <;> omega) (by (try rw [w208]) <;> (try rw [w209]) <;> (try rw [w210]) <;> (try rw [w211]) <;> (try rw [w212]) <;> (try rw [w213]) <;> (try rw [wg1]) <;> (try rw [wg2]) <;> (try rw [wg3]) <;> (try rw [wg4]) <;> (try rw [wg5]) <;> (try rw [wg6]) <;> omega) (fun h => by omega) (fun q _ => ⟨by rw [qm206.1 100 (by decide) rfl], by rw [qm206.1 101 (by decide) rfl], by rw [qm206.1 102 (by decide) rfl]⟩) (fun h => by omega) (fun h _ => by omega)))
                      · exfalso; omega
                  · refine And.intro ⟨by omega, by omega⟩ (And.intro (fun c214 => ?_) (fun c214 => ?_))
                    · refine ⟨zk_X9_fail, zm_X9_fail hg d (by omega), _, rfl, ⟨by omega, by omega⟩, ?_⟩
                      intro x215 m216 qm216 kx215 lx215
                      have z217 := zfx_t z0 qm216 rfl rfl
                      have w218 : m216.1 66 ((31 : Nat) : Int) = g1 := (qm216.2.1 31 rfl).trans wg1
                      have w219 : m216.1 66 ((30 : Nat) : Int) = g2 := (qm216.2.1 30 rfl).trans wg2
                      have w220 : m216.1 66 ((33 : Nat) : Int) = g3 := (qm216.2.1 33 rfl).trans wg3
                      have w221 : m216.1 66 ((34 : Nat) : Int) = g4 := (qm216.2.1 34 rfl).trans wg4
                      have w222 : m216.1 66 ((32 : Nat) : Int) = g5 := (qm216.2.1 32 rfl).trans wg5
                      have w223 : m216.1 66 ((38 : Nat) : Int) = g6 := (qm216.2.1 38 rfl).trans wg6
                      exact And.intro (zrtb (by omega)) (And.intro ⟨by omega, by omega⟩ (hQ _ _ z217 (by omega) (by omega) (by (try rw [w218]) <;> (try rw [w219]) <;> (try rw [w220]) <;> (try rw [w221]) <;> (try rw [w222]) <;> (try rw [w223]) <;> (try rw [wg1]) <;> (try rw [wg2]) <;> (try rw [wg3]) <;> (try rw [wg4]) <;> (try rw [wg5]) <;> (try rw [wg6]) <;> omega) (by (try rw [w218]) <;> (try rw [w219]) <;> (try rw [w220]) <;> (try rw [w221]) <;> (try rw [w222]) <;> (try rw [w223]) <;> (try rw [wg1]) <;> (try rw [wg2]) <;> (try rw [wg3]) <;> (try rw [wg4]) <;> (try rw [wg5]) <;> (try rw [wg6]) <;> omega) (by (try rw [w218]) <;> (try rw [w219]) <;> (try rw [w220]) <;> (try rw [w221]) <;> (try rw [w222]) <;> (try rw [w223]) <;> (try rw [wg1]) <;> (try rw [wg2]) <;> (try rw [wg3]) <;> (try rw [wg4]) <;> (try rw [wg5]) <;> (try rw [wg6]) <;> omega) (fun h => by omega) (fun q _ => ⟨by rw [qm216.1 100 (by decide) rfl], by rw [qm216.1 101 (by decide) rfl], by rw [qm216.1 102 (by decide) rfl]⟩) (fun h => by omega) (fun h _ => by omega)))
                    · exfalso; omega
              · refine ⟨zk_X9_fail, zm_X9_fail hg d (by omega), _, rfl, ⟨by omega, by omega⟩, ?_⟩
                intro x224 m225 qm225 kx224 lx224
                have z226 := zfx_t z0 qm225 rfl rfl
                have w227 : m225.1 66 ((31 : Nat) : Int) = g1 := (qm225.2.1 31 rfl).trans wg1
                have w228 : m225.1 66 ((30 : Nat) : Int) = g2 := (qm225.2.1 30 rfl).trans wg2
                have w229 : m225.1 66 ((33 : Nat) : Int) = g3 := (qm225.2.1 33 rfl).trans wg3
                have w230 : m225.1 66 ((34 : Nat) : Int) = g4 := (qm225.2.1 34 rfl).trans wg4
                have w231 : m225.1 66 ((32 : Nat) : Int) = g5 := (qm225.2.1 32 rfl).trans wg5
                have w232 : m225.1 66 ((38 : Nat) : Int) = g6 := (qm225.2.1 38 rfl).trans wg6
                exact And.intro (zrtb (by omega)) (And.intro ⟨by omega, by omega⟩ (hQ _ _ z226 (by omega) (by omega) (by (try rw [w227]) <;> (try rw [w228]) <;> (try rw [w229]) <;> (try rw [w230]) <;> (try rw [w231]) <;> (try rw [w232]) <;> (try rw [wg1]) <;> (try rw [wg2]) <;> (try rw [wg3]) <;> (try rw [wg4]) <;> (try rw [wg5]) <;> (try rw [wg6]) <;> omega) (by (try rw [w227]) <;> (try rw [w228]) <;> (try rw [w229]) <;> (try rw [w230]) <;> (try rw [w231]) <;> (try rw [w232]) <;> (try rw [wg1]) <;> (try rw [wg2]) <;> (try rw [wg3]) <;> (try rw [wg4]) <;> (try rw [wg5]) <;> (try rw [wg6]) <;> omega) (by (try rw [w227]) <;> (try rw [w228]) <;> (try rw [w229]) <;> (try rw [w230]) <;> (try rw [w231]) <;> (try rw [w232]) <;> (try rw [wg1]) <;> (try rw [wg2]) <;> (try rw [wg3]) <;> (try rw [wg4]) <;> (try rw [wg5]) <;> (try rw [wg6]) <;> omega) (fun h => by omega) (fun q _ => ⟨by rw [qm225.1 100 (by decide) rfl], by rw [qm225.1 101 (by decide) rfl], by rw [qm225.1 102 (by decide) rfl]⟩) (fun h => by omega) (fun h _ => by omega)))
      · exfalso; omega
    · refine ⟨zk_X9_name, zm_X9_name hg d (by omega), rfl, (by (try rw [wg1]) <;> (try rw [wg2]) <;> (try rw [wg3]) <;> (try rw [wg4]) <;> (try rw [wg5]) <;> (try rw [wg6]) <;> omega), ?_⟩
      intro j233
      refine ⟨zk_X9_findClass, zm_X9_findClass hg d (by omega), _, rfl, ?_⟩
      intro x234 kx234 lx234 p235
      try rw [wg1] at p235
      try rw [wg2] at p235
      try rw [wg3] at p235
      try rw [wg4] at p235
      try rw [wg5] at p235
      try rw [wg6] at p235
      try rw [wg1] at p235
      try rw [wg2] at p235
      try rw [wg3] at p235
      try rw [wg4] at p235
      try rw [wg5] at p235
      try rw [wg6] at p235
      refine And.intro ⟨by omega, by omega⟩ (And.intro (fun c236 => ?_) (fun c236 => ?_))
      · exfalso; omega
      · refine And.intro ⟨by omega, by omega⟩ (And.intro (fun c237 => ?_) (fun c237 => ?_))
        · intro x238 hx238 kx238 lx238
          rw [wg6] at hx238
          refine And.intro ⟨⟨by omega, by omega⟩, ⟨by omega, by omega⟩⟩ (And.intro (fun c239 => ?_) (fun c239 => ?_))
          · refine ⟨zk_X9_fail, zm_X9_fail hg d (by omega), _, rfl, ⟨by omega, by omega⟩, ?_⟩
            intro x240 m241 qm241 kx240 lx240
            have z242 := zfx_t z0 qm241 rfl rfl
            have w243 : m241.1 66 ((31 : Nat) : Int) = g1 := (qm241.2.1 31 rfl).trans wg1
            have w244 : m241.1 66 ((30 : Nat) : Int) = g2 := (qm241.2.1 30 rfl).trans wg2
            have w245 : m241.1 66 ((33 : Nat) : Int) = g3 := (qm241.2.1 33 rfl).trans wg3
            have w246 : m241.1 66 ((34 : Nat) : Int) = g4 := (qm241.2.1 34 rfl).trans wg4
            have w247 : m241.1 66 ((32 : Nat) : Int) = g5 := (qm241.2.1 32 rfl).trans wg5
            have w248 : m241.1 66 ((38 : Nat) : Int) = g6 := (qm241.2.1 38 rfl).trans wg6
            exact And.intro (zrtb (by omega)) (And.intro ⟨by omega, by omega⟩ (hQ _ _ z242 (by omega) (by omega) (by (try rw [w243]) <;> (try rw [w244]) <;> (try rw [w245]) <;> (try rw [w246]) <;> (try rw [w247]) <;> (try rw [w248]) <;> (try rw [wg1]) <;> (try rw [wg2]) <;> (try rw [wg3]) <;> (try rw [wg4]) <;> (try rw [wg5]) <;> (try rw [wg6]) <;> omega) (by (try rw [w243]) <;> (try rw [w244]) <;> (try rw [w245]) <;> (try rw [w246]) <;> (try rw [w247]) <;> (try rw [w248]) <;> (try rw [wg1]) <;> (try rw [wg2]) <;> (try rw [wg3]) <;> (try rw [wg4]) <;> (try rw [wg5]) <;> (try rw [wg6]) <;> omega) (by (try rw [w243]) <;> (try rw [w244]) <;> (try rw [w245]) <;> (try rw [w246]) <;> (try rw [w247]) <;> (try rw [w248]) <;> (try rw [wg1]) <;> (try rw [wg2]) <;> (try rw [wg3]) <;> (try rw [wg4]) <;> (try rw [wg5]) <;> (try rw [wg6]) <;> omega) (fun h => by omega) (fun q _ => ⟨by rw [qm241.1 100 (by decide) rfl], by rw [qm241.1 101 (by decide) rfl], by rw [qm241.1 102 (by decide) rfl]⟩) (fun h => by omega) (fun h _ => by omega)))
          · refine And.intro ⟨⟨by omega, by omega⟩, ⟨by omega, by omega⟩⟩ (And.intro (fun c249 => ?_) (fun c249 => ?_))
            · refine ⟨zk_X9_fail, zm_X9_fail hg d (by omega), _, rfl, ⟨by omega, by omega⟩, ?_⟩
              intro x250 m251 qm251 kx250 lx250
              have z252 := zfx_t z0 qm251 rfl rfl
              have w253 : m251.1 66 ((31 : Nat) : Int) = g1 := (qm251.2.1 31 rfl).trans wg1
              have w254 : m251.1 66 ((30 : Nat) : Int) = g2 := (qm251.2.1 30 rfl).trans wg2
              have w255 : m251.1 66 ((33 : Nat) : Int) = g3 := (qm251.2.1 33 rfl).trans wg3
              have w256 : m251.1 66 ((34 : Nat) : Int) = g4 := (qm251.2.1 34 rfl).trans wg4
              have w257 : m251.1 66 ((32 : Nat) : Int) = g5 := (qm251.2.1 32 rfl).trans wg5
              have w258 : m251.1 66 ((38 : Nat) : Int) = g6 := (qm251.2.1 38 rfl).trans wg6
              exact And.intro (zrtb (by omega)) (And.intro ⟨by omega, by omega⟩ (hQ _ _ z252 (by omega) (by omega) (by (try rw [w253]) <;> (try rw [w254]) <;> (try rw [w255]) <;> (try rw [w256]) <;> (try rw [w257]) <;> (try rw [w258]) <;> (try rw [wg1]) <;> (try rw [wg2]) <;> (try rw [wg3]) <;> (try rw [wg4]) <;> (try rw [wg5]) <;> (try rw [wg6]) <;> omega) (by (try rw [w253]) <;> (try rw [w254]) <;> (try rw [w255]) <;> (try rw [w256]) <;> (try rw [w257]) <;> (try rw [w258]) <;> (try rw [wg1]) <;> (try rw [wg2]) <;> (try rw [wg3]) <;> (try rw [wg4]) <;> (try rw [wg5]) <;> (try rw [wg6]) <;> omega) (by (try rw [w253]) <;> (try rw [w254]) <;> (try rw [w255]) <;> (try rw [w256]) <;> (try rw [w257]) <;> (try rw [w258]) <;> (try rw [wg1]) <;> (try rw [wg2]) <;> (try rw [wg3]) <;> (try rw [wg4]) <;> (try rw [wg5]) <;> (try rw [wg6]) <;> omega) (fun h => by omega) (fun q _ => ⟨by rw [qm251.1 100 (by decide) rfl], by rw [qm251.1 101 (by decide) rfl], by rw [qm251.1 102 (by decide) rfl]⟩) (fun h => by omega) (fun h _ => by omega)))
            · refine And.intro ⟨by omega, by omega⟩ (And.intro (fun c259 => ?_) (fun c259 => ?_))
              · refine And.intro ⟨by omega, by omega⟩ (And.intro (fun c260 => ?_) (fun c260 => ?_))
                · intro x261 hx261 kx261 lx261
                  rw [wg6] at hx261
                  refine And.intro ⟨by omega, by omega⟩ ?_
                  intro m262 em262
                  have z263 := zfx_f z0 em262 rfl
                  have w264 : m262.1 66 ((31 : Nat) : Int) = g1 := by rw [em262]; exact (zu_nk (by decide)).trans wg1
                  have w265 : m262.1 66 ((30 : Nat) : Int) = g2 := by rw [em262]; exact (zu_nk (by decide)).trans wg2
                  have w266 : m262.1 66 ((33 : Nat) : Int) = g3 := by rw [em262]; exact (zu_nk (by decide)).trans wg3
                  have w267 : m262.1 66 ((34 : Nat) : Int) = g4 := by rw [em262]; exact (zu_nk (by decide)).trans wg4
                  have w268 : m262.1 66 ((32 : Nat) : Int) = g5 := by rw [em262]; exact (zu_nk (by decide)).trans wg5
                  have w269 : m262.1 66 ((38 : Nat) : Int) = (x261 + 1) := by rw [em262]; exact zu_at
                  refine And.intro ⟨by omega, by omega⟩ (And.intro (fun c270 => ?_) (fun c270 => ?_))
                  · refine And.intro ⟨by omega, by omega⟩ (And.intro ⟨by omega, by omega⟩ ?_)
                    intro m271 em271
                    have z272 := zfx_r z263 em271 rfl (by decide)
                    have w273 : m271.1 66 ((31 : Nat) : Int) = g1 := by rw [em271]; exact (congrFun (zu_ne (by decide)) _).trans w264
                    have w274 : m271.1 66 ((30 : Nat) : Int) = g2 := by rw [em271]; exact (congrFun (zu_ne (by decide)) _).trans w265
                    have w275 : m271.1 66 ((33 : Nat) : Int) = g3 := by rw [em271]; exact (congrFun (zu_ne (by decide)) _).trans w266
                    have w276 : m271.1 66 ((34 : Nat) : Int) = g4 := by rw [em271]; exact (congrFun (zu_ne (by decide)) _).trans w267
                    have w277 : m271.1 66 ((32 : Nat) : Int) = g5 := by rw [em271]; exact (congrFun (zu_ne (by decide)) _).trans w268
                    have w278 : m271.1 66 ((38 : Nat) : Int) = (x261 + 1) := by rw [em271]; exact (congrFun (zu_ne (by decide)) _).trans w269
                    clear w264 w265 w266 w267 w268 w269
                    refine And.intro ⟨by omega, by omega⟩ (And.intro (fun c279 => ?_) (fun c279 => ?_))
                    · refine And.intro ⟨by omega, by omega⟩ (And.intro ⟨by omega, by omega⟩ ?_)
                      intro m280 em280
                      have z281 := zfx_r z272 em280 rfl (by decide)
                      have w282 : m280.1 66 ((31 : Nat) : Int) = g1 := by rw [em280]; exact (congrFun (zu_ne (by decide)) _).trans w273
                      have w283 : m280.1 66 ((30 : Nat) : Int) = g2 := by rw [em280]; exact (congrFun (zu_ne (by decide)) _).trans w274
                      have w284 : m280.1 66 ((33 : Nat) : Int) = g3 := by rw [em280]; exact (congrFun (zu_ne (by decide)) _).trans w275
                      have w285 : m280.1 66 ((34 : Nat) : Int) = g4 := by rw [em280]; exact (congrFun (zu_ne (by decide)) _).trans w276
                      have w286 : m280.1 66 ((32 : Nat) : Int) = g5 := by rw [em280]; exact (congrFun (zu_ne (by decide)) _).trans w277
                      have w287 : m280.1 66 ((38 : Nat) : Int) = (x261 + 1) := by rw [em280]; exact (congrFun (zu_ne (by decide)) _).trans w278
                      clear w273 w274 w275 w276 w277 w278
                      refine And.intro ⟨by omega, by omega⟩ (And.intro ⟨by omega, by omega⟩ ?_)
                      intro m288 em288
                      have z289 := zfx_r z281 em288 rfl (by decide)
                      have w290 : m288.1 66 ((31 : Nat) : Int) = g1 := by rw [em288]; exact (congrFun (zu_ne (by decide)) _).trans w282
                      have w291 : m288.1 66 ((30 : Nat) : Int) = g2 := by rw [em288]; exact (congrFun (zu_ne (by decide)) _).trans w283
                      have w292 : m288.1 66 ((33 : Nat) : Int) = g3 := by rw [em288]; exact (congrFun (zu_ne (by decide)) _).trans w284
                      have w293 : m288.1 66 ((34 : Nat) : Int) = g4 := by rw [em288]; exact (congrFun (zu_ne (by decide)) _).trans w285
                      have w294 : m288.1 66 ((32 : Nat) : Int) = g5 := by rw [em288]; exact (congrFun (zu_ne (by decide)) _).trans w286
                      have w295 : m288.1 66 ((38 : Nat) : Int) = (x261 + 1) := by rw [em288]; exact (congrFun (zu_ne (by decide)) _).trans w287
                      clear w282 w283 w284 w285 w286 w287
                      refine ⟨zk_X9_pass, zm_X9_pass hg d (by omega), rfl, (by (try rw [w290]) <;> (try rw [w291]) <;> (try rw [w292]) <;> (try rw [w293]) <;> (try rw [w294]) <;> (try rw [w295]) <;> (try rw [wg1]) <;> (try rw [wg2]) <;> (try rw [wg3]) <;> (try rw [wg4]) <;> (try rw [wg5]) <;> (try rw [wg6]) <;> omega), ?_⟩
                      intro m296 qm296 p297 p298 p299 p300
                      have z301 := zfx_t z289 qm296 rfl rfl
                      have w302 : m296.1 66 ((30 : Nat) : Int) = g2 := (qm296.2.1 30 rfl).trans w291
                      have w303 : m296.1 66 ((38 : Nat) : Int) = (x261 + 1) := (qm296.2.1 38 rfl).trans w295
                      obtain ⟨g304, wg304⟩ : ∃ z : Int, m296.1 66 ((31 : Nat) : Int) = z := ⟨_, rfl⟩
                      obtain ⟨g305, wg305⟩ : ∃ z : Int, m296.1 66 ((33 : Nat) : Int) = z := ⟨_, rfl⟩
                      obtain ⟨g306, wg306⟩ : ∃ z : Int, m296.1 66 ((34 : Nat) : Int) = z := ⟨_, rfl⟩
                      obtain ⟨g307, wg307⟩ : ∃ z : Int, m296.1 66 ((32 : Nat) : Int) = z := ⟨_, rfl⟩
                      try rw [wg304] at p297
                      try rw [w302] at p297
                      try rw [wg305] at p297
                      try rw [wg306] at p297
                      try rw [wg307] at p297
                      try rw [w303] at p297
                      try rw [w290] at p297
                      try rw [w291] at p297
                      try rw [w292] at p297
                      try rw [w293] at p297
                      try rw [w294] at p297
                      try rw [w295] at p297
                      try rw [wg1] at p297
                      try rw [wg2] at p297
                      try rw [wg3] at p297
                      try rw [wg4] at p297
                      try rw [wg5] at p297
                      try rw [wg6] at p297
                      try rw [wg304] at p298
                      try rw [w302] at p298
                      try rw [wg305] at p298
                      try rw [wg306] at p298
                      try rw [wg307] at p298
                      try rw [w303] at p298
                      try rw [w290] at p298
                      try rw [w291] at p298
                      try rw [w292] at p298
                      try rw [w293] at p298
                      try rw [w294] at p298
                      try rw [w295] at p298
                      try rw [wg1] at p298
                      try rw [wg2] at p298
                      try rw [wg3] at p298
                      try rw [wg4] at p298
                      try rw [wg5] at p298
                      try rw [wg6] at p298
                      try rw [wg304] at p299
                      try rw [w302] at p299
                      try rw [wg305] at p299
                      try rw [wg306] at p299
                      try rw [wg307] at p299
                      try rw [w303] at p299
                      try rw [w290] at p299
                      try rw [w291] at p299
                      try rw [w292] at p299
                      try rw [w293] at p299
                      try rw [w294] at p299
                      try rw [w295] at p299
                      try rw [wg1] at p299
                      try rw [wg2] at p299
                      try rw [wg3] at p299
                      try rw [wg4] at p299
                      try rw [wg5] at p299
                      try rw [wg6] at p299
                      try rw [wg304] at p300
                      try rw [w302] at p300
                      try rw [wg305] at p300
                      try rw [wg306] at p300
                      try rw [wg307] at p300
                      try rw [w303] at p300
                      try rw [w290] at p300
                      try rw [w291] at p300
                      try rw [w292] at p300
                      try rw [w293] at p300
                      try rw [w294] at p300
                      try rw [w295] at p300
                      try rw [wg1] at p300
                      try rw [wg2] at p300
                      try rw [wg3] at p300
                      try rw [wg4] at p300
                      try rw [wg5] at p300
                      try rw [wg6] at p300
                      clear w290 w291 w292 w293 w294 w295
                      have R100 : ∀ q : Int, m296.1 100 q = if q = a3 then 0 else μ.1 100 q := fun q => by rw [qm296.1 100 (by decide) rfl, em288, zu_ne (by decide), em280, zu_ne (by decide), em271]; by_cases hq : q = a3 <;> first | (rw [if_pos hq, hq]; exact zu_at) | (rw [if_neg hq, zu_nk hq, em262, zu_ne (by decide)])
                      have R101 : ∀ q : Int, m296.1 101 q = if q = a3 then x234 else μ.1 101 q := fun q => by rw [qm296.1 101 (by decide) rfl, em288, zu_ne (by decide), em280]; by_cases hq : q = a3 <;> first | (rw [if_pos hq, hq]; exact zu_at) | (rw [if_neg hq, zu_nk hq, em271, zu_ne (by decide), em262, zu_ne (by decide)])
                      have R102 : ∀ q : Int, m296.1 102 q = if q = a3 then 0 else μ.1 102 q := fun q => by rw [qm296.1 102 (by decide) rfl, em288]; by_cases hq : q = a3 <;> first | (rw [if_pos hq, hq]; exact zu_at) | (rw [if_neg hq, zu_nk hq, em280, zu_ne (by decide), em271, zu_ne (by decide), em262, zu_ne (by decide)])
                      exact And.intro (zrtb (by omega)) (And.intro ⟨by omega, by omega⟩ (hQ _ _ z301 (by omega) (by omega) (by (try rw [wg304]) <;> (try rw [w302]) <;> (try rw [wg305]) <;> (try rw [wg306]) <;> (try rw [wg307]) <;> (try rw [w303]) <;> (try rw [wg1]) <;> (try rw [wg2]) <;> (try rw [wg3]) <;> (try rw [wg4]) <;> (try rw [wg5]) <;> (try rw [wg6]) <;> omega) (by (try rw [wg304]) <;> (try rw [w302]) <;> (try rw [wg305]) <;> (try rw [wg306]) <;> (try rw [wg307]) <;> (try rw [w303]) <;> (try rw [wg1]) <;> (try rw [wg2]) <;> (try rw [wg3]) <;> (try rw [wg4]) <;> (try rw [wg5]) <;> (try rw [wg6]) <;> omega) (by (try rw [wg304]) <;> (try rw [w302]) <;> (try rw [wg305]) <;> (try rw [wg306]) <;> (try rw [wg307]) <;> (try rw [w303]) <;> (try rw [wg1]) <;> (try rw [wg2]) <;> (try rw [wg3]) <;> (try rw [wg4]) <;> (try rw [wg5]) <;> (try rw [wg6]) <;> omega) (fun _ => by rw [R102, R100, R101, if_pos rfl, if_pos rfl, if_pos rfl]; omega) (fun q hq => ⟨by rw [R100, if_neg hq], by rw [R101, if_neg hq], by rw [R102, if_neg hq]⟩) (fun _ => by rw [R100, R101, if_pos rfl, if_pos rfl]; exact ⟨fun h => by exfalso; omega, fun h => by omega⟩) (fun _ _ => by rw [R100, R101, if_pos rfl, if_pos rfl]; exact ⟨fun h => by omega, fun h => by omega, by omega⟩)))
                    · exfalso; omega
                  · exfalso; omega
                · refine And.intro ⟨by omega, by omega⟩ (And.intro (fun c308 => ?_) (fun c308 => ?_))
                  · refine And.intro ⟨⟨by omega, by omega⟩, ⟨by omega, by omega⟩⟩ (And.intro (fun c309 => ?_) (fun c309 => ?_))
                    · intro x310 hx310 kx310 lx310
                      rw [wg6] at hx310
                      refine And.intro ⟨by omega, by omega⟩ ?_
                      intro m311 em311
                      have z312 := zfx_f z0 em311 rfl
                      have w313 : m311.1 66 ((31 : Nat) : Int) = g1 := by rw [em311]; exact (zu_nk (by decide)).trans wg1
                      have w314 : m311.1 66 ((30 : Nat) : Int) = g2 := by rw [em311]; exact (zu_nk (by decide)).trans wg2
                      have w315 : m311.1 66 ((33 : Nat) : Int) = g3 := by rw [em311]; exact (zu_nk (by decide)).trans wg3
                      have w316 : m311.1 66 ((34 : Nat) : Int) = g4 := by rw [em311]; exact (zu_nk (by decide)).trans wg4
                      have w317 : m311.1 66 ((32 : Nat) : Int) = g5 := by rw [em311]; exact (zu_nk (by decide)).trans wg5
                      have w318 : m311.1 66 ((38 : Nat) : Int) = (x310 + 1) := by rw [em311]; exact zu_at
                      refine And.intro ⟨by omega, by omega⟩ (And.intro (fun c319 => ?_) (fun c319 => ?_))
                      · refine And.intro ⟨by omega, by omega⟩ (And.intro ⟨by omega, by omega⟩ ?_)
                        intro m320 em320
                        have z321 := zfx_r z312 em320 rfl (by decide)
                        have w322 : m320.1 66 ((31 : Nat) : Int) = g1 := by rw [em320]; exact (congrFun (zu_ne (by decide)) _).trans w313
                        have w323 : m320.1 66 ((30 : Nat) : Int) = g2 := by rw [em320]; exact (congrFun (zu_ne (by decide)) _).trans w314
                        have w324 : m320.1 66 ((33 : Nat) : Int) = g3 := by rw [em320]; exact (congrFun (zu_ne (by decide)) _).trans w315
                        have w325 : m320.1 66 ((34 : Nat) : Int) = g4 := by rw [em320]; exact (congrFun (zu_ne (by decide)) _).trans w316
                        have w326 : m320.1 66 ((32 : Nat) : Int) = g5 := by rw [em320]; exact (congrFun (zu_ne (by decide)) _).trans w317
                        have w327 : m320.1 66 ((38 : Nat) : Int) = (x310 + 1) := by rw [em320]; exact (congrFun (zu_ne (by decide)) _).trans w318
                        clear w313 w314 w315 w316 w317 w318
                        refine And.intro ⟨by omega, by omega⟩ (And.intro (fun c328 => ?_) (fun c328 => ?_))
                        · refine And.intro ⟨by omega, by omega⟩ (And.intro ⟨by omega, by omega⟩ ?_)
                          intro m329 em329
                          have z330 := zfx_r z321 em329 rfl (by decide)
                          have w331 : m329.1 66 ((31 : Nat) : Int) = g1 := by rw [em329]; exact (congrFun (zu_ne (by decide)) _).trans w322
                          have w332 : m329.1 66 ((30 : Nat) : Int) = g2 := by rw [em329]; exact (congrFun (zu_ne (by decide)) _).trans w323
                          have w333 : m329.1 66 ((33 : Nat) : Int) = g3 := by rw [em329]; exact (congrFun (zu_ne (by decide)) _).trans w324
                          have w334 : m329.1 66 ((34 : Nat) : Int) = g4 := by rw [em329]; exact (congrFun (zu_ne (by decide)) _).trans w325
                          have w335 : m329.1 66 ((32 : Nat) : Int) = g5 := by rw [em329]; exact (congrFun (zu_ne (by decide)) _).trans w326
                          have w336 : m329.1 66 ((38 : Nat) : Int) = (x310 + 1) := by rw [em329]; exact (congrFun (zu_ne (by decide)) _).trans w327
                          clear w322 w323 w324 w325 w326 w327
                          refine And.intro ⟨by omega, by omega⟩ (And.intro ⟨by omega, by omega⟩ ?_)
                          intro m337 em337
                          have z338 := zfx_r z330 em337 rfl (by decide)
                          have w339 : m337.1 66 ((31 : Nat) : Int) = g1 := by rw [em337]; exact (congrFun (zu_ne (by decide)) _).trans w331
                          have w340 : m337.1 66 ((30 : Nat) : Int) = g2 := by rw [em337]; exact (congrFun (zu_ne (by decide)) _).trans w332
                          have w341 : m337.1 66 ((33 : Nat) : Int) = g3 := by rw [em337]; exact (congrFun (zu_ne (by decide)) _).trans w333
                          have w342 : m337.1 66 ((34 : Nat) : Int) = g4 := by rw [em337]; exact (congrFun (zu_ne (by decide)) _).trans w334
                          have w343 : m337.1 66 ((32 : Nat) : Int) = g5 := by rw [em337]; exact (congrFun (zu_ne (by decide)) _).trans w335
                          have w344 : m337.1 66 ((38 : Nat) : Int) = (x310 + 1) := by rw [em337]; exact (congrFun (zu_ne (by decide)) _).trans w336
                          clear w331 w332 w333 w334 w335 w336
                          refine ⟨zk_X9_pass, zm_X9_pass hg d (by omega), rfl, (by (try rw [w339]) <;> (try rw [w340]) <;> (try rw [w341]) <;> (try rw [w342]) <;> (try rw [w343]) <;> (try rw [w344]) <;> (try rw [wg1]) <;> (try rw [wg2]) <;> (try rw [wg3]) <;> (try rw [wg4]) <;> (try rw [wg5]) <;> (try rw [wg6]) <;> omega), ?_⟩
                          intro m345 qm345 p346 p347 p348 p349
                          have z350 := zfx_t z338 qm345 rfl rfl
                          have w351 : m345.1 66 ((30 : Nat) : Int) = g2 := (qm345.2.1 30 rfl).trans w340
                          have w352 : m345.1 66 ((38 : Nat) : Int) = (x310 + 1) := (qm345.2.1 38 rfl).trans w344
                          obtain ⟨g353, wg353⟩ : ∃ z : Int, m345.1 66 ((31 : Nat) : Int) = z := ⟨_, rfl⟩
                          obtain ⟨g354, wg354⟩ : ∃ z : Int, m345.1 66 ((33 : Nat) : Int) = z := ⟨_, rfl⟩
                          obtain ⟨g355, wg355⟩ : ∃ z : Int, m345.1 66 ((34 : Nat) : Int) = z := ⟨_, rfl⟩
                          obtain ⟨g356, wg356⟩ : ∃ z : Int, m345.1 66 ((32 : Nat) : Int) = z := ⟨_, rfl⟩
                          try rw [wg353] at p346
                          try rw [w351] at p346
                          try rw [wg354] at p346
                          try rw [wg355] at p346
                          try rw [wg356] at p346
                          try rw [w352] at p346
                          try rw [w339] at p346
                          try rw [w340] at p346
                          try rw [w341] at p346
                          try rw [w342] at p346
                          try rw [w343] at p346
                          try rw [w344] at p346
                          try rw [wg1] at p346
                          try rw [wg2] at p346
                          try rw [wg3] at p346
                          try rw [wg4] at p346
                          try rw [wg5] at p346
                          try rw [wg6] at p346
                          try rw [wg353] at p347
                          try rw [w351] at p347
                          try rw [wg354] at p347
                          try rw [wg355] at p347
                          try rw [wg356] at p347
                          try rw [w352] at p347
                          try rw [w339] at p347
                          try rw [w340] at p347
                          try rw [w341] at p347
                          try rw [w342] at p347
                          try rw [w343] at p347
                          try rw [w344] at p347
                          try rw [wg1] at p347
                          try rw [wg2] at p347
                          try rw [wg3] at p347
                          try rw [wg4] at p347
                          try rw [wg5] at p347
                          try rw [wg6] at p347
                          try rw [wg353] at p348
                          try rw [w351] at p348
                          try rw [wg354] at p348
                          try rw [wg355] at p348
                          try rw [wg356] at p348
                          try rw [w352] at p348
                          try rw [w339] at p348
                          try rw [w340] at p348
                          try rw [w341] at p348
                          try rw [w342] at p348
                          try rw [w343] at p348
                          try rw [w344] at p348
                          try rw [wg1] at p348
                          try rw [wg2] at p348
                          try rw [wg3] at p348
                          try rw [wg4] at p348
                          try rw [wg5] at p348
                          try rw [wg6] at p348
                          try rw [wg353] at p349
                          try rw [w351] at p349
                          try rw [wg354] at p349
                          try rw [wg355] at p349
                          try rw [wg356] at p349
                          try rw [w352] at p349
                          try rw [w339] at p349
                          try rw [w340] at p349
                          try rw [w341] at p349
                          try rw [w342] at p349
                          try rw [w343] at p349
                          try rw [w344] at p349
                          try rw [wg1] at p349
                          try rw [wg2] at p349
                          try rw [wg3] at p349
                          try rw [wg4] at p349
                          try rw [wg5] at p349
                          try rw [wg6] at p349
                          clear w339 w340 w341 w342 w343 w344
                          have R100 : ∀ q : Int, m345.1 100 q = if q = a3 then 0 else μ.1 100 q := fun q => by rw [qm345.1 100 (by decide) rfl, em337, zu_ne (by decide), em329, zu_ne (by decide), em320]; by_cases hq : q = a3 <;> first | (rw [if_pos hq, hq]; exact zu_at) | (rw [if_neg hq, zu_nk hq, em311, zu_ne (by decide)])
                          have R101 : ∀ q : Int, m345.1 101 q = if q = a3 then x234 else μ.1 101 q := fun q => by rw [qm345.1 101 (by decide) rfl, em337, zu_ne (by decide), em329]; by_cases hq : q = a3 <;> first | (rw [if_pos hq, hq]; exact zu_at) | (rw [if_neg hq, zu_nk hq, em320, zu_ne (by decide), em311, zu_ne (by decide)])
                          have R102 : ∀ q : Int, m345.1 102 q = if q = a3 then 0 else μ.1 102 q := fun q => by rw [qm345.1 102 (by decide) rfl, em337]; by_cases hq : q = a3 <;> first | (rw [if_pos hq, hq]; exact zu_at) | (rw [if_neg hq, zu_nk hq, em329, zu_ne (by decide), em320, zu_ne (by decide), em311, zu_ne (by decide)])
                          exact And.intro (zrtb (by omega)) (And.intro ⟨by omega, by omega⟩ (hQ _ _ z350 (by omega) (by omega) (by (try rw [wg353]) <;> (try rw [w351]) <;> (try rw [wg354]) <;> (try rw [wg355]) <;> (try rw [wg356]) <;> (try rw [w352]) <;> (try rw [wg1]) <;> (try rw [wg2]) <;> (try rw [wg3]) <;> (try rw [wg4]) <;> (try rw [wg5]) <;> (try rw [wg6]) <;> omega) (by (try rw [wg353]) <;> (try rw [w351]) <;> (try rw [wg354]) <;> (try rw [wg355]) <;> (try rw [wg356]) <;> (try rw [w352]) <;> (try rw [wg1]) <;> (try rw [wg2]) <;> (try rw [wg3]) <;> (try rw [wg4]) <;> (try rw [wg5]) <;> (try rw [wg6]) <;> omega) (by (try rw [wg353]) <;> (try rw [w351]) <;> (try rw [wg354]) <;> (try rw [wg355]) <;> (try rw [wg356]) <;> (try rw [w352]) <;> (try rw [wg1]) <;> (try rw [wg2]) <;> (try rw [wg3]) <;> (try rw [wg4]) <;> (try rw [wg5]) <;> (try rw [wg6]) <;> omega) (fun _ => by rw [R102, R100, R101, if_pos rfl, if_pos rfl, if_pos rfl]; omega) (fun q hq => ⟨by rw [R100, if_neg hq], by rw [R101, if_neg hq], by rw [R102, if_neg hq]⟩) (fun _ => by rw [R100, R101, if_pos rfl, if_pos rfl]; exact ⟨fun h => by exfalso; omega, fun h => by omega⟩) (fun _ _ => by rw [R100, R101, if_pos rfl, if_pos rfl]; exact ⟨fun h => by omega, fun h => by omega, by omega⟩)))
                        · exfalso; omega
                      · exfalso; omega
                    · refine And.intro ⟨by omega, by omega⟩ (And.intro (fun c357 => ?_) (fun c357 => ?_))
                      · exfalso; omega
                      · refine And.intro ⟨⟨by omega, by omega⟩, ⟨by omega, by omega⟩⟩ (And.intro (fun c358 => ?_) (fun c358 => ?_))
                        · intro x359 hx359 kx359 lx359
                          rw [wg6] at hx359
                          refine And.intro ⟨by omega, by omega⟩ ?_
                          intro m360 em360
                          have z361 := zfx_f z0 em360 rfl
                          have w362 : m360.1 66 ((31 : Nat) : Int) = g1 := by rw [em360]; exact (zu_nk (by decide)).trans wg1
                          have w363 : m360.1 66 ((30 : Nat) : Int) = g2 := by rw [em360]; exact (zu_nk (by decide)).trans wg2
                          have w364 : m360.1 66 ((33 : Nat) : Int) = g3 := by rw [em360]; exact (zu_nk (by decide)).trans wg3
                          have w365 : m360.1 66 ((34 : Nat) : Int) = g4 := by rw [em360]; exact (zu_nk (by decide)).trans wg4
                          have w366 : m360.1 66 ((32 : Nat) : Int) = g5 := by rw [em360]; exact (zu_nk (by decide)).trans wg5
                          have w367 : m360.1 66 ((38 : Nat) : Int) = (x359 + 1) := by rw [em360]; exact zu_at
                          refine And.intro ⟨by omega, by omega⟩ (And.intro (fun c368 => ?_) (fun c368 => ?_))
                          · refine And.intro ⟨by omega, by omega⟩ (And.intro ⟨by omega, by omega⟩ ?_)
                            intro m369 em369
                            have z370 := zfx_r z361 em369 rfl (by decide)
                            have w371 : m369.1 66 ((31 : Nat) : Int) = g1 := by rw [em369]; exact (congrFun (zu_ne (by decide)) _).trans w362
                            have w372 : m369.1 66 ((30 : Nat) : Int) = g2 := by rw [em369]; exact (congrFun (zu_ne (by decide)) _).trans w363
                            have w373 : m369.1 66 ((33 : Nat) : Int) = g3 := by rw [em369]; exact (congrFun (zu_ne (by decide)) _).trans w364
                            have w374 : m369.1 66 ((34 : Nat) : Int) = g4 := by rw [em369]; exact (congrFun (zu_ne (by decide)) _).trans w365
                            have w375 : m369.1 66 ((32 : Nat) : Int) = g5 := by rw [em369]; exact (congrFun (zu_ne (by decide)) _).trans w366
                            have w376 : m369.1 66 ((38 : Nat) : Int) = (x359 + 1) := by rw [em369]; exact (congrFun (zu_ne (by decide)) _).trans w367
                            clear w362 w363 w364 w365 w366 w367
                            refine And.intro ⟨by omega, by omega⟩ (And.intro (fun c377 => ?_) (fun c377 => ?_))
                            · refine And.intro ⟨by omega, by omega⟩ (And.intro ⟨by omega, by omega⟩ ?_)
                              intro m378 em378
                              have z379 := zfx_r z370 em378 rfl (by decide)
                              have w380 : m378.1 66 ((31 : Nat) : Int) = g1 := by rw [em378]; exact (congrFun (zu_ne (by decide)) _).trans w371
                              have w381 : m378.1 66 ((30 : Nat) : Int) = g2 := by rw [em378]; exact (congrFun (zu_ne (by decide)) _).trans w372
                              have w382 : m378.1 66 ((33 : Nat) : Int) = g3 := by rw [em378]; exact (congrFun (zu_ne (by decide)) _).trans w373
                              have w383 : m378.1 66 ((34 : Nat) : Int) = g4 := by rw [em378]; exact (congrFun (zu_ne (by decide)) _).trans w374
                              have w384 : m378.1 66 ((32 : Nat) : Int) = g5 := by rw [em378]; exact (congrFun (zu_ne (by decide)) _).trans w375
                              have w385 : m378.1 66 ((38 : Nat) : Int) = (x359 + 1) := by rw [em378]; exact (congrFun (zu_ne (by decide)) _).trans w376
                              clear w371 w372 w373 w374 w375 w376
                              refine And.intro ⟨by omega, by omega⟩ (And.intro ⟨by omega, by omega⟩ ?_)
                              intro m386 em386
                              have z387 := zfx_r z379 em386 rfl (by decide)
                              have w388 : m386.1 66 ((31 : Nat) : Int) = g1 := by rw [em386]; exact (congrFun (zu_ne (by decide)) _).trans w380
                              have w389 : m386.1 66 ((30 : Nat) : Int) = g2 := by rw [em386]; exact (congrFun (zu_ne (by decide)) _).trans w381
                              have w390 : m386.1 66 ((33 : Nat) : Int) = g3 := by rw [em386]; exact (congrFun (zu_ne (by decide)) _).trans w382
                              have w391 : m386.1 66 ((34 : Nat) : Int) = g4 := by rw [em386]; exact (congrFun (zu_ne (by decide)) _).trans w383
                              have w392 : m386.1 66 ((32 : Nat) : Int) = g5 := by rw [em386]; exact (congrFun (zu_ne (by decide)) _).trans w384
                              have w393 : m386.1 66 ((38 : Nat) : Int) = (x359 + 1) := by rw [em386]; exact (congrFun (zu_ne (by decide)) _).trans w385
                              clear w380 w381 w382 w383 w384 w385
                              refine ⟨zk_X9_pass, zm_X9_pass hg d (by omega), rfl, (by (try rw [w388]) <;> (try rw [w389]) <;> (try rw [w390]) <;> (try rw [w391]) <;> (try rw [w392]) <;> (try rw [w393]) <;> (try rw [wg1]) <;> (try rw [wg2]) <;> (try rw [wg3]) <;> (try rw [wg4]) <;> (try rw [wg5]) <;> (try rw [wg6]) <;> omega), ?_⟩
                              intro m394 qm394 p395 p396 p397 p398
                              have z399 := zfx_t z387 qm394 rfl rfl
                              have w400 : m394.1 66 ((30 : Nat) : Int) = g2 := (qm394.2.1 30 rfl).trans w389
                              have w401 : m394.1 66 ((38 : Nat) : Int) = (x359 + 1) := (qm394.2.1 38 rfl).trans w393
                              obtain ⟨g402, wg402⟩ : ∃ z : Int, m394.1 66 ((31 : Nat) : Int) = z := ⟨_, rfl⟩
                              obtain ⟨g403, wg403⟩ : ∃ z : Int, m394.1 66 ((33 : Nat) : Int) = z := ⟨_, rfl⟩
                              obtain ⟨g404, wg404⟩ : ∃ z : Int, m394.1 66 ((34 : Nat) : Int) = z := ⟨_, rfl⟩
                              obtain ⟨g405, wg405⟩ : ∃ z : Int, m394.1 66 ((32 : Nat) : Int) = z := ⟨_, rfl⟩
                              try rw [wg402] at p395
                              try rw [w400] at p395
                              try rw [wg403] at p395
                              try rw [wg404] at p395
                              try rw [wg405] at p395
                              try rw [w401] at p395
                              try rw [w388] at p395
                              try rw [w389] at p395
                              try rw [w390] at p395
                              try rw [w391] at p395
                              try rw [w392] at p395
                              try rw [w393] at p395
                              try rw [wg1] at p395
                              try rw [wg2] at p395
                              try rw [wg3] at p395
                              try rw [wg4] at p395
                              try rw [wg5] at p395
                              try rw [wg6] at p395
                              try rw [wg402] at p396
                              try rw [w400] at p396
                              try rw [wg403] at p396
                              try rw [wg404] at p396
                              try rw [wg405] at p396
                              try rw [w401] at p396
                              try rw [w388] at p396
                              try rw [w389] at p396
                              try rw [w390] at p396
                              try rw [w391] at p396
                              try rw [w392] at p396
                              try rw [w393] at p396
                              try rw [wg1] at p396
                              try rw [wg2] at p396
                              try rw [wg3] at p396
                              try rw [wg4] at p396
                              try rw [wg5] at p396
                              try rw [wg6] at p396
                              try rw [wg402] at p397
                              try rw [w400] at p397
                              try rw [wg403] at p397
                              try rw [wg404] at p397
                              try rw [wg405] at p397
                              try rw [w401] at p397
                              try rw [w388] at p397
                              try rw [w389] at p397
                              try rw [w390] at p397
                              try rw [w391] at p397
                              try rw [w392] at p397
                              try rw [w393] at p397
                              try rw [wg1] at p397
                              try rw [wg2] at p397
                              try rw [wg3] at p397
                              try rw [wg4] at p397
                              try rw [wg5] at p397
                              try rw [wg6] at p397
                              try rw [wg402] at p398
                              try rw [w400] at p398
                              try rw [wg403] at p398
                              try rw [wg404] at p398
                              try rw [wg405] at p398
                              try rw [w401] at p398
                              try rw [w388] at p398
                              try rw [w389] at p398
                              try rw [w390] at p398
                              try rw [w391] at p398
                              try rw [w392] at p398
                              try rw [w393] at p398
                              try rw [wg1] at p398
                              try rw [wg2] at p398
                              try rw [wg3] at p398
                              try rw [wg4] at p398
                              try rw [wg5] at p398
                              try rw [wg6] at p398
                              clear w388 w389 w390 w391 w392 w393
                              have R100 : ∀ q : Int, m394.1 100 q = if q = a3 then 0 else μ.1 100 q := fun q => by rw [qm394.1 100 (by decide) rfl, em386, zu_ne (by decide), em378, zu_ne (by decide), em369]; by_cases hq : q = a3 <;> first | (rw [if_pos hq, hq]; exact zu_at) | (rw [if_neg hq, zu_nk hq, em360, zu_ne (by decide)])
                              have R101 : ∀ q : Int, m394.1 101 q = if q = a3 then x234 else μ.1 101 q := fun q => by rw [qm394.1 101 (by decide) rfl, em386, zu_ne (by decide), em378]; by_cases hq : q = a3 <;> first | (rw [if_pos hq, hq]; exact zu_at) | (rw [if_neg hq, zu_nk hq, em369, zu_ne (by decide), em360, zu_ne (by decide)])
                              have R102 : ∀ q : Int, m394.1 102 q = if q = a3 then 0 else μ.1 102 q := fun q => by rw [qm394.1 102 (by decide) rfl, em386]; by_cases hq : q = a3 <;> first | (rw [if_pos hq, hq]; exact zu_at) | (rw [if_neg hq, zu_nk hq, em378, zu_ne (by decide), em369, zu_ne (by decide), em360, zu_ne (by decide)])
                              exact And.intro (zrtb (by omega)) (And.intro ⟨by omega, by omega⟩ (hQ _ _ z399 (by omega) (by omega) (by (try rw [wg402]) <;> (try rw [w400]) <;> (try rw [wg403]) <;> (try rw [wg404]) <;> (try rw [wg405]) <;> (try rw [w401]) <;> (try rw [wg1]) <;> (try rw [wg2]) <;> (try rw [wg3]) <;> (try rw [wg4]) <;> (try rw [wg5]) <;> (try rw [wg6]) <;> omega) (by (try rw [wg402]) <;> (try rw [w400]) <;> (try rw [wg403]) <;> (try rw [wg404]) <;> (try rw [wg405]) <;> (try rw [w401]) <;> (try rw [wg1]) <;> (try rw [wg2]) <;> (try rw [wg3]) <;> (try rw [wg4]) <;> (try rw [wg5]) <;> (try rw [wg6]) <;> omega) (by (try rw [wg402]) <;> (try rw [w400]) <;> (try rw [wg403]) <;> (try rw [wg404]) <;> (try rw [wg405]) <;> (try rw [w401]) <;> (try rw [wg1]) <;> (try rw [wg2]) <;> (try rw [wg3]) <;> (try rw [wg4]) <;> (try rw [wg5]) <;> (try rw [wg6]) <;> omega) (fun _ => by rw [R102, R100, R101, if_pos rfl, if_pos rfl, if_pos rfl]; omega) (fun q hq => ⟨by rw [R100, if_neg hq], by rw [R101, if_neg hq], by rw [R102, if_neg hq]⟩) (fun _ => by rw [R100, R101, if_pos rfl, if_pos rfl]; exact ⟨fun h => by exfalso; omega, fun h => by omega⟩) (fun _ _ => by rw [R100, R101, if_pos rfl, if_pos rfl]; exact ⟨fun h => by omega, fun h => by omega, by omega⟩)))
                            · exfalso; omega
                          · exfalso; omega
                        · refine ⟨zk_X9_fail, zm_X9_fail hg d (by omega), _, rfl, ⟨by omega, by omega⟩, ?_⟩
                          intro x406 m407 qm407 kx406 lx406
                          have z408 := zfx_t z0 qm407 rfl rfl
                          have w409 : m407.1 66 ((31 : Nat) : Int) = g1 := (qm407.2.1 31 rfl).trans wg1
                          have w410 : m407.1 66 ((30 : Nat) : Int) = g2 := (qm407.2.1 30 rfl).trans wg2
                          have w411 : m407.1 66 ((33 : Nat) : Int) = g3 := (qm407.2.1 33 rfl).trans wg3
                          have w412 : m407.1 66 ((34 : Nat) : Int) = g4 := (qm407.2.1 34 rfl).trans wg4
                          have w413 : m407.1 66 ((32 : Nat) : Int) = g5 := (qm407.2.1 32 rfl).trans wg5
                          have w414 : m407.1 66 ((38 : Nat) : Int) = g6 := (qm407.2.1 38 rfl).trans wg6
                          exact And.intro (zrtb (by omega)) (And.intro ⟨by omega, by omega⟩ (hQ _ _ z408 (by omega) (by omega) (by (try rw [w409]) <;> (try rw [w410]) <;> (try rw [w411]) <;> (try rw [w412]) <;> (try rw [w413]) <;> (try rw [w414]) <;> (try rw [wg1]) <;> (try rw [wg2]) <;> (try rw [wg3]) <;> (try rw [wg4]) <;> (try rw [wg5]) <;> (try rw [wg6]) <;> omega) (by (try rw [w409]) <;> (try rw [w410]) <;> (try rw [w411]) <;> (try rw [w412]) <;> (try rw [w413]) <;> (try rw [w414]) <;> (try rw [wg1]) <;> (try rw [wg2]) <;> (try rw [wg3]) <;> (try rw [wg4]) <;> (try rw [wg5]) <;> (try rw [wg6]) <;> omega) (by (try rw [w409]) <;> (try rw [w410]) <;> (try rw [w411]) <;> (try rw [w412]) <;> (try rw [w413]) <;> (try rw [w414]) <;> (try rw [wg1]) <;> (try rw [wg2]) <;> (try rw [wg3]) <;> (try rw [wg4]) <;> (try rw [wg5]) <;> (try rw [wg6]) <;> omega) (fun h => by omega) (fun q _ => ⟨by rw [qm407.1 100 (by decide) rfl], by rw [qm407.1 101 (by decide) rfl], by rw [qm407.1 102 (by decide) rfl]⟩) (fun h => by omega) (fun h _ => by omega)))
                  · refine And.intro ⟨by omega, by omega⟩ (And.intro (fun c415 => ?_) (fun c415 => ?_))
                    · exfalso; omega
                    · refine And.intro ⟨⟨by omega, by omega⟩, ⟨by omega, by omega⟩⟩ (And.intro (fun c416 => ?_) (fun c416 => ?_))
                      · intro x417 hx417 kx417 lx417
                        rw [wg6] at hx417
                        refine And.intro ⟨by omega, by omega⟩ ?_
                        intro m418 em418
                        have z419 := zfx_f z0 em418 rfl
                        have w420 : m418.1 66 ((31 : Nat) : Int) = g1 := by rw [em418]; exact (zu_nk (by decide)).trans wg1
                        have w421 : m418.1 66 ((30 : Nat) : Int) = g2 := by rw [em418]; exact (zu_nk (by decide)).trans wg2
                        have w422 : m418.1 66 ((33 : Nat) : Int) = g3 := by rw [em418]; exact (zu_nk (by decide)).trans wg3
                        have w423 : m418.1 66 ((34 : Nat) : Int) = g4 := by rw [em418]; exact (zu_nk (by decide)).trans wg4
                        have w424 : m418.1 66 ((32 : Nat) : Int) = g5 := by rw [em418]; exact (zu_nk (by decide)).trans wg5
                        have w425 : m418.1 66 ((38 : Nat) : Int) = (x417 + 1) := by rw [em418]; exact zu_at
                        refine And.intro ⟨by omega, by omega⟩ (And.intro (fun c426 => ?_) (fun c426 => ?_))
                        · refine And.intro ⟨by omega, by omega⟩ (And.intro ⟨by omega, by omega⟩ ?_)
                          intro m427 em427
                          have z428 := zfx_r z419 em427 rfl (by decide)
                          have w429 : m427.1 66 ((31 : Nat) : Int) = g1 := by rw [em427]; exact (congrFun (zu_ne (by decide)) _).trans w420
                          have w430 : m427.1 66 ((30 : Nat) : Int) = g2 := by rw [em427]; exact (congrFun (zu_ne (by decide)) _).trans w421
                          have w431 : m427.1 66 ((33 : Nat) : Int) = g3 := by rw [em427]; exact (congrFun (zu_ne (by decide)) _).trans w422
                          have w432 : m427.1 66 ((34 : Nat) : Int) = g4 := by rw [em427]; exact (congrFun (zu_ne (by decide)) _).trans w423
                          have w433 : m427.1 66 ((32 : Nat) : Int) = g5 := by rw [em427]; exact (congrFun (zu_ne (by decide)) _).trans w424
                          have w434 : m427.1 66 ((38 : Nat) : Int) = (x417 + 1) := by rw [em427]; exact (congrFun (zu_ne (by decide)) _).trans w425
                          clear w420 w421 w422 w423 w424 w425
                          refine And.intro ⟨by omega, by omega⟩ (And.intro (fun c435 => ?_) (fun c435 => ?_))
                          · refine And.intro ⟨by omega, by omega⟩ (And.intro ⟨by omega, by omega⟩ ?_)
                            intro m436 em436
                            have z437 := zfx_r z428 em436 rfl (by decide)
                            have w438 : m436.1 66 ((31 : Nat) : Int) = g1 := by rw [em436]; exact (congrFun (zu_ne (by decide)) _).trans w429
                            have w439 : m436.1 66 ((30 : Nat) : Int) = g2 := by rw [em436]; exact (congrFun (zu_ne (by decide)) _).trans w430
                            have w440 : m436.1 66 ((33 : Nat) : Int) = g3 := by rw [em436]; exact (congrFun (zu_ne (by decide)) _).trans w431
                            have w441 : m436.1 66 ((34 : Nat) : Int) = g4 := by rw [em436]; exact (congrFun (zu_ne (by decide)) _).trans w432
                            have w442 : m436.1 66 ((32 : Nat) : Int) = g5 := by rw [em436]; exact (congrFun (zu_ne (by decide)) _).trans w433
                            have w443 : m436.1 66 ((38 : Nat) : Int) = (x417 + 1) := by rw [em436]; exact (congrFun (zu_ne (by decide)) _).trans w434
                            clear w429 w430 w431 w432 w433 w434
                            refine And.intro ⟨by omega, by omega⟩ (And.intro ⟨by omega, by omega⟩ ?_)
                            intro m444 em444
                            have z445 := zfx_r z437 em444 rfl (by decide)
                            have w446 : m444.1 66 ((31 : Nat) : Int) = g1 := by rw [em444]; exact (congrFun (zu_ne (by decide)) _).trans w438
                            have w447 : m444.1 66 ((30 : Nat) : Int) = g2 := by rw [em444]; exact (congrFun (zu_ne (by decide)) _).trans w439
                            have w448 : m444.1 66 ((33 : Nat) : Int) = g3 := by rw [em444]; exact (congrFun (zu_ne (by decide)) _).trans w440
                            have w449 : m444.1 66 ((34 : Nat) : Int) = g4 := by rw [em444]; exact (congrFun (zu_ne (by decide)) _).trans w441
                            have w450 : m444.1 66 ((32 : Nat) : Int) = g5 := by rw [em444]; exact (congrFun (zu_ne (by decide)) _).trans w442
                            have w451 : m444.1 66 ((38 : Nat) : Int) = (x417 + 1) := by rw [em444]; exact (congrFun (zu_ne (by decide)) _).trans w443
                            clear w438 w439 w440 w441 w442 w443
                            refine ⟨zk_X9_pass, zm_X9_pass hg d (by omega), rfl, (by (try rw [w446]) <;> (try rw [w447]) <;> (try rw [w448]) <;> (try rw [w449]) <;> (try rw [w450]) <;> (try rw [w451]) <;> (try rw [wg1]) <;> (try rw [wg2]) <;> (try rw [wg3]) <;> (try rw [wg4]) <;> (try rw [wg5]) <;> (try rw [wg6]) <;> omega), ?_⟩
                            intro m452 qm452 p453 p454 p455 p456
                            have z457 := zfx_t z445 qm452 rfl rfl
                            have w458 : m452.1 66 ((30 : Nat) : Int) = g2 := (qm452.2.1 30 rfl).trans w447
                            have w459 : m452.1 66 ((38 : Nat) : Int) = (x417 + 1) := (qm452.2.1 38 rfl).trans w451
                            obtain ⟨g460, wg460⟩ : ∃ z : Int, m452.1 66 ((31 : Nat) : Int) = z := ⟨_, rfl⟩
                            obtain ⟨g461, wg461⟩ : ∃ z : Int, m452.1 66 ((33 : Nat) : Int) = z := ⟨_, rfl⟩
                            obtain ⟨g462, wg462⟩ : ∃ z : Int, m452.1 66 ((34 : Nat) : Int) = z := ⟨_, rfl⟩
                            obtain ⟨g463, wg463⟩ : ∃ z : Int, m452.1 66 ((32 : Nat) : Int) = z := ⟨_, rfl⟩
                            try rw [wg460] at p453
                            try rw [w458] at p453
                            try rw [wg461] at p453
                            try rw [wg462] at p453
                            try rw [wg463] at p453
                            try rw [w459] at p453
                            try rw [w446] at p453
                            try rw [w447] at p453
                            try rw [w448] at p453
                            try rw [w449] at p453
                            try rw [w450] at p453
                            try rw [w451] at p453
                            try rw [wg1] at p453
                            try rw [wg2] at p453
                            try rw [wg3] at p453
                            try rw [wg4] at p453
                            try rw [wg5] at p453
                            try rw [wg6] at p453
                            try rw [wg460] at p454
                            try rw [w458] at p454
                            try rw [wg461] at p454
                            try rw [wg462] at p454
                            try rw [wg463] at p454
                            try rw [w459] at p454
                            try rw [w446] at p454
                            try rw [w447] at p454
                            try rw [w448] at p454
                            try rw [w449] at p454
                            try rw [w450] at p454
                            try rw [w451] at p454
                            try rw [wg1] at p454
                            try rw [wg2] at p454
                            try rw [wg3] at p454
                            try rw [wg4] at p454
                            try rw [wg5] at p454
                            try rw [wg6] at p454
                            try rw [wg460] at p455
                            try rw [w458] at p455
                            try rw [wg461] at p455
                            try rw [wg462] at p455
                            try rw [wg463] at p455
                            try rw [w459] at p455
                            try rw [w446] at p455
                            try rw [w447] at p455
                            try rw [w448] at p455
                            try rw [w449] at p455
                            try rw [w450] at p455
                            try rw [w451] at p455
                            try rw [wg1] at p455
                            try rw [wg2] at p455
                            try rw [wg3] at p455
                            try rw [wg4] at p455
                            try rw [wg5] at p455
                            try rw [wg6] at p455
                            try rw [wg460] at p456
                            try rw [w458] at p456
                            try rw [wg461] at p456
                            try rw [wg462] at p456
                            try rw [wg463] at p456
                            try rw [w459] at p456
                            try rw [w446] at p456
                            try rw [w447] at p456
                            try rw [w448] at p456
                            try rw [w449] at p456
                            try rw [w450] at p456
                            try rw [w451] at p456
                            try rw [wg1] at p456
                            try rw [wg2] at p456
                            try rw [wg3] at p456
                            try rw [wg4] at p456
                            try rw [wg5] at p456
                            try rw [wg6] at p456
                            clear w446 w447 w448 w449 w450 w451
                            have R100 : ∀ q : Int, m452.1 100 q = if q = a3 then 0 else μ.1 100 q := fun q => by rw [qm452.1 100 (by decide) rfl, em444, zu_ne (by decide), em436, zu_ne (by decide), em427]; by_cases hq : q = a3 <;> first | (rw [if_pos hq, hq]; exact zu_at) | (rw [if_neg hq, zu_nk hq, em418, zu_ne (by decide)])
                            have R101 : ∀ q : Int, m452.1 101 q = if q = a3 then x234 else μ.1 101 q := fun q => by rw [qm452.1 101 (by decide) rfl, em444, zu_ne (by decide), em436]; by_cases hq : q = a3 <;> first | (rw [if_pos hq, hq]; exact zu_at) | (rw [if_neg hq, zu_nk hq, em427, zu_ne (by decide), em418, zu_ne (by decide)])
                            have R102 : ∀ q : Int, m452.1 102 q = if q = a3 then 0 else μ.1 102 q := fun q => by rw [qm452.1 102 (by decide) rfl, em444]; by_cases hq : q = a3 <;> first | (rw [if_pos hq, hq]; exact zu_at) | (rw [if_neg hq, zu_nk hq, em436, zu_ne (by decide), em427, zu_ne (by decide), em418, zu_ne (by decide)])
                            exact And.intro (zrtb (by omega)) (And.intro ⟨by omega, by omega⟩ (hQ _ _ z457 (by omega) (by omega) (by (try rw [wg460]) <;> (try rw [w458]) <;> (try rw [wg461]) <;> (try rw [wg462]) <;> (try rw [wg463]) <;> (try rw [w459]) <;> (try rw [wg1]) <;> (try rw [wg2]) <;> (try rw [wg3]) <;> (try rw [wg4]) <;> (try rw [wg5]) <;> (try rw [wg6]) <;> omega) (by (try rw [wg460]) <;> (try rw [w458]) <;> (try rw [wg461]) <;> (try rw [wg462]) <;> (try rw [wg463]) <;> (try rw [w459]) <;> (try rw [wg1]) <;> (try rw [wg2]) <;> (try rw [wg3]) <;> (try rw [wg4]) <;> (try rw [wg5]) <;> (try rw [wg6]) <;> omega) (by (try rw [wg460]) <;> (try rw [w458]) <;> (try rw [wg461]) <;> (try rw [wg462]) <;> (try rw [wg463]) <;> (try rw [w459]) <;> (try rw [wg1]) <;> (try rw [wg2]) <;> (try rw [wg3]) <;> (try rw [wg4]) <;> (try rw [wg5]) <;> (try rw [wg6]) <;> omega) (fun _ => by rw [R102, R100, R101, if_pos rfl, if_pos rfl, if_pos rfl]; omega) (fun q hq => ⟨by rw [R100, if_neg hq], by rw [R101, if_neg hq], by rw [R102, if_neg hq]⟩) (fun _ => by rw [R100, R101, if_pos rfl, if_pos rfl]; exact ⟨fun h => by exfalso; omega, fun h => by omega⟩) (fun _ _ => by rw [R100, R101, if_pos rfl, if_pos rfl]; exact ⟨fun h => by omega, fun h => by omega, by omega⟩)))
                          · exfalso; omega
                        · exfalso; omega
                      · exfalso; omega
              · refine And.intro ⟨by omega, by omega⟩ (And.intro (fun c464 => ?_) (fun c464 => ?_))
                · refine And.intro ⟨by omega, by omega⟩ (And.intro (fun c465 => ?_) (fun c465 => ?_))
                  · exfalso; omega
                  · refine And.intro ⟨by omega, by omega⟩ (And.intro (fun c466 => ?_) (fun c466 => ?_))
                    · refine And.intro ⟨⟨by omega, by omega⟩, ⟨by omega, by omega⟩⟩ (And.intro (fun c467 => ?_) (fun c467 => ?_))
                      · intro x468 hx468 kx468 lx468
                        rw [wg6] at hx468
                        refine And.intro ⟨by omega, by omega⟩ ?_
                        intro m469 em469
                        have z470 := zfx_f z0 em469 rfl
                        have w471 : m469.1 66 ((31 : Nat) : Int) = g1 := by rw [em469]; exact (zu_nk (by decide)).trans wg1
                        have w472 : m469.1 66 ((30 : Nat) : Int) = g2 := by rw [em469]; exact (zu_nk (by decide)).trans wg2
                        have w473 : m469.1 66 ((33 : Nat) : Int) = g3 := by rw [em469]; exact (zu_nk (by decide)).trans wg3
                        have w474 : m469.1 66 ((34 : Nat) : Int) = g4 := by rw [em469]; exact (zu_nk (by decide)).trans wg4
                        have w475 : m469.1 66 ((32 : Nat) : Int) = g5 := by rw [em469]; exact (zu_nk (by decide)).trans wg5
                        have w476 : m469.1 66 ((38 : Nat) : Int) = (x468 + 1) := by rw [em469]; exact zu_at
                        refine And.intro ⟨by omega, by omega⟩ (And.intro (fun c477 => ?_) (fun c477 => ?_))
                        · refine And.intro ⟨by omega, by omega⟩ (And.intro ⟨by omega, by omega⟩ ?_)
                          intro m478 em478
                          have z479 := zfx_r z470 em478 rfl (by decide)
                          have w480 : m478.1 66 ((31 : Nat) : Int) = g1 := by rw [em478]; exact (congrFun (zu_ne (by decide)) _).trans w471
                          have w481 : m478.1 66 ((30 : Nat) : Int) = g2 := by rw [em478]; exact (congrFun (zu_ne (by decide)) _).trans w472
                          have w482 : m478.1 66 ((33 : Nat) : Int) = g3 := by rw [em478]; exact (congrFun (zu_ne (by decide)) _).trans w473
                          have w483 : m478.1 66 ((34 : Nat) : Int) = g4 := by rw [em478]; exact (congrFun (zu_ne (by decide)) _).trans w474
                          have w484 : m478.1 66 ((32 : Nat) : Int) = g5 := by rw [em478]; exact (congrFun (zu_ne (by decide)) _).trans w475
                          have w485 : m478.1 66 ((38 : Nat) : Int) = (x468 + 1) := by rw [em478]; exact (congrFun (zu_ne (by decide)) _).trans w476
                          clear w471 w472 w473 w474 w475 w476
                          refine And.intro ⟨by omega, by omega⟩ (And.intro (fun c486 => ?_) (fun c486 => ?_))
                          · refine And.intro ⟨by omega, by omega⟩ (And.intro ⟨by omega, by omega⟩ ?_)
                            intro m487 em487
                            have z488 := zfx_r z479 em487 rfl (by decide)
                            have w489 : m487.1 66 ((31 : Nat) : Int) = g1 := by rw [em487]; exact (congrFun (zu_ne (by decide)) _).trans w480
                            have w490 : m487.1 66 ((30 : Nat) : Int) = g2 := by rw [em487]; exact (congrFun (zu_ne (by decide)) _).trans w481
                            have w491 : m487.1 66 ((33 : Nat) : Int) = g3 := by rw [em487]; exact (congrFun (zu_ne (by decide)) _).trans w482
                            have w492 : m487.1 66 ((34 : Nat) : Int) = g4 := by rw [em487]; exact (congrFun (zu_ne (by decide)) _).trans w483
                            have w493 : m487.1 66 ((32 : Nat) : Int) = g5 := by rw [em487]; exact (congrFun (zu_ne (by decide)) _).trans w484
                            have w494 : m487.1 66 ((38 : Nat) : Int) = (x468 + 1) := by rw [em487]; exact (congrFun (zu_ne (by decide)) _).trans w485
                            clear w480 w481 w482 w483 w484 w485
                            refine And.intro ⟨by omega, by omega⟩ (And.intro ⟨by omega, by omega⟩ ?_)
                            intro m495 em495
                            have z496 := zfx_r z488 em495 rfl (by decide)
                            have w497 : m495.1 66 ((31 : Nat) : Int) = g1 := by rw [em495]; exact (congrFun (zu_ne (by decide)) _).trans w489
                            have w498 : m495.1 66 ((30 : Nat) : Int) = g2 := by rw [em495]; exact (congrFun (zu_ne (by decide)) _).trans w490
                            have w499 : m495.1 66 ((33 : Nat) : Int) = g3 := by rw [em495]; exact (congrFun (zu_ne (by decide)) _).trans w491
                            have w500 : m495.1 66 ((34 : Nat) : Int) = g4 := by rw [em495]; exact (congrFun (zu_ne (by decide)) _).trans w492
                            have w501 : m495.1 66 ((32 : Nat) : Int) = g5 := by rw [em495]; exact (congrFun (zu_ne (by decide)) _).trans w493
                            have w502 : m495.1 66 ((38 : Nat) : Int) = (x468 + 1) := by rw [em495]; exact (congrFun (zu_ne (by decide)) _).trans w494
                            clear w489 w490 w491 w492 w493 w494
                            refine ⟨zk_X9_pass, zm_X9_pass hg d (by omega), rfl, (by (try rw [w497]) <;> (try rw [w498]) <;> (try rw [w499]) <;> (try rw [w500]) <;> (try rw [w501]) <;> (try rw [w502]) <;> (try rw [wg1]) <;> (try rw [wg2]) <;> (try rw [wg3]) <;> (try rw [wg4]) <;> (try rw [wg5]) <;> (try rw [wg6]) <;> omega), ?_⟩
                            intro m503 qm503 p504 p505 p506 p507
                            have z508 := zfx_t z496 qm503 rfl rfl
                            have w509 : m503.1 66 ((30 : Nat) : Int) = g2 := (qm503.2.1 30 rfl).trans w498
                            have w510 : m503.1 66 ((38 : Nat) : Int) = (x468 + 1) := (qm503.2.1 38 rfl).trans w502
                            obtain ⟨g511, wg511⟩ : ∃ z : Int, m503.1 66 ((31 : Nat) : Int) = z := ⟨_, rfl⟩
                            obtain ⟨g512, wg512⟩ : ∃ z : Int, m503.1 66 ((33 : Nat) : Int) = z := ⟨_, rfl⟩
                            obtain ⟨g513, wg513⟩ : ∃ z : Int, m503.1 66 ((34 : Nat) : Int) = z := ⟨_, rfl⟩
                            obtain ⟨g514, wg514⟩ : ∃ z : Int, m503.1 66 ((32 : Nat) : Int) = z := ⟨_, rfl⟩
                            try rw [wg511] at p504
                            try rw [w509] at p504
                            try rw [wg512] at p504
                            try rw [wg513] at p504
                            try rw [wg514] at p504
                            try rw [w510] at p504
                            try rw [w497] at p504
                            try rw [w498] at p504
                            try rw [w499] at p504
                            try rw [w500] at p504
                            try rw [w501] at p504
                            try rw [w502] at p504
                            try rw [wg1] at p504
                            try rw [wg2] at p504
                            try rw [wg3] at p504
                            try rw [wg4] at p504
                            try rw [wg5] at p504
                            try rw [wg6] at p504
                            try rw [wg511] at p505
                            try rw [w509] at p505
                            try rw [wg512] at p505
                            try rw [wg513] at p505
                            try rw [wg514] at p505
                            try rw [w510] at p505
                            try rw [w497] at p505
                            try rw [w498] at p505
                            try rw [w499] at p505
                            try rw [w500] at p505
                            try rw [w501] at p505
                            try rw [w502] at p505
                            try rw [wg1] at p505
                            try rw [wg2] at p505
                            try rw [wg3] at p505
                            try rw [wg4] at p505
                            try rw [wg5] at p505
                            try rw [wg6] at p505
                            try rw [wg511] at p506
                            try rw [w509] at p506
                            try rw [wg512] at p506
                            try rw [wg513] at p506
                            try rw [wg514] at p506
                            try rw [w510] at p506
                            try rw [w497] at p506
                            try rw [w498] at p506
                            try rw [w499] at p506
                            try rw [w500] at p506
                            try rw [w501] at p506
                            try rw [w502] at p506
                            try rw [wg1] at p506
                            try rw [wg2] at p506
                            try rw [wg3] at p506
                            try rw [wg4] at p506
                            try rw [wg5] at p506
                            try rw [wg6] at p506
                            try rw [wg511] at p507
                            try rw [w509] at p507
                            try rw [wg512] at p507
                            try rw [wg513] at p507
                            try rw [wg514] at p507
                            try rw [w510] at p507
                            try rw [w497] at p507
                            try rw [w498] at p507
                            try rw [w499] at p507
                            try rw [w500] at p507
                            try rw [w501] at p507
                            try rw [w502] at p507
                            try rw [wg1] at p507
                            try rw [wg2] at p507
                            try rw [wg3] at p507
                            try rw [wg4] at p507
                            try rw [wg5] at p507
                            try rw [wg6] at p507
                            clear w497 w498 w499 w500 w501 w502
                            have R100 : ∀ q : Int, m503.1 100 q = if q = a3 then 0 else μ.1 100 q := fun q => by rw [qm503.1 100 (by decide) rfl, em495, zu_ne (by decide), em487, zu_ne (by decide), em478]; by_cases hq : q = a3 <;> first | (rw [if_pos hq, hq]; exact zu_at) | (rw [if_neg hq, zu_nk hq, em469, zu_ne (by decide)])
                            have R101 : ∀ q : Int, m503.1 101 q = if q = a3 then x234 else μ.1 101 q := fun q => by rw [qm503.1 101 (by decide) rfl, em495, zu_ne (by decide), em487]; by_cases hq : q = a3 <;> first | (rw [if_pos hq, hq]; exact zu_at) | (rw [if_neg hq, zu_nk hq, em478, zu_ne (by decide), em469, zu_ne (by decide)])
                            have R102 : ∀ q : Int, m503.1 102 q = if q = a3 then 0 else μ.1 102 q := fun q => by rw [qm503.1 102 (by decide) rfl, em495]; by_cases hq : q = a3 <;> first | (rw [if_pos hq, hq]; exact zu_at) | (rw [if_neg hq, zu_nk hq, em487, zu_ne (by decide), em478, zu_ne (by decide), em469, zu_ne (by decide)])
                            exact And.intro (zrtb (by omega)) (And.intro ⟨by omega, by omega⟩ (hQ _ _ z508 (by omega) (by omega) (by (try rw [wg511]) <;> (try rw [w509]) <;> (try rw [wg512]) <;> (try rw [wg513]) <;> (try rw [wg514]) <;> (try rw [w510]) <;> (try rw [wg1]) <;> (try rw [wg2]) <;> (try rw [wg3]) <;> (try rw [wg4]) <;> (try rw [wg5]) <;> (try rw [wg6]) <;> omega) (by (try rw [wg511]) <;> (try rw [w509]) <;> (try rw [wg512]) <;> (try rw [wg513]) <;> (try rw [wg514]) <;> (try rw [w510]) <;> (try rw [wg1]) <;> (try rw [wg2]) <;> (try rw [wg3]) <;> (try rw [wg4]) <;> (try rw [wg5]) <;> (try rw [wg6]) <;> omega) (by (try rw [wg511]) <;> (try rw [w509]) <;> (try rw [wg512]) <;> (try rw [wg513]) <;> (try rw [wg514]) <;> (try rw [w510]) <;> (try rw [wg1]) <;> (try rw [wg2]) <;> (try rw [wg3]) <;> (try rw [wg4]) <;> (try rw [wg5]) <;> (try rw [wg6]) <;> omega) (fun _ => by rw [R102, R100, R101, if_pos rfl, if_pos rfl, if_pos rfl]; omega) (fun q hq => ⟨by rw [R100, if_neg hq], by rw [R101, if_neg hq], by rw [R102, if_neg hq]⟩) (fun _ => by rw [R100, R101, if_pos rfl, if_pos rfl]; exact ⟨fun h => by exfalso; omega, fun h => by omega⟩) (fun _ _ => by rw [R100, R101, if_pos rfl, if_pos rfl]; exact ⟨fun h => by omega, fun h => by omega, by omega⟩)))
                          · exfalso; omega
                        · exfalso; omega
                      · refine And.intro ⟨by omega, by omega⟩ (And.intro (fun c515 => ?_) (fun c515 => ?_))
                        · exfalso; omega
                        · refine And.intro ⟨⟨by omega, by omega⟩, ⟨by omega, by omega⟩⟩ (And.intro (fun c516 => ?_) (fun c516 => ?_))
                          · intro x517 hx517 kx517 lx517
                            rw [wg6] at hx517
                            refine And.intro ⟨by omega, by omega⟩ ?_
                            intro m518 em518
                            have z519 := zfx_f z0 em518 rfl
                            have w520 : m518.1 66 ((31 : Nat) : Int) = g1 := by rw [em518]; exact (zu_nk (by decide)).trans wg1
                            have w521 : m518.1 66 ((30 : Nat) : Int) = g2 := by rw [em518]; exact (zu_nk (by decide)).trans wg2
                            have w522 : m518.1 66 ((33 : Nat) : Int) = g3 := by rw [em518]; exact (zu_nk (by decide)).trans wg3
                            have w523 : m518.1 66 ((34 : Nat) : Int) = g4 := by rw [em518]; exact (zu_nk (by decide)).trans wg4
                            have w524 : m518.1 66 ((32 : Nat) : Int) = g5 := by rw [em518]; exact (zu_nk (by decide)).trans wg5
                            have w525 : m518.1 66 ((38 : Nat) : Int) = (x517 + 1) := by rw [em518]; exact zu_at
                            refine And.intro ⟨by omega, by omega⟩ (And.intro (fun c526 => ?_) (fun c526 => ?_))
                            · refine And.intro ⟨by omega, by omega⟩ (And.intro ⟨by omega, by omega⟩ ?_)
                              intro m527 em527
                              have z528 := zfx_r z519 em527 rfl (by decide)
                              have w529 : m527.1 66 ((31 : Nat) : Int) = g1 := by rw [em527]; exact (congrFun (zu_ne (by decide)) _).trans w520
                              have w530 : m527.1 66 ((30 : Nat) : Int) = g2 := by rw [em527]; exact (congrFun (zu_ne (by decide)) _).trans w521
                              have w531 : m527.1 66 ((33 : Nat) : Int) = g3 := by rw [em527]; exact (congrFun (zu_ne (by decide)) _).trans w522
                              have w532 : m527.1 66 ((34 : Nat) : Int) = g4 := by rw [em527]; exact (congrFun (zu_ne (by decide)) _).trans w523
                              have w533 : m527.1 66 ((32 : Nat) : Int) = g5 := by rw [em527]; exact (congrFun (zu_ne (by decide)) _).trans w524
                              have w534 : m527.1 66 ((38 : Nat) : Int) = (x517 + 1) := by rw [em527]; exact (congrFun (zu_ne (by decide)) _).trans w525
                              clear w520 w521 w522 w523 w524 w525
                              refine And.intro ⟨by omega, by omega⟩ (And.intro (fun c535 => ?_) (fun c535 => ?_))
                              · refine And.intro ⟨by omega, by omega⟩ (And.intro ⟨by omega, by omega⟩ ?_)
                                intro m536 em536
                                have z537 := zfx_r z528 em536 rfl (by decide)
                                have w538 : m536.1 66 ((31 : Nat) : Int) = g1 := by rw [em536]; exact (congrFun (zu_ne (by decide)) _).trans w529
                                have w539 : m536.1 66 ((30 : Nat) : Int) = g2 := by rw [em536]; exact (congrFun (zu_ne (by decide)) _).trans w530
                                have w540 : m536.1 66 ((33 : Nat) : Int) = g3 := by rw [em536]; exact (congrFun (zu_ne (by decide)) _).trans w531
                                have w541 : m536.1 66 ((34 : Nat) : Int) = g4 := by rw [em536]; exact (congrFun (zu_ne (by decide)) _).trans w532
                                have w542 : m536.1 66 ((32 : Nat) : Int) = g5 := by rw [em536]; exact (congrFun (zu_ne (by decide)) _).trans w533
                                have w543 : m536.1 66 ((38 : Nat) : Int) = (x517 + 1) := by rw [em536]; exact (congrFun (zu_ne (by decide)) _).trans w534
                                clear w529 w530 w531 w532 w533 w534
                                refine And.intro ⟨by omega, by omega⟩ (And.intro ⟨by omega, by omega⟩ ?_)
                                intro m544 em544
                                have z545 := zfx_r z537 em544 rfl (by decide)
                                have w546 : m544.1 66 ((31 : Nat) : Int) = g1 := by rw [em544]; exact (congrFun (zu_ne (by decide)) _).trans w538
                                have w547 : m544.1 66 ((30 : Nat) : Int) = g2 := by rw [em544]; exact (congrFun (zu_ne (by decide)) _).trans w539
                                have w548 : m544.1 66 ((33 : Nat) : Int) = g3 := by rw [em544]; exact (congrFun (zu_ne (by decide)) _).trans w540
                                have w549 : m544.1 66 ((34 : Nat) : Int) = g4 := by rw [em544]; exact (congrFun (zu_ne (by decide)) _).trans w541
                                have w550 : m544.1 66 ((32 : Nat) : Int) = g5 := by rw [em544]; exact (congrFun (zu_ne (by decide)) _).trans w542
                                have w551 : m544.1 66 ((38 : Nat) : Int) = (x517 + 1) := by rw [em544]; exact (congrFun (zu_ne (by decide)) _).trans w543
                                clear w538 w539 w540 w541 w542 w543
                                refine ⟨zk_X9_pass, zm_X9_pass hg d (by omega), rfl, (by (try rw [w546]) <;> (try rw [w547]) <;> (try rw [w548]) <;> (try rw [w549]) <;> (try rw [w550]) <;> (try rw [w551]) <;> (try rw [wg1]) <;> (try rw [wg2]) <;> (try rw [wg3]) <;> (try rw [wg4]) <;> (try rw [wg5]) <;> (try rw [wg6]) <;> omega), ?_⟩
                                intro m552 qm552 p553 p554 p555 p556
                                have z557 := zfx_t z545 qm552 rfl rfl
                                have w558 : m552.1 66 ((30 : Nat) : Int) = g2 := (qm552.2.1 30 rfl).trans w547
                                have w559 : m552.1 66 ((38 : Nat) : Int) = (x517 + 1) := (qm552.2.1 38 rfl).trans w551
                                obtain ⟨g560, wg560⟩ : ∃ z : Int, m552.1 66 ((31 : Nat) : Int) = z := ⟨_, rfl⟩
                                obtain ⟨g561, wg561⟩ : ∃ z : Int, m552.1 66 ((33 : Nat) : Int) = z := ⟨_, rfl⟩
                                obtain ⟨g562, wg562⟩ : ∃ z : Int, m552.1 66 ((34 : Nat) : Int) = z := ⟨_, rfl⟩
                                obtain ⟨g563, wg563⟩ : ∃ z : Int, m552.1 66 ((32 : Nat) : Int) = z := ⟨_, rfl⟩
                                try rw [wg560] at p553
                                try rw [w558] at p553
                                try rw [wg561] at p553
                                try rw [wg562] at p553
                                try rw [wg563] at p553
                                try rw [w559] at p553
                                try rw [w546] at p553
                                try rw [w547] at p553
                                try rw [w548] at p553
                                try rw [w549] at p553
                                try rw [w550] at p553
                                try rw [w551] at p553
                                try rw [wg1] at p553
                                try rw [wg2] at p553
                                try rw [wg3] at p553
                                try rw [wg4] at p553
                                try rw [wg5] at p553
                                try rw [wg6] at p553
                                try rw [wg560] at p554
                                try rw [w558] at p554
                                try rw [wg561] at p554
                                try rw [wg562] at p554
                                try rw [wg563] at p554
                                try rw [w559] at p554
                                try rw [w546] at p554
                                try rw [w547] at p554
                                try rw [w548] at p554
                                try rw [w549] at p554
                                try rw [w550] at p554
                                try rw [w551] at p554
                                try rw [wg1] at p554
                                try rw [wg2] at p554
                                try rw [wg3] at p554
                                try rw [wg4] at p554
                                try rw [wg5] at p554
                                try rw [wg6] at p554
                                try rw [wg560] at p555
                                try rw [w558] at p555
                                try rw [wg561] at p555
                                try rw [wg562] at p555
                                try rw [wg563] at p555
                                try rw [w559] at p555
                                try rw [w546] at p555
                                try rw [w547] at p555
                                try rw [w548] at p555
                                try rw [w549] at p555
                                try rw [w550] at p555
                                try rw [w551] at p555
                                try rw [wg1] at p555
                                try rw [wg2] at p555
                                try rw [wg3] at p555
                                try rw [wg4] at p555
                                try rw [wg5] at p555
                                try rw [wg6] at p555
                                try rw [wg560] at p556
                                try rw [w558] at p556
                                try rw [wg561] at p556
                                try rw [wg562] at p556
                                try rw [wg563] at p556
                                try rw [w559] at p556
                                try rw [w546] at p556
                                try rw [w547] at p556
                                try rw [w548] at p556
                                try rw [w549] at p556
                                try rw [w550] at p556
                                try rw [w551] at p556
                                try rw [wg1] at p556
                                try rw [wg2] at p556
                                try rw [wg3] at p556
                                try rw [wg4] at p556
                                try rw [wg5] at p556
                                try rw [wg6] at p556
                                clear w546 w547 w548 w549 w550 w551
                                have R100 : ∀ q : Int, m552.1 100 q = if q = a3 then 0 else μ.1 100 q := fun q => by rw [qm552.1 100 (by decide) rfl, em544, zu_ne (by decide), em536, zu_ne (by decide), em527]; by_cases hq : q = a3 <;> first | (rw [if_pos hq, hq]; exact zu_at) | (rw [if_neg hq, zu_nk hq, em518, zu_ne (by decide)])
                                have R101 : ∀ q : Int, m552.1 101 q = if q = a3 then x234 else μ.1 101 q := fun q => by rw [qm552.1 101 (by decide) rfl, em544, zu_ne (by decide), em536]; by_cases hq : q = a3 <;> first | (rw [if_pos hq, hq]; exact zu_at) | (rw [if_neg hq, zu_nk hq, em527, zu_ne (by decide), em518, zu_ne (by decide)])
                                have R102 : ∀ q : Int, m552.1 102 q = if q = a3 then 0 else μ.1 102 q := fun q => by rw [qm552.1 102 (by decide) rfl, em544]; by_cases hq : q = a3 <;> first | (rw [if_pos hq, hq]; exact zu_at) | (rw [if_neg hq, zu_nk hq, em536, zu_ne (by decide), em527, zu_ne (by decide), em518, zu_ne (by decide)])
                                exact And.intro (zrtb (by omega)) (And.intro ⟨by omega, by omega⟩ (hQ _ _ z557 (by omega) (by omega) (by (try rw [wg560]) <;> (try rw [w558]) <;> (try rw [wg561]) <;> (try rw [wg562]) <;> (try rw [wg563]) <;> (try rw [w559]) <;> (try rw [wg1]) <;> (try rw [wg2]) <;> (try rw [wg3]) <;> (try rw [wg4]) <;> (try rw [wg5]) <;> (try rw [wg6]) <;> omega) (by (try rw [wg560]) <;> (try rw [w558]) <;> (try rw [wg561]) <;> (try rw [wg562]) <;> (try rw [wg563]) <;> (try rw [w559]) <;> (try rw [wg1]) <;> (try rw [wg2]) <;> (try rw [wg3]) <;> (try rw [wg4]) <;> (try rw [wg5]) <;> (try rw [wg6]) <;> omega) (by (try rw [wg560]) <;> (try rw [w558]) <;> (try rw [wg561]) <;> (try rw [wg562]) <;> (try rw [wg563]) <;> (try rw [w559]) <;> (try rw [wg1]) <;> (try rw [wg2]) <;> (try rw [wg3]) <;> (try rw [wg4]) <;> (try rw [wg5]) <;> (try rw [wg6]) <;> omega) (fun _ => by rw [R102, R100, R101, if_pos rfl, if_pos rfl, if_pos rfl]; omega) (fun q hq => ⟨by rw [R100, if_neg hq], by rw [R101, if_neg hq], by rw [R102, if_neg hq]⟩) (fun _ => by rw [R100, R101, if_pos rfl, if_pos rfl]; exact ⟨fun h => by exfalso; omega, fun h => by omega⟩) (fun _ _ => by rw [R100, R101, if_pos rfl, if_pos rfl]; exact ⟨fun h => by omega, fun h => by omega, by omega⟩)))
                              · exfalso; omega
                            · exfalso; omega
                          · refine ⟨zk_X9_fail, zm_X9_fail hg d (by omega), _, rfl, ⟨by omega, by omega⟩, ?_⟩
                            intro x564 m565 qm565 kx564 lx564
                            have z566 := zfx_t z0 qm565 rfl rfl
                            have w567 : m565.1 66 ((31 : Nat) : Int) = g1 := (qm565.2.1 31 rfl).trans wg1
                            have w568 : m565.1 66 ((30 : Nat) : Int) = g2 := (qm565.2.1 30 rfl).trans wg2
                            have w569 : m565.1 66 ((33 : Nat) : Int) = g3 := (qm565.2.1 33 rfl).trans wg3
                            have w570 : m565.1 66 ((34 : Nat) : Int) = g4 := (qm565.2.1 34 rfl).trans wg4
                            have w571 : m565.1 66 ((32 : Nat) : Int) = g5 := (qm565.2.1 32 rfl).trans wg5
                            have w572 : m565.1 66 ((38 : Nat) : Int) = g6 := (qm565.2.1 38 rfl).trans wg6
                            exact And.intro (zrtb (by omega)) (And.intro ⟨by omega, by omega⟩ (hQ _ _ z566 (by omega) (by omega) (by (try rw [w567]) <;> (try rw [w568]) <;> (try rw [w569]) <;> (try rw [w570]) <;> (try rw [w571]) <;> (try rw [w572]) <;> (try rw [wg1]) <;> (try rw [wg2]) <;> (try rw [wg3]) <;> (try rw [wg4]) <;> (try rw [wg5]) <;> (try rw [wg6]) <;> omega) (by (try rw [w567]) <;> (try rw [w568]) <;> (try rw [w569]) <;> (try rw [w570]) <;> (try rw [w571]) <;> (try rw [w572]) <;> (try rw [wg1]) <;> (try rw [wg2]) <;> (try rw [wg3]) <;> (try rw [wg4]) <;> (try rw [wg5]) <;> (try rw [wg6]) <;> omega) (by (try rw [w567]) <;> (try rw [w568]) <;> (try rw [w569]) <;> (try rw [w570]) <;> (try rw [w571]) <;> (try rw [w572]) <;> (try rw [wg1]) <;> (try rw [wg2]) <;> (try rw [wg3]) <;> (try rw [wg4]) <;> (try rw [wg5]) <;> (try rw [wg6]) <;> omega) (fun h => by omega) (fun q _ => ⟨by rw [qm565.1 100 (by decide) rfl], by rw [qm565.1 101 (by decide) rfl], by rw [qm565.1 102 (by decide) rfl]⟩) (fun h => by omega) (fun h _ => by omega)))
                    · refine And.intro ⟨by omega, by omega⟩ (And.intro (fun c573 => ?_) (fun c573 => ?_))
                      · exfalso; omega
                      · refine And.intro ⟨⟨by omega, by omega⟩, ⟨by omega, by omega⟩⟩ (And.intro (fun c574 => ?_) (fun c574 => ?_))
                        · intro x575 hx575 kx575 lx575
                          rw [wg6] at hx575
                          refine And.intro ⟨by omega, by omega⟩ ?_
                          intro m576 em576
                          have z577 := zfx_f z0 em576 rfl
                          have w578 : m576.1 66 ((31 : Nat) : Int) = g1 := by rw [em576]; exact (zu_nk (by decide)).trans wg1
                          have w579 : m576.1 66 ((30 : Nat) : Int) = g2 := by rw [em576]; exact (zu_nk (by decide)).trans wg2
                          have w580 : m576.1 66 ((33 : Nat) : Int) = g3 := by rw [em576]; exact (zu_nk (by decide)).trans wg3
                          have w581 : m576.1 66 ((34 : Nat) : Int) = g4 := by rw [em576]; exact (zu_nk (by decide)).trans wg4
                          have w582 : m576.1 66 ((32 : Nat) : Int) = g5 := by rw [em576]; exact (zu_nk (by decide)).trans wg5
                          have w583 : m576.1 66 ((38 : Nat) : Int) = (x575 + 1) := by rw [em576]; exact zu_at
                          refine And.intro ⟨by omega, by omega⟩ (And.intro (fun c584 => ?_) (fun c584 => ?_))
                          · refine And.intro ⟨by omega, by omega⟩ (And.intro ⟨by omega, by omega⟩ ?_)
                            intro m585 em585
                            have z586 := zfx_r z577 em585 rfl (by decide)
                            have w587 : m585.1 66 ((31 : Nat) : Int) = g1 := by rw [em585]; exact (congrFun (zu_ne (by decide)) _).trans w578
                            have w588 : m585.1 66 ((30 : Nat) : Int) = g2 := by rw [em585]; exact (congrFun (zu_ne (by decide)) _).trans w579
                            have w589 : m585.1 66 ((33 : Nat) : Int) = g3 := by rw [em585]; exact (congrFun (zu_ne (by decide)) _).trans w580
                            have w590 : m585.1 66 ((34 : Nat) : Int) = g4 := by rw [em585]; exact (congrFun (zu_ne (by decide)) _).trans w581
                            have w591 : m585.1 66 ((32 : Nat) : Int) = g5 := by rw [em585]; exact (congrFun (zu_ne (by decide)) _).trans w582
                            have w592 : m585.1 66 ((38 : Nat) : Int) = (x575 + 1) := by rw [em585]; exact (congrFun (zu_ne (by decide)) _).trans w583
                            clear w578 w579 w580 w581 w582 w583
                            refine And.intro ⟨by omega, by omega⟩ (And.intro (fun c593 => ?_) (fun c593 => ?_))
                            · refine And.intro ⟨by omega, by omega⟩ (And.intro ⟨by omega, by omega⟩ ?_)
                              intro m594 em594
                              have z595 := zfx_r z586 em594 rfl (by decide)
                              have w596 : m594.1 66 ((31 : Nat) : Int) = g1 := by rw [em594]; exact (congrFun (zu_ne (by decide)) _).trans w587
                              have w597 : m594.1 66 ((30 : Nat) : Int) = g2 := by rw [em594]; exact (congrFun (zu_ne (by decide)) _).trans w588
                              have w598 : m594.1 66 ((33 : Nat) : Int) = g3 := by rw [em594]; exact (congrFun (zu_ne (by decide)) _).trans w589
                              have w599 : m594.1 66 ((34 : Nat) : Int) = g4 := by rw [em594]; exact (congrFun (zu_ne (by decide)) _).trans w590
                              have w600 : m594.1 66 ((32 : Nat) : Int) = g5 := by rw [em594]; exact (congrFun (zu_ne (by decide)) _).trans w591
                              have w601 : m594.1 66 ((38 : Nat) : Int) = (x575 + 1) := by rw [em594]; exact (congrFun (zu_ne (by decide)) _).trans w592
                              clear w587 w588 w589 w590 w591 w592
                              refine And.intro ⟨by omega, by omega⟩ (And.intro ⟨by omega, by omega⟩ ?_)
                              intro m602 em602
                              have z603 := zfx_r z595 em602 rfl (by decide)
                              have w604 : m602.1 66 ((31 : Nat) : Int) = g1 := by rw [em602]; exact (congrFun (zu_ne (by decide)) _).trans w596
                              have w605 : m602.1 66 ((30 : Nat) : Int) = g2 := by rw [em602]; exact (congrFun (zu_ne (by decide)) _).trans w597
                              have w606 : m602.1 66 ((33 : Nat) : Int) = g3 := by rw [em602]; exact (congrFun (zu_ne (by decide)) _).trans w598
                              have w607 : m602.1 66 ((34 : Nat) : Int) = g4 := by rw [em602]; exact (congrFun (zu_ne (by decide)) _).trans w599
                              have w608 : m602.1 66 ((32 : Nat) : Int) = g5 := by rw [em602]; exact (congrFun (zu_ne (by decide)) _).trans w600
                              have w609 : m602.1 66 ((38 : Nat) : Int) = (x575 + 1) := by rw [em602]; exact (congrFun (zu_ne (by decide)) _).trans w601
                              clear w596 w597 w598 w599 w600 w601
                              refine ⟨zk_X9_pass, zm_X9_pass hg d (by omega), rfl, (by (try rw [w604]) <;> (try rw [w605]) <;> (try rw [w606]) <;> (try rw [w607]) <;> (try rw [w608]) <;> (try rw [w609]) <;> (try rw [wg1]) <;> (try rw [wg2]) <;> (try rw [wg3]) <;> (try rw [wg4]) <;> (try rw [wg5]) <;> (try rw [wg6]) <;> omega), ?_⟩
                              intro m610 qm610 p611 p612 p613 p614
                              have z615 := zfx_t z603 qm610 rfl rfl
                              have w616 : m610.1 66 ((30 : Nat) : Int) = g2 := (qm610.2.1 30 rfl).trans w605
                              have w617 : m610.1 66 ((38 : Nat) : Int) = (x575 + 1) := (qm610.2.1 38 rfl).trans w609
                              obtain ⟨g618, wg618⟩ : ∃ z : Int, m610.1 66 ((31 : Nat) : Int) = z := ⟨_, rfl⟩
                              obtain ⟨g619, wg619⟩ : ∃ z : Int, m610.1 66 ((33 : Nat) : Int) = z := ⟨_, rfl⟩
                              obtain ⟨g620, wg620⟩ : ∃ z : Int, m610.1 66 ((34 : Nat) : Int) = z := ⟨_, rfl⟩
                              obtain ⟨g621, wg621⟩ : ∃ z : Int, m610.1 66 ((32 : Nat) : Int) = z := ⟨_, rfl⟩
                              try rw [wg618] at p611
                              try rw [w616] at p611
                              try rw [wg619] at p611
                              try rw [wg620] at p611
                              try rw [wg621] at p611
                              try rw [w617] at p611
                              try rw [w604] at p611
                              try rw [w605] at p611
                              try rw [w606] at p611
                              try rw [w607] at p611
                              try rw [w608] at p611
                              try rw [w609] at p611
                              try rw [wg1] at p611
                              try rw [wg2] at p611
                              try rw [wg3] at p611
                              try rw [wg4] at p611
                              try rw [wg5] at p611
                              try rw [wg6] at p611
                              try rw [wg618] at p612
                              try rw [w616] at p612
                              try rw [wg619] at p612
                              try rw [wg620] at p612
                              try rw [wg621] at p612
                              try rw [w617] at p612
                              try rw [w604] at p612
                              try rw [w605] at p612
                              try rw [w606] at p612
                              try rw [w607] at p612
                              try rw [w608] at p612
                              try rw [w609] at p612
                              try rw [wg1] at p612
                              try rw [wg2] at p612
                              try rw [wg3] at p612
                              try rw [wg4] at p612
                              try rw [wg5] at p612
                              try rw [wg6] at p612
                              try rw [wg618] at p613
                              try rw [w616] at p613
                              try rw [wg619] at p613
                              try rw [wg620] at p613
                              try rw [wg621] at p613
                              try rw [w617] at p613
                              try rw [w604] at p613
                              try rw [w605] at p613
                              try rw [w606] at p613
                              try rw [w607] at p613
                              try rw [w608] at p613
                              try rw [w609] at p613
                              try rw [wg1] at p613
                              try rw [wg2] at p613
                              try rw [wg3] at p613
                              try rw [wg4] at p613
                              try rw [wg5] at p613
                              try rw [wg6] at p613
                              try rw [wg618] at p614
                              try rw [w616] at p614
                              try rw [wg619] at p614
                              try rw [wg620] at p614
                              try rw [wg621] at p614
                              try rw [w617] at p614
                              try rw [w604] at p614
                              try rw [w605] at p614
                              try rw [w606] at p614
                              try rw [w607] at p614
                              try rw [w608] at p614
                              try rw [w609] at p614
                              try rw [wg1] at p614
                              try rw [wg2] at p614
                              try rw [wg3] at p614
                              try rw [wg4] at p614
                              try rw [wg5] at p614
                              try rw [wg6] at p614
                              clear w604 w605 w606 w607 w608 w609
                              have R100 : ∀ q : Int, m610.1 100 q = if q = a3 then 0 else μ.1 100 q := fun q => by rw [qm610.1 100 (by decide) rfl, em602, zu_ne (by decide), em594, zu_ne (by decide), em585]; by_cases hq : q = a3 <;> first | (rw [if_pos hq, hq]; exact zu_at) | (rw [if_neg hq, zu_nk hq, em576, zu_ne (by decide)])
                              have R101 : ∀ q : Int, m610.1 101 q = if q = a3 then x234 else μ.1 101 q := fun q => by rw [qm610.1 101 (by decide) rfl, em602, zu_ne (by decide), em594]; by_cases hq : q = a3 <;> first | (rw [if_pos hq, hq]; exact zu_at) | (rw [if_neg hq, zu_nk hq, em585, zu_ne (by decide), em576, zu_ne (by decide)])
                              have R102 : ∀ q : Int, m610.1 102 q = if q = a3 then 0 else μ.1 102 q := fun q => by rw [qm610.1 102 (by decide) rfl, em602]; by_cases hq : q = a3 <;> first | (rw [if_pos hq, hq]; exact zu_at) | (rw [if_neg hq, zu_nk hq, em594, zu_ne (by decide), em585, zu_ne (by decide), em576, zu_ne (by decide)])
                              exact And.intro (zrtb (by omega)) (And.intro ⟨by omega, by omega⟩ (hQ _ _ z615 (by omega) (by omega) (by (try rw [wg618]) <;> (try rw [w616]) <;> (try rw [wg619]) <;> (try rw [wg620]) <;> (try rw [wg621]) <;> (try rw [w617]) <;> (try rw [wg1]) <;> (try rw [wg2]) <;> (try rw [wg3]) <;> (try rw [wg4]) <;> (try rw [wg5]) <;> (try rw [wg6]) <;> omega) (by (try rw [wg618]) <;> (try rw [w616]) <;> (try rw [wg619]) <;> (try rw [wg620]) <;> (try rw [wg621]) <;> (try rw [w617]) <;> (try rw [wg1]) <;> (try rw [wg2]) <;> (try rw [wg3]) <;> (try rw [wg4]) <;> (try rw [wg5]) <;> (try rw [wg6]) <;> omega) (by (try rw [wg618]) <;> (try rw [w616]) <;> (try rw [wg619]) <;> (try rw [wg620]) <;> (try rw [wg621]) <;> (try rw [w617]) <;> (try rw [wg1]) <;> (try rw [wg2]) <;> (try rw [wg3]) <;> (try rw [wg4]) <;> (try rw [wg5]) <;> (try rw [wg6]) <;> omega) (fun _ => by rw [R102, R100, R101, if_pos rfl, if_pos rfl, if_pos rfl]; omega) (fun q hq => ⟨by rw [R100, if_neg hq], by rw [R101, if_neg hq], by rw [R102, if_neg hq]⟩) (fun _ => by rw [R100, R101, if_pos rfl, if_pos rfl]; exact ⟨fun h => by exfalso; omega, fun h => by omega⟩) (fun _ _ => by rw [R100, R101, if_pos rfl, if_pos rfl]; exact ⟨fun h => by omega, fun h => by omega, by omega⟩)))
                            · exfalso; omega
                          · exfalso; omega
                        · exfalso; omega
                · refine ⟨zk_X9_fail, zm_X9_fail hg d (by omega), _, rfl, ⟨by omega, by omega⟩, ?_⟩
                  intro x622 m623 qm623 kx622 lx622
                  have z624 := zfx_t z0 qm623 rfl rfl
                  have w625 : m623.1 66 ((31 : Nat) : Int) = g1 := (qm623.2.1 31 rfl).trans wg1
                  have w626 : m623.1 66 ((30 : Nat) : Int) = g2 := (qm623.2.1 30 rfl).trans wg2
                  have w627 : m623.1 66 ((33 : Nat) : Int) = g3 := (qm623.2.1 33 rfl).trans wg3
                  have w628 : m623.1 66 ((34 : Nat) : Int) = g4 := (qm623.2.1 34 rfl).trans wg4
                  have w629 : m623.1 66 ((32 : Nat) : Int) = g5 := (qm623.2.1 32 rfl).trans wg5
                  have w630 : m623.1 66 ((38 : Nat) : Int) = g6 := (qm623.2.1 38 rfl).trans wg6
                  exact And.intro (zrtb (by omega)) (And.intro ⟨by omega, by omega⟩ (hQ _ _ z624 (by omega) (by omega) (by (try rw [w625]) <;> (try rw [w626]) <;> (try rw [w627]) <;> (try rw [w628]) <;> (try rw [w629]) <;> (try rw [w630]) <;> (try rw [wg1]) <;> (try rw [wg2]) <;> (try rw [wg3]) <;> (try rw [wg4]) <;> (try rw [wg5]) <;> (try rw [wg6]) <;> omega) (by (try rw [w625]) <;> (try rw [w626]) <;> (try rw [w627]) <;> (try rw [w628]) <;> (try rw [w629]) <;> (try rw [w630]) <;> (try rw [wg1]) <;> (try rw [wg2]) <;> (try rw [wg3]) <;> (try rw [wg4]) <;> (try rw [wg5]) <;> (try rw [wg6]) <;> omega) (by (try rw [w625]) <;> (try rw [w626]) <;> (try rw [w627]) <;> (try rw [w628]) <;> (try rw [w629]) <;> (try rw [w630]) <;> (try rw [wg1]) <;> (try rw [wg2]) <;> (try rw [wg3]) <;> (try rw [wg4]) <;> (try rw [wg5]) <;> (try rw [wg6]) <;> omega) (fun h => by omega) (fun q _ => ⟨by rw [qm623.1 100 (by decide) rfl], by rw [qm623.1 101 (by decide) rfl], by rw [qm623.1 102 (by decide) rfl]⟩) (fun h => by omega) (fun h _ => by omega)))
        · refine ⟨zk_X9_fail, zm_X9_fail hg d (by omega), _, rfl, ⟨by omega, by omega⟩, ?_⟩
          intro x631 m632 qm632 kx631 lx631
          have z633 := zfx_t z0 qm632 rfl rfl
          have w634 : m632.1 66 ((31 : Nat) : Int) = g1 := (qm632.2.1 31 rfl).trans wg1
          have w635 : m632.1 66 ((30 : Nat) : Int) = g2 := (qm632.2.1 30 rfl).trans wg2
          have w636 : m632.1 66 ((33 : Nat) : Int) = g3 := (qm632.2.1 33 rfl).trans wg3
          have w637 : m632.1 66 ((34 : Nat) : Int) = g4 := (qm632.2.1 34 rfl).trans wg4
          have w638 : m632.1 66 ((32 : Nat) : Int) = g5 := (qm632.2.1 32 rfl).trans wg5
          have w639 : m632.1 66 ((38 : Nat) : Int) = g6 := (qm632.2.1 38 rfl).trans wg6
          exact And.intro (zrtb (by omega)) (And.intro ⟨by omega, by omega⟩ (hQ _ _ z633 (by omega) (by omega) (by (try rw [w634]) <;> (try rw [w635]) <;> (try rw [w636]) <;> (try rw [w637]) <;> (try rw [w638]) <;> (try rw [w639]) <;> (try rw [wg1]) <;> (try rw [wg2]) <;> (try rw [wg3]) <;> (try rw [wg4]) <;> (try rw [wg5]) <;> (try rw [wg6]) <;> omega) (by (try rw [w634]) <;> (try rw [w635]) <;> (try rw [w636]) <;> (try rw [w637]) <;> (try rw [w638]) <;> (try rw [w639]) <;> (try rw [wg1]) <;> (try rw [wg2]) <;> (try rw [wg3]) <;> (try rw [wg4]) <;> (try rw [wg5]) <;> (try rw [wg6]) <;> omega) (by (try rw [w634]) <;> (try rw [w635]) <;> (try rw [w636]) <;> (try rw [w637]) <;> (try rw [w638]) <;> (try rw [w639]) <;> (try rw [wg1]) <;> (try rw [wg2]) <;> (try rw [wg3]) <;> (try rw [wg4]) <;> (try rw [wg5]) <;> (try rw [wg6]) <;> omega) (fun h => by omega) (fun q _ => ⟨by rw [qm632.1 100 (by decide) rfl], by rw [qm632.1 101 (by decide) rfl], by rw [qm632.1 102 (by decide) rfl]⟩) (fun h => by omega) (fun h _ => by omega)))
  · clear c8
    refine ⟨zk_X9_fail, zm_X9_fail hg d (by omega), _, rfl, ⟨by omega, by omega⟩, ?_⟩
    intro x640 m641 qm641 kx640 lx640
    have z642 := zfx_t z0 qm641 rfl rfl
    have w643 : m641.1 66 ((31 : Nat) : Int) = g1 := (qm641.2.1 31 rfl).trans wg1
    have w644 : m641.1 66 ((30 : Nat) : Int) = g2 := (qm641.2.1 30 rfl).trans wg2
    have w645 : m641.1 66 ((33 : Nat) : Int) = g3 := (qm641.2.1 33 rfl).trans wg3
    have w646 : m641.1 66 ((34 : Nat) : Int) = g4 := (qm641.2.1 34 rfl).trans wg4
    have w647 : m641.1 66 ((32 : Nat) : Int) = g5 := (qm641.2.1 32 rfl).trans wg5
    have w648 : m641.1 66 ((38 : Nat) : Int) = g6 := (qm641.2.1 38 rfl).trans wg6
    exact And.intro (zrtb (by omega)) (And.intro ⟨by omega, by omega⟩ (hQ _ _ z642 (by omega) (by omega) (by (try rw [w643]) <;> (try rw [w644]) <;> (try rw [w645]) <;> (try rw [w646]) <;> (try rw [w647]) <;> (try rw [w648]) <;> (try rw [wg1]) <;> (try rw [wg2]) <;> (try rw [wg3]) <;> (try rw [wg4]) <;> (try rw [wg5]) <;> (try rw [wg6]) <;> omega) (by (try rw [w643]) <;> (try rw [w644]) <;> (try rw [w645]) <;> (try rw [w646]) <;> (try rw [w647]) <;> (try rw [w648]) <;> (try rw [wg1]) <;> (try rw [wg2]) <;> (try rw [wg3]) <;> (try rw [wg4]) <;> (try rw [wg5]) <;> (try rw [wg6]) <;> omega) (by (try rw [w643]) <;> (try rw [w644]) <;> (try rw [w645]) <;> (try rw [w646]) <;> (try rw [w647]) <;> (try rw [w648]) <;> (try rw [wg1]) <;> (try rw [wg2]) <;> (try rw [wg3]) <;> (try rw [wg4]) <;> (try rw [wg5]) <;> (try rw [wg6]) <;> omega) (fun h => by omega) (fun q _ => ⟨by rw [qm641.1 100 (by decide) rfl], by rw [qm641.1 101 (by decide) rfl], by rw [qm641.1 102 (by decide) rfl]⟩) (fun h => by omega) (fun h _ => by omega)))
