/-! ### a question is read -/
def zk_X9_forgetAsked2 : zC := fun As μ Q => As = [.inr (.inr (66, 66))] ∧ (∀ (μ' : zM), zfx [] [45, 46, 47, 48] μ μ' → (μ'.1 66 ((45 : Nat) : Int) = 0 ∧ μ'.1 66 ((46 : Nat) : Int) = 0 ∧ μ'.1 66 ((47 : Nat) : Int) = 0 ∧ μ'.1 66 ((48 : Nat) : Int) = 0) → Q none μ')
set_option maxHeartbeats 400000 in
theorem zm_X9_forgetAsked2 {g : zΓ} (hg : zg g) (d : Nat) (hd : 1 ≤ d) : zOk g d 119 zk_X9_forgetAsked2 := by
  obtain ⟨d, rfl⟩ : ∃ d', d = d' + 1 := ⟨d - 1, by omega⟩
  refine zOk_straight hg (show mt_tab[119]? = some mt_X9_forgetAsked from rfl) [] 18 rfl fun As μ Q hC => ?_
  obtain ⟨rfl, hQ⟩ := hC
  obtain ⟨g1, wg1⟩ : ∃ z : Int, μ.1 66 ((45 : Nat) : Int) = z := ⟨_, rfl⟩
  obtain ⟨g2, wg2⟩ : ∃ z : Int, μ.1 66 ((46 : Nat) : Int) = z := ⟨_, rfl⟩
  obtain ⟨g3, wg3⟩ : ∃ z : Int, μ.1 66 ((47 : Nat) : Int) = z := ⟨_, rfl⟩
  obtain ⟨g4, wg4⟩ : ∃ z : Int, μ.1 66 ((48 : Nat) : Int) = z := ⟨_, rfl⟩
  refine ⟨rfl, ?_⟩
  have z0 : zfx [] [45, 46, 47, 48] μ μ := zfx_x μ
  refine And.intro ⟨by omega, by omega⟩ ?_
  intro m5 em5
  have z6 := zfx_f z0 em5 rfl
  have w7 : m5.1 66 ((45 : Nat) : Int) = 0 := by rw [em5]; exact zu_at
  have w8 : m5.1 66 ((46 : Nat) : Int) = g2 := by rw [em5]; exact (zu_nk (by decide)).trans wg2
  have w9 : m5.1 66 ((47 : Nat) : Int) = g3 := by rw [em5]; exact (zu_nk (by decide)).trans wg3
  have w10 : m5.1 66 ((48 : Nat) : Int) = g4 := by rw [em5]; exact (zu_nk (by decide)).trans wg4
  refine And.intro ⟨by omega, by omega⟩ ?_
  intro m11 em11
  have z12 := zfx_f z6 em11 rfl
  have w13 : m11.1 66 ((45 : Nat) : Int) = 0 := by rw [em11]; exact (zu_nk (by decide)).trans w7
  have w14 : m11.1 66 ((46 : Nat) : Int) = 0 := by rw [em11]; exact zu_at
  have w15 : m11.1 66 ((47 : Nat) : Int) = g3 := by rw [em11]; exact (zu_nk (by decide)).trans w9
  have w16 : m11.1 66 ((48 : Nat) : Int) = g4 := by rw [em11]; exact (zu_nk (by decide)).trans w10
  clear w7 w8 w9 w10
  refine And.intro ⟨by omega, by omega⟩ ?_
  intro m17 em17
  have z18 := zfx_f z12 em17 rfl
  have w19 : m17.1 66 ((45 : Nat) : Int) = 0 := by rw [em17]; exact (zu_nk (by decide)).trans w13
  have w20 : m17.1 66 ((46 : Nat) : Int) = 0 := by rw [em17]; exact (zu_nk (by decide)).trans w14
  have w21 : m17.1 66 ((47 : Nat) : Int) = 0 := by rw [em17]; exact zu_at
  have w22 : m17.1 66 ((48 : Nat) : Int) = g4 := by rw [em17]; exact (zu_nk (by decide)).trans w16
  clear w13 w14 w15 w16
  refine And.intro ⟨by omega, by omega⟩ ?_
  intro m23 em23
  have z24 := zfx_f z18 em23 rfl
  have w25 : m23.1 66 ((45 : Nat) : Int) = 0 := by rw [em23]; exact (zu_nk (by decide)).trans w19
  have w26 : m23.1 66 ((46 : Nat) : Int) = 0 := by rw [em23]; exact (zu_nk (by decide)).trans w20
  have w27 : m23.1 66 ((47 : Nat) : Int) = 0 := by rw [em23]; exact (zu_nk (by decide)).trans w21
  have w28 : m23.1 66 ((48 : Nat) : Int) = 0 := by rw [em23]; exact zu_at
  clear w19 w20 w21 w22
  exact And.intro rfl (hQ _ z24 (by (try rw [w25]) <;> (try rw [w26]) <;> (try rw [w27]) <;> (try rw [w28]) <;> (try rw [wg1]) <;> (try rw [wg2]) <;> (try rw [wg3]) <;> (try rw [wg4]) <;> omega))
def zk_X9_begin2 : zC := fun As μ Q => As = [.inr (.inr (66, 66))] ∧ (∀ (μ' : zM), zfx [] [29, 30, 31, 32, 33, 34, 35, 38] μ μ' → (0 ≤ μ'.1 66 ((33 : Nat) : Int) ∧ 0 ≤ μ'.1 66 ((34 : Nat) : Int) ∧ μ'.1 66 ((33 : Nat) : Int) + μ'.1 66 ((34 : Nat) : Int) ≤ μ'.1 66 ((31 : Nat) : Int) ∧ μ'.1 66 ((31 : Nat) : Int) ≤ μ'.1 66 ((30 : Nat) : Int) ∧ μ'.1 66 ((30 : Nat) : Int) ≤ 800) → (μ'.1 66 ((38 : Nat) : Int) = 0 ∧ μ'.1 66 ((29 : Nat) : Int) = 0) → Q none μ')
set_option maxHeartbeats 400000 in
theorem zm_X9_begin2 {g : zΓ} (hg : zg g) (d : Nat) (hd : 4 ≤ d) : zOk g d 148 zk_X9_begin2 := by
  obtain ⟨d, rfl⟩ : ∃ d', d = d' + 1 := ⟨d - 1, by omega⟩
  refine zOk_straight hg (show mt_tab[148]? = some mt_X9_begin from rfl) [] 24 rfl fun As μ Q hC => ?_
  obtain ⟨rfl, hQ⟩ := hC
  obtain ⟨g1, wg1⟩ : ∃ z : Int, μ.1 66 ((31 : Nat) : Int) = z := ⟨_, rfl⟩
  obtain ⟨g2, wg2⟩ : ∃ z : Int, μ.1 66 ((30 : Nat) : Int) = z := ⟨_, rfl⟩
  obtain ⟨g3, wg3⟩ : ∃ z : Int, μ.1 66 ((33 : Nat) : Int) = z := ⟨_, rfl⟩
  obtain ⟨g4, wg4⟩ : ∃ z : Int, μ.1 66 ((34 : Nat) : Int) = z := ⟨_, rfl⟩
  obtain ⟨g5, wg5⟩ : ∃ z : Int, μ.1 66 ((32 : Nat) : Int) = z := ⟨_, rfl⟩
  obtain ⟨g6, wg6⟩ : ∃ z : Int, μ.1 66 ((38 : Nat) : Int) = z := ⟨_, rfl⟩
  obtain ⟨g7, wg7⟩ : ∃ z : Int, μ.1 66 ((29 : Nat) : Int) = z := ⟨_, rfl⟩
  refine ⟨rfl, ?_⟩
  have z0 : zfx [] [29, 30, 31, 32, 33, 34, 35, 38] μ μ := zfx_x μ
  intro x8 hx8 kx8 lx8
  rw [wg7] at hx8
  refine And.intro ⟨by omega, by omega⟩ ?_
  intro m9 em9
  have z10 := zfx_f z0 em9 rfl
  have w11 : m9.1 66 ((31 : Nat) : Int) = g1 := by rw [em9]; exact (zu_nk (by decide)).trans wg1
  have w12 : m9.1 66 ((30 : Nat) : Int) = x8 := by rw [em9]; exact zu_at
  have w13 : m9.1 66 ((33 : Nat) : Int) = g3 := by rw [em9]; exact (zu_nk (by decide)).trans wg3
  have w14 : m9.1 66 ((34 : Nat) : Int) = g4 := by rw [em9]; exact (zu_nk (by decide)).trans wg4
  have w15 : m9.1 66 ((32 : Nat) : Int) = g5 := by rw [em9]; exact (zu_nk (by decide)).trans wg5
  have w16 : m9.1 66 ((38 : Nat) : Int) = g6 := by rw [em9]; exact (zu_nk (by decide)).trans wg6
  have w17 : m9.1 66 ((29 : Nat) : Int) = g7 := by rw [em9]; exact (zu_nk (by decide)).trans wg7
  refine And.intro ⟨by omega, by omega⟩ ?_
  intro m18 em18
  have z19 := zfx_f z10 em18 rfl
  have w20 : m18.1 66 ((31 : Nat) : Int) = g1 := by rw [em18]; exact (zu_nk (by decide)).trans w11
  have w21 : m18.1 66 ((30 : Nat) : Int) = x8 := by rw [em18]; exact (zu_nk (by decide)).trans w12
  have w22 : m18.1 66 ((33 : Nat) : Int) = g3 := by rw [em18]; exact (zu_nk (by decide)).trans w13
  have w23 : m18.1 66 ((34 : Nat) : Int) = g4 := by rw [em18]; exact (zu_nk (by decide)).trans w14
  have w24 : m18.1 66 ((32 : Nat) : Int) = g5 := by rw [em18]; exact (zu_nk (by decide)).trans w15
  have w25 : m18.1 66 ((38 : Nat) : Int) = g6 := by rw [em18]; exact (zu_nk (by decide)).trans w16
  have w26 : m18.1 66 ((29 : Nat) : Int) = 0 := by rw [em18]; exact zu_at
  clear w11 w12 w13 w14 w15 w16 w17
  refine And.intro ⟨by omega, by omega⟩ ?_
  intro m27 em27
  have z28 := zfx_f z19 em27 rfl
  have w29 : m27.1 66 ((31 : Nat) : Int) = 0 := by rw [em27]; exact zu_at
  have w30 : m27.1 66 ((30 : Nat) : Int) = x8 := by rw [em27]; exact (zu_nk (by decide)).trans w21
  have w31 : m27.1 66 ((33 : Nat) : Int) = g3 := by rw [em27]; exact (zu_nk (by decide)).trans w22
  have w32 : m27.1 66 ((34 : Nat) : Int) = g4 := by rw [em27]; exact (zu_nk (by decide)).trans w23
  have w33 : m27.1 66 ((32 : Nat) : Int) = g5 := by rw [em27]; exact (zu_nk (by decide)).trans w24
  have w34 : m27.1 66 ((38 : Nat) : Int) = g6 := by rw [em27]; exact (zu_nk (by decide)).trans w25
  have w35 : m27.1 66 ((29 : Nat) : Int) = 0 := by rw [em27]; exact (zu_nk (by decide)).trans w26
  clear w20 w21 w22 w23 w24 w25 w26
  refine And.intro ⟨by omega, by omega⟩ ?_
  intro m36 em36
  have z37 := zfx_f z28 em36 rfl
  have w38 : m36.1 66 ((31 : Nat) : Int) = 0 := by rw [em36]; exact (zu_nk (by decide)).trans w29
  have w39 : m36.1 66 ((30 : Nat) : Int) = x8 := by rw [em36]; exact (zu_nk (by decide)).trans w30
  have w40 : m36.1 66 ((33 : Nat) : Int) = g3 := by rw [em36]; exact (zu_nk (by decide)).trans w31
  have w41 : m36.1 66 ((34 : Nat) : Int) = g4 := by rw [em36]; exact (zu_nk (by decide)).trans w32
  have w42 : m36.1 66 ((32 : Nat) : Int) = g5 := by rw [em36]; exact (zu_nk (by decide)).trans w33
  have w43 : m36.1 66 ((38 : Nat) : Int) = g6 := by rw [em36]; exact (zu_nk (by decide)).trans w34
  have w44 : m36.1 66 ((29 : Nat) : Int) = 0 := by rw [em36]; exact (zu_nk (by decide)).trans w35
  clear w29 w30 w31 w32 w33 w34 w35
  refine And.intro ⟨by omega, by omega⟩ ?_
  intro m45 em45
  have z46 := zfx_f z37 em45 rfl
  have w47 : m45.1 66 ((31 : Nat) : Int) = 0 := by rw [em45]; exact (zu_nk (by decide)).trans w38
  have w48 : m45.1 66 ((30 : Nat) : Int) = x8 := by rw [em45]; exact (zu_nk (by decide)).trans w39
  have w49 : m45.1 66 ((33 : Nat) : Int) = g3 := by rw [em45]; exact (zu_nk (by decide)).trans w40
  have w50 : m45.1 66 ((34 : Nat) : Int) = g4 := by rw [em45]; exact (zu_nk (by decide)).trans w41
  have w51 : m45.1 66 ((32 : Nat) : Int) = g5 := by rw [em45]; exact (zu_nk (by decide)).trans w42
  have w52 : m45.1 66 ((38 : Nat) : Int) = 0 := by rw [em45]; exact zu_at
  have w53 : m45.1 66 ((29 : Nat) : Int) = 0 := by rw [em45]; exact (zu_nk (by decide)).trans w44
  clear w38 w39 w40 w41 w42 w43 w44
  refine ⟨zk_X9_pass, zm_X9_pass hg d (by omega), rfl, (by (try rw [w47]) <;> (try rw [w48]) <;> (try rw [w49]) <;> (try rw [w50]) <;> (try rw [w51]) <;> (try rw [w52]) <;> (try rw [w53]) <;> (try rw [wg1]) <;> (try rw [wg2]) <;> (try rw [wg3]) <;> (try rw [wg4]) <;> (try rw [wg5]) <;> (try rw [wg6]) <;> (try rw [wg7]) <;> omega), ?_⟩
  intro m54 qm54 p55 p56 p57 p58
  have z59 := zfx_t z46 qm54 rfl rfl
  have w60 : m54.1 66 ((30 : Nat) : Int) = x8 := (qm54.2.1 30 rfl).trans w48
  have w61 : m54.1 66 ((38 : Nat) : Int) = 0 := (qm54.2.1 38 rfl).trans w52
  have w62 : m54.1 66 ((29 : Nat) : Int) = 0 := (qm54.2.1 29 rfl).trans w53
  obtain ⟨g63, wg63⟩ : ∃ z : Int, m54.1 66 ((31 : Nat) : Int) = z := ⟨_, rfl⟩
  obtain ⟨g64, wg64⟩ : ∃ z : Int, m54.1 66 ((33 : Nat) : Int) = z := ⟨_, rfl⟩
  obtain ⟨g65, wg65⟩ : ∃ z : Int, m54.1 66 ((34 : Nat) : Int) = z := ⟨_, rfl⟩
  obtain ⟨g66, wg66⟩ : ∃ z : Int, m54.1 66 ((32 : Nat) : Int) = z := ⟨_, rfl⟩
  try rw [wg63] at p55
  try rw [w60] at p55
  try rw [wg64] at p55
  try rw [wg65] at p55
  try rw [wg66] at p55
  try rw [w61] at p55
  try rw [w62] at p55
  try rw [w47] at p55
  try rw [w48] at p55
  try rw [w49] at p55
  try rw [w50] at p55
  try rw [w51] at p55
  try rw [w52] at p55
  try rw [w53] at p55
  try rw [wg1] at p55
  try rw [wg2] at p55
  try rw [wg3] at p55
  try rw [wg4] at p55
  try rw [wg5] at p55
  try rw [wg6] at p55
  try rw [wg7] at p55
  try rw [wg63] at p56
  try rw [w60] at p56
  try rw [wg64] at p56
  try rw [wg65] at p56
  try rw [wg66] at p56
  try rw [w61] at p56
  try rw [w62] at p56
  try rw [w47] at p56
  try rw [w48] at p56
  try rw [w49] at p56
  try rw [w50] at p56
  try rw [w51] at p56
  try rw [w52] at p56
  try rw [w53] at p56
  try rw [wg1] at p56
  try rw [wg2] at p56
  try rw [wg3] at p56
  try rw [wg4] at p56
  try rw [wg5] at p56
  try rw [wg6] at p56
  try rw [wg7] at p56
  try rw [wg63] at p57
  try rw [w60] at p57
  try rw [wg64] at p57
  try rw [wg65] at p57
  try rw [wg66] at p57
  try rw [w61] at p57
  try rw [w62] at p57
  try rw [w47] at p57
  try rw [w48] at p57
  try rw [w49] at p57
  try rw [w50] at p57
  try rw [w51] at p57
  try rw [w52] at p57
  try rw [w53] at p57
  try rw [wg1] at p57
  try rw [wg2] at p57
  try rw [wg3] at p57
  try rw [wg4] at p57
  try rw [wg5] at p57
  try rw [wg6] at p57
  try rw [wg7] at p57
  try rw [wg63] at p58
  try rw [w60] at p58
  try rw [wg64] at p58
  try rw [wg65] at p58
  try rw [wg66] at p58
  try rw [w61] at p58
  try rw [w62] at p58
  try rw [w47] at p58
  try rw [w48] at p58
  try rw [w49] at p58
  try rw [w50] at p58
  try rw [w51] at p58
  try rw [w52] at p58
  try rw [w53] at p58
  try rw [wg1] at p58
  try rw [wg2] at p58
  try rw [wg3] at p58
  try rw [wg4] at p58
  try rw [wg5] at p58
  try rw [wg6] at p58
  try rw [wg7] at p58
  clear w47 w48 w49 w50 w51 w52 w53
  exact And.intro rfl (hQ _ z59 (by (try rw [wg63]) <;> (try rw [w60]) <;> (try rw [wg64]) <;> (try rw [wg65]) <;> (try rw [wg66]) <;> (try rw [w61]) <;> (try rw [w62]) <;> (try rw [wg1]) <;> (try rw [wg2]) <;> (try rw [wg3]) <;> (try rw [wg4]) <;> (try rw [wg5]) <;> (try rw [wg6]) <;> (try rw [wg7]) <;> omega) (by (try rw [wg63]) <;> (try rw [w60]) <;> (try rw [wg64]) <;> (try rw [wg65]) <;> (try rw [wg66]) <;> (try rw [w61]) <;> (try rw [w62]) <;> (try rw [wg1]) <;> (try rw [wg2]) <;> (try rw [wg3]) <;> (try rw [wg4]) <;> (try rw [wg5]) <;> (try rw [wg6]) <;> (try rw [wg7]) <;> omega))
def zk_X9_readTwice : zC := fun As μ Q => ∃ (a1 : Int) (C : Int) (Pn : Int) (tt : Int) (K : Int), As = [.inr (.inr (66, 66)), .inl a1] ∧ (0 ≤ a1 ∧ a1 ≤ 1) ∧ (zQS μ C Pn tt K) ∧ (C = μ.1 66 ((20 : Nat) : Int) ∧ Pn = μ.1 66 ((21 : Nat) : Int) ∧ tt = μ.1 66 ((23 : Nat) : Int)) ∧ (K + 6000 ≤ 1999990000) ∧ (∀ (v : Int) (μ' : zM), zfx [67, 68, 69, 70, 71, 72, 73, 74, 100, 101, 102, 103, 104] [7, 8, 24, 25, 26, 27, 29, 30, 31, 32, 33, 34, 35, 36, 37, 38, 45, 46, 47, 48, 70, 71, 72] μ μ' → 0 ≤ v → v ≤ 1 → (zQS μ' C Pn tt (K + 6000)) → (v = 1 → μ'.1 66 ((45 : Nat) : Int) = 0 ∧ μ'.1 66 ((46 : Nat) : Int) = 0 ∧ zTy μ' (μ'.1 66 ((71 : Nat) : Int)) ∧ (a1 = 1 → zTy μ' (μ'.1 66 ((72 : Nat) : Int))) ∧ (a1 = 0 → 0 ≤ μ'.1 66 ((72 : Nat) : Int) ∧ μ'.1 66 ((72 : Nat) : Int) < C)) → (μ'.1 66 ((29 : Nat) : Int) = 0) → Q (some (.inl v)) μ')
set_option maxHeartbeats 400000 in
theorem zm_X9_readTwice {g : zΓ} (hg : zg g) (d : Nat) (hd : 7 ≤ d) : zOk g d 159 zk_X9_readTwice := by
  obtain ⟨d, rfl⟩ : ∃ d', d = d' + 1 := ⟨d - 1, by omega⟩
  refine zOk_straight hg (show mt_tab[159]? = some mt_X9_readTwice from rfl) [] 69 rfl fun As μ Q hC => ?_
  obtain ⟨a1, C, Pn, tt, K, rfl, ha1, hp0, hp1, hp2, hQ⟩ := hC
  refine ⟨rfl, ?_⟩
  have z0 : zfx [67, 68, 69, 70, 71, 72, 73, 74, 100, 101, 102, 103, 104] [7, 8, 24, 25, 26, 27, 29, 30, 31, 32, 33, 34, 35, 36, 37, 38, 45, 46, 47, 48, 70, 71, 72] μ μ := zfx_x μ
  intro x1 hx1 kx1 lx1
  have HAD : x1 = zTop μ := hx1
  refine And.intro ⟨by omega, by omega⟩ ?_
  intro m2 em2
  have z3 := zfx_f z0 em2 rfl
  refine And.intro ⟨by omega, by omega⟩ ?_
  intro m4 em4
  have z5 := zfx_f z3 em4 rfl
  intro x6 hx6 kx6 lx6
  have X20 : x6 = μ.1 66 ((20 : Nat) : Int) := by rw [hx6, em4, zu_nk (by decide), em2, zu_nk (by decide)]
  refine And.intro ⟨by omega, by omega⟩ ?_
  intro m7 em7
  have z8 := zfx_f z5 em7 rfl
  intro x9 hx9 kx9 lx9
  refine And.intro ⟨by omega, by omega⟩ ?_
  intro m10 em10
  have z11 := zfx_f z8 em10 rfl
  have C1 : ∀ j : Nat, j ≠ 66 → m10.1 j = μ.1 j := fun j hj => by rw [em10, zu_ne hj, em7, zu_ne hj, em4, zu_ne hj, em2, zu_ne hj]
  refine ⟨zk_X9_begin2, zm_X9_begin2 hg d (by omega), rfl, ?_⟩
  intro m12 qm12 p13 p14
  have z15 := zfx_t z11 qm12 rfl rfl
  have C5 : ∀ j : Nat, j ≠ 66 → m12.1 j = μ.1 j := fun j hj => (qm12.1 j hj rfl).trans (C1 j hj)
  have D8 : m12.1 66 ((8 : Nat) : Int) = μ.1 66 ((8 : Nat) : Int) := (qm12.2.1 8 rfl).trans (by rw [em10, zu_nk (by decide), em7, zu_nk (by decide), em4, zu_nk (by decide), em2, zu_nk (by decide)])
  have D45 : m12.1 66 ((45 : Nat) : Int) = μ.1 66 ((45 : Nat) : Int) := (qm12.2.1 45 rfl).trans (by rw [em10, zu_nk (by decide), em7, zu_nk (by decide), em4, zu_nk (by decide), em2, zu_nk (by decide)])
  have D48 : m12.1 66 ((48 : Nat) : Int) = μ.1 66 ((48 : Nat) : Int) := (qm12.2.1 48 rfl).trans (by rw [em10, zu_nk (by decide), em7, zu_nk (by decide), em4, zu_nk (by decide), em2, zu_nk (by decide)])
  have D60 : m12.1 66 ((60 : Nat) : Int) = μ.1 66 ((60 : Nat) : Int) := (qm12.2.1 60 rfl).trans (by rw [em10, zu_nk (by decide), em7, zu_nk (by decide), em4, zu_nk (by decide), em2, zu_nk (by decide)])
  have D23 : m12.1 66 ((23 : Nat) : Int) = μ.1 66 ((23 : Nat) : Int) := (qm12.2.1 23 rfl).trans (by rw [em10, zu_nk (by decide), em7, zu_nk (by decide), em4, zu_nk (by decide), em2, zu_nk (by decide)])
  have T5 : zTop m12 = zTop μ := D8
  have N5 : zND m12 0 := zND_t.2 (by rw [T5]; exact zNDt_same (fun j a b => C5 j (by omega)) (zND_t.1 hp0.1.1))
  have W5 : zWf m12 0 (zTop m12) C Pn (μ.1 66 ((45 : Nat) : Int)) (μ.1 77) := by rw [T5]; exact zWf_same hp0.1.2.2.2.2.1 (fun j a b => C5 j (by omega)) rfl
  have TM := zQS_top hp0
  have HB := hp0.1.2.1.1
  have HTC := hp0.1.2.1.2.1
  refine And.intro ⟨by omega, by omega⟩ (And.intro (fun c16 => ?_) (fun c16 => ?_))
  · refine ⟨zk_X9_readPlace, zm_X9_readPlace hg d (by omega), _, _, _, _, _, rfl, p13, N5, W5, (by rw [show m12.1 66 ((26 : Nat) : Int) = μ.1 66 ((20 : Nat) : Int) from (qm12.2.1 26 rfl).trans (by rw [em10, zu_nk (by decide), em7, zu_at, X20]), show m12.1 66 ((24 : Nat) : Int) = 0 from (qm12.2.1 24 rfl).trans (by rw [em10, zu_nk (by decide), em7, zu_nk (by decide), em4, zu_nk (by decide), em2, zu_at]), C5 76 (by decide), C5 77 (by decide)]; exact ⟨Int.le_of_eq hp1.1.symm, fun c a b => by rw [Int.zero_add]; exact (HTC c a b).2.2.2.1, HB.2.1, HB.2.2.2.1⟩), (fun v a b => by rw [show m12.1 66 ((24 : Nat) : Int) = 0 from (qm12.2.1 24 rfl).trans (by rw [em10, zu_nk (by decide), em7, zu_nk (by decide), em4, zu_nk (by decide), em2, zu_at]), C5 77 (by decide), Int.zero_add]), (by rw [D8, p14.1]; exact zar1 TM), (by rw [show m12.1 66 ((26 : Nat) : Int) = μ.1 66 ((20 : Nat) : Int) from (qm12.2.1 26 rfl).trans (by rw [em10, zu_nk (by decide), em7, zu_at, X20])]; rw [← hp1.1]; exact zar0 HB.1), ?_⟩
    intro x17 m18 qm18 kx17 lx17 p19 p20 p21 p22
    have z23 := zfx_t z15 qm18 rfl rfl
    clear p19 p22
    have E6 : m18.1 66 ((30 : Nat) : Int) ≤ 800 ∧ 0 ≤ m18.1 66 ((30 : Nat) : Int) := by have h1 := p21; have h2 := p13; omega
    clear p21 p13
    have O6 : zOld μ m18 (zTop μ) := zOld_l (fun j a b => C5 j (by omega)) (by rw [← T5]; exact p20.1.2.2.1)
    intro x24 hx24 kx24 lx24
    refine And.intro ⟨by omega, by omega⟩ ?_
    intro m25 em25
    have z26 := zfx_f z23 em25 rfl
    refine And.intro ⟨by omega, by omega⟩ (And.intro (fun c27 => ?_) (fun c27 => ?_))
    · intro x28 hx28 kx28 lx28
      rw [em25, zu_nk (by decide), qm18.2.1 23 rfl, D23] at hx28
      refine ⟨zk_X9_chainAgain, zm_X9_chainAgain hg d (by omega), _, _, rfl, ⟨by omega, by omega⟩, ⟨by omega, by omega⟩, (by omega), (fun x a b => by have h1 : x28 = tt := (by omega); have h3 := hp0.1.2.2.1; exact zNd_same (fun j c e => by rw [em25, zu_ne (by omega)]) (zOld_Nd O6 a (by omega) (hp0.1.1.2.1 x a (by omega)))), ?_⟩
      intro m29 qm29 p30 p31
      have z32 := zfx_t z26 qm29 rfl rfl
      have O8 : zOld μ m29 (zTop μ) := zOld_t O6 (zOld_same (fun j a b => by rw [qm29.1 j (by omega) (zanyF (by simp <;> omega)), em25, zu_ne (by omega)])) (Int.le_refl _)
      have C8 : ∀ j : Nat, 75 ≤ j → j ≤ 99 → m29.1 j = μ.1 j := fun j a b => by rw [qm29.1 j (by omega) (zanyF (by simp <;> omega)), em25, zu_ne (by omega), qm18.1 j (by omega) (zanyF (by simp <;> omega)), C5 j (by omega)]
      have G45 : m29.1 66 ((45 : Nat) : Int) = μ.1 66 ((45 : Nat) : Int) := by rw [qm29.2.1 45 rfl, em25, zu_nk (by decide), qm18.2.1 45 rfl, D45]
      have G48 : m29.1 66 ((48 : Nat) : Int) = μ.1 66 ((48 : Nat) : Int) := by rw [qm29.2.1 48 rfl, em25, zu_nk (by decide), qm18.2.1 48 rfl, D48]
      have G60 : m29.1 66 ((60 : Nat) : Int) = μ.1 66 ((60 : Nat) : Int) := by rw [qm29.2.1 60 rfl, em25, zu_nk (by decide), qm18.2.1 60 rfl, D60]
      refine And.intro ⟨by omega, by omega⟩ ?_
      intro m33 em33
      have z34 := zfx_f z32 em33 rfl
      refine And.intro ⟨by omega, by omega⟩ ?_
      intro m35 em35
      have z36 := zfx_f z34 em35 rfl
      refine ⟨zk_X9_pass, zm_X9_pass hg d (by omega), rfl, (by rw [show m35.1 66 ((31 : Nat) : Int) = 0 from (by rw [em35, zu_nk (by decide), em33, zu_at]), show m35.1 66 ((30 : Nat) : Int) = m18.1 66 ((30 : Nat) : Int) from (by rw [em35, zu_nk (by decide), em33, zu_nk (by decide), qm29.2.1 30 rfl, em25, zu_nk (by decide)])]; omega), ?_⟩
      intro m37 qm37 p38 p39 p40 p41
      have z42 := zfx_t z36 qm37 rfl rfl
      clear p39 p40 p41
      have CB : ∀ j : Nat, j ≠ 66 → m37.1 j = m29.1 j := fun j hj => (qm37.1 j hj rfl).trans (by rw [em35, zu_ne hj, em33, zu_ne hj])
      have H8 : m37.1 66 ((8 : Nat) : Int) = m29.1 66 ((8 : Nat) : Int) := (qm37.2.1 8 rfl).trans (by rw [em35, zu_nk (by decide), em33, zu_nk (by decide)])
      have H60 : m37.1 66 ((60 : Nat) : Int) = m29.1 66 ((60 : Nat) : Int) := (qm37.2.1 60 rfl).trans (by rw [em35, zu_nk (by decide), em33, zu_nk (by decide)])
      have H38 : m37.1 66 ((38 : Nat) : Int) = 0 := (qm37.2.1 38 rfl).trans (by rw [em35, zu_at])
      have TB : zTop m37 = tt := by rw [show zTop m37 = zTop m29 from H8, p31]; omega
      have NB : zND m37 0 := zND_t.2 (by rw [show zTop m37 = zTop m29 from H8]; exact zNDt_same (fun j a b => CB j (by omega)) (zND_t.1 p30))
      have QT := zQ_tab hp0.1 NB TB (zOld_t O8 (zOld_same (fun j a b => CB j (by omega))) (Int.le_refl _)) hp0.1.2.2.1 (fun j a b => by rw [CB j (by omega), C8 j (by omega) (by omega)])
      refine And.intro ⟨by omega, by omega⟩ (And.intro (fun c43 => ?_) (fun c43 => ?_))
      · have K24 : m37.1 66 ((24 : Nat) : Int) = 0 := (qm37.2.1 24 rfl).trans (by rw [em35, zu_nk (by decide), em33, zu_nk (by decide), qm29.2.1 24 rfl, em25, zu_nk (by decide), qm18.2.1 24 rfl, qm12.2.1 24 rfl, em10, zu_nk (by decide), em7, zu_nk (by decide), em4, zu_nk (by decide), em2, zu_at])
        have K26 : m37.1 66 ((26 : Nat) : Int) = μ.1 66 ((20 : Nat) : Int) := (qm37.2.1 26 rfl).trans (by rw [em35, zu_nk (by decide), em33, zu_nk (by decide), qm29.2.1 26 rfl, em25, zu_nk (by decide), qm18.2.1 26 rfl, qm12.2.1 26 rfl, em10, zu_nk (by decide), em7, zu_at, X20])
        have K76 : m37.1 76 = μ.1 76 := by rw [CB 76 (by decide), C8 76 (by decide) (by decide)]
        have K77 : m37.1 77 = μ.1 77 := by rw [CB 77 (by decide), C8 77 (by decide) (by decide)]
        refine ⟨zk_X9_readPlace, zm_X9_readPlace hg d (by omega), _, _, _, _, _, rfl, p38, NB, QT.2, (by rw [K26, K24, K76, K77]; exact ⟨Int.le_of_eq hp1.1.symm, fun c a b => by rw [Int.zero_add]; exact (HTC c a b).2.2.2.1, HB.2.1, HB.2.2.2.1⟩), (fun v a b => by rw [K24, Int.zero_add]), (by rw [show m37.1 66 ((8 : Nat) : Int) = tt from TB, H38]; exact zar2 HB.2.2.2.2.2), (by rw [K26, ← hp1.1]; exact zar0 HB.1), ?_⟩
        intro x44 m45 qm45 kx44 lx44 p46 p47 p48 p49
        have z50 := zfx_t z42 qm45 rfl rfl
        clear p46 p38
        refine ⟨zk_X9_forgetAsked2, zm_X9_forgetAsked2 hg d (by omega), rfl, ?_⟩
        intro m51 qm51 p52
        have z53 := zfx_t z50 qm51 rfl rfl
        have TE := zTE_fr p47 (fun j a b => qm51.1 j (by omega) rfl) (qm51.2.1 8 rfl) (qm51.2.1 38 rfl)
        have S60 : m51.1 66 ((60 : Nat) : Int) = μ.1 66 ((60 : Nat) : Int) := by rw [qm51.2.1 60 rfl, qm45.2.1 60 rfl, H60, G60]
        have N38 : m51.1 66 ((38 : Nat) : Int) ≤ 300 := by rw [qm51.2.1 38 rfl]; have := p48; omega
        have FIN : zQS m51 C Pn tt (K + 6000) := zQ_read QT.1 QT.2 NB TB TE (fun j a b => by rw [qm51.1 j (by omega) rfl, qm45.1 j (by omega) (zanyF (by simp <;> omega))]) (by have h1 := TE.2.1; unfold zTn at h1; omega) p52.1 p52.2.2.2 (by rw [S60]; have := hp0.2.2.2; omega) hp2 (fun x a b => by rw [S60, qm51.1 98 (by decide) rfl, qm45.1 98 (by decide) rfl, CB 98 (by decide), C8 98 (by decide) (by decide)]; exact hp0.1.2.2.2.2.2.2 x a b)
        exact And.intro (zrtb (by omega)) (And.intro ⟨by omega, by omega⟩ (hQ _ _ z53 (by omega) (by omega) FIN (fun h => by have h1 := p49 h; rw [qm51.2.1 71 rfl, qm51.2.1 72 rfl]; exact ⟨p52.1, p52.2.1, (zTy_same h1.1 (qm51.1 67 (by decide) rfl) (qm51.2.1 8 rfl)), fun h => by omega, fun _ => ⟨h1.2.1, by omega⟩⟩) (by rw [qm51.2.1 29 rfl, qm45.2.1 29 rfl, qm37.2.1 29 rfl, em35, zu_nk (by decide), em33, zu_nk (by decide), qm29.2.1 29 rfl, em25, zu_nk (by decide), qm18.2.1 29 rfl]; exact p14.2)))
      · exfalso; omega
    · refine ⟨zk_X9_chainAgain, zm_X9_chainAgain hg d (by omega), _, _, rfl, ⟨by omega, by omega⟩, ⟨by omega, by omega⟩, (by omega), (fun x a b => zNd_same (fun j c e => by rw [em25, zu_ne (by omega)]) (zOld_Nd O6 a (by have : x1 = zTop μ := HAD; omega) (hp0.1.1.2.1 x a (by have : x1 = zTop μ := HAD; omega)))), ?_⟩
      intro m54 qm54 p55 p56
      have z57 := zfx_t z26 qm54 rfl rfl
      have O8 : zOld μ m54 (zTop μ) := zOld_t O6 (zOld_same (fun j a b => by rw [qm54.1 j (by omega) (zanyF (by simp <;> omega)), em25, zu_ne (by omega)])) (Int.le_refl _)
      have C8 : ∀ j : Nat, 75 ≤ j → j ≤ 99 → m54.1 j = μ.1 j := fun j a b => by rw [qm54.1 j (by omega) (zanyF (by simp <;> omega)), em25, zu_ne (by omega), qm18.1 j (by omega) (zanyF (by simp <;> omega)), C5 j (by omega)]
      have G45 : m54.1 66 ((45 : Nat) : Int) = μ.1 66 ((45 : Nat) : Int) := by rw [qm54.2.1 45 rfl, em25, zu_nk (by decide), qm18.2.1 45 rfl, D45]
      have G48 : m54.1 66 ((48 : Nat) : Int) = μ.1 66 ((48 : Nat) : Int) := by rw [qm54.2.1 48 rfl, em25, zu_nk (by decide), qm18.2.1 48 rfl, D48]
      have G60 : m54.1 66 ((60 : Nat) : Int) = μ.1 66 ((60 : Nat) : Int) := by rw [qm54.2.1 60 rfl, em25, zu_nk (by decide), qm18.2.1 60 rfl, D60]
      exact And.intro (zrtb (by omega)) (And.intro ⟨by omega, by omega⟩ (hQ _ _ z57 (by omega) (by omega) (zQS_K (zQS_back hp0 p55 (by rw [p56]; exact HAD) O8 (fun j a b => C8 j (by omega) (by omega)) (fun j a b => C8 j (by omega) (by omega)) (C8 98 (by decide) (by decide)) G45 G48 G60) (by omega) hp2) (fun h => by omega) (by rw [qm54.2.1 29 rfl, em25, zu_nk (by decide), qm18.2.1 29 rfl]; exact p14.2)))
  · refine ⟨zk_X9_readQuestion, zm_X9_readQuestion hg d (by omega), _, _, _, _, _, rfl, p13, N5, W5, (by rw [show m12.1 66 ((26 : Nat) : Int) = μ.1 66 ((20 : Nat) : Int) from (qm12.2.1 26 rfl).trans (by rw [em10, zu_nk (by decide), em7, zu_at, X20]), show m12.1 66 ((24 : Nat) : Int) = 0 from (qm12.2.1 24 rfl).trans (by rw [em10, zu_nk (by decide), em7, zu_nk (by decide), em4, zu_nk (by decide), em2, zu_at]), C5 76 (by decide), C5 77 (by decide)]; exact ⟨Int.le_of_eq hp1.1.symm, fun c a b => by rw [Int.zero_add]; exact (HTC c a b).2.2.2.1, HB.2.1, HB.2.2.2.1⟩), (fun v a b => by rw [show m12.1 66 ((24 : Nat) : Int) = 0 from (qm12.2.1 24 rfl).trans (by rw [em10, zu_nk (by decide), em7, zu_nk (by decide), em4, zu_nk (by decide), em2, zu_at]), C5 77 (by decide), Int.zero_add]), (by rw [D8, p14.1]; exact zar1 TM), (by rw [show m12.1 66 ((26 : Nat) : Int) = μ.1 66 ((20 : Nat) : Int) from (qm12.2.1 26 rfl).trans (by rw [em10, zu_nk (by decide), em7, zu_at, X20])]; rw [← hp1.1]; exact zar0 HB.1), ?_⟩
    intro x58 m59 qm59 kx58 lx58 p60 p61 p62 p63
    have z64 := zfx_t z15 qm59 rfl rfl
    clear p60 p63
    have E6 : m59.1 66 ((30 : Nat) : Int) ≤ 800 ∧ 0 ≤ m59.1 66 ((30 : Nat) : Int) := by have h1 := p62; have h2 := p13; omega
    clear p62 p13
    have O6 : zOld μ m59 (zTop μ) := zOld_l (fun j a b => C5 j (by omega)) (by rw [← T5]; exact p61.1.2.2.1)
    intro x65 hx65 kx65 lx65
    refine And.intro ⟨by omega, by omega⟩ ?_
    intro m66 em66
    have z67 := zfx_f z64 em66 rfl
    refine And.intro ⟨by omega, by omega⟩ (And.intro (fun c68 => ?_) (fun c68 => ?_))
    · intro x69 hx69 kx69 lx69
      rw [em66, zu_nk (by decide), qm59.2.1 23 rfl, D23] at hx69
      refine ⟨zk_X9_chainAgain, zm_X9_chainAgain hg d (by omega), _, _, rfl, ⟨by omega, by omega⟩, ⟨by omega, by omega⟩, (by omega), (fun x a b => by have h1 : x69 = tt := (by omega); have h3 := hp0.1.2.2.1; exact zNd_same (fun j c e => by rw [em66, zu_ne (by omega)]) (zOld_Nd O6 a (by omega) (hp0.1.1.2.1 x a (by omega)))), ?_⟩
      intro m70 qm70 p71 p72
      have z73 := zfx_t z67 qm70 rfl rfl
      have O8 : zOld μ m70 (zTop μ) := zOld_t O6 (zOld_same (fun j a b => by rw [qm70.1 j (by omega) (zanyF (by simp <;> omega)), em66, zu_ne (by omega)])) (Int.le_refl _)
      have C8 : ∀ j : Nat, 75 ≤ j → j ≤ 99 → m70.1 j = μ.1 j := fun j a b => by rw [qm70.1 j (by omega) (zanyF (by simp <;> omega)), em66, zu_ne (by omega), qm59.1 j (by omega) (zanyF (by simp <;> omega)), C5 j (by omega)]
      have G45 : m70.1 66 ((45 : Nat) : Int) = μ.1 66 ((45 : Nat) : Int) := by rw [qm70.2.1 45 rfl, em66, zu_nk (by decide), qm59.2.1 45 rfl, D45]
      have G48 : m70.1 66 ((48 : Nat) : Int) = μ.1 66 ((48 : Nat) : Int) := by rw [qm70.2.1 48 rfl, em66, zu_nk (by decide), qm59.2.1 48 rfl, D48]
      have G60 : m70.1 66 ((60 : Nat) : Int) = μ.1 66 ((60 : Nat) : Int) := by rw [qm70.2.1 60 rfl, em66, zu_nk (by decide), qm59.2.1 60 rfl, D60]
      refine And.intro ⟨by omega, by omega⟩ ?_
      intro m74 em74
      have z75 := zfx_f z73 em74 rfl
      refine And.intro ⟨by omega, by omega⟩ ?_
      intro m76 em76
      have z77 := zfx_f z75 em76 rfl
      refine ⟨zk_X9_pass, zm_X9_pass hg d (by omega), rfl, (by rw [show m76.1 66 ((31 : Nat) : Int) = 0 from (by rw [em76, zu_nk (by decide), em74, zu_at]), show m76.1 66 ((30 : Nat) : Int) = m59.1 66 ((30 : Nat) : Int) from (by rw [em76, zu_nk (by decide), em74, zu_nk (by decide), qm70.2.1 30 rfl, em66, zu_nk (by decide)])]; omega), ?_⟩
      intro m78 qm78 p79 p80 p81 p82
      have z83 := zfx_t z77 qm78 rfl rfl
      clear p80 p81 p82
      have CB : ∀ j : Nat, j ≠ 66 → m78.1 j = m70.1 j := fun j hj => (qm78.1 j hj rfl).trans (by rw [em76, zu_ne hj, em74, zu_ne hj])
      have H8 : m78.1 66 ((8 : Nat) : Int) = m70.1 66 ((8 : Nat) : Int) := (qm78.2.1 8 rfl).trans (by rw [em76, zu_nk (by decide), em74, zu_nk (by decide)])
      have H60 : m78.1 66 ((60 : Nat) : Int) = m70.1 66 ((60 : Nat) : Int) := (qm78.2.1 60 rfl).trans (by rw [em76, zu_nk (by decide), em74, zu_nk (by decide)])
      have H38 : m78.1 66 ((38 : Nat) : Int) = 0 := (qm78.2.1 38 rfl).trans (by rw [em76, zu_at])
      have TB : zTop m78 = tt := by rw [show zTop m78 = zTop m70 from H8, p72]; omega
      have NB : zND m78 0 := zND_t.2 (by rw [show zTop m78 = zTop m70 from H8]; exact zNDt_same (fun j a b => CB j (by omega)) (zND_t.1 p71))
      have QT := zQ_tab hp0.1 NB TB (zOld_t O8 (zOld_same (fun j a b => CB j (by omega))) (Int.le_refl _)) hp0.1.2.2.1 (fun j a b => by rw [CB j (by omega), C8 j (by omega) (by omega)])
      refine And.intro ⟨by omega, by omega⟩ (And.intro (fun c84 => ?_) (fun c84 => ?_))
      · have K24 : m78.1 66 ((24 : Nat) : Int) = 0 := (qm78.2.1 24 rfl).trans (by rw [em76, zu_nk (by decide), em74, zu_nk (by decide), qm70.2.1 24 rfl, em66, zu_nk (by decide), qm59.2.1 24 rfl, qm12.2.1 24 rfl, em10, zu_nk (by decide), em7, zu_nk (by decide), em4, zu_nk (by decide), em2, zu_at])
        have K26 : m78.1 66 ((26 : Nat) : Int) = μ.1 66 ((20 : Nat) : Int) := (qm78.2.1 26 rfl).trans (by rw [em76, zu_nk (by decide), em74, zu_nk (by decide), qm70.2.1 26 rfl, em66, zu_nk (by decide), qm59.2.1 26 rfl, qm12.2.1 26 rfl, em10, zu_nk (by decide), em7, zu_at, X20])
        have K76 : m78.1 76 = μ.1 76 := by rw [CB 76 (by decide), C8 76 (by decide) (by decide)]
        have K77 : m78.1 77 = μ.1 77 := by rw [CB 77 (by decide), C8 77 (by decide) (by decide)]
        refine ⟨zk_X9_readPlace, zm_X9_readPlace hg d (by omega), _, _, _, _, _, rfl, p79, NB, QT.2, (by rw [K26, K24, K76, K77]; exact ⟨Int.le_of_eq hp1.1.symm, fun c a b => by rw [Int.zero_add]; exact (HTC c a b).2.2.2.1, HB.2.1, HB.2.2.2.1⟩), (fun v a b => by rw [K24, Int.zero_add]), (by rw [show m78.1 66 ((8 : Nat) : Int) = tt from TB, H38]; exact zar2 HB.2.2.2.2.2), (by rw [K26, ← hp1.1]; exact zar0 HB.1), ?_⟩
        intro x85 m86 qm86 kx85 lx85 p87 p88 p89 p90
        have z91 := zfx_t z83 qm86 rfl rfl
        clear p87 p79
        refine ⟨zk_X9_forgetAsked2, zm_X9_forgetAsked2 hg d (by omega), rfl, ?_⟩
        intro m92 qm92 p93
        have z94 := zfx_t z91 qm92 rfl rfl
        have TE := zTE_fr p88 (fun j a b => qm92.1 j (by omega) rfl) (qm92.2.1 8 rfl) (qm92.2.1 38 rfl)
        have S60 : m92.1 66 ((60 : Nat) : Int) = μ.1 66 ((60 : Nat) : Int) := by rw [qm92.2.1 60 rfl, qm86.2.1 60 rfl, H60, G60]
        have N38 : m92.1 66 ((38 : Nat) : Int) ≤ 300 := by rw [qm92.2.1 38 rfl]; have := p89; omega
        have FIN : zQS m92 C Pn tt (K + 6000) := zQ_read QT.1 QT.2 NB TB TE (fun j a b => by rw [qm92.1 j (by omega) rfl, qm86.1 j (by omega) (zanyF (by simp <;> omega))]) (by have h1 := TE.2.1; unfold zTn at h1; omega) p93.1 p93.2.2.2 (by rw [S60]; have := hp0.2.2.2; omega) hp2 (fun x a b => by rw [S60, qm92.1 98 (by decide) rfl, qm86.1 98 (by decide) rfl, CB 98 (by decide), C8 98 (by decide) (by decide)]; exact hp0.1.2.2.2.2.2.2 x a b)
        exact And.intro (zrtb (by omega)) (And.intro ⟨by omega, by omega⟩ (hQ _ _ z94 (by omega) (by omega) FIN (fun h => by have h1 := p90 h; rw [qm92.2.1 71 rfl, qm92.2.1 72 rfl]; exact ⟨p93.1, p93.2.1, (zTy_same h1.1 (qm92.1 67 (by decide) rfl) (qm92.2.1 8 rfl)), fun h => by omega, fun _ => ⟨h1.2.1, by omega⟩⟩) (by rw [qm92.2.1 29 rfl, qm86.2.1 29 rfl, qm78.2.1 29 rfl, em76, zu_nk (by decide), em74, zu_nk (by decide), qm70.2.1 29 rfl, em66, zu_nk (by decide), qm59.2.1 29 rfl]; exact p14.2)))
      · have K24 : m78.1 66 ((24 : Nat) : Int) = 0 := (qm78.2.1 24 rfl).trans (by rw [em76, zu_nk (by decide), em74, zu_nk (by decide), qm70.2.1 24 rfl, em66, zu_nk (by decide), qm59.2.1 24 rfl, qm12.2.1 24 rfl, em10, zu_nk (by decide), em7, zu_nk (by decide), em4, zu_nk (by decide), em2, zu_at])
        have K26 : m78.1 66 ((26 : Nat) : Int) = μ.1 66 ((20 : Nat) : Int) := (qm78.2.1 26 rfl).trans (by rw [em76, zu_nk (by decide), em74, zu_nk (by decide), qm70.2.1 26 rfl, em66, zu_nk (by decide), qm59.2.1 26 rfl, qm12.2.1 26 rfl, em10, zu_nk (by decide), em7, zu_at, X20])
        have K76 : m78.1 76 = μ.1 76 := by rw [CB 76 (by decide), C8 76 (by decide) (by decide)]
        have K77 : m78.1 77 = μ.1 77 := by rw [CB 77 (by decide), C8 77 (by decide) (by decide)]
        refine ⟨zk_X9_readQuestion, zm_X9_readQuestion hg d (by omega), _, _, _, _, _, rfl, p79, NB, QT.2, (by rw [K26, K24, K76, K77]; exact ⟨Int.le_of_eq hp1.1.symm, fun c a b => by rw [Int.zero_add]; exact (HTC c a b).2.2.2.1, HB.2.1, HB.2.2.2.1⟩), (fun v a b => by rw [K24, Int.zero_add]), (by rw [show m78.1 66 ((8 : Nat) : Int) = tt from TB, H38]; exact zar2 HB.2.2.2.2.2), (by rw [K26, ← hp1.1]; exact zar0 HB.1), ?_⟩
        intro x95 m96 qm96 kx95 lx95 p97 p98 p99 p100
        have z101 := zfx_t z83 qm96 rfl rfl
        clear p97 p79
        refine ⟨zk_X9_forgetAsked2, zm_X9_forgetAsked2 hg d (by omega), rfl, ?_⟩
        intro m102 qm102 p103
        have z104 := zfx_t z101 qm102 rfl rfl
        have TE := zTE_fr p98 (fun j a b => qm102.1 j (by omega) rfl) (qm102.2.1 8 rfl) (qm102.2.1 38 rfl)
        have S60 : m102.1 66 ((60 : Nat) : Int) = μ.1 66 ((60 : Nat) : Int) := by rw [qm102.2.1 60 rfl, qm96.2.1 60 rfl, H60, G60]
        have N38 : m102.1 66 ((38 : Nat) : Int) ≤ 300 := by rw [qm102.2.1 38 rfl]; have := p99; omega
        have FIN : zQS m102 C Pn tt (K + 6000) := zQ_read QT.1 QT.2 NB TB TE (fun j a b => by rw [qm102.1 j (by omega) rfl, qm96.1 j (by omega) (zanyF (by simp <;> omega))]) (by have h1 := TE.2.1; unfold zTn at h1; omega) p103.1 p103.2.2.2 (by rw [S60]; have := hp0.2.2.2; omega) hp2 (fun x a b => by rw [S60, qm102.1 98 (by decide) rfl, qm96.1 98 (by decide) rfl, CB 98 (by decide), C8 98 (by decide) (by decide)]; exact hp0.1.2.2.2.2.2.2 x a b)
        exact And.intro (zrtb (by omega)) (And.intro ⟨by omega, by omega⟩ (hQ _ _ z104 (by omega) (by omega) FIN (fun h => by have h1 := p100 h; rw [qm102.2.1 71 rfl, qm102.2.1 72 rfl]; exact ⟨p103.1, p103.2.1, (zTy_same h1.1 (qm102.1 67 (by decide) rfl) (qm102.2.1 8 rfl)), fun _ => (zTy_same h1.2 (qm102.1 67 (by decide) rfl) (qm102.2.1 8 rfl)), fun h => by omega⟩) (by rw [qm102.2.1 29 rfl, qm96.2.1 29 rfl, qm78.2.1 29 rfl, em76, zu_nk (by decide), em74, zu_nk (by decide), qm70.2.1 29 rfl, em66, zu_nk (by decide), qm59.2.1 29 rfl]; exact p14.2)))
    · refine ⟨zk_X9_chainAgain, zm_X9_chainAgain hg d (by omega), _, _, rfl, ⟨by omega, by omega⟩, ⟨by omega, by omega⟩, (by omega), (fun x a b => zNd_same (fun j c e => by rw [em66, zu_ne (by omega)]) (zOld_Nd O6 a (by have : x1 = zTop μ := HAD; omega) (hp0.1.1.2.1 x a (by have : x1 = zTop μ := HAD; omega)))), ?_⟩
      intro m105 qm105 p106 p107
      have z108 := zfx_t z67 qm105 rfl rfl
      have O8 : zOld μ m105 (zTop μ) := zOld_t O6 (zOld_same (fun j a b => by rw [qm105.1 j (by omega) (zanyF (by simp <;> omega)), em66, zu_ne (by omega)])) (Int.le_refl _)
      have C8 : ∀ j : Nat, 75 ≤ j → j ≤ 99 → m105.1 j = μ.1 j := fun j a b => by rw [qm105.1 j (by omega) (zanyF (by simp <;> omega)), em66, zu_ne (by omega), qm59.1 j (by omega) (zanyF (by simp <;> omega)), C5 j (by omega)]
      have G45 : m105.1 66 ((45 : Nat) : Int) = μ.1 66 ((45 : Nat) : Int) := by rw [qm105.2.1 45 rfl, em66, zu_nk (by decide), qm59.2.1 45 rfl, D45]
      have G48 : m105.1 66 ((48 : Nat) : Int) = μ.1 66 ((48 : Nat) : Int) := by rw [qm105.2.1 48 rfl, em66, zu_nk (by decide), qm59.2.1 48 rfl, D48]
      have G60 : m105.1 66 ((60 : Nat) : Int) = μ.1 66 ((60 : Nat) : Int) := by rw [qm105.2.1 60 rfl, em66, zu_nk (by decide), qm59.2.1 60 rfl, D60]
      exact And.intro (zrtb (by omega)) (And.intro ⟨by omega, by omega⟩ (hQ _ _ z108 (by omega) (by omega) (zQS_K (zQS_back hp0 p106 (by rw [p107]; exact HAD) O8 (fun j a b => C8 j (by omega) (by omega)) (fun j a b => C8 j (by omega) (by omega)) (C8 98 (by decide) (by decide)) G45 G48 G60) (by omega) hp2) (fun h => by omega) (by rw [qm105.2.1 29 rfl, em66, zu_nk (by decide), qm59.2.1 29 rfl]; exact p14.2)))
