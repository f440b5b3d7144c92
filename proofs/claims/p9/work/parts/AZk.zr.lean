def rKd (g k : Int) : Prop := (g = 256 ∧ k = 0) ∨ (g = 261 ∧ k = 1) ∨ (g = 257 ∧ k = 2) ∨ (g = 258 ∧ k = 3) ∨ (g = 259 ∧ k = 4) ∨ (g = 260 ∧ k = 5) ∨ (g = k ∧ 38 ≤ k ∧ k ≤ 94)
theorem rkd {μ : zM} {T : yT} {p g : Int} (h : rLx μ T p) (w : μ.1 66 ((32 : Nat) : Int) = g) : rKd g (ykd T p) := by
  have k := rLx_k h
  rw [w] at k
  exact k
theorem rKd_n {g k : Int} (h : rKd g k) : g = 257 ↔ k = 2 := by unfold rKd at h; omega
theorem rKd_s {g k : Int} (c : Int) (h : rKd g k) (hc : 38 ≤ c ∧ c ≤ 94) : g = c ↔ k = c := by unfold rKd at h; omega
theorem rKd_w {g k : Int} (h : rKd g k) : (g = 259 ↔ k = 4) ∧ (g = 256 ↔ k = 0) := by unfold rKd at h; omega
def yk_X9_want : zC := fun As μ Q => ∃ (a1 : Int), As = [.inr (.inr (66, 66)), .inl a1] ∧ ((-2147483648) ≤ a1 ∧ a1 ≤ 2147483647) ∧ (0 ≤ μ.1 66 ((33 : Nat) : Int) ∧ 0 ≤ μ.1 66 ((34 : Nat) : Int) ∧ μ.1 66 ((33 : Nat) : Int) + μ.1 66 ((34 : Nat) : Int) ≤ μ.1 66 ((31 : Nat) : Int) ∧ μ.1 66 ((31 : Nat) : Int) ≤ μ.1 66 ((30 : Nat) : Int) ∧ μ.1 66 ((30 : Nat) : Int) ≤ 800) ∧ (∀ (v : Int) (μ' : zM), zfx [] [31, 32, 33, 34, 35, 36] μ μ' → 0 ≤ v → v ≤ 1 → (0 ≤ μ'.1 66 ((33 : Nat) : Int) ∧ 0 ≤ μ'.1 66 ((34 : Nat) : Int) ∧ μ'.1 66 ((33 : Nat) : Int) + μ'.1 66 ((34 : Nat) : Int) ≤ μ'.1 66 ((31 : Nat) : Int) ∧ μ'.1 66 ((31 : Nat) : Int) ≤ μ'.1 66 ((30 : Nat) : Int) ∧ μ'.1 66 ((30 : Nat) : Int) ≤ 800) → (μ'.1 66 ((30 : Nat) : Int) = μ.1 66 ((30 : Nat) : Int)) → (μ.1 66 ((31 : Nat) : Int) ≤ μ'.1 66 ((31 : Nat) : Int)) → ((v = 0 ∧ μ'.1 66 ((32 : Nat) : Int) = μ.1 66 ((32 : Nat) : Int)) ∨ (v = 1 ∧ μ.1 66 ((32 : Nat) : Int) = a1 ∧ (μ'.1 66 ((32 : Nat) : Int) = 256 ∨ μ.1 66 ((31 : Nat) : Int) < μ'.1 66 ((31 : Nat) : Int)))) → ((v = 0 ∧ μ.1 66 ((32 : Nat) : Int) ≠ a1 ∧ (μ.1 66 ((35 : Nat) : Int) = 0 → μ'.1 66 ((35 : Nat) : Int) = (if μ.1 66 ((32 : Nat) : Int) = 261 then 1 else 2) ∧ μ'.1 66 ((36 : Nat) : Int) = μ.1 66 ((33 : Nat) : Int))) ∨ (v = 1 ∧ μ.1 66 ((32 : Nat) : Int) = a1 ∧ (μ'.1 66 ((32 : Nat) : Int) = rtk (ykd ((μ.1 85, μ.1 66 ((30 : Nat) : Int)) : yT) (μ.1 66 ((31 : Nat) : Int))) ∧ μ'.1 66 ((33 : Nat) : Int) = ypl ((μ.1 85, μ.1 66 ((30 : Nat) : Int)) : yT) (μ.1 66 ((31 : Nat) : Int)) ∧ μ'.1 66 ((34 : Nat) : Int) = ysz ((μ.1 85, μ.1 66 ((30 : Nat) : Int)) : yT) (μ.1 66 ((31 : Nat) : Int)) ∧ μ'.1 66 ((31 : Nat) : Int) = ynx ((μ.1 85, μ.1 66 ((30 : Nat) : Int)) : yT) (μ.1 66 ((31 : Nat) : Int))) ∧ μ'.1 66 ((35 : Nat) : Int) = μ.1 66 ((35 : Nat) : Int))) → Q (some (.inl v)) μ')
set_option maxHeartbeats 4000000 in
theorem ym_X9_want {g : zΓ} (hg : zg g) (d : Nat) (hd : 4 ≤ d) : zOk g d 134 yk_X9_want := by
  obtain ⟨d, rfl⟩ : ∃ d', d = d' + 1 := ⟨d - 1, by omega⟩
  refine zOk_straight hg (show mt_tab[134]? = some mt_X9_want from rfl) [] 17 rfl fun As μ Q hC => ?_
  obtain ⟨a1, rfl, ha1, hp0, hQ⟩ := hC
  obtain ⟨g1, wg1⟩ : ∃ z : Int, μ.1 66 ((31 : Nat) : Int) = z := ⟨_, rfl⟩
  obtain ⟨g2, wg2⟩ : ∃ z : Int, μ.1 66 ((30 : Nat) : Int) = z := ⟨_, rfl⟩
  obtain ⟨g3, wg3⟩ : ∃ z : Int, μ.1 66 ((33 : Nat) : Int) = z := ⟨_, rfl⟩
  obtain ⟨g4, wg4⟩ : ∃ z : Int, μ.1 66 ((34 : Nat) : Int) = z := ⟨_, rfl⟩
  obtain ⟨g5, wg5⟩ : ∃ z : Int, μ.1 66 ((32 : Nat) : Int) = z := ⟨_, rfl⟩
  try rw [wg1] at hp0
  try rw [wg2] at hp0
  try rw [wg3] at hp0
  try rw [wg4] at hp0
  try rw [wg5] at hp0
  refine ⟨rfl, ?_⟩
  have z0 : zfx [] [31, 32, 33, 34, 35, 36] μ μ := zfx_x μ
  intro x6 hx6 kx6 lx6
  rw [wg5] at hx6
  refine And.intro ⟨⟨by omega, by omega⟩, ⟨by omega, by omega⟩⟩ (And.intro (fun c7 => ?_) (fun c7 => ?_))
  · refine ⟨yk_X9_pass, ym_X9_pass hg d (by omega), rfl, (by (try rw [wg1]) <;> (try rw [wg2]) <;> (try rw [wg3]) <;> (try rw [wg4]) <;> (try rw [wg5]) <;> omega), ?_⟩
    intro m8 qm8 p9 p10 p11 p12 p13
    have z14 := zfx_t z0 qm8 rfl rfl
    have w15 : m8.1 66 ((30 : Nat) : Int) = g2 := (qm8.2.1 30 rfl).trans wg2
    obtain ⟨g16, wg16⟩ : ∃ z : Int, m8.1 66 ((31 : Nat) : Int) = z := ⟨_, rfl⟩
    obtain ⟨g17, wg17⟩ : ∃ z : Int, m8.1 66 ((33 : Nat) : Int) = z := ⟨_, rfl⟩
    obtain ⟨g18, wg18⟩ : ∃ z : Int, m8.1 66 ((34 : Nat) : Int) = z := ⟨_, rfl⟩
    obtain ⟨g19, wg19⟩ : ∃ z : Int, m8.1 66 ((32 : Nat) : Int) = z := ⟨_, rfl⟩
    try rw [wg16] at p9
    try rw [w15] at p9
    try rw [wg17] at p9
    try rw [wg18] at p9
    try rw [wg19] at p9
    try rw [wg1] at p9
    try rw [wg2] at p9
    try rw [wg3] at p9
    try rw [wg4] at p9
    try rw [wg5] at p9
    try rw [wg16] at p10
    try rw [w15] at p10
    try rw [wg17] at p10
    try rw [wg18] at p10
    try rw [wg19] at p10
    try rw [wg1] at p10
    try rw [wg2] at p10
    try rw [wg3] at p10
    try rw [wg4] at p10
    try rw [wg5] at p10
    try rw [wg16] at p11
    try rw [w15] at p11
    try rw [wg17] at p11
    try rw [wg18] at p11
    try rw [wg19] at p11
    try rw [wg1] at p11
    try rw [wg2] at p11
    try rw [wg3] at p11
    try rw [wg4] at p11
    try rw [wg5] at p11
    try rw [wg16] at p12
    try rw [w15] at p12
    try rw [wg17] at p12
    try rw [wg18] at p12
    try rw [wg19] at p12
    try rw [wg1] at p12
    try rw [wg2] at p12
    try rw [wg3] at p12
    try rw [wg4] at p12
    try rw [wg5] at p12
    exact And.intro (zrtb (by omega)) (And.intro ⟨by omega, by omega⟩ (hQ _ _ z14 (by omega) (by omega) (by (try rw [wg16]) <;> (try rw [w15]) <;> (try rw [wg17]) <;> (try rw [wg18]) <;> (try rw [wg19]) <;> (try rw [wg1]) <;> (try rw [wg2]) <;> (try rw [wg3]) <;> (try rw [wg4]) <;> (try rw [wg5]) <;> omega) (by (try rw [wg16]) <;> (try rw [w15]) <;> (try rw [wg17]) <;> (try rw [wg18]) <;> (try rw [wg19]) <;> (try rw [wg1]) <;> (try rw [wg2]) <;> (try rw [wg3]) <;> (try rw [wg4]) <;> (try rw [wg5]) <;> omega) (by (try rw [wg16]) <;> (try rw [w15]) <;> (try rw [wg17]) <;> (try rw [wg18]) <;> (try rw [wg19]) <;> (try rw [wg1]) <;> (try rw [wg2]) <;> (try rw [wg3]) <;> (try rw [wg4]) <;> (try rw [wg5]) <;> omega) (by (try rw [wg16]) <;> (try rw [w15]) <;> (try rw [wg17]) <;> (try rw [wg18]) <;> (try rw [wg19]) <;> (try rw [wg1]) <;> (try rw [wg2]) <;> (try rw [wg3]) <;> (try rw [wg4]) <;> (try rw [wg5]) <;> omega) (Or.inr ⟨rfl, by rw [wg5]; omega, p13, qm8.2.1 35 rfl⟩)))
  · refine ⟨yk_X9_fail, ym_X9_fail hg d (by omega), _, rfl, ⟨by omega, by omega⟩, ?_⟩
    intro x20 m21 qm21 kx20 lx20 p22
    have z23 := zfx_t z0 qm21 rfl rfl
    have w24 : m21.1 66 ((31 : Nat) : Int) = g1 := (qm21.2.1 31 rfl).trans wg1
    have w25 : m21.1 66 ((30 : Nat) : Int) = g2 := (qm21.2.1 30 rfl).trans wg2
    have w26 : m21.1 66 ((33 : Nat) : Int) = g3 := (qm21.2.1 33 rfl).trans wg3
    have w27 : m21.1 66 ((34 : Nat) : Int) = g4 := (qm21.2.1 34 rfl).trans wg4
    have w28 : m21.1 66 ((32 : Nat) : Int) = g5 := (qm21.2.1 32 rfl).trans wg5
    exact And.intro (zrtb (by omega)) (And.intro ⟨by omega, by omega⟩ (hQ _ _ z23 (by omega) (by omega) (by (try rw [w24]) <;> (try rw [w25]) <;> (try rw [w26]) <;> (try rw [w27]) <;> (try rw [w28]) <;> (try rw [wg1]) <;> (try rw [wg2]) <;> (try rw [wg3]) <;> (try rw [wg4]) <;> (try rw [wg5]) <;> omega) (by (try rw [w24]) <;> (try rw [w25]) <;> (try rw [w26]) <;> (try rw [w27]) <;> (try rw [w28]) <;> (try rw [wg1]) <;> (try rw [wg2]) <;> (try rw [wg3]) <;> (try rw [wg4]) <;> (try rw [wg5]) <;> omega) (by (try rw [w24]) <;> (try rw [w25]) <;> (try rw [w26]) <;> (try rw [w27]) <;> (try rw [w28]) <;> (try rw [wg1]) <;> (try rw [wg2]) <;> (try rw [wg3]) <;> (try rw [wg4]) <;> (try rw [wg5]) <;> omega) (by (try rw [w24]) <;> (try rw [w25]) <;> (try rw [w26]) <;> (try rw [w27]) <;> (try rw [w28]) <;> (try rw [wg1]) <;> (try rw [wg2]) <;> (try rw [wg3]) <;> (try rw [wg4]) <;> (try rw [wg5]) <;> omega) (Or.inl ⟨by omega, by rw [wg5]; omega, p22⟩)))
