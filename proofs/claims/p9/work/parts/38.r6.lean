/-! ### chains anew: the method -/
def zk_X9_chainAgain : zC := fun As μ Q => ∃ (a1 : Int) (a2 : Int), As = [.inr (.inr (66, 66)), .inl a1, .inl a2] ∧ (0 ≤ a1 ∧ a1 ≤ 20000) ∧ (0 ≤ a2 ∧ a2 ≤ 20000) ∧ (a1 ≤ a2) ∧ (∀ x : Int, 0 ≤ x → x < a2 → zNd μ x) ∧ (∀ (μ' : zM), zfx [72, 73, 74] [7, 8] μ μ' → (zND μ' a1) → (zTop μ' = a2) → Q none μ')
set_option maxHeartbeats 1000000 in
theorem zm_X9_chainAgain {g : zΓ} (hg : zg g) (d : Nat) (hd : 2 ≤ d) : zOk g d 124 zk_X9_chainAgain := by
  obtain ⟨d, rfl⟩ : ∃ d', d = d' + 1 := ⟨d - 1, by omega⟩
  refine zOk_loop hg (show mt_tab[124]? = some mt_X9_chainAgain from rfl) ([(16, [0, 2, 3]), (24, [0, 2, 3, 4])], []) 71 rfl fun As μ Q hC => ?_
  obtain ⟨a1, a2, rfl, ha1, ha2, hp0, hp1, hQ⟩ := hC
  obtain ⟨g1, wg1⟩ : ∃ z : Int, μ.1 66 ((8 : Nat) : Int) = z := ⟨_, rfl⟩
  try rw [wg1] at hp0
  try rw [wg1] at hp1
  have z0 : zfx [72, 73, 74] [7, 8] μ μ := zfx_x μ
  refine ⟨rfl, fun pc vs μ' n => (pc = 16 → ∃ (v2 : Int) (v3 : Int), vs = [.inr (.inr (66, 66)), .inl v2, .inl v3] ∧ zfx [72, 73, 74] [7, 8] μ μ' ∧ (0 ≤ v2 ∧ v2 ≤ 20000) ∧ (0 ≤ v3 ∧ v3 ≤ 20000) ∧ (v2 = a2 ∧ a1 ≤ v3 ∧ v3 ≤ a2) ∧ (zNDt μ' a1 v3) ∧ (μ'.1 66 ((8 : Nat) : Int) = a2) ∧ n = (Int.toNat ((20001 - v3) * 4294967296 + 4294967295))) ∧ (pc = 24 → ∃ (v2 : Int) (v3 : Int) (v4 : Int), vs = [.inr (.inr (66, 66)), .inl v2, .inl v3, .inl v4] ∧ zfx [72, 73, 74] [7, 8] μ μ' ∧ (0 ≤ v2 ∧ v2 ≤ 20000) ∧ (0 ≤ v3 ∧ v3 ≤ 19999) ∧ (0 ≤ v4 ∧ v4 ≤ 4) ∧ (v2 = a2 ∧ a1 ≤ v3 ∧ v3 < a2) ∧ (zNDt μ' a1 v3) ∧ (μ'.1 66 ((8 : Nat) : Int) = a2) ∧ (∀ i : Int, 0 ≤ i → i < v4 → μ'.1 74 i = μ'.1 70 (4 * v3 + i)) ∧ (v4 ≤ μ'.1 69 v3) ∧ n = (Int.toNat ((20001 - v3) * 4294967296 + (2147483648 - v4)))), ?_, ?_, ?_, trivial⟩
  · refine ⟨zk_X9_clearHeads, zm_X9_clearHeads hg d (by omega), rfl, ?_⟩
    intro m2 qm2 p3
    have z4 := zfx_t z0 qm2 rfl rfl
    have w5 : m2.1 66 ((8 : Nat) : Int) = g1 := (qm2.2.1 8 rfl).trans wg1
    try rw [w5] at p3
    try rw [wg1] at p3
    refine And.intro ⟨by omega, by omega⟩ ?_
    intro m6 em6
    have z7 := zfx_f z4 em6 rfl
    have w8 : m6.1 66 ((8 : Nat) : Int) = g1 := by rw [em6]; exact (zu_nk (by decide)).trans w5
    clear w5
    refine And.intro ⟨by omega, by omega⟩ ?_
    intro m9 em9
    have z10 := zfx_f z7 em9 rfl
    have w11 : m9.1 66 ((8 : Nat) : Int) = a2 := by rw [em9]; exact zu_at
    clear w8
    refine Exists.intro (Int.toNat ((20001 - a1) * 4294967296 + 4294967295)) ?_
    exact ⟨(fun _ => ⟨_, _, rfl, z10, ⟨by omega, by omega⟩, ⟨by omega, by omega⟩, (by (try rw [w11]) <;> (try rw [wg1]) <;> omega), (zNDt_0 (by omega) (fun x a b => zNd_same (zfx5 z10 rfl) (hp1 x a (by omega))) (fun h a b => by rw [em9, zu_ne (by decide), em6, zu_ne (by decide)]; exact p3 h a b)), (by (try rw [w11]) <;> (try rw [wg1]) <;> omega), rfl⟩), (fun h => absurd h (by decide))⟩
  · intro vs m0 n hI
    replace hI := hI.1 rfl
    clear z0
    obtain ⟨v2, v3, rfl, z0, hv2, hv3, i0, i1, i2, rfl⟩ := hI
    obtain ⟨g12, wg12⟩ : ∃ z : Int, m0.1 66 ((8 : Nat) : Int) = z := ⟨_, rfl⟩
    try rw [wg12] at i0
    try rw [wg1] at i0
    try rw [wg12] at i1
    try rw [wg1] at i1
    try rw [wg12] at i2
    try rw [wg1] at i2
    refine And.intro ⟨⟨by omega, by omega⟩, ⟨by omega, by omega⟩⟩ (And.intro (fun c13 => ?_) (fun c13 => ?_))
    · exact And.intro rfl (hQ _ z0 (by have hq : zTop m0 = v3 := (by show m0.1 66 ((8 : Nat) : Int) = v3; rw [wg12]; omega); rw [zND_t, hq]; exact i1) (by show m0.1 66 ((8 : Nat) : Int) = a2; rw [wg12]; omega))
    · refine Exists.intro (Int.toNat ((20001 - v3) * 4294967296 + (2147483648 - 0))) (And.intro (by (try rw [wg12]) <;> (try rw [wg1]) <;> omega) ?_)
      exact ⟨(fun h => absurd h (by decide)), (fun _ => ⟨_, _, _, rfl, z0, ⟨by omega, by omega⟩, ⟨by omega, by omega⟩, ⟨by omega, by omega⟩, (by (try rw [wg12]) <;> (try rw [wg1]) <;> omega), i1, (by (try rw [wg12]) <;> (try rw [wg1]) <;> omega), (fun i a b => by omega), (zNd_same (zfx5 z0 rfl) (hp1 v3 (by omega) (by omega))).1.1, rfl⟩)⟩
  · intro vs m0 n hI
    replace hI := hI.2 rfl
    clear z0
    obtain ⟨v2, v3, v4, rfl, z0, hv2, hv3, hv4, i0, i1, i2, i3, i4, rfl⟩ := hI
    obtain ⟨g14, wg14⟩ : ∃ z : Int, m0.1 66 ((8 : Nat) : Int) = z := ⟨_, rfl⟩
    try rw [wg14] at i0
    try rw [wg1] at i0
    try rw [wg14] at i1
    try rw [wg1] at i1
    try rw [wg14] at i2
    try rw [wg1] at i2
    try rw [wg14] at i3
    try rw [wg1] at i3
    try rw [wg14] at i4
    try rw [wg1] at i4
    refine And.intro ⟨by omega, by omega⟩ ?_
    intro x15 hx15 kx15 lx15
    refine And.intro ⟨⟨by omega, by omega⟩, ⟨by omega, by omega⟩⟩ (And.intro (fun c16 => ?_) (fun c16 => ?_))
    · refine And.intro ⟨by omega, by omega⟩ ?_
      intro x17 hx17 kx17 lx17
      refine And.intro ⟨by omega, by omega⟩ ?_
      intro x18 hx18 kx18 lx18
      refine And.intro ⟨by omega, by omega⟩ ?_
      intro x19 hx19 kx19 lx19
      refine ⟨zk_X9_slotOf, zm_X9_slotOf hg d (by omega), _, _, _, rfl, ⟨by omega, by omega⟩, ⟨by omega, by omega⟩, ⟨by omega, by omega⟩, ?_⟩
      intro x20 kx20 lx20 p21
      try rw [wg14] at p21
      try rw [wg1] at p21
      refine And.intro ⟨by omega, by omega⟩ ?_
      intro x22 hx22 kx22 lx22
      refine And.intro ⟨by omega, by omega⟩ (And.intro ⟨by omega, by omega⟩ ?_)
      intro m23 em23
      have z24 := zfx_r z0 em23 rfl (by decide)
      have w25 : m23.1 66 ((8 : Nat) : Int) = g14 := by rw [em23]; exact (congrFun (zu_ne (by decide)) _).trans wg14
      refine And.intro ⟨by omega, by omega⟩ (And.intro ⟨by omega, by omega⟩ ?_)
      intro m26 em26
      have z27 := zfx_r z24 em26 rfl (by decide)
      have w28 : m26.1 66 ((8 : Nat) : Int) = g14 := by rw [em26]; exact (congrFun (zu_ne (by decide)) _).trans w25
      clear w25
      refine Exists.intro (Int.toNat ((20001 - (v3 + 1)) * 4294967296 + 4294967295)) (And.intro (by (try rw [w28]) <;> (try rw [wg14]) <;> (try rw [wg1]) <;> omega) ?_)
      exact ⟨(fun _ => ⟨_, _, rfl, z27, ⟨by omega, by omega⟩, ⟨by omega, by omega⟩, (by (try rw [w28]) <;> (try rw [wg14]) <;> (try rw [wg1]) <;> omega), (zch i1 (zNd_same (zfx5 z0 rfl) (hp1 v3 (by omega) (by omega))) (by rw [p21, hx17, hx18, hx19]; exact zsl_eq (fun i a b => i3 i a (by omega))) hx22 em23 em26 rfl rfl), (by (try rw [w28]) <;> (try rw [wg14]) <;> (try rw [wg1]) <;> omega), rfl⟩), (fun h => absurd h (by decide))⟩
    · refine And.intro ⟨by omega, by omega⟩ ?_
      intro x29 hx29 kx29 lx29
      refine And.intro ⟨by omega, by omega⟩ (And.intro ⟨by omega, by omega⟩ ?_)
      intro m30 em30
      have z31 := zfx_r z0 em30 rfl (by decide)
      have w32 : m30.1 66 ((8 : Nat) : Int) = g14 := by rw [em30]; exact (congrFun (zu_ne (by decide)) _).trans wg14
      refine Exists.intro (Int.toNat ((20001 - v3) * 4294967296 + (2147483648 - (v4 + 1)))) (And.intro (by (try rw [w32]) <;> (try rw [wg14]) <;> (try rw [wg1]) <;> omega) ?_)
      exact ⟨(fun h => absurd h (by decide)), (fun _ => ⟨_, _, _, rfl, z31, ⟨by omega, by omega⟩, ⟨by omega, by omega⟩, ⟨by omega, by omega⟩, (by (try rw [w32]) <;> (try rw [wg14]) <;> (try rw [wg1]) <;> omega), (zNDt_same (fun j a b => by rw [em30, zu_ne (by omega)]) i1), (by (try rw [w32]) <;> (try rw [wg14]) <;> (try rw [wg1]) <;> omega), (fun i a b => by rw [em30, zu_ne (show (70 : Nat) ≠ 74 by decide)]; rcases (show i < v4 ∨ i = v4 by omega) with q | q <;> first | (rw [zu_nk (by omega)]; exact i3 i a q) | (rw [q, zu_at, hx29])), (by rw [em30, zu_ne (by decide)]; omega), rfl⟩)⟩
