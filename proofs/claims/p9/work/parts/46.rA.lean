/-! ### a type that was begun is closed -/
def zk_X9_closed : zC := fun As μ Q => ∃ (a1 : Int) (lo : Int), As = [.inr (.inr (66, 66)), .inl a1] ∧ (0 ≤ a1 ∧ a1 ≤ 8) ∧ (zND μ lo) ∧ (μ.1 66 ((8 : Nat) : Int) ≤ 19999) ∧ (μ.1 100 a1 = 0 → μ.1 101 a1 ≤ 20 ∧ μ.1 102 a1 ≤ 4) ∧ (μ.1 100 a1 = 0 → ∀ i : Int, 0 ≤ i → i < μ.1 102 a1 → 0 ≤ μ.1 103 (4 * a1 + i) ∧ μ.1 103 (4 * a1 + i) < zTop μ) ∧ (∀ (v : Int) (μ' : zM), zfx [67, 68, 69, 70, 71, 72, 73, 74] [8] μ μ' → 0 ≤ v → v ≤ 19999 → ((μ.1 100 a1 ≠ 0 ∧ zMd μ μ' lo 1 (μ.1 101 a1) 0 (μ.1 74) v) ∨ (μ.1 100 a1 = 0 ∧ zMd μ μ' lo 0 (μ.1 101 a1) (μ.1 102 a1) (fun i => μ.1 103 (4 * a1 + i)) v)) → Q (some (.inl v)) μ')
set_option maxHeartbeats 1000000 in
theorem zm_X9_closed {g : zΓ} (hg : zg g) (d : Nat) (hd : 3 ≤ d) : zOk g d 141 zk_X9_closed := by
  obtain ⟨d, rfl⟩ : ∃ d', d = d' + 1 := ⟨d - 1, by omega⟩
  refine zOk_loop hg (show mt_tab[141]? = some mt_X9_closed from rfl) ([(24, [0, 1, 2])], []) 53 rfl fun As μ Q hC => ?_
  obtain ⟨a1, lo, rfl, ha1, hp0, hp1, hp2, hp3, hQ⟩ := hC
  obtain ⟨g1, wg1⟩ : ∃ z : Int, μ.1 66 ((8 : Nat) : Int) = z := ⟨_, rfl⟩
  try rw [wg1] at hp0
  try rw [wg1] at hp1
  try rw [wg1] at hp2
  try rw [wg1] at hp3
  have hT : zTop μ = g1 := wg1
  have z0 : zfx [67, 68, 69, 70, 71, 72, 73, 74] [8] μ μ := zfx_x μ
  refine ⟨rfl, fun pc vs μ' n => ∃ (v1 : Int) (v2 : Int), vs = [.inr (.inr (66, 66)), .inl v1, .inl v2] ∧ zfx [67, 68, 69, 70, 71, 72, 73, 74] [8] μ μ' ∧ (0 ≤ v1 ∧ v1 ≤ 8) ∧ (0 ≤ v2 ∧ v2 ≤ 4) ∧ (v1 = a1 ∧ (v2 ≤ μ.1 102 a1 ∨ v2 = 0)) ∧ (∀ j : Nat, j ≠ 74 → μ'.1 j = μ.1 j) ∧ (∀ i : Int, 0 ≤ i → i < v2 → μ'.1 74 i = μ.1 103 (4 * a1 + i)) ∧ (μ.1 100 a1 = 0) ∧ (μ'.1 66 ((8 : Nat) : Int) = μ.1 66 ((8 : Nat) : Int)) ∧ n = (Int.toNat (2147483648 - v2)), ?_, ?_, trivial⟩
  · refine And.intro ⟨by omega, by omega⟩ ?_
    intro x2 hx2 kx2 lx2
    refine And.intro ⟨by omega, by omega⟩ (And.intro (fun c3 => ?_) (fun c3 => ?_))
    · refine Exists.intro (Int.toNat (2147483648 - 0)) ?_
      exact ⟨_, _, rfl, z0, ⟨by omega, by omega⟩, ⟨by omega, by omega⟩, (by omega), (fun _ _ => rfl), (fun i a b => by omega), (by omega), (by (try rw [wg1]) <;> omega), rfl⟩
    · refine And.intro ⟨by omega, by omega⟩ ?_
      intro x4 hx4 kx4 lx4
      refine ⟨zk_X9_make, zm_X9_make hg d (by omega), _, _, _, _, rfl, ⟨by omega, by omega⟩, ⟨by omega, by omega⟩, ⟨by omega, by omega⟩, hp0, (by (try rw [wg1]) <;> omega), ⟨fun h => by omega, fun h => by omega⟩, (fun i a b => by omega), ?_⟩
      intro x5 m6 qm6 kx5 lx5 p7 p8 p9 p10
      have z11 := zfx_t z0 qm6 rfl rfl
      obtain ⟨g12, wg12⟩ : ∃ z : Int, m6.1 66 ((8 : Nat) : Int) = z := ⟨_, rfl⟩
      try rw [wg12] at p7
      try rw [wg1] at p7
      try rw [wg12] at p8
      try rw [wg1] at p8
      try rw [wg12] at p9
      try rw [wg1] at p9
      try rw [wg12] at p10
      try rw [wg1] at p10
      exact And.intro trivial (And.intro ⟨by omega, by omega⟩ (hQ _ _ z11 (by omega) (by omega) (Or.inl ⟨by omega, by have q := p8; have q2 := p9; rw [show x4 = μ.1 101 a1 by omega] at q q2; exact ⟨p7, q, q2, p10⟩⟩)))
  · intro vs m0 n hI
    clear z0
    obtain ⟨v1, v2, rfl, z0, hv1, hv2, i0, i1, i2, i3, i4, rfl⟩ := hI
    have g102 : m0.1 102 v1 = μ.1 102 a1 := by rw [i1 102 (by decide), i0.1]
    have H0 := hp2 i3
    obtain ⟨g13, wg13⟩ : ∃ z : Int, m0.1 66 ((8 : Nat) : Int) = z := ⟨_, rfl⟩
    try rw [wg13] at i0
    try rw [wg1] at i0
    try rw [wg13] at i1
    try rw [wg1] at i1
    try rw [wg13] at i2
    try rw [wg1] at i2
    try rw [wg13] at i3
    try rw [wg1] at i3
    try rw [wg13] at i4
    try rw [wg1] at i4
    refine And.intro ⟨by omega, by omega⟩ ?_
    intro x14 hx14 kx14 lx14
    refine And.intro ⟨⟨by omega, by omega⟩, ⟨by omega, by omega⟩⟩ (And.intro (fun c15 => ?_) (fun c15 => ?_))
    · refine And.intro ⟨by omega, by omega⟩ ?_
      intro x16 hx16 kx16 lx16
      refine And.intro ⟨by omega, by omega⟩ ?_
      intro x17 hx17 kx17 lx17
      have fx16 : x16 = μ.1 101 a1 := by rw [hx16, i1 101 (by decide), show v1 = a1 by omega]
      have fx17 : x17 = μ.1 102 a1 := by rw [hx17, i1 102 (by decide), show v1 = a1 by omega]
      have TT : zTop m0 = zTop μ := congrFun (i1 66 (by decide)) _
      have H2 := hp2 i3
      refine ⟨zk_X9_make, zm_X9_make hg d (by omega), _, _, _, _, rfl, ⟨by omega, by omega⟩, ⟨by omega, by omega⟩, ⟨by omega, by omega⟩, (show zND m0 lo from zND_t.2 (by rw [TT]; exact zNDt_same (fun j a b => i1 j (by omega)) (zND_t.1 hp0))), (by (try rw [wg13]) <;> (try rw [wg1]) <;> omega), ⟨fun h => by omega, fun h => by omega⟩, (fun i a b => by rw [i2 i a (by omega), TT]; exact hp3 i3 i a (by omega)), ?_⟩
      intro x18 m19 qm19 kx18 lx18 p20 p21 p22 p23
      have z24 := zfx_t z0 qm19 rfl rfl
      obtain ⟨g25, wg25⟩ : ∃ z : Int, m19.1 66 ((8 : Nat) : Int) = z := ⟨_, rfl⟩
      try rw [wg25] at p20
      try rw [wg13] at p20
      try rw [wg1] at p20
      try rw [wg25] at p21
      try rw [wg13] at p21
      try rw [wg1] at p21
      try rw [wg25] at p22
      try rw [wg13] at p22
      try rw [wg1] at p22
      try rw [wg25] at p23
      try rw [wg13] at p23
      try rw [wg1] at p23
      exact And.intro trivial (And.intro ⟨by omega, by omega⟩ (hQ _ _ z24 (by omega) (by omega) (Or.inr ⟨i3, by have q := p21; have q2 := p22; rw [fx16, fx17] at q q2; exact zMd_l i1 (fun i a b => i2 i a (by omega)) p20 q q2 p23⟩)))
    · refine And.intro ⟨by omega, by omega⟩ ?_
      intro x26 hx26 kx26 lx26
      refine And.intro ⟨by omega, by omega⟩ (And.intro ⟨by omega, by omega⟩ ?_)
      intro m27 em27
      have z28 := zfx_r z0 em27 rfl (by decide)
      have w29 : m27.1 66 ((8 : Nat) : Int) = g13 := by rw [em27]; exact (congrFun (zu_ne (by decide)) _).trans wg13
      refine Exists.intro (Int.toNat (2147483648 - (v2 + 1))) (And.intro (by (try rw [w29]) <;> (try rw [wg13]) <;> (try rw [wg1]) <;> omega) ?_)
      exact ⟨_, _, rfl, z28, ⟨by omega, by omega⟩, ⟨by omega, by omega⟩, (by omega), (fun j hj => by rw [em27, zu_ne hj]; exact i1 j hj), (fun i a b => by rw [em27]; rcases (show i < v2 ∨ i = v2 by omega) with q | q <;> first | (rw [zu_nk (by omega)]; exact i2 i a q) | (rw [q, zu_at, hx26, i1 103 (by decide), show v1 = a1 by omega])), i3, (by (try rw [w29]) <;> (try rw [wg13]) <;> (try rw [wg1]) <;> omega), rfl⟩
