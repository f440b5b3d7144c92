/-! ### one node is put anew: the method -/
def zk_X9_substituted : zC := fun As μ Q => ∃ (a1 : Int) (a2 : Int) (a3 : Int) (a4 : Int) (lo : Int), As = [.inr (.inr (66, 66)), .inl a1, .inl a2, .inl a3, .inl a4] ∧ (0 ≤ a1 ∧ a1 ≤ 19999) ∧ (0 ≤ a2 ∧ a2 ≤ 79) ∧ (0 ≤ a3 ∧ a3 ≤ 4) ∧ (0 ≤ a4 ∧ a4 ≤ 19999) ∧ (zND μ lo) ∧ (μ.1 66 ((8 : Nat) : Int) ≤ 19999) ∧ (a1 < zTop μ ∧ a4 < zTop μ ∧ a3 ≤ μ.1 69 a4) ∧ (∀ i : Int, 0 ≤ i → i < μ.1 69 a1 → 0 ≤ μ.1 97 (μ.1 70 (4 * a1 + i)) ∧ μ.1 97 (μ.1 70 (4 * a1 + i)) < zTop μ) ∧ (∀ (v : Int) (μ' : zM), zfx [67, 68, 69, 70, 71, 72, 73, 74] [8] μ μ' → 0 ≤ v → v ≤ 19999 → (zND μ' lo) → (v < zTop μ') → (zOld μ μ' (zTop μ)) → (zSn μ μ' lo a1 v) → (zSo μ μ' lo a1 a2 a3 a4 v) → Q (some (.inl v)) μ')
set_option maxHeartbeats 1000000 in
theorem zm_X9_substituted {g : zΓ} (hg : zg g) (d : Nat) (hd : 3 ≤ d) : zOk g d 126 zk_X9_substituted := by
  obtain ⟨d, rfl⟩ : ∃ d', d = d' + 1 := ⟨d - 1, by omega⟩
  refine zOk_loop hg (show mt_tab[126]? = some mt_X9_substituted from rfl) ([(62, [0, 1, 5])], []) 81 rfl fun As μ Q hC => ?_
  obtain ⟨a1, a2, a3, a4, lo, rfl, ha1, ha2, ha3, ha4, hp0, hp1, hp2, hp3, hQ⟩ := hC
  obtain ⟨g1, wg1⟩ : ∃ z : Int, μ.1 66 ((8 : Nat) : Int) = z := ⟨_, rfl⟩
  try rw [wg1] at hp0
  try rw [wg1] at hp1
  try rw [wg1] at hp2
  try rw [wg1] at hp3
  have hT : zTop μ = g1 := wg1
  have z0 : zfx [67, 68, 69, 70, 71, 72, 73, 74] [8] μ μ := zfx_x μ
  refine ⟨rfl, fun pc vs μ' n => ∃ (v1 : Int) (v5 : Int), vs = [.inr (.inr (66, 66)), .inl v1, .inl v5] ∧ zfx [67, 68, 69, 70, 71, 72, 73, 74] [8] μ μ' ∧ (0 ≤ v1 ∧ v1 ≤ 19999) ∧ (0 ≤ v5 ∧ v5 ≤ 4) ∧ (v1 = a1 ∧ v5 ≤ μ.1 69 a1) ∧ (∀ j : Nat, j ≠ 74 → μ'.1 j = μ.1 j) ∧ (∀ i : Int, 0 ≤ i → i < v5 → μ'.1 74 i = μ.1 97 (μ.1 70 (4 * a1 + i))) ∧ (μ.1 67 a1 ≠ 1 ∧ 0 < μ.1 69 a1) ∧ (μ'.1 66 ((8 : Nat) : Int) = μ.1 66 ((8 : Nat) : Int)) ∧ n = (Int.toNat (2147483648 - v5)), ?_, ?_, trivial⟩
  · refine And.intro ⟨by omega, by omega⟩ ?_
    intro x2 hx2 kx2 lx2
    refine And.intro ⟨⟨by omega, by omega⟩, ⟨by omega, by omega⟩⟩ (And.intro (fun c3 => ?_) (fun c3 => ?_))
    · refine And.intro ⟨by omega, by omega⟩ ?_
      intro x4 hx4 kx4 lx4
      refine And.intro ⟨by omega, by omega⟩ (And.intro (fun c5 => ?_) (fun c5 => ?_))
      · refine Exists.intro (Int.toNat (2147483648 - 0)) ?_
        exact ⟨_, _, rfl, z0, ⟨by omega, by omega⟩, ⟨by omega, by omega⟩, (by omega), (fun _ _ => rfl), (fun i a b => by omega), ⟨by omega, by omega⟩, (by (try rw [wg1]) <;> omega), rfl⟩
      · exact And.intro trivial (And.intro ⟨by omega, by omega⟩ (hQ _ _ z0 (by omega) (by omega) hp0 (by omega) (zOld_r _ _) (Or.inl rfl) (Or.inr (Or.inl ⟨by omega, by omega, rfl⟩))))
    · refine And.intro ⟨by omega, by omega⟩ ?_
      intro x6 hx6 kx6 lx6
      refine And.intro ⟨by omega, by omega⟩ (And.intro (fun c7 => ?_) (fun c7 => ?_))
      · exact And.intro trivial (And.intro ⟨by omega, by omega⟩ (hQ _ _ z0 (by omega) (by omega) hp0 (by omega) (zOld_r _ _) (Or.inl rfl) (Or.inl ⟨by omega, Or.inr ⟨by omega, rfl⟩⟩)))
      · refine And.intro ⟨⟨by omega, by omega⟩, ⟨by omega, by omega⟩⟩ (And.intro (fun c8 => ?_) (fun c8 => ?_))
        · exact And.intro trivial (And.intro ⟨by omega, by omega⟩ (hQ _ _ z0 (by omega) (by omega) hp0 (by omega) (zOld_r _ _) (Or.inl rfl) (Or.inl ⟨by omega, Or.inr ⟨by omega, rfl⟩⟩)))
        · refine And.intro ⟨by omega, by omega⟩ ?_
          intro x9 hx9 kx9 lx9
          exact And.intro trivial (And.intro ⟨by omega, by omega⟩ (hQ _ _ z0 (by omega) (by omega) hp0 (by first | omega | (have nw := hp0.2.1 a4 (by omega) hp2.2.1; have nx := (nw.2.1 (x6 - a2) (by omega) (by omega)).2; rw [← hx9] at nx; omega)) (zOld_r _ _) (Or.inl rfl) (Or.inl ⟨by omega, Or.inl ⟨by omega, by omega, by rw [hx9, show (x6 - a2) = μ.1 68 a1 - a2 by omega]⟩⟩)))
  · intro vs m0 n hI
    clear z0
    obtain ⟨v1, v5, rfl, z0, hv1, hv5, i0, i1, i2, i3, i4, rfl⟩ := hI
    have g69 : m0.1 69 v1 = μ.1 69 a1 := by rw [i1 69 (by decide), i0.1]
    obtain ⟨g10, wg10⟩ : ∃ z : Int, m0.1 66 ((8 : Nat) : Int) = z := ⟨_, rfl⟩
    try rw [wg10] at i0
    try rw [wg1] at i0
    try rw [wg10] at i1
    try rw [wg1] at i1
    try rw [wg10] at i2
    try rw [wg1] at i2
    try rw [wg10] at i3
    try rw [wg1] at i3
    try rw [wg10] at i4
    try rw [wg1] at i4
    refine And.intro ⟨by omega, by omega⟩ ?_
    intro x11 hx11 kx11 lx11
    refine And.intro ⟨⟨by omega, by omega⟩, ⟨by omega, by omega⟩⟩ (And.intro (fun c12 => ?_) (fun c12 => ?_))
    · refine And.intro ⟨by omega, by omega⟩ ?_
      intro x13 hx13 kx13 lx13
      refine And.intro ⟨by omega, by omega⟩ ?_
      intro x14 hx14 kx14 lx14
      refine And.intro ⟨by omega, by omega⟩ ?_
      intro x15 hx15 kx15 lx15
      have nd := hp0.2.1 a1 (by omega) hp2.1
      have fx13 : x13 = μ.1 67 a1 := by rw [hx13, i1 67 (by decide), show v1 = a1 by omega]
      have fx14 : x14 = μ.1 68 a1 := by rw [hx14, i1 68 (by decide), show v1 = a1 by omega]
      have fx15 : x15 = μ.1 69 a1 := by rw [hx15, i1 69 (by decide), show v1 = a1 by omega]
      have TT : zTop m0 = zTop μ := congrFun (i1 66 (by decide)) _
      refine ⟨zk_X9_make, zm_X9_make hg d (by omega), _, _, _, _, rfl, ⟨by omega, by omega⟩, ⟨by omega, by omega⟩, ⟨by omega, by omega⟩, (show zND m0 lo from zND_t.2 (by rw [TT]; exact zNDt_same (fun j a b => i1 j (by omega)) (zND_t.1 hp0))), (by (try rw [wg10]) <;> (try rw [wg1]) <;> omega), ⟨fun h => by have := nd.2.2.1 (by omega); omega, fun h => by have := nd.2.2.2.1 (by omega); omega⟩, (fun i a b => by rw [i2 i a (by omega), TT]; exact hp3 i a (by omega)), ?_⟩
      intro x16 m17 qm17 kx16 lx16 p18 p19 p20 p21
      have z22 := zfx_t z0 qm17 rfl rfl
      obtain ⟨g23, wg23⟩ : ∃ z : Int, m17.1 66 ((8 : Nat) : Int) = z := ⟨_, rfl⟩
      try rw [wg23] at p18
      try rw [wg10] at p18
      try rw [wg1] at p18
      try rw [wg23] at p19
      try rw [wg10] at p19
      try rw [wg1] at p19
      try rw [wg23] at p20
      try rw [wg10] at p20
      try rw [wg1] at p20
      try rw [wg23] at p21
      try rw [wg10] at p21
      try rw [wg1] at p21
      exact And.intro trivial (And.intro ⟨by omega, by omega⟩ (hQ _ _ z22 (by omega) (by omega) p18 (by rcases p20 with q | q <;> omega) (zOld_l (fun j a b => i1 j (by omega)) (by rw [← TT]; exact p21)) (by rcases p20 with q | q; exact Or.inl (by omega); exact Or.inr ⟨by omega, by omega, i3.1, i3.2, fun y a b hl => q.2.2 y a (by omega) (by rw [fx13, fx14, fx15]; exact zlike_l (fun j a b => (i1 j (by omega)).symm) (fun i a b => (i2 i a (by omega)).symm) hl)⟩) (Or.inr (Or.inr ⟨i3.1, i3.2, by have := hp0.1.2; rcases p20 with q | q <;> omega, by have q := p19; rw [fx13, fx14, fx15] at q; exact zlike_r (fun i a b => i2 i a (by omega)) q⟩))))
    · refine And.intro ⟨by omega, by omega⟩ ?_
      intro x24 hx24 kx24 lx24
      refine And.intro ⟨by omega, by omega⟩ ?_
      intro x25 hx25 kx25 lx25
      refine And.intro ⟨by omega, by omega⟩ (And.intro ⟨by omega, by omega⟩ ?_)
      intro m26 em26
      have z27 := zfx_r z0 em26 rfl (by decide)
      have w28 : m26.1 66 ((8 : Nat) : Int) = g10 := by rw [em26]; exact (congrFun (zu_ne (by decide)) _).trans wg10
      refine Exists.intro (Int.toNat (2147483648 - (v5 + 1))) (And.intro (by (try rw [w28]) <;> (try rw [wg10]) <;> (try rw [wg1]) <;> omega) ?_)
      exact ⟨_, _, rfl, z27, ⟨by omega, by omega⟩, ⟨by omega, by omega⟩, (by omega), (fun j hj => by rw [em26, zu_ne hj]; exact i1 j hj), (fun i a b => by rw [em26]; rcases (show i < v5 ∨ i = v5 by omega) with q | q <;> first | (rw [zu_nk (by omega)]; exact i2 i a q) | (rw [q, zu_at, hx25, hx24, i1 97 (by decide), i1 70 (by decide), show v1 = a1 by omega])), i3, (by (try rw [w28]) <;> (try rw [wg10]) <;> (try rw [wg1]) <;> omega), rfl⟩
