/-! ### a node is made -/
def zk_X9_make : zC := fun As μ Q => ∃ (a1 : Int) (a2 : Int) (a3 : Int) (lo : Int), As = [.inr (.inr (66, 66)), .inl a1, .inl a2, .inl a3] ∧ (0 ≤ a1 ∧ a1 ≤ 5) ∧ (0 ≤ a2 ∧ a2 ≤ 299) ∧ (0 ≤ a3 ∧ a3 ≤ 4) ∧ (zND μ lo) ∧ (μ.1 66 ((8 : Nat) : Int) ≤ 19999) ∧ ((a1 = 0 → a2 ≤ 20) ∧ (a1 = 1 → a2 ≤ 79)) ∧ (∀ i : Int, 0 ≤ i → i < a3 → 0 ≤ μ.1 74 i ∧ μ.1 74 i < zTop μ) ∧ (∀ (v : Int) (μ' : zM), zfx [67, 68, 69, 70, 71, 72, 73] [8] μ μ' → 0 ≤ v → v ≤ 19999 → (zND μ' lo) → (zlike μ' v a1 a2 a3 (μ.1 74)) → ((zTop μ' = zTop μ ∧ lo ≤ v ∧ v < zTop μ) ∨ (zTop μ' = zTop μ + 1 ∧ v = zTop μ ∧ ∀ y : Int, lo ≤ y → y < zTop μ → ¬ zlike μ y a1 a2 a3 (μ.1 74))) → (zOld μ μ' (zTop μ)) → Q (some (.inl v)) μ')
set_option maxHeartbeats 1000000 in
theorem zm_X9_make {g : zΓ} (hg : zg g) (d : Nat) (hd : 2 ≤ d) : zOk g d 123 zk_X9_make := by
  obtain ⟨d, rfl⟩ : ∃ d', d = d' + 1 := ⟨d - 1, by omega⟩
  refine zOk_loop hg (show mt_tab[123]? = some mt_X9_make from rfl) ([(18, [0, 1, 2, 3, 4, 5]), (56, [0, 1, 2, 3, 4, 5, 6])], []) 120 rfl fun As μ Q hC => ?_
  obtain ⟨a1, a2, a3, lo, rfl, ha1, ha2, ha3, hp0, hp1, hp2, hp3, hQ⟩ := hC
  obtain ⟨g1, wg1⟩ : ∃ z : Int, μ.1 66 ((8 : Nat) : Int) = z := ⟨_, rfl⟩
  try rw [wg1] at hp0
  try rw [wg1] at hp1
  try rw [wg1] at hp2
  try rw [wg1] at hp3
  have hT : zTop μ = g1 := wg1
  have z0 : zfx [67, 68, 69, 70, 71, 72, 73] [8] μ μ := zfx_x μ
  refine ⟨rfl, fun pc vs μ' n => (pc = 18 → ∃ (v1 : Int) (v2 : Int) (v3 : Int) (v4 : Int) (v5 : Int), vs = [.inr (.inr (66, 66)), .inl v1, .inl v2, .inl v3, .inl v4, .inl v5] ∧ zfx [67, 68, 69, 70, 71, 72, 73] [8] μ μ' ∧ (0 ≤ v1 ∧ v1 ≤ 5) ∧ (0 ≤ v2 ∧ v2 ≤ 299) ∧ (0 ≤ v3 ∧ v3 ≤ 4) ∧ (0 ≤ v4 ∧ v4 ≤ 2047) ∧ ((-1) ≤ v5 ∧ v5 ≤ 19999) ∧ (μ' = μ) ∧ (v1 = a1 ∧ v2 = a2 ∧ v3 = a3) ∧ (v4 = zsl a1 a2 a3 (μ.1 74)) ∧ (v5 < zTop μ) ∧ (0 ≤ v5 → lo ≤ v5 ∧ zsx μ v5 = v4) ∧ (∀ y : Int, lo ≤ y → y < zTop μ → zlike μ y a1 a2 a3 (μ.1 74) → y ≤ v5) ∧ n = (Int.toNat (v5 + 2 + 4294967296))) ∧ (pc = 56 → ∃ (v1 : Int) (v2 : Int) (v3 : Int) (v4 : Int) (v5 : Int) (v6 : Int), vs = [.inr (.inr (66, 66)), .inl v1, .inl v2, .inl v3, .inl v4, .inl v5, .inl v6] ∧ zfx [67, 68, 69, 70, 71, 72, 73] [8] μ μ' ∧ (0 ≤ v1 ∧ v1 ≤ 5) ∧ (0 ≤ v2 ∧ v2 ≤ 299) ∧ (0 ≤ v3 ∧ v3 ≤ 4) ∧ (0 ≤ v4 ∧ v4 ≤ 2047) ∧ (1 ≤ v5 ∧ v5 ≤ 400001) ∧ (0 ≤ v6 ∧ v6 ≤ 4) ∧ (v1 = a1 ∧ v2 = a2 ∧ v3 = a3 ∧ v4 = zsl a1 a2 a3 (μ.1 74) ∧ v6 ≤ v3) ∧ (∀ j : Nat, j ≠ 70 → μ'.1 j = μ.1 j) ∧ (∀ q : Int, μ'.1 70 q = if 4 * zTop μ ≤ q ∧ q < 4 * zTop μ + v6 then μ.1 74 (q - 4 * zTop μ) else μ.1 70 q) ∧ (v5 = zsm (fun i => μ.1 71 (μ.1 74 i)) v6.toNat) ∧ (v5 ≤ 1 + 100000 * v6) ∧ (∀ y : Int, lo ≤ y → y < zTop μ → ¬ zlike μ y a1 a2 a3 (μ.1 74)) ∧ (μ'.1 66 ((8 : Nat) : Int) = μ.1 66 ((8 : Nat) : Int)) ∧ n = (Int.toNat (2147483648 - v6))), ?_, ?_, ?_, trivial⟩
  · refine ⟨zk_X9_slotOf, zm_X9_slotOf hg d (by omega), _, _, _, rfl, ⟨by omega, by omega⟩, ⟨by omega, by omega⟩, ⟨by omega, by omega⟩, ?_⟩
    intro x2 kx2 lx2 p3
    try rw [wg1] at p3
    try rw [wg1] at p3
    refine And.intro ⟨by omega, by omega⟩ ?_
    intro x4 hx4 kx4 lx4
    refine Exists.intro (Int.toNat (x4 + 2 + 4294967296)) ?_
    exact ⟨(fun _ => ⟨_, _, _, _, _, rfl, z0, ⟨by omega, by omega⟩, ⟨by omega, by omega⟩, ⟨by omega, by omega⟩, ⟨by omega, by omega⟩, ⟨by omega, by omega⟩, rfl, (by (try rw [wg1]) <;> omega), p3, (by rw [hx4]; exact (zND_h hp0 (by omega) (by omega)).1), (by rw [hx4]; exact (zND_h hp0 (by omega) (by omega)).2), (fun y h1 h2 h3 => by rw [hx4, p3]; exact zND_y hp0 h1 h2 h3), rfl⟩), (fun h => absurd h (by decide))⟩
  · intro vs m0 n hI
    replace hI := hI.1 rfl
    clear z0
    obtain ⟨v1, v2, v3, v4, v5, rfl, z0, hv1, hv2, hv3, hv4, hv5, i0, i1, i2, i3, i4, i5, rfl⟩ := hI
    subst i0
    obtain ⟨j1, j2, j3⟩ := i1
    subst j1 j2 j3
    obtain ⟨g5, wg5⟩ : ∃ z : Int, m0.1 66 ((8 : Nat) : Int) = z := ⟨_, rfl⟩
    try rw [wg5] at i0
    try rw [wg1] at i0
    try rw [wg5] at i1
    try rw [wg1] at i1
    try rw [wg5] at i2
    try rw [wg1] at i2
    try rw [wg5] at i3
    try rw [wg1] at i3
    try rw [wg5] at i4
    try rw [wg1] at i4
    try rw [wg5] at i5
    try rw [wg1] at i5
    refine And.intro ⟨by omega, by omega⟩ (And.intro (fun c6 => ?_) (fun c6 => ?_))
    · refine Exists.intro (Int.toNat (2147483648 - 0)) (And.intro (by (try rw [wg5]) <;> (try rw [wg1]) <;> omega) ?_)
      exact ⟨(fun h => absurd h (by decide)), (fun _ => ⟨_, _, _, _, _, _, rfl, z0, ⟨by omega, by omega⟩, ⟨by omega, by omega⟩, ⟨by omega, by omega⟩, ⟨by omega, by omega⟩, ⟨by omega, by omega⟩, ⟨by omega, by omega⟩, (by omega), (fun _ _ => rfl), (fun q => by rw [if_neg (by omega)]), rfl, (by omega), (fun y h1 h2 h3 => by have := i5 y h1 h2 h3; have := hp0.1.1; omega), rfl, rfl⟩)⟩
    · refine ⟨zk_X9_isLike, zm_X9_isLike hg d (by omega), _, _, _, _, rfl, ⟨by omega, by omega⟩, ⟨by omega, by omega⟩, ⟨by omega, by omega⟩, ⟨by omega, by omega⟩, ?_⟩
      intro x7 kx7 lx7 p8
      try rw [wg5] at p8
      try rw [wg1] at p8
      refine And.intro ⟨by omega, by omega⟩ (And.intro (fun c9 => ?_) (fun c9 => ?_))
      · refine And.intro ⟨by omega, by omega⟩ ?_
        intro x10 hx10 kx10 lx10
        have KN := zND_n hp0 (i4 (by omega)).1 i3 (i4 (by omega)).2 i2 (fun hl => by have := p8.2 hl; omega) i5
        refine Exists.intro (Int.toNat (x10 + 2 + 4294967296)) (And.intro (by (try rw [wg5]) <;> (try rw [wg1]) <;> omega) ?_)
        exact ⟨(fun _ => ⟨_, _, _, _, _, rfl, z0, ⟨by omega, by omega⟩, ⟨by omega, by omega⟩, ⟨by omega, by omega⟩, ⟨by omega, by omega⟩, ⟨by omega, by omega⟩, rfl, (by (try rw [wg5]) <;> (try rw [wg1]) <;> omega), i2, (by have q := KN.1; omega), (by rw [hx10]; exact KN.2.1), (fun y h1 h2 h3 => by rw [hx10]; exact KN.2.2 y h1 h2 h3), rfl⟩), (fun h => absurd h (by decide))⟩
      · exact And.intro trivial (And.intro ⟨by omega, by omega⟩ (hQ _ _ z0 (by omega) (by omega) hp0 (p8.1 (by omega)) (Or.inl ⟨rfl, (i4 (by omega)).1, i3⟩) (zOld_r _ _)))
  · intro vs m0 n hI
    replace hI := hI.2 rfl
    clear z0
    obtain ⟨v1, v2, v3, v4, v5, v6, rfl, z0, hv1, hv2, hv3, hv4, hv5, hv6, i0, i1, i2, i3, i4, i5, i6, rfl⟩ := hI
    obtain ⟨j1, j2, j3, j4, j5⟩ := i0
    subst j1 j2 j3
    obtain ⟨g11, wg11⟩ : ∃ z : Int, m0.1 66 ((8 : Nat) : Int) = z := ⟨_, rfl⟩
    try rw [wg11] at i0
    try rw [wg1] at i0
    try rw [wg11] at i1
    try rw [wg1] at i1
    try rw [wg11] at i2
    try rw [wg1] at i2
    try rw [wg11] at i3
    try rw [wg1] at i3
    try rw [wg11] at i4
    try rw [wg1] at i4
    try rw [wg11] at i5
    try rw [wg1] at i5
    try rw [wg11] at i6
    try rw [wg1] at i6
    refine And.intro ⟨⟨by omega, by omega⟩, ⟨by omega, by omega⟩⟩ (And.intro (fun c12 => ?_) (fun c12 => ?_))
    · intro x13 hx13 kx13 lx13
      rw [wg11] at hx13
      refine And.intro ⟨by omega, by omega⟩ (And.intro ⟨by omega, by omega⟩ ?_)
      intro m14 em14
      have z15 := zfx_r z0 em14 rfl (by decide)
      have w16 : m14.1 66 ((8 : Nat) : Int) = g11 := by rw [em14]; exact (congrFun (zu_ne (by decide)) _).trans wg11
      intro x17 hx17 kx17 lx17
      rw [w16] at hx17
      refine And.intro ⟨by omega, by omega⟩ (And.intro ⟨by omega, by omega⟩ ?_)
      intro m18 em18
      have z19 := zfx_r z15 em18 rfl (by decide)
      have w20 : m18.1 66 ((8 : Nat) : Int) = g11 := by rw [em18]; exact (congrFun (zu_ne (by decide)) _).trans w16
      clear w16
      intro x21 hx21 kx21 lx21
      rw [w20] at hx21
      refine And.intro ⟨by omega, by omega⟩ (And.intro ⟨by omega, by omega⟩ ?_)
      intro m22 em22
      have z23 := zfx_r z19 em22 rfl (by decide)
      have w24 : m22.1 66 ((8 : Nat) : Int) = g11 := by rw [em22]; exact (congrFun (zu_ne (by decide)) _).trans w20
      clear w20
      intro x25 hx25 kx25 lx25
      rw [w24] at hx25
      refine And.intro ⟨⟨by omega, by omega⟩, ⟨by omega, by omega⟩⟩ (And.intro (fun c26 => ?_) (fun c26 => ?_))
      · refine And.intro ⟨by omega, by omega⟩ (And.intro ⟨by omega, by omega⟩ ?_)
        intro m27 em27
        have z28 := zfx_r z23 em27 rfl (by decide)
        have w29 : m27.1 66 ((8 : Nat) : Int) = g11 := by rw [em27]; exact (congrFun (zu_ne (by decide)) _).trans w24
        clear w24
        intro x30 hx30 kx30 lx30
        rw [w29] at hx30
        refine And.intro ⟨by omega, by omega⟩ ?_
        intro x31 hx31 kx31 lx31
        refine And.intro ⟨by omega, by omega⟩ (And.intro ⟨by omega, by omega⟩ ?_)
        intro m32 em32
        have z33 := zfx_r z28 em32 rfl (by decide)
        have w34 : m32.1 66 ((8 : Nat) : Int) = g11 := by rw [em32]; exact (congrFun (zu_ne (by decide)) _).trans w29
        clear w29
        intro x35 hx35 kx35 lx35
        rw [w34] at hx35
        refine And.intro ⟨by omega, by omega⟩ (And.intro ⟨by omega, by omega⟩ ?_)
        intro m36 em36
        have z37 := zfx_r z33 em36 rfl (by decide)
        have w38 : m36.1 66 ((8 : Nat) : Int) = g11 := by rw [em36]; exact (congrFun (zu_ne (by decide)) _).trans w34
        clear w34
        intro x39 hx39 kx39 lx39
        rw [w38] at hx39
        refine And.intro ⟨by omega, by omega⟩ ?_
        intro m40 em40
        have z41 := zfx_f z37 em40 rfl
        have w42 : m40.1 66 ((8 : Nat) : Int) = (x39 + 1) := by rw [em40]; exact zu_at
        clear w38
        intro x43 hx43 kx43 lx43
        rw [w42] at hx43
        have HS : v5 = zcap (zsm (fun i => μ.1 71 (μ.1 74 i)) v3.toNat) := by rw [show v3 = v6 by omega, ← i3]; unfold zcap; split <;> omega
        have KK := zmk hp0 (rfl : zTop μ = zTop μ) ⟨by omega, by omega⟩ hp2.1 hp2.2 hp3 j4 HS i5 i1 (fun q => by rw [show v3 = v6 by omega]; exact i2 q) em14 em18 em22 em27 hx31 em32 em36 em40 (by omega) (by omega) (by omega) (by omega) (by omega) (by omega) (by omega)
        exact And.intro trivial (And.intro ⟨by omega, by omega⟩ (hQ _ _ z41 (by omega) (by omega) KK.1 (by rw [show (x43 - 1) = zTop μ by omega]; exact KK.2.2.1) (Or.inr ⟨KK.2.1, by omega, i5⟩) KK.2.2.2))
      · refine And.intro ⟨by omega, by omega⟩ (And.intro ⟨by omega, by omega⟩ ?_)
        intro m44 em44
        have z45 := zfx_r z23 em44 rfl (by decide)
        have w46 : m44.1 66 ((8 : Nat) : Int) = g11 := by rw [em44]; exact (congrFun (zu_ne (by decide)) _).trans w24
        clear w24
        intro x47 hx47 kx47 lx47
        rw [w46] at hx47
        refine And.intro ⟨by omega, by omega⟩ ?_
        intro x48 hx48 kx48 lx48
        refine And.intro ⟨by omega, by omega⟩ (And.intro ⟨by omega, by omega⟩ ?_)
        intro m49 em49
        have z50 := zfx_r z45 em49 rfl (by decide)
        have w51 : m49.1 66 ((8 : Nat) : Int) = g11 := by rw [em49]; exact (congrFun (zu_ne (by decide)) _).trans w46
        clear w46
        intro x52 hx52 kx52 lx52
        rw [w51] at hx52
        refine And.intro ⟨by omega, by omega⟩ (And.intro ⟨by omega, by omega⟩ ?_)
        intro m53 em53
        have z54 := zfx_r z50 em53 rfl (by decide)
        have w55 : m53.1 66 ((8 : Nat) : Int) = g11 := by rw [em53]; exact (congrFun (zu_ne (by decide)) _).trans w51
        clear w51
        intro x56 hx56 kx56 lx56
        rw [w55] at hx56
        refine And.intro ⟨by omega, by omega⟩ ?_
        intro m57 em57
        have z58 := zfx_f z54 em57 rfl
        have w59 : m57.1 66 ((8 : Nat) : Int) = (x56 + 1) := by rw [em57]; exact zu_at
        clear w55
        intro x60 hx60 kx60 lx60
        rw [w59] at hx60
        have HS : 100000 = zcap (zsm (fun i => μ.1 71 (μ.1 74 i)) v3.toNat) := by rw [show v3 = v6 by omega, ← i3]; unfold zcap; split <;> omega
        have KK := zmk hp0 (rfl : zTop μ = zTop μ) ⟨by omega, by omega⟩ hp2.1 hp2.2 hp3 j4 HS i5 i1 (fun q => by rw [show v3 = v6 by omega]; exact i2 q) em14 em18 em22 em44 hx48 em49 em53 em57 (by omega) (by omega) (by omega) (by omega) (by omega) (by omega) (by omega)
        exact And.intro trivial (And.intro ⟨by omega, by omega⟩ (hQ _ _ z58 (by omega) (by omega) KK.1 (by rw [show (x60 - 1) = zTop μ by omega]; exact KK.2.2.1) (Or.inr ⟨KK.2.1, by omega, i5⟩) KK.2.2.2))
    · intro x61 hx61 kx61 lx61
      rw [wg11] at hx61
      refine And.intro ⟨by omega, by omega⟩ ?_
      intro x62 hx62 kx62 lx62
      refine And.intro ⟨by omega, by omega⟩ (And.intro ⟨by omega, by omega⟩ ?_)
      intro m63 em63
      have z64 := zfx_r z0 em63 rfl (by decide)
      have w65 : m63.1 66 ((8 : Nat) : Int) = g11 := by rw [em63]; exact (congrFun (zu_ne (by decide)) _).trans wg11
      refine And.intro ⟨by omega, by omega⟩ ?_
      intro x66 hx66 kx66 lx66
      refine And.intro ⟨by omega, by omega⟩ ?_
      intro x67 hx67 kx67 lx67
      refine Exists.intro (Int.toNat (2147483648 - (v6 + 1))) (And.intro (by (try rw [w65]) <;> (try rw [wg11]) <;> (try rw [wg1]) <;> omega) ?_)
      exact ⟨(fun h => absurd h (by decide)), (fun _ => ⟨_, _, _, _, _, _, rfl, z64, ⟨by omega, by omega⟩, ⟨by omega, by omega⟩, ⟨by omega, by omega⟩, ⟨by omega, by omega⟩, ⟨by omega, by omega⟩, ⟨by omega, by omega⟩, (by omega), (fun j hj => by rw [em63, zu_ne hj]; exact i1 j hj), (zas i2 em63 (by omega) (by rw [hx62, i1 74 (by decide)]) (by omega)), (by rw [show (v6 + 1).toNat = v6.toNat + 1 by omega]; show _ = zsm _ v6.toNat + μ.1 71 (μ.1 74 ((v6.toNat : Nat) : Int)); rw [← i3, show ((v6.toNat : Nat) : Int) = v6 by omega, hx67, hx66, em63, zu_ne (by decide), zu_ne (by decide), i1 71 (by decide), i1 74 (by decide)]), (by omega), i5, (by (try rw [w65]) <;> (try rw [wg11]) <;> (try rw [wg1]) <;> omega), rfl⟩)⟩
