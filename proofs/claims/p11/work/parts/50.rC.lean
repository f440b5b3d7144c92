/-! ### a type is read -/
def zk_X9_readType : zC := fun As μ Q => ∃ (a1 : Int) (a2 : Int) (a3 : Int) (lo : Int) (C : Int) (Pn : Int) (F : Int) (cf : Int → Int) (pa : Int) (pe : Int), As = [.inr (.inr (66, 66)), .inl a1, .inl a2, .inl a3] ∧ ((-1) ≤ a1 ∧ a1 ≤ 20) ∧ (0 ≤ a2 ∧ a2 ≤ 4) ∧ (0 ≤ a3 ∧ a3 ≤ 1) ∧ (0 ≤ μ.1 66 ((33 : Nat) : Int) ∧ 0 ≤ μ.1 66 ((34 : Nat) : Int) ∧ μ.1 66 ((33 : Nat) : Int) + μ.1 66 ((34 : Nat) : Int) ≤ μ.1 66 ((31 : Nat) : Int) ∧ μ.1 66 ((31 : Nat) : Int) ≤ μ.1 66 ((30 : Nat) : Int) ∧ μ.1 66 ((30 : Nat) : Int) ≤ 800) ∧ (zND μ lo) ∧ (zWf μ lo (zTop μ) C Pn F cf) ∧ (μ.1 66 ((26 : Nat) : Int) ≤ C ∧ (0 ≤ a1 → μ.1 76 (μ.1 66 ((24 : Nat) : Int) + a1) + μ.1 77 (μ.1 66 ((24 : Nat) : Int) + a1) ≤ Pn) ∧ C ≤ 21 ∧ Pn ≤ 80) ∧ (∀ v : Int, 0 ≤ v → v < C → cf v = μ.1 77 (μ.1 66 ((24 : Nat) : Int) + v)) ∧ (μ.1 66 ((8 : Nat) : Int) - μ.1 66 ((38 : Nat) : Int) ≤ 19699 ∧ 0 ≤ μ.1 66 ((38 : Nat) : Int) ∧ μ.1 66 ((38 : Nat) : Int) ≤ 300) ∧ (0 ≤ a1 → pa ≤ μ.1 76 (μ.1 66 ((24 : Nat) : Int) + a1) ∧ μ.1 76 (μ.1 66 ((24 : Nat) : Int) + a1) + μ.1 77 (μ.1 66 ((24 : Nat) : Int) + a1) ≤ pe) ∧ (∀ (v : Int) (μ' : zM), zfx [67, 68, 69, 70, 71, 72, 73, 74, 100, 101, 102, 103, 104] [8, 31, 32, 33, 34, 35, 36, 38] μ μ' → (-1) ≤ v → v ≤ 19999 → (0 ≤ μ'.1 66 ((33 : Nat) : Int) ∧ 0 ≤ μ'.1 66 ((34 : Nat) : Int) ∧ μ'.1 66 ((33 : Nat) : Int) + μ'.1 66 ((34 : Nat) : Int) ≤ μ'.1 66 ((31 : Nat) : Int) ∧ μ'.1 66 ((31 : Nat) : Int) ≤ μ'.1 66 ((30 : Nat) : Int) ∧ μ'.1 66 ((30 : Nat) : Int) ≤ 800) → (μ'.1 66 ((30 : Nat) : Int) = μ.1 66 ((30 : Nat) : Int)) → (zTE μ μ' lo C Pn F cf) → (0 ≤ μ'.1 66 ((38 : Nat) : Int) ∧ μ'.1 66 ((38 : Nat) : Int) ≤ 300) → (v = -1 ∨ zrm μ' ≤ zrm μ) → (v = -1 ∨ (lo ≤ v ∧ v < zTop μ' ∧ μ'.1 67 v ≤ 1 ∧ (a2 ≤ 1 → μ'.1 67 v = 0) ∧ (a2 = 1 → μ'.1 68 v ≠ a1 ∧ ∀ i : Int, 0 ≤ i → i < μ'.1 69 v → μ'.1 67 (μ'.1 70 (4 * v + i)) ≤ 2) ∧ zPar μ' pa pe v ∧ μ'.1 71 v ≤ zTn μ μ')) → (a3 = 0 ∨ v = -1) → Q (some (.inl v)) μ')
set_option maxHeartbeats 8000000 in
theorem zm_X9_readType {g : zΓ} (hg : zg g) (d : Nat) (hd : 5 ≤ d) : zOk g d 142 zk_X9_readType := by
  obtain ⟨d, rfl⟩ : ∃ d', d = d' + 1 := ⟨d - 1, by omega⟩
  refine zOk_loop hg (show mt_tab[142]? = some mt_X9_readType from rfl) ([(13, [0, 1, 2, 3, 4, 5])], []) 246 rfl fun As μ Q hC => ?_
  obtain ⟨a1, a2, a3, lo, C, Pn, F, cf, pa, pe, rfl, ha1, ha2, ha3, hp0, hp1, hp2, hp3, hp4, hp5, hp6, hQ⟩ := hC
  obtain ⟨g1, wg1⟩ : ∃ z : Int, μ.1 66 ((31 : Nat) : Int) = z := ⟨_, rfl⟩
  obtain ⟨g2, wg2⟩ : ∃ z : Int, μ.1 66 ((30 : Nat) : Int) = z := ⟨_, rfl⟩
  obtain ⟨g3, wg3⟩ : ∃ z : Int, μ.1 66 ((33 : Nat) : Int) = z := ⟨_, rfl⟩
  obtain ⟨g4, wg4⟩ : ∃ z : Int, μ.1 66 ((34 : Nat) : Int) = z := ⟨_, rfl⟩
  obtain ⟨g5, wg5⟩ : ∃ z : Int, μ.1 66 ((32 : Nat) : Int) = z := ⟨_, rfl⟩
  obtain ⟨g6, wg6⟩ : ∃ z : Int, μ.1 66 ((38 : Nat) : Int) = z := ⟨_, rfl⟩
  obtain ⟨g7, wg7⟩ : ∃ z : Int, μ.1 66 ((8 : Nat) : Int) = z := ⟨_, rfl⟩
  try rw [wg1] at hp0
  try rw [wg2] at hp0
  try rw [wg3] at hp0
  try rw [wg4] at hp0
  try rw [wg5] at hp0
  try rw [wg6] at hp0
  try rw [wg7] at hp0
  try rw [wg1] at hp1
  try rw [wg2] at hp1
  try rw [wg3] at hp1
  try rw [wg4] at hp1
  try rw [wg5] at hp1
  try rw [wg6] at hp1
  try rw [wg7] at hp1
  try rw [wg1] at hp2
  try rw [wg2] at hp2
  try rw [wg3] at hp2
  try rw [wg4] at hp2
  try rw [wg5] at hp2
  try rw [wg6] at hp2
  try rw [wg7] at hp2
  try rw [wg1] at hp3
  try rw [wg2] at hp3
  try rw [wg3] at hp3
  try rw [wg4] at hp3
  try rw [wg5] at hp3
  try rw [wg6] at hp3
  try rw [wg7] at hp3
  try rw [wg1] at hp4
  try rw [wg2] at hp4
  try rw [wg3] at hp4
  try rw [wg4] at hp4
  try rw [wg5] at hp4
  try rw [wg6] at hp4
  try rw [wg7] at hp4
  try rw [wg1] at hp5
  try rw [wg2] at hp5
  try rw [wg3] at hp5
  try rw [wg4] at hp5
  try rw [wg5] at hp5
  try rw [wg6] at hp5
  try rw [wg7] at hp5
  try rw [wg1] at hp6
  try rw [wg2] at hp6
  try rw [wg3] at hp6
  try rw [wg4] at hp6
  try rw [wg5] at hp6
  try rw [wg6] at hp6
  try rw [wg7] at hp6
  have z0 : zfx [67, 68, 69, 70, 71, 72, 73, 74, 100, 101, 102, 103, 104] [8, 31, 32, 33, 34, 35, 36, 38] μ μ := zfx_x μ
  refine ⟨rfl, fun pc vs μ' n => ∃ (v1 : Int) (v2 : Int) (v3 : Int) (v4 : Int) (v5 : Int), vs = [.inr (.inr (66, 66)), .inl v1, .inl v2, .inl v3, .inl v4, .inl v5] ∧ zfx [67, 68, 69, 70, 71, 72, 73, 74, 100, 101, 102, 103, 104] [8, 31, 32, 33, 34, 35, 36, 38] μ μ' ∧ ((-1) ≤ v1 ∧ v1 ≤ 20) ∧ (0 ≤ v2 ∧ v2 ≤ 4) ∧ (0 ≤ v3 ∧ v3 ≤ 1) ∧ (0 ≤ v4 ∧ v4 ≤ 8) ∧ (0 ≤ v5 ∧ v5 ≤ 3) ∧ (v1 = a1 ∧ v2 = a2 ∧ v3 = a3) ∧ (0 ≤ μ'.1 66 ((33 : Nat) : Int) ∧ 0 ≤ μ'.1 66 ((34 : Nat) : Int) ∧ μ'.1 66 ((33 : Nat) : Int) + μ'.1 66 ((34 : Nat) : Int) ≤ μ'.1 66 ((31 : Nat) : Int) ∧ μ'.1 66 ((31 : Nat) : Int) ≤ μ'.1 66 ((30 : Nat) : Int) ∧ μ'.1 66 ((30 : Nat) : Int) ≤ 800) ∧ (μ'.1 66 ((30 : Nat) : Int) = μ.1 66 ((30 : Nat) : Int)) ∧ ((v5 = 0 → zTI μ μ' lo C Pn F cf pa pe v1 v2 v4 0 0 (zwb μ' v4) (zwb μ' v4)) ∧ (v5 ≠ 0 → zTI μ μ' lo C Pn F cf pa pe v1 v2 v4 1 0 0 0)) ∧ (v5 = 1 ∨ v5 = 3 → μ'.1 100 v4 = 0) ∧ (v5 = 0 ∨ v4 ≤ 7) ∧ (zrm μ' ≤ zrm μ) ∧ (0 ≤ μ'.1 66 ((38 : Nat) : Int) ∧ μ'.1 66 ((38 : Nat) : Int) ≤ 300) ∧ ((v5 = 0 ∧ v4 = 0) ∨ v3 = 0) ∧ n = (zrT μ' v5), ?_, ?_, trivial⟩
  · refine And.intro ⟨by omega, by omega⟩ (And.intro ⟨by omega, by omega⟩ ?_)
    intro m8 em8
    have z9 := zfx_r z0 em8 rfl (by decide)
    have w10 : m8.1 66 ((31 : Nat) : Int) = g1 := by rw [em8]; exact (congrFun (zu_ne (by decide)) _).trans wg1
    have w11 : m8.1 66 ((30 : Nat) : Int) = g2 := by rw [em8]; exact (congrFun (zu_ne (by decide)) _).trans wg2
    have w12 : m8.1 66 ((33 : Nat) : Int) = g3 := by rw [em8]; exact (congrFun (zu_ne (by decide)) _).trans wg3
    have w13 : m8.1 66 ((34 : Nat) : Int) = g4 := by rw [em8]; exact (congrFun (zu_ne (by decide)) _).trans wg4
    have w14 : m8.1 66 ((32 : Nat) : Int) = g5 := by rw [em8]; exact (congrFun (zu_ne (by decide)) _).trans wg5
    have w15 : m8.1 66 ((38 : Nat) : Int) = g6 := by rw [em8]; exact (congrFun (zu_ne (by decide)) _).trans wg6
    have w16 : m8.1 66 ((8 : Nat) : Int) = g7 := by rw [em8]; exact (congrFun (zu_ne (by decide)) _).trans wg7
    refine Exists.intro (zrT m8 0) ?_
    exact ⟨_, _, _, _, _, rfl, z9, ⟨by omega, by omega⟩, ⟨by omega, by omega⟩, ⟨by omega, by omega⟩, ⟨by omega, by omega⟩, ⟨by omega, by omega⟩, ⟨rfl, rfl, rfl⟩, (by (try rw [w10]) <;> (try rw [w11]) <;> (try rw [w12]) <;> (try rw [w13]) <;> (try rw [w14]) <;> (try rw [w15]) <;> (try rw [w16]) <;> (try rw [wg1]) <;> (try rw [wg2]) <;> (try rw [wg3]) <;> (try rw [wg4]) <;> (try rw [wg5]) <;> (try rw [wg6]) <;> (try rw [wg7]) <;> omega), (by (try rw [w10]) <;> (try rw [w11]) <;> (try rw [w12]) <;> (try rw [w13]) <;> (try rw [w14]) <;> (try rw [w15]) <;> (try rw [w16]) <;> (try rw [wg1]) <;> (try rw [wg2]) <;> (try rw [wg3]) <;> (try rw [wg4]) <;> (try rw [wg5]) <;> (try rw [wg6]) <;> (try rw [wg7]) <;> omega), ⟨fun _ => by rw [zwb_0 (by rw [em8]; exact zu_at)]; exact zTI_0 hp1 hp2 em8 rfl rfl, fun h => by omega⟩, (fun h => by omega), (by omega), (zrm_e (fun j => by rw [em8]; exact congrFun (zu_ne (by decide)) _)), (by (try rw [w10]) <;> (try rw [w11]) <;> (try rw [w12]) <;> (try rw [w13]) <;> (try rw [w14]) <;> (try rw [w15]) <;> (try rw [w16]) <;> (try rw [wg1]) <;> (try rw [wg2]) <;> (try rw [wg3]) <;> (try rw [wg4]) <;> (try rw [wg5]) <;> (try rw [wg6]) <;> (try rw [wg7]) <;> omega), (by omega), rfl⟩
  · intro vs m0 n hI
    clear z0
    obtain ⟨v1, v2, v3, v4, v5, rfl, z0, hv1, hv2, hv3, hv4, hv5, i0, i1, i2, i3, i4, i5, i6, i7, i8, rfl⟩ := hI
    obtain ⟨j1, j2, j3⟩ := i0
    subst j1 j2 j3
    obtain ⟨g17, wg17⟩ : ∃ z : Int, m0.1 66 ((31 : Nat) : Int) = z := ⟨_, rfl⟩
    obtain ⟨g18, wg18⟩ : ∃ z : Int, m0.1 66 ((30 : Nat) : Int) = z := ⟨_, rfl⟩
    obtain ⟨g19, wg19⟩ : ∃ z : Int, m0.1 66 ((33 : Nat) : Int) = z := ⟨_, rfl⟩
    obtain ⟨g20, wg20⟩ : ∃ z : Int, m0.1 66 ((34 : Nat) : Int) = z := ⟨_, rfl⟩
    obtain ⟨g21, wg21⟩ : ∃ z : Int, m0.1 66 ((32 : Nat) : Int) = z := ⟨_, rfl⟩
    obtain ⟨g22, wg22⟩ : ∃ z : Int, m0.1 66 ((38 : Nat) : Int) = z := ⟨_, rfl⟩
    obtain ⟨g23, wg23⟩ : ∃ z : Int, m0.1 66 ((8 : Nat) : Int) = z := ⟨_, rfl⟩
    try rw [wg17] at i0
    try rw [wg18] at i0
    try rw [wg19] at i0
    try rw [wg20] at i0
    try rw [wg21] at i0
    try rw [wg22] at i0
    try rw [wg23] at i0
    try rw [wg1] at i0
    try rw [wg2] at i0
    try rw [wg3] at i0
    try rw [wg4] at i0
    try rw [wg5] at i0
    try rw [wg6] at i0
    try rw [wg7] at i0
    try rw [wg17] at i1
    try rw [wg18] at i1
    try rw [wg19] at i1
    try rw [wg20] at i1
    try rw [wg21] at i1
    try rw [wg22] at i1
    try rw [wg23] at i1
    try rw [wg1] at i1
    try rw [wg2] at i1
    try rw [wg3] at i1
    try rw [wg4] at i1
    try rw [wg5] at i1
    try rw [wg6] at i1
    try rw [wg7] at i1
    try rw [wg17] at i2
    try rw [wg18] at i2
    try rw [wg19] at i2
    try rw [wg20] at i2
    try rw [wg21] at i2
    try rw [wg22] at i2
    try rw [wg23] at i2
    try rw [wg1] at i2
    try rw [wg2] at i2
    try rw [wg3] at i2
    try rw [wg4] at i2
    try rw [wg5] at i2
    try rw [wg6] at i2
    try rw [wg7] at i2
    try rw [wg17] at i3
    try rw [wg18] at i3
    try rw [wg19] at i3
    try rw [wg20] at i3
    try rw [wg21] at i3
    try rw [wg22] at i3
    try rw [wg23] at i3
    try rw [wg1] at i3
    try rw [wg2] at i3
    try rw [wg3] at i3
    try rw [wg4] at i3
    try rw [wg5] at i3
    try rw [wg6] at i3
    try rw [wg7] at i3
    try rw [wg17] at i4
    try rw [wg18] at i4
    try rw [wg19] at i4
    try rw [wg20] at i4
    try rw [wg21] at i4
    try rw [wg22] at i4
    try rw [wg23] at i4
    try rw [wg1] at i4
    try rw [wg2] at i4
    try rw [wg3] at i4
    try rw [wg4] at i4
    try rw [wg5] at i4
    try rw [wg6] at i4
    try rw [wg7] at i4
    try rw [wg17] at i5
    try rw [wg18] at i5
    try rw [wg19] at i5
    try rw [wg20] at i5
    try rw [wg21] at i5
    try rw [wg22] at i5
    try rw [wg23] at i5
    try rw [wg1] at i5
    try rw [wg2] at i5
    try rw [wg3] at i5
    try rw [wg4] at i5
    try rw [wg5] at i5
    try rw [wg6] at i5
    try rw [wg7] at i5
    try rw [wg17] at i6
    try rw [wg18] at i6
    try rw [wg19] at i6
    try rw [wg20] at i6
    try rw [wg21] at i6
    try rw [wg22] at i6
    try rw [wg23] at i6
    try rw [wg1] at i6
    try rw [wg2] at i6
    try rw [wg3] at i6
    try rw [wg4] at i6
    try rw [wg5] at i6
    try rw [wg6] at i6
    try rw [wg7] at i6
    try rw [wg17] at i7
    try rw [wg18] at i7
    try rw [wg19] at i7
    try rw [wg20] at i7
    try rw [wg21] at i7
    try rw [wg22] at i7
    try rw [wg23] at i7
    try rw [wg1] at i7
    try rw [wg2] at i7
    try rw [wg3] at i7
    try rw [wg4] at i7
    try rw [wg5] at i7
    try rw [wg6] at i7
    try rw [wg7] at i7
    try rw [wg17] at i8
    try rw [wg18] at i8
    try rw [wg19] at i8
    try rw [wg20] at i8
    try rw [wg21] at i8
    try rw [wg22] at i8
    try rw [wg23] at i8
    try rw [wg1] at i8
    try rw [wg2] at i8
    try rw [wg3] at i8
    try rw [wg4] at i8
    try rw [wg5] at i8
    try rw [wg6] at i8
    try rw [wg7] at i8
    refine And.intro ⟨by omega, by omega⟩ (And.intro (fun c24 => ?_) (fun c24 => ?_))
    · refine And.intro ⟨⟨by omega, by omega⟩, ⟨by omega, by omega⟩⟩ (And.intro (fun c25 => ?_) (fun c25 => ?_))
      · refine And.intro ⟨⟨by omega, by omega⟩, ⟨by omega, by omega⟩⟩ (And.intro (fun c26 => ?_) (fun c26 => ?_))
        · have T27 := i3.2 (by assumption)
          have O28 := i4 (by omega)
          have V3 : v3 = 0 := by omega
          clear i3 i4 i8
          intro x29 hx29 kx29 lx29
          rw [wg21] at hx29
          refine And.intro ⟨⟨by omega, by omega⟩, ⟨by omega, by omega⟩⟩ (And.intro (fun c30 => ?_) (fun c30 => ?_))
          · intro x31 hx31 kx31 lx31
            rw [wg21] at hx31
            refine And.intro ⟨⟨by omega, by omega⟩, ⟨by omega, by omega⟩⟩ (And.intro (fun c32 => ?_) (fun c32 => ?_))
            · clear c32
              refine ⟨zk_X9_pass, zm_X9_pass hg d (by omega), rfl, (by (try rw [wg17]) <;> (try rw [wg18]) <;> (try rw [wg19]) <;> (try rw [wg20]) <;> (try rw [wg21]) <;> (try rw [wg22]) <;> (try rw [wg23]) <;> (try rw [wg1]) <;> (try rw [wg2]) <;> (try rw [wg3]) <;> (try rw [wg4]) <;> (try rw [wg5]) <;> (try rw [wg6]) <;> (try rw [wg7]) <;> omega), ?_⟩
              intro m33 qm33 p34 p35 p36 p37
              have z38 := zfx_t z0 qm33 rfl rfl
              have w39 : m33.1 66 ((30 : Nat) : Int) = g18 := (qm33.2.1 30 rfl).trans wg18
              have w40 : m33.1 66 ((38 : Nat) : Int) = g22 := (qm33.2.1 38 rfl).trans wg22
              have w41 : m33.1 66 ((8 : Nat) : Int) = g23 := (qm33.2.1 8 rfl).trans wg23
              obtain ⟨g42, wg42⟩ : ∃ z : Int, m33.1 66 ((31 : Nat) : Int) = z := ⟨_, rfl⟩
              obtain ⟨g43, wg43⟩ : ∃ z : Int, m33.1 66 ((33 : Nat) : Int) = z := ⟨_, rfl⟩
              obtain ⟨g44, wg44⟩ : ∃ z : Int, m33.1 66 ((34 : Nat) : Int) = z := ⟨_, rfl⟩
              obtain ⟨g45, wg45⟩ : ∃ z : Int, m33.1 66 ((32 : Nat) : Int) = z := ⟨_, rfl⟩
              try rw [wg42] at p34
              try rw [w39] at p34
              try rw [wg43] at p34
              try rw [wg44] at p34
              try rw [wg45] at p34
              try rw [w40] at p34
              try rw [w41] at p34
              try rw [wg17] at p34
              try rw [wg18] at p34
              try rw [wg19] at p34
              try rw [wg20] at p34
              try rw [wg21] at p34
              try rw [wg22] at p34
              try rw [wg23] at p34
              try rw [wg1] at p34
              try rw [wg2] at p34
              try rw [wg3] at p34
              try rw [wg4] at p34
              try rw [wg5] at p34
              try rw [wg6] at p34
              try rw [wg7] at p34
              try rw [wg42] at p35
              try rw [w39] at p35
              try rw [wg43] at p35
              try rw [wg44] at p35
              try rw [wg45] at p35
              try rw [w40] at p35
              try rw [w41] at p35
              try rw [wg17] at p35
              try rw [wg18] at p35
              try rw [wg19] at p35
              try rw [wg20] at p35
              try rw [wg21] at p35
              try rw [wg22] at p35
              try rw [wg23] at p35
              try rw [wg1] at p35
              try rw [wg2] at p35
              try rw [wg3] at p35
              try rw [wg4] at p35
              try rw [wg5] at p35
              try rw [wg6] at p35
              try rw [wg7] at p35
              try rw [wg42] at p36
              try rw [w39] at p36
              try rw [wg43] at p36
              try rw [wg44] at p36
              try rw [wg45] at p36
              try rw [w40] at p36
              try rw [w41] at p36
              try rw [wg17] at p36
              try rw [wg18] at p36
              try rw [wg19] at p36
              try rw [wg20] at p36
              try rw [wg21] at p36
              try rw [wg22] at p36
              try rw [wg23] at p36
              try rw [wg1] at p36
              try rw [wg2] at p36
              try rw [wg3] at p36
              try rw [wg4] at p36
              try rw [wg5] at p36
              try rw [wg6] at p36
              try rw [wg7] at p36
              try rw [wg42] at p37
              try rw [w39] at p37
              try rw [wg43] at p37
              try rw [wg44] at p37
              try rw [wg45] at p37
              try rw [w40] at p37
              try rw [w41] at p37
              try rw [wg17] at p37
              try rw [wg18] at p37
              try rw [wg19] at p37
              try rw [wg20] at p37
              try rw [wg21] at p37
              try rw [wg22] at p37
              try rw [wg23] at p37
              try rw [wg1] at p37
              try rw [wg2] at p37
              try rw [wg3] at p37
              try rw [wg4] at p37
              try rw [wg5] at p37
              try rw [wg6] at p37
              try rw [wg7] at p37
              have T46 := zTI_fr0 T27 (fun j a b => qm33.1 j (by omega) (zanyF (by simp <;> omega))) (fun j a b => qm33.1 j (by omega) (zanyF (by simp <;> omega))) (qm33.2.1 8 rfl) (qm33.2.1 38 rfl)
              have O47 : m33.1 100 v4 = 0 := by rw [qm33.1 100 (by decide) rfl]; exact O28
              refine Exists.intro (zrT m33 2) (And.intro (zrT_lt (by unfold zrm; simp only [wg42, w39, wg43, wg44, wg45, w40, w41, wg17, wg18, wg19, wg20, wg21, wg22, wg23, wg1, wg2, wg3, wg4, wg5, wg6, wg7]; (repeat' split) <;> omega) (zrm_0 (by (try rw [wg42]) <;> (try rw [w39]) <;> (try rw [wg43]) <;> (try rw [wg44]) <;> (try rw [wg45]) <;> (try rw [w40]) <;> (try rw [w41]) <;> (try rw [wg17]) <;> (try rw [wg18]) <;> (try rw [wg19]) <;> (try rw [wg20]) <;> (try rw [wg21]) <;> (try rw [wg22]) <;> (try rw [wg23]) <;> (try rw [wg1]) <;> (try rw [wg2]) <;> (try rw [wg3]) <;> (try rw [wg4]) <;> (try rw [wg5]) <;> (try rw [wg6]) <;> (try rw [wg7]) <;> omega))) ?_)
              exact ⟨_, _, _, _, _, rfl, z38, ⟨by omega, by omega⟩, ⟨by omega, by omega⟩, ⟨by omega, by omega⟩, ⟨by omega, by omega⟩, ⟨by omega, by omega⟩, ⟨rfl, rfl, rfl⟩, (by (try rw [wg42]) <;> (try rw [w39]) <;> (try rw [wg43]) <;> (try rw [wg44]) <;> (try rw [wg45]) <;> (try rw [w40]) <;> (try rw [w41]) <;> (try rw [wg17]) <;> (try rw [wg18]) <;> (try rw [wg19]) <;> (try rw [wg20]) <;> (try rw [wg21]) <;> (try rw [wg22]) <;> (try rw [wg23]) <;> (try rw [wg1]) <;> (try rw [wg2]) <;> (try rw [wg3]) <;> (try rw [wg4]) <;> (try rw [wg5]) <;> (try rw [wg6]) <;> (try rw [wg7]) <;> omega), (by (try rw [wg42]) <;> (try rw [w39]) <;> (try rw [wg43]) <;> (try rw [wg44]) <;> (try rw [wg45]) <;> (try rw [w40]) <;> (try rw [w41]) <;> (try rw [wg17]) <;> (try rw [wg18]) <;> (try rw [wg19]) <;> (try rw [wg20]) <;> (try rw [wg21]) <;> (try rw [wg22]) <;> (try rw [wg23]) <;> (try rw [wg1]) <;> (try rw [wg2]) <;> (try rw [wg3]) <;> (try rw [wg4]) <;> (try rw [wg5]) <;> (try rw [wg6]) <;> (try rw [wg7]) <;> omega), ⟨fun h => absurd h (by decide), fun _ => T46⟩, (fun h => absurd h (by decide)), (Or.inr (by omega)), (by have h6 := i6; unfold zrm at h6 ⊢; simp only [wg42, w39, wg43, wg44, wg45, w40, w41, wg17, wg18, wg19, wg20, wg21, wg22, wg23, wg1, wg2, wg3, wg4, wg5, wg6, wg7] at h6 ⊢; (repeat' split at h6) <;> (repeat' split) <;> omega), (by (try rw [wg42]) <;> (try rw [w39]) <;> (try rw [wg43]) <;> (try rw [wg44]) <;> (try rw [wg45]) <;> (try rw [w40]) <;> (try rw [w41]) <;> (try rw [wg17]) <;> (try rw [wg18]) <;> (try rw [wg19]) <;> (try rw [wg20]) <;> (try rw [wg21]) <;> (try rw [wg22]) <;> (try rw [wg23]) <;> (try rw [wg1]) <;> (try rw [wg2]) <;> (try rw [wg3]) <;> (try rw [wg4]) <;> (try rw [wg5]) <;> (try rw [wg6]) <;> (try rw [wg7]) <;> omega), (Or.inr V3), rfl⟩
            · refine ⟨zk_X9_pass, zm_X9_pass hg d (by omega), rfl, (by (try rw [wg17]) <;> (try rw [wg18]) <;> (try rw [wg19]) <;> (try rw [wg20]) <;> (try rw [wg21]) <;> (try rw [wg22]) <;> (try rw [wg23]) <;> (try rw [wg1]) <;> (try rw [wg2]) <;> (try rw [wg3]) <;> (try rw [wg4]) <;> (try rw [wg5]) <;> (try rw [wg6]) <;> (try rw [wg7]) <;> omega), ?_⟩
              intro m48 qm48 p49 p50 p51 p52
              have z53 := zfx_t z0 qm48 rfl rfl
              have w54 : m48.1 66 ((30 : Nat) : Int) = g18 := (qm48.2.1 30 rfl).trans wg18
              have w55 : m48.1 66 ((38 : Nat) : Int) = g22 := (qm48.2.1 38 rfl).trans wg22
              have w56 : m48.1 66 ((8 : Nat) : Int) = g23 := (qm48.2.1 8 rfl).trans wg23
              obtain ⟨g57, wg57⟩ : ∃ z : Int, m48.1 66 ((31 : Nat) : Int) = z := ⟨_, rfl⟩
              obtain ⟨g58, wg58⟩ : ∃ z : Int, m48.1 66 ((33 : Nat) : Int) = z := ⟨_, rfl⟩
              obtain ⟨g59, wg59⟩ : ∃ z : Int, m48.1 66 ((34 : Nat) : Int) = z := ⟨_, rfl⟩
              obtain ⟨g60, wg60⟩ : ∃ z : Int, m48.1 66 ((32 : Nat) : Int) = z := ⟨_, rfl⟩
              try rw [wg57] at p49
              try rw [w54] at p49
              try rw [wg58] at p49
              try rw [wg59] at p49
              try rw [wg60] at p49
              try rw [w55] at p49
              try rw [w56] at p49
              try rw [wg17] at p49
              try rw [wg18] at p49
              try rw [wg19] at p49
              try rw [wg20] at p49
              try rw [wg21] at p49
              try rw [wg22] at p49
              try rw [wg23] at p49
              try rw [wg1] at p49
              try rw [wg2] at p49
              try rw [wg3] at p49
              try rw [wg4] at p49
              try rw [wg5] at p49
              try rw [wg6] at p49
              try rw [wg7] at p49
              try rw [wg57] at p50
              try rw [w54] at p50
              try rw [wg58] at p50
              try rw [wg59] at p50
              try rw [wg60] at p50
              try rw [w55] at p50
              try rw [w56] at p50
              try rw [wg17] at p50
              try rw [wg18] at p50
              try rw [wg19] at p50
              try rw [wg20] at p50
              try rw [wg21] at p50
              try rw [wg22] at p50
              try rw [wg23] at p50
              try rw [wg1] at p50
              try rw [wg2] at p50
              try rw [wg3] at p50
              try rw [wg4] at p50
              try rw [wg5] at p50
              try rw [wg6] at p50
              try rw [wg7] at p50
              try rw [wg57] at p51
              try rw [w54] at p51
              try rw [wg58] at p51
              try rw [wg59] at p51
              try rw [wg60] at p51
              try rw [w55] at p51
              try rw [w56] at p51
              try rw [wg17] at p51
              try rw [wg18] at p51
              try rw [wg19] at p51
              try rw [wg20] at p51
              try rw [wg21] at p51
              try rw [wg22] at p51
              try rw [wg23] at p51
              try rw [wg1] at p51
              try rw [wg2] at p51
              try rw [wg3] at p51
              try rw [wg4] at p51
              try rw [wg5] at p51
              try rw [wg6] at p51
              try rw [wg7] at p51
              try rw [wg57] at p52
              try rw [w54] at p52
              try rw [wg58] at p52
              try rw [wg59] at p52
              try rw [wg60] at p52
              try rw [w55] at p52
              try rw [w56] at p52
              try rw [wg17] at p52
              try rw [wg18] at p52
              try rw [wg19] at p52
              try rw [wg20] at p52
              try rw [wg21] at p52
              try rw [wg22] at p52
              try rw [wg23] at p52
              try rw [wg1] at p52
              try rw [wg2] at p52
              try rw [wg3] at p52
              try rw [wg4] at p52
              try rw [wg5] at p52
              try rw [wg6] at p52
              try rw [wg7] at p52
              have T61 := zTI_fr0 T27 (fun j a b => qm48.1 j (by omega) (zanyF (by simp <;> omega))) (fun j a b => qm48.1 j (by omega) (zanyF (by simp <;> omega))) (qm48.2.1 8 rfl) (qm48.2.1 38 rfl)
              have O62 : m48.1 100 v4 = 0 := by rw [qm48.1 100 (by decide) rfl]; exact O28
              refine Exists.intro (zrT m48 1) (And.intro (zrT_lt (by unfold zrm; simp only [wg57, w54, wg58, wg59, wg60, w55, w56, wg17, wg18, wg19, wg20, wg21, wg22, wg23, wg1, wg2, wg3, wg4, wg5, wg6, wg7]; (repeat' split) <;> omega) (zrm_0 (by (try rw [wg57]) <;> (try rw [w54]) <;> (try rw [wg58]) <;> (try rw [wg59]) <;> (try rw [wg60]) <;> (try rw [w55]) <;> (try rw [w56]) <;> (try rw [wg17]) <;> (try rw [wg18]) <;> (try rw [wg19]) <;> (try rw [wg20]) <;> (try rw [wg21]) <;> (try rw [wg22]) <;> (try rw [wg23]) <;> (try rw [wg1]) <;> (try rw [wg2]) <;> (try rw [wg3]) <;> (try rw [wg4]) <;> (try rw [wg5]) <;> (try rw [wg6]) <;> (try rw [wg7]) <;> omega))) ?_)
              exact ⟨_, _, _, _, _, rfl, z53, ⟨by omega, by omega⟩, ⟨by omega, by omega⟩, ⟨by omega, by omega⟩, ⟨by omega, by omega⟩, ⟨by omega, by omega⟩, ⟨rfl, rfl, rfl⟩, (by (try rw [wg57]) <;> (try rw [w54]) <;> (try rw [wg58]) <;> (try rw [wg59]) <;> (try rw [wg60]) <;> (try rw [w55]) <;> (try rw [w56]) <;> (try rw [wg17]) <;> (try rw [wg18]) <;> (try rw [wg19]) <;> (try rw [wg20]) <;> (try rw [wg21]) <;> (try rw [wg22]) <;> (try rw [wg23]) <;> (try rw [wg1]) <;> (try rw [wg2]) <;> (try rw [wg3]) <;> (try rw [wg4]) <;> (try rw [wg5]) <;> (try rw [wg6]) <;> (try rw [wg7]) <;> omega), (by (try rw [wg57]) <;> (try rw [w54]) <;> (try rw [wg58]) <;> (try rw [wg59]) <;> (try rw [wg60]) <;> (try rw [w55]) <;> (try rw [w56]) <;> (try rw [wg17]) <;> (try rw [wg18]) <;> (try rw [wg19]) <;> (try rw [wg20]) <;> (try rw [wg21]) <;> (try rw [wg22]) <;> (try rw [wg23]) <;> (try rw [wg1]) <;> (try rw [wg2]) <;> (try rw [wg3]) <;> (try rw [wg4]) <;> (try rw [wg5]) <;> (try rw [wg6]) <;> (try rw [wg7]) <;> omega), ⟨fun h => absurd h (by decide), fun _ => T61⟩, (fun h => O62), (Or.inr (by omega)), (by have h6 := i6; unfold zrm at h6 ⊢; simp only [wg57, w54, wg58, wg59, wg60, w55, w56, wg17, wg18, wg19, wg20, wg21, wg22, wg23, wg1, wg2, wg3, wg4, wg5, wg6, wg7] at h6 ⊢; (repeat' split at h6) <;> (repeat' split) <;> omega), (by (try rw [wg57]) <;> (try rw [w54]) <;> (try rw [wg58]) <;> (try rw [wg59]) <;> (try rw [wg60]) <;> (try rw [w55]) <;> (try rw [w56]) <;> (try rw [wg17]) <;> (try rw [wg18]) <;> (try rw [wg19]) <;> (try rw [wg20]) <;> (try rw [wg21]) <;> (try rw [wg22]) <;> (try rw [wg23]) <;> (try rw [wg1]) <;> (try rw [wg2]) <;> (try rw [wg3]) <;> (try rw [wg4]) <;> (try rw [wg5]) <;> (try rw [wg6]) <;> (try rw [wg7]) <;> omega), (Or.inr V3), rfl⟩
          · clear c30
            intro x63 hx63 kx63 lx63
            rw [wg21] at hx63
            refine And.intro ⟨⟨by omega, by omega⟩, ⟨by omega, by omega⟩⟩ (And.intro (fun c64 => ?_) (fun c64 => ?_))
            · intro x65 hx65 kx65 lx65
              rw [wg21] at hx65
              refine And.intro ⟨⟨by omega, by omega⟩, ⟨by omega, by omega⟩⟩ (And.intro (fun c66 => ?_) (fun c66 => ?_))
              · clear c66
                refine ⟨zk_X9_pass, zm_X9_pass hg d (by omega), rfl, (by (try rw [wg17]) <;> (try rw [wg18]) <;> (try rw [wg19]) <;> (try rw [wg20]) <;> (try rw [wg21]) <;> (try rw [wg22]) <;> (try rw [wg23]) <;> (try rw [wg1]) <;> (try rw [wg2]) <;> (try rw [wg3]) <;> (try rw [wg4]) <;> (try rw [wg5]) <;> (try rw [wg6]) <;> (try rw [wg7]) <;> omega), ?_⟩
                intro m67 qm67 p68 p69 p70 p71
                have z72 := zfx_t z0 qm67 rfl rfl
                have w73 : m67.1 66 ((30 : Nat) : Int) = g18 := (qm67.2.1 30 rfl).trans wg18
                have w74 : m67.1 66 ((38 : Nat) : Int) = g22 := (qm67.2.1 38 rfl).trans wg22
                have w75 : m67.1 66 ((8 : Nat) : Int) = g23 := (qm67.2.1 8 rfl).trans wg23
                obtain ⟨g76, wg76⟩ : ∃ z : Int, m67.1 66 ((31 : Nat) : Int) = z := ⟨_, rfl⟩
                obtain ⟨g77, wg77⟩ : ∃ z : Int, m67.1 66 ((33 : Nat) : Int) = z := ⟨_, rfl⟩
                obtain ⟨g78, wg78⟩ : ∃ z : Int, m67.1 66 ((34 : Nat) : Int) = z := ⟨_, rfl⟩
                obtain ⟨g79, wg79⟩ : ∃ z : Int, m67.1 66 ((32 : Nat) : Int) = z := ⟨_, rfl⟩
                try rw [wg76] at p68
                try rw [w73] at p68
                try rw [wg77] at p68
                try rw [wg78] at p68
                try rw [wg79] at p68
                try rw [w74] at p68
                try rw [w75] at p68
                try rw [wg17] at p68
                try rw [wg18] at p68
                try rw [wg19] at p68
                try rw [wg20] at p68
                try rw [wg21] at p68
                try rw [wg22] at p68
                try rw [wg23] at p68
                try rw [wg1] at p68
                try rw [wg2] at p68
                try rw [wg3] at p68
                try rw [wg4] at p68
                try rw [wg5] at p68
                try rw [wg6] at p68
                try rw [wg7] at p68
                try rw [wg76] at p69
                try rw [w73] at p69
                try rw [wg77] at p69
                try rw [wg78] at p69
                try rw [wg79] at p69
                try rw [w74] at p69
                try rw [w75] at p69
                try rw [wg17] at p69
                try rw [wg18] at p69
                try rw [wg19] at p69
                try rw [wg20] at p69
                try rw [wg21] at p69
                try rw [wg22] at p69
                try rw [wg23] at p69
                try rw [wg1] at p69
                try rw [wg2] at p69
                try rw [wg3] at p69
                try rw [wg4] at p69
                try rw [wg5] at p69
                try rw [wg6] at p69
                try rw [wg7] at p69
                try rw [wg76] at p70
                try rw [w73] at p70
                try rw [wg77] at p70
                try rw [wg78] at p70
                try rw [wg79] at p70
                try rw [w74] at p70
                try rw [w75] at p70
                try rw [wg17] at p70
                try rw [wg18] at p70
                try rw [wg19] at p70
                try rw [wg20] at p70
                try rw [wg21] at p70
                try rw [wg22] at p70
                try rw [wg23] at p70
                try rw [wg1] at p70
                try rw [wg2] at p70
                try rw [wg3] at p70
                try rw [wg4] at p70
                try rw [wg5] at p70
                try rw [wg6] at p70
                try rw [wg7] at p70
                try rw [wg76] at p71
                try rw [w73] at p71
                try rw [wg77] at p71
                try rw [wg78] at p71
                try rw [wg79] at p71
                try rw [w74] at p71
                try rw [w75] at p71
                try rw [wg17] at p71
                try rw [wg18] at p71
                try rw [wg19] at p71
                try rw [wg20] at p71
                try rw [wg21] at p71
                try rw [wg22] at p71
                try rw [wg23] at p71
                try rw [wg1] at p71
                try rw [wg2] at p71
                try rw [wg3] at p71
                try rw [wg4] at p71
                try rw [wg5] at p71
                try rw [wg6] at p71
                try rw [wg7] at p71
                have T80 := zTI_fr0 T27 (fun j a b => qm67.1 j (by omega) (zanyF (by simp <;> omega))) (fun j a b => qm67.1 j (by omega) (zanyF (by simp <;> omega))) (qm67.2.1 8 rfl) (qm67.2.1 38 rfl)
                have O81 : m67.1 100 v4 = 0 := by rw [qm67.1 100 (by decide) rfl]; exact O28
                refine Exists.intro (zrT m67 2) (And.intro (zrT_lt (by unfold zrm; simp only [wg76, w73, wg77, wg78, wg79, w74, w75, wg17, wg18, wg19, wg20, wg21, wg22, wg23, wg1, wg2, wg3, wg4, wg5, wg6, wg7]; (repeat' split) <;> omega) (zrm_0 (by (try rw [wg76]) <;> (try rw [w73]) <;> (try rw [wg77]) <;> (try rw [wg78]) <;> (try rw [wg79]) <;> (try rw [w74]) <;> (try rw [w75]) <;> (try rw [wg17]) <;> (try rw [wg18]) <;> (try rw [wg19]) <;> (try rw [wg20]) <;> (try rw [wg21]) <;> (try rw [wg22]) <;> (try rw [wg23]) <;> (try rw [wg1]) <;> (try rw [wg2]) <;> (try rw [wg3]) <;> (try rw [wg4]) <;> (try rw [wg5]) <;> (try rw [wg6]) <;> (try rw [wg7]) <;> omega))) ?_)
                exact ⟨_, _, _, _, _, rfl, z72, ⟨by omega, by omega⟩, ⟨by omega, by omega⟩, ⟨by omega, by omega⟩, ⟨by omega, by omega⟩, ⟨by omega, by omega⟩, ⟨rfl, rfl, rfl⟩, (by (try rw [wg76]) <;> (try rw [w73]) <;> (try rw [wg77]) <;> (try rw [wg78]) <;> (try rw [wg79]) <;> (try rw [w74]) <;> (try rw [w75]) <;> (try rw [wg17]) <;> (try rw [wg18]) <;> (try rw [wg19]) <;> (try rw [wg20]) <;> (try rw [wg21]) <;> (try rw [wg22]) <;> (try rw [wg23]) <;> (try rw [wg1]) <;> (try rw [wg2]) <;> (try rw [wg3]) <;> (try rw [wg4]) <;> (try rw [wg5]) <;> (try rw [wg6]) <;> (try rw [wg7]) <;> omega), (by (try rw [wg76]) <;> (try rw [w73]) <;> (try rw [wg77]) <;> (try rw [wg78]) <;> (try rw [wg79]) <;> (try rw [w74]) <;> (try rw [w75]) <;> (try rw [wg17]) <;> (try rw [wg18]) <;> (try rw [wg19]) <;> (try rw [wg20]) <;> (try rw [wg21]) <;> (try rw [wg22]) <;> (try rw [wg23]) <;> (try rw [wg1]) <;> (try rw [wg2]) <;> (try rw [wg3]) <;> (try rw [wg4]) <;> (try rw [wg5]) <;> (try rw [wg6]) <;> (try rw [wg7]) <;> omega), ⟨fun h => absurd h (by decide), fun _ => T80⟩, (fun h => absurd h (by decide)), (Or.inr (by omega)), (by have h6 := i6; unfold zrm at h6 ⊢; simp only [wg76, w73, wg77, wg78, wg79, w74, w75, wg17, wg18, wg19, wg20, wg21, wg22, wg23, wg1, wg2, wg3, wg4, wg5, wg6, wg7] at h6 ⊢; (repeat' split at h6) <;> (repeat' split) <;> omega), (by (try rw [wg76]) <;> (try rw [w73]) <;> (try rw [wg77]) <;> (try rw [wg78]) <;> (try rw [wg79]) <;> (try rw [w74]) <;> (try rw [w75]) <;> (try rw [wg17]) <;> (try rw [wg18]) <;> (try rw [wg19]) <;> (try rw [wg20]) <;> (try rw [wg21]) <;> (try rw [wg22]) <;> (try rw [wg23]) <;> (try rw [wg1]) <;> (try rw [wg2]) <;> (try rw [wg3]) <;> (try rw [wg4]) <;> (try rw [wg5]) <;> (try rw [wg6]) <;> (try rw [wg7]) <;> omega), (Or.inr V3), rfl⟩
              · refine ⟨zk_X9_pass, zm_X9_pass hg d (by omega), rfl, (by (try rw [wg17]) <;> (try rw [wg18]) <;> (try rw [wg19]) <;> (try rw [wg20]) <;> (try rw [wg21]) <;> (try rw [wg22]) <;> (try rw [wg23]) <;> (try rw [wg1]) <;> (try rw [wg2]) <;> (try rw [wg3]) <;> (try rw [wg4]) <;> (try rw [wg5]) <;> (try rw [wg6]) <;> (try rw [wg7]) <;> omega), ?_⟩
                intro m82 qm82 p83 p84 p85 p86
                have z87 := zfx_t z0 qm82 rfl rfl
                have w88 : m82.1 66 ((30 : Nat) : Int) = g18 := (qm82.2.1 30 rfl).trans wg18
                have w89 : m82.1 66 ((38 : Nat) : Int) = g22 := (qm82.2.1 38 rfl).trans wg22
                have w90 : m82.1 66 ((8 : Nat) : Int) = g23 := (qm82.2.1 8 rfl).trans wg23
                obtain ⟨g91, wg91⟩ : ∃ z : Int, m82.1 66 ((31 : Nat) : Int) = z := ⟨_, rfl⟩
                obtain ⟨g92, wg92⟩ : ∃ z : Int, m82.1 66 ((33 : Nat) : Int) = z := ⟨_, rfl⟩
                obtain ⟨g93, wg93⟩ : ∃ z : Int, m82.1 66 ((34 : Nat) : Int) = z := ⟨_, rfl⟩
                obtain ⟨g94, wg94⟩ : ∃ z : Int, m82.1 66 ((32 : Nat) : Int) = z := ⟨_, rfl⟩
                try rw [wg91] at p83
                try rw [w88] at p83
                try rw [wg92] at p83
                try rw [wg93] at p83
                try rw [wg94] at p83
                try rw [w89] at p83
                try rw [w90] at p83
                try rw [wg17] at p83
                try rw [wg18] at p83
                try rw [wg19] at p83
                try rw [wg20] at p83
                try rw [wg21] at p83
                try rw [wg22] at p83
                try rw [wg23] at p83
                try rw [wg1] at p83
                try rw [wg2] at p83
                try rw [wg3] at p83
                try rw [wg4] at p83
                try rw [wg5] at p83
                try rw [wg6] at p83
                try rw [wg7] at p83
                try rw [wg91] at p84
                try rw [w88] at p84
                try rw [wg92] at p84
                try rw [wg93] at p84
                try rw [wg94] at p84
                try rw [w89] at p84
                try rw [w90] at p84
                try rw [wg17] at p84
                try rw [wg18] at p84
                try rw [wg19] at p84
                try rw [wg20] at p84
                try rw [wg21] at p84
                try rw [wg22] at p84
                try rw [wg23] at p84
                try rw [wg1] at p84
                try rw [wg2] at p84
                try rw [wg3] at p84
                try rw [wg4] at p84
                try rw [wg5] at p84
                try rw [wg6] at p84
                try rw [wg7] at p84
                try rw [wg91] at p85
                try rw [w88] at p85
                try rw [wg92] at p85
                try rw [wg93] at p85
                try rw [wg94] at p85
                try rw [w89] at p85
                try rw [w90] at p85
                try rw [wg17] at p85
                try rw [wg18] at p85
                try rw [wg19] at p85
                try rw [wg20] at p85
                try rw [wg21] at p85
                try rw [wg22] at p85
                try rw [wg23] at p85
                try rw [wg1] at p85
                try rw [wg2] at p85
                try rw [wg3] at p85
                try rw [wg4] at p85
                try rw [wg5] at p85
                try rw [wg6] at p85
                try rw [wg7] at p85
                try rw [wg91] at p86
                try rw [w88] at p86
                try rw [wg92] at p86
                try rw [wg93] at p86
                try rw [wg94] at p86
                try rw [w89] at p86
                try rw [w90] at p86
                try rw [wg17] at p86
                try rw [wg18] at p86
                try rw [wg19] at p86
                try rw [wg20] at p86
                try rw [wg21] at p86
                try rw [wg22] at p86
                try rw [wg23] at p86
                try rw [wg1] at p86
                try rw [wg2] at p86
                try rw [wg3] at p86
                try rw [wg4] at p86
                try rw [wg5] at p86
                try rw [wg6] at p86
                try rw [wg7] at p86
                have T95 := zTI_fr0 T27 (fun j a b => qm82.1 j (by omega) (zanyF (by simp <;> omega))) (fun j a b => qm82.1 j (by omega) (zanyF (by simp <;> omega))) (qm82.2.1 8 rfl) (qm82.2.1 38 rfl)
                have O96 : m82.1 100 v4 = 0 := by rw [qm82.1 100 (by decide) rfl]; exact O28
                refine Exists.intro (zrT m82 1) (And.intro (zrT_lt (by unfold zrm; simp only [wg91, w88, wg92, wg93, wg94, w89, w90, wg17, wg18, wg19, wg20, wg21, wg22, wg23, wg1, wg2, wg3, wg4, wg5, wg6, wg7]; (repeat' split) <;> omega) (zrm_0 (by (try rw [wg91]) <;> (try rw [w88]) <;> (try rw [wg92]) <;> (try rw [wg93]) <;> (try rw [wg94]) <;> (try rw [w89]) <;> (try rw [w90]) <;> (try rw [wg17]) <;> (try rw [wg18]) <;> (try rw [wg19]) <;> (try rw [wg20]) <;> (try rw [wg21]) <;> (try rw [wg22]) <;> (try rw [wg23]) <;> (try rw [wg1]) <;> (try rw [wg2]) <;> (try rw [wg3]) <;> (try rw [wg4]) <;> (try rw [wg5]) <;> (try rw [wg6]) <;> (try rw [wg7]) <;> omega))) ?_)
                exact ⟨_, _, _, _, _, rfl, z87, ⟨by omega, by omega⟩, ⟨by omega, by omega⟩, ⟨by omega, by omega⟩, ⟨by omega, by omega⟩, ⟨by omega, by omega⟩, ⟨rfl, rfl, rfl⟩, (by (try rw [wg91]) <;> (try rw [w88]) <;> (try rw [wg92]) <;> (try rw [wg93]) <;> (try rw [wg94]) <;> (try rw [w89]) <;> (try rw [w90]) <;> (try rw [wg17]) <;> (try rw [wg18]) <;> (try rw [wg19]) <;> (try rw [wg20]) <;> (try rw [wg21]) <;> (try rw [wg22]) <;> (try rw [wg23]) <;> (try rw [wg1]) <;> (try rw [wg2]) <;> (try rw [wg3]) <;> (try rw [wg4]) <;> (try rw [wg5]) <;> (try rw [wg6]) <;> (try rw [wg7]) <;> omega), (by (try rw [wg91]) <;> (try rw [w88]) <;> (try rw [wg92]) <;> (try rw [wg93]) <;> (try rw [wg94]) <;> (try rw [w89]) <;> (try rw [w90]) <;> (try rw [wg17]) <;> (try rw [wg18]) <;> (try rw [wg19]) <;> (try rw [wg20]) <;> (try rw [wg21]) <;> (try rw [wg22]) <;> (try rw [wg23]) <;> (try rw [wg1]) <;> (try rw [wg2]) <;> (try rw [wg3]) <;> (try rw [wg4]) <;> (try rw [wg5]) <;> (try rw [wg6]) <;> (try rw [wg7]) <;> omega), ⟨fun h => absurd h (by decide), fun _ => T95⟩, (fun h => O96), (Or.inr (by omega)), (by have h6 := i6; unfold zrm at h6 ⊢; simp only [wg91, w88, wg92, wg93, wg94, w89, w90, wg17, wg18, wg19, wg20, wg21, wg22, wg23, wg1, wg2, wg3, wg4, wg5, wg6, wg7] at h6 ⊢; (repeat' split at h6) <;> (repeat' split) <;> omega), (by (try rw [wg91]) <;> (try rw [w88]) <;> (try rw [wg92]) <;> (try rw [wg93]) <;> (try rw [wg94]) <;> (try rw [w89]) <;> (try rw [w90]) <;> (try rw [wg17]) <;> (try rw [wg18]) <;> (try rw [wg19]) <;> (try rw [wg20]) <;> (try rw [wg21]) <;> (try rw [wg22]) <;> (try rw [wg23]) <;> (try rw [wg1]) <;> (try rw [wg2]) <;> (try rw [wg3]) <;> (try rw [wg4]) <;> (try rw [wg5]) <;> (try rw [wg6]) <;> (try rw [wg7]) <;> omega), (Or.inr V3), rfl⟩
            · clear c64
              refine ⟨zk_X9_fail, zm_X9_fail hg d (by omega), _, rfl, ⟨by omega, by omega⟩, ?_⟩
              intro x97 m98 qm98 kx97 lx97
              have z99 := zfx_t z0 qm98 rfl rfl
              have w100 : m98.1 66 ((31 : Nat) : Int) = g17 := (qm98.2.1 31 rfl).trans wg17
              have w101 : m98.1 66 ((30 : Nat) : Int) = g18 := (qm98.2.1 30 rfl).trans wg18
              have w102 : m98.1 66 ((33 : Nat) : Int) = g19 := (qm98.2.1 33 rfl).trans wg19
              have w103 : m98.1 66 ((34 : Nat) : Int) = g20 := (qm98.2.1 34 rfl).trans wg20
              have w104 : m98.1 66 ((32 : Nat) : Int) = g21 := (qm98.2.1 32 rfl).trans wg21
              have w105 : m98.1 66 ((38 : Nat) : Int) = g22 := (qm98.2.1 38 rfl).trans wg22
              have w106 : m98.1 66 ((8 : Nat) : Int) = g23 := (qm98.2.1 8 rfl).trans wg23
              exact And.intro trivial (And.intro ⟨by omega, by omega⟩ (hQ _ _ z99 (by omega) (by omega) (by (try rw [w100]) <;> (try rw [w101]) <;> (try rw [w102]) <;> (try rw [w103]) <;> (try rw [w104]) <;> (try rw [w105]) <;> (try rw [w106]) <;> (try rw [wg17]) <;> (try rw [wg18]) <;> (try rw [wg19]) <;> (try rw [wg20]) <;> (try rw [wg21]) <;> (try rw [wg22]) <;> (try rw [wg23]) <;> (try rw [wg1]) <;> (try rw [wg2]) <;> (try rw [wg3]) <;> (try rw [wg4]) <;> (try rw [wg5]) <;> (try rw [wg6]) <;> (try rw [wg7]) <;> omega) (by (try rw [w100]) <;> (try rw [w101]) <;> (try rw [w102]) <;> (try rw [w103]) <;> (try rw [w104]) <;> (try rw [w105]) <;> (try rw [w106]) <;> (try rw [wg17]) <;> (try rw [wg18]) <;> (try rw [wg19]) <;> (try rw [wg20]) <;> (try rw [wg21]) <;> (try rw [wg22]) <;> (try rw [wg23]) <;> (try rw [wg1]) <;> (try rw [wg2]) <;> (try rw [wg3]) <;> (try rw [wg4]) <;> (try rw [wg5]) <;> (try rw [wg6]) <;> (try rw [wg7]) <;> omega) (zTE_fr (zTE_of T27 (by omega) (by have := zwb_nn m0 v4; omega)) (fun j a b => qm98.1 j (by omega) (zanyF (by simp <;> omega))) (qm98.2.1 8 rfl) (by (try rw [w100]) <;> (try rw [w101]) <;> (try rw [w102]) <;> (try rw [w103]) <;> (try rw [w104]) <;> (try rw [w105]) <;> (try rw [w106]) <;> (try rw [wg17]) <;> (try rw [wg18]) <;> (try rw [wg19]) <;> (try rw [wg20]) <;> (try rw [wg21]) <;> (try rw [wg22]) <;> (try rw [wg23]) <;> (try rw [wg1]) <;> (try rw [wg2]) <;> (try rw [wg3]) <;> (try rw [wg4]) <;> (try rw [wg5]) <;> (try rw [wg6]) <;> (try rw [wg7]) <;> omega)) (by (try rw [w100]) <;> (try rw [w101]) <;> (try rw [w102]) <;> (try rw [w103]) <;> (try rw [w104]) <;> (try rw [w105]) <;> (try rw [w106]) <;> (try rw [wg17]) <;> (try rw [wg18]) <;> (try rw [wg19]) <;> (try rw [wg20]) <;> (try rw [wg21]) <;> (try rw [wg22]) <;> (try rw [wg23]) <;> (try rw [wg1]) <;> (try rw [wg2]) <;> (try rw [wg3]) <;> (try rw [wg4]) <;> (try rw [wg5]) <;> (try rw [wg6]) <;> (try rw [wg7]) <;> omega) (Or.inl rfl) (Or.inl rfl) (by omega)))
        · have T107 := i3.2 (by assumption)
          have V3 : v3 = 0 := by omega
          clear i3 i4 i8
          refine ⟨zk_X9_mayStandBehind, zm_X9_mayStandBehind hg d (by omega), _, _, rfl, ⟨by omega, by omega⟩, ⟨by omega, by omega⟩, ?_⟩
          intro x108 kx108 lx108
          refine And.intro ⟨by omega, by omega⟩ (And.intro (fun c109 => ?_) (fun c109 => ?_))
          · refine And.intro ⟨by omega, by omega⟩ ?_
            intro x110 hx110 kx110 lx110
            have Q4 := T107.2.1 v4 hv4.1 (by omega)
            refine And.intro ⟨by omega, by omega⟩ (And.intro (fun c111 => ?_) (fun c111 => ?_))
            · have H112 : m0.1 100 v4 = 0 → m0.1 102 v4 = cf (m0.1 101 v4) ∧ m0.1 102 v4 ≤ 4 := fun h => by exfalso; omega
              refine ⟨zk_X9_closed, zm_X9_closed hg d (by omega), _, _, rfl, ⟨by omega, by omega⟩, T107.1.1, (zTE_top (zTE_of T107 (by omega) (by omega)) wg23 wg22 wg7 wg6 hp5.1 (by omega)), (fun h => ⟨by have h1 := Q4.1 h; omega, (H112 h).2⟩), (fun h i a b => by have h1 := Q4.2.2.2.2 i a (by have := (H112 h).2; omega) b; have l0 := T107.1.1.1.1; omega), ?_⟩
              intro x113 m114 qm114 kx113 lx113 p115
              have z116 := zfx_t z0 qm114 rfl rfl
              have w117 : m114.1 66 ((31 : Nat) : Int) = g17 := (qm114.2.1 31 rfl).trans wg17
              have w118 : m114.1 66 ((30 : Nat) : Int) = g18 := (qm114.2.1 30 rfl).trans wg18
              have w119 : m114.1 66 ((33 : Nat) : Int) = g19 := (qm114.2.1 33 rfl).trans wg19
              have w120 : m114.1 66 ((34 : Nat) : Int) = g20 := (qm114.2.1 34 rfl).trans wg20
              have w121 : m114.1 66 ((32 : Nat) : Int) = g21 := (qm114.2.1 32 rfl).trans wg21
              have w122 : m114.1 66 ((38 : Nat) : Int) = g22 := (qm114.2.1 38 rfl).trans wg22
              obtain ⟨g123, wg123⟩ : ∃ z : Int, m114.1 66 ((8 : Nat) : Int) = z := ⟨_, rfl⟩
              try rw [w117] at p115
              try rw [w118] at p115
              try rw [w119] at p115
              try rw [w120] at p115
              try rw [w121] at p115
              try rw [w122] at p115
              try rw [wg123] at p115
              try rw [wg17] at p115
              try rw [wg18] at p115
              try rw [wg19] at p115
              try rw [wg20] at p115
              try rw [wg21] at p115
              try rw [wg22] at p115
              try rw [wg23] at p115
              try rw [wg1] at p115
              try rw [wg2] at p115
              try rw [wg3] at p115
              try rw [wg4] at p115
              try rw [wg5] at p115
              try rw [wg6] at p115
              try rw [wg7] at p115
              have T124 := zTI_closed T107 hv4.1 (fun j a b => qm114.1 j (by omega) (zanyF (by simp <;> omega))) (qm114.2.1 38 rfl) p115 H112
              clear p115 H112
              refine And.intro ⟨by omega, by omega⟩ (And.intro (fun c125 => ?_) (fun c125 => ?_))
              · refine And.intro ⟨by omega, by omega⟩ ?_
                intro x126 hx126 kx126 lx126
                refine And.intro ⟨by omega, by omega⟩ (And.intro (fun c127 => ?_) (fun c127 => ?_))
                · have B1 : zwb m114 v4 = 0 := zwb_0 (by omega)
                  have T128 := zTI_bk0 T124.1 B1
                  have B4 : m114.1 71 x113 ≤ 1 + zwb m114 v4 + zoa m114 v4 (zok m114 v4) := by have h1 := T124.2.2.1; omega
                  have B5 : v4 = 1 → v2 = 1 → m114.1 67 x113 ≤ 2 := fun a b => by have h := T124.2.2.2.1; omega
                  have B6 := T124.2.1
                  have B7 := T124.2.2.2.2.2
                  have O1 : m114.1 100 (v4 + (-1)) = 0 := by rw [qm114.1 100 (by decide) rfl]; exact T107.2.2.1 _ (by omega) (by omega)
                  refine ⟨zk_X9_addArg, zm_X9_addArg hg d (by omega), _, _, rfl, ⟨by omega, by omega⟩, ⟨by omega, by omega⟩, (zTI_cnt T128 (by omega) (by omega) (by decide) w122 wg6 (by omega) hp5.2.1), ?_⟩
                  intro m129 qm129 p130 p131 p132 p133
                  have z134 := zfx_t z116 qm129 rfl rfl
                  have w135 : m129.1 66 ((31 : Nat) : Int) = g17 := (qm129.2.1 31 rfl).trans w117
                  have w136 : m129.1 66 ((30 : Nat) : Int) = g18 := (qm129.2.1 30 rfl).trans w118
                  have w137 : m129.1 66 ((33 : Nat) : Int) = g19 := (qm129.2.1 33 rfl).trans w119
                  have w138 : m129.1 66 ((34 : Nat) : Int) = g20 := (qm129.2.1 34 rfl).trans w120
                  have w139 : m129.1 66 ((32 : Nat) : Int) = g21 := (qm129.2.1 32 rfl).trans w121
                  have w140 : m129.1 66 ((38 : Nat) : Int) = g22 := (qm129.2.1 38 rfl).trans w122
                  have w141 : m129.1 66 ((8 : Nat) : Int) = g123 := (qm129.2.1 8 rfl).trans wg123
                  try rw [w135] at p130
                  try rw [w136] at p130
                  try rw [w137] at p130
                  try rw [w138] at p130
                  try rw [w139] at p130
                  try rw [w140] at p130
                  try rw [w141] at p130
                  try rw [w117] at p130
                  try rw [w118] at p130
                  try rw [w119] at p130
                  try rw [w120] at p130
                  try rw [w121] at p130
                  try rw [w122] at p130
                  try rw [wg123] at p130
                  try rw [wg1] at p130
                  try rw [wg2] at p130
                  try rw [wg3] at p130
                  try rw [wg4] at p130
                  try rw [wg5] at p130
                  try rw [wg6] at p130
                  try rw [wg7] at p130
                  try rw [w135] at p131
                  try rw [w136] at p131
                  try rw [w137] at p131
                  try rw [w138] at p131
                  try rw [w139] at p131
                  try rw [w140] at p131
                  try rw [w141] at p131
                  try rw [w117] at p131
                  try rw [w118] at p131
                  try rw [w119] at p131
                  try rw [w120] at p131
                  try rw [w121] at p131
                  try rw [w122] at p131
                  try rw [wg123] at p131
                  try rw [wg1] at p131
                  try rw [wg2] at p131
                  try rw [wg3] at p131
                  try rw [wg4] at p131
                  try rw [wg5] at p131
                  try rw [wg6] at p131
                  try rw [wg7] at p131
                  try rw [w135] at p132
                  try rw [w136] at p132
                  try rw [w137] at p132
                  try rw [w138] at p132
                  try rw [w139] at p132
                  try rw [w140] at p132
                  try rw [w141] at p132
                  try rw [w117] at p132
                  try rw [w118] at p132
                  try rw [w119] at p132
                  try rw [w120] at p132
                  try rw [w121] at p132
                  try rw [w122] at p132
                  try rw [wg123] at p132
                  try rw [wg1] at p132
                  try rw [wg2] at p132
                  try rw [wg3] at p132
                  try rw [wg4] at p132
                  try rw [wg5] at p132
                  try rw [wg6] at p132
                  try rw [wg7] at p132
                  try rw [w135] at p133
                  try rw [w136] at p133
                  try rw [w137] at p133
                  try rw [w138] at p133
                  try rw [w139] at p133
                  try rw [w140] at p133
                  try rw [w141] at p133
                  try rw [w117] at p133
                  try rw [w118] at p133
                  try rw [w119] at p133
                  try rw [w120] at p133
                  try rw [w121] at p133
                  try rw [w122] at p133
                  try rw [wg123] at p133
                  try rw [wg1] at p133
                  try rw [wg2] at p133
                  try rw [wg3] at p133
                  try rw [wg4] at p133
                  try rw [wg5] at p133
                  try rw [wg6] at p133
                  try rw [wg7] at p133
                  clear w117 w118 w119 w120 w121 w122 wg123
                  have T142 := zTI_back T128 (by omega) (show v4 + (-1) = v4 - 1 by omega) (fun j a b c => qm129.1 j a (zanyF (by simp <;> omega))) (qm129.2.1 8 rfl) (qm129.2.1 38 rfl) p130 p131 p132 p133 B6 B4 B5 B7
                  have O143 : m129.1 100 (v4 + (-1)) = 0 := by rw [qm129.1 100 (by decide) rfl]; exact O1
                  refine Exists.intro (zrT m129 3) (And.intro (zrT_st (by unfold zrm; simp only [w135, w136, w137, w138, w139, w140, w141, wg17, wg18, wg19, wg20, wg21, wg22, wg23, wg1, wg2, wg3, wg4, wg5, wg6, wg7]) (zrm_0 (by (try rw [w135]) <;> (try rw [w136]) <;> (try rw [w137]) <;> (try rw [w138]) <;> (try rw [w139]) <;> (try rw [w140]) <;> (try rw [w141]) <;> (try rw [wg17]) <;> (try rw [wg18]) <;> (try rw [wg19]) <;> (try rw [wg20]) <;> (try rw [wg21]) <;> (try rw [wg22]) <;> (try rw [wg23]) <;> (try rw [wg1]) <;> (try rw [wg2]) <;> (try rw [wg3]) <;> (try rw [wg4]) <;> (try rw [wg5]) <;> (try rw [wg6]) <;> (try rw [wg7]) <;> omega)) (by omega) (by omega)) ?_)
                  exact ⟨_, _, _, _, _, rfl, z134, ⟨by omega, by omega⟩, ⟨by omega, by omega⟩, ⟨by omega, by omega⟩, ⟨by omega, by omega⟩, ⟨by omega, by omega⟩, ⟨rfl, rfl, rfl⟩, (by (try rw [w135]) <;> (try rw [w136]) <;> (try rw [w137]) <;> (try rw [w138]) <;> (try rw [w139]) <;> (try rw [w140]) <;> (try rw [w141]) <;> (try rw [wg17]) <;> (try rw [wg18]) <;> (try rw [wg19]) <;> (try rw [wg20]) <;> (try rw [wg21]) <;> (try rw [wg22]) <;> (try rw [wg23]) <;> (try rw [wg1]) <;> (try rw [wg2]) <;> (try rw [wg3]) <;> (try rw [wg4]) <;> (try rw [wg5]) <;> (try rw [wg6]) <;> (try rw [wg7]) <;> omega), (by (try rw [w135]) <;> (try rw [w136]) <;> (try rw [w137]) <;> (try rw [w138]) <;> (try rw [w139]) <;> (try rw [w140]) <;> (try rw [w141]) <;> (try rw [wg17]) <;> (try rw [wg18]) <;> (try rw [wg19]) <;> (try rw [wg20]) <;> (try rw [wg21]) <;> (try rw [wg22]) <;> (try rw [wg23]) <;> (try rw [wg1]) <;> (try rw [wg2]) <;> (try rw [wg3]) <;> (try rw [wg4]) <;> (try rw [wg5]) <;> (try rw [wg6]) <;> (try rw [wg7]) <;> omega), ⟨fun h => absurd h (by decide), fun _ => T142⟩, (fun h => O143), (Or.inr (by omega)), (by have h6 := i6; unfold zrm at h6 ⊢; simp only [w135, w136, w137, w138, w139, w140, w141, wg17, wg18, wg19, wg20, wg21, wg22, wg23, wg1, wg2, wg3, wg4, wg5, wg6, wg7] at h6 ⊢; (repeat' split at h6) <;> (repeat' split) <;> omega), (by (try rw [w135]) <;> (try rw [w136]) <;> (try rw [w137]) <;> (try rw [w138]) <;> (try rw [w139]) <;> (try rw [w140]) <;> (try rw [w141]) <;> (try rw [wg17]) <;> (try rw [wg18]) <;> (try rw [wg19]) <;> (try rw [wg20]) <;> (try rw [wg21]) <;> (try rw [wg22]) <;> (try rw [wg23]) <;> (try rw [wg1]) <;> (try rw [wg2]) <;> (try rw [wg3]) <;> (try rw [wg4]) <;> (try rw [wg5]) <;> (try rw [wg6]) <;> (try rw [wg7]) <;> omega), (Or.inr V3), rfl⟩
                · refine And.intro ⟨by omega, by omega⟩ (And.intro ⟨by omega, by omega⟩ ?_)
                  intro m144 em144
                  have z145 := zfx_r z116 em144 rfl (by decide)
                  have w146 : m144.1 66 ((31 : Nat) : Int) = g17 := by rw [em144]; exact (congrFun (zu_ne (by decide)) _).trans w117
                  have w147 : m144.1 66 ((30 : Nat) : Int) = g18 := by rw [em144]; exact (congrFun (zu_ne (by decide)) _).trans w118
                  have w148 : m144.1 66 ((33 : Nat) : Int) = g19 := by rw [em144]; exact (congrFun (zu_ne (by decide)) _).trans w119
                  have w149 : m144.1 66 ((34 : Nat) : Int) = g20 := by rw [em144]; exact (congrFun (zu_ne (by decide)) _).trans w120
                  have w150 : m144.1 66 ((32 : Nat) : Int) = g21 := by rw [em144]; exact (congrFun (zu_ne (by decide)) _).trans w121
                  have w151 : m144.1 66 ((38 : Nat) : Int) = g22 := by rw [em144]; exact (congrFun (zu_ne (by decide)) _).trans w122
                  have w152 : m144.1 66 ((8 : Nat) : Int) = g123 := by rw [em144]; exact (congrFun (zu_ne (by decide)) _).trans wg123
                  clear w117 w118 w119 w120 w121 w122 wg123
                  refine And.intro ⟨by omega, by omega⟩ ?_
                  intro x153 hx153 kx153 lx153
                  have W0 : x153 = x126 := by rw [hx153, hx126, em144, zu_ne (by decide)]
                  have W1 := T124.1.2.2.2.1.2.2.2 v4 (by omega) (by omega)
                  have W2 : zTop m144 = zTop m114 := by show m144.1 66 _ = m114.1 66 _; rw [em144, zu_ne (by decide)]
                  have T154 := zTI_fr0 T124.1 (fun j a b => by rw [em144, zu_ne (by omega)]) (fun j a b => by rw [em144, zu_ne (by omega)]) W2 (by rw [em144, zu_ne (by decide)])
                  refine ⟨zk_X9_make, zm_X9_make hg d (by omega), _, _, _, _, rfl, ⟨by omega, by omega⟩, ⟨by omega, by omega⟩, ⟨by omega, by omega⟩, T154.1.1, (zTE_top (zTE_of T154 (by omega) (by omega)) w152 w151 wg7 wg6 hp5.1 (by omega)), ⟨fun h => by omega, fun h => by omega⟩, (fun i a b => by rw [show i = 0 by omega, em144, zu_at]; have h1 := T124.2.1; have l0 := T124.1.1.1.1; have h2 := W2; rw [em144] at h2; omega), ?_⟩
                  intro x155 m156 qm156 kx155 lx155 p157 p158 p159 p160
                  have z161 := zfx_t z145 qm156 rfl rfl
                  have w162 : m156.1 66 ((31 : Nat) : Int) = g17 := (qm156.2.1 31 rfl).trans w146
                  have w163 : m156.1 66 ((30 : Nat) : Int) = g18 := (qm156.2.1 30 rfl).trans w147
                  have w164 : m156.1 66 ((33 : Nat) : Int) = g19 := (qm156.2.1 33 rfl).trans w148
                  have w165 : m156.1 66 ((34 : Nat) : Int) = g20 := (qm156.2.1 34 rfl).trans w149
                  have w166 : m156.1 66 ((32 : Nat) : Int) = g21 := (qm156.2.1 32 rfl).trans w150
                  have w167 : m156.1 66 ((38 : Nat) : Int) = g22 := (qm156.2.1 38 rfl).trans w151
                  obtain ⟨g168, wg168⟩ : ∃ z : Int, m156.1 66 ((8 : Nat) : Int) = z := ⟨_, rfl⟩
                  try rw [w162] at p157
                  try rw [w163] at p157
                  try rw [w164] at p157
                  try rw [w165] at p157
                  try rw [w166] at p157
                  try rw [w167] at p157
                  try rw [wg168] at p157
                  try rw [w146] at p157
                  try rw [w147] at p157
                  try rw [w148] at p157
                  try rw [w149] at p157
                  try rw [w150] at p157
                  try rw [w151] at p157
                  try rw [w152] at p157
                  try rw [wg1] at p157
                  try rw [wg2] at p157
                  try rw [wg3] at p157
                  try rw [wg4] at p157
                  try rw [wg5] at p157
                  try rw [wg6] at p157
                  try rw [wg7] at p157
                  try rw [w162] at p158
                  try rw [w163] at p158
                  try rw [w164] at p158
                  try rw [w165] at p158
                  try rw [w166] at p158
                  try rw [w167] at p158
                  try rw [wg168] at p158
                  try rw [w146] at p158
                  try rw [w147] at p158
                  try rw [w148] at p158
                  try rw [w149] at p158
                  try rw [w150] at p158
                  try rw [w151] at p158
                  try rw [w152] at p158
                  try rw [wg1] at p158
                  try rw [wg2] at p158
                  try rw [wg3] at p158
                  try rw [wg4] at p158
                  try rw [wg5] at p158
                  try rw [wg6] at p158
                  try rw [wg7] at p158
                  try rw [w162] at p159
                  try rw [w163] at p159
                  try rw [w164] at p159
                  try rw [w165] at p159
                  try rw [w166] at p159
                  try rw [w167] at p159
                  try rw [wg168] at p159
                  try rw [w146] at p159
                  try rw [w147] at p159
                  try rw [w148] at p159
                  try rw [w149] at p159
                  try rw [w150] at p159
                  try rw [w151] at p159
                  try rw [w152] at p159
                  try rw [wg1] at p159
                  try rw [wg2] at p159
                  try rw [wg3] at p159
                  try rw [wg4] at p159
                  try rw [wg5] at p159
                  try rw [wg6] at p159
                  try rw [wg7] at p159
                  try rw [w162] at p160
                  try rw [w163] at p160
                  try rw [w164] at p160
                  try rw [w165] at p160
                  try rw [w166] at p160
                  try rw [w167] at p160
                  try rw [wg168] at p160
                  try rw [w146] at p160
                  try rw [w147] at p160
                  try rw [w148] at p160
                  try rw [w149] at p160
                  try rw [w150] at p160
                  try rw [w151] at p160
                  try rw [w152] at p160
                  try rw [wg1] at p160
                  try rw [wg2] at p160
                  try rw [wg3] at p160
                  try rw [wg4] at p160
                  try rw [wg5] at p160
                  try rw [wg6] at p160
                  try rw [wg7] at p160
                  clear w146 w147 w148 w149 w150 w151 w152
                  have T169 := (⟨p157, p158, p159, p160⟩ : zMd m144 m156 lo x153 0 1 (m144.1 74) x155)
                  have T170 := zTI_wrap T124.1 T124.2.1 T124.2.2.2.1 T124.2.2.2.2.2 em144 rfl (fun j a b => qm156.1 j (by omega) (zanyF (by simp <;> omega))) (qm156.2.1 38 rfl) T169 (by omega)
                  clear T169 p157 p158 p159 p160
                  have B1 : zwb m114 v4 = 1 := zwb_1 (by omega)
                  have B2 := T170.2.2.2.2 v4
                  have B3 := B2.2 hv4.1 (by omega)
                  have T171 := zTI_bk1 T170.1 B1 B2.1
                  have B4 : m156.1 71 x155 ≤ 1 + zwb m156 v4 + zoa m156 v4 (zok m156 v4) := by have h1 := T170.2.2.1; have h2 := T124.2.2.1; omega
                  have B5 : v4 = 1 → v2 = 1 → m156.1 67 x155 ≤ 2 := fun a b => by have h := T124.1.2.2.2.1.2.1 b (by omega); have h2 : m114.1 104 v4 = m114.1 104 1 := (by rw [a]); omega
                  have B6 := T170.2.1
                  have B7 := T170.2.2.2.1
                  have O1 : m156.1 100 (v4 + (-1)) = 0 := by rw [qm156.1 100 (by decide) rfl, em144, zu_ne (by decide), qm114.1 100 (by decide) rfl]; exact T107.2.2.1 _ (by omega) (by omega)
                  refine ⟨zk_X9_addArg, zm_X9_addArg hg d (by omega), _, _, rfl, ⟨by omega, by omega⟩, ⟨by omega, by omega⟩, (zTI_cnt T171 (by omega) (by omega) (by decide) w167 wg6 (by omega) hp5.2.1), ?_⟩
                  intro m172 qm172 p173 p174 p175 p176
                  have z177 := zfx_t z161 qm172 rfl rfl
                  have w178 : m172.1 66 ((31 : Nat) : Int) = g17 := (qm172.2.1 31 rfl).trans w162
                  have w179 : m172.1 66 ((30 : Nat) : Int) = g18 := (qm172.2.1 30 rfl).trans w163
                  have w180 : m172.1 66 ((33 : Nat) : Int) = g19 := (qm172.2.1 33 rfl).trans w164
                  have w181 : m172.1 66 ((34 : Nat) : Int) = g20 := (qm172.2.1 34 rfl).trans w165
                  have w182 : m172.1 66 ((32 : Nat) : Int) = g21 := (qm172.2.1 32 rfl).trans w166
                  have w183 : m172.1 66 ((38 : Nat) : Int) = g22 := (qm172.2.1 38 rfl).trans w167
                  have w184 : m172.1 66 ((8 : Nat) : Int) = g168 := (qm172.2.1 8 rfl).trans wg168
                  try rw [w178] at p173
                  try rw [w179] at p173
                  try rw [w180] at p173
                  try rw [w181] at p173
                  try rw [w182] at p173
                  try rw [w183] at p173
                  try rw [w184] at p173
                  try rw [w162] at p173
                  try rw [w163] at p173
                  try rw [w164] at p173
                  try rw [w165] at p173
                  try rw [w166] at p173
                  try rw [w167] at p173
                  try rw [wg168] at p173
                  try rw [wg1] at p173
                  try rw [wg2] at p173
                  try rw [wg3] at p173
                  try rw [wg4] at p173
                  try rw [wg5] at p173
                  try rw [wg6] at p173
                  try rw [wg7] at p173
                  try rw [w178] at p174
                  try rw [w179] at p174
                  try rw [w180] at p174
                  try rw [w181] at p174
                  try rw [w182] at p174
                  try rw [w183] at p174
                  try rw [w184] at p174
                  try rw [w162] at p174
                  try rw [w163] at p174
                  try rw [w164] at p174
                  try rw [w165] at p174
                  try rw [w166] at p174
                  try rw [w167] at p174
                  try rw [wg168] at p174
                  try rw [wg1] at p174
                  try rw [wg2] at p174
                  try rw [wg3] at p174
                  try rw [wg4] at p174
                  try rw [wg5] at p174
                  try rw [wg6] at p174
                  try rw [wg7] at p174
                  try rw [w178] at p175
                  try rw [w179] at p175
                  try rw [w180] at p175
                  try rw [w181] at p175
                  try rw [w182] at p175
                  try rw [w183] at p175
                  try rw [w184] at p175
                  try rw [w162] at p175
                  try rw [w163] at p175
                  try rw [w164] at p175
                  try rw [w165] at p175
                  try rw [w166] at p175
                  try rw [w167] at p175
                  try rw [wg168] at p175
                  try rw [wg1] at p175
                  try rw [wg2] at p175
                  try rw [wg3] at p175
                  try rw [wg4] at p175
                  try rw [wg5] at p175
                  try rw [wg6] at p175
                  try rw [wg7] at p175
                  try rw [w178] at p176
                  try rw [w179] at p176
                  try rw [w180] at p176
                  try rw [w181] at p176
                  try rw [w182] at p176
                  try rw [w183] at p176
                  try rw [w184] at p176
                  try rw [w162] at p176
                  try rw [w163] at p176
                  try rw [w164] at p176
                  try rw [w165] at p176
                  try rw [w166] at p176
                  try rw [w167] at p176
                  try rw [wg168] at p176
                  try rw [wg1] at p176
                  try rw [wg2] at p176
                  try rw [wg3] at p176
                  try rw [wg4] at p176
                  try rw [wg5] at p176
                  try rw [wg6] at p176
                  try rw [wg7] at p176
                  clear w162 w163 w164 w165 w166 w167 wg168
                  have T185 := zTI_back T171 (by omega) (show v4 + (-1) = v4 - 1 by omega) (fun j a b c => qm172.1 j a (zanyF (by simp <;> omega))) (qm172.2.1 8 rfl) (qm172.2.1 38 rfl) p173 p174 p175 p176 B6 B4 B5 B7
                  have O186 : m172.1 100 (v4 + (-1)) = 0 := by rw [qm172.1 100 (by decide) rfl]; exact O1
                  refine Exists.intro (zrT m172 3) (And.intro (zrT_st (by unfold zrm; simp only [w178, w179, w180, w181, w182, w183, w184, wg17, wg18, wg19, wg20, wg21, wg22, wg23, wg1, wg2, wg3, wg4, wg5, wg6, wg7]) (zrm_0 (by (try rw [w178]) <;> (try rw [w179]) <;> (try rw [w180]) <;> (try rw [w181]) <;> (try rw [w182]) <;> (try rw [w183]) <;> (try rw [w184]) <;> (try rw [wg17]) <;> (try rw [wg18]) <;> (try rw [wg19]) <;> (try rw [wg20]) <;> (try rw [wg21]) <;> (try rw [wg22]) <;> (try rw [wg23]) <;> (try rw [wg1]) <;> (try rw [wg2]) <;> (try rw [wg3]) <;> (try rw [wg4]) <;> (try rw [wg5]) <;> (try rw [wg6]) <;> (try rw [wg7]) <;> omega)) (by omega) (by omega)) ?_)
                  exact ⟨_, _, _, _, _, rfl, z177, ⟨by omega, by omega⟩, ⟨by omega, by omega⟩, ⟨by omega, by omega⟩, ⟨by omega, by omega⟩, ⟨by omega, by omega⟩, ⟨rfl, rfl, rfl⟩, (by (try rw [w178]) <;> (try rw [w179]) <;> (try rw [w180]) <;> (try rw [w181]) <;> (try rw [w182]) <;> (try rw [w183]) <;> (try rw [w184]) <;> (try rw [wg17]) <;> (try rw [wg18]) <;> (try rw [wg19]) <;> (try rw [wg20]) <;> (try rw [wg21]) <;> (try rw [wg22]) <;> (try rw [wg23]) <;> (try rw [wg1]) <;> (try rw [wg2]) <;> (try rw [wg3]) <;> (try rw [wg4]) <;> (try rw [wg5]) <;> (try rw [wg6]) <;> (try rw [wg7]) <;> omega), (by (try rw [w178]) <;> (try rw [w179]) <;> (try rw [w180]) <;> (try rw [w181]) <;> (try rw [w182]) <;> (try rw [w183]) <;> (try rw [w184]) <;> (try rw [wg17]) <;> (try rw [wg18]) <;> (try rw [wg19]) <;> (try rw [wg20]) <;> (try rw [wg21]) <;> (try rw [wg22]) <;> (try rw [wg23]) <;> (try rw [wg1]) <;> (try rw [wg2]) <;> (try rw [wg3]) <;> (try rw [wg4]) <;> (try rw [wg5]) <;> (try rw [wg6]) <;> (try rw [wg7]) <;> omega), ⟨fun h => absurd h (by decide), fun _ => T185⟩, (fun h => O186), (Or.inr (by omega)), (by have h6 := i6; unfold zrm at h6 ⊢; simp only [w178, w179, w180, w181, w182, w183, w184, wg17, wg18, wg19, wg20, wg21, wg22, wg23, wg1, wg2, wg3, wg4, wg5, wg6, wg7] at h6 ⊢; (repeat' split at h6) <;> (repeat' split) <;> omega), (by (try rw [w178]) <;> (try rw [w179]) <;> (try rw [w180]) <;> (try rw [w181]) <;> (try rw [w182]) <;> (try rw [w183]) <;> (try rw [w184]) <;> (try rw [wg17]) <;> (try rw [wg18]) <;> (try rw [wg19]) <;> (try rw [wg20]) <;> (try rw [wg21]) <;> (try rw [wg22]) <;> (try rw [wg23]) <;> (try rw [wg1]) <;> (try rw [wg2]) <;> (try rw [wg3]) <;> (try rw [wg4]) <;> (try rw [wg5]) <;> (try rw [wg6]) <;> (try rw [wg7]) <;> omega), (Or.inr V3), rfl⟩
              · exact And.intro trivial (And.intro ⟨by omega, by omega⟩ (hQ _ _ z116 (by omega) (by omega) (by (try rw [w117]) <;> (try rw [w118]) <;> (try rw [w119]) <;> (try rw [w120]) <;> (try rw [w121]) <;> (try rw [w122]) <;> (try rw [wg123]) <;> (try rw [wg17]) <;> (try rw [wg18]) <;> (try rw [wg19]) <;> (try rw [wg20]) <;> (try rw [wg21]) <;> (try rw [wg22]) <;> (try rw [wg23]) <;> (try rw [wg1]) <;> (try rw [wg2]) <;> (try rw [wg3]) <;> (try rw [wg4]) <;> (try rw [wg5]) <;> (try rw [wg6]) <;> (try rw [wg7]) <;> omega) (by (try rw [w117]) <;> (try rw [w118]) <;> (try rw [w119]) <;> (try rw [w120]) <;> (try rw [w121]) <;> (try rw [w122]) <;> (try rw [wg123]) <;> (try rw [wg17]) <;> (try rw [wg18]) <;> (try rw [wg19]) <;> (try rw [wg20]) <;> (try rw [wg21]) <;> (try rw [wg22]) <;> (try rw [wg23]) <;> (try rw [wg1]) <;> (try rw [wg2]) <;> (try rw [wg3]) <;> (try rw [wg4]) <;> (try rw [wg5]) <;> (try rw [wg6]) <;> (try rw [wg7]) <;> omega) (zTE_of T124.1 (by omega) (by omega)) (by (try rw [w117]) <;> (try rw [w118]) <;> (try rw [w119]) <;> (try rw [w120]) <;> (try rw [w121]) <;> (try rw [w122]) <;> (try rw [wg123]) <;> (try rw [wg17]) <;> (try rw [wg18]) <;> (try rw [wg19]) <;> (try rw [wg20]) <;> (try rw [wg21]) <;> (try rw [wg22]) <;> (try rw [wg23]) <;> (try rw [wg1]) <;> (try rw [wg2]) <;> (try rw [wg3]) <;> (try rw [wg4]) <;> (try rw [wg5]) <;> (try rw [wg6]) <;> (try rw [wg7]) <;> omega) (Or.inr (by have h6 := i6; unfold zrm at h6 ⊢; simp only [w117, w118, w119, w120, w121, w122, wg123, wg17, wg18, wg19, wg20, wg21, wg22, wg23, wg1, wg2, wg3, wg4, wg5, wg6, wg7] at h6 ⊢; (repeat' split at h6) <;> (repeat' split) <;> omega)) (Or.inr ⟨T124.2.1.1, T124.2.1.2, T124.2.2.2.1, (T124.2.2.2.2.1 (by omega)).1, (T124.2.2.2.2.1 (by omega)).2, T124.2.2.2.2.2, zTI_done T124.1 (by omega) T124.2.2.1⟩) (by omega)))
            · have Q6 := Q4.1 (by omega)
              refine And.intro ⟨by omega, by omega⟩ ?_
              intro x187 hx187 kx187 lx187
              intro x188 hx188 kx188 lx188
              refine And.intro ⟨by omega, by omega⟩ ?_
              intro x189 hx189 kx189 lx189
              refine And.intro ⟨by omega, by omega⟩ ?_
              intro x190 hx190 kx190 lx190
              refine And.intro ⟨⟨by omega, by omega⟩, ⟨by omega, by omega⟩⟩ (And.intro (fun c191 => ?_) (fun c191 => ?_))
              · have hcc : x190 = μ.1 77 (μ.1 66 ((24 : Nat) : Int) + m0.1 101 v4) := by rw [hx190, show m0.1 77 = μ.1 77 from z0.1 77 (by decide) rfl, hx188, show m0.1 66 ((24 : Nat) : Int) = μ.1 66 ((24 : Nat) : Int) from z0.2.1 24 rfl, hx189]
                have h2 := hp4 _ Q6.1 Q6.2
                have H192 : m0.1 100 v4 = 0 → m0.1 102 v4 = cf (m0.1 101 v4) ∧ m0.1 102 v4 ≤ 4 := fun h => by omega
                refine ⟨zk_X9_closed, zm_X9_closed hg d (by omega), _, _, rfl, ⟨by omega, by omega⟩, T107.1.1, (zTE_top (zTE_of T107 (by omega) (by omega)) wg23 wg22 wg7 wg6 hp5.1 (by omega)), (fun h => ⟨by have h1 := Q4.1 h; omega, (H192 h).2⟩), (fun h i a b => by have h1 := Q4.2.2.2.2 i a (by have := (H192 h).2; omega) b; have l0 := T107.1.1.1.1; omega), ?_⟩
                intro x193 m194 qm194 kx193 lx193 p195
                have z196 := zfx_t z0 qm194 rfl rfl
                have w197 : m194.1 66 ((31 : Nat) : Int) = g17 := (qm194.2.1 31 rfl).trans wg17
                have w198 : m194.1 66 ((30 : Nat) : Int) = g18 := (qm194.2.1 30 rfl).trans wg18
                have w199 : m194.1 66 ((33 : Nat) : Int) = g19 := (qm194.2.1 33 rfl).trans wg19
                have w200 : m194.1 66 ((34 : Nat) : Int) = g20 := (qm194.2.1 34 rfl).trans wg20
                have w201 : m194.1 66 ((32 : Nat) : Int) = g21 := (qm194.2.1 32 rfl).trans wg21
                have w202 : m194.1 66 ((38 : Nat) : Int) = g22 := (qm194.2.1 38 rfl).trans wg22
                obtain ⟨g203, wg203⟩ : ∃ z : Int, m194.1 66 ((8 : Nat) : Int) = z := ⟨_, rfl⟩
                try rw [w197] at p195
                try rw [w198] at p195
                try rw [w199] at p195
                try rw [w200] at p195
                try rw [w201] at p195
                try rw [w202] at p195
                try rw [wg203] at p195
                try rw [wg17] at p195
                try rw [wg18] at p195
                try rw [wg19] at p195
                try rw [wg20] at p195
                try rw [wg21] at p195
                try rw [wg22] at p195
                try rw [wg23] at p195
                try rw [wg1] at p195
                try rw [wg2] at p195
                try rw [wg3] at p195
                try rw [wg4] at p195
                try rw [wg5] at p195
                try rw [wg6] at p195
                try rw [wg7] at p195
                have T204 := zTI_closed T107 hv4.1 (fun j a b => qm194.1 j (by omega) (zanyF (by simp <;> omega))) (qm194.2.1 38 rfl) p195 H192
                clear p195 H192
                refine And.intro ⟨by omega, by omega⟩ (And.intro (fun c205 => ?_) (fun c205 => ?_))
                · refine And.intro ⟨by omega, by omega⟩ ?_
                  intro x206 hx206 kx206 lx206
                  refine And.intro ⟨by omega, by omega⟩ (And.intro (fun c207 => ?_) (fun c207 => ?_))
                  · have B1 : zwb m194 v4 = 0 := zwb_0 (by omega)
                    have T208 := zTI_bk0 T204.1 B1
                    have B4 : m194.1 71 x193 ≤ 1 + zwb m194 v4 + zoa m194 v4 (zok m194 v4) := by have h1 := T204.2.2.1; omega
                    have B5 : v4 = 1 → v2 = 1 → m194.1 67 x193 ≤ 2 := fun a b => by have h := T204.2.2.2.1; omega
                    have B6 := T204.2.1
                    have B7 := T204.2.2.2.2.2
                    have O1 : m194.1 100 (v4 + (-1)) = 0 := by rw [qm194.1 100 (by decide) rfl]; exact T107.2.2.1 _ (by omega) (by omega)
                    refine ⟨zk_X9_addArg, zm_X9_addArg hg d (by omega), _, _, rfl, ⟨by omega, by omega⟩, ⟨by omega, by omega⟩, (zTI_cnt T208 (by omega) (by omega) (by decide) w202 wg6 (by omega) hp5.2.1), ?_⟩
                    intro m209 qm209 p210 p211 p212 p213
                    have z214 := zfx_t z196 qm209 rfl rfl
                    have w215 : m209.1 66 ((31 : Nat) : Int) = g17 := (qm209.2.1 31 rfl).trans w197
                    have w216 : m209.1 66 ((30 : Nat) : Int) = g18 := (qm209.2.1 30 rfl).trans w198
                    have w217 : m209.1 66 ((33 : Nat) : Int) = g19 := (qm209.2.1 33 rfl).trans w199
                    have w218 : m209.1 66 ((34 : Nat) : Int) = g20 := (qm209.2.1 34 rfl).trans w200
                    have w219 : m209.1 66 ((32 : Nat) : Int) = g21 := (qm209.2.1 32 rfl).trans w201
                    have w220 : m209.1 66 ((38 : Nat) : Int) = g22 := (qm209.2.1 38 rfl).trans w202
                    have w221 : m209.1 66 ((8 : Nat) : Int) = g203 := (qm209.2.1 8 rfl).trans wg203
                    try rw [w215] at p210
                    try rw [w216] at p210
                    try rw [w217] at p210
                    try rw [w218] at p210
                    try rw [w219] at p210
                    try rw [w220] at p210
                    try rw [w221] at p210
                    try rw [w197] at p210
                    try rw [w198] at p210
                    try rw [w199] at p210
                    try rw [w200] at p210
                    try rw [w201] at p210
                    try rw [w202] at p210
                    try rw [wg203] at p210
                    try rw [wg1] at p210
                    try rw [wg2] at p210
                    try rw [wg3] at p210
                    try rw [wg4] at p210
                    try rw [wg5] at p210
                    try rw [wg6] at p210
                    try rw [wg7] at p210
                    try rw [w215] at p211
                    try rw [w216] at p211
                    try rw [w217] at p211
                    try rw [w218] at p211
                    try rw [w219] at p211
                    try rw [w220] at p211
                    try rw [w221] at p211
                    try rw [w197] at p211
                    try rw [w198] at p211
                    try rw [w199] at p211
                    try rw [w200] at p211
                    try rw [w201] at p211
                    try rw [w202] at p211
                    try rw [wg203] at p211
                    try rw [wg1] at p211
                    try rw [wg2] at p211
                    try rw [wg3] at p211
                    try rw [wg4] at p211
                    try rw [wg5] at p211
                    try rw [wg6] at p211
                    try rw [wg7] at p211
                    try rw [w215] at p212
                    try rw [w216] at p212
                    try rw [w217] at p212
                    try rw [w218] at p212
                    try rw [w219] at p212
                    try rw [w220] at p212
                    try rw [w221] at p212
                    try rw [w197] at p212
                    try rw [w198] at p212
                    try rw [w199] at p212
                    try rw [w200] at p212
                    try rw [w201] at p212
                    try rw [w202] at p212
                    try rw [wg203] at p212
                    try rw [wg1] at p212
                    try rw [wg2] at p212
                    try rw [wg3] at p212
                    try rw [wg4] at p212
                    try rw [wg5] at p212
                    try rw [wg6] at p212
                    try rw [wg7] at p212
                    try rw [w215] at p213
                    try rw [w216] at p213
                    try rw [w217] at p213
                    try rw [w218] at p213
                    try rw [w219] at p213
                    try rw [w220] at p213
                    try rw [w221] at p213
                    try rw [w197] at p213
                    try rw [w198] at p213
                    try rw [w199] at p213
                    try rw [w200] at p213
                    try rw [w201] at p213
                    try rw [w202] at p213
                    try rw [wg203] at p213
                    try rw [wg1] at p213
                    try rw [wg2] at p213
                    try rw [wg3] at p213
                    try rw [wg4] at p213
                    try rw [wg5] at p213
                    try rw [wg6] at p213
                    try rw [wg7] at p213
                    clear w197 w198 w199 w200 w201 w202 wg203
                    have T222 := zTI_back T208 (by omega) (show v4 + (-1) = v4 - 1 by omega) (fun j a b c => qm209.1 j a (zanyF (by simp <;> omega))) (qm209.2.1 8 rfl) (qm209.2.1 38 rfl) p210 p211 p212 p213 B6 B4 B5 B7
                    have O223 : m209.1 100 (v4 + (-1)) = 0 := by rw [qm209.1 100 (by decide) rfl]; exact O1
                    refine Exists.intro (zrT m209 3) (And.intro (zrT_st (by unfold zrm; simp only [w215, w216, w217, w218, w219, w220, w221, wg17, wg18, wg19, wg20, wg21, wg22, wg23, wg1, wg2, wg3, wg4, wg5, wg6, wg7]) (zrm_0 (by (try rw [w215]) <;> (try rw [w216]) <;> (try rw [w217]) <;> (try rw [w218]) <;> (try rw [w219]) <;> (try rw [w220]) <;> (try rw [w221]) <;> (try rw [wg17]) <;> (try rw [wg18]) <;> (try rw [wg19]) <;> (try rw [wg20]) <;> (try rw [wg21]) <;> (try rw [wg22]) <;> (try rw [wg23]) <;> (try rw [wg1]) <;> (try rw [wg2]) <;> (try rw [wg3]) <;> (try rw [wg4]) <;> (try rw [wg5]) <;> (try rw [wg6]) <;> (try rw [wg7]) <;> omega)) (by omega) (by omega)) ?_)
                    exact ⟨_, _, _, _, _, rfl, z214, ⟨by omega, by omega⟩, ⟨by omega, by omega⟩, ⟨by omega, by omega⟩, ⟨by omega, by omega⟩, ⟨by omega, by omega⟩, ⟨rfl, rfl, rfl⟩, (by (try rw [w215]) <;> (try rw [w216]) <;> (try rw [w217]) <;> (try rw [w218]) <;> (try rw [w219]) <;> (try rw [w220]) <;> (try rw [w221]) <;> (try rw [wg17]) <;> (try rw [wg18]) <;> (try rw [wg19]) <;> (try rw [wg20]) <;> (try rw [wg21]) <;> (try rw [wg22]) <;> (try rw [wg23]) <;> (try rw [wg1]) <;> (try rw [wg2]) <;> (try rw [wg3]) <;> (try rw [wg4]) <;> (try rw [wg5]) <;> (try rw [wg6]) <;> (try rw [wg7]) <;> omega), (by (try rw [w215]) <;> (try rw [w216]) <;> (try rw [w217]) <;> (try rw [w218]) <;> (try rw [w219]) <;> (try rw [w220]) <;> (try rw [w221]) <;> (try rw [wg17]) <;> (try rw [wg18]) <;> (try rw [wg19]) <;> (try rw [wg20]) <;> (try rw [wg21]) <;> (try rw [wg22]) <;> (try rw [wg23]) <;> (try rw [wg1]) <;> (try rw [wg2]) <;> (try rw [wg3]) <;> (try rw [wg4]) <;> (try rw [wg5]) <;> (try rw [wg6]) <;> (try rw [wg7]) <;> omega), ⟨fun h => absurd h (by decide), fun _ => T222⟩, (fun h => O223), (Or.inr (by omega)), (by have h6 := i6; unfold zrm at h6 ⊢; simp only [w215, w216, w217, w218, w219, w220, w221, wg17, wg18, wg19, wg20, wg21, wg22, wg23, wg1, wg2, wg3, wg4, wg5, wg6, wg7] at h6 ⊢; (repeat' split at h6) <;> (repeat' split) <;> omega), (by (try rw [w215]) <;> (try rw [w216]) <;> (try rw [w217]) <;> (try rw [w218]) <;> (try rw [w219]) <;> (try rw [w220]) <;> (try rw [w221]) <;> (try rw [wg17]) <;> (try rw [wg18]) <;> (try rw [wg19]) <;> (try rw [wg20]) <;> (try rw [wg21]) <;> (try rw [wg22]) <;> (try rw [wg23]) <;> (try rw [wg1]) <;> (try rw [wg2]) <;> (try rw [wg3]) <;> (try rw [wg4]) <;> (try rw [wg5]) <;> (try rw [wg6]) <;> (try rw [wg7]) <;> omega), (Or.inr V3), rfl⟩
                  · refine And.intro ⟨by omega, by omega⟩ (And.intro ⟨by omega, by omega⟩ ?_)
                    intro m224 em224
                    have z225 := zfx_r z196 em224 rfl (by decide)
                    have w226 : m224.1 66 ((31 : Nat) : Int) = g17 := by rw [em224]; exact (congrFun (zu_ne (by decide)) _).trans w197
                    have w227 : m224.1 66 ((30 : Nat) : Int) = g18 := by rw [em224]; exact (congrFun (zu_ne (by decide)) _).trans w198
                    have w228 : m224.1 66 ((33 : Nat) : Int) = g19 := by rw [em224]; exact (congrFun (zu_ne (by decide)) _).trans w199
                    have w229 : m224.1 66 ((34 : Nat) : Int) = g20 := by rw [em224]; exact (congrFun (zu_ne (by decide)) _).trans w200
                    have w230 : m224.1 66 ((32 : Nat) : Int) = g21 := by rw [em224]; exact (congrFun (zu_ne (by decide)) _).trans w201
                    have w231 : m224.1 66 ((38 : Nat) : Int) = g22 := by rw [em224]; exact (congrFun (zu_ne (by decide)) _).trans w202
                    have w232 : m224.1 66 ((8 : Nat) : Int) = g203 := by rw [em224]; exact (congrFun (zu_ne (by decide)) _).trans wg203
                    clear w197 w198 w199 w200 w201 w202 wg203
                    refine And.intro ⟨by omega, by omega⟩ ?_
                    intro x233 hx233 kx233 lx233
                    have W0 : x233 = x206 := by rw [hx233, hx206, em224, zu_ne (by decide)]
                    have W1 := T204.1.2.2.2.1.2.2.2 v4 (by omega) (by omega)
                    have W2 : zTop m224 = zTop m194 := by show m224.1 66 _ = m194.1 66 _; rw [em224, zu_ne (by decide)]
                    have T234 := zTI_fr0 T204.1 (fun j a b => by rw [em224, zu_ne (by omega)]) (fun j a b => by rw [em224, zu_ne (by omega)]) W2 (by rw [em224, zu_ne (by decide)])
                    refine ⟨zk_X9_make, zm_X9_make hg d (by omega), _, _, _, _, rfl, ⟨by omega, by omega⟩, ⟨by omega, by omega⟩, ⟨by omega, by omega⟩, T234.1.1, (zTE_top (zTE_of T234 (by omega) (by omega)) w232 w231 wg7 wg6 hp5.1 (by omega)), ⟨fun h => by omega, fun h => by omega⟩, (fun i a b => by rw [show i = 0 by omega, em224, zu_at]; have h1 := T204.2.1; have l0 := T204.1.1.1.1; have h2 := W2; rw [em224] at h2; omega), ?_⟩
                    intro x235 m236 qm236 kx235 lx235 p237 p238 p239 p240
                    have z241 := zfx_t z225 qm236 rfl rfl
                    have w242 : m236.1 66 ((31 : Nat) : Int) = g17 := (qm236.2.1 31 rfl).trans w226
                    have w243 : m236.1 66 ((30 : Nat) : Int) = g18 := (qm236.2.1 30 rfl).trans w227
                    have w244 : m236.1 66 ((33 : Nat) : Int) = g19 := (qm236.2.1 33 rfl).trans w228
                    have w245 : m236.1 66 ((34 : Nat) : Int) = g20 := (qm236.2.1 34 rfl).trans w229
                    have w246 : m236.1 66 ((32 : Nat) : Int) = g21 := (qm236.2.1 32 rfl).trans w230
                    have w247 : m236.1 66 ((38 : Nat) : Int) = g22 := (qm236.2.1 38 rfl).trans w231
                    obtain ⟨g248, wg248⟩ : ∃ z : Int, m236.1 66 ((8 : Nat) : Int) = z := ⟨_, rfl⟩
                    try rw [w242] at p237
                    try rw [w243] at p237
                    try rw [w244] at p237
                    try rw [w245] at p237
                    try rw [w246] at p237
                    try rw [w247] at p237
                    try rw [wg248] at p237
                    try rw [w226] at p237
                    try rw [w227] at p237
                    try rw [w228] at p237
                    try rw [w229] at p237
                    try rw [w230] at p237
                    try rw [w231] at p237
                    try rw [w232] at p237
                    try rw [wg1] at p237
                    try rw [wg2] at p237
                    try rw [wg3] at p237
                    try rw [wg4] at p237
                    try rw [wg5] at p237
                    try rw [wg6] at p237
                    try rw [wg7] at p237
                    try rw [w242] at p238
                    try rw [w243] at p238
                    try rw [w244] at p238
                    try rw [w245] at p238
                    try rw [w246] at p238
                    try rw [w247] at p238
                    try rw [wg248] at p238
                    try rw [w226] at p238
                    try rw [w227] at p238
                    try rw [w228] at p238
                    try rw [w229] at p238
                    try rw [w230] at p238
                    try rw [w231] at p238
                    try rw [w232] at p238
                    try rw [wg1] at p238
                    try rw [wg2] at p238
                    try rw [wg3] at p238
                    try rw [wg4] at p238
                    try rw [wg5] at p238
                    try rw [wg6] at p238
                    try rw [wg7] at p238
                    try rw [w242] at p239
                    try rw [w243] at p239
                    try rw [w244] at p239
                    try rw [w245] at p239
                    try rw [w246] at p239
                    try rw [w247] at p239
                    try rw [wg248] at p239
                    try rw [w226] at p239
                    try rw [w227] at p239
                    try rw [w228] at p239
                    try rw [w229] at p239
                    try rw [w230] at p239
                    try rw [w231] at p239
                    try rw [w232] at p239
                    try rw [wg1] at p239
                    try rw [wg2] at p239
                    try rw [wg3] at p239
                    try rw [wg4] at p239
                    try rw [wg5] at p239
                    try rw [wg6] at p239
                    try rw [wg7] at p239
                    try rw [w242] at p240
                    try rw [w243] at p240
                    try rw [w244] at p240
                    try rw [w245] at p240
                    try rw [w246] at p240
                    try rw [w247] at p240
                    try rw [wg248] at p240
                    try rw [w226] at p240
                    try rw [w227] at p240
                    try rw [w228] at p240
                    try rw [w229] at p240
                    try rw [w230] at p240
                    try rw [w231] at p240
                    try rw [w232] at p240
                    try rw [wg1] at p240
                    try rw [wg2] at p240
                    try rw [wg3] at p240
                    try rw [wg4] at p240
                    try rw [wg5] at p240
                    try rw [wg6] at p240
                    try rw [wg7] at p240
                    clear w226 w227 w228 w229 w230 w231 w232
                    have T249 := (⟨p237, p238, p239, p240⟩ : zMd m224 m236 lo x233 0 1 (m224.1 74) x235)
                    have T250 := zTI_wrap T204.1 T204.2.1 T204.2.2.2.1 T204.2.2.2.2.2 em224 rfl (fun j a b => qm236.1 j (by omega) (zanyF (by simp <;> omega))) (qm236.2.1 38 rfl) T249 (by omega)
                    clear T249 p237 p238 p239 p240
                    have B1 : zwb m194 v4 = 1 := zwb_1 (by omega)
                    have B2 := T250.2.2.2.2 v4
                    have B3 := B2.2 hv4.1 (by omega)
                    have T251 := zTI_bk1 T250.1 B1 B2.1
                    have B4 : m236.1 71 x235 ≤ 1 + zwb m236 v4 + zoa m236 v4 (zok m236 v4) := by have h1 := T250.2.2.1; have h2 := T204.2.2.1; omega
                    have B5 : v4 = 1 → v2 = 1 → m236.1 67 x235 ≤ 2 := fun a b => by have h := T204.1.2.2.2.1.2.1 b (by omega); have h2 : m194.1 104 v4 = m194.1 104 1 := (by rw [a]); omega
                    have B6 := T250.2.1
                    have B7 := T250.2.2.2.1
                    have O1 : m236.1 100 (v4 + (-1)) = 0 := by rw [qm236.1 100 (by decide) rfl, em224, zu_ne (by decide), qm194.1 100 (by decide) rfl]; exact T107.2.2.1 _ (by omega) (by omega)
                    refine ⟨zk_X9_addArg, zm_X9_addArg hg d (by omega), _, _, rfl, ⟨by omega, by omega⟩, ⟨by omega, by omega⟩, (zTI_cnt T251 (by omega) (by omega) (by decide) w247 wg6 (by omega) hp5.2.1), ?_⟩
                    intro m252 qm252 p253 p254 p255 p256
                    have z257 := zfx_t z241 qm252 rfl rfl
                    have w258 : m252.1 66 ((31 : Nat) : Int) = g17 := (qm252.2.1 31 rfl).trans w242
                    have w259 : m252.1 66 ((30 : Nat) : Int) = g18 := (qm252.2.1 30 rfl).trans w243
                    have w260 : m252.1 66 ((33 : Nat) : Int) = g19 := (qm252.2.1 33 rfl).trans w244
                    have w261 : m252.1 66 ((34 : Nat) : Int) = g20 := (qm252.2.1 34 rfl).trans w245
                    have w262 : m252.1 66 ((32 : Nat) : Int) = g21 := (qm252.2.1 32 rfl).trans w246
                    have w263 : m252.1 66 ((38 : Nat) : Int) = g22 := (qm252.2.1 38 rfl).trans w247
                    have w264 : m252.1 66 ((8 : Nat) : Int) = g248 := (qm252.2.1 8 rfl).trans wg248
                    try rw [w258] at p253
                    try rw [w259] at p253
                    try rw [w260] at p253
                    try rw [w261] at p253
                    try rw [w262] at p253
                    try rw [w263] at p253
                    try rw [w264] at p253
                    try rw [w242] at p253
                    try rw [w243] at p253
                    try rw [w244] at p253
                    try rw [w245] at p253
                    try rw [w246] at p253
                    try rw [w247] at p253
                    try rw [wg248] at p253
                    try rw [wg1] at p253
                    try rw [wg2] at p253
                    try rw [wg3] at p253
                    try rw [wg4] at p253
                    try rw [wg5] at p253
                    try rw [wg6] at p253
                    try rw [wg7] at p253
                    try rw [w258] at p254
                    try rw [w259] at p254
                    try rw [w260] at p254
                    try rw [w261] at p254
                    try rw [w262] at p254
                    try rw [w263] at p254
                    try rw [w264] at p254
                    try rw [w242] at p254
                    try rw [w243] at p254
                    try rw [w244] at p254
                    try rw [w245] at p254
                    try rw [w246] at p254
                    try rw [w247] at p254
                    try rw [wg248] at p254
                    try rw [wg1] at p254
                    try rw [wg2] at p254
                    try rw [wg3] at p254
                    try rw [wg4] at p254
                    try rw [wg5] at p254
                    try rw [wg6] at p254
                    try rw [wg7] at p254
                    try rw [w258] at p255
                    try rw [w259] at p255
                    try rw [w260] at p255
                    try rw [w261] at p255
                    try rw [w262] at p255
                    try rw [w263] at p255
                    try rw [w264] at p255
                    try rw [w242] at p255
                    try rw [w243] at p255
                    try rw [w244] at p255
                    try rw [w245] at p255
                    try rw [w246] at p255
                    try rw [w247] at p255
                    try rw [wg248] at p255
                    try rw [wg1] at p255
                    try rw [wg2] at p255
                    try rw [wg3] at p255
                    try rw [wg4] at p255
                    try rw [wg5] at p255
                    try rw [wg6] at p255
                    try rw [wg7] at p255
                    try rw [w258] at p256
                    try rw [w259] at p256
                    try rw [w260] at p256
                    try rw [w261] at p256
                    try rw [w262] at p256
                    try rw [w263] at p256
                    try rw [w264] at p256
                    try rw [w242] at p256
                    try rw [w243] at p256
                    try rw [w244] at p256
                    try rw [w245] at p256
                    try rw [w246] at p256
                    try rw [w247] at p256
                    try rw [wg248] at p256
                    try rw [wg1] at p256
                    try rw [wg2] at p256
                    try rw [wg3] at p256
                    try rw [wg4] at p256
                    try rw [wg5] at p256
                    try rw [wg6] at p256
                    try rw [wg7] at p256
                    clear w242 w243 w244 w245 w246 w247 wg248
                    have T265 := zTI_back T251 (by omega) (show v4 + (-1) = v4 - 1 by omega) (fun j a b c => qm252.1 j a (zanyF (by simp <;> omega))) (qm252.2.1 8 rfl) (qm252.2.1 38 rfl) p253 p254 p255 p256 B6 B4 B5 B7
                    have O266 : m252.1 100 (v4 + (-1)) = 0 := by rw [qm252.1 100 (by decide) rfl]; exact O1
                    refine Exists.intro (zrT m252 3) (And.intro (zrT_st (by unfold zrm; simp only [w258, w259, w260, w261, w262, w263, w264, wg17, wg18, wg19, wg20, wg21, wg22, wg23, wg1, wg2, wg3, wg4, wg5, wg6, wg7]) (zrm_0 (by (try rw [w258]) <;> (try rw [w259]) <;> (try rw [w260]) <;> (try rw [w261]) <;> (try rw [w262]) <;> (try rw [w263]) <;> (try rw [w264]) <;> (try rw [wg17]) <;> (try rw [wg18]) <;> (try rw [wg19]) <;> (try rw [wg20]) <;> (try rw [wg21]) <;> (try rw [wg22]) <;> (try rw [wg23]) <;> (try rw [wg1]) <;> (try rw [wg2]) <;> (try rw [wg3]) <;> (try rw [wg4]) <;> (try rw [wg5]) <;> (try rw [wg6]) <;> (try rw [wg7]) <;> omega)) (by omega) (by omega)) ?_)
                    exact ⟨_, _, _, _, _, rfl, z257, ⟨by omega, by omega⟩, ⟨by omega, by omega⟩, ⟨by omega, by omega⟩, ⟨by omega, by omega⟩, ⟨by omega, by omega⟩, ⟨rfl, rfl, rfl⟩, (by (try rw [w258]) <;> (try rw [w259]) <;> (try rw [w260]) <;> (try rw [w261]) <;> (try rw [w262]) <;> (try rw [w263]) <;> (try rw [w264]) <;> (try rw [wg17]) <;> (try rw [wg18]) <;> (try rw [wg19]) <;> (try rw [wg20]) <;> (try rw [wg21]) <;> (try rw [wg22]) <;> (try rw [wg23]) <;> (try rw [wg1]) <;> (try rw [wg2]) <;> (try rw [wg3]) <;> (try rw [wg4]) <;> (try rw [wg5]) <;> (try rw [wg6]) <;> (try rw [wg7]) <;> omega), (by (try rw [w258]) <;> (try rw [w259]) <;> (try rw [w260]) <;> (try rw [w261]) <;> (try rw [w262]) <;> (try rw [w263]) <;> (try rw [w264]) <;> (try rw [wg17]) <;> (try rw [wg18]) <;> (try rw [wg19]) <;> (try rw [wg20]) <;> (try rw [wg21]) <;> (try rw [wg22]) <;> (try rw [wg23]) <;> (try rw [wg1]) <;> (try rw [wg2]) <;> (try rw [wg3]) <;> (try rw [wg4]) <;> (try rw [wg5]) <;> (try rw [wg6]) <;> (try rw [wg7]) <;> omega), ⟨fun h => absurd h (by decide), fun _ => T265⟩, (fun h => O266), (Or.inr (by omega)), (by have h6 := i6; unfold zrm at h6 ⊢; simp only [w258, w259, w260, w261, w262, w263, w264, wg17, wg18, wg19, wg20, wg21, wg22, wg23, wg1, wg2, wg3, wg4, wg5, wg6, wg7] at h6 ⊢; (repeat' split at h6) <;> (repeat' split) <;> omega), (by (try rw [w258]) <;> (try rw [w259]) <;> (try rw [w260]) <;> (try rw [w261]) <;> (try rw [w262]) <;> (try rw [w263]) <;> (try rw [w264]) <;> (try rw [wg17]) <;> (try rw [wg18]) <;> (try rw [wg19]) <;> (try rw [wg20]) <;> (try rw [wg21]) <;> (try rw [wg22]) <;> (try rw [wg23]) <;> (try rw [wg1]) <;> (try rw [wg2]) <;> (try rw [wg3]) <;> (try rw [wg4]) <;> (try rw [wg5]) <;> (try rw [wg6]) <;> (try rw [wg7]) <;> omega), (Or.inr V3), rfl⟩
                · exact And.intro trivial (And.intro ⟨by omega, by omega⟩ (hQ _ _ z196 (by omega) (by omega) (by (try rw [w197]) <;> (try rw [w198]) <;> (try rw [w199]) <;> (try rw [w200]) <;> (try rw [w201]) <;> (try rw [w202]) <;> (try rw [wg203]) <;> (try rw [wg17]) <;> (try rw [wg18]) <;> (try rw [wg19]) <;> (try rw [wg20]) <;> (try rw [wg21]) <;> (try rw [wg22]) <;> (try rw [wg23]) <;> (try rw [wg1]) <;> (try rw [wg2]) <;> (try rw [wg3]) <;> (try rw [wg4]) <;> (try rw [wg5]) <;> (try rw [wg6]) <;> (try rw [wg7]) <;> omega) (by (try rw [w197]) <;> (try rw [w198]) <;> (try rw [w199]) <;> (try rw [w200]) <;> (try rw [w201]) <;> (try rw [w202]) <;> (try rw [wg203]) <;> (try rw [wg17]) <;> (try rw [wg18]) <;> (try rw [wg19]) <;> (try rw [wg20]) <;> (try rw [wg21]) <;> (try rw [wg22]) <;> (try rw [wg23]) <;> (try rw [wg1]) <;> (try rw [wg2]) <;> (try rw [wg3]) <;> (try rw [wg4]) <;> (try rw [wg5]) <;> (try rw [wg6]) <;> (try rw [wg7]) <;> omega) (zTE_of T204.1 (by omega) (by omega)) (by (try rw [w197]) <;> (try rw [w198]) <;> (try rw [w199]) <;> (try rw [w200]) <;> (try rw [w201]) <;> (try rw [w202]) <;> (try rw [wg203]) <;> (try rw [wg17]) <;> (try rw [wg18]) <;> (try rw [wg19]) <;> (try rw [wg20]) <;> (try rw [wg21]) <;> (try rw [wg22]) <;> (try rw [wg23]) <;> (try rw [wg1]) <;> (try rw [wg2]) <;> (try rw [wg3]) <;> (try rw [wg4]) <;> (try rw [wg5]) <;> (try rw [wg6]) <;> (try rw [wg7]) <;> omega) (Or.inr (by have h6 := i6; unfold zrm at h6 ⊢; simp only [w197, w198, w199, w200, w201, w202, wg203, wg17, wg18, wg19, wg20, wg21, wg22, wg23, wg1, wg2, wg3, wg4, wg5, wg6, wg7] at h6 ⊢; (repeat' split at h6) <;> (repeat' split) <;> omega)) (Or.inr ⟨T204.2.1.1, T204.2.1.2, T204.2.2.2.1, (T204.2.2.2.2.1 (by omega)).1, (T204.2.2.2.2.1 (by omega)).2, T204.2.2.2.2.2, zTI_done T204.1 (by omega) T204.2.2.1⟩) (by omega)))
              · clear c191
                refine ⟨zk_X9_fail, zm_X9_fail hg d (by omega), _, rfl, ⟨by omega, by omega⟩, ?_⟩
                intro x267 m268 qm268 kx267 lx267
                have z269 := zfx_t z0 qm268 rfl rfl
                have w270 : m268.1 66 ((31 : Nat) : Int) = g17 := (qm268.2.1 31 rfl).trans wg17
                have w271 : m268.1 66 ((30 : Nat) : Int) = g18 := (qm268.2.1 30 rfl).trans wg18
                have w272 : m268.1 66 ((33 : Nat) : Int) = g19 := (qm268.2.1 33 rfl).trans wg19
                have w273 : m268.1 66 ((34 : Nat) : Int) = g20 := (qm268.2.1 34 rfl).trans wg20
                have w274 : m268.1 66 ((32 : Nat) : Int) = g21 := (qm268.2.1 32 rfl).trans wg21
                have w275 : m268.1 66 ((38 : Nat) : Int) = g22 := (qm268.2.1 38 rfl).trans wg22
                have w276 : m268.1 66 ((8 : Nat) : Int) = g23 := (qm268.2.1 8 rfl).trans wg23
                exact And.intro trivial (And.intro ⟨by omega, by omega⟩ (hQ _ _ z269 (by omega) (by omega) (by (try rw [w270]) <;> (try rw [w271]) <;> (try rw [w272]) <;> (try rw [w273]) <;> (try rw [w274]) <;> (try rw [w275]) <;> (try rw [w276]) <;> (try rw [wg17]) <;> (try rw [wg18]) <;> (try rw [wg19]) <;> (try rw [wg20]) <;> (try rw [wg21]) <;> (try rw [wg22]) <;> (try rw [wg23]) <;> (try rw [wg1]) <;> (try rw [wg2]) <;> (try rw [wg3]) <;> (try rw [wg4]) <;> (try rw [wg5]) <;> (try rw [wg6]) <;> (try rw [wg7]) <;> omega) (by (try rw [w270]) <;> (try rw [w271]) <;> (try rw [w272]) <;> (try rw [w273]) <;> (try rw [w274]) <;> (try rw [w275]) <;> (try rw [w276]) <;> (try rw [wg17]) <;> (try rw [wg18]) <;> (try rw [wg19]) <;> (try rw [wg20]) <;> (try rw [wg21]) <;> (try rw [wg22]) <;> (try rw [wg23]) <;> (try rw [wg1]) <;> (try rw [wg2]) <;> (try rw [wg3]) <;> (try rw [wg4]) <;> (try rw [wg5]) <;> (try rw [wg6]) <;> (try rw [wg7]) <;> omega) (zTE_fr (zTE_of T107 (by omega) (by have := zwb_nn m0 v4; omega)) (fun j a b => qm268.1 j (by omega) (zanyF (by simp <;> omega))) (qm268.2.1 8 rfl) (by (try rw [w270]) <;> (try rw [w271]) <;> (try rw [w272]) <;> (try rw [w273]) <;> (try rw [w274]) <;> (try rw [w275]) <;> (try rw [w276]) <;> (try rw [wg17]) <;> (try rw [wg18]) <;> (try rw [wg19]) <;> (try rw [wg20]) <;> (try rw [wg21]) <;> (try rw [wg22]) <;> (try rw [wg23]) <;> (try rw [wg1]) <;> (try rw [wg2]) <;> (try rw [wg3]) <;> (try rw [wg4]) <;> (try rw [wg5]) <;> (try rw [wg6]) <;> (try rw [wg7]) <;> omega)) (by (try rw [w270]) <;> (try rw [w271]) <;> (try rw [w272]) <;> (try rw [w273]) <;> (try rw [w274]) <;> (try rw [w275]) <;> (try rw [w276]) <;> (try rw [wg17]) <;> (try rw [wg18]) <;> (try rw [wg19]) <;> (try rw [wg20]) <;> (try rw [wg21]) <;> (try rw [wg22]) <;> (try rw [wg23]) <;> (try rw [wg1]) <;> (try rw [wg2]) <;> (try rw [wg3]) <;> (try rw [wg4]) <;> (try rw [wg5]) <;> (try rw [wg6]) <;> (try rw [wg7]) <;> omega) (Or.inl rfl) (Or.inl rfl) (by omega)))
          · refine ⟨zk_X9_fail, zm_X9_fail hg d (by omega), _, rfl, ⟨by omega, by omega⟩, ?_⟩
            intro x277 m278 qm278 kx277 lx277
            have z279 := zfx_t z0 qm278 rfl rfl
            have w280 : m278.1 66 ((31 : Nat) : Int) = g17 := (qm278.2.1 31 rfl).trans wg17
            have w281 : m278.1 66 ((30 : Nat) : Int) = g18 := (qm278.2.1 30 rfl).trans wg18
            have w282 : m278.1 66 ((33 : Nat) : Int) = g19 := (qm278.2.1 33 rfl).trans wg19
            have w283 : m278.1 66 ((34 : Nat) : Int) = g20 := (qm278.2.1 34 rfl).trans wg20
            have w284 : m278.1 66 ((32 : Nat) : Int) = g21 := (qm278.2.1 32 rfl).trans wg21
            have w285 : m278.1 66 ((38 : Nat) : Int) = g22 := (qm278.2.1 38 rfl).trans wg22
            have w286 : m278.1 66 ((8 : Nat) : Int) = g23 := (qm278.2.1 8 rfl).trans wg23
            exact And.intro trivial (And.intro ⟨by omega, by omega⟩ (hQ _ _ z279 (by omega) (by omega) (by (try rw [w280]) <;> (try rw [w281]) <;> (try rw [w282]) <;> (try rw [w283]) <;> (try rw [w284]) <;> (try rw [w285]) <;> (try rw [w286]) <;> (try rw [wg17]) <;> (try rw [wg18]) <;> (try rw [wg19]) <;> (try rw [wg20]) <;> (try rw [wg21]) <;> (try rw [wg22]) <;> (try rw [wg23]) <;> (try rw [wg1]) <;> (try rw [wg2]) <;> (try rw [wg3]) <;> (try rw [wg4]) <;> (try rw [wg5]) <;> (try rw [wg6]) <;> (try rw [wg7]) <;> omega) (by (try rw [w280]) <;> (try rw [w281]) <;> (try rw [w282]) <;> (try rw [w283]) <;> (try rw [w284]) <;> (try rw [w285]) <;> (try rw [w286]) <;> (try rw [wg17]) <;> (try rw [wg18]) <;> (try rw [wg19]) <;> (try rw [wg20]) <;> (try rw [wg21]) <;> (try rw [wg22]) <;> (try rw [wg23]) <;> (try rw [wg1]) <;> (try rw [wg2]) <;> (try rw [wg3]) <;> (try rw [wg4]) <;> (try rw [wg5]) <;> (try rw [wg6]) <;> (try rw [wg7]) <;> omega) (zTE_fr (zTE_of T107 (by omega) (by have := zwb_nn m0 v4; omega)) (fun j a b => qm278.1 j (by omega) (zanyF (by simp <;> omega))) (qm278.2.1 8 rfl) (by (try rw [w280]) <;> (try rw [w281]) <;> (try rw [w282]) <;> (try rw [w283]) <;> (try rw [w284]) <;> (try rw [w285]) <;> (try rw [w286]) <;> (try rw [wg17]) <;> (try rw [wg18]) <;> (try rw [wg19]) <;> (try rw [wg20]) <;> (try rw [wg21]) <;> (try rw [wg22]) <;> (try rw [wg23]) <;> (try rw [wg1]) <;> (try rw [wg2]) <;> (try rw [wg3]) <;> (try rw [wg4]) <;> (try rw [wg5]) <;> (try rw [wg6]) <;> (try rw [wg7]) <;> omega)) (by (try rw [w280]) <;> (try rw [w281]) <;> (try rw [w282]) <;> (try rw [w283]) <;> (try rw [w284]) <;> (try rw [w285]) <;> (try rw [w286]) <;> (try rw [wg17]) <;> (try rw [wg18]) <;> (try rw [wg19]) <;> (try rw [wg20]) <;> (try rw [wg21]) <;> (try rw [wg22]) <;> (try rw [wg23]) <;> (try rw [wg1]) <;> (try rw [wg2]) <;> (try rw [wg3]) <;> (try rw [wg4]) <;> (try rw [wg5]) <;> (try rw [wg6]) <;> (try rw [wg7]) <;> omega) (Or.inl rfl) (Or.inl rfl) (by omega)))
      · have T287 := i3.2 (by assumption)
        have O288 := i4 (by omega)
        have V3 : v3 = 0 := by omega
        clear i3 i4 i8
        intro x289 hx289 kx289 lx289
        rw [wg21] at hx289
        refine And.intro ⟨⟨by omega, by omega⟩, ⟨by omega, by omega⟩⟩ (And.intro (fun c290 => ?_) (fun c290 => ?_))
        · clear c290
          refine And.intro ⟨by omega, by omega⟩ (And.intro ⟨by omega, by omega⟩ ?_)
          intro m291 em291
          have z292 := zfx_r z0 em291 rfl (by decide)
          have w293 : m291.1 66 ((31 : Nat) : Int) = g17 := by rw [em291]; exact (congrFun (zu_ne (by decide)) _).trans wg17
          have w294 : m291.1 66 ((30 : Nat) : Int) = g18 := by rw [em291]; exact (congrFun (zu_ne (by decide)) _).trans wg18
          have w295 : m291.1 66 ((33 : Nat) : Int) = g19 := by rw [em291]; exact (congrFun (zu_ne (by decide)) _).trans wg19
          have w296 : m291.1 66 ((34 : Nat) : Int) = g20 := by rw [em291]; exact (congrFun (zu_ne (by decide)) _).trans wg20
          have w297 : m291.1 66 ((32 : Nat) : Int) = g21 := by rw [em291]; exact (congrFun (zu_ne (by decide)) _).trans wg21
          have w298 : m291.1 66 ((38 : Nat) : Int) = g22 := by rw [em291]; exact (congrFun (zu_ne (by decide)) _).trans wg22
          have w299 : m291.1 66 ((8 : Nat) : Int) = g23 := by rw [em291]; exact (congrFun (zu_ne (by decide)) _).trans wg23
          have T300 := zTI_push T287 hv4.1 em291 rfl (Or.inl rfl) (fun a b => by omega) O288
          refine Exists.intro (zrT m291 0) (And.intro (zrT_st (by unfold zrm; simp only [w293, w294, w295, w296, w297, w298, w299, wg17, wg18, wg19, wg20, wg21, wg22, wg23, wg1, wg2, wg3, wg4, wg5, wg6, wg7]) (zrm_0 (by (try rw [w293]) <;> (try rw [w294]) <;> (try rw [w295]) <;> (try rw [w296]) <;> (try rw [w297]) <;> (try rw [w298]) <;> (try rw [w299]) <;> (try rw [wg17]) <;> (try rw [wg18]) <;> (try rw [wg19]) <;> (try rw [wg20]) <;> (try rw [wg21]) <;> (try rw [wg22]) <;> (try rw [wg23]) <;> (try rw [wg1]) <;> (try rw [wg2]) <;> (try rw [wg3]) <;> (try rw [wg4]) <;> (try rw [wg5]) <;> (try rw [wg6]) <;> (try rw [wg7]) <;> omega)) (by omega) (by omega)) ?_)
          exact ⟨_, _, _, _, _, rfl, z292, ⟨by omega, by omega⟩, ⟨by omega, by omega⟩, ⟨by omega, by omega⟩, ⟨by omega, by omega⟩, ⟨by omega, by omega⟩, ⟨rfl, rfl, rfl⟩, (by (try rw [w293]) <;> (try rw [w294]) <;> (try rw [w295]) <;> (try rw [w296]) <;> (try rw [w297]) <;> (try rw [w298]) <;> (try rw [w299]) <;> (try rw [wg17]) <;> (try rw [wg18]) <;> (try rw [wg19]) <;> (try rw [wg20]) <;> (try rw [wg21]) <;> (try rw [wg22]) <;> (try rw [wg23]) <;> (try rw [wg1]) <;> (try rw [wg2]) <;> (try rw [wg3]) <;> (try rw [wg4]) <;> (try rw [wg5]) <;> (try rw [wg6]) <;> (try rw [wg7]) <;> omega), (by (try rw [w293]) <;> (try rw [w294]) <;> (try rw [w295]) <;> (try rw [w296]) <;> (try rw [w297]) <;> (try rw [w298]) <;> (try rw [w299]) <;> (try rw [wg17]) <;> (try rw [wg18]) <;> (try rw [wg19]) <;> (try rw [wg20]) <;> (try rw [wg21]) <;> (try rw [wg22]) <;> (try rw [wg23]) <;> (try rw [wg1]) <;> (try rw [wg2]) <;> (try rw [wg3]) <;> (try rw [wg4]) <;> (try rw [wg5]) <;> (try rw [wg6]) <;> (try rw [wg7]) <;> omega), ⟨fun _ => zTI_w0 T300 (by rw [em291]; exact zu_at), fun h => absurd rfl h⟩, (fun h => absurd h (by decide)), (Or.inl rfl), (by have h6 := i6; unfold zrm at h6 ⊢; simp only [w293, w294, w295, w296, w297, w298, w299, wg17, wg18, wg19, wg20, wg21, wg22, wg23, wg1, wg2, wg3, wg4, wg5, wg6, wg7] at h6 ⊢; (repeat' split at h6) <;> (repeat' split) <;> omega), (by (try rw [w293]) <;> (try rw [w294]) <;> (try rw [w295]) <;> (try rw [w296]) <;> (try rw [w297]) <;> (try rw [w298]) <;> (try rw [w299]) <;> (try rw [wg17]) <;> (try rw [wg18]) <;> (try rw [wg19]) <;> (try rw [wg20]) <;> (try rw [wg21]) <;> (try rw [wg22]) <;> (try rw [wg23]) <;> (try rw [wg1]) <;> (try rw [wg2]) <;> (try rw [wg3]) <;> (try rw [wg4]) <;> (try rw [wg5]) <;> (try rw [wg6]) <;> (try rw [wg7]) <;> omega), (Or.inr V3), rfl⟩
        · intro x301 hx301 kx301 lx301
          rw [wg22] at hx301
          refine And.intro ⟨⟨by omega, by omega⟩, ⟨by omega, by omega⟩⟩ (And.intro (fun c302 => ?_) (fun c302 => ?_))
          · refine And.intro ⟨⟨by omega, by omega⟩, ⟨by omega, by omega⟩⟩ (And.intro (fun c303 => ?_) (fun c303 => ?_))
            · intro x304 hx304 kx304 lx304
              rw [wg22] at hx304
              refine And.intro ⟨by omega, by omega⟩ ?_
              intro m305 em305
              have z306 := zfx_f z0 em305 rfl
              have w307 : m305.1 66 ((31 : Nat) : Int) = g17 := by rw [em305]; exact (zu_nk (by decide)).trans wg17
              have w308 : m305.1 66 ((30 : Nat) : Int) = g18 := by rw [em305]; exact (zu_nk (by decide)).trans wg18
              have w309 : m305.1 66 ((33 : Nat) : Int) = g19 := by rw [em305]; exact (zu_nk (by decide)).trans wg19
              have w310 : m305.1 66 ((34 : Nat) : Int) = g20 := by rw [em305]; exact (zu_nk (by decide)).trans wg20
              have w311 : m305.1 66 ((32 : Nat) : Int) = g21 := by rw [em305]; exact (zu_nk (by decide)).trans wg21
              have w312 : m305.1 66 ((38 : Nat) : Int) = (x304 + 1) := by rw [em305]; exact zu_at
              have w313 : m305.1 66 ((8 : Nat) : Int) = g23 := by rw [em305]; exact (zu_nk (by decide)).trans wg23
              have T314 := zTI_n1 (m' := m305) T287 (fun j a b => by rw [em305, zu_ne (by omega)]) (fun j a b => by rw [em305, zu_ne (by omega)]) (by show m305.1 66 ((8 : Nat) : Int) = m0.1 66 ((8 : Nat) : Int); rw [em305]; exact zu_nk (by decide)) (by (try rw [w307]) <;> (try rw [w308]) <;> (try rw [w309]) <;> (try rw [w310]) <;> (try rw [w311]) <;> (try rw [w312]) <;> (try rw [w313]) <;> (try rw [wg17]) <;> (try rw [wg18]) <;> (try rw [wg19]) <;> (try rw [wg20]) <;> (try rw [wg21]) <;> (try rw [wg22]) <;> (try rw [wg23]) <;> (try rw [wg1]) <;> (try rw [wg2]) <;> (try rw [wg3]) <;> (try rw [wg4]) <;> (try rw [wg5]) <;> (try rw [wg6]) <;> (try rw [wg7]) <;> omega)
              have O315 : m305.1 100 v4 = 0 := by rw [em305, zu_ne (by decide)]; exact O288
              refine ⟨zk_X9_pass, zm_X9_pass hg d (by omega), rfl, (by (try rw [w307]) <;> (try rw [w308]) <;> (try rw [w309]) <;> (try rw [w310]) <;> (try rw [w311]) <;> (try rw [w312]) <;> (try rw [w313]) <;> (try rw [wg17]) <;> (try rw [wg18]) <;> (try rw [wg19]) <;> (try rw [wg20]) <;> (try rw [wg21]) <;> (try rw [wg22]) <;> (try rw [wg23]) <;> (try rw [wg1]) <;> (try rw [wg2]) <;> (try rw [wg3]) <;> (try rw [wg4]) <;> (try rw [wg5]) <;> (try rw [wg6]) <;> (try rw [wg7]) <;> omega), ?_⟩
              intro m316 qm316 p317 p318 p319 p320
              have z321 := zfx_t z306 qm316 rfl rfl
              have w322 : m316.1 66 ((30 : Nat) : Int) = g18 := (qm316.2.1 30 rfl).trans w308
              have w323 : m316.1 66 ((38 : Nat) : Int) = (x304 + 1) := (qm316.2.1 38 rfl).trans w312
              have w324 : m316.1 66 ((8 : Nat) : Int) = g23 := (qm316.2.1 8 rfl).trans w313
              obtain ⟨g325, wg325⟩ : ∃ z : Int, m316.1 66 ((31 : Nat) : Int) = z := ⟨_, rfl⟩
              obtain ⟨g326, wg326⟩ : ∃ z : Int, m316.1 66 ((33 : Nat) : Int) = z := ⟨_, rfl⟩
              obtain ⟨g327, wg327⟩ : ∃ z : Int, m316.1 66 ((34 : Nat) : Int) = z := ⟨_, rfl⟩
              obtain ⟨g328, wg328⟩ : ∃ z : Int, m316.1 66 ((32 : Nat) : Int) = z := ⟨_, rfl⟩
              try rw [wg325] at p317
              try rw [w322] at p317
              try rw [wg326] at p317
              try rw [wg327] at p317
              try rw [wg328] at p317
              try rw [w323] at p317
              try rw [w324] at p317
              try rw [w307] at p317
              try rw [w308] at p317
              try rw [w309] at p317
              try rw [w310] at p317
              try rw [w311] at p317
              try rw [w312] at p317
              try rw [w313] at p317
              try rw [wg1] at p317
              try rw [wg2] at p317
              try rw [wg3] at p317
              try rw [wg4] at p317
              try rw [wg5] at p317
              try rw [wg6] at p317
              try rw [wg7] at p317
              try rw [wg325] at p318
              try rw [w322] at p318
              try rw [wg326] at p318
              try rw [wg327] at p318
              try rw [wg328] at p318
              try rw [w323] at p318
              try rw [w324] at p318
              try rw [w307] at p318
              try rw [w308] at p318
              try rw [w309] at p318
              try rw [w310] at p318
              try rw [w311] at p318
              try rw [w312] at p318
              try rw [w313] at p318
              try rw [wg1] at p318
              try rw [wg2] at p318
              try rw [wg3] at p318
              try rw [wg4] at p318
              try rw [wg5] at p318
              try rw [wg6] at p318
              try rw [wg7] at p318
              try rw [wg325] at p319
              try rw [w322] at p319
              try rw [wg326] at p319
              try rw [wg327] at p319
              try rw [wg328] at p319
              try rw [w323] at p319
              try rw [w324] at p319
              try rw [w307] at p319
              try rw [w308] at p319
              try rw [w309] at p319
              try rw [w310] at p319
              try rw [w311] at p319
              try rw [w312] at p319
              try rw [w313] at p319
              try rw [wg1] at p319
              try rw [wg2] at p319
              try rw [wg3] at p319
              try rw [wg4] at p319
              try rw [wg5] at p319
              try rw [wg6] at p319
              try rw [wg7] at p319
              try rw [wg325] at p320
              try rw [w322] at p320
              try rw [wg326] at p320
              try rw [wg327] at p320
              try rw [wg328] at p320
              try rw [w323] at p320
              try rw [w324] at p320
              try rw [w307] at p320
              try rw [w308] at p320
              try rw [w309] at p320
              try rw [w310] at p320
              try rw [w311] at p320
              try rw [w312] at p320
              try rw [w313] at p320
              try rw [wg1] at p320
              try rw [wg2] at p320
              try rw [wg3] at p320
              try rw [wg4] at p320
              try rw [wg5] at p320
              try rw [wg6] at p320
              try rw [wg7] at p320
              clear w307 w308 w309 w310 w311 w312 w313
              have T329 := zTI_fr0 T314 (fun j a b => qm316.1 j (by omega) (zanyF (by simp <;> omega))) (fun j a b => qm316.1 j (by omega) (zanyF (by simp <;> omega))) (qm316.2.1 8 rfl) (qm316.2.1 38 rfl)
              have O330 : m316.1 100 v4 = 0 := by rw [qm316.1 100 (by decide) rfl]; exact O315
              intro x331 hx331 kx331 lx331
              rw [wg328] at hx331
              refine And.intro ⟨⟨by omega, by omega⟩, ⟨by omega, by omega⟩⟩ (And.intro (fun c332 => ?_) (fun c332 => ?_))
              · intro x333 hx333 kx333 lx333
                rw [wg328] at hx333
                refine And.intro ⟨⟨by omega, by omega⟩, ⟨by omega, by omega⟩⟩ (And.intro (fun c334 => ?_) (fun c334 => ?_))
                · clear c334
                  refine And.intro ⟨by omega, by omega⟩ (And.intro ⟨by omega, by omega⟩ ?_)
                  intro m335 em335
                  have z336 := zfx_r z321 em335 rfl (by decide)
                  have w337 : m335.1 66 ((31 : Nat) : Int) = g325 := by rw [em335]; exact (congrFun (zu_ne (by decide)) _).trans wg325
                  have w338 : m335.1 66 ((30 : Nat) : Int) = g18 := by rw [em335]; exact (congrFun (zu_ne (by decide)) _).trans w322
                  have w339 : m335.1 66 ((33 : Nat) : Int) = g326 := by rw [em335]; exact (congrFun (zu_ne (by decide)) _).trans wg326
                  have w340 : m335.1 66 ((34 : Nat) : Int) = g327 := by rw [em335]; exact (congrFun (zu_ne (by decide)) _).trans wg327
                  have w341 : m335.1 66 ((32 : Nat) : Int) = g328 := by rw [em335]; exact (congrFun (zu_ne (by decide)) _).trans wg328
                  have w342 : m335.1 66 ((38 : Nat) : Int) = (x304 + 1) := by rw [em335]; exact (congrFun (zu_ne (by decide)) _).trans w323
                  have w343 : m335.1 66 ((8 : Nat) : Int) = g23 := by rw [em335]; exact (congrFun (zu_ne (by decide)) _).trans w324
                  clear wg325 w322 wg326 wg327 wg328 w323 w324
                  have T344 := zTI_push T329 hv4.1 em335 rfl (Or.inr (Or.inr rfl)) (fun a b => by omega) O330
                  refine ⟨zk_X9_pass, zm_X9_pass hg d (by omega), rfl, (by (try rw [w337]) <;> (try rw [w338]) <;> (try rw [w339]) <;> (try rw [w340]) <;> (try rw [w341]) <;> (try rw [w342]) <;> (try rw [w343]) <;> (try rw [wg17]) <;> (try rw [wg18]) <;> (try rw [wg19]) <;> (try rw [wg20]) <;> (try rw [wg21]) <;> (try rw [wg22]) <;> (try rw [wg23]) <;> (try rw [wg1]) <;> (try rw [wg2]) <;> (try rw [wg3]) <;> (try rw [wg4]) <;> (try rw [wg5]) <;> (try rw [wg6]) <;> (try rw [wg7]) <;> omega), ?_⟩
                  intro m345 qm345 p346 p347 p348 p349
                  have z350 := zfx_t z336 qm345 rfl rfl
                  have w351 : m345.1 66 ((30 : Nat) : Int) = g18 := (qm345.2.1 30 rfl).trans w338
                  have w352 : m345.1 66 ((38 : Nat) : Int) = (x304 + 1) := (qm345.2.1 38 rfl).trans w342
                  have w353 : m345.1 66 ((8 : Nat) : Int) = g23 := (qm345.2.1 8 rfl).trans w343
                  obtain ⟨g354, wg354⟩ : ∃ z : Int, m345.1 66 ((31 : Nat) : Int) = z := ⟨_, rfl⟩
                  obtain ⟨g355, wg355⟩ : ∃ z : Int, m345.1 66 ((33 : Nat) : Int) = z := ⟨_, rfl⟩
                  obtain ⟨g356, wg356⟩ : ∃ z : Int, m345.1 66 ((34 : Nat) : Int) = z := ⟨_, rfl⟩
                  obtain ⟨g357, wg357⟩ : ∃ z : Int, m345.1 66 ((32 : Nat) : Int) = z := ⟨_, rfl⟩
                  try rw [wg354] at p346
                  try rw [w351] at p346
                  try rw [wg355] at p346
                  try rw [wg356] at p346
                  try rw [wg357] at p346
                  try rw [w352] at p346
                  try rw [w353] at p346
                  try rw [w337] at p346
                  try rw [w338] at p346
                  try rw [w339] at p346
                  try rw [w340] at p346
                  try rw [w341] at p346
                  try rw [w342] at p346
                  try rw [w343] at p346
                  try rw [wg1] at p346
                  try rw [wg2] at p346
                  try rw [wg3] at p346
                  try rw [wg4] at p346
                  try rw [wg5] at p346
                  try rw [wg6] at p346
                  try rw [wg7] at p346
                  try rw [wg354] at p347
                  try rw [w351] at p347
                  try rw [wg355] at p347
                  try rw [wg356] at p347
                  try rw [wg357] at p347
                  try rw [w352] at p347
                  try rw [w353] at p347
                  try rw [w337] at p347
                  try rw [w338] at p347
                  try rw [w339] at p347
                  try rw [w340] at p347
                  try rw [w341] at p347
                  try rw [w342] at p347
                  try rw [w343] at p347
                  try rw [wg1] at p347
                  try rw [wg2] at p347
                  try rw [wg3] at p347
                  try rw [wg4] at p347
                  try rw [wg5] at p347
                  try rw [wg6] at p347
                  try rw [wg7] at p347
                  try rw [wg354] at p348
                  try rw [w351] at p348
                  try rw [wg355] at p348
                  try rw [wg356] at p348
                  try rw [wg357] at p348
                  try rw [w352] at p348
                  try rw [w353] at p348
                  try rw [w337] at p348
                  try rw [w338] at p348
                  try rw [w339] at p348
                  try rw [w340] at p348
                  try rw [w341] at p348
                  try rw [w342] at p348
                  try rw [w343] at p348
                  try rw [wg1] at p348
                  try rw [wg2] at p348
                  try rw [wg3] at p348
                  try rw [wg4] at p348
                  try rw [wg5] at p348
                  try rw [wg6] at p348
                  try rw [wg7] at p348
                  try rw [wg354] at p349
                  try rw [w351] at p349
                  try rw [wg355] at p349
                  try rw [wg356] at p349
                  try rw [wg357] at p349
                  try rw [w352] at p349
                  try rw [w353] at p349
                  try rw [w337] at p349
                  try rw [w338] at p349
                  try rw [w339] at p349
                  try rw [w340] at p349
                  try rw [w341] at p349
                  try rw [w342] at p349
                  try rw [w343] at p349
                  try rw [wg1] at p349
                  try rw [wg2] at p349
                  try rw [wg3] at p349
                  try rw [wg4] at p349
                  try rw [wg5] at p349
                  try rw [wg6] at p349
                  try rw [wg7] at p349
                  clear w337 w338 w339 w340 w341 w342 w343
                  have T358 := zTI_fr0 T344 (fun j a b => qm345.1 j (by omega) (zanyF (by simp <;> omega))) (fun j a b => qm345.1 j (by omega) (zanyF (by simp <;> omega))) (qm345.2.1 8 rfl) (qm345.2.1 38 rfl)
                  refine Exists.intro (zrT m345 0) (And.intro (zrT_lt (by unfold zrm; simp only [wg354, w351, wg355, wg356, wg357, w352, w353, wg17, wg18, wg19, wg20, wg21, wg22, wg23, wg1, wg2, wg3, wg4, wg5, wg6, wg7]; (repeat' split) <;> omega) (zrm_0 (by (try rw [wg354]) <;> (try rw [w351]) <;> (try rw [wg355]) <;> (try rw [wg356]) <;> (try rw [wg357]) <;> (try rw [w352]) <;> (try rw [w353]) <;> (try rw [wg17]) <;> (try rw [wg18]) <;> (try rw [wg19]) <;> (try rw [wg20]) <;> (try rw [wg21]) <;> (try rw [wg22]) <;> (try rw [wg23]) <;> (try rw [wg1]) <;> (try rw [wg2]) <;> (try rw [wg3]) <;> (try rw [wg4]) <;> (try rw [wg5]) <;> (try rw [wg6]) <;> (try rw [wg7]) <;> omega))) ?_)
                  exact ⟨_, _, _, _, _, rfl, z350, ⟨by omega, by omega⟩, ⟨by omega, by omega⟩, ⟨by omega, by omega⟩, ⟨by omega, by omega⟩, ⟨by omega, by omega⟩, ⟨rfl, rfl, rfl⟩, (by (try rw [wg354]) <;> (try rw [w351]) <;> (try rw [wg355]) <;> (try rw [wg356]) <;> (try rw [wg357]) <;> (try rw [w352]) <;> (try rw [w353]) <;> (try rw [wg17]) <;> (try rw [wg18]) <;> (try rw [wg19]) <;> (try rw [wg20]) <;> (try rw [wg21]) <;> (try rw [wg22]) <;> (try rw [wg23]) <;> (try rw [wg1]) <;> (try rw [wg2]) <;> (try rw [wg3]) <;> (try rw [wg4]) <;> (try rw [wg5]) <;> (try rw [wg6]) <;> (try rw [wg7]) <;> omega), (by (try rw [wg354]) <;> (try rw [w351]) <;> (try rw [wg355]) <;> (try rw [wg356]) <;> (try rw [wg357]) <;> (try rw [w352]) <;> (try rw [w353]) <;> (try rw [wg17]) <;> (try rw [wg18]) <;> (try rw [wg19]) <;> (try rw [wg20]) <;> (try rw [wg21]) <;> (try rw [wg22]) <;> (try rw [wg23]) <;> (try rw [wg1]) <;> (try rw [wg2]) <;> (try rw [wg3]) <;> (try rw [wg4]) <;> (try rw [wg5]) <;> (try rw [wg6]) <;> (try rw [wg7]) <;> omega), ⟨fun _ => zTI_w1 T358 (by rw [qm345.1 104 (by decide) rfl, em335, zu_at]; decide), fun h => absurd rfl h⟩, (fun h => absurd h (by decide)), (Or.inl rfl), (by have h6 := i6; unfold zrm at h6 ⊢; simp only [wg354, w351, wg355, wg356, wg357, w352, w353, wg17, wg18, wg19, wg20, wg21, wg22, wg23, wg1, wg2, wg3, wg4, wg5, wg6, wg7] at h6 ⊢; (repeat' split at h6) <;> (repeat' split) <;> omega), (by (try rw [wg354]) <;> (try rw [w351]) <;> (try rw [wg355]) <;> (try rw [wg356]) <;> (try rw [wg357]) <;> (try rw [w352]) <;> (try rw [w353]) <;> (try rw [wg17]) <;> (try rw [wg18]) <;> (try rw [wg19]) <;> (try rw [wg20]) <;> (try rw [wg21]) <;> (try rw [wg22]) <;> (try rw [wg23]) <;> (try rw [wg1]) <;> (try rw [wg2]) <;> (try rw [wg3]) <;> (try rw [wg4]) <;> (try rw [wg5]) <;> (try rw [wg6]) <;> (try rw [wg7]) <;> omega), (Or.inr V3), rfl⟩
                · refine And.intro ⟨by omega, by omega⟩ (And.intro ⟨by omega, by omega⟩ ?_)
                  intro m359 em359
                  have z360 := zfx_r z321 em359 rfl (by decide)
                  have w361 : m359.1 66 ((31 : Nat) : Int) = g325 := by rw [em359]; exact (congrFun (zu_ne (by decide)) _).trans wg325
                  have w362 : m359.1 66 ((30 : Nat) : Int) = g18 := by rw [em359]; exact (congrFun (zu_ne (by decide)) _).trans w322
                  have w363 : m359.1 66 ((33 : Nat) : Int) = g326 := by rw [em359]; exact (congrFun (zu_ne (by decide)) _).trans wg326
                  have w364 : m359.1 66 ((34 : Nat) : Int) = g327 := by rw [em359]; exact (congrFun (zu_ne (by decide)) _).trans wg327
                  have w365 : m359.1 66 ((32 : Nat) : Int) = g328 := by rw [em359]; exact (congrFun (zu_ne (by decide)) _).trans wg328
                  have w366 : m359.1 66 ((38 : Nat) : Int) = (x304 + 1) := by rw [em359]; exact (congrFun (zu_ne (by decide)) _).trans w323
                  have w367 : m359.1 66 ((8 : Nat) : Int) = g23 := by rw [em359]; exact (congrFun (zu_ne (by decide)) _).trans w324
                  clear wg325 w322 wg326 wg327 wg328 w323 w324
                  have T368 := zTI_push T329 hv4.1 em359 rfl (Or.inr (Or.inl rfl)) (fun a b => by omega) O330
                  refine ⟨zk_X9_pass, zm_X9_pass hg d (by omega), rfl, (by (try rw [w361]) <;> (try rw [w362]) <;> (try rw [w363]) <;> (try rw [w364]) <;> (try rw [w365]) <;> (try rw [w366]) <;> (try rw [w367]) <;> (try rw [wg17]) <;> (try rw [wg18]) <;> (try rw [wg19]) <;> (try rw [wg20]) <;> (try rw [wg21]) <;> (try rw [wg22]) <;> (try rw [wg23]) <;> (try rw [wg1]) <;> (try rw [wg2]) <;> (try rw [wg3]) <;> (try rw [wg4]) <;> (try rw [wg5]) <;> (try rw [wg6]) <;> (try rw [wg7]) <;> omega), ?_⟩
                  intro m369 qm369 p370 p371 p372 p373
                  have z374 := zfx_t z360 qm369 rfl rfl
                  have w375 : m369.1 66 ((30 : Nat) : Int) = g18 := (qm369.2.1 30 rfl).trans w362
                  have w376 : m369.1 66 ((38 : Nat) : Int) = (x304 + 1) := (qm369.2.1 38 rfl).trans w366
                  have w377 : m369.1 66 ((8 : Nat) : Int) = g23 := (qm369.2.1 8 rfl).trans w367
                  obtain ⟨g378, wg378⟩ : ∃ z : Int, m369.1 66 ((31 : Nat) : Int) = z := ⟨_, rfl⟩
                  obtain ⟨g379, wg379⟩ : ∃ z : Int, m369.1 66 ((33 : Nat) : Int) = z := ⟨_, rfl⟩
                  obtain ⟨g380, wg380⟩ : ∃ z : Int, m369.1 66 ((34 : Nat) : Int) = z := ⟨_, rfl⟩
                  obtain ⟨g381, wg381⟩ : ∃ z : Int, m369.1 66 ((32 : Nat) : Int) = z := ⟨_, rfl⟩
                  try rw [wg378] at p370
                  try rw [w375] at p370
                  try rw [wg379] at p370
                  try rw [wg380] at p370
                  try rw [wg381] at p370
                  try rw [w376] at p370
                  try rw [w377] at p370
                  try rw [w361] at p370
                  try rw [w362] at p370
                  try rw [w363] at p370
                  try rw [w364] at p370
                  try rw [w365] at p370
                  try rw [w366] at p370
                  try rw [w367] at p370
                  try rw [wg1] at p370
                  try rw [wg2] at p370
                  try rw [wg3] at p370
                  try rw [wg4] at p370
                  try rw [wg5] at p370
                  try rw [wg6] at p370
                  try rw [wg7] at p370
                  try rw [wg378] at p371
                  try rw [w375] at p371
                  try rw [wg379] at p371
                  try rw [wg380] at p371
                  try rw [wg381] at p371
                  try rw [w376] at p371
                  try rw [w377] at p371
                  try rw [w361] at p371
                  try rw [w362] at p371
                  try rw [w363] at p371
                  try rw [w364] at p371
                  try rw [w365] at p371
                  try rw [w366] at p371
                  try rw [w367] at p371
                  try rw [wg1] at p371
                  try rw [wg2] at p371
                  try rw [wg3] at p371
                  try rw [wg4] at p371
                  try rw [wg5] at p371
                  try rw [wg6] at p371
                  try rw [wg7] at p371
                  try rw [wg378] at p372
                  try rw [w375] at p372
                  try rw [wg379] at p372
                  try rw [wg380] at p372
                  try rw [wg381] at p372
                  try rw [w376] at p372
                  try rw [w377] at p372
                  try rw [w361] at p372
                  try rw [w362] at p372
                  try rw [w363] at p372
                  try rw [w364] at p372
                  try rw [w365] at p372
                  try rw [w366] at p372
                  try rw [w367] at p372
                  try rw [wg1] at p372
                  try rw [wg2] at p372
                  try rw [wg3] at p372
                  try rw [wg4] at p372
                  try rw [wg5] at p372
                  try rw [wg6] at p372
                  try rw [wg7] at p372
                  try rw [wg378] at p373
                  try rw [w375] at p373
                  try rw [wg379] at p373
                  try rw [wg380] at p373
                  try rw [wg381] at p373
                  try rw [w376] at p373
                  try rw [w377] at p373
                  try rw [w361] at p373
                  try rw [w362] at p373
                  try rw [w363] at p373
                  try rw [w364] at p373
                  try rw [w365] at p373
                  try rw [w366] at p373
                  try rw [w367] at p373
                  try rw [wg1] at p373
                  try rw [wg2] at p373
                  try rw [wg3] at p373
                  try rw [wg4] at p373
                  try rw [wg5] at p373
                  try rw [wg6] at p373
                  try rw [wg7] at p373
                  clear w361 w362 w363 w364 w365 w366 w367
                  have T382 := zTI_fr0 T368 (fun j a b => qm369.1 j (by omega) (zanyF (by simp <;> omega))) (fun j a b => qm369.1 j (by omega) (zanyF (by simp <;> omega))) (qm369.2.1 8 rfl) (qm369.2.1 38 rfl)
                  refine Exists.intro (zrT m369 0) (And.intro (zrT_lt (by unfold zrm; simp only [wg378, w375, wg379, wg380, wg381, w376, w377, wg17, wg18, wg19, wg20, wg21, wg22, wg23, wg1, wg2, wg3, wg4, wg5, wg6, wg7]; (repeat' split) <;> omega) (zrm_0 (by (try rw [wg378]) <;> (try rw [w375]) <;> (try rw [wg379]) <;> (try rw [wg380]) <;> (try rw [wg381]) <;> (try rw [w376]) <;> (try rw [w377]) <;> (try rw [wg17]) <;> (try rw [wg18]) <;> (try rw [wg19]) <;> (try rw [wg20]) <;> (try rw [wg21]) <;> (try rw [wg22]) <;> (try rw [wg23]) <;> (try rw [wg1]) <;> (try rw [wg2]) <;> (try rw [wg3]) <;> (try rw [wg4]) <;> (try rw [wg5]) <;> (try rw [wg6]) <;> (try rw [wg7]) <;> omega))) ?_)
                  exact ⟨_, _, _, _, _, rfl, z374, ⟨by omega, by omega⟩, ⟨by omega, by omega⟩, ⟨by omega, by omega⟩, ⟨by omega, by omega⟩, ⟨by omega, by omega⟩, ⟨rfl, rfl, rfl⟩, (by (try rw [wg378]) <;> (try rw [w375]) <;> (try rw [wg379]) <;> (try rw [wg380]) <;> (try rw [wg381]) <;> (try rw [w376]) <;> (try rw [w377]) <;> (try rw [wg17]) <;> (try rw [wg18]) <;> (try rw [wg19]) <;> (try rw [wg20]) <;> (try rw [wg21]) <;> (try rw [wg22]) <;> (try rw [wg23]) <;> (try rw [wg1]) <;> (try rw [wg2]) <;> (try rw [wg3]) <;> (try rw [wg4]) <;> (try rw [wg5]) <;> (try rw [wg6]) <;> (try rw [wg7]) <;> omega), (by (try rw [wg378]) <;> (try rw [w375]) <;> (try rw [wg379]) <;> (try rw [wg380]) <;> (try rw [wg381]) <;> (try rw [w376]) <;> (try rw [w377]) <;> (try rw [wg17]) <;> (try rw [wg18]) <;> (try rw [wg19]) <;> (try rw [wg20]) <;> (try rw [wg21]) <;> (try rw [wg22]) <;> (try rw [wg23]) <;> (try rw [wg1]) <;> (try rw [wg2]) <;> (try rw [wg3]) <;> (try rw [wg4]) <;> (try rw [wg5]) <;> (try rw [wg6]) <;> (try rw [wg7]) <;> omega), ⟨fun _ => zTI_w1 T382 (by rw [qm369.1 104 (by decide) rfl, em359, zu_at]; decide), fun h => absurd rfl h⟩, (fun h => absurd h (by decide)), (Or.inl rfl), (by have h6 := i6; unfold zrm at h6 ⊢; simp only [wg378, w375, wg379, wg380, wg381, w376, w377, wg17, wg18, wg19, wg20, wg21, wg22, wg23, wg1, wg2, wg3, wg4, wg5, wg6, wg7] at h6 ⊢; (repeat' split at h6) <;> (repeat' split) <;> omega), (by (try rw [wg378]) <;> (try rw [w375]) <;> (try rw [wg379]) <;> (try rw [wg380]) <;> (try rw [wg381]) <;> (try rw [w376]) <;> (try rw [w377]) <;> (try rw [wg17]) <;> (try rw [wg18]) <;> (try rw [wg19]) <;> (try rw [wg20]) <;> (try rw [wg21]) <;> (try rw [wg22]) <;> (try rw [wg23]) <;> (try rw [wg1]) <;> (try rw [wg2]) <;> (try rw [wg3]) <;> (try rw [wg4]) <;> (try rw [wg5]) <;> (try rw [wg6]) <;> (try rw [wg7]) <;> omega), (Or.inr V3), rfl⟩
              · clear c332
                intro x383 hx383 kx383 lx383
                rw [wg328] at hx383
                refine And.intro ⟨⟨by omega, by omega⟩, ⟨by omega, by omega⟩⟩ (And.intro (fun c384 => ?_) (fun c384 => ?_))
                · clear c384
                  refine ⟨zk_X9_make, zm_X9_make hg d (by omega), _, _, _, _, rfl, ⟨by omega, by omega⟩, ⟨by omega, by omega⟩, ⟨by omega, by omega⟩, T329.1.1, (zTE_top (zTE_of T329 (by omega) (by omega)) w324 w323 wg7 wg6 hp5.1 (by omega)), ⟨fun h => absurd h (by decide), fun h => absurd h (by decide)⟩, (fun i a b => by omega), ?_⟩
                  intro x385 m386 qm386 kx385 lx385 p387 p388 p389 p390
                  have z391 := zfx_t z321 qm386 rfl rfl
                  have w392 : m386.1 66 ((31 : Nat) : Int) = g325 := (qm386.2.1 31 rfl).trans wg325
                  have w393 : m386.1 66 ((30 : Nat) : Int) = g18 := (qm386.2.1 30 rfl).trans w322
                  have w394 : m386.1 66 ((33 : Nat) : Int) = g326 := (qm386.2.1 33 rfl).trans wg326
                  have w395 : m386.1 66 ((34 : Nat) : Int) = g327 := (qm386.2.1 34 rfl).trans wg327
                  have w396 : m386.1 66 ((32 : Nat) : Int) = g328 := (qm386.2.1 32 rfl).trans wg328
                  have w397 : m386.1 66 ((38 : Nat) : Int) = (x304 + 1) := (qm386.2.1 38 rfl).trans w323
                  obtain ⟨g398, wg398⟩ : ∃ z : Int, m386.1 66 ((8 : Nat) : Int) = z := ⟨_, rfl⟩
                  try rw [w392] at p387
                  try rw [w393] at p387
                  try rw [w394] at p387
                  try rw [w395] at p387
                  try rw [w396] at p387
                  try rw [w397] at p387
                  try rw [wg398] at p387
                  try rw [wg325] at p387
                  try rw [w322] at p387
                  try rw [wg326] at p387
                  try rw [wg327] at p387
                  try rw [wg328] at p387
                  try rw [w323] at p387
                  try rw [w324] at p387
                  try rw [wg1] at p387
                  try rw [wg2] at p387
                  try rw [wg3] at p387
                  try rw [wg4] at p387
                  try rw [wg5] at p387
                  try rw [wg6] at p387
                  try rw [wg7] at p387
                  try rw [w392] at p388
                  try rw [w393] at p388
                  try rw [w394] at p388
                  try rw [w395] at p388
                  try rw [w396] at p388
                  try rw [w397] at p388
                  try rw [wg398] at p388
                  try rw [wg325] at p388
                  try rw [w322] at p388
                  try rw [wg326] at p388
                  try rw [wg327] at p388
                  try rw [wg328] at p388
                  try rw [w323] at p388
                  try rw [w324] at p388
                  try rw [wg1] at p388
                  try rw [wg2] at p388
                  try rw [wg3] at p388
                  try rw [wg4] at p388
                  try rw [wg5] at p388
                  try rw [wg6] at p388
                  try rw [wg7] at p388
                  try rw [w392] at p389
                  try rw [w393] at p389
                  try rw [w394] at p389
                  try rw [w395] at p389
                  try rw [w396] at p389
                  try rw [w397] at p389
                  try rw [wg398] at p389
                  try rw [wg325] at p389
                  try rw [w322] at p389
                  try rw [wg326] at p389
                  try rw [wg327] at p389
                  try rw [wg328] at p389
                  try rw [w323] at p389
                  try rw [w324] at p389
                  try rw [wg1] at p389
                  try rw [wg2] at p389
                  try rw [wg3] at p389
                  try rw [wg4] at p389
                  try rw [wg5] at p389
                  try rw [wg6] at p389
                  try rw [wg7] at p389
                  try rw [w392] at p390
                  try rw [w393] at p390
                  try rw [w394] at p390
                  try rw [w395] at p390
                  try rw [w396] at p390
                  try rw [w397] at p390
                  try rw [wg398] at p390
                  try rw [wg325] at p390
                  try rw [w322] at p390
                  try rw [wg326] at p390
                  try rw [wg327] at p390
                  try rw [wg328] at p390
                  try rw [w323] at p390
                  try rw [w324] at p390
                  try rw [wg1] at p390
                  try rw [wg2] at p390
                  try rw [wg3] at p390
                  try rw [wg4] at p390
                  try rw [wg5] at p390
                  try rw [wg6] at p390
                  try rw [wg7] at p390
                  clear wg325 w322 wg326 wg327 wg328 w323 w324
                  have T399 := (⟨p387, p388, p389, p390⟩ : zMd m316 m386 lo 3 0 0 (m316.1 74) x385)
                  have T400 := zTI_mk T329 (fun j a b => qm386.1 j (by omega) (zanyF (by simp <;> omega))) (qm386.2.1 38 rfl) T399 (zW1_like p388 (fun i a b => by omega) (fun e => by omega) (fun e => by omega) (fun e => by omega) (fun _ => rfl) (fun e => by omega))
                  have X1 := zMd_x T399 T329.1.1
                  have X2 := zMd_s T399 T329.1.1
                  have X3 : zPar m386 pa pe x385 := zPar_like p388 (fun e => by omega) (fun i a b => by omega)
                  have O401 : m386.1 100 v4 = 0 := by rw [qm386.1 100 (by decide) rfl]; exact O330
                  clear T399 p387 p388 p389 p390
                  refine ⟨zk_X9_addArg, zm_X9_addArg hg d (by omega), _, _, rfl, ⟨by omega, by omega⟩, ⟨by omega, by omega⟩, (zTI_cnt T400 (by omega) (by omega) (by decide) w397 wg6 (by omega) hp5.2.1), ?_⟩
                  intro m402 qm402 p403 p404 p405 p406
                  have z407 := zfx_t z391 qm402 rfl rfl
                  have w408 : m402.1 66 ((31 : Nat) : Int) = g325 := (qm402.2.1 31 rfl).trans w392
                  have w409 : m402.1 66 ((30 : Nat) : Int) = g18 := (qm402.2.1 30 rfl).trans w393
                  have w410 : m402.1 66 ((33 : Nat) : Int) = g326 := (qm402.2.1 33 rfl).trans w394
                  have w411 : m402.1 66 ((34 : Nat) : Int) = g327 := (qm402.2.1 34 rfl).trans w395
                  have w412 : m402.1 66 ((32 : Nat) : Int) = g328 := (qm402.2.1 32 rfl).trans w396
                  have w413 : m402.1 66 ((38 : Nat) : Int) = (x304 + 1) := (qm402.2.1 38 rfl).trans w397
                  have w414 : m402.1 66 ((8 : Nat) : Int) = g398 := (qm402.2.1 8 rfl).trans wg398
                  try rw [w408] at p403
                  try rw [w409] at p403
                  try rw [w410] at p403
                  try rw [w411] at p403
                  try rw [w412] at p403
                  try rw [w413] at p403
                  try rw [w414] at p403
                  try rw [w392] at p403
                  try rw [w393] at p403
                  try rw [w394] at p403
                  try rw [w395] at p403
                  try rw [w396] at p403
                  try rw [w397] at p403
                  try rw [wg398] at p403
                  try rw [wg1] at p403
                  try rw [wg2] at p403
                  try rw [wg3] at p403
                  try rw [wg4] at p403
                  try rw [wg5] at p403
                  try rw [wg6] at p403
                  try rw [wg7] at p403
                  try rw [w408] at p404
                  try rw [w409] at p404
                  try rw [w410] at p404
                  try rw [w411] at p404
                  try rw [w412] at p404
                  try rw [w413] at p404
                  try rw [w414] at p404
                  try rw [w392] at p404
                  try rw [w393] at p404
                  try rw [w394] at p404
                  try rw [w395] at p404
                  try rw [w396] at p404
                  try rw [w397] at p404
                  try rw [wg398] at p404
                  try rw [wg1] at p404
                  try rw [wg2] at p404
                  try rw [wg3] at p404
                  try rw [wg4] at p404
                  try rw [wg5] at p404
                  try rw [wg6] at p404
                  try rw [wg7] at p404
                  try rw [w408] at p405
                  try rw [w409] at p405
                  try rw [w410] at p405
                  try rw [w411] at p405
                  try rw [w412] at p405
                  try rw [w413] at p405
                  try rw [w414] at p405
                  try rw [w392] at p405
                  try rw [w393] at p405
                  try rw [w394] at p405
                  try rw [w395] at p405
                  try rw [w396] at p405
                  try rw [w397] at p405
                  try rw [wg398] at p405
                  try rw [wg1] at p405
                  try rw [wg2] at p405
                  try rw [wg3] at p405
                  try rw [wg4] at p405
                  try rw [wg5] at p405
                  try rw [wg6] at p405
                  try rw [wg7] at p405
                  try rw [w408] at p406
                  try rw [w409] at p406
                  try rw [w410] at p406
                  try rw [w411] at p406
                  try rw [w412] at p406
                  try rw [w413] at p406
                  try rw [w414] at p406
                  try rw [w392] at p406
                  try rw [w393] at p406
                  try rw [w394] at p406
                  try rw [w395] at p406
                  try rw [w396] at p406
                  try rw [w397] at p406
                  try rw [wg398] at p406
                  try rw [wg1] at p406
                  try rw [wg2] at p406
                  try rw [wg3] at p406
                  try rw [wg4] at p406
                  try rw [wg5] at p406
                  try rw [wg6] at p406
                  try rw [wg7] at p406
                  clear w392 w393 w394 w395 w396 w397 wg398
                  have T415 := zTI_add1 T400 hv4.1 (fun j a b c => qm402.1 j a (zanyF (by simp <;> omega))) (qm402.2.1 8 rfl) (qm402.2.1 38 rfl) p403 p404 p405 p406 X1 X2 (fun a b => by omega) X3
                  have O416 : m402.1 100 v4 = 0 := by rw [qm402.1 100 (by decide) rfl]; exact O401
                  refine Exists.intro (zrT m402 3) (And.intro (zrT_lt (by unfold zrm; simp only [w408, w409, w410, w411, w412, w413, w414, wg17, wg18, wg19, wg20, wg21, wg22, wg23, wg1, wg2, wg3, wg4, wg5, wg6, wg7]; (repeat' split) <;> omega) (zrm_0 (by (try rw [w408]) <;> (try rw [w409]) <;> (try rw [w410]) <;> (try rw [w411]) <;> (try rw [w412]) <;> (try rw [w413]) <;> (try rw [w414]) <;> (try rw [wg17]) <;> (try rw [wg18]) <;> (try rw [wg19]) <;> (try rw [wg20]) <;> (try rw [wg21]) <;> (try rw [wg22]) <;> (try rw [wg23]) <;> (try rw [wg1]) <;> (try rw [wg2]) <;> (try rw [wg3]) <;> (try rw [wg4]) <;> (try rw [wg5]) <;> (try rw [wg6]) <;> (try rw [wg7]) <;> omega))) ?_)
                  exact ⟨_, _, _, _, _, rfl, z407, ⟨by omega, by omega⟩, ⟨by omega, by omega⟩, ⟨by omega, by omega⟩, ⟨by omega, by omega⟩, ⟨by omega, by omega⟩, ⟨rfl, rfl, rfl⟩, (by (try rw [w408]) <;> (try rw [w409]) <;> (try rw [w410]) <;> (try rw [w411]) <;> (try rw [w412]) <;> (try rw [w413]) <;> (try rw [w414]) <;> (try rw [wg17]) <;> (try rw [wg18]) <;> (try rw [wg19]) <;> (try rw [wg20]) <;> (try rw [wg21]) <;> (try rw [wg22]) <;> (try rw [wg23]) <;> (try rw [wg1]) <;> (try rw [wg2]) <;> (try rw [wg3]) <;> (try rw [wg4]) <;> (try rw [wg5]) <;> (try rw [wg6]) <;> (try rw [wg7]) <;> omega), (by (try rw [w408]) <;> (try rw [w409]) <;> (try rw [w410]) <;> (try rw [w411]) <;> (try rw [w412]) <;> (try rw [w413]) <;> (try rw [w414]) <;> (try rw [wg17]) <;> (try rw [wg18]) <;> (try rw [wg19]) <;> (try rw [wg20]) <;> (try rw [wg21]) <;> (try rw [wg22]) <;> (try rw [wg23]) <;> (try rw [wg1]) <;> (try rw [wg2]) <;> (try rw [wg3]) <;> (try rw [wg4]) <;> (try rw [wg5]) <;> (try rw [wg6]) <;> (try rw [wg7]) <;> omega), ⟨fun h => absurd h (by decide), fun _ => T415⟩, (fun h => O416), (Or.inr (by omega)), (by have h6 := i6; unfold zrm at h6 ⊢; simp only [w408, w409, w410, w411, w412, w413, w414, wg17, wg18, wg19, wg20, wg21, wg22, wg23, wg1, wg2, wg3, wg4, wg5, wg6, wg7] at h6 ⊢; (repeat' split at h6) <;> (repeat' split) <;> omega), (by (try rw [w408]) <;> (try rw [w409]) <;> (try rw [w410]) <;> (try rw [w411]) <;> (try rw [w412]) <;> (try rw [w413]) <;> (try rw [w414]) <;> (try rw [wg17]) <;> (try rw [wg18]) <;> (try rw [wg19]) <;> (try rw [wg20]) <;> (try rw [wg21]) <;> (try rw [wg22]) <;> (try rw [wg23]) <;> (try rw [wg1]) <;> (try rw [wg2]) <;> (try rw [wg3]) <;> (try rw [wg4]) <;> (try rw [wg5]) <;> (try rw [wg6]) <;> (try rw [wg7]) <;> omega), (Or.inr V3), rfl⟩
                · intro x417 hx417 kx417 lx417
                  rw [wg328] at hx417
                  refine And.intro ⟨⟨by omega, by omega⟩, ⟨by omega, by omega⟩⟩ (And.intro (fun c418 => ?_) (fun c418 => ?_))
                  · clear c418
                    refine And.intro ⟨by omega, by omega⟩ (And.intro ⟨by omega, by omega⟩ ?_)
                    intro m419 em419
                    have z420 := zfx_r z321 em419 rfl (by decide)
                    have w421 : m419.1 66 ((31 : Nat) : Int) = g325 := by rw [em419]; exact (congrFun (zu_ne (by decide)) _).trans wg325
                    have w422 : m419.1 66 ((30 : Nat) : Int) = g18 := by rw [em419]; exact (congrFun (zu_ne (by decide)) _).trans w322
                    have w423 : m419.1 66 ((33 : Nat) : Int) = g326 := by rw [em419]; exact (congrFun (zu_ne (by decide)) _).trans wg326
                    have w424 : m419.1 66 ((34 : Nat) : Int) = g327 := by rw [em419]; exact (congrFun (zu_ne (by decide)) _).trans wg327
                    have w425 : m419.1 66 ((32 : Nat) : Int) = g328 := by rw [em419]; exact (congrFun (zu_ne (by decide)) _).trans wg328
                    have w426 : m419.1 66 ((38 : Nat) : Int) = (x304 + 1) := by rw [em419]; exact (congrFun (zu_ne (by decide)) _).trans w323
                    have w427 : m419.1 66 ((8 : Nat) : Int) = g23 := by rw [em419]; exact (congrFun (zu_ne (by decide)) _).trans w324
                    clear wg325 w322 wg326 wg327 wg328 w323 w324
                    have T428 := zTI_push T329 hv4.1 em419 rfl (Or.inr (Or.inr rfl)) (fun a b => by omega) O330
                    refine ⟨zk_X9_pass, zm_X9_pass hg d (by omega), rfl, (by (try rw [w421]) <;> (try rw [w422]) <;> (try rw [w423]) <;> (try rw [w424]) <;> (try rw [w425]) <;> (try rw [w426]) <;> (try rw [w427]) <;> (try rw [wg17]) <;> (try rw [wg18]) <;> (try rw [wg19]) <;> (try rw [wg20]) <;> (try rw [wg21]) <;> (try rw [wg22]) <;> (try rw [wg23]) <;> (try rw [wg1]) <;> (try rw [wg2]) <;> (try rw [wg3]) <;> (try rw [wg4]) <;> (try rw [wg5]) <;> (try rw [wg6]) <;> (try rw [wg7]) <;> omega), ?_⟩
                    intro m429 qm429 p430 p431 p432 p433
                    have z434 := zfx_t z420 qm429 rfl rfl
                    have w435 : m429.1 66 ((30 : Nat) : Int) = g18 := (qm429.2.1 30 rfl).trans w422
                    have w436 : m429.1 66 ((38 : Nat) : Int) = (x304 + 1) := (qm429.2.1 38 rfl).trans w426
                    have w437 : m429.1 66 ((8 : Nat) : Int) = g23 := (qm429.2.1 8 rfl).trans w427
                    obtain ⟨g438, wg438⟩ : ∃ z : Int, m429.1 66 ((31 : Nat) : Int) = z := ⟨_, rfl⟩
                    obtain ⟨g439, wg439⟩ : ∃ z : Int, m429.1 66 ((33 : Nat) : Int) = z := ⟨_, rfl⟩
                    obtain ⟨g440, wg440⟩ : ∃ z : Int, m429.1 66 ((34 : Nat) : Int) = z := ⟨_, rfl⟩
                    obtain ⟨g441, wg441⟩ : ∃ z : Int, m429.1 66 ((32 : Nat) : Int) = z := ⟨_, rfl⟩
                    try rw [wg438] at p430
                    try rw [w435] at p430
                    try rw [wg439] at p430
                    try rw [wg440] at p430
                    try rw [wg441] at p430
                    try rw [w436] at p430
                    try rw [w437] at p430
                    try rw [w421] at p430
                    try rw [w422] at p430
                    try rw [w423] at p430
                    try rw [w424] at p430
                    try rw [w425] at p430
                    try rw [w426] at p430
                    try rw [w427] at p430
                    try rw [wg1] at p430
                    try rw [wg2] at p430
                    try rw [wg3] at p430
                    try rw [wg4] at p430
                    try rw [wg5] at p430
                    try rw [wg6] at p430
                    try rw [wg7] at p430
                    try rw [wg438] at p431
                    try rw [w435] at p431
                    try rw [wg439] at p431
                    try rw [wg440] at p431
                    try rw [wg441] at p431
                    try rw [w436] at p431
                    try rw [w437] at p431
                    try rw [w421] at p431
                    try rw [w422] at p431
                    try rw [w423] at p431
                    try rw [w424] at p431
                    try rw [w425] at p431
                    try rw [w426] at p431
                    try rw [w427] at p431
                    try rw [wg1] at p431
                    try rw [wg2] at p431
                    try rw [wg3] at p431
                    try rw [wg4] at p431
                    try rw [wg5] at p431
                    try rw [wg6] at p431
                    try rw [wg7] at p431
                    try rw [wg438] at p432
                    try rw [w435] at p432
                    try rw [wg439] at p432
                    try rw [wg440] at p432
                    try rw [wg441] at p432
                    try rw [w436] at p432
                    try rw [w437] at p432
                    try rw [w421] at p432
                    try rw [w422] at p432
                    try rw [w423] at p432
                    try rw [w424] at p432
                    try rw [w425] at p432
                    try rw [w426] at p432
                    try rw [w427] at p432
                    try rw [wg1] at p432
                    try rw [wg2] at p432
                    try rw [wg3] at p432
                    try rw [wg4] at p432
                    try rw [wg5] at p432
                    try rw [wg6] at p432
                    try rw [wg7] at p432
                    try rw [wg438] at p433
                    try rw [w435] at p433
                    try rw [wg439] at p433
                    try rw [wg440] at p433
                    try rw [wg441] at p433
                    try rw [w436] at p433
                    try rw [w437] at p433
                    try rw [w421] at p433
                    try rw [w422] at p433
                    try rw [w423] at p433
                    try rw [w424] at p433
                    try rw [w425] at p433
                    try rw [w426] at p433
                    try rw [w427] at p433
                    try rw [wg1] at p433
                    try rw [wg2] at p433
                    try rw [wg3] at p433
                    try rw [wg4] at p433
                    try rw [wg5] at p433
                    try rw [wg6] at p433
                    try rw [wg7] at p433
                    clear w421 w422 w423 w424 w425 w426 w427
                    have T442 := zTI_fr0 T428 (fun j a b => qm429.1 j (by omega) (zanyF (by simp <;> omega))) (fun j a b => qm429.1 j (by omega) (zanyF (by simp <;> omega))) (qm429.2.1 8 rfl) (qm429.2.1 38 rfl)
                    refine Exists.intro (zrT m429 0) (And.intro (zrT_lt (by unfold zrm; simp only [wg438, w435, wg439, wg440, wg441, w436, w437, wg17, wg18, wg19, wg20, wg21, wg22, wg23, wg1, wg2, wg3, wg4, wg5, wg6, wg7]; (repeat' split) <;> omega) (zrm_0 (by (try rw [wg438]) <;> (try rw [w435]) <;> (try rw [wg439]) <;> (try rw [wg440]) <;> (try rw [wg441]) <;> (try rw [w436]) <;> (try rw [w437]) <;> (try rw [wg17]) <;> (try rw [wg18]) <;> (try rw [wg19]) <;> (try rw [wg20]) <;> (try rw [wg21]) <;> (try rw [wg22]) <;> (try rw [wg23]) <;> (try rw [wg1]) <;> (try rw [wg2]) <;> (try rw [wg3]) <;> (try rw [wg4]) <;> (try rw [wg5]) <;> (try rw [wg6]) <;> (try rw [wg7]) <;> omega))) ?_)
                    exact ⟨_, _, _, _, _, rfl, z434, ⟨by omega, by omega⟩, ⟨by omega, by omega⟩, ⟨by omega, by omega⟩, ⟨by omega, by omega⟩, ⟨by omega, by omega⟩, ⟨rfl, rfl, rfl⟩, (by (try rw [wg438]) <;> (try rw [w435]) <;> (try rw [wg439]) <;> (try rw [wg440]) <;> (try rw [wg441]) <;> (try rw [w436]) <;> (try rw [w437]) <;> (try rw [wg17]) <;> (try rw [wg18]) <;> (try rw [wg19]) <;> (try rw [wg20]) <;> (try rw [wg21]) <;> (try rw [wg22]) <;> (try rw [wg23]) <;> (try rw [wg1]) <;> (try rw [wg2]) <;> (try rw [wg3]) <;> (try rw [wg4]) <;> (try rw [wg5]) <;> (try rw [wg6]) <;> (try rw [wg7]) <;> omega), (by (try rw [wg438]) <;> (try rw [w435]) <;> (try rw [wg439]) <;> (try rw [wg440]) <;> (try rw [wg441]) <;> (try rw [w436]) <;> (try rw [w437]) <;> (try rw [wg17]) <;> (try rw [wg18]) <;> (try rw [wg19]) <;> (try rw [wg20]) <;> (try rw [wg21]) <;> (try rw [wg22]) <;> (try rw [wg23]) <;> (try rw [wg1]) <;> (try rw [wg2]) <;> (try rw [wg3]) <;> (try rw [wg4]) <;> (try rw [wg5]) <;> (try rw [wg6]) <;> (try rw [wg7]) <;> omega), ⟨fun _ => zTI_w1 T442 (by rw [qm429.1 104 (by decide) rfl, em419, zu_at]; decide), fun h => absurd rfl h⟩, (fun h => absurd h (by decide)), (Or.inl rfl), (by have h6 := i6; unfold zrm at h6 ⊢; simp only [wg438, w435, wg439, wg440, wg441, w436, w437, wg17, wg18, wg19, wg20, wg21, wg22, wg23, wg1, wg2, wg3, wg4, wg5, wg6, wg7] at h6 ⊢; (repeat' split at h6) <;> (repeat' split) <;> omega), (by (try rw [wg438]) <;> (try rw [w435]) <;> (try rw [wg439]) <;> (try rw [wg440]) <;> (try rw [wg441]) <;> (try rw [w436]) <;> (try rw [w437]) <;> (try rw [wg17]) <;> (try rw [wg18]) <;> (try rw [wg19]) <;> (try rw [wg20]) <;> (try rw [wg21]) <;> (try rw [wg22]) <;> (try rw [wg23]) <;> (try rw [wg1]) <;> (try rw [wg2]) <;> (try rw [wg3]) <;> (try rw [wg4]) <;> (try rw [wg5]) <;> (try rw [wg6]) <;> (try rw [wg7]) <;> omega), (Or.inr V3), rfl⟩
                  · refine And.intro ⟨by omega, by omega⟩ (And.intro ⟨by omega, by omega⟩ ?_)
                    intro m443 em443
                    have z444 := zfx_r z321 em443 rfl (by decide)
                    have w445 : m443.1 66 ((31 : Nat) : Int) = g325 := by rw [em443]; exact (congrFun (zu_ne (by decide)) _).trans wg325
                    have w446 : m443.1 66 ((30 : Nat) : Int) = g18 := by rw [em443]; exact (congrFun (zu_ne (by decide)) _).trans w322
                    have w447 : m443.1 66 ((33 : Nat) : Int) = g326 := by rw [em443]; exact (congrFun (zu_ne (by decide)) _).trans wg326
                    have w448 : m443.1 66 ((34 : Nat) : Int) = g327 := by rw [em443]; exact (congrFun (zu_ne (by decide)) _).trans wg327
                    have w449 : m443.1 66 ((32 : Nat) : Int) = g328 := by rw [em443]; exact (congrFun (zu_ne (by decide)) _).trans wg328
                    have w450 : m443.1 66 ((38 : Nat) : Int) = (x304 + 1) := by rw [em443]; exact (congrFun (zu_ne (by decide)) _).trans w323
                    have w451 : m443.1 66 ((8 : Nat) : Int) = g23 := by rw [em443]; exact (congrFun (zu_ne (by decide)) _).trans w324
                    clear wg325 w322 wg326 wg327 wg328 w323 w324
                    have T452 := zTI_push T329 hv4.1 em443 rfl (Or.inr (Or.inl rfl)) (fun a b => by omega) O330
                    refine ⟨zk_X9_pass, zm_X9_pass hg d (by omega), rfl, (by (try rw [w445]) <;> (try rw [w446]) <;> (try rw [w447]) <;> (try rw [w448]) <;> (try rw [w449]) <;> (try rw [w450]) <;> (try rw [w451]) <;> (try rw [wg17]) <;> (try rw [wg18]) <;> (try rw [wg19]) <;> (try rw [wg20]) <;> (try rw [wg21]) <;> (try rw [wg22]) <;> (try rw [wg23]) <;> (try rw [wg1]) <;> (try rw [wg2]) <;> (try rw [wg3]) <;> (try rw [wg4]) <;> (try rw [wg5]) <;> (try rw [wg6]) <;> (try rw [wg7]) <;> omega), ?_⟩
                    intro m453 qm453 p454 p455 p456 p457
                    have z458 := zfx_t z444 qm453 rfl rfl
                    have w459 : m453.1 66 ((30 : Nat) : Int) = g18 := (qm453.2.1 30 rfl).trans w446
                    have w460 : m453.1 66 ((38 : Nat) : Int) = (x304 + 1) := (qm453.2.1 38 rfl).trans w450
                    have w461 : m453.1 66 ((8 : Nat) : Int) = g23 := (qm453.2.1 8 rfl).trans w451
                    obtain ⟨g462, wg462⟩ : ∃ z : Int, m453.1 66 ((31 : Nat) : Int) = z := ⟨_, rfl⟩
                    obtain ⟨g463, wg463⟩ : ∃ z : Int, m453.1 66 ((33 : Nat) : Int) = z := ⟨_, rfl⟩
                    obtain ⟨g464, wg464⟩ : ∃ z : Int, m453.1 66 ((34 : Nat) : Int) = z := ⟨_, rfl⟩
                    obtain ⟨g465, wg465⟩ : ∃ z : Int, m453.1 66 ((32 : Nat) : Int) = z := ⟨_, rfl⟩
                    try rw [wg462] at p454
                    try rw [w459] at p454
                    try rw [wg463] at p454
                    try rw [wg464] at p454
                    try rw [wg465] at p454
                    try rw [w460] at p454
                    try rw [w461] at p454
                    try rw [w445] at p454
                    try rw [w446] at p454
                    try rw [w447] at p454
                    try rw [w448] at p454
                    try rw [w449] at p454
                    try rw [w450] at p454
                    try rw [w451] at p454
                    try rw [wg1] at p454
                    try rw [wg2] at p454
                    try rw [wg3] at p454
                    try rw [wg4] at p454
                    try rw [wg5] at p454
                    try rw [wg6] at p454
                    try rw [wg7] at p454
                    try rw [wg462] at p455
                    try rw [w459] at p455
                    try rw [wg463] at p455
                    try rw [wg464] at p455
                    try rw [wg465] at p455
                    try rw [w460] at p455
                    try rw [w461] at p455
                    try rw [w445] at p455
                    try rw [w446] at p455
                    try rw [w447] at p455
                    try rw [w448] at p455
                    try rw [w449] at p455
                    try rw [w450] at p455
                    try rw [w451] at p455
                    try rw [wg1] at p455
                    try rw [wg2] at p455
                    try rw [wg3] at p455
                    try rw [wg4] at p455
                    try rw [wg5] at p455
                    try rw [wg6] at p455
                    try rw [wg7] at p455
                    try rw [wg462] at p456
                    try rw [w459] at p456
                    try rw [wg463] at p456
                    try rw [wg464] at p456
                    try rw [wg465] at p456
                    try rw [w460] at p456
                    try rw [w461] at p456
                    try rw [w445] at p456
                    try rw [w446] at p456
                    try rw [w447] at p456
                    try rw [w448] at p456
                    try rw [w449] at p456
                    try rw [w450] at p456
                    try rw [w451] at p456
                    try rw [wg1] at p456
                    try rw [wg2] at p456
                    try rw [wg3] at p456
                    try rw [wg4] at p456
                    try rw [wg5] at p456
                    try rw [wg6] at p456
                    try rw [wg7] at p456
                    try rw [wg462] at p457
                    try rw [w459] at p457
                    try rw [wg463] at p457
                    try rw [wg464] at p457
                    try rw [wg465] at p457
                    try rw [w460] at p457
                    try rw [w461] at p457
                    try rw [w445] at p457
                    try rw [w446] at p457
                    try rw [w447] at p457
                    try rw [w448] at p457
                    try rw [w449] at p457
                    try rw [w450] at p457
                    try rw [w451] at p457
                    try rw [wg1] at p457
                    try rw [wg2] at p457
                    try rw [wg3] at p457
                    try rw [wg4] at p457
                    try rw [wg5] at p457
                    try rw [wg6] at p457
                    try rw [wg7] at p457
                    clear w445 w446 w447 w448 w449 w450 w451
                    have T466 := zTI_fr0 T452 (fun j a b => qm453.1 j (by omega) (zanyF (by simp <;> omega))) (fun j a b => qm453.1 j (by omega) (zanyF (by simp <;> omega))) (qm453.2.1 8 rfl) (qm453.2.1 38 rfl)
                    refine Exists.intro (zrT m453 0) (And.intro (zrT_lt (by unfold zrm; simp only [wg462, w459, wg463, wg464, wg465, w460, w461, wg17, wg18, wg19, wg20, wg21, wg22, wg23, wg1, wg2, wg3, wg4, wg5, wg6, wg7]; (repeat' split) <;> omega) (zrm_0 (by (try rw [wg462]) <;> (try rw [w459]) <;> (try rw [wg463]) <;> (try rw [wg464]) <;> (try rw [wg465]) <;> (try rw [w460]) <;> (try rw [w461]) <;> (try rw [wg17]) <;> (try rw [wg18]) <;> (try rw [wg19]) <;> (try rw [wg20]) <;> (try rw [wg21]) <;> (try rw [wg22]) <;> (try rw [wg23]) <;> (try rw [wg1]) <;> (try rw [wg2]) <;> (try rw [wg3]) <;> (try rw [wg4]) <;> (try rw [wg5]) <;> (try rw [wg6]) <;> (try rw [wg7]) <;> omega))) ?_)
                    exact ⟨_, _, _, _, _, rfl, z458, ⟨by omega, by omega⟩, ⟨by omega, by omega⟩, ⟨by omega, by omega⟩, ⟨by omega, by omega⟩, ⟨by omega, by omega⟩, ⟨rfl, rfl, rfl⟩, (by (try rw [wg462]) <;> (try rw [w459]) <;> (try rw [wg463]) <;> (try rw [wg464]) <;> (try rw [wg465]) <;> (try rw [w460]) <;> (try rw [w461]) <;> (try rw [wg17]) <;> (try rw [wg18]) <;> (try rw [wg19]) <;> (try rw [wg20]) <;> (try rw [wg21]) <;> (try rw [wg22]) <;> (try rw [wg23]) <;> (try rw [wg1]) <;> (try rw [wg2]) <;> (try rw [wg3]) <;> (try rw [wg4]) <;> (try rw [wg5]) <;> (try rw [wg6]) <;> (try rw [wg7]) <;> omega), (by (try rw [wg462]) <;> (try rw [w459]) <;> (try rw [wg463]) <;> (try rw [wg464]) <;> (try rw [wg465]) <;> (try rw [w460]) <;> (try rw [w461]) <;> (try rw [wg17]) <;> (try rw [wg18]) <;> (try rw [wg19]) <;> (try rw [wg20]) <;> (try rw [wg21]) <;> (try rw [wg22]) <;> (try rw [wg23]) <;> (try rw [wg1]) <;> (try rw [wg2]) <;> (try rw [wg3]) <;> (try rw [wg4]) <;> (try rw [wg5]) <;> (try rw [wg6]) <;> (try rw [wg7]) <;> omega), ⟨fun _ => zTI_w1 T466 (by rw [qm453.1 104 (by decide) rfl, em443, zu_at]; decide), fun h => absurd rfl h⟩, (fun h => absurd h (by decide)), (Or.inl rfl), (by have h6 := i6; unfold zrm at h6 ⊢; simp only [wg462, w459, wg463, wg464, wg465, w460, w461, wg17, wg18, wg19, wg20, wg21, wg22, wg23, wg1, wg2, wg3, wg4, wg5, wg6, wg7] at h6 ⊢; (repeat' split at h6) <;> (repeat' split) <;> omega), (by (try rw [wg462]) <;> (try rw [w459]) <;> (try rw [wg463]) <;> (try rw [wg464]) <;> (try rw [wg465]) <;> (try rw [w460]) <;> (try rw [w461]) <;> (try rw [wg17]) <;> (try rw [wg18]) <;> (try rw [wg19]) <;> (try rw [wg20]) <;> (try rw [wg21]) <;> (try rw [wg22]) <;> (try rw [wg23]) <;> (try rw [wg1]) <;> (try rw [wg2]) <;> (try rw [wg3]) <;> (try rw [wg4]) <;> (try rw [wg5]) <;> (try rw [wg6]) <;> (try rw [wg7]) <;> omega), (Or.inr V3), rfl⟩
            · refine And.intro ⟨by omega, by omega⟩ (And.intro (fun c467 => ?_) (fun c467 => ?_))
              · intro x468 hx468 kx468 lx468
                rw [wg22] at hx468
                refine And.intro ⟨by omega, by omega⟩ ?_
                intro m469 em469
                have z470 := zfx_f z0 em469 rfl
                have w471 : m469.1 66 ((31 : Nat) : Int) = g17 := by rw [em469]; exact (zu_nk (by decide)).trans wg17
                have w472 : m469.1 66 ((30 : Nat) : Int) = g18 := by rw [em469]; exact (zu_nk (by decide)).trans wg18
                have w473 : m469.1 66 ((33 : Nat) : Int) = g19 := by rw [em469]; exact (zu_nk (by decide)).trans wg19
                have w474 : m469.1 66 ((34 : Nat) : Int) = g20 := by rw [em469]; exact (zu_nk (by decide)).trans wg20
                have w475 : m469.1 66 ((32 : Nat) : Int) = g21 := by rw [em469]; exact (zu_nk (by decide)).trans wg21
                have w476 : m469.1 66 ((38 : Nat) : Int) = (x468 + 1) := by rw [em469]; exact zu_at
                have w477 : m469.1 66 ((8 : Nat) : Int) = g23 := by rw [em469]; exact (zu_nk (by decide)).trans wg23
                have T478 := zTI_n1 (m' := m469) T287 (fun j a b => by rw [em469, zu_ne (by omega)]) (fun j a b => by rw [em469, zu_ne (by omega)]) (by show m469.1 66 ((8 : Nat) : Int) = m0.1 66 ((8 : Nat) : Int); rw [em469]; exact zu_nk (by decide)) (by (try rw [w471]) <;> (try rw [w472]) <;> (try rw [w473]) <;> (try rw [w474]) <;> (try rw [w475]) <;> (try rw [w476]) <;> (try rw [w477]) <;> (try rw [wg17]) <;> (try rw [wg18]) <;> (try rw [wg19]) <;> (try rw [wg20]) <;> (try rw [wg21]) <;> (try rw [wg22]) <;> (try rw [wg23]) <;> (try rw [wg1]) <;> (try rw [wg2]) <;> (try rw [wg3]) <;> (try rw [wg4]) <;> (try rw [wg5]) <;> (try rw [wg6]) <;> (try rw [wg7]) <;> omega)
                have O479 : m469.1 100 v4 = 0 := by rw [em469, zu_ne (by decide)]; exact O288
                refine ⟨zk_X9_pass, zm_X9_pass hg d (by omega), rfl, (by (try rw [w471]) <;> (try rw [w472]) <;> (try rw [w473]) <;> (try rw [w474]) <;> (try rw [w475]) <;> (try rw [w476]) <;> (try rw [w477]) <;> (try rw [wg17]) <;> (try rw [wg18]) <;> (try rw [wg19]) <;> (try rw [wg20]) <;> (try rw [wg21]) <;> (try rw [wg22]) <;> (try rw [wg23]) <;> (try rw [wg1]) <;> (try rw [wg2]) <;> (try rw [wg3]) <;> (try rw [wg4]) <;> (try rw [wg5]) <;> (try rw [wg6]) <;> (try rw [wg7]) <;> omega), ?_⟩
                intro m480 qm480 p481 p482 p483 p484
                have z485 := zfx_t z470 qm480 rfl rfl
                have w486 : m480.1 66 ((30 : Nat) : Int) = g18 := (qm480.2.1 30 rfl).trans w472
                have w487 : m480.1 66 ((38 : Nat) : Int) = (x468 + 1) := (qm480.2.1 38 rfl).trans w476
                have w488 : m480.1 66 ((8 : Nat) : Int) = g23 := (qm480.2.1 8 rfl).trans w477
                obtain ⟨g489, wg489⟩ : ∃ z : Int, m480.1 66 ((31 : Nat) : Int) = z := ⟨_, rfl⟩
                obtain ⟨g490, wg490⟩ : ∃ z : Int, m480.1 66 ((33 : Nat) : Int) = z := ⟨_, rfl⟩
                obtain ⟨g491, wg491⟩ : ∃ z : Int, m480.1 66 ((34 : Nat) : Int) = z := ⟨_, rfl⟩
                obtain ⟨g492, wg492⟩ : ∃ z : Int, m480.1 66 ((32 : Nat) : Int) = z := ⟨_, rfl⟩
                try rw [wg489] at p481
                try rw [w486] at p481
                try rw [wg490] at p481
                try rw [wg491] at p481
                try rw [wg492] at p481
                try rw [w487] at p481
                try rw [w488] at p481
                try rw [w471] at p481
                try rw [w472] at p481
                try rw [w473] at p481
                try rw [w474] at p481
                try rw [w475] at p481
                try rw [w476] at p481
                try rw [w477] at p481
                try rw [wg1] at p481
                try rw [wg2] at p481
                try rw [wg3] at p481
                try rw [wg4] at p481
                try rw [wg5] at p481
                try rw [wg6] at p481
                try rw [wg7] at p481
                try rw [wg489] at p482
                try rw [w486] at p482
                try rw [wg490] at p482
                try rw [wg491] at p482
                try rw [wg492] at p482
                try rw [w487] at p482
                try rw [w488] at p482
                try rw [w471] at p482
                try rw [w472] at p482
                try rw [w473] at p482
                try rw [w474] at p482
                try rw [w475] at p482
                try rw [w476] at p482
                try rw [w477] at p482
                try rw [wg1] at p482
                try rw [wg2] at p482
                try rw [wg3] at p482
                try rw [wg4] at p482
                try rw [wg5] at p482
                try rw [wg6] at p482
                try rw [wg7] at p482
                try rw [wg489] at p483
                try rw [w486] at p483
                try rw [wg490] at p483
                try rw [wg491] at p483
                try rw [wg492] at p483
                try rw [w487] at p483
                try rw [w488] at p483
                try rw [w471] at p483
                try rw [w472] at p483
                try rw [w473] at p483
                try rw [w474] at p483
                try rw [w475] at p483
                try rw [w476] at p483
                try rw [w477] at p483
                try rw [wg1] at p483
                try rw [wg2] at p483
                try rw [wg3] at p483
                try rw [wg4] at p483
                try rw [wg5] at p483
                try rw [wg6] at p483
                try rw [wg7] at p483
                try rw [wg489] at p484
                try rw [w486] at p484
                try rw [wg490] at p484
                try rw [wg491] at p484
                try rw [wg492] at p484
                try rw [w487] at p484
                try rw [w488] at p484
                try rw [w471] at p484
                try rw [w472] at p484
                try rw [w473] at p484
                try rw [w474] at p484
                try rw [w475] at p484
                try rw [w476] at p484
                try rw [w477] at p484
                try rw [wg1] at p484
                try rw [wg2] at p484
                try rw [wg3] at p484
                try rw [wg4] at p484
                try rw [wg5] at p484
                try rw [wg6] at p484
                try rw [wg7] at p484
                clear w471 w472 w473 w474 w475 w476 w477
                have T493 := zTI_fr0 T478 (fun j a b => qm480.1 j (by omega) (zanyF (by simp <;> omega))) (fun j a b => qm480.1 j (by omega) (zanyF (by simp <;> omega))) (qm480.2.1 8 rfl) (qm480.2.1 38 rfl)
                have O494 : m480.1 100 v4 = 0 := by rw [qm480.1 100 (by decide) rfl]; exact O479
                intro x495 hx495 kx495 lx495
                rw [wg492] at hx495
                refine And.intro ⟨⟨by omega, by omega⟩, ⟨by omega, by omega⟩⟩ (And.intro (fun c496 => ?_) (fun c496 => ?_))
                · intro x497 hx497 kx497 lx497
                  rw [wg492] at hx497
                  refine And.intro ⟨⟨by omega, by omega⟩, ⟨by omega, by omega⟩⟩ (And.intro (fun c498 => ?_) (fun c498 => ?_))
                  · clear c498
                    refine And.intro ⟨by omega, by omega⟩ (And.intro ⟨by omega, by omega⟩ ?_)
                    intro m499 em499
                    have z500 := zfx_r z485 em499 rfl (by decide)
                    have w501 : m499.1 66 ((31 : Nat) : Int) = g489 := by rw [em499]; exact (congrFun (zu_ne (by decide)) _).trans wg489
                    have w502 : m499.1 66 ((30 : Nat) : Int) = g18 := by rw [em499]; exact (congrFun (zu_ne (by decide)) _).trans w486
                    have w503 : m499.1 66 ((33 : Nat) : Int) = g490 := by rw [em499]; exact (congrFun (zu_ne (by decide)) _).trans wg490
                    have w504 : m499.1 66 ((34 : Nat) : Int) = g491 := by rw [em499]; exact (congrFun (zu_ne (by decide)) _).trans wg491
                    have w505 : m499.1 66 ((32 : Nat) : Int) = g492 := by rw [em499]; exact (congrFun (zu_ne (by decide)) _).trans wg492
                    have w506 : m499.1 66 ((38 : Nat) : Int) = (x468 + 1) := by rw [em499]; exact (congrFun (zu_ne (by decide)) _).trans w487
                    have w507 : m499.1 66 ((8 : Nat) : Int) = g23 := by rw [em499]; exact (congrFun (zu_ne (by decide)) _).trans w488
                    clear wg489 w486 wg490 wg491 wg492 w487 w488
                    have T508 := zTI_push T493 hv4.1 em499 rfl (Or.inr (Or.inr rfl)) (fun a b => by omega) O494
                    refine ⟨zk_X9_pass, zm_X9_pass hg d (by omega), rfl, (by (try rw [w501]) <;> (try rw [w502]) <;> (try rw [w503]) <;> (try rw [w504]) <;> (try rw [w505]) <;> (try rw [w506]) <;> (try rw [w507]) <;> (try rw [wg17]) <;> (try rw [wg18]) <;> (try rw [wg19]) <;> (try rw [wg20]) <;> (try rw [wg21]) <;> (try rw [wg22]) <;> (try rw [wg23]) <;> (try rw [wg1]) <;> (try rw [wg2]) <;> (try rw [wg3]) <;> (try rw [wg4]) <;> (try rw [wg5]) <;> (try rw [wg6]) <;> (try rw [wg7]) <;> omega), ?_⟩
                    intro m509 qm509 p510 p511 p512 p513
                    have z514 := zfx_t z500 qm509 rfl rfl
                    have w515 : m509.1 66 ((30 : Nat) : Int) = g18 := (qm509.2.1 30 rfl).trans w502
                    have w516 : m509.1 66 ((38 : Nat) : Int) = (x468 + 1) := (qm509.2.1 38 rfl).trans w506
                    have w517 : m509.1 66 ((8 : Nat) : Int) = g23 := (qm509.2.1 8 rfl).trans w507
                    obtain ⟨g518, wg518⟩ : ∃ z : Int, m509.1 66 ((31 : Nat) : Int) = z := ⟨_, rfl⟩
                    obtain ⟨g519, wg519⟩ : ∃ z : Int, m509.1 66 ((33 : Nat) : Int) = z := ⟨_, rfl⟩
                    obtain ⟨g520, wg520⟩ : ∃ z : Int, m509.1 66 ((34 : Nat) : Int) = z := ⟨_, rfl⟩
                    obtain ⟨g521, wg521⟩ : ∃ z : Int, m509.1 66 ((32 : Nat) : Int) = z := ⟨_, rfl⟩
                    try rw [wg518] at p510
                    try rw [w515] at p510
                    try rw [wg519] at p510
                    try rw [wg520] at p510
                    try rw [wg521] at p510
                    try rw [w516] at p510
                    try rw [w517] at p510
                    try rw [w501] at p510
                    try rw [w502] at p510
                    try rw [w503] at p510
                    try rw [w504] at p510
                    try rw [w505] at p510
                    try rw [w506] at p510
                    try rw [w507] at p510
                    try rw [wg1] at p510
                    try rw [wg2] at p510
                    try rw [wg3] at p510
                    try rw [wg4] at p510
                    try rw [wg5] at p510
                    try rw [wg6] at p510
                    try rw [wg7] at p510
                    try rw [wg518] at p511
                    try rw [w515] at p511
                    try rw [wg519] at p511
                    try rw [wg520] at p511
                    try rw [wg521] at p511
                    try rw [w516] at p511
                    try rw [w517] at p511
                    try rw [w501] at p511
                    try rw [w502] at p511
                    try rw [w503] at p511
                    try rw [w504] at p511
                    try rw [w505] at p511
                    try rw [w506] at p511
                    try rw [w507] at p511
                    try rw [wg1] at p511
                    try rw [wg2] at p511
                    try rw [wg3] at p511
                    try rw [wg4] at p511
                    try rw [wg5] at p511
                    try rw [wg6] at p511
                    try rw [wg7] at p511
                    try rw [wg518] at p512
                    try rw [w515] at p512
                    try rw [wg519] at p512
                    try rw [wg520] at p512
                    try rw [wg521] at p512
                    try rw [w516] at p512
                    try rw [w517] at p512
                    try rw [w501] at p512
                    try rw [w502] at p512
                    try rw [w503] at p512
                    try rw [w504] at p512
                    try rw [w505] at p512
                    try rw [w506] at p512
                    try rw [w507] at p512
                    try rw [wg1] at p512
                    try rw [wg2] at p512
                    try rw [wg3] at p512
                    try rw [wg4] at p512
                    try rw [wg5] at p512
                    try rw [wg6] at p512
                    try rw [wg7] at p512
                    try rw [wg518] at p513
                    try rw [w515] at p513
                    try rw [wg519] at p513
                    try rw [wg520] at p513
                    try rw [wg521] at p513
                    try rw [w516] at p513
                    try rw [w517] at p513
                    try rw [w501] at p513
                    try rw [w502] at p513
                    try rw [w503] at p513
                    try rw [w504] at p513
                    try rw [w505] at p513
                    try rw [w506] at p513
                    try rw [w507] at p513
                    try rw [wg1] at p513
                    try rw [wg2] at p513
                    try rw [wg3] at p513
                    try rw [wg4] at p513
                    try rw [wg5] at p513
                    try rw [wg6] at p513
                    try rw [wg7] at p513
                    clear w501 w502 w503 w504 w505 w506 w507
                    have T522 := zTI_fr0 T508 (fun j a b => qm509.1 j (by omega) (zanyF (by simp <;> omega))) (fun j a b => qm509.1 j (by omega) (zanyF (by simp <;> omega))) (qm509.2.1 8 rfl) (qm509.2.1 38 rfl)
                    refine Exists.intro (zrT m509 0) (And.intro (zrT_lt (by unfold zrm; simp only [wg518, w515, wg519, wg520, wg521, w516, w517, wg17, wg18, wg19, wg20, wg21, wg22, wg23, wg1, wg2, wg3, wg4, wg5, wg6, wg7]; (repeat' split) <;> omega) (zrm_0 (by (try rw [wg518]) <;> (try rw [w515]) <;> (try rw [wg519]) <;> (try rw [wg520]) <;> (try rw [wg521]) <;> (try rw [w516]) <;> (try rw [w517]) <;> (try rw [wg17]) <;> (try rw [wg18]) <;> (try rw [wg19]) <;> (try rw [wg20]) <;> (try rw [wg21]) <;> (try rw [wg22]) <;> (try rw [wg23]) <;> (try rw [wg1]) <;> (try rw [wg2]) <;> (try rw [wg3]) <;> (try rw [wg4]) <;> (try rw [wg5]) <;> (try rw [wg6]) <;> (try rw [wg7]) <;> omega))) ?_)
                    exact ⟨_, _, _, _, _, rfl, z514, ⟨by omega, by omega⟩, ⟨by omega, by omega⟩, ⟨by omega, by omega⟩, ⟨by omega, by omega⟩, ⟨by omega, by omega⟩, ⟨rfl, rfl, rfl⟩, (by (try rw [wg518]) <;> (try rw [w515]) <;> (try rw [wg519]) <;> (try rw [wg520]) <;> (try rw [wg521]) <;> (try rw [w516]) <;> (try rw [w517]) <;> (try rw [wg17]) <;> (try rw [wg18]) <;> (try rw [wg19]) <;> (try rw [wg20]) <;> (try rw [wg21]) <;> (try rw [wg22]) <;> (try rw [wg23]) <;> (try rw [wg1]) <;> (try rw [wg2]) <;> (try rw [wg3]) <;> (try rw [wg4]) <;> (try rw [wg5]) <;> (try rw [wg6]) <;> (try rw [wg7]) <;> omega), (by (try rw [wg518]) <;> (try rw [w515]) <;> (try rw [wg519]) <;> (try rw [wg520]) <;> (try rw [wg521]) <;> (try rw [w516]) <;> (try rw [w517]) <;> (try rw [wg17]) <;> (try rw [wg18]) <;> (try rw [wg19]) <;> (try rw [wg20]) <;> (try rw [wg21]) <;> (try rw [wg22]) <;> (try rw [wg23]) <;> (try rw [wg1]) <;> (try rw [wg2]) <;> (try rw [wg3]) <;> (try rw [wg4]) <;> (try rw [wg5]) <;> (try rw [wg6]) <;> (try rw [wg7]) <;> omega), ⟨fun _ => zTI_w1 T522 (by rw [qm509.1 104 (by decide) rfl, em499, zu_at]; decide), fun h => absurd rfl h⟩, (fun h => absurd h (by decide)), (Or.inl rfl), (by have h6 := i6; unfold zrm at h6 ⊢; simp only [wg518, w515, wg519, wg520, wg521, w516, w517, wg17, wg18, wg19, wg20, wg21, wg22, wg23, wg1, wg2, wg3, wg4, wg5, wg6, wg7] at h6 ⊢; (repeat' split at h6) <;> (repeat' split) <;> omega), (by (try rw [wg518]) <;> (try rw [w515]) <;> (try rw [wg519]) <;> (try rw [wg520]) <;> (try rw [wg521]) <;> (try rw [w516]) <;> (try rw [w517]) <;> (try rw [wg17]) <;> (try rw [wg18]) <;> (try rw [wg19]) <;> (try rw [wg20]) <;> (try rw [wg21]) <;> (try rw [wg22]) <;> (try rw [wg23]) <;> (try rw [wg1]) <;> (try rw [wg2]) <;> (try rw [wg3]) <;> (try rw [wg4]) <;> (try rw [wg5]) <;> (try rw [wg6]) <;> (try rw [wg7]) <;> omega), (Or.inr V3), rfl⟩
                  · refine And.intro ⟨by omega, by omega⟩ (And.intro ⟨by omega, by omega⟩ ?_)
                    intro m523 em523
                    have z524 := zfx_r z485 em523 rfl (by decide)
                    have w525 : m523.1 66 ((31 : Nat) : Int) = g489 := by rw [em523]; exact (congrFun (zu_ne (by decide)) _).trans wg489
                    have w526 : m523.1 66 ((30 : Nat) : Int) = g18 := by rw [em523]; exact (congrFun (zu_ne (by decide)) _).trans w486
                    have w527 : m523.1 66 ((33 : Nat) : Int) = g490 := by rw [em523]; exact (congrFun (zu_ne (by decide)) _).trans wg490
                    have w528 : m523.1 66 ((34 : Nat) : Int) = g491 := by rw [em523]; exact (congrFun (zu_ne (by decide)) _).trans wg491
                    have w529 : m523.1 66 ((32 : Nat) : Int) = g492 := by rw [em523]; exact (congrFun (zu_ne (by decide)) _).trans wg492
                    have w530 : m523.1 66 ((38 : Nat) : Int) = (x468 + 1) := by rw [em523]; exact (congrFun (zu_ne (by decide)) _).trans w487
                    have w531 : m523.1 66 ((8 : Nat) : Int) = g23 := by rw [em523]; exact (congrFun (zu_ne (by decide)) _).trans w488
                    clear wg489 w486 wg490 wg491 wg492 w487 w488
                    have T532 := zTI_push T493 hv4.1 em523 rfl (Or.inr (Or.inl rfl)) (fun a b => by omega) O494
                    refine ⟨zk_X9_pass, zm_X9_pass hg d (by omega), rfl, (by (try rw [w525]) <;> (try rw [w526]) <;> (try rw [w527]) <;> (try rw [w528]) <;> (try rw [w529]) <;> (try rw [w530]) <;> (try rw [w531]) <;> (try rw [wg17]) <;> (try rw [wg18]) <;> (try rw [wg19]) <;> (try rw [wg20]) <;> (try rw [wg21]) <;> (try rw [wg22]) <;> (try rw [wg23]) <;> (try rw [wg1]) <;> (try rw [wg2]) <;> (try rw [wg3]) <;> (try rw [wg4]) <;> (try rw [wg5]) <;> (try rw [wg6]) <;> (try rw [wg7]) <;> omega), ?_⟩
                    intro m533 qm533 p534 p535 p536 p537
                    have z538 := zfx_t z524 qm533 rfl rfl
                    have w539 : m533.1 66 ((30 : Nat) : Int) = g18 := (qm533.2.1 30 rfl).trans w526
                    have w540 : m533.1 66 ((38 : Nat) : Int) = (x468 + 1) := (qm533.2.1 38 rfl).trans w530
                    have w541 : m533.1 66 ((8 : Nat) : Int) = g23 := (qm533.2.1 8 rfl).trans w531
                    obtain ⟨g542, wg542⟩ : ∃ z : Int, m533.1 66 ((31 : Nat) : Int) = z := ⟨_, rfl⟩
                    obtain ⟨g543, wg543⟩ : ∃ z : Int, m533.1 66 ((33 : Nat) : Int) = z := ⟨_, rfl⟩
                    obtain ⟨g544, wg544⟩ : ∃ z : Int, m533.1 66 ((34 : Nat) : Int) = z := ⟨_, rfl⟩
                    obtain ⟨g545, wg545⟩ : ∃ z : Int, m533.1 66 ((32 : Nat) : Int) = z := ⟨_, rfl⟩
                    try rw [wg542] at p534
                    try rw [w539] at p534
                    try rw [wg543] at p534
                    try rw [wg544] at p534
                    try rw [wg545] at p534
                    try rw [w540] at p534
                    try rw [w541] at p534
                    try rw [w525] at p534
                    try rw [w526] at p534
                    try rw [w527] at p534
                    try rw [w528] at p534
                    try rw [w529] at p534
                    try rw [w530] at p534
                    try rw [w531] at p534
                    try rw [wg1] at p534
                    try rw [wg2] at p534
                    try rw [wg3] at p534
                    try rw [wg4] at p534
                    try rw [wg5] at p534
                    try rw [wg6] at p534
                    try rw [wg7] at p534
                    try rw [wg542] at p535
                    try rw [w539] at p535
                    try rw [wg543] at p535
                    try rw [wg544] at p535
                    try rw [wg545] at p535
                    try rw [w540] at p535
                    try rw [w541] at p535
                    try rw [w525] at p535
                    try rw [w526] at p535
                    try rw [w527] at p535
                    try rw [w528] at p535
                    try rw [w529] at p535
                    try rw [w530] at p535
                    try rw [w531] at p535
                    try rw [wg1] at p535
                    try rw [wg2] at p535
                    try rw [wg3] at p535
                    try rw [wg4] at p535
                    try rw [wg5] at p535
                    try rw [wg6] at p535
                    try rw [wg7] at p535
                    try rw [wg542] at p536
                    try rw [w539] at p536
                    try rw [wg543] at p536
                    try rw [wg544] at p536
                    try rw [wg545] at p536
                    try rw [w540] at p536
                    try rw [w541] at p536
                    try rw [w525] at p536
                    try rw [w526] at p536
                    try rw [w527] at p536
                    try rw [w528] at p536
                    try rw [w529] at p536
                    try rw [w530] at p536
                    try rw [w531] at p536
                    try rw [wg1] at p536
                    try rw [wg2] at p536
                    try rw [wg3] at p536
                    try rw [wg4] at p536
                    try rw [wg5] at p536
                    try rw [wg6] at p536
                    try rw [wg7] at p536
                    try rw [wg542] at p537
                    try rw [w539] at p537
                    try rw [wg543] at p537
                    try rw [wg544] at p537
                    try rw [wg545] at p537
                    try rw [w540] at p537
                    try rw [w541] at p537
                    try rw [w525] at p537
                    try rw [w526] at p537
                    try rw [w527] at p537
                    try rw [w528] at p537
                    try rw [w529] at p537
                    try rw [w530] at p537
                    try rw [w531] at p537
                    try rw [wg1] at p537
                    try rw [wg2] at p537
                    try rw [wg3] at p537
                    try rw [wg4] at p537
                    try rw [wg5] at p537
                    try rw [wg6] at p537
                    try rw [wg7] at p537
                    clear w525 w526 w527 w528 w529 w530 w531
                    have T546 := zTI_fr0 T532 (fun j a b => qm533.1 j (by omega) (zanyF (by simp <;> omega))) (fun j a b => qm533.1 j (by omega) (zanyF (by simp <;> omega))) (qm533.2.1 8 rfl) (qm533.2.1 38 rfl)
                    refine Exists.intro (zrT m533 0) (And.intro (zrT_lt (by unfold zrm; simp only [wg542, w539, wg543, wg544, wg545, w540, w541, wg17, wg18, wg19, wg20, wg21, wg22, wg23, wg1, wg2, wg3, wg4, wg5, wg6, wg7]; (repeat' split) <;> omega) (zrm_0 (by (try rw [wg542]) <;> (try rw [w539]) <;> (try rw [wg543]) <;> (try rw [wg544]) <;> (try rw [wg545]) <;> (try rw [w540]) <;> (try rw [w541]) <;> (try rw [wg17]) <;> (try rw [wg18]) <;> (try rw [wg19]) <;> (try rw [wg20]) <;> (try rw [wg21]) <;> (try rw [wg22]) <;> (try rw [wg23]) <;> (try rw [wg1]) <;> (try rw [wg2]) <;> (try rw [wg3]) <;> (try rw [wg4]) <;> (try rw [wg5]) <;> (try rw [wg6]) <;> (try rw [wg7]) <;> omega))) ?_)
                    exact ⟨_, _, _, _, _, rfl, z538, ⟨by omega, by omega⟩, ⟨by omega, by omega⟩, ⟨by omega, by omega⟩, ⟨by omega, by omega⟩, ⟨by omega, by omega⟩, ⟨rfl, rfl, rfl⟩, (by (try rw [wg542]) <;> (try rw [w539]) <;> (try rw [wg543]) <;> (try rw [wg544]) <;> (try rw [wg545]) <;> (try rw [w540]) <;> (try rw [w541]) <;> (try rw [wg17]) <;> (try rw [wg18]) <;> (try rw [wg19]) <;> (try rw [wg20]) <;> (try rw [wg21]) <;> (try rw [wg22]) <;> (try rw [wg23]) <;> (try rw [wg1]) <;> (try rw [wg2]) <;> (try rw [wg3]) <;> (try rw [wg4]) <;> (try rw [wg5]) <;> (try rw [wg6]) <;> (try rw [wg7]) <;> omega), (by (try rw [wg542]) <;> (try rw [w539]) <;> (try rw [wg543]) <;> (try rw [wg544]) <;> (try rw [wg545]) <;> (try rw [w540]) <;> (try rw [w541]) <;> (try rw [wg17]) <;> (try rw [wg18]) <;> (try rw [wg19]) <;> (try rw [wg20]) <;> (try rw [wg21]) <;> (try rw [wg22]) <;> (try rw [wg23]) <;> (try rw [wg1]) <;> (try rw [wg2]) <;> (try rw [wg3]) <;> (try rw [wg4]) <;> (try rw [wg5]) <;> (try rw [wg6]) <;> (try rw [wg7]) <;> omega), ⟨fun _ => zTI_w1 T546 (by rw [qm533.1 104 (by decide) rfl, em523, zu_at]; decide), fun h => absurd rfl h⟩, (fun h => absurd h (by decide)), (Or.inl rfl), (by have h6 := i6; unfold zrm at h6 ⊢; simp only [wg542, w539, wg543, wg544, wg545, w540, w541, wg17, wg18, wg19, wg20, wg21, wg22, wg23, wg1, wg2, wg3, wg4, wg5, wg6, wg7] at h6 ⊢; (repeat' split at h6) <;> (repeat' split) <;> omega), (by (try rw [wg542]) <;> (try rw [w539]) <;> (try rw [wg543]) <;> (try rw [wg544]) <;> (try rw [wg545]) <;> (try rw [w540]) <;> (try rw [w541]) <;> (try rw [wg17]) <;> (try rw [wg18]) <;> (try rw [wg19]) <;> (try rw [wg20]) <;> (try rw [wg21]) <;> (try rw [wg22]) <;> (try rw [wg23]) <;> (try rw [wg1]) <;> (try rw [wg2]) <;> (try rw [wg3]) <;> (try rw [wg4]) <;> (try rw [wg5]) <;> (try rw [wg6]) <;> (try rw [wg7]) <;> omega), (Or.inr V3), rfl⟩
                · clear c496
                  intro x547 hx547 kx547 lx547
                  rw [wg492] at hx547
                  refine And.intro ⟨⟨by omega, by omega⟩, ⟨by omega, by omega⟩⟩ (And.intro (fun c548 => ?_) (fun c548 => ?_))
                  · clear c548
                    refine ⟨zk_X9_make, zm_X9_make hg d (by omega), _, _, _, _, rfl, ⟨by omega, by omega⟩, ⟨by omega, by omega⟩, ⟨by omega, by omega⟩, T493.1.1, (zTE_top (zTE_of T493 (by omega) (by omega)) w488 w487 wg7 wg6 hp5.1 (by omega)), ⟨fun h => absurd h (by decide), fun h => absurd h (by decide)⟩, (fun i a b => by omega), ?_⟩
                    intro x549 m550 qm550 kx549 lx549 p551 p552 p553 p554
                    have z555 := zfx_t z485 qm550 rfl rfl
                    have w556 : m550.1 66 ((31 : Nat) : Int) = g489 := (qm550.2.1 31 rfl).trans wg489
                    have w557 : m550.1 66 ((30 : Nat) : Int) = g18 := (qm550.2.1 30 rfl).trans w486
                    have w558 : m550.1 66 ((33 : Nat) : Int) = g490 := (qm550.2.1 33 rfl).trans wg490
                    have w559 : m550.1 66 ((34 : Nat) : Int) = g491 := (qm550.2.1 34 rfl).trans wg491
                    have w560 : m550.1 66 ((32 : Nat) : Int) = g492 := (qm550.2.1 32 rfl).trans wg492
                    have w561 : m550.1 66 ((38 : Nat) : Int) = (x468 + 1) := (qm550.2.1 38 rfl).trans w487
                    obtain ⟨g562, wg562⟩ : ∃ z : Int, m550.1 66 ((8 : Nat) : Int) = z := ⟨_, rfl⟩
                    try rw [w556] at p551
                    try rw [w557] at p551
                    try rw [w558] at p551
                    try rw [w559] at p551
                    try rw [w560] at p551
                    try rw [w561] at p551
                    try rw [wg562] at p551
                    try rw [wg489] at p551
                    try rw [w486] at p551
                    try rw [wg490] at p551
                    try rw [wg491] at p551
                    try rw [wg492] at p551
                    try rw [w487] at p551
                    try rw [w488] at p551
                    try rw [wg1] at p551
                    try rw [wg2] at p551
                    try rw [wg3] at p551
                    try rw [wg4] at p551
                    try rw [wg5] at p551
                    try rw [wg6] at p551
                    try rw [wg7] at p551
                    try rw [w556] at p552
                    try rw [w557] at p552
                    try rw [w558] at p552
                    try rw [w559] at p552
                    try rw [w560] at p552
                    try rw [w561] at p552
                    try rw [wg562] at p552
                    try rw [wg489] at p552
                    try rw [w486] at p552
                    try rw [wg490] at p552
                    try rw [wg491] at p552
                    try rw [wg492] at p552
                    try rw [w487] at p552
                    try rw [w488] at p552
                    try rw [wg1] at p552
                    try rw [wg2] at p552
                    try rw [wg3] at p552
                    try rw [wg4] at p552
                    try rw [wg5] at p552
                    try rw [wg6] at p552
                    try rw [wg7] at p552
                    try rw [w556] at p553
                    try rw [w557] at p553
                    try rw [w558] at p553
                    try rw [w559] at p553
                    try rw [w560] at p553
                    try rw [w561] at p553
                    try rw [wg562] at p553
                    try rw [wg489] at p553
                    try rw [w486] at p553
                    try rw [wg490] at p553
                    try rw [wg491] at p553
                    try rw [wg492] at p553
                    try rw [w487] at p553
                    try rw [w488] at p553
                    try rw [wg1] at p553
                    try rw [wg2] at p553
                    try rw [wg3] at p553
                    try rw [wg4] at p553
                    try rw [wg5] at p553
                    try rw [wg6] at p553
                    try rw [wg7] at p553
                    try rw [w556] at p554
                    try rw [w557] at p554
                    try rw [w558] at p554
                    try rw [w559] at p554
                    try rw [w560] at p554
                    try rw [w561] at p554
                    try rw [wg562] at p554
                    try rw [wg489] at p554
                    try rw [w486] at p554
                    try rw [wg490] at p554
                    try rw [wg491] at p554
                    try rw [wg492] at p554
                    try rw [w487] at p554
                    try rw [w488] at p554
                    try rw [wg1] at p554
                    try rw [wg2] at p554
                    try rw [wg3] at p554
                    try rw [wg4] at p554
                    try rw [wg5] at p554
                    try rw [wg6] at p554
                    try rw [wg7] at p554
                    clear wg489 w486 wg490 wg491 wg492 w487 w488
                    have T563 := (⟨p551, p552, p553, p554⟩ : zMd m480 m550 lo 3 0 0 (m480.1 74) x549)
                    have T564 := zTI_mk T493 (fun j a b => qm550.1 j (by omega) (zanyF (by simp <;> omega))) (qm550.2.1 38 rfl) T563 (zW1_like p552 (fun i a b => by omega) (fun e => by omega) (fun e => by omega) (fun e => by omega) (fun _ => rfl) (fun e => by omega))
                    have X1 := zMd_x T563 T493.1.1
                    have X2 := zMd_s T563 T493.1.1
                    have X3 : zPar m550 pa pe x549 := zPar_like p552 (fun e => by omega) (fun i a b => by omega)
                    have O565 : m550.1 100 v4 = 0 := by rw [qm550.1 100 (by decide) rfl]; exact O494
                    clear T563 p551 p552 p553 p554
                    refine ⟨zk_X9_addArg, zm_X9_addArg hg d (by omega), _, _, rfl, ⟨by omega, by omega⟩, ⟨by omega, by omega⟩, (zTI_cnt T564 (by omega) (by omega) (by decide) w561 wg6 (by omega) hp5.2.1), ?_⟩
                    intro m566 qm566 p567 p568 p569 p570
                    have z571 := zfx_t z555 qm566 rfl rfl
                    have w572 : m566.1 66 ((31 : Nat) : Int) = g489 := (qm566.2.1 31 rfl).trans w556
                    have w573 : m566.1 66 ((30 : Nat) : Int) = g18 := (qm566.2.1 30 rfl).trans w557
                    have w574 : m566.1 66 ((33 : Nat) : Int) = g490 := (qm566.2.1 33 rfl).trans w558
                    have w575 : m566.1 66 ((34 : Nat) : Int) = g491 := (qm566.2.1 34 rfl).trans w559
                    have w576 : m566.1 66 ((32 : Nat) : Int) = g492 := (qm566.2.1 32 rfl).trans w560
                    have w577 : m566.1 66 ((38 : Nat) : Int) = (x468 + 1) := (qm566.2.1 38 rfl).trans w561
                    have w578 : m566.1 66 ((8 : Nat) : Int) = g562 := (qm566.2.1 8 rfl).trans wg562
                    try rw [w572] at p567
                    try rw [w573] at p567
                    try rw [w574] at p567
                    try rw [w575] at p567
                    try rw [w576] at p567
                    try rw [w577] at p567
                    try rw [w578] at p567
                    try rw [w556] at p567
                    try rw [w557] at p567
                    try rw [w558] at p567
                    try rw [w559] at p567
                    try rw [w560] at p567
                    try rw [w561] at p567
                    try rw [wg562] at p567
                    try rw [wg1] at p567
                    try rw [wg2] at p567
                    try rw [wg3] at p567
                    try rw [wg4] at p567
                    try rw [wg5] at p567
                    try rw [wg6] at p567
                    try rw [wg7] at p567
                    try rw [w572] at p568
                    try rw [w573] at p568
                    try rw [w574] at p568
                    try rw [w575] at p568
                    try rw [w576] at p568
                    try rw [w577] at p568
                    try rw [w578] at p568
                    try rw [w556] at p568
                    try rw [w557] at p568
                    try rw [w558] at p568
                    try rw [w559] at p568
                    try rw [w560] at p568
                    try rw [w561] at p568
                    try rw [wg562] at p568
                    try rw [wg1] at p568
                    try rw [wg2] at p568
                    try rw [wg3] at p568
                    try rw [wg4] at p568
                    try rw [wg5] at p568
                    try rw [wg6] at p568
                    try rw [wg7] at p568
                    try rw [w572] at p569
                    try rw [w573] at p569
                    try rw [w574] at p569
                    try rw [w575] at p569
                    try rw [w576] at p569
                    try rw [w577] at p569
                    try rw [w578] at p569
                    try rw [w556] at p569
                    try rw [w557] at p569
                    try rw [w558] at p569
                    try rw [w559] at p569
                    try rw [w560] at p569
                    try rw [w561] at p569
                    try rw [wg562] at p569
                    try rw [wg1] at p569
                    try rw [wg2] at p569
                    try rw [wg3] at p569
                    try rw [wg4] at p569
                    try rw [wg5] at p569
                    try rw [wg6] at p569
                    try rw [wg7] at p569
                    try rw [w572] at p570
                    try rw [w573] at p570
                    try rw [w574] at p570
                    try rw [w575] at p570
                    try rw [w576] at p570
                    try rw [w577] at p570
                    try rw [w578] at p570
                    try rw [w556] at p570
                    try rw [w557] at p570
                    try rw [w558] at p570
                    try rw [w559] at p570
                    try rw [w560] at p570
                    try rw [w561] at p570
                    try rw [wg562] at p570
                    try rw [wg1] at p570
                    try rw [wg2] at p570
                    try rw [wg3] at p570
                    try rw [wg4] at p570
                    try rw [wg5] at p570
                    try rw [wg6] at p570
                    try rw [wg7] at p570
                    clear w556 w557 w558 w559 w560 w561 wg562
                    have T579 := zTI_add1 T564 hv4.1 (fun j a b c => qm566.1 j a (zanyF (by simp <;> omega))) (qm566.2.1 8 rfl) (qm566.2.1 38 rfl) p567 p568 p569 p570 X1 X2 (fun a b => by omega) X3
                    have O580 : m566.1 100 v4 = 0 := by rw [qm566.1 100 (by decide) rfl]; exact O565
                    refine Exists.intro (zrT m566 3) (And.intro (zrT_lt (by unfold zrm; simp only [w572, w573, w574, w575, w576, w577, w578, wg17, wg18, wg19, wg20, wg21, wg22, wg23, wg1, wg2, wg3, wg4, wg5, wg6, wg7]; (repeat' split) <;> omega) (zrm_0 (by (try rw [w572]) <;> (try rw [w573]) <;> (try rw [w574]) <;> (try rw [w575]) <;> (try rw [w576]) <;> (try rw [w577]) <;> (try rw [w578]) <;> (try rw [wg17]) <;> (try rw [wg18]) <;> (try rw [wg19]) <;> (try rw [wg20]) <;> (try rw [wg21]) <;> (try rw [wg22]) <;> (try rw [wg23]) <;> (try rw [wg1]) <;> (try rw [wg2]) <;> (try rw [wg3]) <;> (try rw [wg4]) <;> (try rw [wg5]) <;> (try rw [wg6]) <;> (try rw [wg7]) <;> omega))) ?_)
                    exact ⟨_, _, _, _, _, rfl, z571, ⟨by omega, by omega⟩, ⟨by omega, by omega⟩, ⟨by omega, by omega⟩, ⟨by omega, by omega⟩, ⟨by omega, by omega⟩, ⟨rfl, rfl, rfl⟩, (by (try rw [w572]) <;> (try rw [w573]) <;> (try rw [w574]) <;> (try rw [w575]) <;> (try rw [w576]) <;> (try rw [w577]) <;> (try rw [w578]) <;> (try rw [wg17]) <;> (try rw [wg18]) <;> (try rw [wg19]) <;> (try rw [wg20]) <;> (try rw [wg21]) <;> (try rw [wg22]) <;> (try rw [wg23]) <;> (try rw [wg1]) <;> (try rw [wg2]) <;> (try rw [wg3]) <;> (try rw [wg4]) <;> (try rw [wg5]) <;> (try rw [wg6]) <;> (try rw [wg7]) <;> omega), (by (try rw [w572]) <;> (try rw [w573]) <;> (try rw [w574]) <;> (try rw [w575]) <;> (try rw [w576]) <;> (try rw [w577]) <;> (try rw [w578]) <;> (try rw [wg17]) <;> (try rw [wg18]) <;> (try rw [wg19]) <;> (try rw [wg20]) <;> (try rw [wg21]) <;> (try rw [wg22]) <;> (try rw [wg23]) <;> (try rw [wg1]) <;> (try rw [wg2]) <;> (try rw [wg3]) <;> (try rw [wg4]) <;> (try rw [wg5]) <;> (try rw [wg6]) <;> (try rw [wg7]) <;> omega), ⟨fun h => absurd h (by decide), fun _ => T579⟩, (fun h => O580), (Or.inr (by omega)), (by have h6 := i6; unfold zrm at h6 ⊢; simp only [w572, w573, w574, w575, w576, w577, w578, wg17, wg18, wg19, wg20, wg21, wg22, wg23, wg1, wg2, wg3, wg4, wg5, wg6, wg7] at h6 ⊢; (repeat' split at h6) <;> (repeat' split) <;> omega), (by (try rw [w572]) <;> (try rw [w573]) <;> (try rw [w574]) <;> (try rw [w575]) <;> (try rw [w576]) <;> (try rw [w577]) <;> (try rw [w578]) <;> (try rw [wg17]) <;> (try rw [wg18]) <;> (try rw [wg19]) <;> (try rw [wg20]) <;> (try rw [wg21]) <;> (try rw [wg22]) <;> (try rw [wg23]) <;> (try rw [wg1]) <;> (try rw [wg2]) <;> (try rw [wg3]) <;> (try rw [wg4]) <;> (try rw [wg5]) <;> (try rw [wg6]) <;> (try rw [wg7]) <;> omega), (Or.inr V3), rfl⟩
                  · intro x581 hx581 kx581 lx581
                    rw [wg492] at hx581
                    refine And.intro ⟨⟨by omega, by omega⟩, ⟨by omega, by omega⟩⟩ (And.intro (fun c582 => ?_) (fun c582 => ?_))
                    · clear c582
                      refine And.intro ⟨by omega, by omega⟩ (And.intro ⟨by omega, by omega⟩ ?_)
                      intro m583 em583
                      have z584 := zfx_r z485 em583 rfl (by decide)
                      have w585 : m583.1 66 ((31 : Nat) : Int) = g489 := by rw [em583]; exact (congrFun (zu_ne (by decide)) _).trans wg489
                      have w586 : m583.1 66 ((30 : Nat) : Int) = g18 := by rw [em583]; exact (congrFun (zu_ne (by decide)) _).trans w486
                      have w587 : m583.1 66 ((33 : Nat) : Int) = g490 := by rw [em583]; exact (congrFun (zu_ne (by decide)) _).trans wg490
                      have w588 : m583.1 66 ((34 : Nat) : Int) = g491 := by rw [em583]; exact (congrFun (zu_ne (by decide)) _).trans wg491
                      have w589 : m583.1 66 ((32 : Nat) : Int) = g492 := by rw [em583]; exact (congrFun (zu_ne (by decide)) _).trans wg492
                      have w590 : m583.1 66 ((38 : Nat) : Int) = (x468 + 1) := by rw [em583]; exact (congrFun (zu_ne (by decide)) _).trans w487
                      have w591 : m583.1 66 ((8 : Nat) : Int) = g23 := by rw [em583]; exact (congrFun (zu_ne (by decide)) _).trans w488
                      clear wg489 w486 wg490 wg491 wg492 w487 w488
                      have T592 := zTI_push T493 hv4.1 em583 rfl (Or.inr (Or.inr rfl)) (fun a b => by omega) O494
                      refine ⟨zk_X9_pass, zm_X9_pass hg d (by omega), rfl, (by (try rw [w585]) <;> (try rw [w586]) <;> (try rw [w587]) <;> (try rw [w588]) <;> (try rw [w589]) <;> (try rw [w590]) <;> (try rw [w591]) <;> (try rw [wg17]) <;> (try rw [wg18]) <;> (try rw [wg19]) <;> (try rw [wg20]) <;> (try rw [wg21]) <;> (try rw [wg22]) <;> (try rw [wg23]) <;> (try rw [wg1]) <;> (try rw [wg2]) <;> (try rw [wg3]) <;> (try rw [wg4]) <;> (try rw [wg5]) <;> (try rw [wg6]) <;> (try rw [wg7]) <;> omega), ?_⟩
                      intro m593 qm593 p594 p595 p596 p597
                      have z598 := zfx_t z584 qm593 rfl rfl
                      have w599 : m593.1 66 ((30 : Nat) : Int) = g18 := (qm593.2.1 30 rfl).trans w586
                      have w600 : m593.1 66 ((38 : Nat) : Int) = (x468 + 1) := (qm593.2.1 38 rfl).trans w590
                      have w601 : m593.1 66 ((8 : Nat) : Int) = g23 := (qm593.2.1 8 rfl).trans w591
                      obtain ⟨g602, wg602⟩ : ∃ z : Int, m593.1 66 ((31 : Nat) : Int) = z := ⟨_, rfl⟩
                      obtain ⟨g603, wg603⟩ : ∃ z : Int, m593.1 66 ((33 : Nat) : Int) = z := ⟨_, rfl⟩
                      obtain ⟨g604, wg604⟩ : ∃ z : Int, m593.1 66 ((34 : Nat) : Int) = z := ⟨_, rfl⟩
                      obtain ⟨g605, wg605⟩ : ∃ z : Int, m593.1 66 ((32 : Nat) : Int) = z := ⟨_, rfl⟩
                      try rw [wg602] at p594
                      try rw [w599] at p594
                      try rw [wg603] at p594
                      try rw [wg604] at p594
                      try rw [wg605] at p594
                      try rw [w600] at p594
                      try rw [w601] at p594
                      try rw [w585] at p594
                      try rw [w586] at p594
                      try rw [w587] at p594
                      try rw [w588] at p594
                      try rw [w589] at p594
                      try rw [w590] at p594
                      try rw [w591] at p594
                      try rw [wg1] at p594
                      try rw [wg2] at p594
                      try rw [wg3] at p594
                      try rw [wg4] at p594
                      try rw [wg5] at p594
                      try rw [wg6] at p594
                      try rw [wg7] at p594
                      try rw [wg602] at p595
                      try rw [w599] at p595
                      try rw [wg603] at p595
                      try rw [wg604] at p595
                      try rw [wg605] at p595
                      try rw [w600] at p595
                      try rw [w601] at p595
                      try rw [w585] at p595
                      try rw [w586] at p595
                      try rw [w587] at p595
                      try rw [w588] at p595
                      try rw [w589] at p595
                      try rw [w590] at p595
                      try rw [w591] at p595
                      try rw [wg1] at p595
                      try rw [wg2] at p595
                      try rw [wg3] at p595
                      try rw [wg4] at p595
                      try rw [wg5] at p595
                      try rw [wg6] at p595
                      try rw [wg7] at p595
                      try rw [wg602] at p596
                      try rw [w599] at p596
                      try rw [wg603] at p596
                      try rw [wg604] at p596
                      try rw [wg605] at p596
                      try rw [w600] at p596
                      try rw [w601] at p596
                      try rw [w585] at p596
                      try rw [w586] at p596
                      try rw [w587] at p596
                      try rw [w588] at p596
                      try rw [w589] at p596
                      try rw [w590] at p596
                      try rw [w591] at p596
                      try rw [wg1] at p596
                      try rw [wg2] at p596
                      try rw [wg3] at p596
                      try rw [wg4] at p596
                      try rw [wg5] at p596
                      try rw [wg6] at p596
                      try rw [wg7] at p596
                      try rw [wg602] at p597
                      try rw [w599] at p597
                      try rw [wg603] at p597
                      try rw [wg604] at p597
                      try rw [wg605] at p597
                      try rw [w600] at p597
                      try rw [w601] at p597
                      try rw [w585] at p597
                      try rw [w586] at p597
                      try rw [w587] at p597
                      try rw [w588] at p597
                      try rw [w589] at p597
                      try rw [w590] at p597
                      try rw [w591] at p597
                      try rw [wg1] at p597
                      try rw [wg2] at p597
                      try rw [wg3] at p597
                      try rw [wg4] at p597
                      try rw [wg5] at p597
                      try rw [wg6] at p597
                      try rw [wg7] at p597
                      clear w585 w586 w587 w588 w589 w590 w591
                      have T606 := zTI_fr0 T592 (fun j a b => qm593.1 j (by omega) (zanyF (by simp <;> omega))) (fun j a b => qm593.1 j (by omega) (zanyF (by simp <;> omega))) (qm593.2.1 8 rfl) (qm593.2.1 38 rfl)
                      refine Exists.intro (zrT m593 0) (And.intro (zrT_lt (by unfold zrm; simp only [wg602, w599, wg603, wg604, wg605, w600, w601, wg17, wg18, wg19, wg20, wg21, wg22, wg23, wg1, wg2, wg3, wg4, wg5, wg6, wg7]; (repeat' split) <;> omega) (zrm_0 (by (try rw [wg602]) <;> (try rw [w599]) <;> (try rw [wg603]) <;> (try rw [wg604]) <;> (try rw [wg605]) <;> (try rw [w600]) <;> (try rw [w601]) <;> (try rw [wg17]) <;> (try rw [wg18]) <;> (try rw [wg19]) <;> (try rw [wg20]) <;> (try rw [wg21]) <;> (try rw [wg22]) <;> (try rw [wg23]) <;> (try rw [wg1]) <;> (try rw [wg2]) <;> (try rw [wg3]) <;> (try rw [wg4]) <;> (try rw [wg5]) <;> (try rw [wg6]) <;> (try rw [wg7]) <;> omega))) ?_)
                      exact ⟨_, _, _, _, _, rfl, z598, ⟨by omega, by omega⟩, ⟨by omega, by omega⟩, ⟨by omega, by omega⟩, ⟨by omega, by omega⟩, ⟨by omega, by omega⟩, ⟨rfl, rfl, rfl⟩, (by (try rw [wg602]) <;> (try rw [w599]) <;> (try rw [wg603]) <;> (try rw [wg604]) <;> (try rw [wg605]) <;> (try rw [w600]) <;> (try rw [w601]) <;> (try rw [wg17]) <;> (try rw [wg18]) <;> (try rw [wg19]) <;> (try rw [wg20]) <;> (try rw [wg21]) <;> (try rw [wg22]) <;> (try rw [wg23]) <;> (try rw [wg1]) <;> (try rw [wg2]) <;> (try rw [wg3]) <;> (try rw [wg4]) <;> (try rw [wg5]) <;> (try rw [wg6]) <;> (try rw [wg7]) <;> omega), (by (try rw [wg602]) <;> (try rw [w599]) <;> (try rw [wg603]) <;> (try rw [wg604]) <;> (try rw [wg605]) <;> (try rw [w600]) <;> (try rw [w601]) <;> (try rw [wg17]) <;> (try rw [wg18]) <;> (try rw [wg19]) <;> (try rw [wg20]) <;> (try rw [wg21]) <;> (try rw [wg22]) <;> (try rw [wg23]) <;> (try rw [wg1]) <;> (try rw [wg2]) <;> (try rw [wg3]) <;> (try rw [wg4]) <;> (try rw [wg5]) <;> (try rw [wg6]) <;> (try rw [wg7]) <;> omega), ⟨fun _ => zTI_w1 T606 (by rw [qm593.1 104 (by decide) rfl, em583, zu_at]; decide), fun h => absurd rfl h⟩, (fun h => absurd h (by decide)), (Or.inl rfl), (by have h6 := i6; unfold zrm at h6 ⊢; simp only [wg602, w599, wg603, wg604, wg605, w600, w601, wg17, wg18, wg19, wg20, wg21, wg22, wg23, wg1, wg2, wg3, wg4, wg5, wg6, wg7] at h6 ⊢; (repeat' split at h6) <;> (repeat' split) <;> omega), (by (try rw [wg602]) <;> (try rw [w599]) <;> (try rw [wg603]) <;> (try rw [wg604]) <;> (try rw [wg605]) <;> (try rw [w600]) <;> (try rw [w601]) <;> (try rw [wg17]) <;> (try rw [wg18]) <;> (try rw [wg19]) <;> (try rw [wg20]) <;> (try rw [wg21]) <;> (try rw [wg22]) <;> (try rw [wg23]) <;> (try rw [wg1]) <;> (try rw [wg2]) <;> (try rw [wg3]) <;> (try rw [wg4]) <;> (try rw [wg5]) <;> (try rw [wg6]) <;> (try rw [wg7]) <;> omega), (Or.inr V3), rfl⟩
                    · refine And.intro ⟨by omega, by omega⟩ (And.intro ⟨by omega, by omega⟩ ?_)
                      intro m607 em607
                      have z608 := zfx_r z485 em607 rfl (by decide)
                      have w609 : m607.1 66 ((31 : Nat) : Int) = g489 := by rw [em607]; exact (congrFun (zu_ne (by decide)) _).trans wg489
                      have w610 : m607.1 66 ((30 : Nat) : Int) = g18 := by rw [em607]; exact (congrFun (zu_ne (by decide)) _).trans w486
                      have w611 : m607.1 66 ((33 : Nat) : Int) = g490 := by rw [em607]; exact (congrFun (zu_ne (by decide)) _).trans wg490
                      have w612 : m607.1 66 ((34 : Nat) : Int) = g491 := by rw [em607]; exact (congrFun (zu_ne (by decide)) _).trans wg491
                      have w613 : m607.1 66 ((32 : Nat) : Int) = g492 := by rw [em607]; exact (congrFun (zu_ne (by decide)) _).trans wg492
                      have w614 : m607.1 66 ((38 : Nat) : Int) = (x468 + 1) := by rw [em607]; exact (congrFun (zu_ne (by decide)) _).trans w487
                      have w615 : m607.1 66 ((8 : Nat) : Int) = g23 := by rw [em607]; exact (congrFun (zu_ne (by decide)) _).trans w488
                      clear wg489 w486 wg490 wg491 wg492 w487 w488
                      have T616 := zTI_push T493 hv4.1 em607 rfl (Or.inr (Or.inl rfl)) (fun a b => by omega) O494
                      refine ⟨zk_X9_pass, zm_X9_pass hg d (by omega), rfl, (by (try rw [w609]) <;> (try rw [w610]) <;> (try rw [w611]) <;> (try rw [w612]) <;> (try rw [w613]) <;> (try rw [w614]) <;> (try rw [w615]) <;> (try rw [wg17]) <;> (try rw [wg18]) <;> (try rw [wg19]) <;> (try rw [wg20]) <;> (try rw [wg21]) <;> (try rw [wg22]) <;> (try rw [wg23]) <;> (try rw [wg1]) <;> (try rw [wg2]) <;> (try rw [wg3]) <;> (try rw [wg4]) <;> (try rw [wg5]) <;> (try rw [wg6]) <;> (try rw [wg7]) <;> omega), ?_⟩
                      intro m617 qm617 p618 p619 p620 p621
                      have z622 := zfx_t z608 qm617 rfl rfl
                      have w623 : m617.1 66 ((30 : Nat) : Int) = g18 := (qm617.2.1 30 rfl).trans w610
                      have w624 : m617.1 66 ((38 : Nat) : Int) = (x468 + 1) := (qm617.2.1 38 rfl).trans w614
                      have w625 : m617.1 66 ((8 : Nat) : Int) = g23 := (qm617.2.1 8 rfl).trans w615
                      obtain ⟨g626, wg626⟩ : ∃ z : Int, m617.1 66 ((31 : Nat) : Int) = z := ⟨_, rfl⟩
                      obtain ⟨g627, wg627⟩ : ∃ z : Int, m617.1 66 ((33 : Nat) : Int) = z := ⟨_, rfl⟩
                      obtain ⟨g628, wg628⟩ : ∃ z : Int, m617.1 66 ((34 : Nat) : Int) = z := ⟨_, rfl⟩
                      obtain ⟨g629, wg629⟩ : ∃ z : Int, m617.1 66 ((32 : Nat) : Int) = z := ⟨_, rfl⟩
                      try rw [wg626] at p618
                      try rw [w623] at p618
                      try rw [wg627] at p618
                      try rw [wg628] at p618
                      try rw [wg629] at p618
                      try rw [w624] at p618
                      try rw [w625] at p618
                      try rw [w609] at p618
                      try rw [w610] at p618
                      try rw [w611] at p618
                      try rw [w612] at p618
                      try rw [w613] at p618
                      try rw [w614] at p618
                      try rw [w615] at p618
                      try rw [wg1] at p618
                      try rw [wg2] at p618
                      try rw [wg3] at p618
                      try rw [wg4] at p618
                      try rw [wg5] at p618
                      try rw [wg6] at p618
                      try rw [wg7] at p618
                      try rw [wg626] at p619
                      try rw [w623] at p619
                      try rw [wg627] at p619
                      try rw [wg628] at p619
                      try rw [wg629] at p619
                      try rw [w624] at p619
                      try rw [w625] at p619
                      try rw [w609] at p619
                      try rw [w610] at p619
                      try rw [w611] at p619
                      try rw [w612] at p619
                      try rw [w613] at p619
                      try rw [w614] at p619
                      try rw [w615] at p619
                      try rw [wg1] at p619
                      try rw [wg2] at p619
                      try rw [wg3] at p619
                      try rw [wg4] at p619
                      try rw [wg5] at p619
                      try rw [wg6] at p619
                      try rw [wg7] at p619
                      try rw [wg626] at p620
                      try rw [w623] at p620
                      try rw [wg627] at p620
                      try rw [wg628] at p620
                      try rw [wg629] at p620
                      try rw [w624] at p620
                      try rw [w625] at p620
                      try rw [w609] at p620
                      try rw [w610] at p620
                      try rw [w611] at p620
                      try rw [w612] at p620
                      try rw [w613] at p620
                      try rw [w614] at p620
                      try rw [w615] at p620
                      try rw [wg1] at p620
                      try rw [wg2] at p620
                      try rw [wg3] at p620
                      try rw [wg4] at p620
                      try rw [wg5] at p620
                      try rw [wg6] at p620
                      try rw [wg7] at p620
                      try rw [wg626] at p621
                      try rw [w623] at p621
                      try rw [wg627] at p621
                      try rw [wg628] at p621
                      try rw [wg629] at p621
                      try rw [w624] at p621
                      try rw [w625] at p621
                      try rw [w609] at p621
                      try rw [w610] at p621
                      try rw [w611] at p621
                      try rw [w612] at p621
                      try rw [w613] at p621
                      try rw [w614] at p621
                      try rw [w615] at p621
                      try rw [wg1] at p621
                      try rw [wg2] at p621
                      try rw [wg3] at p621
                      try rw [wg4] at p621
                      try rw [wg5] at p621
                      try rw [wg6] at p621
                      try rw [wg7] at p621
                      clear w609 w610 w611 w612 w613 w614 w615
                      have T630 := zTI_fr0 T616 (fun j a b => qm617.1 j (by omega) (zanyF (by simp <;> omega))) (fun j a b => qm617.1 j (by omega) (zanyF (by simp <;> omega))) (qm617.2.1 8 rfl) (qm617.2.1 38 rfl)
                      refine Exists.intro (zrT m617 0) (And.intro (zrT_lt (by unfold zrm; simp only [wg626, w623, wg627, wg628, wg629, w624, w625, wg17, wg18, wg19, wg20, wg21, wg22, wg23, wg1, wg2, wg3, wg4, wg5, wg6, wg7]; (repeat' split) <;> omega) (zrm_0 (by (try rw [wg626]) <;> (try rw [w623]) <;> (try rw [wg627]) <;> (try rw [wg628]) <;> (try rw [wg629]) <;> (try rw [w624]) <;> (try rw [w625]) <;> (try rw [wg17]) <;> (try rw [wg18]) <;> (try rw [wg19]) <;> (try rw [wg20]) <;> (try rw [wg21]) <;> (try rw [wg22]) <;> (try rw [wg23]) <;> (try rw [wg1]) <;> (try rw [wg2]) <;> (try rw [wg3]) <;> (try rw [wg4]) <;> (try rw [wg5]) <;> (try rw [wg6]) <;> (try rw [wg7]) <;> omega))) ?_)
                      exact ⟨_, _, _, _, _, rfl, z622, ⟨by omega, by omega⟩, ⟨by omega, by omega⟩, ⟨by omega, by omega⟩, ⟨by omega, by omega⟩, ⟨by omega, by omega⟩, ⟨rfl, rfl, rfl⟩, (by (try rw [wg626]) <;> (try rw [w623]) <;> (try rw [wg627]) <;> (try rw [wg628]) <;> (try rw [wg629]) <;> (try rw [w624]) <;> (try rw [w625]) <;> (try rw [wg17]) <;> (try rw [wg18]) <;> (try rw [wg19]) <;> (try rw [wg20]) <;> (try rw [wg21]) <;> (try rw [wg22]) <;> (try rw [wg23]) <;> (try rw [wg1]) <;> (try rw [wg2]) <;> (try rw [wg3]) <;> (try rw [wg4]) <;> (try rw [wg5]) <;> (try rw [wg6]) <;> (try rw [wg7]) <;> omega), (by (try rw [wg626]) <;> (try rw [w623]) <;> (try rw [wg627]) <;> (try rw [wg628]) <;> (try rw [wg629]) <;> (try rw [w624]) <;> (try rw [w625]) <;> (try rw [wg17]) <;> (try rw [wg18]) <;> (try rw [wg19]) <;> (try rw [wg20]) <;> (try rw [wg21]) <;> (try rw [wg22]) <;> (try rw [wg23]) <;> (try rw [wg1]) <;> (try rw [wg2]) <;> (try rw [wg3]) <;> (try rw [wg4]) <;> (try rw [wg5]) <;> (try rw [wg6]) <;> (try rw [wg7]) <;> omega), ⟨fun _ => zTI_w1 T630 (by rw [qm617.1 104 (by decide) rfl, em607, zu_at]; decide), fun h => absurd rfl h⟩, (fun h => absurd h (by decide)), (Or.inl rfl), (by have h6 := i6; unfold zrm at h6 ⊢; simp only [wg626, w623, wg627, wg628, wg629, w624, w625, wg17, wg18, wg19, wg20, wg21, wg22, wg23, wg1, wg2, wg3, wg4, wg5, wg6, wg7] at h6 ⊢; (repeat' split at h6) <;> (repeat' split) <;> omega), (by (try rw [wg626]) <;> (try rw [w623]) <;> (try rw [wg627]) <;> (try rw [wg628]) <;> (try rw [wg629]) <;> (try rw [w624]) <;> (try rw [w625]) <;> (try rw [wg17]) <;> (try rw [wg18]) <;> (try rw [wg19]) <;> (try rw [wg20]) <;> (try rw [wg21]) <;> (try rw [wg22]) <;> (try rw [wg23]) <;> (try rw [wg1]) <;> (try rw [wg2]) <;> (try rw [wg3]) <;> (try rw [wg4]) <;> (try rw [wg5]) <;> (try rw [wg6]) <;> (try rw [wg7]) <;> omega), (Or.inr V3), rfl⟩
              · refine ⟨zk_X9_fail, zm_X9_fail hg d (by omega), _, rfl, ⟨by omega, by omega⟩, ?_⟩
                intro x631 m632 qm632 kx631 lx631
                have z633 := zfx_t z0 qm632 rfl rfl
                have w634 : m632.1 66 ((31 : Nat) : Int) = g17 := (qm632.2.1 31 rfl).trans wg17
                have w635 : m632.1 66 ((30 : Nat) : Int) = g18 := (qm632.2.1 30 rfl).trans wg18
                have w636 : m632.1 66 ((33 : Nat) : Int) = g19 := (qm632.2.1 33 rfl).trans wg19
                have w637 : m632.1 66 ((34 : Nat) : Int) = g20 := (qm632.2.1 34 rfl).trans wg20
                have w638 : m632.1 66 ((32 : Nat) : Int) = g21 := (qm632.2.1 32 rfl).trans wg21
                have w639 : m632.1 66 ((38 : Nat) : Int) = g22 := (qm632.2.1 38 rfl).trans wg22
                have w640 : m632.1 66 ((8 : Nat) : Int) = g23 := (qm632.2.1 8 rfl).trans wg23
                exact And.intro trivial (And.intro ⟨by omega, by omega⟩ (hQ _ _ z633 (by omega) (by omega) (by (try rw [w634]) <;> (try rw [w635]) <;> (try rw [w636]) <;> (try rw [w637]) <;> (try rw [w638]) <;> (try rw [w639]) <;> (try rw [w640]) <;> (try rw [wg17]) <;> (try rw [wg18]) <;> (try rw [wg19]) <;> (try rw [wg20]) <;> (try rw [wg21]) <;> (try rw [wg22]) <;> (try rw [wg23]) <;> (try rw [wg1]) <;> (try rw [wg2]) <;> (try rw [wg3]) <;> (try rw [wg4]) <;> (try rw [wg5]) <;> (try rw [wg6]) <;> (try rw [wg7]) <;> omega) (by (try rw [w634]) <;> (try rw [w635]) <;> (try rw [w636]) <;> (try rw [w637]) <;> (try rw [w638]) <;> (try rw [w639]) <;> (try rw [w640]) <;> (try rw [wg17]) <;> (try rw [wg18]) <;> (try rw [wg19]) <;> (try rw [wg20]) <;> (try rw [wg21]) <;> (try rw [wg22]) <;> (try rw [wg23]) <;> (try rw [wg1]) <;> (try rw [wg2]) <;> (try rw [wg3]) <;> (try rw [wg4]) <;> (try rw [wg5]) <;> (try rw [wg6]) <;> (try rw [wg7]) <;> omega) (zTE_fr (zTE_of T287 (by omega) (by have := zwb_nn m0 v4; omega)) (fun j a b => qm632.1 j (by omega) (zanyF (by simp <;> omega))) (qm632.2.1 8 rfl) (by (try rw [w634]) <;> (try rw [w635]) <;> (try rw [w636]) <;> (try rw [w637]) <;> (try rw [w638]) <;> (try rw [w639]) <;> (try rw [w640]) <;> (try rw [wg17]) <;> (try rw [wg18]) <;> (try rw [wg19]) <;> (try rw [wg20]) <;> (try rw [wg21]) <;> (try rw [wg22]) <;> (try rw [wg23]) <;> (try rw [wg1]) <;> (try rw [wg2]) <;> (try rw [wg3]) <;> (try rw [wg4]) <;> (try rw [wg5]) <;> (try rw [wg6]) <;> (try rw [wg7]) <;> omega)) (by (try rw [w634]) <;> (try rw [w635]) <;> (try rw [w636]) <;> (try rw [w637]) <;> (try rw [w638]) <;> (try rw [w639]) <;> (try rw [w640]) <;> (try rw [wg17]) <;> (try rw [wg18]) <;> (try rw [wg19]) <;> (try rw [wg20]) <;> (try rw [wg21]) <;> (try rw [wg22]) <;> (try rw [wg23]) <;> (try rw [wg1]) <;> (try rw [wg2]) <;> (try rw [wg3]) <;> (try rw [wg4]) <;> (try rw [wg5]) <;> (try rw [wg6]) <;> (try rw [wg7]) <;> omega) (Or.inl rfl) (Or.inl rfl) (by omega)))
          · refine ⟨zk_X9_fail, zm_X9_fail hg d (by omega), _, rfl, ⟨by omega, by omega⟩, ?_⟩
            intro x641 m642 qm642 kx641 lx641
            have z643 := zfx_t z0 qm642 rfl rfl
            have w644 : m642.1 66 ((31 : Nat) : Int) = g17 := (qm642.2.1 31 rfl).trans wg17
            have w645 : m642.1 66 ((30 : Nat) : Int) = g18 := (qm642.2.1 30 rfl).trans wg18
            have w646 : m642.1 66 ((33 : Nat) : Int) = g19 := (qm642.2.1 33 rfl).trans wg19
            have w647 : m642.1 66 ((34 : Nat) : Int) = g20 := (qm642.2.1 34 rfl).trans wg20
            have w648 : m642.1 66 ((32 : Nat) : Int) = g21 := (qm642.2.1 32 rfl).trans wg21
            have w649 : m642.1 66 ((38 : Nat) : Int) = g22 := (qm642.2.1 38 rfl).trans wg22
            have w650 : m642.1 66 ((8 : Nat) : Int) = g23 := (qm642.2.1 8 rfl).trans wg23
            exact And.intro trivial (And.intro ⟨by omega, by omega⟩ (hQ _ _ z643 (by omega) (by omega) (by (try rw [w644]) <;> (try rw [w645]) <;> (try rw [w646]) <;> (try rw [w647]) <;> (try rw [w648]) <;> (try rw [w649]) <;> (try rw [w650]) <;> (try rw [wg17]) <;> (try rw [wg18]) <;> (try rw [wg19]) <;> (try rw [wg20]) <;> (try rw [wg21]) <;> (try rw [wg22]) <;> (try rw [wg23]) <;> (try rw [wg1]) <;> (try rw [wg2]) <;> (try rw [wg3]) <;> (try rw [wg4]) <;> (try rw [wg5]) <;> (try rw [wg6]) <;> (try rw [wg7]) <;> omega) (by (try rw [w644]) <;> (try rw [w645]) <;> (try rw [w646]) <;> (try rw [w647]) <;> (try rw [w648]) <;> (try rw [w649]) <;> (try rw [w650]) <;> (try rw [wg17]) <;> (try rw [wg18]) <;> (try rw [wg19]) <;> (try rw [wg20]) <;> (try rw [wg21]) <;> (try rw [wg22]) <;> (try rw [wg23]) <;> (try rw [wg1]) <;> (try rw [wg2]) <;> (try rw [wg3]) <;> (try rw [wg4]) <;> (try rw [wg5]) <;> (try rw [wg6]) <;> (try rw [wg7]) <;> omega) (zTE_fr (zTE_of T287 (by omega) (by have := zwb_nn m0 v4; omega)) (fun j a b => qm642.1 j (by omega) (zanyF (by simp <;> omega))) (qm642.2.1 8 rfl) (by (try rw [w644]) <;> (try rw [w645]) <;> (try rw [w646]) <;> (try rw [w647]) <;> (try rw [w648]) <;> (try rw [w649]) <;> (try rw [w650]) <;> (try rw [wg17]) <;> (try rw [wg18]) <;> (try rw [wg19]) <;> (try rw [wg20]) <;> (try rw [wg21]) <;> (try rw [wg22]) <;> (try rw [wg23]) <;> (try rw [wg1]) <;> (try rw [wg2]) <;> (try rw [wg3]) <;> (try rw [wg4]) <;> (try rw [wg5]) <;> (try rw [wg6]) <;> (try rw [wg7]) <;> omega)) (by (try rw [w644]) <;> (try rw [w645]) <;> (try rw [w646]) <;> (try rw [w647]) <;> (try rw [w648]) <;> (try rw [w649]) <;> (try rw [w650]) <;> (try rw [wg17]) <;> (try rw [wg18]) <;> (try rw [wg19]) <;> (try rw [wg20]) <;> (try rw [wg21]) <;> (try rw [wg22]) <;> (try rw [wg23]) <;> (try rw [wg1]) <;> (try rw [wg2]) <;> (try rw [wg3]) <;> (try rw [wg4]) <;> (try rw [wg5]) <;> (try rw [wg6]) <;> (try rw [wg7]) <;> omega) (Or.inl rfl) (Or.inl rfl) (by omega)))
    · have T651 := i3.1 (by assumption)
      clear i3 i4
      refine ⟨zk_X9_openType, zm_X9_openType hg d (by omega), _, _, _, _, rfl, ⟨by omega, by omega⟩, ⟨by omega, by omega⟩, ⟨by omega, by omega⟩, ⟨by omega, by omega⟩, (by (try rw [wg17]) <;> (try rw [wg18]) <;> (try rw [wg19]) <;> (try rw [wg20]) <;> (try rw [wg21]) <;> (try rw [wg22]) <;> (try rw [wg23]) <;> (try rw [wg1]) <;> (try rw [wg2]) <;> (try rw [wg3]) <;> (try rw [wg4]) <;> (try rw [wg5]) <;> (try rw [wg6]) <;> (try rw [wg7]) <;> omega), ?_⟩
      intro x652 m653 qm653 kx652 lx652 p654 p655 p656 p657 p658 p659 p660
      have z661 := zfx_t z0 qm653 rfl rfl
      have w662 : m653.1 66 ((30 : Nat) : Int) = g18 := (qm653.2.1 30 rfl).trans wg18
      have w663 : m653.1 66 ((8 : Nat) : Int) = g23 := (qm653.2.1 8 rfl).trans wg23
      obtain ⟨g664, wg664⟩ : ∃ z : Int, m653.1 66 ((31 : Nat) : Int) = z := ⟨_, rfl⟩
      obtain ⟨g665, wg665⟩ : ∃ z : Int, m653.1 66 ((33 : Nat) : Int) = z := ⟨_, rfl⟩
      obtain ⟨g666, wg666⟩ : ∃ z : Int, m653.1 66 ((34 : Nat) : Int) = z := ⟨_, rfl⟩
      obtain ⟨g667, wg667⟩ : ∃ z : Int, m653.1 66 ((32 : Nat) : Int) = z := ⟨_, rfl⟩
      obtain ⟨g668, wg668⟩ : ∃ z : Int, m653.1 66 ((38 : Nat) : Int) = z := ⟨_, rfl⟩
      try rw [wg664] at p654
      try rw [w662] at p654
      try rw [wg665] at p654
      try rw [wg666] at p654
      try rw [wg667] at p654
      try rw [wg668] at p654
      try rw [w663] at p654
      try rw [wg17] at p654
      try rw [wg18] at p654
      try rw [wg19] at p654
      try rw [wg20] at p654
      try rw [wg21] at p654
      try rw [wg22] at p654
      try rw [wg23] at p654
      try rw [wg1] at p654
      try rw [wg2] at p654
      try rw [wg3] at p654
      try rw [wg4] at p654
      try rw [wg5] at p654
      try rw [wg6] at p654
      try rw [wg7] at p654
      try rw [wg664] at p655
      try rw [w662] at p655
      try rw [wg665] at p655
      try rw [wg666] at p655
      try rw [wg667] at p655
      try rw [wg668] at p655
      try rw [w663] at p655
      try rw [wg17] at p655
      try rw [wg18] at p655
      try rw [wg19] at p655
      try rw [wg20] at p655
      try rw [wg21] at p655
      try rw [wg22] at p655
      try rw [wg23] at p655
      try rw [wg1] at p655
      try rw [wg2] at p655
      try rw [wg3] at p655
      try rw [wg4] at p655
      try rw [wg5] at p655
      try rw [wg6] at p655
      try rw [wg7] at p655
      try rw [wg664] at p656
      try rw [w662] at p656
      try rw [wg665] at p656
      try rw [wg666] at p656
      try rw [wg667] at p656
      try rw [wg668] at p656
      try rw [w663] at p656
      try rw [wg17] at p656
      try rw [wg18] at p656
      try rw [wg19] at p656
      try rw [wg20] at p656
      try rw [wg21] at p656
      try rw [wg22] at p656
      try rw [wg23] at p656
      try rw [wg1] at p656
      try rw [wg2] at p656
      try rw [wg3] at p656
      try rw [wg4] at p656
      try rw [wg5] at p656
      try rw [wg6] at p656
      try rw [wg7] at p656
      try rw [wg664] at p657
      try rw [w662] at p657
      try rw [wg665] at p657
      try rw [wg666] at p657
      try rw [wg667] at p657
      try rw [wg668] at p657
      try rw [w663] at p657
      try rw [wg17] at p657
      try rw [wg18] at p657
      try rw [wg19] at p657
      try rw [wg20] at p657
      try rw [wg21] at p657
      try rw [wg22] at p657
      try rw [wg23] at p657
      try rw [wg1] at p657
      try rw [wg2] at p657
      try rw [wg3] at p657
      try rw [wg4] at p657
      try rw [wg5] at p657
      try rw [wg6] at p657
      try rw [wg7] at p657
      try rw [wg664] at p658
      try rw [w662] at p658
      try rw [wg665] at p658
      try rw [wg666] at p658
      try rw [wg667] at p658
      try rw [wg668] at p658
      try rw [w663] at p658
      try rw [wg17] at p658
      try rw [wg18] at p658
      try rw [wg19] at p658
      try rw [wg20] at p658
      try rw [wg21] at p658
      try rw [wg22] at p658
      try rw [wg23] at p658
      try rw [wg1] at p658
      try rw [wg2] at p658
      try rw [wg3] at p658
      try rw [wg4] at p658
      try rw [wg5] at p658
      try rw [wg6] at p658
      try rw [wg7] at p658
      try rw [wg664] at p659
      try rw [w662] at p659
      try rw [wg665] at p659
      try rw [wg666] at p659
      try rw [wg667] at p659
      try rw [wg668] at p659
      try rw [w663] at p659
      try rw [wg17] at p659
      try rw [wg18] at p659
      try rw [wg19] at p659
      try rw [wg20] at p659
      try rw [wg21] at p659
      try rw [wg22] at p659
      try rw [wg23] at p659
      try rw [wg1] at p659
      try rw [wg2] at p659
      try rw [wg3] at p659
      try rw [wg4] at p659
      try rw [wg5] at p659
      try rw [wg6] at p659
      try rw [wg7] at p659
      try rw [wg664] at p660
      try rw [w662] at p660
      try rw [wg665] at p660
      try rw [wg666] at p660
      try rw [wg667] at p660
      try rw [wg668] at p660
      try rw [w663] at p660
      try rw [wg17] at p660
      try rw [wg18] at p660
      try rw [wg19] at p660
      try rw [wg20] at p660
      try rw [wg21] at p660
      try rw [wg22] at p660
      try rw [wg23] at p660
      try rw [wg1] at p660
      try rw [wg2] at p660
      try rw [wg3] at p660
      try rw [wg4] at p660
      try rw [wg5] at p660
      try rw [wg6] at p660
      try rw [wg7] at p660
      refine And.intro ⟨by omega, by omega⟩ (And.intro (fun c669 => ?_) (fun c669 => ?_))
      · have P3 := p657 (by omega)
        have P5 := p659 (by omega)
        have P6 := p660 (by omega)
        have V3 : v3 = 0 := by rcases (show v4 = 0 ∨ v4 ≠ 0 by omega) with h | h <;> first | exact (P6 h).2.2 | omega
        rw [show m0.1 66 ((26 : Nat) : Int) = μ.1 66 ((26 : Nat) : Int) from z0.2.1 26 rfl, show m0.1 66 ((24 : Nat) : Int) = μ.1 66 ((24 : Nat) : Int) from z0.2.1 24 rfl, show m0.1 76 = μ.1 76 from z0.1 76 (by decide) rfl, show m0.1 77 = μ.1 77 from z0.1 77 (by decide) rfl] at P5
        have T670 := zTI_open0 T651 hv4.1 (fun j a b c d => qm653.1 j a (zanyF (by simp <;> omega))) (qm653.2.1 8 rfl) (by (try rw [wg664]) <;> (try rw [w662]) <;> (try rw [wg665]) <;> (try rw [wg666]) <;> (try rw [wg667]) <;> (try rw [wg668]) <;> (try rw [w663]) <;> (try rw [wg17]) <;> (try rw [wg18]) <;> (try rw [wg19]) <;> (try rw [wg20]) <;> (try rw [wg21]) <;> (try rw [wg22]) <;> (try rw [wg23]) <;> (try rw [wg1]) <;> (try rw [wg2]) <;> (try rw [wg3]) <;> (try rw [wg4]) <;> (try rw [wg5]) <;> (try rw [wg6]) <;> (try rw [wg7]) <;> omega) P3 P5 hp3.1 hp3.2.1 hp6 P6 p658
        have N671 : v4 ≤ 7 ∧ g668 ≤ 300 ∧ 0 ≤ g668 := by omega
        have N672 : (g667 = 256 ∨ g17 < g664) ∧ g17 ≤ g664 ∧ g21 = 257 := by omega
        clear P3 P5 P6 i8 p656 p657 p658 p659 p660 T651
        intro x673 hx673 kx673 lx673
        rw [wg667] at hx673
        refine And.intro ⟨⟨by omega, by omega⟩, ⟨by omega, by omega⟩⟩ (And.intro (fun c674 => ?_) (fun c674 => ?_))
        · clear c674
          refine And.intro ⟨by omega, by omega⟩ (And.intro (fun c675 => ?_) (fun c675 => ?_))
          · refine And.intro ⟨by omega, by omega⟩ (And.intro (fun c676 => ?_) (fun c676 => ?_))
            · refine And.intro ⟨by omega, by omega⟩ (And.intro (fun c677 => ?_) (fun c677 => ?_))
              · refine Exists.intro (zrT m653 2) (And.intro (zrT_lt (by unfold zrm; simp only [wg664, w662, wg665, wg666, wg667, wg668, w663, wg17, wg18, wg19, wg20, wg21, wg22, wg23, wg1, wg2, wg3, wg4, wg5, wg6, wg7]; (repeat' split) <;> omega) (zrm_0 (by (try rw [wg664]) <;> (try rw [w662]) <;> (try rw [wg665]) <;> (try rw [wg666]) <;> (try rw [wg667]) <;> (try rw [wg668]) <;> (try rw [w663]) <;> (try rw [wg17]) <;> (try rw [wg18]) <;> (try rw [wg19]) <;> (try rw [wg20]) <;> (try rw [wg21]) <;> (try rw [wg22]) <;> (try rw [wg23]) <;> (try rw [wg1]) <;> (try rw [wg2]) <;> (try rw [wg3]) <;> (try rw [wg4]) <;> (try rw [wg5]) <;> (try rw [wg6]) <;> (try rw [wg7]) <;> omega))) ?_)
                exact ⟨_, _, _, _, _, rfl, z661, ⟨by omega, by omega⟩, ⟨by omega, by omega⟩, ⟨by omega, by omega⟩, ⟨by omega, by omega⟩, ⟨by omega, by omega⟩, ⟨rfl, rfl, rfl⟩, (by (try rw [wg664]) <;> (try rw [w662]) <;> (try rw [wg665]) <;> (try rw [wg666]) <;> (try rw [wg667]) <;> (try rw [wg668]) <;> (try rw [w663]) <;> (try rw [wg17]) <;> (try rw [wg18]) <;> (try rw [wg19]) <;> (try rw [wg20]) <;> (try rw [wg21]) <;> (try rw [wg22]) <;> (try rw [wg23]) <;> (try rw [wg1]) <;> (try rw [wg2]) <;> (try rw [wg3]) <;> (try rw [wg4]) <;> (try rw [wg5]) <;> (try rw [wg6]) <;> (try rw [wg7]) <;> omega), (by (try rw [wg664]) <;> (try rw [w662]) <;> (try rw [wg665]) <;> (try rw [wg666]) <;> (try rw [wg667]) <;> (try rw [wg668]) <;> (try rw [w663]) <;> (try rw [wg17]) <;> (try rw [wg18]) <;> (try rw [wg19]) <;> (try rw [wg20]) <;> (try rw [wg21]) <;> (try rw [wg22]) <;> (try rw [wg23]) <;> (try rw [wg1]) <;> (try rw [wg2]) <;> (try rw [wg3]) <;> (try rw [wg4]) <;> (try rw [wg5]) <;> (try rw [wg6]) <;> (try rw [wg7]) <;> omega), ⟨fun h => absurd h (by decide), fun _ => T670⟩, (fun h => absurd h (by decide)), (Or.inr (by omega)), (by have h6 := i6; unfold zrm at h6 ⊢; simp only [wg664, w662, wg665, wg666, wg667, wg668, w663, wg17, wg18, wg19, wg20, wg21, wg22, wg23, wg1, wg2, wg3, wg4, wg5, wg6, wg7] at h6 ⊢; (repeat' split at h6) <;> (repeat' split) <;> omega), (by (try rw [wg664]) <;> (try rw [w662]) <;> (try rw [wg665]) <;> (try rw [wg666]) <;> (try rw [wg667]) <;> (try rw [wg668]) <;> (try rw [w663]) <;> (try rw [wg17]) <;> (try rw [wg18]) <;> (try rw [wg19]) <;> (try rw [wg20]) <;> (try rw [wg21]) <;> (try rw [wg22]) <;> (try rw [wg23]) <;> (try rw [wg1]) <;> (try rw [wg2]) <;> (try rw [wg3]) <;> (try rw [wg4]) <;> (try rw [wg5]) <;> (try rw [wg6]) <;> (try rw [wg7]) <;> omega), (Or.inr V3), rfl⟩
              · exfalso; omega
            · exfalso; omega
          · exfalso; omega
        · refine ⟨zk_X9_isBefore, zm_X9_isBefore hg d (by omega), _, rfl, ⟨by omega, by omega⟩, ?_⟩
          intro x678 kx678 lx678
          refine And.intro ⟨by omega, by omega⟩ (And.intro (fun c679 => ?_) (fun c679 => ?_))
          · refine And.intro ⟨by omega, by omega⟩ (And.intro (fun c680 => ?_) (fun c680 => ?_))
            · refine And.intro ⟨by omega, by omega⟩ (And.intro (fun c681 => ?_) (fun c681 => ?_))
              · refine And.intro ⟨by omega, by omega⟩ (And.intro (fun c682 => ?_) (fun c682 => ?_))
                · refine Exists.intro (zrT m653 2) (And.intro (zrT_lt (by unfold zrm; simp only [wg664, w662, wg665, wg666, wg667, wg668, w663, wg17, wg18, wg19, wg20, wg21, wg22, wg23, wg1, wg2, wg3, wg4, wg5, wg6, wg7]; (repeat' split) <;> omega) (zrm_0 (by (try rw [wg664]) <;> (try rw [w662]) <;> (try rw [wg665]) <;> (try rw [wg666]) <;> (try rw [wg667]) <;> (try rw [wg668]) <;> (try rw [w663]) <;> (try rw [wg17]) <;> (try rw [wg18]) <;> (try rw [wg19]) <;> (try rw [wg20]) <;> (try rw [wg21]) <;> (try rw [wg22]) <;> (try rw [wg23]) <;> (try rw [wg1]) <;> (try rw [wg2]) <;> (try rw [wg3]) <;> (try rw [wg4]) <;> (try rw [wg5]) <;> (try rw [wg6]) <;> (try rw [wg7]) <;> omega))) ?_)
                  exact ⟨_, _, _, _, _, rfl, z661, ⟨by omega, by omega⟩, ⟨by omega, by omega⟩, ⟨by omega, by omega⟩, ⟨by omega, by omega⟩, ⟨by omega, by omega⟩, ⟨rfl, rfl, rfl⟩, (by (try rw [wg664]) <;> (try rw [w662]) <;> (try rw [wg665]) <;> (try rw [wg666]) <;> (try rw [wg667]) <;> (try rw [wg668]) <;> (try rw [w663]) <;> (try rw [wg17]) <;> (try rw [wg18]) <;> (try rw [wg19]) <;> (try rw [wg20]) <;> (try rw [wg21]) <;> (try rw [wg22]) <;> (try rw [wg23]) <;> (try rw [wg1]) <;> (try rw [wg2]) <;> (try rw [wg3]) <;> (try rw [wg4]) <;> (try rw [wg5]) <;> (try rw [wg6]) <;> (try rw [wg7]) <;> omega), (by (try rw [wg664]) <;> (try rw [w662]) <;> (try rw [wg665]) <;> (try rw [wg666]) <;> (try rw [wg667]) <;> (try rw [wg668]) <;> (try rw [w663]) <;> (try rw [wg17]) <;> (try rw [wg18]) <;> (try rw [wg19]) <;> (try rw [wg20]) <;> (try rw [wg21]) <;> (try rw [wg22]) <;> (try rw [wg23]) <;> (try rw [wg1]) <;> (try rw [wg2]) <;> (try rw [wg3]) <;> (try rw [wg4]) <;> (try rw [wg5]) <;> (try rw [wg6]) <;> (try rw [wg7]) <;> omega), ⟨fun h => absurd h (by decide), fun _ => T670⟩, (fun h => absurd h (by decide)), (Or.inr (by omega)), (by have h6 := i6; unfold zrm at h6 ⊢; simp only [wg664, w662, wg665, wg666, wg667, wg668, w663, wg17, wg18, wg19, wg20, wg21, wg22, wg23, wg1, wg2, wg3, wg4, wg5, wg6, wg7] at h6 ⊢; (repeat' split at h6) <;> (repeat' split) <;> omega), (by (try rw [wg664]) <;> (try rw [w662]) <;> (try rw [wg665]) <;> (try rw [wg666]) <;> (try rw [wg667]) <;> (try rw [wg668]) <;> (try rw [w663]) <;> (try rw [wg17]) <;> (try rw [wg18]) <;> (try rw [wg19]) <;> (try rw [wg20]) <;> (try rw [wg21]) <;> (try rw [wg22]) <;> (try rw [wg23]) <;> (try rw [wg1]) <;> (try rw [wg2]) <;> (try rw [wg3]) <;> (try rw [wg4]) <;> (try rw [wg5]) <;> (try rw [wg6]) <;> (try rw [wg7]) <;> omega), (Or.inr V3), rfl⟩
                · exfalso; omega
              · exfalso; omega
            · exfalso; omega
          · refine And.intro ⟨by omega, by omega⟩ (And.intro (fun c683 => ?_) (fun c683 => ?_))
            · exfalso; omega
            · clear c683
              refine And.intro ⟨by omega, by omega⟩ ?_
              intro x684 hx684 kx684 lx684
              have O685 : x684 = 0 → m653.1 100 v4 = 0 := fun h => by rw [← hx684]; exact h
              refine And.intro ⟨by omega, by omega⟩ (And.intro (fun c686 => ?_) (fun c686 => ?_))
              · refine And.intro ⟨by omega, by omega⟩ (And.intro (fun c687 => ?_) (fun c687 => ?_))
                · exfalso; omega
                · clear c687
                  have O688 := O685 (by omega)
                  refine And.intro ⟨by omega, by omega⟩ (And.intro (fun c689 => ?_) (fun c689 => ?_))
                  · exfalso; omega
                  · clear c689
                    refine ⟨zk_X9_pass, zm_X9_pass hg d (by omega), rfl, (by (try rw [wg664]) <;> (try rw [w662]) <;> (try rw [wg665]) <;> (try rw [wg666]) <;> (try rw [wg667]) <;> (try rw [wg668]) <;> (try rw [w663]) <;> (try rw [wg17]) <;> (try rw [wg18]) <;> (try rw [wg19]) <;> (try rw [wg20]) <;> (try rw [wg21]) <;> (try rw [wg22]) <;> (try rw [wg23]) <;> (try rw [wg1]) <;> (try rw [wg2]) <;> (try rw [wg3]) <;> (try rw [wg4]) <;> (try rw [wg5]) <;> (try rw [wg6]) <;> (try rw [wg7]) <;> omega), ?_⟩
                    intro m690 qm690 p691 p692 p693 p694
                    have z695 := zfx_t z661 qm690 rfl rfl
                    have w696 : m690.1 66 ((30 : Nat) : Int) = g18 := (qm690.2.1 30 rfl).trans w662
                    have w697 : m690.1 66 ((38 : Nat) : Int) = g668 := (qm690.2.1 38 rfl).trans wg668
                    have w698 : m690.1 66 ((8 : Nat) : Int) = g23 := (qm690.2.1 8 rfl).trans w663
                    obtain ⟨g699, wg699⟩ : ∃ z : Int, m690.1 66 ((31 : Nat) : Int) = z := ⟨_, rfl⟩
                    obtain ⟨g700, wg700⟩ : ∃ z : Int, m690.1 66 ((33 : Nat) : Int) = z := ⟨_, rfl⟩
                    obtain ⟨g701, wg701⟩ : ∃ z : Int, m690.1 66 ((34 : Nat) : Int) = z := ⟨_, rfl⟩
                    obtain ⟨g702, wg702⟩ : ∃ z : Int, m690.1 66 ((32 : Nat) : Int) = z := ⟨_, rfl⟩
                    try rw [wg699] at p691
                    try rw [w696] at p691
                    try rw [wg700] at p691
                    try rw [wg701] at p691
                    try rw [wg702] at p691
                    try rw [w697] at p691
                    try rw [w698] at p691
                    try rw [wg664] at p691
                    try rw [w662] at p691
                    try rw [wg665] at p691
                    try rw [wg666] at p691
                    try rw [wg667] at p691
                    try rw [wg668] at p691
                    try rw [w663] at p691
                    try rw [wg1] at p691
                    try rw [wg2] at p691
                    try rw [wg3] at p691
                    try rw [wg4] at p691
                    try rw [wg5] at p691
                    try rw [wg6] at p691
                    try rw [wg7] at p691
                    try rw [wg699] at p692
                    try rw [w696] at p692
                    try rw [wg700] at p692
                    try rw [wg701] at p692
                    try rw [wg702] at p692
                    try rw [w697] at p692
                    try rw [w698] at p692
                    try rw [wg664] at p692
                    try rw [w662] at p692
                    try rw [wg665] at p692
                    try rw [wg666] at p692
                    try rw [wg667] at p692
                    try rw [wg668] at p692
                    try rw [w663] at p692
                    try rw [wg1] at p692
                    try rw [wg2] at p692
                    try rw [wg3] at p692
                    try rw [wg4] at p692
                    try rw [wg5] at p692
                    try rw [wg6] at p692
                    try rw [wg7] at p692
                    try rw [wg699] at p693
                    try rw [w696] at p693
                    try rw [wg700] at p693
                    try rw [wg701] at p693
                    try rw [wg702] at p693
                    try rw [w697] at p693
                    try rw [w698] at p693
                    try rw [wg664] at p693
                    try rw [w662] at p693
                    try rw [wg665] at p693
                    try rw [wg666] at p693
                    try rw [wg667] at p693
                    try rw [wg668] at p693
                    try rw [w663] at p693
                    try rw [wg1] at p693
                    try rw [wg2] at p693
                    try rw [wg3] at p693
                    try rw [wg4] at p693
                    try rw [wg5] at p693
                    try rw [wg6] at p693
                    try rw [wg7] at p693
                    try rw [wg699] at p694
                    try rw [w696] at p694
                    try rw [wg700] at p694
                    try rw [wg701] at p694
                    try rw [wg702] at p694
                    try rw [w697] at p694
                    try rw [w698] at p694
                    try rw [wg664] at p694
                    try rw [w662] at p694
                    try rw [wg665] at p694
                    try rw [wg666] at p694
                    try rw [wg667] at p694
                    try rw [wg668] at p694
                    try rw [w663] at p694
                    try rw [wg1] at p694
                    try rw [wg2] at p694
                    try rw [wg3] at p694
                    try rw [wg4] at p694
                    try rw [wg5] at p694
                    try rw [wg6] at p694
                    try rw [wg7] at p694
                    clear wg664 w662 wg665 wg666 wg667 wg668 w663
                    have T703 := zTI_fr0 T670 (fun j a b => qm690.1 j (by omega) (zanyF (by simp <;> omega))) (fun j a b => qm690.1 j (by omega) (zanyF (by simp <;> omega))) (qm690.2.1 8 rfl) (qm690.2.1 38 rfl)
                    have O704 : m690.1 100 v4 = 0 := by rw [qm690.1 100 (by decide) rfl]; exact O688
                    refine Exists.intro (zrT m690 1) (And.intro (zrT_lt (by unfold zrm; simp only [wg699, w696, wg700, wg701, wg702, w697, w698, wg17, wg18, wg19, wg20, wg21, wg22, wg23, wg1, wg2, wg3, wg4, wg5, wg6, wg7]; (repeat' split) <;> omega) (zrm_0 (by (try rw [wg699]) <;> (try rw [w696]) <;> (try rw [wg700]) <;> (try rw [wg701]) <;> (try rw [wg702]) <;> (try rw [w697]) <;> (try rw [w698]) <;> (try rw [wg17]) <;> (try rw [wg18]) <;> (try rw [wg19]) <;> (try rw [wg20]) <;> (try rw [wg21]) <;> (try rw [wg22]) <;> (try rw [wg23]) <;> (try rw [wg1]) <;> (try rw [wg2]) <;> (try rw [wg3]) <;> (try rw [wg4]) <;> (try rw [wg5]) <;> (try rw [wg6]) <;> (try rw [wg7]) <;> omega))) ?_)
                    exact ⟨_, _, _, _, _, rfl, z695, ⟨by omega, by omega⟩, ⟨by omega, by omega⟩, ⟨by omega, by omega⟩, ⟨by omega, by omega⟩, ⟨by omega, by omega⟩, ⟨rfl, rfl, rfl⟩, (by (try rw [wg699]) <;> (try rw [w696]) <;> (try rw [wg700]) <;> (try rw [wg701]) <;> (try rw [wg702]) <;> (try rw [w697]) <;> (try rw [w698]) <;> (try rw [wg17]) <;> (try rw [wg18]) <;> (try rw [wg19]) <;> (try rw [wg20]) <;> (try rw [wg21]) <;> (try rw [wg22]) <;> (try rw [wg23]) <;> (try rw [wg1]) <;> (try rw [wg2]) <;> (try rw [wg3]) <;> (try rw [wg4]) <;> (try rw [wg5]) <;> (try rw [wg6]) <;> (try rw [wg7]) <;> omega), (by (try rw [wg699]) <;> (try rw [w696]) <;> (try rw [wg700]) <;> (try rw [wg701]) <;> (try rw [wg702]) <;> (try rw [w697]) <;> (try rw [w698]) <;> (try rw [wg17]) <;> (try rw [wg18]) <;> (try rw [wg19]) <;> (try rw [wg20]) <;> (try rw [wg21]) <;> (try rw [wg22]) <;> (try rw [wg23]) <;> (try rw [wg1]) <;> (try rw [wg2]) <;> (try rw [wg3]) <;> (try rw [wg4]) <;> (try rw [wg5]) <;> (try rw [wg6]) <;> (try rw [wg7]) <;> omega), ⟨fun h => absurd h (by decide), fun _ => T703⟩, (fun h => O704), (Or.inr (by omega)), (by have h6 := i6; unfold zrm at h6 ⊢; simp only [wg699, w696, wg700, wg701, wg702, w697, w698, wg17, wg18, wg19, wg20, wg21, wg22, wg23, wg1, wg2, wg3, wg4, wg5, wg6, wg7] at h6 ⊢; (repeat' split at h6) <;> (repeat' split) <;> omega), (by (try rw [wg699]) <;> (try rw [w696]) <;> (try rw [wg700]) <;> (try rw [wg701]) <;> (try rw [wg702]) <;> (try rw [w697]) <;> (try rw [w698]) <;> (try rw [wg17]) <;> (try rw [wg18]) <;> (try rw [wg19]) <;> (try rw [wg20]) <;> (try rw [wg21]) <;> (try rw [wg22]) <;> (try rw [wg23]) <;> (try rw [wg1]) <;> (try rw [wg2]) <;> (try rw [wg3]) <;> (try rw [wg4]) <;> (try rw [wg5]) <;> (try rw [wg6]) <;> (try rw [wg7]) <;> omega), (Or.inr V3), rfl⟩
              · refine ⟨zk_X9_fail, zm_X9_fail hg d (by omega), _, rfl, ⟨by omega, by omega⟩, ?_⟩
                intro x705 m706 qm706 kx705 lx705
                have z707 := zfx_t z661 qm706 rfl rfl
                have w708 : m706.1 66 ((31 : Nat) : Int) = g664 := (qm706.2.1 31 rfl).trans wg664
                have w709 : m706.1 66 ((30 : Nat) : Int) = g18 := (qm706.2.1 30 rfl).trans w662
                have w710 : m706.1 66 ((33 : Nat) : Int) = g665 := (qm706.2.1 33 rfl).trans wg665
                have w711 : m706.1 66 ((34 : Nat) : Int) = g666 := (qm706.2.1 34 rfl).trans wg666
                have w712 : m706.1 66 ((32 : Nat) : Int) = g667 := (qm706.2.1 32 rfl).trans wg667
                have w713 : m706.1 66 ((38 : Nat) : Int) = g668 := (qm706.2.1 38 rfl).trans wg668
                have w714 : m706.1 66 ((8 : Nat) : Int) = g23 := (qm706.2.1 8 rfl).trans w663
                clear wg664 w662 wg665 wg666 wg667 wg668 w663
                exact And.intro trivial (And.intro ⟨by omega, by omega⟩ (hQ _ _ z707 (by omega) (by omega) (by (try rw [w708]) <;> (try rw [w709]) <;> (try rw [w710]) <;> (try rw [w711]) <;> (try rw [w712]) <;> (try rw [w713]) <;> (try rw [w714]) <;> (try rw [wg17]) <;> (try rw [wg18]) <;> (try rw [wg19]) <;> (try rw [wg20]) <;> (try rw [wg21]) <;> (try rw [wg22]) <;> (try rw [wg23]) <;> (try rw [wg1]) <;> (try rw [wg2]) <;> (try rw [wg3]) <;> (try rw [wg4]) <;> (try rw [wg5]) <;> (try rw [wg6]) <;> (try rw [wg7]) <;> omega) (by (try rw [w708]) <;> (try rw [w709]) <;> (try rw [w710]) <;> (try rw [w711]) <;> (try rw [w712]) <;> (try rw [w713]) <;> (try rw [w714]) <;> (try rw [wg17]) <;> (try rw [wg18]) <;> (try rw [wg19]) <;> (try rw [wg20]) <;> (try rw [wg21]) <;> (try rw [wg22]) <;> (try rw [wg23]) <;> (try rw [wg1]) <;> (try rw [wg2]) <;> (try rw [wg3]) <;> (try rw [wg4]) <;> (try rw [wg5]) <;> (try rw [wg6]) <;> (try rw [wg7]) <;> omega) (zTE_fr (zTE_of T670 (by omega) (by have := zwb_nn m0 v4; omega)) (fun j a b => qm706.1 j (by omega) (zanyF (by simp <;> omega))) (qm706.2.1 8 rfl) (qm706.2.1 38 rfl)) (by (try rw [w708]) <;> (try rw [w709]) <;> (try rw [w710]) <;> (try rw [w711]) <;> (try rw [w712]) <;> (try rw [w713]) <;> (try rw [w714]) <;> (try rw [wg17]) <;> (try rw [wg18]) <;> (try rw [wg19]) <;> (try rw [wg20]) <;> (try rw [wg21]) <;> (try rw [wg22]) <;> (try rw [wg23]) <;> (try rw [wg1]) <;> (try rw [wg2]) <;> (try rw [wg3]) <;> (try rw [wg4]) <;> (try rw [wg5]) <;> (try rw [wg6]) <;> (try rw [wg7]) <;> omega) (Or.inl rfl) (Or.inl rfl) (by omega)))
      · exact And.intro trivial (And.intro ⟨by omega, by omega⟩ (hQ _ _ z661 (by omega) (by omega) (by (try rw [wg664]) <;> (try rw [w662]) <;> (try rw [wg665]) <;> (try rw [wg666]) <;> (try rw [wg667]) <;> (try rw [wg668]) <;> (try rw [w663]) <;> (try rw [wg17]) <;> (try rw [wg18]) <;> (try rw [wg19]) <;> (try rw [wg20]) <;> (try rw [wg21]) <;> (try rw [wg22]) <;> (try rw [wg23]) <;> (try rw [wg1]) <;> (try rw [wg2]) <;> (try rw [wg3]) <;> (try rw [wg4]) <;> (try rw [wg5]) <;> (try rw [wg6]) <;> (try rw [wg7]) <;> omega) (by (try rw [wg664]) <;> (try rw [w662]) <;> (try rw [wg665]) <;> (try rw [wg666]) <;> (try rw [wg667]) <;> (try rw [wg668]) <;> (try rw [w663]) <;> (try rw [wg17]) <;> (try rw [wg18]) <;> (try rw [wg19]) <;> (try rw [wg20]) <;> (try rw [wg21]) <;> (try rw [wg22]) <;> (try rw [wg23]) <;> (try rw [wg1]) <;> (try rw [wg2]) <;> (try rw [wg3]) <;> (try rw [wg4]) <;> (try rw [wg5]) <;> (try rw [wg6]) <;> (try rw [wg7]) <;> omega) (zTE_fr (zTE_of T651 (by omega) (by have := zwb_nn m0 v4; omega)) (fun j a b => qm653.1 j (by omega) (zanyF (by simp <;> omega))) (qm653.2.1 8 rfl) (by (try rw [wg664]) <;> (try rw [w662]) <;> (try rw [wg665]) <;> (try rw [wg666]) <;> (try rw [wg667]) <;> (try rw [wg668]) <;> (try rw [w663]) <;> (try rw [wg17]) <;> (try rw [wg18]) <;> (try rw [wg19]) <;> (try rw [wg20]) <;> (try rw [wg21]) <;> (try rw [wg22]) <;> (try rw [wg23]) <;> (try rw [wg1]) <;> (try rw [wg2]) <;> (try rw [wg3]) <;> (try rw [wg4]) <;> (try rw [wg5]) <;> (try rw [wg6]) <;> (try rw [wg7]) <;> omega)) (by (try rw [wg664]) <;> (try rw [w662]) <;> (try rw [wg665]) <;> (try rw [wg666]) <;> (try rw [wg667]) <;> (try rw [wg668]) <;> (try rw [w663]) <;> (try rw [wg17]) <;> (try rw [wg18]) <;> (try rw [wg19]) <;> (try rw [wg20]) <;> (try rw [wg21]) <;> (try rw [wg22]) <;> (try rw [wg23]) <;> (try rw [wg1]) <;> (try rw [wg2]) <;> (try rw [wg3]) <;> (try rw [wg4]) <;> (try rw [wg5]) <;> (try rw [wg6]) <;> (try rw [wg7]) <;> omega) (Or.inl rfl) (Or.inl rfl) (by omega)))
