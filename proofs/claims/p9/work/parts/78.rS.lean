/-! ### substitute, nodes stay apart -/
def zk_X9_substitute2 : zC := fun As μ Q => ∃ (a1 : Int) (a2 : Int) (a3 : Int) (a4 : Int) (lo : Int) (s : Int) (P : Int → Prop), As = [.inr (.inr (66, 66)), .inl a1, .inl a2, .inl a3, .inl a4] ∧ (0 ≤ a1 ∧ a1 ≤ 19999) ∧ (0 ≤ a2 ∧ a2 ≤ 79) ∧ (0 ≤ a3 ∧ a3 ≤ 4) ∧ (0 ≤ a4 ∧ a4 ≤ 19999) ∧ (zND μ lo) ∧ (a1 < zTop μ ∧ a4 < zTop μ ∧ a3 ≤ μ.1 69 a4 ∧ zTop μ ≤ 20000) ∧ (μ.1 66 ((60 : Nat) : Int) + 1 = s) ∧ (-2147483648 ≤ s ∧ s ≤ 2147483647) ∧ (∀ x : Int, 0 ≤ x → x < 20000 → μ.1 98 x < s) ∧ (P a1 ∧ ∀ x : Int, 0 ≤ x → x < zTop μ → P x → ∀ i : Int, 0 ≤ i → i < μ.1 69 x → P (μ.1 70 (4 * x + i))) ∧ (∀ m : zM, zSJ μ m lo s a2 a3 a4 P → (zUq μ lo → zUq m lo) → zTop m ≤ 19999) ∧ (μ.1 71 a1 ≤ 19999) ∧ (∀ (v : Int) (μ' : zM), zfx [67, 68, 69, 70, 71, 72, 73, 74, 97, 98, 99] [8, 60] μ μ' → 0 ≤ v → v ≤ 19999 → (zSJ μ μ' lo s a2 a3 a4 P) → (μ'.1 98 a1 = s ∧ v = μ'.1 97 a1) → (μ'.1 66 ((60 : Nat) : Int) = s) → (∀ x : Int, 0 ≤ x → x < 20000 → μ'.1 98 x ≤ s) → (zUq μ lo → zUq μ' lo) → Q (some (.inl v)) μ')
set_option maxHeartbeats 2000000 in
theorem zm_X9_substitute2 {g : zΓ} (hg : zg g) (d : Nat) (hd : 4 ≤ d) : zOk g d 125 zk_X9_substitute2 := by
  obtain ⟨d, rfl⟩ : ∃ d', d = d' + 1 := ⟨d - 1, by omega⟩
  refine zOk_loop hg (show mt_tab[125]? = some mt_X9_substitute from rfl) ([(24, [0, 1, 2, 3, 4, 5]), (60, [0, 1, 2, 3, 4, 5, 6, 7, 8])], []) 108 rfl fun As μ Q hC => ?_
  obtain ⟨a1, a2, a3, a4, lo, s, P, rfl, ha1, ha2, ha3, ha4, hp0, hp1, hp2, hp3, hp4, hp5, hp6, hp7, hQ⟩ := hC
  obtain ⟨g1, wg1⟩ : ∃ z : Int, μ.1 66 ((60 : Nat) : Int) = z := ⟨_, rfl⟩
  obtain ⟨g2, wg2⟩ : ∃ z : Int, μ.1 66 ((8 : Nat) : Int) = z := ⟨_, rfl⟩
  try rw [wg1] at hp0
  try rw [wg2] at hp0
  try rw [wg1] at hp1
  try rw [wg2] at hp1
  try rw [wg1] at hp2
  try rw [wg2] at hp2
  try rw [wg1] at hp3
  try rw [wg2] at hp3
  try rw [wg1] at hp4
  try rw [wg2] at hp4
  try rw [wg1] at hp5
  try rw [wg2] at hp5
  try rw [wg1] at hp6
  try rw [wg2] at hp6
  try rw [wg1] at hp7
  try rw [wg2] at hp7
  have z0 : zfx [67, 68, 69, 70, 71, 72, 73, 74, 97, 98, 99] [8, 60] μ μ := zfx_x μ
  refine ⟨rfl, fun pc vs μ' n => (pc = 24 → ∃ (v1 : Int) (v2 : Int) (v3 : Int) (v4 : Int) (v5 : Int), vs = [.inr (.inr (66, 66)), .inl v1, .inl v2, .inl v3, .inl v4, .inl v5] ∧ zfx [67, 68, 69, 70, 71, 72, 73, 74, 97, 98, 99] [8, 60] μ μ' ∧ ((-2147483648) ≤ v1 ∧ v1 ≤ 2147483647) ∧ ((-2147483648) ≤ v2 ∧ v2 ≤ 2147483647) ∧ ((-2147483648) ≤ v3 ∧ v3 ≤ 2147483647) ∧ ((-2147483648) ≤ v4 ∧ v4 ≤ 2147483647) ∧ (0 ≤ v5 ∧ v5 ≤ 20000) ∧ (v1 = a1 ∧ v2 = a2 ∧ v3 = a3 ∧ v4 = a4) ∧ (zSJ μ μ' lo s a2 a3 a4 P) ∧ (μ'.1 66 ((60 : Nat) : Int) = s) ∧ (∀ j : Int, 0 ≤ j → j < v5 → 0 ≤ μ'.1 99 j ∧ μ'.1 99 j < zTop μ ∧ P (μ'.1 99 j) ∧ j + μ.1 71 (μ'.1 99 j) ≤ μ.1 71 a1) ∧ ((0 < v5 → μ'.1 99 0 = a1) ∧ (v5 = 0 → μ'.1 98 a1 = s)) ∧ (∀ x : Int, 0 ≤ x → x < 20000 → μ'.1 98 x ≤ s) ∧ (zUq μ lo → zUq μ' lo) ∧ n = (zmA μ' s v5)) ∧ (pc = 60 → ∃ (v1 : Int) (v2 : Int) (v3 : Int) (v4 : Int) (v5 : Int) (v6 : Int) (v7 : Int) (v8 : Int), vs = [.inr (.inr (66, 66)), .inl v1, .inl v2, .inl v3, .inl v4, .inl v5, .inl v6, .inl v7, .inl v8] ∧ zfx [67, 68, 69, 70, 71, 72, 73, 74, 97, 98, 99] [8, 60] μ μ' ∧ ((-2147483648) ≤ v1 ∧ v1 ≤ 2147483647) ∧ ((-2147483648) ≤ v2 ∧ v2 ≤ 2147483647) ∧ ((-2147483648) ≤ v3 ∧ v3 ≤ 2147483647) ∧ ((-2147483648) ≤ v4 ∧ v4 ≤ 2147483647) ∧ (1 ≤ v5 ∧ v5 ≤ 20000) ∧ (0 ≤ v6 ∧ v6 ≤ 19999) ∧ (0 ≤ v7 ∧ v7 ≤ 1) ∧ (0 ≤ v8 ∧ v8 ≤ 4) ∧ (v1 = a1 ∧ v2 = a2 ∧ v3 = a3 ∧ v4 = a4) ∧ (zSJ μ μ' lo s a2 a3 a4 P) ∧ (μ'.1 66 ((60 : Nat) : Int) = s) ∧ (∀ j : Int, 0 ≤ j → j < v5 → 0 ≤ μ'.1 99 j ∧ μ'.1 99 j < zTop μ ∧ P (μ'.1 99 j) ∧ j + μ.1 71 (μ'.1 99 j) ≤ μ.1 71 a1) ∧ (μ'.1 99 0 = a1) ∧ (∀ x : Int, 0 ≤ x → x < 20000 → μ'.1 98 x ≤ s) ∧ (μ'.1 98 v6 ≠ s) ∧ (∃ jx : Int, 0 ≤ jx ∧ jx + μ.1 71 v6 ≤ μ.1 71 a1 ∧ v5 ≤ jx + zsm (fun l => μ.1 71 (μ.1 70 (4 * v6 + l))) v8.toNat) ∧ ((v7 = 1 → μ'.1 99 (v5 - 1) = v6 ∧ ∀ l : Int, 0 ≤ l → l < v8 → μ'.1 98 (μ'.1 70 (4 * v6 + l)) = s) ∧ (v7 = 0 → 0 ≤ μ'.1 99 (v5 - 1) ∧ μ'.1 99 (v5 - 1) < v6 ∧ μ'.1 98 (μ'.1 99 (v5 - 1)) ≠ s)) ∧ (0 ≤ v6 ∧ v6 < zTop μ ∧ P v6) ∧ (v8 ≤ μ.1 69 v6) ∧ (zUq μ lo → zUq μ' lo) ∧ n = (zmB μ' s v6 v8)), ?_, ?_, ?_, trivial⟩
  · intro x3 hx3 kx3 lx3
    rw [wg1] at hx3
    refine And.intro ⟨by omega, by omega⟩ ?_
    intro m4 em4
    have z5 := zfx_f z0 em4 rfl
    have w6 : m4.1 66 ((60 : Nat) : Int) = (x3 + 1) := by rw [em4]; exact zu_at
    have w7 : m4.1 66 ((8 : Nat) : Int) = g2 := by rw [em4]; exact (zu_nk (by decide)).trans wg2
    refine And.intro ⟨by omega, by omega⟩ (And.intro ⟨by omega, by omega⟩ ?_)
    intro m8 em8
    have z9 := zfx_r z5 em8 rfl (by decide)
    have w10 : m8.1 66 ((60 : Nat) : Int) = (x3 + 1) := by rw [em8]; exact (congrFun (zu_ne (by decide)) _).trans w6
    have w11 : m8.1 66 ((8 : Nat) : Int) = g2 := by rw [em8]; exact (congrFun (zu_ne (by decide)) _).trans w7
    clear w6 w7
    refine Exists.intro (zmA m8 s (0 + 1)) ?_
    exact ⟨(fun _ => ⟨_, _, _, _, _, rfl, z9, ⟨by omega, by omega⟩, ⟨by omega, by omega⟩, ⟨by omega, by omega⟩, ⟨by omega, by omega⟩, ⟨by omega, by omega⟩, (by (try rw [w10]) <;> (try rw [w11]) <;> (try rw [wg1]) <;> (try rw [wg2]) <;> omega), (zSJ_0 (zND_t.2 (by rw [show zTop m8 = zTop μ from (by show m8.1 66 ((8 : Nat) : Int) = μ.1 66 ((8 : Nat) : Int); rw [em8, zu_ne (by decide), em4]; exact zu_nk (by decide))]; exact zNDt_same (fun j a b => by rw [em8, zu_ne (by omega), em4, zu_ne (by omega)]) (zND_t.1 hp0))) (fun j a b => by rw [em8, zu_ne (by omega), em4, zu_ne (by omega)]) (by show m8.1 66 ((8 : Nat) : Int) = μ.1 66 ((8 : Nat) : Int); rw [em8, zu_ne (by decide), em4]; exact zu_nk (by decide)) (by omega) (fun x a b => by rw [em8, zu_ne (by decide), em4, zu_ne (by decide)]; exact hp4 x a b)), (by (try rw [w10]) <;> (try rw [w11]) <;> (try rw [wg1]) <;> (try rw [wg2]) <;> omega), (fun j a b => by rw [em8, show j = 0 by omega, zu_at]; exact ⟨by omega, by omega, hp5.1, by omega⟩), ⟨fun _ => by rw [em8]; exact zu_at, fun h => by omega⟩, (fun x a b => by rw [em8, zu_ne (by decide), em4, zu_ne (by decide)]; have := hp4 x a b; omega), (fun h => zUq_c h (fun j a b => by rw [em8, zu_ne (by omega), em4, zu_ne (by omega)]) (by show m8.1 66 ((8 : Nat) : Int) = μ.1 66 ((8 : Nat) : Int); rw [em8, zu_ne (by decide), em4]; exact zu_nk (by decide))), rfl⟩), (fun h => absurd h (by decide))⟩
  · intro vs m0 n hI
    replace hI := hI.1 rfl
    clear z0
    obtain ⟨v1, v2, v3, v4, v5, rfl, z0, hv1, hv2, hv3, hv4, hv5, i0, i1, i2, i3, i4, i5, i6, rfl⟩ := hI
    obtain ⟨j1, j2, j3, j4⟩ := i0
    subst j1 j2 j3 j4
    have hi3 := fun h : 0 < v5 => i3 (v5 - 1) (by omega) (by omega)
    obtain ⟨g12, wg12⟩ : ∃ z : Int, m0.1 66 ((60 : Nat) : Int) = z := ⟨_, rfl⟩
    obtain ⟨g13, wg13⟩ : ∃ z : Int, m0.1 66 ((8 : Nat) : Int) = z := ⟨_, rfl⟩
    try rw [wg12] at i0
    try rw [wg13] at i0
    try rw [wg1] at i0
    try rw [wg2] at i0
    try rw [wg12] at i1
    try rw [wg13] at i1
    try rw [wg1] at i1
    try rw [wg2] at i1
    try rw [wg12] at i2
    try rw [wg13] at i2
    try rw [wg1] at i2
    try rw [wg2] at i2
    try rw [wg12] at i3
    try rw [wg13] at i3
    try rw [wg1] at i3
    try rw [wg2] at i3
    try rw [wg12] at i4
    try rw [wg13] at i4
    try rw [wg1] at i4
    try rw [wg2] at i4
    try rw [wg12] at i5
    try rw [wg13] at i5
    try rw [wg1] at i5
    try rw [wg2] at i5
    try rw [wg12] at i6
    try rw [wg13] at i6
    try rw [wg1] at i6
    try rw [wg2] at i6
    refine And.intro ⟨by omega, by omega⟩ (And.intro (fun c14 => ?_) (fun c14 => ?_))
    · refine And.intro ⟨by omega, by omega⟩ ?_
      intro x15 hx15 kx15 lx15
      exact And.intro trivial (And.intro ⟨by omega, by omega⟩ (hQ _ _ z0 (by omega) (by omega) i1 ⟨i4.2 (by omega), hx15⟩ (by (try rw [wg12]) <;> (try rw [wg13]) <;> (try rw [wg1]) <;> (try rw [wg2]) <;> omega) i5 i6))
    · refine And.intro ⟨by omega, by omega⟩ ?_
      intro x16 hx16 kx16 lx16
      refine And.intro ⟨by omega, by omega⟩ ?_
      intro x17 hx17 kx17 lx17
      intro x18 hx18 kx18 lx18
      rw [wg12] at hx18
      refine And.intro ⟨⟨by omega, by omega⟩, ⟨by omega, by omega⟩⟩ (And.intro (fun c19 => ?_) (fun c19 => ?_))
      · refine And.intro ⟨by omega, by omega⟩ (And.intro (fun c20 => ?_) (fun c20 => ?_))
        · exfalso; omega
        · clear c20
          refine And.intro ⟨by omega, by omega⟩ ?_
          intro x21 hx21 kx21 lx21
          intro x22 hx22 kx22 lx22
          rw [wg12] at hx22
          refine And.intro ⟨⟨by omega, by omega⟩, ⟨by omega, by omega⟩⟩ (And.intro (fun c23 => ?_) (fun c23 => ?_))
          · refine Exists.intro (zmA m0 s (v5 + (-1))) (And.intro (by rw [show v5 + (-1) = v5 - 1 by omega]; exact zmA_pop (by omega) (by rw [← hx16]; omega) (fun h => by have := i3 (v5 - 1 - 1) (by omega) (by omega); omega)) ?_)
            exact ⟨(fun _ => ⟨_, _, _, _, _, rfl, z0, ⟨by omega, by omega⟩, ⟨by omega, by omega⟩, ⟨by omega, by omega⟩, ⟨by omega, by omega⟩, ⟨by omega, by omega⟩, (by (try rw [wg12]) <;> (try rw [wg13]) <;> (try rw [wg1]) <;> (try rw [wg2]) <;> omega), i1, (by (try rw [wg12]) <;> (try rw [wg13]) <;> (try rw [wg1]) <;> (try rw [wg2]) <;> omega), (fun j a b => i3 j a (by omega)), ⟨fun h => i4.1 (by omega), fun h => by have h1 := i4.1 (by omega); have h2 : x16 = v1 := (by rw [hx16, show v5 - 1 = 0 by omega]; exact h1); rw [← h2]; omega⟩, i5, i6, rfl⟩), (fun h => absurd h (by decide))⟩
          · exfalso; omega
      · refine Exists.intro (zmB m0 s x16 0) (And.intro (zmB_in (by omega) hx16.symm (by omega) (by omega)) ?_)
        exact ⟨(fun h => absurd h (by decide)), (fun _ => ⟨_, _, _, _, _, _, _, _, rfl, z0, ⟨by omega, by omega⟩, ⟨by omega, by omega⟩, ⟨by omega, by omega⟩, ⟨by omega, by omega⟩, ⟨by omega, by omega⟩, ⟨by omega, by omega⟩, ⟨by omega, by omega⟩, ⟨by omega, by omega⟩, (by (try rw [wg12]) <;> (try rw [wg13]) <;> (try rw [wg1]) <;> (try rw [wg2]) <;> omega), i1, (by (try rw [wg12]) <;> (try rw [wg13]) <;> (try rw [wg1]) <;> (try rw [wg2]) <;> omega), i3, (i4.1 (by omega)), i5, (by omega), ⟨v5 - 1, by omega, by have := i3 (v5 - 1) (by omega) (by omega); rw [← hx16] at this; omega, by show v5 ≤ v5 - 1 + 1; omega⟩, ⟨fun _ => ⟨hx16.symm, fun l a b => by omega⟩, fun h => by omega⟩, (by have := i3 (v5 - 1) (by omega) (by omega); rw [← hx16] at this; exact ⟨this.1, this.2.1, this.2.2.1⟩), (by have := i3 (v5 - 1) (by omega) (by omega); rw [← hx16] at this; exact (hp0.2.1 _ this.1 this.2.1).1.1), i6, rfl⟩)⟩
  · intro vs m0 n hI
    replace hI := hI.2 rfl
    clear z0
    obtain ⟨v1, v2, v3, v4, v5, v6, v7, v8, rfl, z0, hv1, hv2, hv3, hv4, hv5, hv6, hv7, hv8, i0, i1, i2, i3, i4, i5, i6, i7, i8, i9, i10, i11, rfl⟩ := hI
    obtain ⟨j1, j2, j3, j4⟩ := i0
    subst j1 j2 j3 j4
    have G69 := (i1.2.1 v6 i9.1 i9.2.1).2.2.1
    have G70 := (i1.2.1 v6 i9.1 i9.2.1).2.2.2.2
    have ND := hp0.2.1 v6 i9.1 i9.2.1
    obtain ⟨g24, wg24⟩ : ∃ z : Int, m0.1 66 ((60 : Nat) : Int) = z := ⟨_, rfl⟩
    obtain ⟨g25, wg25⟩ : ∃ z : Int, m0.1 66 ((8 : Nat) : Int) = z := ⟨_, rfl⟩
    try rw [wg24] at i0
    try rw [wg25] at i0
    try rw [wg1] at i0
    try rw [wg2] at i0
    try rw [wg24] at i1
    try rw [wg25] at i1
    try rw [wg1] at i1
    try rw [wg2] at i1
    try rw [wg24] at i2
    try rw [wg25] at i2
    try rw [wg1] at i2
    try rw [wg2] at i2
    try rw [wg24] at i3
    try rw [wg25] at i3
    try rw [wg1] at i3
    try rw [wg2] at i3
    try rw [wg24] at i4
    try rw [wg25] at i4
    try rw [wg1] at i4
    try rw [wg2] at i4
    try rw [wg24] at i5
    try rw [wg25] at i5
    try rw [wg1] at i5
    try rw [wg2] at i5
    try rw [wg24] at i6
    try rw [wg25] at i6
    try rw [wg1] at i6
    try rw [wg2] at i6
    try rw [wg24] at i7
    try rw [wg25] at i7
    try rw [wg1] at i7
    try rw [wg2] at i7
    try rw [wg24] at i8
    try rw [wg25] at i8
    try rw [wg1] at i8
    try rw [wg2] at i8
    try rw [wg24] at i9
    try rw [wg25] at i9
    try rw [wg1] at i9
    try rw [wg2] at i9
    try rw [wg24] at i10
    try rw [wg25] at i10
    try rw [wg1] at i10
    try rw [wg2] at i10
    try rw [wg24] at i11
    try rw [wg25] at i11
    try rw [wg1] at i11
    try rw [wg2] at i11
    refine And.intro ⟨by omega, by omega⟩ ?_
    intro x26 hx26 kx26 lx26
    refine And.intro ⟨⟨by omega, by omega⟩, ⟨by omega, by omega⟩⟩ (And.intro (fun c27 => ?_) (fun c27 => ?_))
    · refine And.intro ⟨by omega, by omega⟩ (And.intro (fun c28 => ?_) (fun c28 => ?_))
      · refine Exists.intro (zmA m0 s v5) (And.intro (zmA_down (by omega) (i8.2 (by omega)).1 (i8.2 (by omega)).2.1 (i8.2 (by omega)).2.2) ?_)
        exact ⟨(fun _ => ⟨_, _, _, _, _, rfl, z0, ⟨by omega, by omega⟩, ⟨by omega, by omega⟩, ⟨by omega, by omega⟩, ⟨by omega, by omega⟩, ⟨by omega, by omega⟩, (by (try rw [wg24]) <;> (try rw [wg25]) <;> (try rw [wg1]) <;> (try rw [wg2]) <;> omega), i1, (by (try rw [wg24]) <;> (try rw [wg25]) <;> (try rw [wg1]) <;> (try rw [wg2]) <;> omega), i3, ⟨fun _ => i4, fun h => by omega⟩, i5, i11, rfl⟩), (fun h => absurd h (by decide))⟩
      · refine And.intro ⟨by omega, by omega⟩ ?_
        intro x29 hx29 kx29 lx29
        intro x30 hx30 kx30 lx30
        rw [wg24] at hx30
        refine And.intro ⟨⟨by omega, by omega⟩, ⟨by omega, by omega⟩⟩ (And.intro (fun c31 => ?_) (fun c31 => ?_))
        · exfalso; omega
        · refine ⟨zk_X9_substituted, zm_X9_substituted hg d (by omega), _, _, _, _, _, rfl, ⟨by omega, by omega⟩, ⟨by omega, by omega⟩, ⟨by omega, by omega⟩, ⟨by omega, by omega⟩, i1.1, (show m0.1 66 ((8 : Nat) : Int) ≤ 19999 from hp6 m0 i1 i11), ⟨by have := i1.2.2.1; omega, by have := i1.2.2.1; omega, by rw [(i1.2.1 v4 (by omega) (by omega)).2.2.1]; omega⟩, (fun i a b => by have nc := (i1.1.2.1 v6 (by omega) (by have := i1.2.2.1; omega)).2.1 i a b; exact (i1.2.2.2.1 _ nc.1 (by omega) ((i8.1 (by omega)).2 i a (by omega))).2.1), ?_⟩
          intro x32 m33 qm33 kx32 lx32 p34 p35 p36 p37 p38
          have z39 := zfx_t z0 qm33 rfl rfl
          have w40 : m33.1 66 ((60 : Nat) : Int) = g24 := (qm33.2.1 60 rfl).trans wg24
          obtain ⟨g41, wg41⟩ : ∃ z : Int, m33.1 66 ((8 : Nat) : Int) = z := ⟨_, rfl⟩
          try rw [w40] at p34
          try rw [wg41] at p34
          try rw [wg24] at p34
          try rw [wg25] at p34
          try rw [wg1] at p34
          try rw [wg2] at p34
          try rw [w40] at p35
          try rw [wg41] at p35
          try rw [wg24] at p35
          try rw [wg25] at p35
          try rw [wg1] at p35
          try rw [wg2] at p35
          try rw [w40] at p36
          try rw [wg41] at p36
          try rw [wg24] at p36
          try rw [wg25] at p36
          try rw [wg1] at p36
          try rw [wg2] at p36
          try rw [w40] at p37
          try rw [wg41] at p37
          try rw [wg24] at p37
          try rw [wg25] at p37
          try rw [wg1] at p37
          try rw [wg2] at p37
          try rw [w40] at p38
          try rw [wg41] at p38
          try rw [wg24] at p38
          try rw [wg25] at p38
          try rw [wg1] at p38
          try rw [wg2] at p38
          refine And.intro ⟨by omega, by omega⟩ (And.intro ⟨by omega, by omega⟩ ?_)
          intro m42 em42
          have z43 := zfx_r z39 em42 rfl (by decide)
          have w44 : m42.1 66 ((60 : Nat) : Int) = g24 := by rw [em42]; exact (congrFun (zu_ne (by decide)) _).trans w40
          have w45 : m42.1 66 ((8 : Nat) : Int) = g41 := by rw [em42]; exact (congrFun (zu_ne (by decide)) _).trans wg41
          clear w40 wg41
          intro x46 hx46 kx46 lx46
          rw [w44] at hx46
          refine And.intro ⟨by omega, by omega⟩ (And.intro ⟨by omega, by omega⟩ ?_)
          intro m47 em47
          have z48 := zfx_r z43 em47 rfl (by decide)
          have w49 : m47.1 66 ((60 : Nat) : Int) = g24 := by rw [em47]; exact (congrFun (zu_ne (by decide)) _).trans w44
          have w50 : m47.1 66 ((8 : Nat) : Int) = g41 := by rw [em47]; exact (congrFun (zu_ne (by decide)) _).trans w45
          clear w44 w45
          have F97 : m33.1 97 = m0.1 97 := qm33.1 97 (by decide) rfl
          have F98 : m33.1 98 = m0.1 98 := qm33.1 98 (by decide) rfl
          have e2s : m47 = zu m42 98 v6 s := by rw [em47, show x46 = s by omega]
          have KJ := zSJ_step i1 ⟨i9.1, i9.2.1⟩ i9.2.2 i6 (fun i a b => (i8.1 (by omega)).2 i a (by omega)) ⟨by omega, by omega⟩ (by omega) p34 ⟨by omega, p35⟩ p36 p37 p38 F97 F98 em42 e2s
          have PL : m47.1 99 = m0.1 99 := by rw [em47, zu_ne (by decide), em42, zu_ne (by decide)]; exact qm33.1 99 (by decide) rfl
          have S98 : ∀ q : Int, q ≠ v6 → m47.1 98 q = m0.1 98 q := fun q hq => by rw [e2s, zu_nk hq, em42, zu_ne (by decide)]; exact congrFun F98 _
          have UJ : zUq μ lo → zUq m47 lo := fun h => zUq_c (zUq_st i1.1 (i11 h) p34 p36 p37 p38) (fun j a b => by rw [em47, zu_ne (by omega), em42, zu_ne (by omega)]) (by show m47.1 66 _ = m33.1 66 _; rw [em47, zu_ne (by decide), em42, zu_ne (by decide)])
          refine Exists.intro (zmA m47 s (v5 + (-1))) (And.intro (zmA_done ⟨by omega, by omega⟩ i6 KJ.2.1 S98 (by omega) (fun h => by rw [PL]; have := i3 (v5 + (-1) - 1) (by omega) (by omega); omega)) ?_)
          exact ⟨(fun _ => ⟨_, _, _, _, _, rfl, z48, ⟨by omega, by omega⟩, ⟨by omega, by omega⟩, ⟨by omega, by omega⟩, ⟨by omega, by omega⟩, ⟨by omega, by omega⟩, (by (try rw [w49]) <;> (try rw [w50]) <;> (try rw [wg24]) <;> (try rw [wg25]) <;> (try rw [wg1]) <;> (try rw [wg2]) <;> omega), KJ.1, (by (try rw [w49]) <;> (try rw [w50]) <;> (try rw [wg24]) <;> (try rw [wg25]) <;> (try rw [wg1]) <;> (try rw [wg2]) <;> omega), (fun j a b => by rw [PL]; exact i3 j a (by omega)), ⟨fun _ => by rw [PL]; exact i4, fun h => by have h1 := (i8.1 (by omega)).1; rw [show v5 - 1 = 0 by omega, i4] at h1; rw [h1]; exact KJ.2.1⟩, (fun x a b => by by_cases hq : x = v6 <;> first | (rw [hq, KJ.2.1]; exact Int.le_refl _) | (rw [S98 x hq]; exact i5 x a b)), UJ, rfl⟩), (fun h => absurd h (by decide))⟩
    · refine And.intro ⟨by omega, by omega⟩ ?_
      intro x51 hx51 kx51 lx51
      refine And.intro ⟨by omega, by omega⟩ ?_
      intro x52 hx52 kx52 lx52
      intro x53 hx53 kx53 lx53
      rw [wg24] at hx53
      refine And.intro ⟨⟨by omega, by omega⟩, ⟨by omega, by omega⟩⟩ (And.intro (fun c54 => ?_) (fun c54 => ?_))
      · refine Exists.intro (zmB m0 s v6 (v8 + 1)) (And.intro (zmB_next rfl (by omega)) ?_)
        exact ⟨(fun h => absurd h (by decide)), (fun _ => ⟨_, _, _, _, _, _, _, _, rfl, z0, ⟨by omega, by omega⟩, ⟨by omega, by omega⟩, ⟨by omega, by omega⟩, ⟨by omega, by omega⟩, ⟨by omega, by omega⟩, ⟨by omega, by omega⟩, ⟨by omega, by omega⟩, ⟨by omega, by omega⟩, (by (try rw [wg24]) <;> (try rw [wg25]) <;> (try rw [wg1]) <;> (try rw [wg2]) <;> omega), i1, (by (try rw [wg24]) <;> (try rw [wg25]) <;> (try rw [wg1]) <;> (try rw [wg2]) <;> omega), i3, i4, i5, i6, (by obtain ⟨jx, b1, b2, b3⟩ := i7; refine ⟨jx, b1, b2, ?_⟩; rw [zsm_s (by omega)]; have := zsz1 hp0.2.1 _ _ rfl (ND.2.1 v8 (by omega) (by omega)).1 (by have := (ND.2.1 v8 (by omega) (by omega)).2; omega); (try dsimp only); omega), ⟨fun h => ⟨(i8.1 h).1, fun l a b => by rcases (show l < v8 ∨ l = v8 by omega) with q | q <;> first | exact (i8.1 h).2 l a q | (rw [q, ← hx51, ← hx52]; omega)⟩, i8.2⟩, i9, (by omega), i11, rfl⟩)⟩
      · obtain ⟨jx, b1, b2, b3⟩ := i7
        have SZ : ∀ l : Int, 0 ≤ l → l < μ.1 69 v6 → 1 ≤ (fun l => μ.1 71 (μ.1 70 (4 * v6 + l))) l := fun l a b => zsz1 hp0.2.1 _ _ rfl (ND.2.1 l a b).1 (by have := (ND.2.1 l a b).2; omega)
        have BP := zpush SZ ⟨by omega, by omega⟩ ND.2.2.2.2 b2 b1 hp7 b3
        try dsimp only at BP
        refine And.intro ⟨by omega, by omega⟩ ?_
        intro x55 hx55 kx55 lx55
        have CH : x55 = μ.1 70 (4 * v6 + v8) := by rw [hx55]; exact G70 v8 (by omega) (by omega)
        have NC := ND.2.1 v8 (by omega) (by omega)
        refine And.intro ⟨by omega, by omega⟩ (And.intro ⟨by omega, by omega⟩ ?_)
        intro m56 em56
        have z57 := zfx_r z0 em56 rfl (by decide)
        have w58 : m56.1 66 ((60 : Nat) : Int) = g24 := by rw [em56]; exact (congrFun (zu_ne (by decide)) _).trans wg24
        have w59 : m56.1 66 ((8 : Nat) : Int) = g25 := by rw [em56]; exact (congrFun (zu_ne (by decide)) _).trans wg25
        refine Exists.intro (zmB m56 s v6 (v8 + 1)) (And.intro (zmB_next (by rw [em56, zu_ne (by decide)]) (by omega)) ?_)
        exact ⟨(fun h => absurd h (by decide)), (fun _ => ⟨_, _, _, _, _, _, _, _, rfl, z57, ⟨by omega, by omega⟩, ⟨by omega, by omega⟩, ⟨by omega, by omega⟩, ⟨by omega, by omega⟩, ⟨by omega, by omega⟩, ⟨by omega, by omega⟩, ⟨by omega, by omega⟩, ⟨by omega, by omega⟩, (by (try rw [w58]) <;> (try rw [w59]) <;> (try rw [wg24]) <;> (try rw [wg25]) <;> (try rw [wg1]) <;> (try rw [wg2]) <;> omega), (zSJ_same (fun j hj => by rw [em56, zu_ne hj]) i1), (by (try rw [w58]) <;> (try rw [w59]) <;> (try rw [wg24]) <;> (try rw [wg25]) <;> (try rw [wg1]) <;> (try rw [wg2]) <;> omega), (fun j a b => by rw [em56]; rcases (show j < v5 ∨ j = v5 by omega) with q | q <;> first | (rw [zu_nk (by omega)]; exact i3 j a q) | (rw [q, zu_at, CH]; exact ⟨NC.1, by omega, hp5.2 v6 i9.1 i9.2.1 i9.2.2 v8 (by omega) (by omega), by omega⟩)), (by rw [em56, zu_nk (by omega)]; exact i4), (fun x a b => by rw [em56, zu_ne (by decide)]; exact i5 x a b), (by rw [em56, zu_ne (by decide)]; exact i6), ⟨jx, b1, b2, BP.2.1⟩, ⟨fun h => by omega, fun _ => by have e9 : m56.1 99 (v5 + 1 - 1) = x55 := (by rw [em56, show v5 + 1 - 1 = v5 by omega]; exact zu_at); rw [e9, em56, zu_ne (by decide), show x55 = x51 by omega, ← hx52]; exact ⟨by omega, by omega, by omega⟩⟩, i9, (by omega), (fun h => zUq_c (i11 h) (fun j a b => by rw [em56, zu_ne (by omega)]) (by show m56.1 66 _ = m0.1 66 _; rw [em56, zu_ne (by decide)])), rfl⟩)⟩
