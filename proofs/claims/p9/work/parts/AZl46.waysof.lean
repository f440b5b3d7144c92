def yk_X9_waysOf : zC := fun As μ Q => ∃ (a1 : Int) (T : Int) (C : Int) (Pn : Int), As = [.inr (.inr (66, 66)), .inl a1] ∧ (0 ≤ a1 ∧ a1 ≤ 19999) ∧ (∀ x : Int, 0 ≤ x → x < T → zNd μ x) ∧ (a1 < T ∧ T ≤ 20000) ∧ ((∀ x : Int, 0 ≤ x → x < 20000 → μ.1 105 x ≤ μ.1 66 ((68 : Nat) : Int)) ∧ ∀ x : Int, 0 ≤ x → x < 20000 → μ.1 98 x ≤ μ.1 66 ((60 : Nat) : Int)) ∧ ((0 ≤ μ.1 66 ((60 : Nat) : Int) ∧ μ.1 66 ((60 : Nat) : Int) ≤ 1999990000) ∧ 0 ≤ μ.1 66 ((68 : Nat) : Int) ∧ μ.1 66 ((68 : Nat) : Int) ≤ 1999990000) ∧ (zWf μ 0 T C Pn 0 (μ.1 77)) ∧ (∀ c : Int, 0 ≤ c → c < C → 0 ≤ μ.1 76 c ∧ μ.1 76 c + μ.1 77 c ≤ Pn) ∧ (Pn ≤ 80 ∧ C ≤ 21 ∧ μ.1 71 a1 ≤ 300) ∧ (∀ p q : Int, 0 ≤ p → p < 80 → 0 ≤ q → q < 80 → 0 ≤ μ.1 86 (80 * p + q) ∧ μ.1 86 (80 * p + q) ≤ 2) ∧ (∀ (μ' : zM), zfx [86, 98, 99, 105, 106] [60, 68] μ μ' → (μ'.1 66 ((68 : Nat) : Int) = μ.1 66 ((68 : Nat) : Int) + 1) → (∀ x : Int, 0 ≤ x → x < 20000 → μ'.1 105 x ≤ μ'.1 66 ((68 : Nat) : Int)) → (μ.1 66 ((60 : Nat) : Int) ≤ μ'.1 66 ((60 : Nat) : Int) ∧ μ'.1 66 ((60 : Nat) : Int) ≤ μ.1 66 ((60 : Nat) : Int) + 1200) → (∀ x : Int, 0 ≤ x → x < 20000 → μ'.1 98 x ≤ μ'.1 66 ((60 : Nat) : Int)) → (∀ p q : Int, 0 ≤ p → p < 80 → 0 ≤ q → q < 80 → (μ'.1 86 (80 * p + q) = 2 ↔ μ.1 86 (80 * p + q) = 2 ∨ rWy μ (μ.1 76) a1 p q True) ∧ (1 ≤ μ'.1 86 (80 * p + q) ↔ 1 ≤ μ.1 86 (80 * p + q) ∨ rWy μ (μ.1 76) a1 p q False) ∧ 0 ≤ μ'.1 86 (80 * p + q) ∧ μ'.1 86 (80 * p + q) ≤ 2) → Q none μ')
set_option maxHeartbeats 4000000 in
theorem ym_X9_waysOf {g : zΓ} (hg : zg g) (d : Nat) (hd : 2 ≤ d) : zOk g d 153 yk_X9_waysOf := by
  obtain ⟨d, rfl⟩ : ∃ d', d = d' + 1 := ⟨d - 1, by omega⟩
  refine zOk_loop hg (show mt_tab[153]? = some mt_X9_waysOf from rfl) ([(22, [0, 2]), (62, [0, 2, 3, 4])], []) 89 rfl fun As μ Q hC => ?_
  obtain ⟨a1, T, C, Pn, rfl, ha1, hp0, hp1, hp2, hp3, hp4, hp5, hp6, hp7, hQ⟩ := hC
  have hp2b := hp2.2
  replace hp2 := hp2.1
  obtain ⟨g1, wg1⟩ : ∃ z : Int, μ.1 66 ((68 : Nat) : Int) = z := ⟨_, rfl⟩
  have z0 : zfx [86, 98, 99, 105, 106] [60, 68] μ μ := zfx_x μ
  refine ⟨rfl, fun pc vs μ' n => (pc = 22 → ∃ (v2 : Int), vs = [.inr (.inr (66, 66)), .inl v2] ∧ zfx [86, 98, 99, 105, 106] [60, 68] μ μ' ∧ (0 ≤ v2 ∧ v2 ≤ 20000) ∧ (0 ≤ a1) ∧ (μ'.1 66 ((68 : Nat) : Int) = μ.1 66 ((68 : Nat) : Int) + 1) ∧ (zPm (μ'.1 106) T v2) ∧ (zps (μ'.1 106) (μ.1 71) (Int.toNat v2) ≤ μ.1 71 a1) ∧ (∀ x : Int, 0 ≤ x → x < 20000 → μ'.1 105 x ≤ μ'.1 66 ((68 : Nat) : Int)) ∧ (μ.1 66 ((60 : Nat) : Int) ≤ μ'.1 66 ((60 : Nat) : Int) ∧ μ'.1 66 ((60 : Nat) : Int) ≤ μ.1 66 ((60 : Nat) : Int) + 4 * (μ.1 71 a1 - zps (μ'.1 106) (μ.1 71) (Int.toNat v2))) ∧ (∀ x : Int, 0 ≤ x → x < 20000 → μ'.1 98 x ≤ μ'.1 66 ((60 : Nat) : Int)) ∧ (sJ μ μ' T a1 (μ.1 66 ((68 : Nat) : Int) + 1) v2 (-1) 0 ∧ sWz μ μ' T (μ.1 66 ((68 : Nat) : Int) + 1) (-1) 0) ∧ n = (Int.toNat (8 * zps (μ'.1 106) (μ.1 71) (Int.toNat v2) + 7))) ∧ (pc = 62 → ∃ (v2 : Int) (v3 : Int) (v4 : Int), vs = [.inr (.inr (66, 66)), .inl v2, .inl v3, .inl v4] ∧ zfx [86, 98, 99, 105, 106] [60, 68] μ μ' ∧ (0 ≤ v2 ∧ v2 ≤ 20000) ∧ (0 ≤ v3 ∧ v3 ≤ 19999) ∧ (0 ≤ v4 ∧ v4 ≤ 4) ∧ (0 ≤ a1) ∧ (μ'.1 66 ((68 : Nat) : Int) = μ.1 66 ((68 : Nat) : Int) + 1) ∧ (zPm (μ'.1 106) T v2) ∧ ((zps (μ'.1 106) (μ.1 71) (Int.toNat v2) + (μ.1 71 v3 - zsm (fun l => μ.1 71 (μ.1 70 (4 * v3 + l))) (Int.toNat v4))) ≤ μ.1 71 a1 - 1) ∧ (∀ x : Int, 0 ≤ x → x < 20000 → μ'.1 105 x ≤ μ'.1 66 ((68 : Nat) : Int)) ∧ (0 ≤ v3 ∧ v3 < T ∧ v4 ≤ μ.1 69 v3 ∧ μ.1 71 v3 ≤ 99999) ∧ (μ.1 66 ((60 : Nat) : Int) ≤ μ'.1 66 ((60 : Nat) : Int) ∧ μ'.1 66 ((60 : Nat) : Int) ≤ μ.1 66 ((60 : Nat) : Int) + 4 * (μ.1 71 a1 - 1 - (zps (μ'.1 106) (μ.1 71) (Int.toNat v2) + (μ.1 71 v3 - zsm (fun l => μ.1 71 (μ.1 70 (4 * v3 + l))) (Int.toNat v4)))) + v4) ∧ (∀ x : Int, 0 ≤ x → x < 20000 → μ'.1 98 x ≤ μ'.1 66 ((60 : Nat) : Int)) ∧ (sJ μ μ' T a1 (μ.1 66 ((68 : Nat) : Int) + 1) v2 v3 v4 ∧ sWz μ μ' T (μ.1 66 ((68 : Nat) : Int) + 1) v3 v4 ∧ μ'.1 105 v3 = (μ.1 66 ((68 : Nat) : Int) + 1)) ∧ n = (Int.toNat (8 * (zps (μ'.1 106) (μ.1 71) (Int.toNat v2) + (μ.1 71 v3 - zsm (fun l => μ.1 71 (μ.1 70 (4 * v3 + l))) (Int.toNat v4))) + 12 - v4))), ?_, ?_, ?_, trivial⟩
  · intro x2 hx2 kx2 lx2
    rw [wg1] at hx2
    refine And.intro ⟨by omega, by omega⟩ ?_
    intro m3 em3
    have z4 := zfx_f z0 em3 rfl
    have w5 : m3.1 66 ((68 : Nat) : Int) = (x2 + 1) := by rw [em3]; exact zu_at
    refine And.intro ⟨by omega, by omega⟩ (And.intro ⟨by omega, by omega⟩ ?_)
    intro m6 em6
    have z7 := zfx_r z4 em6 rfl (by decide)
    have w8 : m6.1 66 ((68 : Nat) : Int) = (x2 + 1) := by rw [em6]; exact (congrFun (zu_ne (by decide)) _).trans w5
    refine Exists.intro (Int.toNat (8 * zps (m6.1 106) (μ.1 71) (Int.toNat (0 + 1)) + 7)) ?_
    exact ⟨(fun _ => ⟨_, rfl, z7, ⟨by omega, by omega⟩, ha1.1, (by rw [em6, zu_ne (by decide), em3, zu_at]; omega), (fun j a b => by rw [show j = 0 by omega, em6, zu_at]; exact ⟨by omega, hp1.1⟩), (by rw [show (Int.toNat (0 + 1)) = 1 from rfl, zps_1 (y := a1) (by rw [em6, zu_at])]; exact Int.le_refl _), (fun x a b => by rw [em6, zu_ne (by decide), zu_ne (by decide), em3, zu_ne (by decide), zu_at]; have := hp2 x a b; omega), (by rw [em6, zu_ne (show (66 : Nat) ≠ 106 by decide), em3, zu_nk (by decide), show (Int.toNat (0 + 1)) = 1 from rfl, ← em3, zps_1 (y := a1) (by rw [zu_at])]; omega), (fun x a b => by rw [em6, zu_ne (by decide), zu_ne (by decide), em3, zu_ne (by decide), zu_nk (by decide)]; exact hp2b x a b), ⟨sJ_0 (fun y y0 y1 => by rw [em6, zu_ne (by decide), em3, zu_ne (by decide)]; have h1 := hp2 y y0 (by omega); omega) (by rw [em6, zu_at]), sWz_0 (fun y y0 y1 => by rw [em6, zu_ne (by decide), em3, zu_ne (by decide)]; have h1 := hp2 y y0 (by omega); omega) (by rw [em6, zu_ne (by decide), em3, zu_ne (by decide)]) hp7⟩, rfl⟩), (fun h => absurd h (by decide))⟩
  · intro vs m0 n hI
    replace hI := hI.1 rfl
    clear z0
    obtain ⟨v2, rfl, z0, hv2, i0, i1, i2, i3, i4, i5, i6, i7, rfl⟩ := hI
    have PN0 := zPm_n hp0 i2 (by omega)
    obtain ⟨g9, wg9⟩ : ∃ z : Int, m0.1 66 ((68 : Nat) : Int) = z := ⟨_, rfl⟩
    refine And.intro ⟨by omega, by omega⟩ (And.intro (fun c10 => ?_) (fun c10 => ?_))
    · exact And.intro rfl (hQ _ z0 i1 i4 (by omega) i6 (sWz_fin (by have h1 := i7.1; rw [show v2 = 0 by omega] at h1; exact h1) i7.2 (rLo_nd hp0) (by omega) (by omega)))
    · refine And.intro ⟨by omega, by omega⟩ ?_
      intro x11 hx11 kx11 lx11
      have XR := i2 (v2 + -1) (by omega) (by omega)
      rw [← hx11] at XR
      have PE := zps_pop (g := (μ.1 71)) (by omega) hx11
      have SZ := zsz1 hp0 _ x11 rfl XR.1 XR.2
      have NX := hp0 x11 XR.1 XR.2
      have PN := zPm_n hp0 (n := v2 + -1) (fun j a b => i2 j a (by omega)) (by omega)
      refine And.intro ⟨by omega, by omega⟩ ?_
      intro x12 hx12 kx12 lx12
      intro x13 hx13 kx13 lx13
      rw [wg9] at hx13
      refine And.intro ⟨⟨by omega, by omega⟩, ⟨by omega, by omega⟩⟩ (And.intro (fun c14 => ?_) (fun c14 => ?_))
      · refine Exists.intro (Int.toNat (8 * zps (m0.1 106) (μ.1 71) (Int.toNat (v2 + (-1))) + 7)) (And.intro (by omega) ?_)
        exact ⟨(fun _ => ⟨_, rfl, z0, ⟨by omega, by omega⟩, ha1.1, i1, (fun j a b => i2 j a (by omega)), (by omega), i4, (by omega), i6, ⟨by have h1 := sJ_pop (n := v2) i7.1 (by rw [show v2 - 1 = v2 + -1 by omega, ← hx11, ← hx12]; omega); rw [show v2 - 1 = v2 + -1 by omega] at h1; exact h1, i7.2⟩, rfl⟩), (fun h => absurd h (by decide))⟩
      · intro x15 hx15 kx15 lx15
        rw [wg9] at hx15
        refine And.intro ⟨by omega, by omega⟩ (And.intro ⟨by omega, by omega⟩ ?_)
        intro m16 em16
        have z17 := zfx_r z0 em16 rfl (by decide)
        have w18 : m16.1 66 ((68 : Nat) : Int) = g9 := by rw [em16]; exact (congrFun (zu_ne (by decide)) _).trans wg9
        refine Exists.intro (Int.toNat (8 * (zps (m16.1 106) (μ.1 71) (Int.toNat (v2 + (-1))) + (μ.1 71 x11 - zsm (fun l => μ.1 71 (μ.1 70 (4 * x11 + l))) (Int.toNat 0))) + 12 - 0)) (And.intro (by rw [em16, zu_ne (show (106 : Nat) ≠ 105 by decide), show zsm (fun l => μ.1 71 (μ.1 70 (4 * x11 + l))) (Int.toNat 0) = 1 from rfl]; omega) ?_)
        exact ⟨(fun h => absurd h (by decide)), (fun _ => ⟨_, _, _, rfl, z17, ⟨by omega, by omega⟩, ⟨by omega, by omega⟩, ⟨by omega, by omega⟩, ha1.1, (by rw [em16, zu_ne (show (66 : Nat) ≠ 105 by decide)]; exact i1), (zPm_f (fun j a b => i2 j a (by omega)) (by rw [em16, zu_ne (show (106 : Nat) ≠ 105 by decide)])), (by rw [em16, zu_ne (show (106 : Nat) ≠ 105 by decide), show zsm (fun l => μ.1 71 (μ.1 70 (4 * x11 + l))) (Int.toNat 0) = 1 from rfl]; omega), (fun q a b => by rw [em16, zu_ne (show (66 : Nat) ≠ 105 by decide)]; by_cases h : q = x11 <;> first | (rw [h, zu_at]; omega) | (rw [zu_nk h]; exact i4 q a b)), ⟨XR.1, XR.2, by have := NX.1; omega, by omega⟩, (by rw [em16, zu_ne (show (66 : Nat) ≠ 105 by decide), zu_ne (show (106 : Nat) ≠ 105 by decide), show zsm (fun l => μ.1 71 (μ.1 70 (4 * x11 + l))) (Int.toNat 0) = 1 from rfl]; omega), (fun x a b => by rw [em16, zu_ne (show (66 : Nat) ≠ 105 by decide), zu_ne (show (98 : Nat) ≠ 105 by decide)]; exact i6 x a b), ⟨by have h1 := sJ_new (n := v2) (y := x11) (m' := m16) i7.1 (by omega) (by rw [show v2 - 1 = v2 + -1 by omega]; exact hx11) XR.1 XR.2 (fun k => by rw [em16, zu_if, show x15 = (μ.1 66 ((68 : Nat) : Int) + 1) by omega]) (by rw [em16, zu_ne (by decide)]); rw [show v2 - 1 = v2 + -1 by omega] at h1; exact h1, sWz_new i7.2 XR.1 (by rw [← hx12]; omega) (fun k => by rw [em16, zu_if, show x15 = (μ.1 66 ((68 : Nat) : Int) + 1) by omega]) (by rw [em16, zu_ne (by decide)]), by rw [em16, zu_at]; omega⟩, rfl⟩)⟩
  · intro vs m0 n hI
    replace hI := hI.2 rfl
    clear z0
    obtain ⟨v2, v3, v4, rfl, z0, hv2, hv3, hv4, i0, i1, i2, i3, i4, i5, i6, i7, i8, rfl⟩ := hI
    have NX := hp0 v3 i5.1 i5.2.1
    have SL : ∀ l : Int, 0 ≤ l → l < μ.1 69 v3 → 1 ≤ (fun l => μ.1 71 (μ.1 70 (4 * v3 + l))) l := fun l a b => zsz1 hp0 _ _ rfl (NX.2.1 l a b).1 (by have := (NX.2.1 l a b).2; omega)
    have PN0 := zPm_n hp0 i2 (by omega)
    have SX : zsm (fun l => μ.1 71 (μ.1 70 (4 * v3 + l))) (Int.toNat (μ.1 69 v3)) = μ.1 71 v3 := zsz_p hp0 ⟨i5.1, i5.2.1⟩ i5.2.2.2
    have SM := zsm_mono (f := fun l => μ.1 71 (μ.1 70 (4 * v3 + l))) (m := v4.toNat) (n := (μ.1 69 v3).toNat) (by omega) (fun l a b => SL l a (by omega))
    obtain ⟨g19, wg19⟩ : ∃ z : Int, m0.1 66 ((68 : Nat) : Int) = z := ⟨_, rfl⟩
    refine And.intro ⟨by omega, by omega⟩ ?_
    intro x20 hx20 kx20 lx20
    rw [show m0.1 69 = μ.1 69 from z0.1 69 (by decide) rfl] at hx20
    refine And.intro ⟨⟨by omega, by omega⟩, ⟨by omega, by omega⟩⟩ (And.intro (fun c21 => ?_) (fun c21 => ?_))
    · refine Exists.intro (Int.toNat (8 * zps (m0.1 106) (μ.1 71) (Int.toNat v2) + 7)) (And.intro (by omega) ?_)
      exact ⟨(fun _ => ⟨_, rfl, z0, ⟨by omega, by omega⟩, ha1.1, i1, i2, (by omega), i4, (by omega), i7, ⟨sJ_end i8.1 (by omega), sWz_e i8.2.1 (by omega)⟩, rfl⟩), (fun h => absurd h (by decide))⟩
    · refine And.intro ⟨by omega, by omega⟩ ?_
      intro x22 hx22 kx22 lx22
      rw [show m0.1 67 = μ.1 67 from z0.1 67 (by decide) rfl] at hx22
      refine And.intro ⟨by omega, by omega⟩ (And.intro (fun c23 => ?_) (fun c23 => ?_))
      · refine And.intro ⟨by omega, by omega⟩ ?_
        intro x24 hx24 kx24 lx24
        rw [show m0.1 70 = μ.1 70 from z0.1 70 (by decide) rfl] at hx24
        have NC := NX.2.1 v4 (by omega) (by omega)
        rw [show 4 * v3 + v4 = ((4 * v3) + v4) by omega, ← hx24] at NC
        have ZS : zsm (fun l => μ.1 71 (μ.1 70 (4 * v3 + l))) (Int.toNat (v4 + 1)) = zsm (fun l => μ.1 71 (μ.1 70 (4 * v3 + l))) (Int.toNat v4) + μ.1 71 x24 := by rw [zsm_s (by omega)]; (try dsimp only); rw [show 4 * v3 + v4 = ((4 * v3) + v4) by omega, ← hx24]
        have ZM := zsm_mono (f := fun l => μ.1 71 (μ.1 70 (4 * v3 + l))) (m := (v4 + 1).toNat) (n := (μ.1 69 v3).toNat) (by omega) (fun l a b => SL l a (by omega))
        refine And.intro ⟨by omega, by omega⟩ (And.intro ⟨by omega, by omega⟩ ?_)
        intro m25 em25
        have z26 := zfx_r z0 em25 rfl (by decide)
        have w27 : m25.1 66 ((68 : Nat) : Int) = g19 := by rw [em25]; exact (congrFun (zu_ne (by decide)) _).trans wg19
        refine Exists.intro (Int.toNat (8 * (zps (m25.1 106) (μ.1 71) (Int.toNat (v2 + 1)) + (μ.1 71 v3 - zsm (fun l => μ.1 71 (μ.1 70 (4 * v3 + l))) (Int.toNat (v4 + 1)))) + 12 - (v4 + 1))) (And.intro (by rw [zps_push (f := m0.1 106) (y := x24) (by omega) (by rw [em25, zu_at]) (fun j hj => by rw [em25, zu_nk hj]), ZS]; omega) ?_)
        exact ⟨(fun h => absurd h (by decide)), (fun _ => ⟨_, _, _, rfl, z26, ⟨by omega, by omega⟩, ⟨by omega, by omega⟩, ⟨by omega, by omega⟩, ha1.1, (by rw [em25, zu_ne (by decide)]; exact i1), (zPm_push i2 ⟨by omega, by omega⟩ (by rw [em25, zu_at]) (fun j hj => by rw [em25, zu_nk hj])), (by rw [zps_push (f := m0.1 106) (y := x24) (by omega) (by rw [em25, zu_at]) (fun j hj => by rw [em25, zu_nk hj]), ZS]; omega), (fun q a b => by rw [em25, zu_ne (by decide), zu_ne (by decide)]; exact i4 q a b), ⟨i5.1, i5.2.1, by omega, i5.2.2.2⟩, (by rw [em25, zu_ne (show (66 : Nat) ≠ 106 by decide), zps_push (f := m0.1 106) (y := x24) (by omega) (by rw [zu_at]) (fun j hj => by rw [zu_nk hj]), ZS]; omega), (fun x a b => by rw [em25, zu_ne (show (66 : Nat) ≠ 106 by decide), zu_ne (show (98 : Nat) ≠ 106 by decide)]; exact i7 x a b), ⟨sJ_push i8.1 (by omega) (by omega) (by omega) i5.1 i5.2.1 i8.2.2 (by rw [em25, zu_ne (by decide)]) (fun k => by rw [em25, zu_if]; rw [hx24]), (sWz_n i8.2.1 (by omega) (by rw [em25, zu_ne (by decide)]) (by rw [em25, zu_ne (by decide)])), by rw [em25, zu_ne (by decide)]; exact i8.2.2⟩, rfl⟩)⟩
      · refine And.intro ⟨by omega, by omega⟩ ?_
        intro x28 hx28 kx28 lx28
        rw [show m0.1 70 = μ.1 70 from z0.1 70 (by decide) rfl] at hx28
        refine And.intro ⟨by omega, by omega⟩ ?_
        intro x29 hx29 kx29 lx29
        rw [show m0.1 68 = μ.1 68 from z0.1 68 (by decide) rfl] at hx29
        have CW := (hp4 v3 i5.1 i5.2.1).2.1 (by omega)
        rw [← hx29] at CW
        have CF := hp5 x29 (by omega) CW.1
        refine And.intro ⟨by omega, by omega⟩ ?_
        intro x30 hx30 kx30 lx30
        rw [show m0.1 76 = μ.1 76 from z0.1 76 (by decide) rfl] at hx30
        have NC0 := NX.2.1 v4 (by omega) (by omega)
        rw [show 4 * v3 + v4 = ((4 * v3) + v4) by omega, ← hx28] at NC0
        have ZS0 : zsm (fun l => μ.1 71 (μ.1 70 (4 * v3 + l))) (Int.toNat (v4 + 1)) = zsm (fun l => μ.1 71 (μ.1 70 (4 * v3 + l))) (Int.toNat v4) + μ.1 71 x28 := by rw [zsm_s (by omega)]; (try dsimp only); rw [show 4 * v3 + v4 = ((4 * v3) + v4) by omega, ← hx28]
        have ZM0 := zsm_mono (f := fun l => μ.1 71 (μ.1 70 (4 * v3 + l))) (m := (v4 + 1).toNat) (n := (μ.1 69 v3).toNat) (by omega) (fun l a b => SL l a (by omega))
        refine ⟨yk_X9_addWays, ym_X9_addWays hg d (by omega), _, _, _, rfl, ⟨by omega, by omega⟩, ⟨by omega, by omega⟩, (fun x a b => zNd_same (fun j c d => z0.1 j (by omega) (zanyF (by simp <;> omega))) (hp0 x a b)), ⟨by omega, hp1.2⟩, i7, (by omega), (by rw [show m0.1 67 = μ.1 67 from z0.1 67 (by decide) rfl, show m0.1 68 = μ.1 68 from z0.1 68 (by decide) rfl]; exact fun x a b c => by have := ((hp4 x a b).2.2.1 c).1; omega), (by rw [show m0.1 71 = μ.1 71 from z0.1 71 (by decide) rfl]; omega), (fun p q p0 p1 q0 q1 => (i8.2.1 p q p0 p1 q0 q1).2.2), ?_⟩
        intro m31 qm31 p32 p33 p34
        have z35 := zfx_t z0 qm31 rfl rfl
        have w36 : m31.1 66 ((68 : Nat) : Int) = g19 := (qm31.2.1 68 rfl).trans wg19
        refine And.intro ⟨by omega, by omega⟩ ?_
        intro x37 hx37 kx37 lx37
        rw [show m31.1 70 = μ.1 70 from z35.1 70 (by decide) rfl] at hx37
        have NC := NX.2.1 v4 (by omega) (by omega)
        rw [show 4 * v3 + v4 = ((4 * v3) + v4) by omega, ← hx37] at NC
        have ZS : zsm (fun l => μ.1 71 (μ.1 70 (4 * v3 + l))) (Int.toNat (v4 + 1)) = zsm (fun l => μ.1 71 (μ.1 70 (4 * v3 + l))) (Int.toNat v4) + μ.1 71 x37 := by rw [zsm_s (by omega)]; (try dsimp only); rw [show 4 * v3 + v4 = ((4 * v3) + v4) by omega, ← hx37]
        have ZM := zsm_mono (f := fun l => μ.1 71 (μ.1 70 (4 * v3 + l))) (m := (v4 + 1).toNat) (n := (μ.1 69 v3).toNat) (by omega) (fun l a b => SL l a (by omega))
        refine And.intro ⟨by omega, by omega⟩ (And.intro ⟨by omega, by omega⟩ ?_)
        intro m38 em38
        have z39 := zfx_r z35 em38 rfl (by decide)
        have w40 : m38.1 66 ((68 : Nat) : Int) = g19 := by rw [em38]; exact (congrFun (zu_ne (by decide)) _).trans w36
        refine Exists.intro (Int.toNat (8 * (zps (m38.1 106) (μ.1 71) (Int.toNat (v2 + 1)) + (μ.1 71 v3 - zsm (fun l => μ.1 71 (μ.1 70 (4 * v3 + l))) (Int.toNat (v4 + 1)))) + 12 - (v4 + 1))) (And.intro (by rw [zps_push (f := m0.1 106) (y := x37) (by omega) (by rw [em38, zu_at]) (fun j hj => by rw [em38, zu_nk hj, qm31.1 106 (by decide) rfl]), ZS]; omega) ?_)
        exact ⟨(fun h => absurd h (by decide)), (fun _ => ⟨_, _, _, rfl, z39, ⟨by omega, by omega⟩, ⟨by omega, by omega⟩, ⟨by omega, by omega⟩, ha1.1, (by rw [em38, zu_ne (by decide), qm31.2.1 68 rfl]; exact i1), (zPm_push i2 ⟨by omega, by omega⟩ (by rw [em38, zu_at]) (fun j hj => by rw [em38, zu_nk hj, qm31.1 106 (by decide) rfl])), (by rw [zps_push (f := m0.1 106) (y := x37) (by omega) (by rw [em38, zu_at]) (fun j hj => by rw [em38, zu_nk hj, qm31.1 106 (by decide) rfl]), ZS]; omega), (fun q a b => by rw [em38, zu_ne (by decide), zu_ne (by decide), qm31.2.1 68 rfl, qm31.1 105 (by decide) rfl]; exact i4 q a b), ⟨i5.1, i5.2.1, by omega, i5.2.2.2⟩, (by rw [em38, zu_ne (show (66 : Nat) ≠ 106 by decide), zps_push (f := m0.1 106) (y := x37) (by omega) (by rw [zu_at]) (fun j hj => by rw [zu_nk hj, qm31.1 106 (by decide) rfl]), ZS]; have h1 := p32; omega), (fun x a b => by rw [em38, zu_ne (show (66 : Nat) ≠ 106 by decide), zu_ne (show (98 : Nat) ≠ 106 by decide)]; exact p33 x a b), ⟨sJ_push (sJ_f i8.1 (qm31.1 105 (by decide) rfl) (qm31.1 106 (by decide) rfl)) (by omega) (by omega) (by omega) i5.1 i5.2.1 (by rw [qm31.1 105 (by decide) rfl]; exact i8.2.2) (by rw [em38, zu_ne (by decide)]) (fun k => by rw [em38, zu_if]; rw [hx37]), (sWz_f (sWz_s i8.2.1 i5.1 i5.2.1 i8.2.2 (by omega) (by omega) (by omega) hx28 (by rw [hx30, hx29]) (fun j a b => z0.1 j (by omega) (zanyF (by simp <;> omega))) (qm31.1 105 (by decide) rfl) p34) (by rw [em38, zu_ne (by decide)]) (by rw [em38, zu_ne (by decide)])), by rw [em38, zu_ne (by decide), qm31.1 105 (by decide) rfl]; exact i8.2.2⟩, rfl⟩)⟩
