def yk_X9_addWays : zC := fun As μ Q => ∃ (a1 : Int) (a2 : Int) (T : Int), As = [.inr (.inr (66, 66)), .inl a1, .inl a2] ∧ (0 ≤ a1 ∧ a1 ≤ 19999) ∧ (0 ≤ a2 ∧ a2 ≤ 79) ∧ (∀ x : Int, 0 ≤ x → x < T → zNd μ x) ∧ (a1 < T ∧ T ≤ 20000) ∧ (∀ x : Int, 0 ≤ x → x < 20000 → μ.1 98 x ≤ μ.1 66 ((60 : Nat) : Int)) ∧ (0 ≤ μ.1 66 ((60 : Nat) : Int) ∧ μ.1 66 ((60 : Nat) : Int) ≤ 2000000000) ∧ (∀ x : Int, 0 ≤ x → x < T → μ.1 67 x = 1 → μ.1 68 x ≤ 79) ∧ (μ.1 71 a1 ≤ 9999) ∧ (∀ p q : Int, 0 ≤ p → p < 80 → 0 ≤ q → q < 80 → 0 ≤ μ.1 86 (80 * p + q) ∧ μ.1 86 (80 * p + q) ≤ 2) ∧ (∀ (μ' : zM), zfx [86, 98, 99] [60] μ μ' → (μ'.1 66 ((60 : Nat) : Int) = μ.1 66 ((60 : Nat) : Int) + 1) → (∀ x : Int, 0 ≤ x → x < 20000 → μ'.1 98 x ≤ μ'.1 66 ((60 : Nat) : Int)) → ((∀ p : Int, 0 ≤ p → p < 80 → (μ'.1 86 (80 * p + a2) = 2 ↔ μ.1 86 (80 * p + a2) = 2 ∨ ∃ k x, rRe μ k a1 x ∧ μ.1 67 x = 1 ∧ μ.1 68 x = p ∧ x ≠ a1) ∧ (1 ≤ μ'.1 86 (80 * p + a2) ↔ 1 ≤ μ.1 86 (80 * p + a2) ∨ ∃ k x, rRe μ k a1 x ∧ μ.1 67 x = 1 ∧ μ.1 68 x = p)) ∧ ∀ p q : Int, 0 ≤ p → p < 80 → 0 ≤ q → q < 80 → (0 ≤ μ'.1 86 (80 * p + q) ∧ μ'.1 86 (80 * p + q) ≤ 2) ∧ (q ≠ a2 → μ'.1 86 (80 * p + q) = μ.1 86 (80 * p + q))) → Q none μ')
set_option maxHeartbeats 4000000 in
theorem ym_X9_addWays {g : zΓ} (hg : zg g) (d : Nat) (hd : 1 ≤ d) : zOk g d 152 yk_X9_addWays := by
  obtain ⟨d, rfl⟩ : ∃ d', d = d' + 1 := ⟨d - 1, by omega⟩
  refine zOk_loop hg (show mt_tab[152]? = some mt_X9_addWays from rfl) ([(22, [0, 1, 2, 3]), (119, [0, 1, 2, 3, 4, 5])], []) 96 rfl fun As μ Q hC => ?_
  obtain ⟨a1, a2, T, rfl, ha1, ha2, hp0, hp1, hp2, hp3, hp4, hp5, hp6, hQ⟩ := hC
  obtain ⟨g1, wg1⟩ : ∃ z : Int, μ.1 66 ((60 : Nat) : Int) = z := ⟨_, rfl⟩
  have z0 : zfx [86, 98, 99] [60] μ μ := zfx_x μ
  refine ⟨rfl, fun pc vs μ' n => (pc = 22 → ∃ (v1 : Int) (v2 : Int) (v3 : Int), vs = [.inr (.inr (66, 66)), .inl v1, .inl v2, .inl v3] ∧ zfx [86, 98, 99] [60] μ μ' ∧ (0 ≤ v1 ∧ v1 ≤ 19999) ∧ (0 ≤ v2 ∧ v2 ≤ 79) ∧ (0 ≤ v3 ∧ v3 ≤ 20000) ∧ (v1 = a1 ∧ v2 = a2) ∧ (μ'.1 66 ((60 : Nat) : Int) = μ.1 66 ((60 : Nat) : Int) + 1) ∧ (zPm (μ'.1 99) T v3) ∧ (zps (μ'.1 99) (μ.1 71) (Int.toNat v3) ≤ μ.1 71 a1) ∧ (∀ x : Int, 0 ≤ x → x < 20000 → μ'.1 98 x ≤ μ'.1 66 ((60 : Nat) : Int)) ∧ (rJ μ μ' T a1 (μ.1 66 ((60 : Nat) : Int) + 1) v3 (-1) 0 ∧ rWz μ μ' T (μ.1 66 ((60 : Nat) : Int) + 1) a1 a2) ∧ n = (Int.toNat (8 * zps (μ'.1 99) (μ.1 71) (Int.toNat v3) + 7))) ∧ (pc = 119 → ∃ (v1 : Int) (v2 : Int) (v3 : Int) (v4 : Int) (v5 : Int), vs = [.inr (.inr (66, 66)), .inl v1, .inl v2, .inl v3, .inl v4, .inl v5] ∧ zfx [86, 98, 99] [60] μ μ' ∧ (0 ≤ v1 ∧ v1 ≤ 19999) ∧ (0 ≤ v2 ∧ v2 ≤ 79) ∧ (0 ≤ v3 ∧ v3 ≤ 20000) ∧ (0 ≤ v4 ∧ v4 ≤ 19999) ∧ (0 ≤ v5 ∧ v5 ≤ 4) ∧ (v1 = a1 ∧ v2 = a2) ∧ (μ'.1 66 ((60 : Nat) : Int) = μ.1 66 ((60 : Nat) : Int) + 1) ∧ (zPm (μ'.1 99) T v3) ∧ ((zps (μ'.1 99) (μ.1 71) (Int.toNat v3) + (μ.1 71 v4 - zsm (fun l => μ.1 71 (μ.1 70 (4 * v4 + l))) (Int.toNat v5))) ≤ μ.1 71 a1 - 1) ∧ (∀ x : Int, 0 ≤ x → x < 20000 → μ'.1 98 x ≤ μ'.1 66 ((60 : Nat) : Int)) ∧ (0 ≤ v4 ∧ v4 < T ∧ v5 ≤ μ.1 69 v4 ∧ μ.1 71 v4 ≤ 99999) ∧ (rJ μ μ' T a1 (μ.1 66 ((60 : Nat) : Int) + 1) v3 v4 v5 ∧ rWz μ μ' T (μ.1 66 ((60 : Nat) : Int) + 1) a1 a2 ∧ μ'.1 98 v4 = (μ.1 66 ((60 : Nat) : Int) + 1)) ∧ n = (Int.toNat (8 * (zps (μ'.1 99) (μ.1 71) (Int.toNat v3) + (μ.1 71 v4 - zsm (fun l => μ.1 71 (μ.1 70 (4 * v4 + l))) (Int.toNat v5))) + 12 - v5))), ?_, ?_, ?_, trivial⟩
  · intro x2 hx2 kx2 lx2
    rw [wg1] at hx2
    refine And.intro ⟨by omega, by omega⟩ ?_
    intro m3 em3
    have z4 := zfx_f z0 em3 rfl
    have w5 : m3.1 66 ((60 : Nat) : Int) = (x2 + 1) := by rw [em3]; exact zu_at
    refine And.intro ⟨by omega, by omega⟩ (And.intro ⟨by omega, by omega⟩ ?_)
    intro m6 em6
    have z7 := zfx_r z4 em6 rfl (by decide)
    have w8 : m6.1 66 ((60 : Nat) : Int) = (x2 + 1) := by rw [em6]; exact (congrFun (zu_ne (by decide)) _).trans w5
    refine Exists.intro (Int.toNat (8 * zps (m6.1 99) (μ.1 71) (Int.toNat (0 + 1)) + 7)) ?_
    exact ⟨(fun _ => ⟨_, _, _, rfl, z7, ⟨by omega, by omega⟩, ⟨by omega, by omega⟩, ⟨by omega, by omega⟩, ⟨rfl, rfl⟩, (by rw [em6, zu_ne (by decide), em3, zu_at]; omega), (fun j a b => by rw [show j = 0 by omega, em6, zu_at]; exact ⟨by omega, hp1.1⟩), (by rw [show (Int.toNat (0 + 1)) = 1 from rfl, zps_1 (y := a1) (by rw [em6, zu_at])]; exact Int.le_refl _), (fun x a b => by rw [em6, zu_ne (by decide), zu_ne (by decide), em3, zu_ne (by decide), zu_at]; have := hp2 x a b; omega), ⟨rJ_0 (fun y y0 y1 => by rw [em6, zu_ne (by decide), em3, zu_ne (by decide)]; have h1 := hp2 y y0 (by omega); omega) (by rw [em6, zu_at]), rWz_0 (fun y y0 y1 => by rw [em6, zu_ne (by decide), em3, zu_ne (by decide)]; have h1 := hp2 y y0 (by omega); omega) (by rw [em6, zu_ne (by decide), em3, zu_ne (by decide)]) hp6⟩, rfl⟩), (fun h => absurd h (by decide))⟩
  · intro vs m0 n hI
    replace hI := hI.1 rfl
    clear z0
    obtain ⟨v1, v2, v3, rfl, z0, hv1, hv2, hv3, i0, i1, i2, i3, i4, i5, rfl⟩ := hI
    have PN0 := zPm_n hp0 i2 (by omega)
    obtain ⟨g9, wg9⟩ : ∃ z : Int, m0.1 66 ((60 : Nat) : Int) = z := ⟨_, rfl⟩
    refine And.intro ⟨by omega, by omega⟩ (And.intro (fun c10 => ?_) (fun c10 => ?_))
    · exact And.intro rfl (hQ _ z0 i1 i4 (rWz_fin (by have h1 := i5.1; rw [show v3 = 0 by omega] at h1; exact h1) i5.2 (rLo_nd hp0) (by omega) (by omega)))
    · refine And.intro ⟨by omega, by omega⟩ ?_
      intro x11 hx11 kx11 lx11
      have XR := i2 (v3 + -1) (by omega) (by omega)
      rw [← hx11] at XR
      have PE := zps_pop (g := (μ.1 71)) (by omega) hx11
      have SZ := zsz1 hp0 _ x11 rfl XR.1 XR.2
      have NX := hp0 x11 XR.1 XR.2
      have PN := zPm_n hp0 (n := v3 + -1) (fun j a b => i2 j a (by omega)) (by omega)
      refine And.intro ⟨by omega, by omega⟩ ?_
      intro x12 hx12 kx12 lx12
      intro x13 hx13 kx13 lx13
      rw [wg9] at hx13
      refine And.intro ⟨⟨by omega, by omega⟩, ⟨by omega, by omega⟩⟩ (And.intro (fun c14 => ?_) (fun c14 => ?_))
      · refine Exists.intro (Int.toNat (8 * zps (m0.1 99) (μ.1 71) (Int.toNat (v3 + (-1))) + 7)) (And.intro (by omega) ?_)
        exact ⟨(fun _ => ⟨_, _, _, rfl, z0, ⟨by omega, by omega⟩, ⟨by omega, by omega⟩, ⟨by omega, by omega⟩, i0, i1, (fun j a b => i2 j a (by omega)), (by omega), i4, ⟨by have h1 := rJ_pop (n := v3) i5.1 (by rw [show v3 - 1 = v3 + -1 by omega, ← hx11, ← hx12]; omega); rw [show v3 - 1 = v3 + -1 by omega] at h1; exact h1, i5.2⟩, rfl⟩), (fun h => absurd h (by decide))⟩
      · intro x15 hx15 kx15 lx15
        rw [wg9] at hx15
        refine And.intro ⟨by omega, by omega⟩ (And.intro ⟨by omega, by omega⟩ ?_)
        intro m16 em16
        have z17 := zfx_r z0 em16 rfl (by decide)
        have w18 : m16.1 66 ((60 : Nat) : Int) = g9 := by rw [em16]; exact (congrFun (zu_ne (by decide)) _).trans wg9
        refine And.intro ⟨by omega, by omega⟩ ?_
        intro x19 hx19 kx19 lx19
        rw [show m16.1 67 = μ.1 67 from z17.1 67 (by decide) rfl] at hx19
        refine And.intro ⟨⟨by omega, by omega⟩, ⟨by omega, by omega⟩⟩ (And.intro (fun c20 => ?_) (fun c20 => ?_))
        · refine Exists.intro (Int.toNat (8 * (zps (m16.1 99) (μ.1 71) (Int.toNat (v3 + (-1))) + (μ.1 71 x11 - zsm (fun l => μ.1 71 (μ.1 70 (4 * x11 + l))) (Int.toNat 0))) + 12 - 0)) (And.intro (by rw [em16, zu_ne (show (99 : Nat) ≠ 98 by decide), show zsm (fun l => μ.1 71 (μ.1 70 (4 * x11 + l))) (Int.toNat 0) = 1 from rfl]; omega) ?_)
          exact ⟨(fun h => absurd h (by decide)), (fun _ => ⟨_, _, _, _, _, rfl, z17, ⟨by omega, by omega⟩, ⟨by omega, by omega⟩, ⟨by omega, by omega⟩, ⟨by omega, by omega⟩, ⟨by omega, by omega⟩, i0, (by rw [em16, zu_ne (show (66 : Nat) ≠ 98 by decide)]; exact i1), (zPm_f (fun j a b => i2 j a (by omega)) (by rw [em16, zu_ne (show (99 : Nat) ≠ 98 by decide)])), (by rw [em16, zu_ne (show (99 : Nat) ≠ 98 by decide), show zsm (fun l => μ.1 71 (μ.1 70 (4 * x11 + l))) (Int.toNat 0) = 1 from rfl]; omega), (fun q a b => by rw [em16, zu_ne (show (66 : Nat) ≠ 98 by decide)]; by_cases h : q = x11 <;> first | (rw [h, zu_at]; omega) | (rw [zu_nk h]; exact i4 q a b)), ⟨XR.1, XR.2, by have := NX.1; omega, by omega⟩, ⟨(by have h1 := rJ_new (n := v3) (y := x11) (m' := m16) i5.1 (by omega) (by rw [show v3 - 1 = v3 + -1 by omega]; exact hx11) XR.1 XR.2 (fun k => by rw [em16, zu_if, show x15 = (μ.1 66 ((60 : Nat) : Int) + 1) by omega]) (by rw [em16, zu_ne (by decide)]); rw [show v3 - 1 = v3 + -1 by omega] at h1; exact h1), (rWz_new i5.2 XR.1 XR.2 (by omega) (fun k => by rw [em16, zu_if, show x15 = (μ.1 66 ((60 : Nat) : Int) + 1) by omega]) (by rw [em16, zu_ne (by decide)])), by rw [em16, zu_at]; omega⟩, rfl⟩)⟩
        · refine And.intro ⟨by omega, by omega⟩ ?_
          intro x21 hx21 kx21 lx21
          rw [show m16.1 68 = μ.1 68 from z17.1 68 (by decide) rfl] at hx21
          have V79 := hp4 x11 XR.1 XR.2 (by omega)
          refine And.intro ⟨⟨by omega, by omega⟩, ⟨by omega, by omega⟩⟩ (And.intro (fun c22 => ?_) (fun c22 => ?_))
          · refine And.intro ⟨by omega, by omega⟩ (And.intro ⟨by omega, by omega⟩ ?_)
            intro m23 em23
            have z24 := zfx_r z17 em23 rfl (by decide)
            have w25 : m23.1 66 ((60 : Nat) : Int) = g9 := by rw [em23]; exact (congrFun (zu_ne (by decide)) _).trans w18
            refine Exists.intro (Int.toNat (8 * (zps (m23.1 99) (μ.1 71) (Int.toNat (v3 + (-1))) + (μ.1 71 x11 - zsm (fun l => μ.1 71 (μ.1 70 (4 * x11 + l))) (Int.toNat 0))) + 12 - 0)) (And.intro (by rw [em23, zu_ne (show (99 : Nat) ≠ 86 by decide), em16, zu_ne (show (99 : Nat) ≠ 98 by decide), show zsm (fun l => μ.1 71 (μ.1 70 (4 * x11 + l))) (Int.toNat 0) = 1 from rfl]; omega) ?_)
            exact ⟨(fun h => absurd h (by decide)), (fun _ => ⟨_, _, _, _, _, rfl, z24, ⟨by omega, by omega⟩, ⟨by omega, by omega⟩, ⟨by omega, by omega⟩, ⟨by omega, by omega⟩, ⟨by omega, by omega⟩, i0, (by rw [em23, zu_ne (show (66 : Nat) ≠ 86 by decide), em16, zu_ne (show (66 : Nat) ≠ 98 by decide)]; exact i1), (zPm_f (fun j a b => i2 j a (by omega)) (by rw [em23, zu_ne (show (99 : Nat) ≠ 86 by decide), em16, zu_ne (show (99 : Nat) ≠ 98 by decide)])), (by rw [em23, zu_ne (show (99 : Nat) ≠ 86 by decide), em16, zu_ne (show (99 : Nat) ≠ 98 by decide), show zsm (fun l => μ.1 71 (μ.1 70 (4 * x11 + l))) (Int.toNat 0) = 1 from rfl]; omega), (fun q a b => by rw [em23, zu_ne (show (66 : Nat) ≠ 86 by decide), zu_ne (show (98 : Nat) ≠ 86 by decide), em16, zu_ne (show (66 : Nat) ≠ 98 by decide)]; by_cases h : q = x11 <;> first | (rw [h, zu_at]; omega) | (rw [zu_nk h]; exact i4 q a b)), ⟨XR.1, XR.2, by have := NX.1; omega, by omega⟩, ⟨(by have h1 := rJ_new (n := v3) (y := x11) (m' := m23) i5.1 (by omega) (by rw [show v3 - 1 = v3 + -1 by omega]; exact hx11) XR.1 XR.2 (fun k => by rw [em23, zu_ne (by decide), em16, zu_if, show x15 = (μ.1 66 ((60 : Nat) : Int) + 1) by omega]) (by rw [em23, zu_ne (by decide), em16, zu_ne (by decide)]); rw [show v3 - 1 = v3 + -1 by omega] at h1; exact h1), (rWz_par (v := 2) i5.2 XR.1 XR.2 (by omega) ⟨by omega, by omega⟩ ⟨by omega, by omega⟩ (fun k => by rw [em23, zu_ne (by decide), em16, zu_if, show x15 = (μ.1 66 ((60 : Nat) : Int) + 1) by omega]) (fun k => by rw [em23, zu_if, show ((80 * x21) + v2) = 80 * μ.1 68 x11 + a2 by omega, em16, zu_ne (by decide)]) (Or.inl ⟨rfl, Or.inl (by omega)⟩)), by rw [em23, zu_ne (by decide), em16, zu_at]; omega⟩, rfl⟩)⟩
          · refine And.intro ⟨by omega, by omega⟩ ?_
            intro x26 hx26 kx26 lx26
            refine And.intro ⟨⟨by omega, by omega⟩, ⟨by omega, by omega⟩⟩ (And.intro (fun c27 => ?_) (fun c27 => ?_))
            · refine And.intro ⟨by omega, by omega⟩ (And.intro ⟨by omega, by omega⟩ ?_)
              intro m28 em28
              have z29 := zfx_r z17 em28 rfl (by decide)
              have w30 : m28.1 66 ((60 : Nat) : Int) = g9 := by rw [em28]; exact (congrFun (zu_ne (by decide)) _).trans w18
              refine Exists.intro (Int.toNat (8 * (zps (m28.1 99) (μ.1 71) (Int.toNat (v3 + (-1))) + (μ.1 71 x11 - zsm (fun l => μ.1 71 (μ.1 70 (4 * x11 + l))) (Int.toNat 0))) + 12 - 0)) (And.intro (by rw [em28, zu_ne (show (99 : Nat) ≠ 86 by decide), em16, zu_ne (show (99 : Nat) ≠ 98 by decide), show zsm (fun l => μ.1 71 (μ.1 70 (4 * x11 + l))) (Int.toNat 0) = 1 from rfl]; omega) ?_)
              exact ⟨(fun h => absurd h (by decide)), (fun _ => ⟨_, _, _, _, _, rfl, z29, ⟨by omega, by omega⟩, ⟨by omega, by omega⟩, ⟨by omega, by omega⟩, ⟨by omega, by omega⟩, ⟨by omega, by omega⟩, i0, (by rw [em28, zu_ne (show (66 : Nat) ≠ 86 by decide), em16, zu_ne (show (66 : Nat) ≠ 98 by decide)]; exact i1), (zPm_f (fun j a b => i2 j a (by omega)) (by rw [em28, zu_ne (show (99 : Nat) ≠ 86 by decide), em16, zu_ne (show (99 : Nat) ≠ 98 by decide)])), (by rw [em28, zu_ne (show (99 : Nat) ≠ 86 by decide), em16, zu_ne (show (99 : Nat) ≠ 98 by decide), show zsm (fun l => μ.1 71 (μ.1 70 (4 * x11 + l))) (Int.toNat 0) = 1 from rfl]; omega), (fun q a b => by rw [em28, zu_ne (show (66 : Nat) ≠ 86 by decide), zu_ne (show (98 : Nat) ≠ 86 by decide), em16, zu_ne (show (66 : Nat) ≠ 98 by decide)]; by_cases h : q = x11 <;> first | (rw [h, zu_at]; omega) | (rw [zu_nk h]; exact i4 q a b)), ⟨XR.1, XR.2, by have := NX.1; omega, by omega⟩, ⟨(by have h1 := rJ_new (n := v3) (y := x11) (m' := m28) i5.1 (by omega) (by rw [show v3 - 1 = v3 + -1 by omega]; exact hx11) XR.1 XR.2 (fun k => by rw [em28, zu_ne (by decide), em16, zu_if, show x15 = (μ.1 66 ((60 : Nat) : Int) + 1) by omega]) (by rw [em28, zu_ne (by decide), em16, zu_ne (by decide)]); rw [show v3 - 1 = v3 + -1 by omega] at h1; exact h1), (rWz_par (v := 1) i5.2 XR.1 XR.2 (by omega) ⟨by omega, by omega⟩ ⟨by omega, by omega⟩ (fun k => by rw [em28, zu_ne (by decide), em16, zu_if, show x15 = (μ.1 66 ((60 : Nat) : Int) + 1) by omega]) (fun k => by rw [em28, zu_if, show ((80 * x21) + v2) = 80 * μ.1 68 x11 + a2 by omega, em16, zu_ne (by decide)]) (by first | exact Or.inl ⟨rfl, Or.inl (by omega)⟩ | exact Or.inl ⟨rfl, Or.inr (by rw [show 80 * μ.1 68 x11 + a2 = ((80 * x21) + v2) by omega]; have h1 := hx26; rw [em16, zu_ne (by decide)] at h1; omega)⟩ | exact Or.inr ⟨rfl, by omega, (by rw [show 80 * μ.1 68 x11 + a2 = ((80 * x21) + v2) by omega]; have h1 := hx26; rw [em16, zu_ne (by decide)] at h1; omega)⟩)), by rw [em28, zu_ne (by decide), em16, zu_at]; omega⟩, rfl⟩)⟩
            · refine And.intro ⟨by omega, by omega⟩ (And.intro ⟨by omega, by omega⟩ ?_)
              intro m31 em31
              have z32 := zfx_r z17 em31 rfl (by decide)
              have w33 : m31.1 66 ((60 : Nat) : Int) = g9 := by rw [em31]; exact (congrFun (zu_ne (by decide)) _).trans w18
              refine Exists.intro (Int.toNat (8 * (zps (m31.1 99) (μ.1 71) (Int.toNat (v3 + (-1))) + (μ.1 71 x11 - zsm (fun l => μ.1 71 (μ.1 70 (4 * x11 + l))) (Int.toNat 0))) + 12 - 0)) (And.intro (by rw [em31, zu_ne (show (99 : Nat) ≠ 86 by decide), em16, zu_ne (show (99 : Nat) ≠ 98 by decide), show zsm (fun l => μ.1 71 (μ.1 70 (4 * x11 + l))) (Int.toNat 0) = 1 from rfl]; omega) ?_)
              exact ⟨(fun h => absurd h (by decide)), (fun _ => ⟨_, _, _, _, _, rfl, z32, ⟨by omega, by omega⟩, ⟨by omega, by omega⟩, ⟨by omega, by omega⟩, ⟨by omega, by omega⟩, ⟨by omega, by omega⟩, i0, (by rw [em31, zu_ne (show (66 : Nat) ≠ 86 by decide), em16, zu_ne (show (66 : Nat) ≠ 98 by decide)]; exact i1), (zPm_f (fun j a b => i2 j a (by omega)) (by rw [em31, zu_ne (show (99 : Nat) ≠ 86 by decide), em16, zu_ne (show (99 : Nat) ≠ 98 by decide)])), (by rw [em31, zu_ne (show (99 : Nat) ≠ 86 by decide), em16, zu_ne (show (99 : Nat) ≠ 98 by decide), show zsm (fun l => μ.1 71 (μ.1 70 (4 * x11 + l))) (Int.toNat 0) = 1 from rfl]; omega), (fun q a b => by rw [em31, zu_ne (show (66 : Nat) ≠ 86 by decide), zu_ne (show (98 : Nat) ≠ 86 by decide), em16, zu_ne (show (66 : Nat) ≠ 98 by decide)]; by_cases h : q = x11 <;> first | (rw [h, zu_at]; omega) | (rw [zu_nk h]; exact i4 q a b)), ⟨XR.1, XR.2, by have := NX.1; omega, by omega⟩, ⟨(by have h1 := rJ_new (n := v3) (y := x11) (m' := m31) i5.1 (by omega) (by rw [show v3 - 1 = v3 + -1 by omega]; exact hx11) XR.1 XR.2 (fun k => by rw [em31, zu_ne (by decide), em16, zu_if, show x15 = (μ.1 66 ((60 : Nat) : Int) + 1) by omega]) (by rw [em31, zu_ne (by decide), em16, zu_ne (by decide)]); rw [show v3 - 1 = v3 + -1 by omega] at h1; exact h1), (rWz_par (v := 2) i5.2 XR.1 XR.2 (by omega) ⟨by omega, by omega⟩ ⟨by omega, by omega⟩ (fun k => by rw [em31, zu_ne (by decide), em16, zu_if, show x15 = (μ.1 66 ((60 : Nat) : Int) + 1) by omega]) (fun k => by rw [em31, zu_if, show ((80 * x21) + v2) = 80 * μ.1 68 x11 + a2 by omega, em16, zu_ne (by decide)]) (by first | exact Or.inl ⟨rfl, Or.inl (by omega)⟩ | exact Or.inl ⟨rfl, Or.inr (by rw [show 80 * μ.1 68 x11 + a2 = ((80 * x21) + v2) by omega]; have h1 := hx26; rw [em16, zu_ne (by decide)] at h1; omega)⟩ | exact Or.inr ⟨rfl, by omega, (by rw [show 80 * μ.1 68 x11 + a2 = ((80 * x21) + v2) by omega]; have h1 := hx26; rw [em16, zu_ne (by decide)] at h1; omega)⟩)), by rw [em31, zu_ne (by decide), em16, zu_at]; omega⟩, rfl⟩)⟩
  · intro vs m0 n hI
    replace hI := hI.2 rfl
    clear z0
    obtain ⟨v1, v2, v3, v4, v5, rfl, z0, hv1, hv2, hv3, hv4, hv5, i0, i1, i2, i3, i4, i5, i6, rfl⟩ := hI
    have NX := hp0 v4 i5.1 i5.2.1
    have SL : ∀ l : Int, 0 ≤ l → l < μ.1 69 v4 → 1 ≤ (fun l => μ.1 71 (μ.1 70 (4 * v4 + l))) l := fun l a b => zsz1 hp0 _ _ rfl (NX.2.1 l a b).1 (by have := (NX.2.1 l a b).2; omega)
    have PN0 := zPm_n hp0 i2 (by omega)
    have SX : zsm (fun l => μ.1 71 (μ.1 70 (4 * v4 + l))) (Int.toNat (μ.1 69 v4)) = μ.1 71 v4 := zsz_p hp0 ⟨i5.1, i5.2.1⟩ i5.2.2.2
    have SM := zsm_mono (f := fun l => μ.1 71 (μ.1 70 (4 * v4 + l))) (m := v5.toNat) (n := (μ.1 69 v4).toNat) (by omega) (fun l a b => SL l a (by omega))
    obtain ⟨g34, wg34⟩ : ∃ z : Int, m0.1 66 ((60 : Nat) : Int) = z := ⟨_, rfl⟩
    refine And.intro ⟨by omega, by omega⟩ ?_
    intro x35 hx35 kx35 lx35
    rw [show m0.1 69 = μ.1 69 from z0.1 69 (by decide) rfl] at hx35
    refine And.intro ⟨⟨by omega, by omega⟩, ⟨by omega, by omega⟩⟩ (And.intro (fun c36 => ?_) (fun c36 => ?_))
    · refine Exists.intro (Int.toNat (8 * zps (m0.1 99) (μ.1 71) (Int.toNat v3) + 7)) (And.intro (by omega) ?_)
      exact ⟨(fun _ => ⟨_, _, _, rfl, z0, ⟨by omega, by omega⟩, ⟨by omega, by omega⟩, ⟨by omega, by omega⟩, i0, i1, i2, (by omega), i4, ⟨rJ_end i6.1 (by omega), i6.2.1⟩, rfl⟩), (fun h => absurd h (by decide))⟩
    · refine And.intro ⟨by omega, by omega⟩ ?_
      intro x37 hx37 kx37 lx37
      rw [show m0.1 70 = μ.1 70 from z0.1 70 (by decide) rfl] at hx37
      have NC := NX.2.1 v5 (by omega) (by omega)
      rw [show 4 * v4 + v5 = ((4 * v4) + v5) by omega, ← hx37] at NC
      have ZS : zsm (fun l => μ.1 71 (μ.1 70 (4 * v4 + l))) (Int.toNat (v5 + 1)) = zsm (fun l => μ.1 71 (μ.1 70 (4 * v4 + l))) (Int.toNat v5) + μ.1 71 x37 := by rw [zsm_s (by omega)]; (try dsimp only); rw [show 4 * v4 + v5 = ((4 * v4) + v5) by omega, ← hx37]
      have ZM := zsm_mono (f := fun l => μ.1 71 (μ.1 70 (4 * v4 + l))) (m := (v5 + 1).toNat) (n := (μ.1 69 v4).toNat) (by omega) (fun l a b => SL l a (by omega))
      refine And.intro ⟨by omega, by omega⟩ (And.intro ⟨by omega, by omega⟩ ?_)
      intro m38 em38
      have z39 := zfx_r z0 em38 rfl (by decide)
      have w40 : m38.1 66 ((60 : Nat) : Int) = g34 := by rw [em38]; exact (congrFun (zu_ne (by decide)) _).trans wg34
      refine Exists.intro (Int.toNat (8 * (zps (m38.1 99) (μ.1 71) (Int.toNat (v3 + 1)) + (μ.1 71 v4 - zsm (fun l => μ.1 71 (μ.1 70 (4 * v4 + l))) (Int.toNat (v5 + 1)))) + 12 - (v5 + 1))) (And.intro (by rw [zps_push (f := m0.1 99) (y := x37) (by omega) (by rw [em38, zu_at]) (fun j hj => by rw [em38, zu_nk hj]), ZS]; omega) ?_)
      exact ⟨(fun h => absurd h (by decide)), (fun _ => ⟨_, _, _, _, _, rfl, z39, ⟨by omega, by omega⟩, ⟨by omega, by omega⟩, ⟨by omega, by omega⟩, ⟨by omega, by omega⟩, ⟨by omega, by omega⟩, i0, (by rw [em38, zu_ne (by decide)]; exact i1), (zPm_push i2 ⟨by omega, by omega⟩ (by rw [em38, zu_at]) (fun j hj => by rw [em38, zu_nk hj])), (by rw [zps_push (f := m0.1 99) (y := x37) (by omega) (by rw [em38, zu_at]) (fun j hj => by rw [em38, zu_nk hj]), ZS]; omega), (fun q a b => by rw [em38, zu_ne (by decide), zu_ne (by decide)]; exact i4 q a b), ⟨i5.1, i5.2.1, by omega, i5.2.2.2⟩, ⟨rJ_push i6.1 (by omega) (by omega) (by omega) i5.1 i5.2.1 i6.2.2 (by rw [em38, zu_ne (by decide)]) (fun k => by rw [em38, zu_if]; rw [hx37]), rWz_f i6.2.1 (by rw [em38, zu_ne (by decide)]) (by rw [em38, zu_ne (by decide)]), by rw [em38, zu_ne (by decide)]; exact i6.2.2⟩, rfl⟩)⟩
