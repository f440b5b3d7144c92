/-! ### commit -/
def zk_X9_commit : zC := fun As μ Q => ∃ (a1 : Int) (C : Int) (K : Int), As = [.inr (.inr (66, 66)), .inl a1] ∧ (1 ≤ a1 ∧ a1 ≤ 20000) ∧ (zDS μ a1 C) ∧ (1 ≤ a1) ∧ (μ.1 66 ((60 : Nat) : Int) ≤ 1999000000 ∧ (∀ x : Int, 0 ≤ x → x < 20000 → μ.1 105 x ≤ μ.1 66 ((68 : Nat) : Int)) ∧ 0 ≤ μ.1 66 ((68 : Nat) : Int) ∧ μ.1 66 ((68 : Nat) : Int) ≤ 1999000000) ∧ (μ.1 66 ((60 : Nat) : Int) + 300000 ≤ K ∧ μ.1 66 ((68 : Nat) : Int) + 300 ≤ K ∧ K ≤ 1999990000) ∧ (∀ (μ' : zM), zfx [67, 68, 69, 70, 71, 72, 73, 74, 76, 77, 78, 79, 80, 82, 83, 84, 86, 87, 98, 99, 105, 106] [7, 8, 20, 21, 22, 23, 41, 45, 46, 47, 48, 60, 68] μ μ' → (zRI μ' K) → Q none μ')
set_option maxHeartbeats 800000 in
theorem zm_X9_commit {g : zΓ} (hg : zg g) (d : Nat) (hd : 4 ≤ d) : zOk g d 151 zk_X9_commit := by
  obtain ⟨d, rfl⟩ : ∃ d', d = d' + 1 := ⟨d - 1, by omega⟩
  refine zOk_loop hg (show mt_tab[151]? = some mt_X9_commit from rfl) ([(9, [0, 1, 2, 3]), (73, [0, 1, 2, 3, 4]), (148, [0, 1, 2, 3]), (219, [0, 1, 2, 3, 4]), (266, [0, 1, 2, 3, 4]), (319, [0, 1, 2, 3]), (375, [0, 1, 2, 3, 4])], []) 285 rfl fun As μ Q hC => ?_
  obtain ⟨a1, C, K, rfl, ha1, hp0, hp1, hp2, hp3, hQ⟩ := hC
  have DD := hp0.1
  have nd0 := hp0.2.1.1.2.1
  have TT0 : zTop μ = μ.1 66 ((8 : Nat) : Int) := rfl
  have TT1 := hp0.2.1.1.1
  have TT2 : zTop μ ≤ 20000 := by have h1 := hp0.2.2.2.2.1; split at h1 <;> omega
  have H69 : ∀ x : Int, ∀ y : Int, 0 ≤ y → y < x → x ≤ zTop μ - a1 → μ.1 69 (a1 + y) ≤ 4 := fun x y p q r => (nd0 (a1 + y) (by omega) (by omega)).1.2
  have H79 : ∀ q : Int, 0 ≤ q → q < C → μ.1 79 (21 + q) ≤ 4 := fun q p r => (hp0.2.2.1.1 q p r).1.1.2.2.2.2.2
  have H84 : ∀ c : Int, 0 ≤ c → c < μ.1 66 ((27 : Nat) : Int) → μ.1 84 (80 + c) ≤ 2 := fun c p q => (hp0.2.2.1.2.1 c p q).1
  obtain ⟨g1, wg1⟩ : ∃ z : Int, μ.1 66 ((20 : Nat) : Int) = z := ⟨_, rfl⟩
  obtain ⟨g2, wg2⟩ : ∃ z : Int, μ.1 66 ((21 : Nat) : Int) = z := ⟨_, rfl⟩
  obtain ⟨g3, wg3⟩ : ∃ z : Int, μ.1 66 ((8 : Nat) : Int) = z := ⟨_, rfl⟩
  obtain ⟨g4, wg4⟩ : ∃ z : Int, μ.1 66 ((26 : Nat) : Int) = z := ⟨_, rfl⟩
  obtain ⟨g5, wg5⟩ : ∃ z : Int, μ.1 66 ((27 : Nat) : Int) = z := ⟨_, rfl⟩
  have z0 : zfx [67, 68, 69, 70, 71, 72, 73, 74, 76, 77, 78, 79, 80, 82, 83, 84, 86, 87, 98, 99, 105, 106] [7, 8, 20, 21, 22, 23, 41, 45, 46, 47, 48, 60, 68] μ μ := zfx_x μ
  refine ⟨rfl, fun pc vs μ' n => (pc = 9 → ∃ (v1 : Int) (v2 : Int) (v3 : Int), vs = [.inr (.inr (66, 66)), .inl v1, .inl v2, .inl v3] ∧ zfx [67, 68, 69, 70, 71, 72, 73, 74, 76, 77, 78, 79, 80, 82, 83, 84, 86, 87, 98, 99, 105, 106] [7, 8, 20, 21, 22, 23, 41, 45, 46, 47, 48, 60, 68] μ μ' ∧ (1 ≤ v1 ∧ v1 ≤ 20000) ∧ (0 ≤ v2 ∧ v2 ≤ 20000) ∧ (0 ≤ v3 ∧ v3 ≤ 20000) ∧ (v1 = a1 ∧ v2 = zTop μ - a1) ∧ (zK1 μ μ' a1 v3) ∧ (v3 ≤ v2) ∧ n = (Int.toNat ((30000 - v3) * 10 + 9 + 9 * 4294967296))) ∧ (pc = 73 → ∃ (v1 : Int) (v2 : Int) (v3 : Int) (v4 : Int), vs = [.inr (.inr (66, 66)), .inl v1, .inl v2, .inl v3, .inl v4] ∧ zfx [67, 68, 69, 70, 71, 72, 73, 74, 76, 77, 78, 79, 80, 82, 83, 84, 86, 87, 98, 99, 105, 106] [7, 8, 20, 21, 22, 23, 41, 45, 46, 47, 48, 60, 68] μ μ' ∧ (1 ≤ v1 ∧ v1 ≤ 20000) ∧ (0 ≤ v2 ∧ v2 ≤ 20000) ∧ (0 ≤ v3 ∧ v3 ≤ 19999) ∧ (0 ≤ v4 ∧ v4 ≤ 4) ∧ (v1 = a1 ∧ v2 = zTop μ - a1) ∧ (zK2 μ μ' a1 v3 v4) ∧ (v3 < v2) ∧ (v4 ≤ μ.1 69 (a1 + v3)) ∧ n = (Int.toNat ((30000 - v3) * 10 + 4 - v4 + 9 * 4294967296))) ∧ (pc = 148 → ∃ (v1 : Int) (v2 : Int) (v3 : Int), vs = [.inr (.inr (66, 66)), .inl v1, .inl v2, .inl v3] ∧ zfx [67, 68, 69, 70, 71, 72, 73, 74, 76, 77, 78, 79, 80, 82, 83, 84, 86, 87, 98, 99, 105, 106] [7, 8, 20, 21, 22, 23, 41, 45, 46, 47, 48, 60, 68] μ μ' ∧ (1 ≤ v1 ∧ v1 ≤ 20000) ∧ (0 ≤ v2 ∧ v2 ≤ 20000) ∧ (0 ≤ v3 ∧ v3 ≤ 21) ∧ (v1 = a1 ∧ v2 = zTop μ - a1) ∧ (zKK μ μ' a1 v2 v3 0) ∧ (v3 ≤ C) ∧ n = (Int.toNat ((30 - v3) * 1000 + 999 + 8 * 4294967296))) ∧ (pc = 219 → ∃ (v1 : Int) (v2 : Int) (v3 : Int) (v4 : Int), vs = [.inr (.inr (66, 66)), .inl v1, .inl v2, .inl v3, .inl v4] ∧ zfx [67, 68, 69, 70, 71, 72, 73, 74, 76, 77, 78, 79, 80, 82, 83, 84, 86, 87, 98, 99, 105, 106] [7, 8, 20, 21, 22, 23, 41, 45, 46, 47, 48, 60, 68] μ μ' ∧ (1 ≤ v1 ∧ v1 ≤ 20000) ∧ (0 ≤ v2 ∧ v2 ≤ 20000) ∧ (0 ≤ v3 ∧ v3 ≤ 20) ∧ (0 ≤ v4 ∧ v4 ≤ 4) ∧ (v1 = a1 ∧ v2 = zTop μ - a1) ∧ (zKK μ μ' a1 v2 v3 0) ∧ (zKc μ μ' a1 v3 v4 0) ∧ (v3 < C) ∧ (v4 ≤ μ.1 79 (21 + v3)) ∧ n = (Int.toNat ((30 - v3) * 1000 + 500 - v4 + 8 * 4294967296))) ∧ (pc = 266 → ∃ (v1 : Int) (v2 : Int) (v3 : Int) (v4 : Int), vs = [.inr (.inr (66, 66)), .inl v1, .inl v2, .inl v3, .inl v4] ∧ zfx [67, 68, 69, 70, 71, 72, 73, 74, 76, 77, 78, 79, 80, 82, 83, 84, 86, 87, 98, 99, 105, 106] [7, 8, 20, 21, 22, 23, 41, 45, 46, 47, 48, 60, 68] μ μ' ∧ (1 ≤ v1 ∧ v1 ≤ 20000) ∧ (0 ≤ v2 ∧ v2 ≤ 20000) ∧ (0 ≤ v3 ∧ v3 ≤ 20) ∧ (0 ≤ v4 ∧ v4 ≤ 21) ∧ (v1 = a1 ∧ v2 = zTop μ - a1) ∧ (zKK μ μ' a1 v2 v3 0) ∧ (zKc μ μ' a1 v3 (μ.1 79 (21 + v3)) v4) ∧ (v3 < C) ∧ n = (Int.toNat ((30 - v3) * 1000 + 100 - v4 + 8 * 4294967296))) ∧ (pc = 319 → ∃ (v1 : Int) (v2 : Int) (v3 : Int), vs = [.inr (.inr (66, 66)), .inl v1, .inl v2, .inl v3] ∧ zfx [67, 68, 69, 70, 71, 72, 73, 74, 76, 77, 78, 79, 80, 82, 83, 84, 86, 87, 98, 99, 105, 106] [7, 8, 20, 21, 22, 23, 41, 45, 46, 47, 48, 60, 68] μ μ' ∧ (1 ≤ v1 ∧ v1 ≤ 20000) ∧ (0 ≤ v2 ∧ v2 ≤ 20000) ∧ (0 ≤ v3 ∧ v3 ≤ 80) ∧ (v1 = a1 ∧ v2 = zTop μ - a1) ∧ (zKK μ μ' a1 v2 C v3) ∧ (v3 ≤ μ.1 66 ((27 : Nat) : Int)) ∧ n = (Int.toNat ((100 - v3) * 1000 + 999 + 7 * 4294967296))) ∧ (pc = 375 → ∃ (v1 : Int) (v2 : Int) (v3 : Int) (v4 : Int), vs = [.inr (.inr (66, 66)), .inl v1, .inl v2, .inl v3, .inl v4] ∧ zfx [67, 68, 69, 70, 71, 72, 73, 74, 76, 77, 78, 79, 80, 82, 83, 84, 86, 87, 98, 99, 105, 106] [7, 8, 20, 21, 22, 23, 41, 45, 46, 47, 48, 60, 68] μ μ' ∧ (1 ≤ v1 ∧ v1 ≤ 20000) ∧ (0 ≤ v2 ∧ v2 ≤ 20000) ∧ (0 ≤ v3 ∧ v3 ≤ 79) ∧ (0 ≤ v4 ∧ v4 ≤ 2) ∧ (v1 = a1 ∧ v2 = zTop μ - a1) ∧ (zKK μ μ' a1 v2 C v3) ∧ (zKp μ μ' a1 v3 v4) ∧ (v3 < μ.1 66 ((27 : Nat) : Int)) ∧ (v4 ≤ μ.1 84 (80 + v3)) ∧ n = (Int.toNat ((100 - v3) * 1000 + 500 - v4 + 7 * 4294967296))), ?_, ?_, ?_, ?_, ?_, ?_, ?_, ?_, trivial⟩
  · intro x6 hx6 kx6 lx6
    rw [wg3] at hx6
    refine Exists.intro (Int.toNat ((30000 - 0) * 10 + 9 + 9 * 4294967296)) ?_
    exact ⟨(fun _ => ⟨_, _, _, rfl, z0, ⟨by omega, by omega⟩, ⟨by omega, by omega⟩, ⟨by omega, by omega⟩, ⟨rfl, by omega⟩, (zK1_0 μ a1), (by omega), rfl⟩), (fun h => absurd h (by decide)), (fun h => absurd h (by decide)), (fun h => absurd h (by decide)), (fun h => absurd h (by decide)), (fun h => absurd h (by decide)), (fun h => absurd h (by decide))⟩
  · intro vs m0 n hI
    replace hI := hI.1 rfl
    clear z0
    obtain ⟨v1, v2, v3, rfl, z0, hv1, hv2, hv3, i0, i1, i2, rfl⟩ := hI
    obtain ⟨j1, j2⟩ := i0
    subst j1
    replace H69 := fun y p q => H69 v3 y p q (by omega)
    have E26 : m0.1 66 ((26 : Nat) : Int) = C := by rw [i1.1 66 (by decide)]; exact DD.2.2.1
    have E27 : m0.1 66 ((27 : Nat) : Int) = μ.1 66 ((27 : Nat) : Int) := by rw [i1.1 66 (by decide)]
    obtain ⟨g7, wg7⟩ : ∃ z : Int, m0.1 66 ((20 : Nat) : Int) = z := ⟨_, rfl⟩
    obtain ⟨g8, wg8⟩ : ∃ z : Int, m0.1 66 ((21 : Nat) : Int) = z := ⟨_, rfl⟩
    obtain ⟨g9, wg9⟩ : ∃ z : Int, m0.1 66 ((8 : Nat) : Int) = z := ⟨_, rfl⟩
    obtain ⟨g10, wg10⟩ : ∃ z : Int, m0.1 66 ((26 : Nat) : Int) = z := ⟨_, rfl⟩
    obtain ⟨g11, wg11⟩ : ∃ z : Int, m0.1 66 ((27 : Nat) : Int) = z := ⟨_, rfl⟩
    refine And.intro ⟨⟨by omega, by omega⟩, ⟨by omega, by omega⟩⟩ (And.intro (fun c12 => ?_) (fun c12 => ?_))
    · intro x13 hx13 kx13 lx13
      rw [wg10] at hx13
      refine And.intro ⟨by omega, by omega⟩ ?_
      intro m14 em14
      have z15 := zfx_f z0 em14 rfl
      have w16 : m14.1 66 ((20 : Nat) : Int) = x13 := by rw [em14]; exact zu_at
      have w17 : m14.1 66 ((21 : Nat) : Int) = g8 := by rw [em14]; exact (zu_nk (by decide)).trans wg8
      have w18 : m14.1 66 ((8 : Nat) : Int) = g9 := by rw [em14]; exact (zu_nk (by decide)).trans wg9
      have w19 : m14.1 66 ((26 : Nat) : Int) = g10 := by rw [em14]; exact (zu_nk (by decide)).trans wg10
      have w20 : m14.1 66 ((27 : Nat) : Int) = g11 := by rw [em14]; exact (zu_nk (by decide)).trans wg11
      intro x21 hx21 kx21 lx21
      rw [w20] at hx21
      refine And.intro ⟨by omega, by omega⟩ ?_
      intro m22 em22
      have z23 := zfx_f z15 em22 rfl
      have w24 : m22.1 66 ((20 : Nat) : Int) = x13 := by rw [em22]; exact (zu_nk (by decide)).trans w16
      have w25 : m22.1 66 ((21 : Nat) : Int) = x21 := by rw [em22]; exact zu_at
      have w26 : m22.1 66 ((8 : Nat) : Int) = g9 := by rw [em22]; exact (zu_nk (by decide)).trans w18
      have w27 : m22.1 66 ((26 : Nat) : Int) = g10 := by rw [em22]; exact (zu_nk (by decide)).trans w19
      have w28 : m22.1 66 ((27 : Nat) : Int) = g11 := by rw [em22]; exact (zu_nk (by decide)).trans w20
      intro x29 hx29 kx29 lx29
      refine And.intro ⟨by omega, by omega⟩ ?_
      intro m30 em30
      have z31 := zfx_f z23 em30 rfl
      have w32 : m30.1 66 ((20 : Nat) : Int) = x13 := by rw [em30]; exact (zu_nk (by decide)).trans w24
      have w33 : m30.1 66 ((21 : Nat) : Int) = x21 := by rw [em30]; exact (zu_nk (by decide)).trans w25
      have w34 : m30.1 66 ((8 : Nat) : Int) = g9 := by rw [em30]; exact (zu_nk (by decide)).trans w26
      have w35 : m30.1 66 ((26 : Nat) : Int) = g10 := by rw [em30]; exact (zu_nk (by decide)).trans w27
      have w36 : m30.1 66 ((27 : Nat) : Int) = g11 := by rw [em30]; exact (zu_nk (by decide)).trans w28
      have KK0 := zKK_0 (n := v2) (by rw [show v2 = v3 by omega]; exact i1) em14 (by omega) em22 (by omega) em30
      refine Exists.intro (Int.toNat ((30 - 0) * 1000 + 999 + 8 * 4294967296)) (And.intro (by (try rw [w32]) <;> (try rw [w33]) <;> (try rw [w34]) <;> (try rw [w35]) <;> (try rw [w36]) <;> (try rw [wg7]) <;> (try rw [wg8]) <;> (try rw [wg9]) <;> (try rw [wg10]) <;> (try rw [wg11]) <;> (try rw [wg1]) <;> (try rw [wg2]) <;> (try rw [wg3]) <;> (try rw [wg4]) <;> (try rw [wg5]) <;> omega) ?_)
      exact ⟨(fun h => absurd h (by decide)), (fun h => absurd h (by decide)), (fun _ => ⟨_, _, _, rfl, z31, ⟨by omega, by omega⟩, ⟨by omega, by omega⟩, ⟨by omega, by omega⟩, ⟨rfl, j2⟩, KK0, (by omega), rfl⟩), (fun h => absurd h (by decide)), (fun h => absurd h (by decide)), (fun h => absurd h (by decide)), (fun h => absurd h (by decide))⟩
    · have NX := nd0 (v1 + v3) (by omega) (by omega)
      have WX := hp0.2.1.2.2 (v1 + v3) (by omega) (by omega)
      refine And.intro ⟨by omega, by omega⟩ ?_
      intro x37 hx37 kx37 lx37
      refine And.intro ⟨by omega, by omega⟩ (And.intro ⟨by omega, by omega⟩ ?_)
      intro m38 em38
      have z39 := zfx_r z0 em38 rfl (by decide)
      have w40 : m38.1 66 ((20 : Nat) : Int) = g7 := by rw [em38]; exact (congrFun (zu_ne (by decide)) _).trans wg7
      have w41 : m38.1 66 ((21 : Nat) : Int) = g8 := by rw [em38]; exact (congrFun (zu_ne (by decide)) _).trans wg8
      have w42 : m38.1 66 ((8 : Nat) : Int) = g9 := by rw [em38]; exact (congrFun (zu_ne (by decide)) _).trans wg9
      have w43 : m38.1 66 ((26 : Nat) : Int) = g10 := by rw [em38]; exact (congrFun (zu_ne (by decide)) _).trans wg10
      have w44 : m38.1 66 ((27 : Nat) : Int) = g11 := by rw [em38]; exact (congrFun (zu_ne (by decide)) _).trans wg11
      refine And.intro ⟨by omega, by omega⟩ ?_
      intro x45 hx45 kx45 lx45
      refine And.intro ⟨by omega, by omega⟩ (And.intro ⟨by omega, by omega⟩ ?_)
      intro m46 em46
      have z47 := zfx_r z39 em46 rfl (by decide)
      have w48 : m46.1 66 ((20 : Nat) : Int) = g7 := by rw [em46]; exact (congrFun (zu_ne (by decide)) _).trans w40
      have w49 : m46.1 66 ((21 : Nat) : Int) = g8 := by rw [em46]; exact (congrFun (zu_ne (by decide)) _).trans w41
      have w50 : m46.1 66 ((8 : Nat) : Int) = g9 := by rw [em46]; exact (congrFun (zu_ne (by decide)) _).trans w42
      have w51 : m46.1 66 ((26 : Nat) : Int) = g10 := by rw [em46]; exact (congrFun (zu_ne (by decide)) _).trans w43
      have w52 : m46.1 66 ((27 : Nat) : Int) = g11 := by rw [em46]; exact (congrFun (zu_ne (by decide)) _).trans w44
      refine And.intro ⟨by omega, by omega⟩ ?_
      intro x53 hx53 kx53 lx53
      refine And.intro ⟨by omega, by omega⟩ (And.intro ⟨by omega, by omega⟩ ?_)
      intro m54 em54
      have z55 := zfx_r z47 em54 rfl (by decide)
      have w56 : m54.1 66 ((20 : Nat) : Int) = g7 := by rw [em54]; exact (congrFun (zu_ne (by decide)) _).trans w48
      have w57 : m54.1 66 ((21 : Nat) : Int) = g8 := by rw [em54]; exact (congrFun (zu_ne (by decide)) _).trans w49
      have w58 : m54.1 66 ((8 : Nat) : Int) = g9 := by rw [em54]; exact (congrFun (zu_ne (by decide)) _).trans w50
      have w59 : m54.1 66 ((26 : Nat) : Int) = g10 := by rw [em54]; exact (congrFun (zu_ne (by decide)) _).trans w51
      have w60 : m54.1 66 ((27 : Nat) : Int) = g11 := by rw [em54]; exact (congrFun (zu_ne (by decide)) _).trans w52
      refine And.intro ⟨by omega, by omega⟩ ?_
      intro x61 hx61 kx61 lx61
      refine And.intro ⟨by omega, by omega⟩ (And.intro ⟨by omega, by omega⟩ ?_)
      intro m62 em62
      have z63 := zfx_r z55 em62 rfl (by decide)
      have w64 : m62.1 66 ((20 : Nat) : Int) = g7 := by rw [em62]; exact (congrFun (zu_ne (by decide)) _).trans w56
      have w65 : m62.1 66 ((21 : Nat) : Int) = g8 := by rw [em62]; exact (congrFun (zu_ne (by decide)) _).trans w57
      have w66 : m62.1 66 ((8 : Nat) : Int) = g9 := by rw [em62]; exact (congrFun (zu_ne (by decide)) _).trans w58
      have w67 : m62.1 66 ((26 : Nat) : Int) = g10 := by rw [em62]; exact (congrFun (zu_ne (by decide)) _).trans w59
      have w68 : m62.1 66 ((27 : Nat) : Int) = g11 := by rw [em62]; exact (congrFun (zu_ne (by decide)) _).trans w60
      have R := zK2_0 i1 hp1 H69 em38 em46 em54 em62 hx37 (by rw [hx45, em38, zu_ne (by decide)]) (by rw [hx53, em46, zu_ne (by decide), em38, zu_ne (by decide)]) (by rw [hx61, em54, zu_ne (by decide), em46, zu_ne (by decide), em38, zu_ne (by decide)]) (by omega)
      refine Exists.intro (Int.toNat ((30000 - v3) * 10 + 4 - 0 + 9 * 4294967296)) (And.intro (by (try rw [w64]) <;> (try rw [w65]) <;> (try rw [w66]) <;> (try rw [w67]) <;> (try rw [w68]) <;> (try rw [wg7]) <;> (try rw [wg8]) <;> (try rw [wg9]) <;> (try rw [wg10]) <;> (try rw [wg11]) <;> (try rw [wg1]) <;> (try rw [wg2]) <;> (try rw [wg3]) <;> (try rw [wg4]) <;> (try rw [wg5]) <;> omega) ?_)
      exact ⟨(fun h => absurd h (by decide)), (fun _ => ⟨_, _, _, _, rfl, z63, ⟨by omega, by omega⟩, ⟨by omega, by omega⟩, ⟨by omega, by omega⟩, ⟨by omega, by omega⟩, ⟨rfl, j2⟩, R, (by omega), (by have := NX.1; omega), rfl⟩), (fun h => absurd h (by decide)), (fun h => absurd h (by decide)), (fun h => absurd h (by decide)), (fun h => absurd h (by decide)), (fun h => absurd h (by decide))⟩
  · intro vs m0 n hI
    replace hI := hI.2.1 rfl
    clear z0
    obtain ⟨v1, v2, v3, v4, rfl, z0, hv1, hv2, hv3, hv4, i0, i1, i2, i3, rfl⟩ := hI
    obtain ⟨j1, j2⟩ := i0
    subst j1
    replace H69 := fun y p q => H69 v3 y p q (by omega)
    obtain ⟨g69, wg69⟩ : ∃ z : Int, m0.1 66 ((20 : Nat) : Int) = z := ⟨_, rfl⟩
    obtain ⟨g70, wg70⟩ : ∃ z : Int, m0.1 66 ((21 : Nat) : Int) = z := ⟨_, rfl⟩
    obtain ⟨g71, wg71⟩ : ∃ z : Int, m0.1 66 ((8 : Nat) : Int) = z := ⟨_, rfl⟩
    obtain ⟨g72, wg72⟩ : ∃ z : Int, m0.1 66 ((26 : Nat) : Int) = z := ⟨_, rfl⟩
    obtain ⟨g73, wg73⟩ : ∃ z : Int, m0.1 66 ((27 : Nat) : Int) = z := ⟨_, rfl⟩
    refine And.intro ⟨by omega, by omega⟩ ?_
    intro x74 hx74 kx74 lx74
    have X69 : x74 = μ.1 69 (v1 + v3) := by rw [hx74]; exact i1.2.2.2.2.1.2.2.1
    have NX := nd0 (v1 + v3) (by omega) (by omega)
    have N4 := NX.1
    refine And.intro ⟨⟨by omega, by omega⟩, ⟨by omega, by omega⟩⟩ (And.intro (fun c75 => ?_) (fun c75 => ?_))
    · refine Exists.intro (Int.toNat ((30000 - (v3 + 1)) * 10 + 9 + 9 * 4294967296)) (And.intro (by (try rw [wg69]) <;> (try rw [wg70]) <;> (try rw [wg71]) <;> (try rw [wg72]) <;> (try rw [wg73]) <;> (try rw [wg1]) <;> (try rw [wg2]) <;> (try rw [wg3]) <;> (try rw [wg4]) <;> (try rw [wg5]) <;> omega) ?_)
      exact ⟨(fun _ => ⟨_, _, _, rfl, z0, ⟨by omega, by omega⟩, ⟨by omega, by omega⟩, ⟨by omega, by omega⟩, ⟨rfl, j2⟩, (zK1_n i1 (by omega)), (by omega), rfl⟩), (fun h => absurd h (by decide)), (fun h => absurd h (by decide)), (fun h => absurd h (by decide)), (fun h => absurd h (by decide)), (fun h => absurd h (by decide)), (fun h => absurd h (by decide))⟩
    · refine And.intro ⟨by omega, by omega⟩ ?_
      intro x76 hx76 kx76 lx76
      have X70 : x76 = μ.1 70 (4 * (v1 + v3) + v4) := by rw [hx76]; exact i1.2.2.2.1 _ (by omega)
      have PL := (hp0.2.1.2.2 (v1 + v3) (by omega) (by omega)).1 v4 (by omega) (by omega)
      have PU := NX.2.1 v4 (by omega) (by omega)
      refine And.intro ⟨by omega, by omega⟩ (And.intro ⟨by omega, by omega⟩ ?_)
      intro m77 em77
      have z78 := zfx_r z0 em77 rfl (by decide)
      have w79 : m77.1 66 ((20 : Nat) : Int) = g69 := by rw [em77]; exact (congrFun (zu_ne (by decide)) _).trans wg69
      have w80 : m77.1 66 ((21 : Nat) : Int) = g70 := by rw [em77]; exact (congrFun (zu_ne (by decide)) _).trans wg70
      have w81 : m77.1 66 ((8 : Nat) : Int) = g71 := by rw [em77]; exact (congrFun (zu_ne (by decide)) _).trans wg71
      have w82 : m77.1 66 ((26 : Nat) : Int) = g72 := by rw [em77]; exact (congrFun (zu_ne (by decide)) _).trans wg72
      have w83 : m77.1 66 ((27 : Nat) : Int) = g73 := by rw [em77]; exact (congrFun (zu_ne (by decide)) _).trans wg73
      have R := zK2_s i1 hp1 (by omega) (by omega) H69 em77 (by omega) (show (x76 - v1) = m0.1 70 (4 * (v1 + v3) + v4) - v1 by rw [hx76])
      refine Exists.intro (Int.toNat ((30000 - v3) * 10 + 4 - (v4 + 1) + 9 * 4294967296)) (And.intro (by (try rw [w79]) <;> (try rw [w80]) <;> (try rw [w81]) <;> (try rw [w82]) <;> (try rw [w83]) <;> (try rw [wg69]) <;> (try rw [wg70]) <;> (try rw [wg71]) <;> (try rw [wg72]) <;> (try rw [wg73]) <;> (try rw [wg1]) <;> (try rw [wg2]) <;> (try rw [wg3]) <;> (try rw [wg4]) <;> (try rw [wg5]) <;> omega) ?_)
      exact ⟨(fun h => absurd h (by decide)), (fun _ => ⟨_, _, _, _, rfl, z78, ⟨by omega, by omega⟩, ⟨by omega, by omega⟩, ⟨by omega, by omega⟩, ⟨by omega, by omega⟩, ⟨rfl, j2⟩, R, (by omega), (by omega), rfl⟩), (fun h => absurd h (by decide)), (fun h => absurd h (by decide)), (fun h => absurd h (by decide)), (fun h => absurd h (by decide)), (fun h => absurd h (by decide))⟩
  · intro vs m0 n hI
    replace hI := hI.2.2.1 rfl
    clear z0
    obtain ⟨v1, v2, v3, rfl, z0, hv1, hv2, hv3, i0, i1, i2, rfl⟩ := hI
    obtain ⟨j1, j2⟩ := i0
    subst j1
    replace H79 := fun (q : Int) (p : 0 ≤ q) (r : q < v3) => H79 q p (by omega)
    have E20 := i1.2.1.2.2.1
    obtain ⟨g84, wg84⟩ : ∃ z : Int, m0.1 66 ((20 : Nat) : Int) = z := ⟨_, rfl⟩
    obtain ⟨g85, wg85⟩ : ∃ z : Int, m0.1 66 ((21 : Nat) : Int) = z := ⟨_, rfl⟩
    obtain ⟨g86, wg86⟩ : ∃ z : Int, m0.1 66 ((8 : Nat) : Int) = z := ⟨_, rfl⟩
    obtain ⟨g87, wg87⟩ : ∃ z : Int, m0.1 66 ((26 : Nat) : Int) = z := ⟨_, rfl⟩
    obtain ⟨g88, wg88⟩ : ∃ z : Int, m0.1 66 ((27 : Nat) : Int) = z := ⟨_, rfl⟩
    intro x89 hx89 kx89 lx89
    rw [wg84] at hx89
    refine And.intro ⟨⟨by omega, by omega⟩, ⟨by omega, by omega⟩⟩ (And.intro (fun c90 => ?_) (fun c90 => ?_))
    · refine Exists.intro (Int.toNat ((100 - 0) * 1000 + 999 + 7 * 4294967296)) (And.intro (by (try rw [wg84]) <;> (try rw [wg85]) <;> (try rw [wg86]) <;> (try rw [wg87]) <;> (try rw [wg88]) <;> (try rw [wg1]) <;> (try rw [wg2]) <;> (try rw [wg3]) <;> (try rw [wg4]) <;> (try rw [wg5]) <;> omega) ?_)
      exact ⟨(fun h => absurd h (by decide)), (fun h => absurd h (by decide)), (fun h => absurd h (by decide)), (fun h => absurd h (by decide)), (fun h => absurd h (by decide)), (fun _ => ⟨_, _, _, rfl, z0, ⟨by omega, by omega⟩, ⟨by omega, by omega⟩, ⟨by omega, by omega⟩, ⟨rfl, j2⟩, (by rw [show C = v3 by omega]; exact i1), (by omega), rfl⟩), (fun h => absurd h (by decide))⟩
    · have TC := (hp0.2.2.1.1 v3 (by omega) (by omega)).1
      have TC1 := TC.1
      refine And.intro ⟨by omega, by omega⟩ ?_
      intro x91
      refine And.intro ⟨by omega, by omega⟩ ?_
      refine And.intro ⟨by omega, by omega⟩ ?_
      intro x92 hx92 kx92 lx92
      refine And.intro ⟨by omega, by omega⟩ (And.intro ⟨by omega, by omega⟩ ?_)
      intro m93 em93
      have z94 := zfx_r z0 em93 rfl (by decide)
      have w95 : m93.1 66 ((20 : Nat) : Int) = g84 := by rw [em93]; exact (congrFun (zu_ne (by decide)) _).trans wg84
      have w96 : m93.1 66 ((21 : Nat) : Int) = g85 := by rw [em93]; exact (congrFun (zu_ne (by decide)) _).trans wg85
      have w97 : m93.1 66 ((8 : Nat) : Int) = g86 := by rw [em93]; exact (congrFun (zu_ne (by decide)) _).trans wg86
      have w98 : m93.1 66 ((26 : Nat) : Int) = g87 := by rw [em93]; exact (congrFun (zu_ne (by decide)) _).trans wg87
      have w99 : m93.1 66 ((27 : Nat) : Int) = g88 := by rw [em93]; exact (congrFun (zu_ne (by decide)) _).trans wg88
      refine And.intro ⟨by omega, by omega⟩ ?_
      intro x100 hx100 kx100 lx100
      refine And.intro ⟨by omega, by omega⟩ (And.intro ⟨by omega, by omega⟩ ?_)
      intro m101 em101
      have z102 := zfx_r z94 em101 rfl (by decide)
      have w103 : m101.1 66 ((20 : Nat) : Int) = g84 := by rw [em101]; exact (congrFun (zu_ne (by decide)) _).trans w95
      have w104 : m101.1 66 ((21 : Nat) : Int) = g85 := by rw [em101]; exact (congrFun (zu_ne (by decide)) _).trans w96
      have w105 : m101.1 66 ((8 : Nat) : Int) = g86 := by rw [em101]; exact (congrFun (zu_ne (by decide)) _).trans w97
      have w106 : m101.1 66 ((26 : Nat) : Int) = g87 := by rw [em101]; exact (congrFun (zu_ne (by decide)) _).trans w98
      have w107 : m101.1 66 ((27 : Nat) : Int) = g88 := by rw [em101]; exact (congrFun (zu_ne (by decide)) _).trans w99
      refine And.intro ⟨by omega, by omega⟩ ?_
      intro x108 hx108 kx108 lx108
      refine And.intro ⟨by omega, by omega⟩ (And.intro ⟨by omega, by omega⟩ ?_)
      intro m109 em109
      have z110 := zfx_r z102 em109 rfl (by decide)
      have w111 : m109.1 66 ((20 : Nat) : Int) = g84 := by rw [em109]; exact (congrFun (zu_ne (by decide)) _).trans w103
      have w112 : m109.1 66 ((21 : Nat) : Int) = g85 := by rw [em109]; exact (congrFun (zu_ne (by decide)) _).trans w104
      have w113 : m109.1 66 ((8 : Nat) : Int) = g86 := by rw [em109]; exact (congrFun (zu_ne (by decide)) _).trans w105
      have w114 : m109.1 66 ((26 : Nat) : Int) = g87 := by rw [em109]; exact (congrFun (zu_ne (by decide)) _).trans w106
      have w115 : m109.1 66 ((27 : Nat) : Int) = g88 := by rw [em109]; exact (congrFun (zu_ne (by decide)) _).trans w107
      have R := zKc_0 i1 ⟨by omega, by omega⟩ H79 em93 em101 em109 rfl rfl rfl hx92 hx100 hx108
      refine Exists.intro (Int.toNat ((30 - v3) * 1000 + 500 - 0 + 8 * 4294967296)) (And.intro (by (try rw [w111]) <;> (try rw [w112]) <;> (try rw [w113]) <;> (try rw [w114]) <;> (try rw [w115]) <;> (try rw [wg84]) <;> (try rw [wg85]) <;> (try rw [wg86]) <;> (try rw [wg87]) <;> (try rw [wg88]) <;> (try rw [wg1]) <;> (try rw [wg2]) <;> (try rw [wg3]) <;> (try rw [wg4]) <;> (try rw [wg5]) <;> omega) ?_)
      exact ⟨(fun h => absurd h (by decide)), (fun h => absurd h (by decide)), (fun h => absurd h (by decide)), (fun _ => ⟨_, _, _, _, rfl, z110, ⟨by omega, by omega⟩, ⟨by omega, by omega⟩, ⟨by omega, by omega⟩, ⟨by omega, by omega⟩, ⟨rfl, j2⟩, R.1, R.2, (by omega), (by omega), rfl⟩), (fun h => absurd h (by decide)), (fun h => absurd h (by decide)), (fun h => absurd h (by decide))⟩
  · intro vs m0 n hI
    replace hI := hI.2.2.2.1 rfl
    clear z0
    obtain ⟨v1, v2, v3, v4, rfl, z0, hv1, hv2, hv3, hv4, i0, i1, i2, i3, i4, rfl⟩ := hI
    obtain ⟨j1, j2⟩ := i0
    subst j1
    replace H79 := fun (q : Int) (p : 0 ≤ q) (r : q < v3) => H79 q p (by omega)
    obtain ⟨g116, wg116⟩ : ∃ z : Int, m0.1 66 ((20 : Nat) : Int) = z := ⟨_, rfl⟩
    obtain ⟨g117, wg117⟩ : ∃ z : Int, m0.1 66 ((21 : Nat) : Int) = z := ⟨_, rfl⟩
    obtain ⟨g118, wg118⟩ : ∃ z : Int, m0.1 66 ((8 : Nat) : Int) = z := ⟨_, rfl⟩
    obtain ⟨g119, wg119⟩ : ∃ z : Int, m0.1 66 ((26 : Nat) : Int) = z := ⟨_, rfl⟩
    obtain ⟨g120, wg120⟩ : ∃ z : Int, m0.1 66 ((27 : Nat) : Int) = z := ⟨_, rfl⟩
    refine And.intro ⟨by omega, by omega⟩ ?_
    intro x121 hx121 kx121 lx121
    have X79 : x121 = μ.1 79 (21 + v3) := by rw [hx121]; exact i2.1.2.2
    have TC := (hp0.2.2.1.1 v3 (by omega) (by omega)).1
    have TC1 := TC.1.2.2.2.2
    refine And.intro ⟨⟨by omega, by omega⟩, ⟨by omega, by omega⟩⟩ (And.intro (fun c122 => ?_) (fun c122 => ?_))
    · refine Exists.intro (Int.toNat ((30 - v3) * 1000 + 100 - 0 + 8 * 4294967296)) (And.intro (by (try rw [wg116]) <;> (try rw [wg117]) <;> (try rw [wg118]) <;> (try rw [wg119]) <;> (try rw [wg120]) <;> (try rw [wg1]) <;> (try rw [wg2]) <;> (try rw [wg3]) <;> (try rw [wg4]) <;> (try rw [wg5]) <;> omega) ?_)
      exact ⟨(fun h => absurd h (by decide)), (fun h => absurd h (by decide)), (fun h => absurd h (by decide)), (fun h => absurd h (by decide)), (fun _ => ⟨_, _, _, _, rfl, z0, ⟨by omega, by omega⟩, ⟨by omega, by omega⟩, ⟨by omega, by omega⟩, ⟨by omega, by omega⟩, ⟨rfl, j2⟩, i1, (by rw [show μ.1 79 (21 + v3) = v4 by omega]; exact i2), (by omega), rfl⟩), (fun h => absurd h (by decide)), (fun h => absurd h (by decide))⟩
    · refine And.intro ⟨by omega, by omega⟩ ?_
      intro x123 hx123 kx123 lx123
      have X78 : x123 = zXs μ v3 v4 := by unfold zXs; rw [hx123]; exact i1.2.2.2.2.2.1 _ (by omega)
      have TX := (TC.2 v4 (by omega) (by omega)).1.1
      refine And.intro ⟨by omega, by omega⟩ (And.intro ⟨by omega, by omega⟩ ?_)
      intro m124 em124
      have z125 := zfx_r z0 em124 rfl (by decide)
      have w126 : m124.1 66 ((20 : Nat) : Int) = g116 := by rw [em124]; exact (congrFun (zu_ne (by decide)) _).trans wg116
      have w127 : m124.1 66 ((21 : Nat) : Int) = g117 := by rw [em124]; exact (congrFun (zu_ne (by decide)) _).trans wg117
      have w128 : m124.1 66 ((8 : Nat) : Int) = g118 := by rw [em124]; exact (congrFun (zu_ne (by decide)) _).trans wg118
      have w129 : m124.1 66 ((26 : Nat) : Int) = g119 := by rw [em124]; exact (congrFun (zu_ne (by decide)) _).trans wg119
      have w130 : m124.1 66 ((27 : Nat) : Int) = g120 := by rw [em124]; exact (congrFun (zu_ne (by decide)) _).trans wg120
      have R := zKc_s i1 i2 ⟨by omega, by omega⟩ H79 ⟨by omega, by omega⟩ em124 (by omega) (show (x123 - v1) = m0.1 78 (4 * (21 + v3) + v4) - v1 by rw [hx123])
      refine Exists.intro (Int.toNat ((30 - v3) * 1000 + 500 - (v4 + 1) + 8 * 4294967296)) (And.intro (by (try rw [w126]) <;> (try rw [w127]) <;> (try rw [w128]) <;> (try rw [w129]) <;> (try rw [w130]) <;> (try rw [wg116]) <;> (try rw [wg117]) <;> (try rw [wg118]) <;> (try rw [wg119]) <;> (try rw [wg120]) <;> (try rw [wg1]) <;> (try rw [wg2]) <;> (try rw [wg3]) <;> (try rw [wg4]) <;> (try rw [wg5]) <;> omega) ?_)
      exact ⟨(fun h => absurd h (by decide)), (fun h => absurd h (by decide)), (fun h => absurd h (by decide)), (fun _ => ⟨_, _, _, _, rfl, z125, ⟨by omega, by omega⟩, ⟨by omega, by omega⟩, ⟨by omega, by omega⟩, ⟨by omega, by omega⟩, ⟨rfl, j2⟩, R.1, R.2, (by omega), (by omega), rfl⟩), (fun h => absurd h (by decide)), (fun h => absurd h (by decide)), (fun h => absurd h (by decide))⟩
  · intro vs m0 n hI
    replace hI := hI.2.2.2.2.1 rfl
    clear z0
    obtain ⟨v1, v2, v3, v4, rfl, z0, hv1, hv2, hv3, hv4, i0, i1, i2, i3, rfl⟩ := hI
    obtain ⟨j1, j2⟩ := i0
    subst j1
    replace H79 := fun (q : Int) (p : 0 ≤ q) (r : q < v3) => H79 q p (by omega)
    obtain ⟨g131, wg131⟩ : ∃ z : Int, m0.1 66 ((20 : Nat) : Int) = z := ⟨_, rfl⟩
    obtain ⟨g132, wg132⟩ : ∃ z : Int, m0.1 66 ((21 : Nat) : Int) = z := ⟨_, rfl⟩
    obtain ⟨g133, wg133⟩ : ∃ z : Int, m0.1 66 ((8 : Nat) : Int) = z := ⟨_, rfl⟩
    obtain ⟨g134, wg134⟩ : ∃ z : Int, m0.1 66 ((26 : Nat) : Int) = z := ⟨_, rfl⟩
    obtain ⟨g135, wg135⟩ : ∃ z : Int, m0.1 66 ((27 : Nat) : Int) = z := ⟨_, rfl⟩
    refine And.intro ⟨⟨by omega, by omega⟩, ⟨by omega, by omega⟩⟩ (And.intro (fun c136 => ?_) (fun c136 => ?_))
    · refine Exists.intro (Int.toNat ((30 - (v3 + 1)) * 1000 + 999 + 8 * 4294967296)) (And.intro (by (try rw [wg131]) <;> (try rw [wg132]) <;> (try rw [wg133]) <;> (try rw [wg134]) <;> (try rw [wg135]) <;> (try rw [wg1]) <;> (try rw [wg2]) <;> (try rw [wg3]) <;> (try rw [wg4]) <;> (try rw [wg5]) <;> omega) ?_)
      exact ⟨(fun h => absurd h (by decide)), (fun h => absurd h (by decide)), (fun _ => ⟨_, _, _, rfl, z0, ⟨by omega, by omega⟩, ⟨by omega, by omega⟩, ⟨by omega, by omega⟩, ⟨rfl, j2⟩, (zKK_up i1 (by have h21 : v4 = 21 := (by omega); rw [h21] at i2; exact i2)), (by omega), rfl⟩), (fun h => absurd h (by decide)), (fun h => absurd h (by decide)), (fun h => absurd h (by decide)), (fun h => absurd h (by decide))⟩
    · refine And.intro ⟨by omega, by omega⟩ ?_
      intro x137 hx137 kx137 lx137
      have X80 : x137 = zXa μ v3 v4 := by unfold zXa; rw [hx137]; exact i1.2.2.2.2.2.2.1 _ (by omega)
      have TA : x137 < 0 ∨ (v1 ≤ x137 ∧ x137 ≤ 19999) := by rcases (hp0.2.2.1.1 v3 (by omega) (by omega)).2.1 v4 (by omega) (by omega) with q | q; (left; omega); (right; have h1 := q.1.1; omega)
      refine ⟨zk_X9_down, zm_X9_down hg d (by omega), _, _, rfl, ⟨by omega, by omega⟩, ⟨by omega, by omega⟩, ?_⟩
      intro x138 kx138 lx138 p139
      try rw [wg131] at p139
      try rw [wg132] at p139
      try rw [wg133] at p139
      try rw [wg134] at p139
      try rw [wg135] at p139
      try rw [wg1] at p139
      try rw [wg2] at p139
      try rw [wg3] at p139
      try rw [wg4] at p139
      try rw [wg5] at p139
      refine And.intro ⟨by omega, by omega⟩ (And.intro ⟨by omega, by omega⟩ ?_)
      intro m140 em140
      have z141 := zfx_r z0 em140 rfl (by decide)
      have w142 : m140.1 66 ((20 : Nat) : Int) = g131 := by rw [em140]; exact (congrFun (zu_ne (by decide)) _).trans wg131
      have w143 : m140.1 66 ((21 : Nat) : Int) = g132 := by rw [em140]; exact (congrFun (zu_ne (by decide)) _).trans wg132
      have w144 : m140.1 66 ((8 : Nat) : Int) = g133 := by rw [em140]; exact (congrFun (zu_ne (by decide)) _).trans wg133
      have w145 : m140.1 66 ((26 : Nat) : Int) = g134 := by rw [em140]; exact (congrFun (zu_ne (by decide)) _).trans wg134
      have w146 : m140.1 66 ((27 : Nat) : Int) = g135 := by rw [em140]; exact (congrFun (zu_ne (by decide)) _).trans wg135
      have R := zKc_d i1 i2 ⟨by omega, by omega⟩ H79 ⟨by omega, by omega⟩ em140 (by omega) (show x138 = _ by split <;> omega)
      refine Exists.intro (Int.toNat ((30 - v3) * 1000 + 100 - (v4 + 1) + 8 * 4294967296)) (And.intro (by (try rw [w142]) <;> (try rw [w143]) <;> (try rw [w144]) <;> (try rw [w145]) <;> (try rw [w146]) <;> (try rw [wg131]) <;> (try rw [wg132]) <;> (try rw [wg133]) <;> (try rw [wg134]) <;> (try rw [wg135]) <;> (try rw [wg1]) <;> (try rw [wg2]) <;> (try rw [wg3]) <;> (try rw [wg4]) <;> (try rw [wg5]) <;> omega) ?_)
      exact ⟨(fun h => absurd h (by decide)), (fun h => absurd h (by decide)), (fun h => absurd h (by decide)), (fun h => absurd h (by decide)), (fun _ => ⟨_, _, _, _, rfl, z141, ⟨by omega, by omega⟩, ⟨by omega, by omega⟩, ⟨by omega, by omega⟩, ⟨by omega, by omega⟩, ⟨rfl, j2⟩, R.1, R.2, (by omega), rfl⟩), (fun h => absurd h (by decide)), (fun h => absurd h (by decide))⟩
  · intro vs m0 n hI
    replace hI := hI.2.2.2.2.2.1 rfl
    clear z0
    obtain ⟨v1, v2, v3, rfl, z0, hv1, hv2, hv3, i0, i1, i2, rfl⟩ := hI
    obtain ⟨j1, j2⟩ := i0
    subst j1
    replace H84 := fun (c : Int) (p : 0 ≤ c) (q : c < v3) => H84 c p (by omega)
    have E21 := i1.2.1.2.2.2
    obtain ⟨g147, wg147⟩ : ∃ z : Int, m0.1 66 ((20 : Nat) : Int) = z := ⟨_, rfl⟩
    obtain ⟨g148, wg148⟩ : ∃ z : Int, m0.1 66 ((21 : Nat) : Int) = z := ⟨_, rfl⟩
    obtain ⟨g149, wg149⟩ : ∃ z : Int, m0.1 66 ((8 : Nat) : Int) = z := ⟨_, rfl⟩
    obtain ⟨g150, wg150⟩ : ∃ z : Int, m0.1 66 ((26 : Nat) : Int) = z := ⟨_, rfl⟩
    obtain ⟨g151, wg151⟩ : ∃ z : Int, m0.1 66 ((27 : Nat) : Int) = z := ⟨_, rfl⟩
    intro x152 hx152 kx152 lx152
    rw [wg148] at hx152
    refine And.intro ⟨⟨by omega, by omega⟩, ⟨by omega, by omega⟩⟩ (And.intro (fun c153 => ?_) (fun c153 => ?_))
    · have KF : zKK μ m0 v1 v2 C (μ.1 66 ((27 : Nat) : Int)) := by rw [show μ.1 66 ((27 : Nat) : Int) = v3 by omega]; exact i1
      have TB := zTb_cp hp0 KF (by omega)
      have TB1 := TB.1.1
      refine And.intro ⟨by omega, by omega⟩ ?_
      intro m154 em154
      have z155 := zfx_f z0 em154 rfl
      have w156 : m154.1 66 ((20 : Nat) : Int) = g147 := by rw [em154]; exact (zu_nk (by decide)).trans wg147
      have w157 : m154.1 66 ((21 : Nat) : Int) = g148 := by rw [em154]; exact (zu_nk (by decide)).trans wg148
      have w158 : m154.1 66 ((8 : Nat) : Int) = g149 := by rw [em154]; exact (zu_nk (by decide)).trans wg149
      have w159 : m154.1 66 ((26 : Nat) : Int) = g150 := by rw [em154]; exact (zu_nk (by decide)).trans wg150
      have w160 : m154.1 66 ((27 : Nat) : Int) = g151 := by rw [em154]; exact (zu_nk (by decide)).trans wg151
      have C1 : ∀ j : Nat, j ≠ 66 → m154.1 j = m0.1 j := fun j hj => by rw [em154, zu_ne hj]
      refine ⟨zk_X9_chainAgain, zm_X9_chainAgain hg d (by omega), _, _, rfl, ⟨by omega, by omega⟩, ⟨by omega, by omega⟩, (by omega), (fun x a b => zNd_same (fun j c d => C1 j (by omega)) (TB.2.1 x a b)), ?_⟩
      intro m161 qm161 p162 p163
      have z164 := zfx_t z155 qm161 rfl rfl
      have w165 : m161.1 66 ((20 : Nat) : Int) = g147 := (qm161.2.1 20 rfl).trans w156
      have w166 : m161.1 66 ((21 : Nat) : Int) = g148 := (qm161.2.1 21 rfl).trans w157
      have w167 : m161.1 66 ((26 : Nat) : Int) = g150 := (qm161.2.1 26 rfl).trans w159
      have w168 : m161.1 66 ((27 : Nat) : Int) = g151 := (qm161.2.1 27 rfl).trans w160
      obtain ⟨g169, wg169⟩ : ∃ z : Int, m161.1 66 ((8 : Nat) : Int) = z := ⟨_, rfl⟩
      refine ⟨zk_X9_forgetAsked2, zm_X9_forgetAsked2 hg d (by omega), rfl, ?_⟩
      intro m170 qm170 p171
      have z172 := zfx_t z164 qm170 rfl rfl
      have w173 : m170.1 66 ((20 : Nat) : Int) = g147 := (qm170.2.1 20 rfl).trans w165
      have w174 : m170.1 66 ((21 : Nat) : Int) = g148 := (qm170.2.1 21 rfl).trans w166
      have w175 : m170.1 66 ((8 : Nat) : Int) = g169 := (qm170.2.1 8 rfl).trans wg169
      have w176 : m170.1 66 ((26 : Nat) : Int) = g150 := (qm170.2.1 26 rfl).trans w167
      have w177 : m170.1 66 ((27 : Nat) : Int) = g151 := (qm170.2.1 27 rfl).trans w168
      have C3 : ∀ j : Nat, 67 ≤ j → j ≤ 71 ∨ 75 ≤ j → m170.1 j = m0.1 j := fun j a b => by rw [qm170.1 j (by omega) rfl, qm161.1 j (by omega) (zanyF (by simp <;> omega)), C1 j (by omega)]
      have G20 : m170.1 66 ((20 : Nat) : Int) = m0.1 66 ((20 : Nat) : Int) := by rw [qm170.2.1 20 rfl, qm161.2.1 20 rfl, em154, zu_nk (by decide)]
      have G21 : m170.1 66 ((21 : Nat) : Int) = m0.1 66 ((21 : Nat) : Int) := by rw [qm170.2.1 21 rfl, qm161.2.1 21 rfl, em154, zu_nk (by decide)]
      have G60 : m170.1 66 ((60 : Nat) : Int) = m0.1 66 ((60 : Nat) : Int) := by rw [qm170.2.1 60 rfl, qm161.2.1 60 rfl, em154, zu_nk (by decide)]
      have G68 : m170.1 66 ((68 : Nat) : Int) = m0.1 66 ((68 : Nat) : Int) := by rw [qm170.2.1 68 rfl, qm161.2.1 68 rfl, em154, zu_nk (by decide)]
      have T3 : zTop m170 = v2 := by rw [show zTop m170 = zTop m161 from qm170.2.1 8 rfl]; exact p163
      have N3 : zND m170 0 := zND_t.2 (by rw [show zTop m170 = zTop m161 from qm170.2.1 8 rfl]; exact zNDt_same (fun j a b => qm170.1 j (by omega) rfl) (zND_t.1 p162))
      have B3 : zTb m170 C (μ.1 66 ((27 : Nat) : Int)) v2 := zTb_old TB.1 (n := v2) (zOld_same (fun j a b => C3 j (by omega) (by omega))) (Int.le_refl _) TB.2.1 (fun j a b => C3 j (by omega) (by omega))
      have W3 : zWf m170 0 v2 C (μ.1 66 ((27 : Nat) : Int)) 0 (m170.1 77) := zWf_same TB.2.2 (fun j a b => C3 j (by omega) (by omega)) (C3 77 (by decide) (by decide))
      have F23 : m170.1 66 ((23 : Nat) : Int) = v2 := by rw [qm170.2.1 23 rfl, qm161.2.1 23 rfl, em154, zu_at]
      refine ⟨zk_X9_findWays, zm_X9_findWays hg d (by omega), _, _, _, rfl, (fun x a b => zNd_same (fun j c d => C3 j (by omega) (by omega)) (TB.2.1 x a b)), B3, W3, (by rw [G60, G68, C3 98 (by decide) (by decide), C3 105 (by decide) (by decide), KF.1.2.1, KF.1.2.2.1, KF.2.1.1, KF.2.1.2.1]; exact ⟨hp0.2.2.2.2.2.1, hp2.2.1⟩), (by rw [G60, G68, KF.2.1.1, KF.2.1.2.1]; exact ⟨⟨hp0.2.2.2.2.2.2, hp2.1⟩, hp2.2.2⟩), ⟨by rw [G20, KF.2.1.2.2.1]; exact DD.2.2.1.symm, by rw [G21, KF.2.1.2.2.2]⟩, ?_⟩
      intro m178 qm178 p179 p180 p181 p182
      have z183 := zfx_t z172 qm178 rfl rfl
      have w184 : m178.1 66 ((20 : Nat) : Int) = g147 := (qm178.2.1 20 rfl).trans w173
      have w185 : m178.1 66 ((21 : Nat) : Int) = g148 := (qm178.2.1 21 rfl).trans w174
      have w186 : m178.1 66 ((8 : Nat) : Int) = g169 := (qm178.2.1 8 rfl).trans w175
      have w187 : m178.1 66 ((26 : Nat) : Int) = g150 := (qm178.2.1 26 rfl).trans w176
      have w188 : m178.1 66 ((27 : Nat) : Int) = g151 := (qm178.2.1 27 rfl).trans w177
      exact And.intro rfl (hQ _ z183 (zRI_tab (C := C) (P := μ.1 66 ((27 : Nat) : Int)) (n := v2) (zND_t.2 (by rw [show zTop m178 = zTop m170 from qm178.2.1 8 rfl]; exact zNDt_same (fun j a b => qm178.1 j (by omega) (zanyF (by simp <;> omega))) (zND_t.1 N3))) (by rw [show zTop m178 = zTop m170 from qm178.2.1 8 rfl]; exact T3) (zTb_old B3 (n := v2) (zOld_same (fun j a b => qm178.1 j (by omega) (zanyF (by simp <;> omega)))) (Int.le_refl _) (fun x a b => N3.2.1 x a (by omega)) (fun j a b => qm178.1 j (by omega) (zanyF (by simp <;> omega)))) (zWf_same W3 (fun j a b => qm178.1 j (by omega) (zanyF (by simp <;> omega))) (qm178.1 77 (by decide) rfl)) (by rw [qm178.2.1 20 rfl, G20, KF.2.1.2.2.1]; exact DD.2.2.1) (by rw [qm178.2.1 21 rfl, G21, KF.2.1.2.2.2]) (by rw [qm178.2.1 23 rfl]; exact F23) (by rw [qm178.2.1 45 rfl]; exact p171.1) (by rw [qm178.2.1 48 rfl]; exact p171.2.2.2) (by have h1 := p179; have h2 := hp0.2.2.2.2.2.2; rw [G60, KF.2.1.1] at h1; omega) hp3.2.2 p181 p182 (by have h1 := p180; have h2 := hp2.2.2; rw [G68, KF.2.1.2.1] at h1; omega) (fun p a b => by rw [qm178.1 84 (by decide) rfl, C3 84 (by decide) (by decide), (KF.2.2.2.1 p a b).1]; exact (hp0.2.2.1.2.1 p a b).1)))
    · have TP := hp0.2.2.1.2.1 v3 (by omega) (by omega)
      refine And.intro ⟨by omega, by omega⟩ ?_
      intro x189
      refine And.intro ⟨by omega, by omega⟩ ?_
      refine And.intro ⟨by omega, by omega⟩ ?_
      intro x190 hx190 kx190 lx190
      refine And.intro ⟨by omega, by omega⟩ (And.intro ⟨by omega, by omega⟩ ?_)
      intro m191 em191
      have z192 := zfx_r z0 em191 rfl (by decide)
      have w193 : m191.1 66 ((20 : Nat) : Int) = g147 := by rw [em191]; exact (congrFun (zu_ne (by decide)) _).trans wg147
      have w194 : m191.1 66 ((21 : Nat) : Int) = g148 := by rw [em191]; exact (congrFun (zu_ne (by decide)) _).trans wg148
      have w195 : m191.1 66 ((8 : Nat) : Int) = g149 := by rw [em191]; exact (congrFun (zu_ne (by decide)) _).trans wg149
      have w196 : m191.1 66 ((26 : Nat) : Int) = g150 := by rw [em191]; exact (congrFun (zu_ne (by decide)) _).trans wg150
      have w197 : m191.1 66 ((27 : Nat) : Int) = g151 := by rw [em191]; exact (congrFun (zu_ne (by decide)) _).trans wg151
      refine And.intro ⟨by omega, by omega⟩ ?_
      intro x198 hx198 kx198 lx198
      refine And.intro ⟨by omega, by omega⟩ (And.intro ⟨by omega, by omega⟩ ?_)
      intro m199 em199
      have z200 := zfx_r z192 em199 rfl (by decide)
      have w201 : m199.1 66 ((20 : Nat) : Int) = g147 := by rw [em199]; exact (congrFun (zu_ne (by decide)) _).trans w193
      have w202 : m199.1 66 ((21 : Nat) : Int) = g148 := by rw [em199]; exact (congrFun (zu_ne (by decide)) _).trans w194
      have w203 : m199.1 66 ((8 : Nat) : Int) = g149 := by rw [em199]; exact (congrFun (zu_ne (by decide)) _).trans w195
      have w204 : m199.1 66 ((26 : Nat) : Int) = g150 := by rw [em199]; exact (congrFun (zu_ne (by decide)) _).trans w196
      have w205 : m199.1 66 ((27 : Nat) : Int) = g151 := by rw [em199]; exact (congrFun (zu_ne (by decide)) _).trans w197
      have R := zKp_0 i1 ⟨by omega, by omega⟩ H84 em191 em199 rfl hx198
      refine Exists.intro (Int.toNat ((100 - v3) * 1000 + 500 - 0 + 7 * 4294967296)) (And.intro (by (try rw [w201]) <;> (try rw [w202]) <;> (try rw [w203]) <;> (try rw [w204]) <;> (try rw [w205]) <;> (try rw [wg147]) <;> (try rw [wg148]) <;> (try rw [wg149]) <;> (try rw [wg150]) <;> (try rw [wg151]) <;> (try rw [wg1]) <;> (try rw [wg2]) <;> (try rw [wg3]) <;> (try rw [wg4]) <;> (try rw [wg5]) <;> omega) ?_)
      exact ⟨(fun h => absurd h (by decide)), (fun h => absurd h (by decide)), (fun h => absurd h (by decide)), (fun h => absurd h (by decide)), (fun h => absurd h (by decide)), (fun h => absurd h (by decide)), (fun _ => ⟨_, _, _, _, rfl, z200, ⟨by omega, by omega⟩, ⟨by omega, by omega⟩, ⟨by omega, by omega⟩, ⟨by omega, by omega⟩, ⟨rfl, j2⟩, R.1, R.2, (by omega), (by have h1 := R.2.1; rw [em199, zu_at] at h1; omega), rfl⟩)⟩
  · intro vs m0 n hI
    replace hI := hI.2.2.2.2.2.2 rfl
    clear z0
    obtain ⟨v1, v2, v3, v4, rfl, z0, hv1, hv2, hv3, hv4, i0, i1, i2, i3, i4, rfl⟩ := hI
    obtain ⟨j1, j2⟩ := i0
    subst j1
    replace H84 := fun (c : Int) (p : 0 ≤ c) (q : c < v3) => H84 c p (by omega)
    obtain ⟨g206, wg206⟩ : ∃ z : Int, m0.1 66 ((20 : Nat) : Int) = z := ⟨_, rfl⟩
    obtain ⟨g207, wg207⟩ : ∃ z : Int, m0.1 66 ((21 : Nat) : Int) = z := ⟨_, rfl⟩
    obtain ⟨g208, wg208⟩ : ∃ z : Int, m0.1 66 ((8 : Nat) : Int) = z := ⟨_, rfl⟩
    obtain ⟨g209, wg209⟩ : ∃ z : Int, m0.1 66 ((26 : Nat) : Int) = z := ⟨_, rfl⟩
    obtain ⟨g210, wg210⟩ : ∃ z : Int, m0.1 66 ((27 : Nat) : Int) = z := ⟨_, rfl⟩
    refine And.intro ⟨by omega, by omega⟩ ?_
    intro x211 hx211 kx211 lx211
    have X84 : x211 = μ.1 84 (80 + v3) := by rw [hx211]; exact i2.1
    have TP := hp0.2.2.1.2.1 v3 (by omega) (by omega)
    refine And.intro ⟨⟨by omega, by omega⟩, ⟨by omega, by omega⟩⟩ (And.intro (fun c212 => ?_) (fun c212 => ?_))
    · refine Exists.intro (Int.toNat ((100 - (v3 + 1)) * 1000 + 999 + 7 * 4294967296)) (And.intro (by (try rw [wg206]) <;> (try rw [wg207]) <;> (try rw [wg208]) <;> (try rw [wg209]) <;> (try rw [wg210]) <;> (try rw [wg1]) <;> (try rw [wg2]) <;> (try rw [wg3]) <;> (try rw [wg4]) <;> (try rw [wg5]) <;> omega) ?_)
      exact ⟨(fun h => absurd h (by decide)), (fun h => absurd h (by decide)), (fun h => absurd h (by decide)), (fun h => absurd h (by decide)), (fun h => absurd h (by decide)), (fun _ => ⟨_, _, _, rfl, z0, ⟨by omega, by omega⟩, ⟨by omega, by omega⟩, ⟨by omega, by omega⟩, ⟨rfl, j2⟩, (zKK_upp i1 (by rw [show μ.1 84 (80 + v3) = v4 by omega]; exact i2)), (by omega), rfl⟩), (fun h => absurd h (by decide))⟩
    · refine And.intro ⟨by omega, by omega⟩ ?_
      intro x213 hx213 kx213 lx213
      have X83 : x213 = μ.1 83 (2 * (80 + v3) + v4) := by rw [hx213]; exact i1.2.2.2.2.2.2.2.1 _ (by omega)
      have TX := (TP.2 v4 (by omega) (by omega)).1
      refine And.intro ⟨by omega, by omega⟩ (And.intro ⟨by omega, by omega⟩ ?_)
      intro m214 em214
      have z215 := zfx_r z0 em214 rfl (by decide)
      have w216 : m214.1 66 ((20 : Nat) : Int) = g206 := by rw [em214]; exact (congrFun (zu_ne (by decide)) _).trans wg206
      have w217 : m214.1 66 ((21 : Nat) : Int) = g207 := by rw [em214]; exact (congrFun (zu_ne (by decide)) _).trans wg207
      have w218 : m214.1 66 ((8 : Nat) : Int) = g208 := by rw [em214]; exact (congrFun (zu_ne (by decide)) _).trans wg208
      have w219 : m214.1 66 ((26 : Nat) : Int) = g209 := by rw [em214]; exact (congrFun (zu_ne (by decide)) _).trans wg209
      have w220 : m214.1 66 ((27 : Nat) : Int) = g210 := by rw [em214]; exact (congrFun (zu_ne (by decide)) _).trans wg210
      have R := zKp_s i1 i2 ⟨by omega, by omega⟩ H84 ⟨by omega, by omega⟩ em214 (by omega) (show (x213 - v1) = m0.1 83 (2 * (80 + v3) + v4) - v1 by rw [hx213])
      refine Exists.intro (Int.toNat ((100 - v3) * 1000 + 500 - (v4 + 1) + 7 * 4294967296)) (And.intro (by (try rw [w216]) <;> (try rw [w217]) <;> (try rw [w218]) <;> (try rw [w219]) <;> (try rw [w220]) <;> (try rw [wg206]) <;> (try rw [wg207]) <;> (try rw [wg208]) <;> (try rw [wg209]) <;> (try rw [wg210]) <;> (try rw [wg1]) <;> (try rw [wg2]) <;> (try rw [wg3]) <;> (try rw [wg4]) <;> (try rw [wg5]) <;> omega) ?_)
      exact ⟨(fun h => absurd h (by decide)), (fun h => absurd h (by decide)), (fun h => absurd h (by decide)), (fun h => absurd h (by decide)), (fun h => absurd h (by decide)), (fun h => absurd h (by decide)), (fun _ => ⟨_, _, _, _, rfl, z215, ⟨by omega, by omega⟩, ⟨by omega, by omega⟩, ⟨by omega, by omega⟩, ⟨by omega, by omega⟩, ⟨rfl, j2⟩, R.1, R.2, (by omega), (by omega), rfl⟩)⟩
