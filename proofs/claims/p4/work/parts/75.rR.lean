/-! ### findWays -/
def zk_X9_findWays : zC := fun As μ Q => ∃ (C : Int) (Pn : Int) (tt : Int), As = [.inr (.inr (66, 66))] ∧ (∀ x : Int, 0 ≤ x → x < tt → zNd μ x) ∧ (zTb μ C Pn tt) ∧ (zWf μ 0 tt C Pn 0 (μ.1 77)) ∧ ((∀ x : Int, 0 ≤ x → x < 20000 → μ.1 98 x ≤ μ.1 66 ((60 : Nat) : Int)) ∧ ∀ x : Int, 0 ≤ x → x < 20000 → μ.1 105 x ≤ μ.1 66 ((68 : Nat) : Int)) ∧ ((0 ≤ μ.1 66 ((60 : Nat) : Int) ∧ μ.1 66 ((60 : Nat) : Int) ≤ 1999000000) ∧ 0 ≤ μ.1 66 ((68 : Nat) : Int) ∧ μ.1 66 ((68 : Nat) : Int) ≤ 1999000000) ∧ (C = μ.1 66 ((20 : Nat) : Int) ∧ Pn = μ.1 66 ((21 : Nat) : Int)) ∧ (∀ (μ' : zM), zfx [86, 87, 98, 99, 105, 106] [41, 60, 68] μ μ' → (μ.1 66 ((60 : Nat) : Int) ≤ μ'.1 66 ((60 : Nat) : Int) ∧ μ'.1 66 ((60 : Nat) : Int) ≤ μ.1 66 ((60 : Nat) : Int) + 300000) → (μ.1 66 ((68 : Nat) : Int) ≤ μ'.1 66 ((68 : Nat) : Int) ∧ μ'.1 66 ((68 : Nat) : Int) ≤ μ.1 66 ((68 : Nat) : Int) + 300) → (∀ x : Int, 0 ≤ x → x < 20000 → μ'.1 98 x ≤ μ'.1 66 ((60 : Nat) : Int)) → (∀ x : Int, 0 ≤ x → x < 20000 → μ'.1 105 x ≤ μ'.1 66 ((68 : Nat) : Int)) → Q none μ')
set_option maxHeartbeats 2000000 in
theorem zm_X9_findWays {g : zΓ} (hg : zg g) (d : Nat) (hd : 3 ≤ d) : zOk g d 154 zk_X9_findWays := by
  obtain ⟨d, rfl⟩ : ∃ d', d = d' + 1 := ⟨d - 1, by omega⟩
  refine zOk_loop hg (show mt_tab[154]? = some mt_X9_findWays from rfl) ([(2, [0, 1]), (24, [0, 1]), (34, [0, 1, 2]), (72, [0, 1]), (82, [0, 1, 2]), (120, [0, 1]), (155, [0, 1]), (165, [0, 1, 2]), (175, [0, 1, 2, 3]), (266, [0, 1])], []) 178 rfl fun As μ Q hC => ?_
  obtain ⟨C, Pn, tt, rfl, hp0, hp1, hp2, hp3, hp4, hp5, hQ⟩ := hC
  have HB := hp1.1
  obtain ⟨g1, wg1⟩ : ∃ z : Int, μ.1 66 ((20 : Nat) : Int) = z := ⟨_, rfl⟩
  obtain ⟨g2, wg2⟩ : ∃ z : Int, μ.1 66 ((21 : Nat) : Int) = z := ⟨_, rfl⟩
  have z0 : zfx [86, 87, 98, 99, 105, 106] [41, 60, 68] μ μ := zfx_x μ
  refine ⟨rfl, fun pc vs μ' n => (pc = 2 → ∃ (v1 : Int), vs = [.inr (.inr (66, 66)), .inl v1] ∧ zfx [86, 87, 98, 99, 105, 106] [41, 60, 68] μ μ' ∧ (0 ≤ v1 ∧ v1 ≤ 6400) ∧ ((μ.1 66 ((60 : Nat) : Int) ≤ μ'.1 66 ((60 : Nat) : Int) ∧ μ'.1 66 ((60 : Nat) : Int) ≤ μ.1 66 ((60 : Nat) : Int) + 1200 * 0) ∧ (μ.1 66 ((68 : Nat) : Int) ≤ μ'.1 66 ((68 : Nat) : Int) ∧ μ'.1 66 ((68 : Nat) : Int) ≤ μ.1 66 ((68 : Nat) : Int) + 0)) ∧ (∀ x : Int, 0 ≤ x → x < 20000 → μ'.1 98 x ≤ μ'.1 66 ((60 : Nat) : Int)) ∧ (∀ x : Int, 0 ≤ x → x < 20000 → μ'.1 105 x ≤ μ'.1 66 ((68 : Nat) : Int)) ∧ n = (Int.toNat (18446744073709551616 * 9 + (2147483648 - v1)))) ∧ (pc = 24 → ∃ (v1 : Int), vs = [.inr (.inr (66, 66)), .inl v1] ∧ zfx [86, 87, 98, 99, 105, 106] [41, 60, 68] μ μ' ∧ (0 ≤ v1 ∧ v1 ≤ 21) ∧ ((μ.1 66 ((60 : Nat) : Int) ≤ μ'.1 66 ((60 : Nat) : Int) ∧ μ'.1 66 ((60 : Nat) : Int) ≤ μ.1 66 ((60 : Nat) : Int) + 1200 * (4 * v1)) ∧ (μ.1 66 ((68 : Nat) : Int) ≤ μ'.1 66 ((68 : Nat) : Int) ∧ μ'.1 66 ((68 : Nat) : Int) ≤ μ.1 66 ((68 : Nat) : Int) + (4 * v1))) ∧ (∀ x : Int, 0 ≤ x → x < 20000 → μ'.1 98 x ≤ μ'.1 66 ((60 : Nat) : Int)) ∧ (∀ x : Int, 0 ≤ x → x < 20000 → μ'.1 105 x ≤ μ'.1 66 ((68 : Nat) : Int)) ∧ n = (Int.toNat (18446744073709551616 * 8 + (21 - v1) * 4294967296 + 4294967295))) ∧ (pc = 34 → ∃ (v1 : Int) (v2 : Int), vs = [.inr (.inr (66, 66)), .inl v1, .inl v2] ∧ zfx [86, 87, 98, 99, 105, 106] [41, 60, 68] μ μ' ∧ (0 ≤ v1 ∧ v1 ≤ 20) ∧ (0 ≤ v2 ∧ v2 ≤ 4) ∧ ((μ.1 66 ((60 : Nat) : Int) ≤ μ'.1 66 ((60 : Nat) : Int) ∧ μ'.1 66 ((60 : Nat) : Int) ≤ μ.1 66 ((60 : Nat) : Int) + 1200 * (4 * v1 + v2)) ∧ (μ.1 66 ((68 : Nat) : Int) ≤ μ'.1 66 ((68 : Nat) : Int) ∧ μ'.1 66 ((68 : Nat) : Int) ≤ μ.1 66 ((68 : Nat) : Int) + (4 * v1 + v2))) ∧ (∀ x : Int, 0 ≤ x → x < 20000 → μ'.1 98 x ≤ μ'.1 66 ((60 : Nat) : Int)) ∧ (∀ x : Int, 0 ≤ x → x < 20000 → μ'.1 105 x ≤ μ'.1 66 ((68 : Nat) : Int)) ∧ (v1 < μ.1 66 ((20 : Nat) : Int)) ∧ n = (Int.toNat (18446744073709551616 * 8 + (21 - v1) * 4294967296 + (2147483648 - v2)))) ∧ (pc = 72 → ∃ (v1 : Int), vs = [.inr (.inr (66, 66)), .inl v1] ∧ zfx [86, 87, 98, 99, 105, 106] [41, 60, 68] μ μ' ∧ (0 ≤ v1 ∧ v1 ≤ 80) ∧ ((μ.1 66 ((60 : Nat) : Int) ≤ μ'.1 66 ((60 : Nat) : Int) ∧ μ'.1 66 ((60 : Nat) : Int) ≤ μ.1 66 ((60 : Nat) : Int) + 1200 * (84 + 2 * v1)) ∧ (μ.1 66 ((68 : Nat) : Int) ≤ μ'.1 66 ((68 : Nat) : Int) ∧ μ'.1 66 ((68 : Nat) : Int) ≤ μ.1 66 ((68 : Nat) : Int) + (84 + 2 * v1))) ∧ (∀ x : Int, 0 ≤ x → x < 20000 → μ'.1 98 x ≤ μ'.1 66 ((60 : Nat) : Int)) ∧ (∀ x : Int, 0 ≤ x → x < 20000 → μ'.1 105 x ≤ μ'.1 66 ((68 : Nat) : Int)) ∧ n = (Int.toNat (18446744073709551616 * 7 + (81 - v1) * 4294967296 + 4294967295))) ∧ (pc = 82 → ∃ (v1 : Int) (v2 : Int), vs = [.inr (.inr (66, 66)), .inl v1, .inl v2] ∧ zfx [86, 87, 98, 99, 105, 106] [41, 60, 68] μ μ' ∧ (0 ≤ v1 ∧ v1 ≤ 79) ∧ (0 ≤ v2 ∧ v2 ≤ 2) ∧ ((μ.1 66 ((60 : Nat) : Int) ≤ μ'.1 66 ((60 : Nat) : Int) ∧ μ'.1 66 ((60 : Nat) : Int) ≤ μ.1 66 ((60 : Nat) : Int) + 1200 * (84 + 2 * v1 + v2)) ∧ (μ.1 66 ((68 : Nat) : Int) ≤ μ'.1 66 ((68 : Nat) : Int) ∧ μ'.1 66 ((68 : Nat) : Int) ≤ μ.1 66 ((68 : Nat) : Int) + (84 + 2 * v1 + v2))) ∧ (∀ x : Int, 0 ≤ x → x < 20000 → μ'.1 98 x ≤ μ'.1 66 ((60 : Nat) : Int)) ∧ (∀ x : Int, 0 ≤ x → x < 20000 → μ'.1 105 x ≤ μ'.1 66 ((68 : Nat) : Int)) ∧ (v1 < μ.1 66 ((21 : Nat) : Int)) ∧ n = (Int.toNat (18446744073709551616 * 7 + (81 - v1) * 4294967296 + (2147483648 - v2)))) ∧ (pc = 120 → ∃ (v1 : Int), vs = [.inr (.inr (66, 66)), .inl v1] ∧ zfx [86, 87, 98, 99, 105, 106] [41, 60, 68] μ μ' ∧ (0 ≤ v1 ∧ v1 ≤ 6400) ∧ ((μ.1 66 ((60 : Nat) : Int) ≤ μ'.1 66 ((60 : Nat) : Int) ∧ μ'.1 66 ((60 : Nat) : Int) ≤ μ.1 66 ((60 : Nat) : Int) + 1200 * 244) ∧ (μ.1 66 ((68 : Nat) : Int) ≤ μ'.1 66 ((68 : Nat) : Int) ∧ μ'.1 66 ((68 : Nat) : Int) ≤ μ.1 66 ((68 : Nat) : Int) + 244)) ∧ (∀ x : Int, 0 ≤ x → x < 20000 → μ'.1 98 x ≤ μ'.1 66 ((60 : Nat) : Int)) ∧ (∀ x : Int, 0 ≤ x → x < 20000 → μ'.1 105 x ≤ μ'.1 66 ((68 : Nat) : Int)) ∧ n = (Int.toNat (18446744073709551616 * 6 + (2147483648 - v1)))) ∧ (pc = 155 → ∃ (v1 : Int), vs = [.inr (.inr (66, 66)), .inl v1] ∧ zfx [86, 87, 98, 99, 105, 106] [41, 60, 68] μ μ' ∧ (0 ≤ v1 ∧ v1 ≤ 80) ∧ ((μ.1 66 ((60 : Nat) : Int) ≤ μ'.1 66 ((60 : Nat) : Int) ∧ μ'.1 66 ((60 : Nat) : Int) ≤ μ.1 66 ((60 : Nat) : Int) + 1200 * 244) ∧ (μ.1 66 ((68 : Nat) : Int) ≤ μ'.1 66 ((68 : Nat) : Int) ∧ μ'.1 66 ((68 : Nat) : Int) ≤ μ.1 66 ((68 : Nat) : Int) + 244)) ∧ (∀ x : Int, 0 ≤ x → x < 20000 → μ'.1 98 x ≤ μ'.1 66 ((60 : Nat) : Int)) ∧ (∀ x : Int, 0 ≤ x → x < 20000 → μ'.1 105 x ≤ μ'.1 66 ((68 : Nat) : Int)) ∧ n = (Int.toNat (18446744073709551616 * 5 + (81 - v1) * 4294967296 + 4294967295))) ∧ (pc = 165 → ∃ (v1 : Int) (v2 : Int), vs = [.inr (.inr (66, 66)), .inl v1, .inl v2] ∧ zfx [86, 87, 98, 99, 105, 106] [41, 60, 68] μ μ' ∧ (0 ≤ v1 ∧ v1 ≤ 79) ∧ (0 ≤ v2 ∧ v2 ≤ 80) ∧ ((μ.1 66 ((60 : Nat) : Int) ≤ μ'.1 66 ((60 : Nat) : Int) ∧ μ'.1 66 ((60 : Nat) : Int) ≤ μ.1 66 ((60 : Nat) : Int) + 1200 * 244) ∧ (μ.1 66 ((68 : Nat) : Int) ≤ μ'.1 66 ((68 : Nat) : Int) ∧ μ'.1 66 ((68 : Nat) : Int) ≤ μ.1 66 ((68 : Nat) : Int) + 244)) ∧ (∀ x : Int, 0 ≤ x → x < 20000 → μ'.1 98 x ≤ μ'.1 66 ((60 : Nat) : Int)) ∧ (∀ x : Int, 0 ≤ x → x < 20000 → μ'.1 105 x ≤ μ'.1 66 ((68 : Nat) : Int)) ∧ n = (Int.toNat (18446744073709551616 * 5 + (81 - v1) * 4294967296 + (81 - v2) * 1000 + 999))) ∧ (pc = 175 → ∃ (v1 : Int) (v2 : Int) (v3 : Int), vs = [.inr (.inr (66, 66)), .inl v1, .inl v2, .inl v3] ∧ zfx [86, 87, 98, 99, 105, 106] [41, 60, 68] μ μ' ∧ (0 ≤ v1 ∧ v1 ≤ 79) ∧ (0 ≤ v2 ∧ v2 ≤ 79) ∧ (0 ≤ v3 ∧ v3 ≤ 80) ∧ ((μ.1 66 ((60 : Nat) : Int) ≤ μ'.1 66 ((60 : Nat) : Int) ∧ μ'.1 66 ((60 : Nat) : Int) ≤ μ.1 66 ((60 : Nat) : Int) + 1200 * 244) ∧ (μ.1 66 ((68 : Nat) : Int) ≤ μ'.1 66 ((68 : Nat) : Int) ∧ μ'.1 66 ((68 : Nat) : Int) ≤ μ.1 66 ((68 : Nat) : Int) + 244)) ∧ (∀ x : Int, 0 ≤ x → x < 20000 → μ'.1 98 x ≤ μ'.1 66 ((60 : Nat) : Int)) ∧ (∀ x : Int, 0 ≤ x → x < 20000 → μ'.1 105 x ≤ μ'.1 66 ((68 : Nat) : Int)) ∧ n = (Int.toNat (18446744073709551616 * 5 + (81 - v1) * 4294967296 + (81 - v2) * 1000 + (81 - v3)))) ∧ (pc = 266 → ∃ (v1 : Int), vs = [.inr (.inr (66, 66)), .inl v1] ∧ zfx [86, 87, 98, 99, 105, 106] [41, 60, 68] μ μ' ∧ (0 ≤ v1 ∧ v1 ≤ 80) ∧ ((μ.1 66 ((60 : Nat) : Int) ≤ μ'.1 66 ((60 : Nat) : Int) ∧ μ'.1 66 ((60 : Nat) : Int) ≤ μ.1 66 ((60 : Nat) : Int) + 1200 * 244) ∧ (μ.1 66 ((68 : Nat) : Int) ≤ μ'.1 66 ((68 : Nat) : Int) ∧ μ'.1 66 ((68 : Nat) : Int) ≤ μ.1 66 ((68 : Nat) : Int) + 244)) ∧ (∀ x : Int, 0 ≤ x → x < 20000 → μ'.1 98 x ≤ μ'.1 66 ((60 : Nat) : Int)) ∧ (∀ x : Int, 0 ≤ x → x < 20000 → μ'.1 105 x ≤ μ'.1 66 ((68 : Nat) : Int)) ∧ n = (Int.toNat (2147483648 - v1))), ?_, ?_, ?_, ?_, ?_, ?_, ?_, ?_, ?_, ?_, ?_, trivial⟩
  · refine Exists.intro (Int.toNat (18446744073709551616 * 9 + (2147483648 - 0))) ?_
    exact ⟨(fun _ => ⟨_, rfl, z0, ⟨by omega, by omega⟩, ⟨⟨Int.le_refl _, by omega⟩, Int.le_refl _, by omega⟩, hp3.1, hp3.2, rfl⟩), (fun h => absurd h (by decide)), (fun h => absurd h (by decide)), (fun h => absurd h (by decide)), (fun h => absurd h (by decide)), (fun h => absurd h (by decide)), (fun h => absurd h (by decide)), (fun h => absurd h (by decide)), (fun h => absurd h (by decide)), (fun h => absurd h (by decide))⟩
  · intro vs m0 n hI
    replace hI := hI.1 rfl
    clear z0
    obtain ⟨v1, rfl, z0, hv1, i0, i1, i2, rfl⟩ := hI
    obtain ⟨g3, wg3⟩ : ∃ z : Int, m0.1 66 ((20 : Nat) : Int) = z := ⟨_, rfl⟩
    obtain ⟨g4, wg4⟩ : ∃ z : Int, m0.1 66 ((21 : Nat) : Int) = z := ⟨_, rfl⟩
    refine And.intro ⟨⟨by omega, by omega⟩, ⟨by omega, by omega⟩⟩ (And.intro (fun c5 => ?_) (fun c5 => ?_))
    · refine Exists.intro (Int.toNat (18446744073709551616 * 8 + (21 - 0) * 4294967296 + 4294967295)) (And.intro (by (try rw [wg3]) <;> (try rw [wg4]) <;> (try rw [wg1]) <;> (try rw [wg2]) <;> omega) ?_)
      exact ⟨(fun h => absurd h (by decide)), (fun _ => ⟨_, rfl, z0, ⟨by omega, by omega⟩, (by omega), i1, i2, rfl⟩), (fun h => absurd h (by decide)), (fun h => absurd h (by decide)), (fun h => absurd h (by decide)), (fun h => absurd h (by decide)), (fun h => absurd h (by decide)), (fun h => absurd h (by decide)), (fun h => absurd h (by decide)), (fun h => absurd h (by decide))⟩
    · refine And.intro ⟨by omega, by omega⟩ (And.intro ⟨by omega, by omega⟩ ?_)
      intro m6 em6
      have z7 := zfx_r z0 em6 rfl (by decide)
      have w8 : m6.1 66 ((20 : Nat) : Int) = g3 := by rw [em6]; exact (congrFun (zu_ne (by decide)) _).trans wg3
      have w9 : m6.1 66 ((21 : Nat) : Int) = g4 := by rw [em6]; exact (congrFun (zu_ne (by decide)) _).trans wg4
      refine Exists.intro (Int.toNat (18446744073709551616 * 9 + (2147483648 - (v1 + 1)))) (And.intro (by (try rw [w8]) <;> (try rw [w9]) <;> (try rw [wg3]) <;> (try rw [wg4]) <;> (try rw [wg1]) <;> (try rw [wg2]) <;> omega) ?_)
      exact ⟨(fun _ => ⟨_, rfl, z7, ⟨by omega, by omega⟩, (by rw [em6, zu_ne (show (66 : Nat) ≠ 86 by decide)]; omega), (fun x a b => by rw [em6, zu_ne (show (66 : Nat) ≠ 86 by decide), zu_ne (show (98 : Nat) ≠ 86 by decide)]; exact i1 x a b), (fun x a b => by rw [em6, zu_ne (show (66 : Nat) ≠ 86 by decide), zu_ne (show (105 : Nat) ≠ 86 by decide)]; exact i2 x a b), rfl⟩), (fun h => absurd h (by decide)), (fun h => absurd h (by decide)), (fun h => absurd h (by decide)), (fun h => absurd h (by decide)), (fun h => absurd h (by decide)), (fun h => absurd h (by decide)), (fun h => absurd h (by decide)), (fun h => absurd h (by decide)), (fun h => absurd h (by decide))⟩
  · intro vs m0 n hI
    replace hI := hI.2.1 rfl
    clear z0
    obtain ⟨v1, rfl, z0, hv1, i0, i1, i2, rfl⟩ := hI
    obtain ⟨g10, wg10⟩ : ∃ z : Int, m0.1 66 ((20 : Nat) : Int) = z := ⟨_, rfl⟩
    obtain ⟨g11, wg11⟩ : ∃ z : Int, m0.1 66 ((21 : Nat) : Int) = z := ⟨_, rfl⟩
    intro x12 hx12 kx12 lx12
    rw [wg10] at hx12
    refine And.intro ⟨⟨by omega, by omega⟩, ⟨by omega, by omega⟩⟩ (And.intro (fun c13 => ?_) (fun c13 => ?_))
    · refine Exists.intro (Int.toNat (18446744073709551616 * 7 + (81 - 0) * 4294967296 + 4294967295)) (And.intro (by (try rw [wg10]) <;> (try rw [wg11]) <;> (try rw [wg1]) <;> (try rw [wg2]) <;> omega) ?_)
      exact ⟨(fun h => absurd h (by decide)), (fun h => absurd h (by decide)), (fun h => absurd h (by decide)), (fun _ => ⟨_, rfl, z0, ⟨by omega, by omega⟩, (by omega), i1, i2, rfl⟩), (fun h => absurd h (by decide)), (fun h => absurd h (by decide)), (fun h => absurd h (by decide)), (fun h => absurd h (by decide)), (fun h => absurd h (by decide)), (fun h => absurd h (by decide))⟩
    · refine Exists.intro (Int.toNat (18446744073709551616 * 8 + (21 - v1) * 4294967296 + (2147483648 - 0))) (And.intro (by (try rw [wg10]) <;> (try rw [wg11]) <;> (try rw [wg1]) <;> (try rw [wg2]) <;> omega) ?_)
      exact ⟨(fun h => absurd h (by decide)), (fun h => absurd h (by decide)), (fun _ => ⟨_, _, rfl, z0, ⟨by omega, by omega⟩, ⟨by omega, by omega⟩, (by omega), i1, i2, (by have h20 : m0.1 66 ((20 : Nat) : Int) = μ.1 66 ((20 : Nat) : Int) := z0.2.1 20 rfl; omega), rfl⟩), (fun h => absurd h (by decide)), (fun h => absurd h (by decide)), (fun h => absurd h (by decide)), (fun h => absurd h (by decide)), (fun h => absurd h (by decide)), (fun h => absurd h (by decide)), (fun h => absurd h (by decide))⟩
  · intro vs m0 n hI
    replace hI := hI.2.2.1 rfl
    clear z0
    obtain ⟨v1, v2, rfl, z0, hv1, hv2, i0, i1, i2, i3, rfl⟩ := hI
    obtain ⟨g14, wg14⟩ : ∃ z : Int, m0.1 66 ((20 : Nat) : Int) = z := ⟨_, rfl⟩
    obtain ⟨g15, wg15⟩ : ∃ z : Int, m0.1 66 ((21 : Nat) : Int) = z := ⟨_, rfl⟩
    refine And.intro ⟨by omega, by omega⟩ ?_
    intro x16 hx16 kx16 lx16
    rw [show m0.1 79 = μ.1 79 from z0.1 79 (by decide) rfl] at hx16
    refine And.intro ⟨⟨by omega, by omega⟩, ⟨by omega, by omega⟩⟩ (And.intro (fun c17 => ?_) (fun c17 => ?_))
    · refine Exists.intro (Int.toNat (18446744073709551616 * 8 + (21 - (v1 + 1)) * 4294967296 + 4294967295)) (And.intro (by (try rw [wg14]) <;> (try rw [wg15]) <;> (try rw [wg1]) <;> (try rw [wg2]) <;> omega) ?_)
      exact ⟨(fun h => absurd h (by decide)), (fun _ => ⟨_, rfl, z0, ⟨by omega, by omega⟩, (by omega), i1, i2, rfl⟩), (fun h => absurd h (by decide)), (fun h => absurd h (by decide)), (fun h => absurd h (by decide)), (fun h => absurd h (by decide)), (fun h => absurd h (by decide)), (fun h => absurd h (by decide)), (fun h => absurd h (by decide)), (fun h => absurd h (by decide))⟩
    · refine And.intro ⟨by omega, by omega⟩ ?_
      intro x18 hx18 kx18 lx18
      rw [show m0.1 78 = μ.1 78 from z0.1 78 (by decide) rfl] at hx18
      have HS := hp1.2.2.1 v1 v2 (by omega) (by omega) (by omega) (by omega)
      rw [show 4 * v1 + v2 = ((4 * v1) + v2) by omega, ← hx18] at HS
      refine ⟨zk_X9_waysOf, zm_X9_waysOf hg d (by omega), _, _, _, _, rfl, ⟨by omega, by omega⟩, (fun x a b => zNd_same (fun j c d => z0.1 j (by omega) (zanyF (by simp <;> omega))) (hp0 x a b)), ⟨HS.1.2, by omega⟩, ⟨i2, i1⟩, (by omega), (by rw [show m0.1 77 = μ.1 77 from z0.1 77 (by decide) rfl]; exact zWf_same hp2 (fun j c d => z0.1 j (by omega) (zanyF (by simp <;> omega))) rfl), (by rw [show m0.1 76 = μ.1 76 from z0.1 76 (by decide) rfl, show m0.1 77 = μ.1 77 from z0.1 77 (by decide) rfl]; exact fun c a b => ⟨(hp1.2.1 c a b).1, (hp1.2.1 c a b).2.2.2.1⟩), ⟨by omega, by omega, by rw [show m0.1 71 = μ.1 71 from z0.1 71 (by decide) rfl]; exact HS.2⟩, ?_⟩
      intro m19 qm19 p20 p21 p22 p23
      have z24 := zfx_t z0 qm19 rfl rfl
      have w25 : m19.1 66 ((20 : Nat) : Int) = g14 := (qm19.2.1 20 rfl).trans wg14
      have w26 : m19.1 66 ((21 : Nat) : Int) = g15 := (qm19.2.1 21 rfl).trans wg15
      refine Exists.intro (Int.toNat (18446744073709551616 * 8 + (21 - v1) * 4294967296 + (2147483648 - (v2 + 1)))) (And.intro (by (try rw [w25]) <;> (try rw [w26]) <;> (try rw [wg14]) <;> (try rw [wg15]) <;> (try rw [wg1]) <;> (try rw [wg2]) <;> omega) ?_)
      exact ⟨(fun h => absurd h (by decide)), (fun h => absurd h (by decide)), (fun _ => ⟨_, _, rfl, z24, ⟨by omega, by omega⟩, ⟨by omega, by omega⟩, (by have h1 := p20; have h2 := p22; omega), p23, p21, (by have h20 : m0.1 66 ((20 : Nat) : Int) = μ.1 66 ((20 : Nat) : Int) := z0.2.1 20 rfl; omega), rfl⟩), (fun h => absurd h (by decide)), (fun h => absurd h (by decide)), (fun h => absurd h (by decide)), (fun h => absurd h (by decide)), (fun h => absurd h (by decide)), (fun h => absurd h (by decide)), (fun h => absurd h (by decide))⟩
  · intro vs m0 n hI
    replace hI := hI.2.2.2.1 rfl
    clear z0
    obtain ⟨v1, rfl, z0, hv1, i0, i1, i2, rfl⟩ := hI
    obtain ⟨g27, wg27⟩ : ∃ z : Int, m0.1 66 ((20 : Nat) : Int) = z := ⟨_, rfl⟩
    obtain ⟨g28, wg28⟩ : ∃ z : Int, m0.1 66 ((21 : Nat) : Int) = z := ⟨_, rfl⟩
    intro x29 hx29 kx29 lx29
    rw [wg28] at hx29
    refine And.intro ⟨⟨by omega, by omega⟩, ⟨by omega, by omega⟩⟩ (And.intro (fun c30 => ?_) (fun c30 => ?_))
    · refine Exists.intro (Int.toNat (18446744073709551616 * 6 + (2147483648 - 0))) (And.intro (by (try rw [wg27]) <;> (try rw [wg28]) <;> (try rw [wg1]) <;> (try rw [wg2]) <;> omega) ?_)
      exact ⟨(fun h => absurd h (by decide)), (fun h => absurd h (by decide)), (fun h => absurd h (by decide)), (fun h => absurd h (by decide)), (fun h => absurd h (by decide)), (fun _ => ⟨_, rfl, z0, ⟨by omega, by omega⟩, (by omega), i1, i2, rfl⟩), (fun h => absurd h (by decide)), (fun h => absurd h (by decide)), (fun h => absurd h (by decide)), (fun h => absurd h (by decide))⟩
    · refine Exists.intro (Int.toNat (18446744073709551616 * 7 + (81 - v1) * 4294967296 + (2147483648 - 0))) (And.intro (by (try rw [wg27]) <;> (try rw [wg28]) <;> (try rw [wg1]) <;> (try rw [wg2]) <;> omega) ?_)
      exact ⟨(fun h => absurd h (by decide)), (fun h => absurd h (by decide)), (fun h => absurd h (by decide)), (fun h => absurd h (by decide)), (fun _ => ⟨_, _, rfl, z0, ⟨by omega, by omega⟩, ⟨by omega, by omega⟩, (by omega), i1, i2, (by have h21 : m0.1 66 ((21 : Nat) : Int) = μ.1 66 ((21 : Nat) : Int) := z0.2.1 21 rfl; omega), rfl⟩), (fun h => absurd h (by decide)), (fun h => absurd h (by decide)), (fun h => absurd h (by decide)), (fun h => absurd h (by decide)), (fun h => absurd h (by decide))⟩
  · intro vs m0 n hI
    replace hI := hI.2.2.2.2.1 rfl
    clear z0
    obtain ⟨v1, v2, rfl, z0, hv1, hv2, i0, i1, i2, i3, rfl⟩ := hI
    obtain ⟨g31, wg31⟩ : ∃ z : Int, m0.1 66 ((20 : Nat) : Int) = z := ⟨_, rfl⟩
    obtain ⟨g32, wg32⟩ : ∃ z : Int, m0.1 66 ((21 : Nat) : Int) = z := ⟨_, rfl⟩
    refine And.intro ⟨by omega, by omega⟩ ?_
    intro x33 hx33 kx33 lx33
    rw [show m0.1 84 = μ.1 84 from z0.1 84 (by decide) rfl] at hx33
    refine And.intro ⟨⟨by omega, by omega⟩, ⟨by omega, by omega⟩⟩ (And.intro (fun c34 => ?_) (fun c34 => ?_))
    · refine Exists.intro (Int.toNat (18446744073709551616 * 7 + (81 - (v1 + 1)) * 4294967296 + 4294967295)) (And.intro (by (try rw [wg31]) <;> (try rw [wg32]) <;> (try rw [wg1]) <;> (try rw [wg2]) <;> omega) ?_)
      exact ⟨(fun h => absurd h (by decide)), (fun h => absurd h (by decide)), (fun h => absurd h (by decide)), (fun _ => ⟨_, rfl, z0, ⟨by omega, by omega⟩, (by omega), i1, i2, rfl⟩), (fun h => absurd h (by decide)), (fun h => absurd h (by decide)), (fun h => absurd h (by decide)), (fun h => absurd h (by decide)), (fun h => absurd h (by decide)), (fun h => absurd h (by decide))⟩
    · refine And.intro ⟨by omega, by omega⟩ ?_
      intro x35 hx35 kx35 lx35
      rw [show m0.1 83 = μ.1 83 from z0.1 83 (by decide) rfl] at hx35
      have HS := (hp1.2.2.2.1 v1 v2 (by omega) (by omega) (by omega) (by omega)).1
      rw [show 2 * v1 + v2 = ((2 * v1) + v2) by omega, ← hx35] at HS
      refine ⟨zk_X9_waysOf, zm_X9_waysOf hg d (by omega), _, _, _, _, rfl, ⟨by omega, by omega⟩, (fun x a b => zNd_same (fun j c d => z0.1 j (by omega) (zanyF (by simp <;> omega))) (hp0 x a b)), ⟨HS.1.2, by omega⟩, ⟨i2, i1⟩, (by omega), (by rw [show m0.1 77 = μ.1 77 from z0.1 77 (by decide) rfl]; exact zWf_same hp2 (fun j c d => z0.1 j (by omega) (zanyF (by simp <;> omega))) rfl), (by rw [show m0.1 76 = μ.1 76 from z0.1 76 (by decide) rfl, show m0.1 77 = μ.1 77 from z0.1 77 (by decide) rfl]; exact fun c a b => ⟨(hp1.2.1 c a b).1, (hp1.2.1 c a b).2.2.2.1⟩), ⟨by omega, by omega, by rw [show m0.1 71 = μ.1 71 from z0.1 71 (by decide) rfl]; exact HS.2⟩, ?_⟩
      intro m36 qm36 p37 p38 p39 p40
      have z41 := zfx_t z0 qm36 rfl rfl
      have w42 : m36.1 66 ((20 : Nat) : Int) = g31 := (qm36.2.1 20 rfl).trans wg31
      have w43 : m36.1 66 ((21 : Nat) : Int) = g32 := (qm36.2.1 21 rfl).trans wg32
      refine Exists.intro (Int.toNat (18446744073709551616 * 7 + (81 - v1) * 4294967296 + (2147483648 - (v2 + 1)))) (And.intro (by (try rw [w42]) <;> (try rw [w43]) <;> (try rw [wg31]) <;> (try rw [wg32]) <;> (try rw [wg1]) <;> (try rw [wg2]) <;> omega) ?_)
      exact ⟨(fun h => absurd h (by decide)), (fun h => absurd h (by decide)), (fun h => absurd h (by decide)), (fun h => absurd h (by decide)), (fun _ => ⟨_, _, rfl, z41, ⟨by omega, by omega⟩, ⟨by omega, by omega⟩, (by have h1 := p37; have h2 := p39; omega), p40, p38, (by have h21 : m0.1 66 ((21 : Nat) : Int) = μ.1 66 ((21 : Nat) : Int) := z0.2.1 21 rfl; omega), rfl⟩), (fun h => absurd h (by decide)), (fun h => absurd h (by decide)), (fun h => absurd h (by decide)), (fun h => absurd h (by decide)), (fun h => absurd h (by decide))⟩
  · intro vs m0 n hI
    replace hI := hI.2.2.2.2.2.1 rfl
    clear z0
    obtain ⟨v1, rfl, z0, hv1, i0, i1, i2, rfl⟩ := hI
    obtain ⟨g44, wg44⟩ : ∃ z : Int, m0.1 66 ((20 : Nat) : Int) = z := ⟨_, rfl⟩
    obtain ⟨g45, wg45⟩ : ∃ z : Int, m0.1 66 ((21 : Nat) : Int) = z := ⟨_, rfl⟩
    refine And.intro ⟨⟨by omega, by omega⟩, ⟨by omega, by omega⟩⟩ (And.intro (fun c46 => ?_) (fun c46 => ?_))
    · refine Exists.intro (Int.toNat (18446744073709551616 * 5 + (81 - 0) * 4294967296 + 4294967295)) (And.intro (by (try rw [wg44]) <;> (try rw [wg45]) <;> (try rw [wg1]) <;> (try rw [wg2]) <;> omega) ?_)
      exact ⟨(fun h => absurd h (by decide)), (fun h => absurd h (by decide)), (fun h => absurd h (by decide)), (fun h => absurd h (by decide)), (fun h => absurd h (by decide)), (fun h => absurd h (by decide)), (fun _ => ⟨_, rfl, z0, ⟨by omega, by omega⟩, (by omega), i1, i2, rfl⟩), (fun h => absurd h (by decide)), (fun h => absurd h (by decide)), (fun h => absurd h (by decide))⟩
    · refine And.intro ⟨by omega, by omega⟩ ?_
      intro x47 hx47 kx47 lx47
      refine And.intro ⟨by omega, by omega⟩ (And.intro (fun c48 => ?_) (fun c48 => ?_))
      · refine And.intro ⟨by omega, by omega⟩ (And.intro ⟨by omega, by omega⟩ ?_)
        intro m49 em49
        have z50 := zfx_r z0 em49 rfl (by decide)
        have w51 : m49.1 66 ((20 : Nat) : Int) = g44 := by rw [em49]; exact (congrFun (zu_ne (by decide)) _).trans wg44
        have w52 : m49.1 66 ((21 : Nat) : Int) = g45 := by rw [em49]; exact (congrFun (zu_ne (by decide)) _).trans wg45
        refine Exists.intro (Int.toNat (18446744073709551616 * 6 + (2147483648 - (v1 + 1)))) (And.intro (by (try rw [w51]) <;> (try rw [w52]) <;> (try rw [wg44]) <;> (try rw [wg45]) <;> (try rw [wg1]) <;> (try rw [wg2]) <;> omega) ?_)
        exact ⟨(fun h => absurd h (by decide)), (fun h => absurd h (by decide)), (fun h => absurd h (by decide)), (fun h => absurd h (by decide)), (fun h => absurd h (by decide)), (fun _ => ⟨_, rfl, z50, ⟨by omega, by omega⟩, (by rw [em49, zu_ne (show (66 : Nat) ≠ 87 by decide)]; omega), (fun x a b => by rw [em49, zu_ne (show (66 : Nat) ≠ 87 by decide), zu_ne (show (98 : Nat) ≠ 87 by decide)]; exact i1 x a b), (fun x a b => by rw [em49, zu_ne (show (66 : Nat) ≠ 87 by decide), zu_ne (show (105 : Nat) ≠ 87 by decide)]; exact i2 x a b), rfl⟩), (fun h => absurd h (by decide)), (fun h => absurd h (by decide)), (fun h => absurd h (by decide)), (fun h => absurd h (by decide))⟩
      · refine And.intro ⟨by omega, by omega⟩ (And.intro ⟨by omega, by omega⟩ ?_)
        intro m53 em53
        have z54 := zfx_r z0 em53 rfl (by decide)
        have w55 : m53.1 66 ((20 : Nat) : Int) = g44 := by rw [em53]; exact (congrFun (zu_ne (by decide)) _).trans wg44
        have w56 : m53.1 66 ((21 : Nat) : Int) = g45 := by rw [em53]; exact (congrFun (zu_ne (by decide)) _).trans wg45
        refine Exists.intro (Int.toNat (18446744073709551616 * 6 + (2147483648 - (v1 + 1)))) (And.intro (by (try rw [w55]) <;> (try rw [w56]) <;> (try rw [wg44]) <;> (try rw [wg45]) <;> (try rw [wg1]) <;> (try rw [wg2]) <;> omega) ?_)
        exact ⟨(fun h => absurd h (by decide)), (fun h => absurd h (by decide)), (fun h => absurd h (by decide)), (fun h => absurd h (by decide)), (fun h => absurd h (by decide)), (fun _ => ⟨_, rfl, z54, ⟨by omega, by omega⟩, (by rw [em53, zu_ne (show (66 : Nat) ≠ 87 by decide)]; omega), (fun x a b => by rw [em53, zu_ne (show (66 : Nat) ≠ 87 by decide), zu_ne (show (98 : Nat) ≠ 87 by decide)]; exact i1 x a b), (fun x a b => by rw [em53, zu_ne (show (66 : Nat) ≠ 87 by decide), zu_ne (show (105 : Nat) ≠ 87 by decide)]; exact i2 x a b), rfl⟩), (fun h => absurd h (by decide)), (fun h => absurd h (by decide)), (fun h => absurd h (by decide)), (fun h => absurd h (by decide))⟩
  · intro vs m0 n hI
    replace hI := hI.2.2.2.2.2.2.1 rfl
    clear z0
    obtain ⟨v1, rfl, z0, hv1, i0, i1, i2, rfl⟩ := hI
    obtain ⟨g57, wg57⟩ : ∃ z : Int, m0.1 66 ((20 : Nat) : Int) = z := ⟨_, rfl⟩
    obtain ⟨g58, wg58⟩ : ∃ z : Int, m0.1 66 ((21 : Nat) : Int) = z := ⟨_, rfl⟩
    intro x59 hx59 kx59 lx59
    rw [wg58] at hx59
    refine And.intro ⟨⟨by omega, by omega⟩, ⟨by omega, by omega⟩⟩ (And.intro (fun c60 => ?_) (fun c60 => ?_))
    · refine And.intro ⟨by omega, by omega⟩ ?_
      intro m61 em61
      have z62 := zfx_f z0 em61 rfl
      have w63 : m61.1 66 ((20 : Nat) : Int) = g57 := by rw [em61]; exact (zu_nk (by decide)).trans wg57
      have w64 : m61.1 66 ((21 : Nat) : Int) = g58 := by rw [em61]; exact (zu_nk (by decide)).trans wg58
      refine Exists.intro (Int.toNat (2147483648 - 0)) (And.intro (by (try rw [w63]) <;> (try rw [w64]) <;> (try rw [wg57]) <;> (try rw [wg58]) <;> (try rw [wg1]) <;> (try rw [wg2]) <;> omega) ?_)
      exact ⟨(fun h => absurd h (by decide)), (fun h => absurd h (by decide)), (fun h => absurd h (by decide)), (fun h => absurd h (by decide)), (fun h => absurd h (by decide)), (fun h => absurd h (by decide)), (fun h => absurd h (by decide)), (fun h => absurd h (by decide)), (fun h => absurd h (by decide)), (fun _ => ⟨_, rfl, z62, ⟨by omega, by omega⟩, (by rw [em61, zu_nk (by decide), zu_nk (by decide)]; omega), (fun x a b => by rw [em61, zu_ne (by decide), zu_nk (by decide)]; exact i1 x a b), (fun x a b => by rw [em61, zu_ne (by decide), zu_nk (by decide)]; exact i2 x a b), rfl⟩)⟩
    · refine Exists.intro (Int.toNat (18446744073709551616 * 5 + (81 - v1) * 4294967296 + (81 - 0) * 1000 + 999)) (And.intro (by (try rw [wg57]) <;> (try rw [wg58]) <;> (try rw [wg1]) <;> (try rw [wg2]) <;> omega) ?_)
      exact ⟨(fun h => absurd h (by decide)), (fun h => absurd h (by decide)), (fun h => absurd h (by decide)), (fun h => absurd h (by decide)), (fun h => absurd h (by decide)), (fun h => absurd h (by decide)), (fun h => absurd h (by decide)), (fun _ => ⟨_, _, rfl, z0, ⟨by omega, by omega⟩, ⟨by omega, by omega⟩, (by omega), i1, i2, rfl⟩), (fun h => absurd h (by decide)), (fun h => absurd h (by decide))⟩
  · intro vs m0 n hI
    replace hI := hI.2.2.2.2.2.2.2.1 rfl
    clear z0
    obtain ⟨v1, v2, rfl, z0, hv1, hv2, i0, i1, i2, rfl⟩ := hI
    obtain ⟨g65, wg65⟩ : ∃ z : Int, m0.1 66 ((20 : Nat) : Int) = z := ⟨_, rfl⟩
    obtain ⟨g66, wg66⟩ : ∃ z : Int, m0.1 66 ((21 : Nat) : Int) = z := ⟨_, rfl⟩
    intro x67 hx67 kx67 lx67
    rw [wg66] at hx67
    refine And.intro ⟨⟨by omega, by omega⟩, ⟨by omega, by omega⟩⟩ (And.intro (fun c68 => ?_) (fun c68 => ?_))
    · refine Exists.intro (Int.toNat (18446744073709551616 * 5 + (81 - (v1 + 1)) * 4294967296 + 4294967295)) (And.intro (by (try rw [wg65]) <;> (try rw [wg66]) <;> (try rw [wg1]) <;> (try rw [wg2]) <;> omega) ?_)
      exact ⟨(fun h => absurd h (by decide)), (fun h => absurd h (by decide)), (fun h => absurd h (by decide)), (fun h => absurd h (by decide)), (fun h => absurd h (by decide)), (fun h => absurd h (by decide)), (fun _ => ⟨_, rfl, z0, ⟨by omega, by omega⟩, (by omega), i1, i2, rfl⟩), (fun h => absurd h (by decide)), (fun h => absurd h (by decide)), (fun h => absurd h (by decide))⟩
    · refine Exists.intro (Int.toNat (18446744073709551616 * 5 + (81 - v1) * 4294967296 + (81 - v2) * 1000 + (81 - 0))) (And.intro (by (try rw [wg65]) <;> (try rw [wg66]) <;> (try rw [wg1]) <;> (try rw [wg2]) <;> omega) ?_)
      exact ⟨(fun h => absurd h (by decide)), (fun h => absurd h (by decide)), (fun h => absurd h (by decide)), (fun h => absurd h (by decide)), (fun h => absurd h (by decide)), (fun h => absurd h (by decide)), (fun h => absurd h (by decide)), (fun h => absurd h (by decide)), (fun _ => ⟨_, _, _, rfl, z0, ⟨by omega, by omega⟩, ⟨by omega, by omega⟩, ⟨by omega, by omega⟩, (by omega), i1, i2, rfl⟩), (fun h => absurd h (by decide))⟩
  · intro vs m0 n hI
    replace hI := hI.2.2.2.2.2.2.2.2.1 rfl
    clear z0
    obtain ⟨v1, v2, v3, rfl, z0, hv1, hv2, hv3, i0, i1, i2, rfl⟩ := hI
    obtain ⟨g69, wg69⟩ : ∃ z : Int, m0.1 66 ((20 : Nat) : Int) = z := ⟨_, rfl⟩
    obtain ⟨g70, wg70⟩ : ∃ z : Int, m0.1 66 ((21 : Nat) : Int) = z := ⟨_, rfl⟩
    intro x71 hx71 kx71 lx71
    rw [wg70] at hx71
    refine And.intro ⟨⟨by omega, by omega⟩, ⟨by omega, by omega⟩⟩ (And.intro (fun c72 => ?_) (fun c72 => ?_))
    · refine Exists.intro (Int.toNat (18446744073709551616 * 5 + (81 - v1) * 4294967296 + (81 - (v2 + 1)) * 1000 + 999)) (And.intro (by (try rw [wg69]) <;> (try rw [wg70]) <;> (try rw [wg1]) <;> (try rw [wg2]) <;> omega) ?_)
      exact ⟨(fun h => absurd h (by decide)), (fun h => absurd h (by decide)), (fun h => absurd h (by decide)), (fun h => absurd h (by decide)), (fun h => absurd h (by decide)), (fun h => absurd h (by decide)), (fun h => absurd h (by decide)), (fun _ => ⟨_, _, rfl, z0, ⟨by omega, by omega⟩, ⟨by omega, by omega⟩, (by omega), i1, i2, rfl⟩), (fun h => absurd h (by decide)), (fun h => absurd h (by decide))⟩
    · refine And.intro ⟨by omega, by omega⟩ ?_
      intro x73 hx73 kx73 lx73
      refine And.intro ⟨by omega, by omega⟩ (And.intro (fun c74 => ?_) (fun c74 => ?_))
      · refine And.intro ⟨by omega, by omega⟩ (And.intro ⟨by omega, by omega⟩ ?_)
        intro m75 em75
        have z76 := zfx_r z0 em75 rfl (by decide)
        have w77 : m75.1 66 ((20 : Nat) : Int) = g69 := by rw [em75]; exact (congrFun (zu_ne (by decide)) _).trans wg69
        have w78 : m75.1 66 ((21 : Nat) : Int) = g70 := by rw [em75]; exact (congrFun (zu_ne (by decide)) _).trans wg70
        refine Exists.intro (Int.toNat (18446744073709551616 * 5 + (81 - v1) * 4294967296 + (81 - v2) * 1000 + (81 - (v3 + 1)))) (And.intro (by (try rw [w77]) <;> (try rw [w78]) <;> (try rw [wg69]) <;> (try rw [wg70]) <;> (try rw [wg1]) <;> (try rw [wg2]) <;> omega) ?_)
        exact ⟨(fun h => absurd h (by decide)), (fun h => absurd h (by decide)), (fun h => absurd h (by decide)), (fun h => absurd h (by decide)), (fun h => absurd h (by decide)), (fun h => absurd h (by decide)), (fun h => absurd h (by decide)), (fun h => absurd h (by decide)), (fun _ => ⟨_, _, _, rfl, z76, ⟨by omega, by omega⟩, ⟨by omega, by omega⟩, ⟨by omega, by omega⟩, (by rw [em75, zu_ne (show (66 : Nat) ≠ 87 by decide)]; omega), (fun x a b => by rw [em75, zu_ne (show (66 : Nat) ≠ 87 by decide), zu_ne (show (98 : Nat) ≠ 87 by decide)]; exact i1 x a b), (fun x a b => by rw [em75, zu_ne (show (66 : Nat) ≠ 87 by decide), zu_ne (show (105 : Nat) ≠ 87 by decide)]; exact i2 x a b), rfl⟩), (fun h => absurd h (by decide))⟩
      · refine And.intro ⟨by omega, by omega⟩ ?_
        intro x79 hx79 kx79 lx79
        refine And.intro ⟨by omega, by omega⟩ (And.intro (fun c80 => ?_) (fun c80 => ?_))
        · refine And.intro ⟨by omega, by omega⟩ (And.intro ⟨by omega, by omega⟩ ?_)
          intro m81 em81
          have z82 := zfx_r z0 em81 rfl (by decide)
          have w83 : m81.1 66 ((20 : Nat) : Int) = g69 := by rw [em81]; exact (congrFun (zu_ne (by decide)) _).trans wg69
          have w84 : m81.1 66 ((21 : Nat) : Int) = g70 := by rw [em81]; exact (congrFun (zu_ne (by decide)) _).trans wg70
          refine Exists.intro (Int.toNat (18446744073709551616 * 5 + (81 - v1) * 4294967296 + (81 - v2) * 1000 + (81 - (v3 + 1)))) (And.intro (by (try rw [w83]) <;> (try rw [w84]) <;> (try rw [wg69]) <;> (try rw [wg70]) <;> (try rw [wg1]) <;> (try rw [wg2]) <;> omega) ?_)
          exact ⟨(fun h => absurd h (by decide)), (fun h => absurd h (by decide)), (fun h => absurd h (by decide)), (fun h => absurd h (by decide)), (fun h => absurd h (by decide)), (fun h => absurd h (by decide)), (fun h => absurd h (by decide)), (fun h => absurd h (by decide)), (fun _ => ⟨_, _, _, rfl, z82, ⟨by omega, by omega⟩, ⟨by omega, by omega⟩, ⟨by omega, by omega⟩, (by rw [em81, zu_ne (show (66 : Nat) ≠ 87 by decide)]; omega), (fun x a b => by rw [em81, zu_ne (show (66 : Nat) ≠ 87 by decide), zu_ne (show (98 : Nat) ≠ 87 by decide)]; exact i1 x a b), (fun x a b => by rw [em81, zu_ne (show (66 : Nat) ≠ 87 by decide), zu_ne (show (105 : Nat) ≠ 87 by decide)]; exact i2 x a b), rfl⟩), (fun h => absurd h (by decide))⟩
        · refine And.intro ⟨by omega, by omega⟩ ?_
          intro x85 hx85 kx85 lx85
          refine And.intro ⟨by omega, by omega⟩ (And.intro (fun c86 => ?_) (fun c86 => ?_))
          · refine And.intro ⟨by omega, by omega⟩ (And.intro ⟨by omega, by omega⟩ ?_)
            intro m87 em87
            have z88 := zfx_r z0 em87 rfl (by decide)
            have w89 : m87.1 66 ((20 : Nat) : Int) = g69 := by rw [em87]; exact (congrFun (zu_ne (by decide)) _).trans wg69
            have w90 : m87.1 66 ((21 : Nat) : Int) = g70 := by rw [em87]; exact (congrFun (zu_ne (by decide)) _).trans wg70
            refine Exists.intro (Int.toNat (18446744073709551616 * 5 + (81 - v1) * 4294967296 + (81 - v2) * 1000 + (81 - (v3 + 1)))) (And.intro (by (try rw [w89]) <;> (try rw [w90]) <;> (try rw [wg69]) <;> (try rw [wg70]) <;> (try rw [wg1]) <;> (try rw [wg2]) <;> omega) ?_)
            exact ⟨(fun h => absurd h (by decide)), (fun h => absurd h (by decide)), (fun h => absurd h (by decide)), (fun h => absurd h (by decide)), (fun h => absurd h (by decide)), (fun h => absurd h (by decide)), (fun h => absurd h (by decide)), (fun h => absurd h (by decide)), (fun _ => ⟨_, _, _, rfl, z88, ⟨by omega, by omega⟩, ⟨by omega, by omega⟩, ⟨by omega, by omega⟩, (by rw [em87, zu_ne (show (66 : Nat) ≠ 87 by decide)]; omega), (fun x a b => by rw [em87, zu_ne (show (66 : Nat) ≠ 87 by decide), zu_ne (show (98 : Nat) ≠ 87 by decide)]; exact i1 x a b), (fun x a b => by rw [em87, zu_ne (show (66 : Nat) ≠ 87 by decide), zu_ne (show (105 : Nat) ≠ 87 by decide)]; exact i2 x a b), rfl⟩), (fun h => absurd h (by decide))⟩
          · refine And.intro ⟨by omega, by omega⟩ (And.intro ⟨by omega, by omega⟩ ?_)
            intro m91 em91
            have z92 := zfx_r z0 em91 rfl (by decide)
            have w93 : m91.1 66 ((20 : Nat) : Int) = g69 := by rw [em91]; exact (congrFun (zu_ne (by decide)) _).trans wg69
            have w94 : m91.1 66 ((21 : Nat) : Int) = g70 := by rw [em91]; exact (congrFun (zu_ne (by decide)) _).trans wg70
            refine Exists.intro (Int.toNat (18446744073709551616 * 5 + (81 - v1) * 4294967296 + (81 - v2) * 1000 + (81 - (v3 + 1)))) (And.intro (by (try rw [w93]) <;> (try rw [w94]) <;> (try rw [wg69]) <;> (try rw [wg70]) <;> (try rw [wg1]) <;> (try rw [wg2]) <;> omega) ?_)
            exact ⟨(fun h => absurd h (by decide)), (fun h => absurd h (by decide)), (fun h => absurd h (by decide)), (fun h => absurd h (by decide)), (fun h => absurd h (by decide)), (fun h => absurd h (by decide)), (fun h => absurd h (by decide)), (fun h => absurd h (by decide)), (fun _ => ⟨_, _, _, rfl, z92, ⟨by omega, by omega⟩, ⟨by omega, by omega⟩, ⟨by omega, by omega⟩, (by rw [em91, zu_ne (show (66 : Nat) ≠ 87 by decide)]; omega), (fun x a b => by rw [em91, zu_ne (show (66 : Nat) ≠ 87 by decide), zu_ne (show (98 : Nat) ≠ 87 by decide)]; exact i1 x a b), (fun x a b => by rw [em91, zu_ne (show (66 : Nat) ≠ 87 by decide), zu_ne (show (105 : Nat) ≠ 87 by decide)]; exact i2 x a b), rfl⟩), (fun h => absurd h (by decide))⟩
  · intro vs m0 n hI
    replace hI := hI.2.2.2.2.2.2.2.2.2 rfl
    clear z0
    obtain ⟨v1, rfl, z0, hv1, i0, i1, i2, rfl⟩ := hI
    obtain ⟨g95, wg95⟩ : ∃ z : Int, m0.1 66 ((20 : Nat) : Int) = z := ⟨_, rfl⟩
    obtain ⟨g96, wg96⟩ : ∃ z : Int, m0.1 66 ((21 : Nat) : Int) = z := ⟨_, rfl⟩
    intro x97 hx97 kx97 lx97
    rw [wg96] at hx97
    refine And.intro ⟨⟨by omega, by omega⟩, ⟨by omega, by omega⟩⟩ (And.intro (fun c98 => ?_) (fun c98 => ?_))
    · exact And.intro rfl (hQ _ z0 (by omega) (by omega) i1 i2)
    · intro x99 hx99 kx99 lx99
      refine And.intro ⟨by omega, by omega⟩ (And.intro (fun c100 => ?_) (fun c100 => ?_))
      · refine And.intro ⟨by omega, by omega⟩ ?_
        intro m101 em101
        have z102 := zfx_f z0 em101 rfl
        have w103 : m101.1 66 ((20 : Nat) : Int) = g95 := by rw [em101]; exact (zu_nk (by decide)).trans wg95
        have w104 : m101.1 66 ((21 : Nat) : Int) = g96 := by rw [em101]; exact (zu_nk (by decide)).trans wg96
        refine Exists.intro (Int.toNat (2147483648 - (v1 + 1))) (And.intro (by (try rw [w103]) <;> (try rw [w104]) <;> (try rw [wg95]) <;> (try rw [wg96]) <;> (try rw [wg1]) <;> (try rw [wg2]) <;> omega) ?_)
        exact ⟨(fun h => absurd h (by decide)), (fun h => absurd h (by decide)), (fun h => absurd h (by decide)), (fun h => absurd h (by decide)), (fun h => absurd h (by decide)), (fun h => absurd h (by decide)), (fun h => absurd h (by decide)), (fun h => absurd h (by decide)), (fun h => absurd h (by decide)), (fun _ => ⟨_, rfl, z102, ⟨by omega, by omega⟩, (by rw [em101, zu_nk (by decide), zu_nk (by decide)]; omega), (fun x a b => by rw [em101, zu_ne (by decide), zu_nk (by decide)]; exact i1 x a b), (fun x a b => by rw [em101, zu_ne (by decide), zu_nk (by decide)]; exact i2 x a b), rfl⟩)⟩
      · refine ⟨zk_X9_isOnGrowing, zm_X9_isOnGrowing hg d (by omega), _, rfl, ⟨by omega, by omega⟩, ?_⟩
        intro x105 kx105 lx105
        refine And.intro ⟨by omega, by omega⟩ (And.intro (fun c106 => ?_) (fun c106 => ?_))
        · refine And.intro ⟨by omega, by omega⟩ ?_
          intro m107 em107
          have z108 := zfx_f z0 em107 rfl
          have w109 : m107.1 66 ((20 : Nat) : Int) = g95 := by rw [em107]; exact (zu_nk (by decide)).trans wg95
          have w110 : m107.1 66 ((21 : Nat) : Int) = g96 := by rw [em107]; exact (zu_nk (by decide)).trans wg96
          refine Exists.intro (Int.toNat (2147483648 - (v1 + 1))) (And.intro (by (try rw [w109]) <;> (try rw [w110]) <;> (try rw [wg95]) <;> (try rw [wg96]) <;> (try rw [wg1]) <;> (try rw [wg2]) <;> omega) ?_)
          exact ⟨(fun h => absurd h (by decide)), (fun h => absurd h (by decide)), (fun h => absurd h (by decide)), (fun h => absurd h (by decide)), (fun h => absurd h (by decide)), (fun h => absurd h (by decide)), (fun h => absurd h (by decide)), (fun h => absurd h (by decide)), (fun h => absurd h (by decide)), (fun _ => ⟨_, rfl, z108, ⟨by omega, by omega⟩, (by rw [em107, zu_nk (by decide), zu_nk (by decide)]; omega), (fun x a b => by rw [em107, zu_ne (by decide), zu_nk (by decide)]; exact i1 x a b), (fun x a b => by rw [em107, zu_ne (by decide), zu_nk (by decide)]; exact i2 x a b), rfl⟩)⟩
        · refine And.intro ⟨by omega, by omega⟩ ?_
          intro m111 em111
          have z112 := zfx_f z0 em111 rfl
          have w113 : m111.1 66 ((20 : Nat) : Int) = g95 := by rw [em111]; exact (zu_nk (by decide)).trans wg95
          have w114 : m111.1 66 ((21 : Nat) : Int) = g96 := by rw [em111]; exact (zu_nk (by decide)).trans wg96
          refine Exists.intro (Int.toNat (2147483648 - (v1 + 1))) (And.intro (by (try rw [w113]) <;> (try rw [w114]) <;> (try rw [wg95]) <;> (try rw [wg96]) <;> (try rw [wg1]) <;> (try rw [wg2]) <;> omega) ?_)
          exact ⟨(fun h => absurd h (by decide)), (fun h => absurd h (by decide)), (fun h => absurd h (by decide)), (fun h => absurd h (by decide)), (fun h => absurd h (by decide)), (fun h => absurd h (by decide)), (fun h => absurd h (by decide)), (fun h => absurd h (by decide)), (fun h => absurd h (by decide)), (fun _ => ⟨_, rfl, z112, ⟨by omega, by omega⟩, (by rw [em111, zu_nk (by decide), zu_nk (by decide)]; omega), (fun x a b => by rw [em111, zu_ne (by decide), zu_nk (by decide)]; exact i1 x a b), (fun x a b => by rw [em111, zu_ne (by decide), zu_nk (by decide)]; exact i2 x a b), rfl⟩)⟩
