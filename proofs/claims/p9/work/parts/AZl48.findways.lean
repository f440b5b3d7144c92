def yk_X9_findWays : zC := fun As μ Q => ∃ (C : Int) (Pn : Int) (tt : Int), As = [.inr (.inr (66, 66))] ∧ (∀ x : Int, 0 ≤ x → x < tt → zNd μ x) ∧ (zTb μ C Pn tt) ∧ (zWf μ 0 tt C Pn 0 (μ.1 77)) ∧ ((∀ x : Int, 0 ≤ x → x < 20000 → μ.1 98 x ≤ μ.1 66 ((60 : Nat) : Int)) ∧ ∀ x : Int, 0 ≤ x → x < 20000 → μ.1 105 x ≤ μ.1 66 ((68 : Nat) : Int)) ∧ ((0 ≤ μ.1 66 ((60 : Nat) : Int) ∧ μ.1 66 ((60 : Nat) : Int) ≤ 1999000000) ∧ 0 ≤ μ.1 66 ((68 : Nat) : Int) ∧ μ.1 66 ((68 : Nat) : Int) ≤ 1999000000) ∧ (C = μ.1 66 ((20 : Nat) : Int) ∧ Pn = μ.1 66 ((21 : Nat) : Int)) ∧ (∀ (μ' : zM), zfx [86, 87, 98, 99, 105, 106] [41, 60, 68] μ μ' → (μ.1 66 ((60 : Nat) : Int) ≤ μ'.1 66 ((60 : Nat) : Int) ∧ μ'.1 66 ((60 : Nat) : Int) ≤ μ.1 66 ((60 : Nat) : Int) + 300000) → (μ.1 66 ((68 : Nat) : Int) ≤ μ'.1 66 ((68 : Nat) : Int) ∧ μ'.1 66 ((68 : Nat) : Int) ≤ μ.1 66 ((68 : Nat) : Int) + 300) → (∀ x : Int, 0 ≤ x → x < 20000 → μ'.1 98 x ≤ μ'.1 66 ((60 : Nat) : Int)) → (∀ x : Int, 0 ≤ x → x < 20000 → μ'.1 105 x ≤ μ'.1 66 ((68 : Nat) : Int)) → (fG μ μ' (fT μ C 0 Pn 0)) → Q none μ')
set_option maxHeartbeats 4000000 in
theorem ym_X9_findWays {g : zΓ} (hg : zg g) (d : Nat) (hd : 3 ≤ d) : zOk g d 154 yk_X9_findWays := by
  obtain ⟨d, rfl⟩ : ∃ d', d = d' + 1 := ⟨d - 1, by omega⟩
  refine zOk_loop hg (show mt_tab[154]? = some mt_X9_findWays from rfl) ([(2, [0, 1]), (24, [0, 1]), (34, [0, 1, 2]), (72, [0, 1]), (82, [0, 1, 2]), (120, [0, 1]), (155, [0, 1]), (165, [0, 1, 2]), (175, [0, 1, 2, 3]), (266, [0, 1])], []) 178 rfl fun As μ Q hC => ?_
  obtain ⟨C, Pn, tt, rfl, hp0, hp1, hp2, hp3, hp4, hp5, hQ⟩ := hC
  have HB := hp1.1
  obtain ⟨g1, wg1⟩ : ∃ z : Int, μ.1 66 ((20 : Nat) : Int) = z := ⟨_, rfl⟩
  obtain ⟨g2, wg2⟩ : ∃ z : Int, μ.1 66 ((21 : Nat) : Int) = z := ⟨_, rfl⟩
  have z0 : zfx [86, 87, 98, 99, 105, 106] [41, 60, 68] μ μ := zfx_x μ
  refine ⟨rfl, fun pc vs μ' n => (pc = 2 → ∃ (v1 : Int), vs = [.inr (.inr (66, 66)), .inl v1] ∧ zfx [86, 87, 98, 99, 105, 106] [41, 60, 68] μ μ' ∧ (0 ≤ v1 ∧ v1 ≤ 6400) ∧ ((μ.1 66 ((60 : Nat) : Int) ≤ μ'.1 66 ((60 : Nat) : Int) ∧ μ'.1 66 ((60 : Nat) : Int) ≤ μ.1 66 ((60 : Nat) : Int) + 1200 * 0) ∧ (μ.1 66 ((68 : Nat) : Int) ≤ μ'.1 66 ((68 : Nat) : Int) ∧ μ'.1 66 ((68 : Nat) : Int) ≤ μ.1 66 ((68 : Nat) : Int) + 0)) ∧ (∀ x : Int, 0 ≤ x → x < 20000 → μ'.1 98 x ≤ μ'.1 66 ((60 : Nat) : Int)) ∧ (∀ x : Int, 0 ≤ x → x < 20000 → μ'.1 105 x ≤ μ'.1 66 ((68 : Nat) : Int)) ∧ (∀ w : Int, 0 ≤ w → w < v1 → μ'.1 86 w = 0) ∧ n = (Int.toNat (18446744073709551616 * 9 + (2147483648 - v1)))) ∧ (pc = 24 → ∃ (v1 : Int), vs = [.inr (.inr (66, 66)), .inl v1] ∧ zfx [86, 87, 98, 99, 105, 106] [41, 60, 68] μ μ' ∧ (0 ≤ v1 ∧ v1 ≤ 21) ∧ ((μ.1 66 ((60 : Nat) : Int) ≤ μ'.1 66 ((60 : Nat) : Int) ∧ μ'.1 66 ((60 : Nat) : Int) ≤ μ.1 66 ((60 : Nat) : Int) + 1200 * (4 * v1)) ∧ (μ.1 66 ((68 : Nat) : Int) ≤ μ'.1 66 ((68 : Nat) : Int) ∧ μ'.1 66 ((68 : Nat) : Int) ≤ μ.1 66 ((68 : Nat) : Int) + (4 * v1))) ∧ (∀ x : Int, 0 ≤ x → x < 20000 → μ'.1 98 x ≤ μ'.1 66 ((60 : Nat) : Int)) ∧ (∀ x : Int, 0 ≤ x → x < 20000 → μ'.1 105 x ≤ μ'.1 66 ((68 : Nat) : Int)) ∧ (fG μ μ' (fT μ v1 0 0 0) ∧ v1 ≤ C) ∧ n = (Int.toNat (18446744073709551616 * 8 + (21 - v1) * 4294967296 + 4294967295))) ∧ (pc = 34 → ∃ (v1 : Int) (v2 : Int), vs = [.inr (.inr (66, 66)), .inl v1, .inl v2] ∧ zfx [86, 87, 98, 99, 105, 106] [41, 60, 68] μ μ' ∧ (0 ≤ v1 ∧ v1 ≤ 20) ∧ (0 ≤ v2 ∧ v2 ≤ 4) ∧ ((μ.1 66 ((60 : Nat) : Int) ≤ μ'.1 66 ((60 : Nat) : Int) ∧ μ'.1 66 ((60 : Nat) : Int) ≤ μ.1 66 ((60 : Nat) : Int) + 1200 * (4 * v1 + v2)) ∧ (μ.1 66 ((68 : Nat) : Int) ≤ μ'.1 66 ((68 : Nat) : Int) ∧ μ'.1 66 ((68 : Nat) : Int) ≤ μ.1 66 ((68 : Nat) : Int) + (4 * v1 + v2))) ∧ (∀ x : Int, 0 ≤ x → x < 20000 → μ'.1 98 x ≤ μ'.1 66 ((60 : Nat) : Int)) ∧ (∀ x : Int, 0 ≤ x → x < 20000 → μ'.1 105 x ≤ μ'.1 66 ((68 : Nat) : Int)) ∧ (v1 < μ.1 66 ((20 : Nat) : Int)) ∧ (fG μ μ' (fT μ v1 v2 0 0)) ∧ n = (Int.toNat (18446744073709551616 * 8 + (21 - v1) * 4294967296 + (2147483648 - v2)))) ∧ (pc = 72 → ∃ (v1 : Int), vs = [.inr (.inr (66, 66)), .inl v1] ∧ zfx [86, 87, 98, 99, 105, 106] [41, 60, 68] μ μ' ∧ (0 ≤ v1 ∧ v1 ≤ 80) ∧ ((μ.1 66 ((60 : Nat) : Int) ≤ μ'.1 66 ((60 : Nat) : Int) ∧ μ'.1 66 ((60 : Nat) : Int) ≤ μ.1 66 ((60 : Nat) : Int) + 1200 * (84 + 2 * v1)) ∧ (μ.1 66 ((68 : Nat) : Int) ≤ μ'.1 66 ((68 : Nat) : Int) ∧ μ'.1 66 ((68 : Nat) : Int) ≤ μ.1 66 ((68 : Nat) : Int) + (84 + 2 * v1))) ∧ (∀ x : Int, 0 ≤ x → x < 20000 → μ'.1 98 x ≤ μ'.1 66 ((60 : Nat) : Int)) ∧ (∀ x : Int, 0 ≤ x → x < 20000 → μ'.1 105 x ≤ μ'.1 66 ((68 : Nat) : Int)) ∧ (fG μ μ' (fT μ C 0 v1 0) ∧ v1 ≤ Pn) ∧ n = (Int.toNat (18446744073709551616 * 7 + (81 - v1) * 4294967296 + 4294967295))) ∧ (pc = 82 → ∃ (v1 : Int) (v2 : Int), vs = [.inr (.inr (66, 66)), .inl v1, .inl v2] ∧ zfx [86, 87, 98, 99, 105, 106] [41, 60, 68] μ μ' ∧ (0 ≤ v1 ∧ v1 ≤ 79) ∧ (0 ≤ v2 ∧ v2 ≤ 2) ∧ ((μ.1 66 ((60 : Nat) : Int) ≤ μ'.1 66 ((60 : Nat) : Int) ∧ μ'.1 66 ((60 : Nat) : Int) ≤ μ.1 66 ((60 : Nat) : Int) + 1200 * (84 + 2 * v1 + v2)) ∧ (μ.1 66 ((68 : Nat) : Int) ≤ μ'.1 66 ((68 : Nat) : Int) ∧ μ'.1 66 ((68 : Nat) : Int) ≤ μ.1 66 ((68 : Nat) : Int) + (84 + 2 * v1 + v2))) ∧ (∀ x : Int, 0 ≤ x → x < 20000 → μ'.1 98 x ≤ μ'.1 66 ((60 : Nat) : Int)) ∧ (∀ x : Int, 0 ≤ x → x < 20000 → μ'.1 105 x ≤ μ'.1 66 ((68 : Nat) : Int)) ∧ (v1 < μ.1 66 ((21 : Nat) : Int)) ∧ (fG μ μ' (fT μ C 0 v1 v2)) ∧ n = (Int.toNat (18446744073709551616 * 7 + (81 - v1) * 4294967296 + (2147483648 - v2)))) ∧ (pc = 120 → ∃ (v1 : Int), vs = [.inr (.inr (66, 66)), .inl v1] ∧ zfx [86, 87, 98, 99, 105, 106] [41, 60, 68] μ μ' ∧ (0 ≤ v1 ∧ v1 ≤ 6400) ∧ ((μ.1 66 ((60 : Nat) : Int) ≤ μ'.1 66 ((60 : Nat) : Int) ∧ μ'.1 66 ((60 : Nat) : Int) ≤ μ.1 66 ((60 : Nat) : Int) + 1200 * 244) ∧ (μ.1 66 ((68 : Nat) : Int) ≤ μ'.1 66 ((68 : Nat) : Int) ∧ μ'.1 66 ((68 : Nat) : Int) ≤ μ.1 66 ((68 : Nat) : Int) + 244)) ∧ (∀ x : Int, 0 ≤ x → x < 20000 → μ'.1 98 x ≤ μ'.1 66 ((60 : Nat) : Int)) ∧ (∀ x : Int, 0 ≤ x → x < 20000 → μ'.1 105 x ≤ μ'.1 66 ((68 : Nat) : Int)) ∧ (fG μ μ' (fT μ C 0 Pn 0)) ∧ n = (Int.toNat (18446744073709551616 * 6 + (2147483648 - v1)))) ∧ (pc = 155 → ∃ (v1 : Int), vs = [.inr (.inr (66, 66)), .inl v1] ∧ zfx [86, 87, 98, 99, 105, 106] [41, 60, 68] μ μ' ∧ (0 ≤ v1 ∧ v1 ≤ 80) ∧ ((μ.1 66 ((60 : Nat) : Int) ≤ μ'.1 66 ((60 : Nat) : Int) ∧ μ'.1 66 ((60 : Nat) : Int) ≤ μ.1 66 ((60 : Nat) : Int) + 1200 * 244) ∧ (μ.1 66 ((68 : Nat) : Int) ≤ μ'.1 66 ((68 : Nat) : Int) ∧ μ'.1 66 ((68 : Nat) : Int) ≤ μ.1 66 ((68 : Nat) : Int) + 244)) ∧ (∀ x : Int, 0 ≤ x → x < 20000 → μ'.1 98 x ≤ μ'.1 66 ((60 : Nat) : Int)) ∧ (∀ x : Int, 0 ≤ x → x < 20000 → μ'.1 105 x ≤ μ'.1 66 ((68 : Nat) : Int)) ∧ (fG μ μ' (fT μ C 0 Pn 0)) ∧ n = (Int.toNat (18446744073709551616 * 5 + (81 - v1) * 4294967296 + 4294967295))) ∧ (pc = 165 → ∃ (v1 : Int) (v2 : Int), vs = [.inr (.inr (66, 66)), .inl v1, .inl v2] ∧ zfx [86, 87, 98, 99, 105, 106] [41, 60, 68] μ μ' ∧ (0 ≤ v1 ∧ v1 ≤ 79) ∧ (0 ≤ v2 ∧ v2 ≤ 80) ∧ ((μ.1 66 ((60 : Nat) : Int) ≤ μ'.1 66 ((60 : Nat) : Int) ∧ μ'.1 66 ((60 : Nat) : Int) ≤ μ.1 66 ((60 : Nat) : Int) + 1200 * 244) ∧ (μ.1 66 ((68 : Nat) : Int) ≤ μ'.1 66 ((68 : Nat) : Int) ∧ μ'.1 66 ((68 : Nat) : Int) ≤ μ.1 66 ((68 : Nat) : Int) + 244)) ∧ (∀ x : Int, 0 ≤ x → x < 20000 → μ'.1 98 x ≤ μ'.1 66 ((60 : Nat) : Int)) ∧ (∀ x : Int, 0 ≤ x → x < 20000 → μ'.1 105 x ≤ μ'.1 66 ((68 : Nat) : Int)) ∧ (fG μ μ' (fT μ C 0 Pn 0)) ∧ n = (Int.toNat (18446744073709551616 * 5 + (81 - v1) * 4294967296 + (81 - v2) * 1000 + 999))) ∧ (pc = 175 → ∃ (v1 : Int) (v2 : Int) (v3 : Int), vs = [.inr (.inr (66, 66)), .inl v1, .inl v2, .inl v3] ∧ zfx [86, 87, 98, 99, 105, 106] [41, 60, 68] μ μ' ∧ (0 ≤ v1 ∧ v1 ≤ 79) ∧ (0 ≤ v2 ∧ v2 ≤ 79) ∧ (0 ≤ v3 ∧ v3 ≤ 80) ∧ ((μ.1 66 ((60 : Nat) : Int) ≤ μ'.1 66 ((60 : Nat) : Int) ∧ μ'.1 66 ((60 : Nat) : Int) ≤ μ.1 66 ((60 : Nat) : Int) + 1200 * 244) ∧ (μ.1 66 ((68 : Nat) : Int) ≤ μ'.1 66 ((68 : Nat) : Int) ∧ μ'.1 66 ((68 : Nat) : Int) ≤ μ.1 66 ((68 : Nat) : Int) + 244)) ∧ (∀ x : Int, 0 ≤ x → x < 20000 → μ'.1 98 x ≤ μ'.1 66 ((60 : Nat) : Int)) ∧ (∀ x : Int, 0 ≤ x → x < 20000 → μ'.1 105 x ≤ μ'.1 66 ((68 : Nat) : Int)) ∧ (fG μ μ' (fT μ C 0 Pn 0)) ∧ n = (Int.toNat (18446744073709551616 * 5 + (81 - v1) * 4294967296 + (81 - v2) * 1000 + (81 - v3)))) ∧ (pc = 266 → ∃ (v1 : Int), vs = [.inr (.inr (66, 66)), .inl v1] ∧ zfx [86, 87, 98, 99, 105, 106] [41, 60, 68] μ μ' ∧ (0 ≤ v1 ∧ v1 ≤ 80) ∧ ((μ.1 66 ((60 : Nat) : Int) ≤ μ'.1 66 ((60 : Nat) : Int) ∧ μ'.1 66 ((60 : Nat) : Int) ≤ μ.1 66 ((60 : Nat) : Int) + 1200 * 244) ∧ (μ.1 66 ((68 : Nat) : Int) ≤ μ'.1 66 ((68 : Nat) : Int) ∧ μ'.1 66 ((68 : Nat) : Int) ≤ μ.1 66 ((68 : Nat) : Int) + 244)) ∧ (∀ x : Int, 0 ≤ x → x < 20000 → μ'.1 98 x ≤ μ'.1 66 ((60 : Nat) : Int)) ∧ (∀ x : Int, 0 ≤ x → x < 20000 → μ'.1 105 x ≤ μ'.1 66 ((68 : Nat) : Int)) ∧ (fG μ μ' (fT μ C 0 Pn 0)) ∧ n = (Int.toNat (2147483648 - v1))), ?_, ?_, ?_, ?_, ?_, ?_, ?_, ?_, ?_, ?_, ?_, trivial⟩
  · refine Exists.intro (Int.toNat (18446744073709551616 * 9 + (2147483648 - 0))) ?_
    exact ⟨(fun _ => ⟨_, rfl, z0, ⟨by omega, by omega⟩, ⟨⟨Int.le_refl _, by omega⟩, Int.le_refl _, by omega⟩, hp3.1, hp3.2, (fun w a b => by omega), rfl⟩), (fun h => absurd h (by decide)), (fun h => absurd h (by decide)), (fun h => absurd h (by decide)), (fun h => absurd h (by decide)), (fun h => absurd h (by decide)), (fun h => absurd h (by decide)), (fun h => absurd h (by decide)), (fun h => absurd h (by decide)), (fun h => absurd h (by decide))⟩
  · intro vs m0 n hI
    replace hI := hI.1 rfl
    clear z0
    obtain ⟨v1, rfl, z0, hv1, i0, i1, i2, i3, rfl⟩ := hI
    obtain ⟨g3, wg3⟩ : ∃ z : Int, m0.1 66 ((20 : Nat) : Int) = z := ⟨_, rfl⟩
    obtain ⟨g4, wg4⟩ : ∃ z : Int, m0.1 66 ((21 : Nat) : Int) = z := ⟨_, rfl⟩
    refine And.intro ⟨⟨by omega, by omega⟩, ⟨by omega, by omega⟩⟩ (And.intro (fun c5 => ?_) (fun c5 => ?_))
    · refine Exists.intro (Int.toNat (18446744073709551616 * 8 + (21 - 0) * 4294967296 + 4294967295)) (And.intro (by (try rw [wg3]) <;> (try rw [wg4]) <;> (try rw [wg1]) <;> (try rw [wg2]) <;> omega) ?_)
      exact ⟨(fun h => absurd h (by decide)), (fun _ => ⟨_, rfl, z0, ⟨by omega, by omega⟩, (by omega), i1, i2, ⟨fG_eq (fG_0 (fun w a b => i3 w a (by omega))) (fun x => fT_0), by omega⟩, rfl⟩), (fun h => absurd h (by decide)), (fun h => absurd h (by decide)), (fun h => absurd h (by decide)), (fun h => absurd h (by decide)), (fun h => absurd h (by decide)), (fun h => absurd h (by decide)), (fun h => absurd h (by decide)), (fun h => absurd h (by decide))⟩
    · refine And.intro ⟨by omega, by omega⟩ (And.intro ⟨by omega, by omega⟩ ?_)
      intro m6 em6
      have z7 := zfx_r z0 em6 rfl (by decide)
      have w8 : m6.1 66 ((20 : Nat) : Int) = g3 := by rw [em6]; exact (congrFun (zu_ne (by decide)) _).trans wg3
      have w9 : m6.1 66 ((21 : Nat) : Int) = g4 := by rw [em6]; exact (congrFun (zu_ne (by decide)) _).trans wg4
      refine Exists.intro (Int.toNat (18446744073709551616 * 9 + (2147483648 - (v1 + 1)))) (And.intro (by (try rw [w8]) <;> (try rw [w9]) <;> (try rw [wg3]) <;> (try rw [wg4]) <;> (try rw [wg1]) <;> (try rw [wg2]) <;> omega) ?_)
      exact ⟨(fun _ => ⟨_, rfl, z7, ⟨by omega, by omega⟩, (by rw [em6, zu_ne (show (66 : Nat) ≠ 86 by decide)]; omega), (fun x a b => by rw [em6, zu_ne (show (66 : Nat) ≠ 86 by decide), zu_ne (show (98 : Nat) ≠ 86 by decide)]; exact i1 x a b), (fun x a b => by rw [em6, zu_ne (show (66 : Nat) ≠ 86 by decide), zu_ne (show (105 : Nat) ≠ 86 by decide)]; exact i2 x a b), (fun w a b => by rw [em6, zu_if]; by_cases c : w = v1; (rw [if_pos c]); (rw [if_neg c]; exact i3 w a (by omega))), rfl⟩), (fun h => absurd h (by decide)), (fun h => absurd h (by decide)), (fun h => absurd h (by decide)), (fun h => absurd h (by decide)), (fun h => absurd h (by decide)), (fun h => absurd h (by decide)), (fun h => absurd h (by decide)), (fun h => absurd h (by decide)), (fun h => absurd h (by decide))⟩
  · intro vs m0 n hI
    replace hI := hI.2.1 rfl
    clear z0
    obtain ⟨v1, rfl, z0, hv1, i0, i1, i2, i3, rfl⟩ := hI
    obtain ⟨g10, wg10⟩ : ∃ z : Int, m0.1 66 ((20 : Nat) : Int) = z := ⟨_, rfl⟩
    obtain ⟨g11, wg11⟩ : ∃ z : Int, m0.1 66 ((21 : Nat) : Int) = z := ⟨_, rfl⟩
    intro x12 hx12 kx12 lx12
    rw [wg10] at hx12
    refine And.intro ⟨⟨by omega, by omega⟩, ⟨by omega, by omega⟩⟩ (And.intro (fun c13 => ?_) (fun c13 => ?_))
    · refine Exists.intro (Int.toNat (18446744073709551616 * 7 + (81 - 0) * 4294967296 + 4294967295)) (And.intro (by (try rw [wg10]) <;> (try rw [wg11]) <;> (try rw [wg1]) <;> (try rw [wg2]) <;> omega) ?_)
      exact ⟨(fun h => absurd h (by decide)), (fun h => absurd h (by decide)), (fun h => absurd h (by decide)), (fun _ => ⟨_, rfl, z0, ⟨by omega, by omega⟩, (by omega), i1, i2, ⟨by have h20 : m0.1 66 ((20 : Nat) : Int) = μ.1 66 ((20 : Nat) : Int) := z0.2.1 20 rfl; have h0 := i3.2; have h1 := i3.1; rw [show v1 = C by omega] at h1; exact h1, by omega⟩, rfl⟩), (fun h => absurd h (by decide)), (fun h => absurd h (by decide)), (fun h => absurd h (by decide)), (fun h => absurd h (by decide)), (fun h => absurd h (by decide)), (fun h => absurd h (by decide))⟩
    · refine Exists.intro (Int.toNat (18446744073709551616 * 8 + (21 - v1) * 4294967296 + (2147483648 - 0))) (And.intro (by (try rw [wg10]) <;> (try rw [wg11]) <;> (try rw [wg1]) <;> (try rw [wg2]) <;> omega) ?_)
      exact ⟨(fun h => absurd h (by decide)), (fun h => absurd h (by decide)), (fun _ => ⟨_, _, rfl, z0, ⟨by omega, by omega⟩, ⟨by omega, by omega⟩, (by omega), i1, i2, (by have h20 : m0.1 66 ((20 : Nat) : Int) = μ.1 66 ((20 : Nat) : Int) := z0.2.1 20 rfl; omega), i3.1, rfl⟩), (fun h => absurd h (by decide)), (fun h => absurd h (by decide)), (fun h => absurd h (by decide)), (fun h => absurd h (by decide)), (fun h => absurd h (by decide)), (fun h => absurd h (by decide)), (fun h => absurd h (by decide))⟩
  · intro vs m0 n hI
    replace hI := hI.2.2.1 rfl
    clear z0
    obtain ⟨v1, v2, rfl, z0, hv1, hv2, i0, i1, i2, i3, i4, rfl⟩ := hI
    obtain ⟨g14, wg14⟩ : ∃ z : Int, m0.1 66 ((20 : Nat) : Int) = z := ⟨_, rfl⟩
    obtain ⟨g15, wg15⟩ : ∃ z : Int, m0.1 66 ((21 : Nat) : Int) = z := ⟨_, rfl⟩
    refine And.intro ⟨by omega, by omega⟩ ?_
    intro x16 hx16 kx16 lx16
    rw [show m0.1 79 = μ.1 79 from z0.1 79 (by decide) rfl] at hx16
    refine And.intro ⟨⟨by omega, by omega⟩, ⟨by omega, by omega⟩⟩ (And.intro (fun c17 => ?_) (fun c17 => ?_))
    · refine Exists.intro (Int.toNat (18446744073709551616 * 8 + (21 - (v1 + 1)) * 4294967296 + 4294967295)) (And.intro (by (try rw [wg14]) <;> (try rw [wg15]) <;> (try rw [wg1]) <;> (try rw [wg2]) <;> omega) ?_)
      exact ⟨(fun h => absurd h (by decide)), (fun _ => ⟨_, rfl, z0, ⟨by omega, by omega⟩, (by omega), i1, i2, ⟨fG_eq i4 (fun x => fT_c (by omega)), by omega⟩, rfl⟩), (fun h => absurd h (by decide)), (fun h => absurd h (by decide)), (fun h => absurd h (by decide)), (fun h => absurd h (by decide)), (fun h => absurd h (by decide)), (fun h => absurd h (by decide)), (fun h => absurd h (by decide)), (fun h => absurd h (by decide))⟩
    · refine And.intro ⟨by omega, by omega⟩ ?_
      intro x18 hx18 kx18 lx18
      rw [show m0.1 78 = μ.1 78 from z0.1 78 (by decide) rfl] at hx18
      have HS := hp1.2.2.1 v1 v2 (by omega) (by omega) (by omega) (by omega)
      rw [show 4 * v1 + v2 = ((4 * v1) + v2) by omega, ← hx18] at HS
      refine ⟨yk_X9_waysOf, ym_X9_waysOf hg d (by omega), _, _, _, _, rfl, ⟨by omega, by omega⟩, (fun x a b => zNd_same (fun j c d => z0.1 j (by omega) (zanyF (by simp <;> omega))) (hp0 x a b)), ⟨HS.1.2, by omega⟩, ⟨i2, i1⟩, (by omega), (by rw [show m0.1 77 = μ.1 77 from z0.1 77 (by decide) rfl]; exact zWf_same hp2 (fun j c d => z0.1 j (by omega) (zanyF (by simp <;> omega))) rfl), (by rw [show m0.1 76 = μ.1 76 from z0.1 76 (by decide) rfl, show m0.1 77 = μ.1 77 from z0.1 77 (by decide) rfl]; exact fun c a b => ⟨(hp1.2.1 c a b).1, (hp1.2.1 c a b).2.2.2.1⟩), ⟨by omega, by omega, by rw [show m0.1 71 = μ.1 71 from z0.1 71 (by decide) rfl]; exact HS.2⟩, (fG_r i4), ?_⟩
      intro m19 qm19 p20 p21 p22 p23 p24
      have z25 := zfx_t z0 qm19 rfl rfl
      have w26 : m19.1 66 ((20 : Nat) : Int) = g14 := (qm19.2.1 20 rfl).trans wg14
      have w27 : m19.1 66 ((21 : Nat) : Int) = g15 := (qm19.2.1 21 rfl).trans wg15
      refine Exists.intro (Int.toNat (18446744073709551616 * 8 + (21 - v1) * 4294967296 + (2147483648 - (v2 + 1)))) (And.intro (by (try rw [w26]) <;> (try rw [w27]) <;> (try rw [wg14]) <;> (try rw [wg15]) <;> (try rw [wg1]) <;> (try rw [wg2]) <;> omega) ?_)
      exact ⟨(fun h => absurd h (by decide)), (fun h => absurd h (by decide)), (fun _ => ⟨_, _, rfl, z25, ⟨by omega, by omega⟩, ⟨by omega, by omega⟩, (by have h1 := p20; have h2 := p22; omega), p23, p21, (by have h20 : m0.1 66 ((20 : Nat) : Int) = μ.1 66 ((20 : Nat) : Int) := z0.2.1 20 rfl; omega), (fG_add i4 (fun j hj => z0.1 j (by omega) (zanyF (by simp <;> omega))) p24 (fun y => by rw [fT_s (by omega) (by omega) (by omega), hx18])), rfl⟩), (fun h => absurd h (by decide)), (fun h => absurd h (by decide)), (fun h => absurd h (by decide)), (fun h => absurd h (by decide)), (fun h => absurd h (by decide)), (fun h => absurd h (by decide)), (fun h => absurd h (by decide))⟩
  · intro vs m0 n hI
    replace hI := hI.2.2.2.1 rfl
    clear z0
    obtain ⟨v1, rfl, z0, hv1, i0, i1, i2, i3, rfl⟩ := hI
    obtain ⟨g28, wg28⟩ : ∃ z : Int, m0.1 66 ((20 : Nat) : Int) = z := ⟨_, rfl⟩
    obtain ⟨g29, wg29⟩ : ∃ z : Int, m0.1 66 ((21 : Nat) : Int) = z := ⟨_, rfl⟩
    intro x30 hx30 kx30 lx30
    rw [wg29] at hx30
    refine And.intro ⟨⟨by omega, by omega⟩, ⟨by omega, by omega⟩⟩ (And.intro (fun c31 => ?_) (fun c31 => ?_))
    · refine Exists.intro (Int.toNat (18446744073709551616 * 6 + (2147483648 - 0))) (And.intro (by (try rw [wg28]) <;> (try rw [wg29]) <;> (try rw [wg1]) <;> (try rw [wg2]) <;> omega) ?_)
      exact ⟨(fun h => absurd h (by decide)), (fun h => absurd h (by decide)), (fun h => absurd h (by decide)), (fun h => absurd h (by decide)), (fun h => absurd h (by decide)), (fun _ => ⟨_, rfl, z0, ⟨by omega, by omega⟩, (by omega), i1, i2, (by have h21 : m0.1 66 ((21 : Nat) : Int) = μ.1 66 ((21 : Nat) : Int) := z0.2.1 21 rfl; have h0 := i3.2; have h1 := i3.1; rw [show v1 = Pn by omega] at h1; exact h1), rfl⟩), (fun h => absurd h (by decide)), (fun h => absurd h (by decide)), (fun h => absurd h (by decide)), (fun h => absurd h (by decide))⟩
    · refine Exists.intro (Int.toNat (18446744073709551616 * 7 + (81 - v1) * 4294967296 + (2147483648 - 0))) (And.intro (by (try rw [wg28]) <;> (try rw [wg29]) <;> (try rw [wg1]) <;> (try rw [wg2]) <;> omega) ?_)
      exact ⟨(fun h => absurd h (by decide)), (fun h => absurd h (by decide)), (fun h => absurd h (by decide)), (fun h => absurd h (by decide)), (fun _ => ⟨_, _, rfl, z0, ⟨by omega, by omega⟩, ⟨by omega, by omega⟩, (by omega), i1, i2, (by have h21 : m0.1 66 ((21 : Nat) : Int) = μ.1 66 ((21 : Nat) : Int) := z0.2.1 21 rfl; omega), i3.1, rfl⟩), (fun h => absurd h (by decide)), (fun h => absurd h (by decide)), (fun h => absurd h (by decide)), (fun h => absurd h (by decide)), (fun h => absurd h (by decide))⟩
  · intro vs m0 n hI
    replace hI := hI.2.2.2.2.1 rfl
    clear z0
    obtain ⟨v1, v2, rfl, z0, hv1, hv2, i0, i1, i2, i3, i4, rfl⟩ := hI
    obtain ⟨g32, wg32⟩ : ∃ z : Int, m0.1 66 ((20 : Nat) : Int) = z := ⟨_, rfl⟩
    obtain ⟨g33, wg33⟩ : ∃ z : Int, m0.1 66 ((21 : Nat) : Int) = z := ⟨_, rfl⟩
    refine And.intro ⟨by omega, by omega⟩ ?_
    intro x34 hx34 kx34 lx34
    rw [show m0.1 84 = μ.1 84 from z0.1 84 (by decide) rfl] at hx34
    refine And.intro ⟨⟨by omega, by omega⟩, ⟨by omega, by omega⟩⟩ (And.intro (fun c35 => ?_) (fun c35 => ?_))
    · refine Exists.intro (Int.toNat (18446744073709551616 * 7 + (81 - (v1 + 1)) * 4294967296 + 4294967295)) (And.intro (by (try rw [wg32]) <;> (try rw [wg33]) <;> (try rw [wg1]) <;> (try rw [wg2]) <;> omega) ?_)
      exact ⟨(fun h => absurd h (by decide)), (fun h => absurd h (by decide)), (fun h => absurd h (by decide)), (fun _ => ⟨_, rfl, z0, ⟨by omega, by omega⟩, (by omega), i1, i2, ⟨fG_eq i4 (fun x => fT_d (by omega)), by omega⟩, rfl⟩), (fun h => absurd h (by decide)), (fun h => absurd h (by decide)), (fun h => absurd h (by decide)), (fun h => absurd h (by decide)), (fun h => absurd h (by decide)), (fun h => absurd h (by decide))⟩
    · refine And.intro ⟨by omega, by omega⟩ ?_
      intro x36 hx36 kx36 lx36
      rw [show m0.1 83 = μ.1 83 from z0.1 83 (by decide) rfl] at hx36
      have HS := (hp1.2.2.2.1 v1 v2 (by omega) (by omega) (by omega) (by omega)).1
      rw [show 2 * v1 + v2 = ((2 * v1) + v2) by omega, ← hx36] at HS
      refine ⟨yk_X9_waysOf, ym_X9_waysOf hg d (by omega), _, _, _, _, rfl, ⟨by omega, by omega⟩, (fun x a b => zNd_same (fun j c d => z0.1 j (by omega) (zanyF (by simp <;> omega))) (hp0 x a b)), ⟨HS.1.2, by omega⟩, ⟨i2, i1⟩, (by omega), (by rw [show m0.1 77 = μ.1 77 from z0.1 77 (by decide) rfl]; exact zWf_same hp2 (fun j c d => z0.1 j (by omega) (zanyF (by simp <;> omega))) rfl), (by rw [show m0.1 76 = μ.1 76 from z0.1 76 (by decide) rfl, show m0.1 77 = μ.1 77 from z0.1 77 (by decide) rfl]; exact fun c a b => ⟨(hp1.2.1 c a b).1, (hp1.2.1 c a b).2.2.2.1⟩), ⟨by omega, by omega, by rw [show m0.1 71 = μ.1 71 from z0.1 71 (by decide) rfl]; exact HS.2⟩, (fG_r i4), ?_⟩
      intro m37 qm37 p38 p39 p40 p41 p42
      have z43 := zfx_t z0 qm37 rfl rfl
      have w44 : m37.1 66 ((20 : Nat) : Int) = g32 := (qm37.2.1 20 rfl).trans wg32
      have w45 : m37.1 66 ((21 : Nat) : Int) = g33 := (qm37.2.1 21 rfl).trans wg33
      refine Exists.intro (Int.toNat (18446744073709551616 * 7 + (81 - v1) * 4294967296 + (2147483648 - (v2 + 1)))) (And.intro (by (try rw [w44]) <;> (try rw [w45]) <;> (try rw [wg32]) <;> (try rw [wg33]) <;> (try rw [wg1]) <;> (try rw [wg2]) <;> omega) ?_)
      exact ⟨(fun h => absurd h (by decide)), (fun h => absurd h (by decide)), (fun h => absurd h (by decide)), (fun h => absurd h (by decide)), (fun _ => ⟨_, _, rfl, z43, ⟨by omega, by omega⟩, ⟨by omega, by omega⟩, (by have h1 := p38; have h2 := p40; omega), p41, p39, (by have h21 : m0.1 66 ((21 : Nat) : Int) = μ.1 66 ((21 : Nat) : Int) := z0.2.1 21 rfl; omega), (fG_add i4 (fun j hj => z0.1 j (by omega) (zanyF (by simp <;> omega))) p42 (fun y => by rw [fT_b (by omega) (by omega) (by omega), hx36])), rfl⟩), (fun h => absurd h (by decide)), (fun h => absurd h (by decide)), (fun h => absurd h (by decide)), (fun h => absurd h (by decide)), (fun h => absurd h (by decide))⟩
  · intro vs m0 n hI
    replace hI := hI.2.2.2.2.2.1 rfl
    clear z0
    obtain ⟨v1, rfl, z0, hv1, i0, i1, i2, i3, rfl⟩ := hI
    obtain ⟨g46, wg46⟩ : ∃ z : Int, m0.1 66 ((20 : Nat) : Int) = z := ⟨_, rfl⟩
    obtain ⟨g47, wg47⟩ : ∃ z : Int, m0.1 66 ((21 : Nat) : Int) = z := ⟨_, rfl⟩
    refine And.intro ⟨⟨by omega, by omega⟩, ⟨by omega, by omega⟩⟩ (And.intro (fun c48 => ?_) (fun c48 => ?_))
    · refine Exists.intro (Int.toNat (18446744073709551616 * 5 + (81 - 0) * 4294967296 + 4294967295)) (And.intro (by (try rw [wg46]) <;> (try rw [wg47]) <;> (try rw [wg1]) <;> (try rw [wg2]) <;> omega) ?_)
      exact ⟨(fun h => absurd h (by decide)), (fun h => absurd h (by decide)), (fun h => absurd h (by decide)), (fun h => absurd h (by decide)), (fun h => absurd h (by decide)), (fun h => absurd h (by decide)), (fun _ => ⟨_, rfl, z0, ⟨by omega, by omega⟩, (by omega), i1, i2, i3, rfl⟩), (fun h => absurd h (by decide)), (fun h => absurd h (by decide)), (fun h => absurd h (by decide))⟩
    · refine And.intro ⟨by omega, by omega⟩ ?_
      intro x49 hx49 kx49 lx49
      refine And.intro ⟨by omega, by omega⟩ (And.intro (fun c50 => ?_) (fun c50 => ?_))
      · refine And.intro ⟨by omega, by omega⟩ (And.intro ⟨by omega, by omega⟩ ?_)
        intro m51 em51
        have z52 := zfx_r z0 em51 rfl (by decide)
        have w53 : m51.1 66 ((20 : Nat) : Int) = g46 := by rw [em51]; exact (congrFun (zu_ne (by decide)) _).trans wg46
        have w54 : m51.1 66 ((21 : Nat) : Int) = g47 := by rw [em51]; exact (congrFun (zu_ne (by decide)) _).trans wg47
        refine Exists.intro (Int.toNat (18446744073709551616 * 6 + (2147483648 - (v1 + 1)))) (And.intro (by (try rw [w53]) <;> (try rw [w54]) <;> (try rw [wg46]) <;> (try rw [wg47]) <;> (try rw [wg1]) <;> (try rw [wg2]) <;> omega) ?_)
        exact ⟨(fun h => absurd h (by decide)), (fun h => absurd h (by decide)), (fun h => absurd h (by decide)), (fun h => absurd h (by decide)), (fun h => absurd h (by decide)), (fun _ => ⟨_, rfl, z52, ⟨by omega, by omega⟩, (by rw [em51, zu_ne (show (66 : Nat) ≠ 87 by decide)]; omega), (fun x a b => by rw [em51, zu_ne (show (66 : Nat) ≠ 87 by decide), zu_ne (show (98 : Nat) ≠ 87 by decide)]; exact i1 x a b), (fun x a b => by rw [em51, zu_ne (show (66 : Nat) ≠ 87 by decide), zu_ne (show (105 : Nat) ≠ 87 by decide)]; exact i2 x a b), (fG_f i3 (by rw [em51, zu_ne (by decide)])), rfl⟩), (fun h => absurd h (by decide)), (fun h => absurd h (by decide)), (fun h => absurd h (by decide)), (fun h => absurd h (by decide))⟩
      · refine And.intro ⟨by omega, by omega⟩ (And.intro ⟨by omega, by omega⟩ ?_)
        intro m55 em55
        have z56 := zfx_r z0 em55 rfl (by decide)
        have w57 : m55.1 66 ((20 : Nat) : Int) = g46 := by rw [em55]; exact (congrFun (zu_ne (by decide)) _).trans wg46
        have w58 : m55.1 66 ((21 : Nat) : Int) = g47 := by rw [em55]; exact (congrFun (zu_ne (by decide)) _).trans wg47
        refine Exists.intro (Int.toNat (18446744073709551616 * 6 + (2147483648 - (v1 + 1)))) (And.intro (by (try rw [w57]) <;> (try rw [w58]) <;> (try rw [wg46]) <;> (try rw [wg47]) <;> (try rw [wg1]) <;> (try rw [wg2]) <;> omega) ?_)
        exact ⟨(fun h => absurd h (by decide)), (fun h => absurd h (by decide)), (fun h => absurd h (by decide)), (fun h => absurd h (by decide)), (fun h => absurd h (by decide)), (fun _ => ⟨_, rfl, z56, ⟨by omega, by omega⟩, (by rw [em55, zu_ne (show (66 : Nat) ≠ 87 by decide)]; omega), (fun x a b => by rw [em55, zu_ne (show (66 : Nat) ≠ 87 by decide), zu_ne (show (98 : Nat) ≠ 87 by decide)]; exact i1 x a b), (fun x a b => by rw [em55, zu_ne (show (66 : Nat) ≠ 87 by decide), zu_ne (show (105 : Nat) ≠ 87 by decide)]; exact i2 x a b), (fG_f i3 (by rw [em55, zu_ne (by decide)])), rfl⟩), (fun h => absurd h (by decide)), (fun h => absurd h (by decide)), (fun h => absurd h (by decide)), (fun h => absurd h (by decide))⟩
  · intro vs m0 n hI
    replace hI := hI.2.2.2.2.2.2.1 rfl
    clear z0
    obtain ⟨v1, rfl, z0, hv1, i0, i1, i2, i3, rfl⟩ := hI
    obtain ⟨g59, wg59⟩ : ∃ z : Int, m0.1 66 ((20 : Nat) : Int) = z := ⟨_, rfl⟩
    obtain ⟨g60, wg60⟩ : ∃ z : Int, m0.1 66 ((21 : Nat) : Int) = z := ⟨_, rfl⟩
    intro x61 hx61 kx61 lx61
    rw [wg60] at hx61
    refine And.intro ⟨⟨by omega, by omega⟩, ⟨by omega, by omega⟩⟩ (And.intro (fun c62 => ?_) (fun c62 => ?_))
    · refine And.intro ⟨by omega, by omega⟩ ?_
      intro m63 em63
      have z64 := zfx_f z0 em63 rfl
      have w65 : m63.1 66 ((20 : Nat) : Int) = g59 := by rw [em63]; exact (zu_nk (by decide)).trans wg59
      have w66 : m63.1 66 ((21 : Nat) : Int) = g60 := by rw [em63]; exact (zu_nk (by decide)).trans wg60
      refine Exists.intro (Int.toNat (2147483648 - 0)) (And.intro (by (try rw [w65]) <;> (try rw [w66]) <;> (try rw [wg59]) <;> (try rw [wg60]) <;> (try rw [wg1]) <;> (try rw [wg2]) <;> omega) ?_)
      exact ⟨(fun h => absurd h (by decide)), (fun h => absurd h (by decide)), (fun h => absurd h (by decide)), (fun h => absurd h (by decide)), (fun h => absurd h (by decide)), (fun h => absurd h (by decide)), (fun h => absurd h (by decide)), (fun h => absurd h (by decide)), (fun h => absurd h (by decide)), (fun _ => ⟨_, rfl, z64, ⟨by omega, by omega⟩, (by rw [em63, zu_nk (by decide), zu_nk (by decide)]; omega), (fun x a b => by rw [em63, zu_ne (by decide), zu_nk (by decide)]; exact i1 x a b), (fun x a b => by rw [em63, zu_ne (by decide), zu_nk (by decide)]; exact i2 x a b), (fG_f i3 (by rw [em63, zu_ne (by decide)])), rfl⟩)⟩
    · refine Exists.intro (Int.toNat (18446744073709551616 * 5 + (81 - v1) * 4294967296 + (81 - 0) * 1000 + 999)) (And.intro (by (try rw [wg59]) <;> (try rw [wg60]) <;> (try rw [wg1]) <;> (try rw [wg2]) <;> omega) ?_)
      exact ⟨(fun h => absurd h (by decide)), (fun h => absurd h (by decide)), (fun h => absurd h (by decide)), (fun h => absurd h (by decide)), (fun h => absurd h (by decide)), (fun h => absurd h (by decide)), (fun h => absurd h (by decide)), (fun _ => ⟨_, _, rfl, z0, ⟨by omega, by omega⟩, ⟨by omega, by omega⟩, (by omega), i1, i2, i3, rfl⟩), (fun h => absurd h (by decide)), (fun h => absurd h (by decide))⟩
  · intro vs m0 n hI
    replace hI := hI.2.2.2.2.2.2.2.1 rfl
    clear z0
    obtain ⟨v1, v2, rfl, z0, hv1, hv2, i0, i1, i2, i3, rfl⟩ := hI
    obtain ⟨g67, wg67⟩ : ∃ z : Int, m0.1 66 ((20 : Nat) : Int) = z := ⟨_, rfl⟩
    obtain ⟨g68, wg68⟩ : ∃ z : Int, m0.1 66 ((21 : Nat) : Int) = z := ⟨_, rfl⟩
    intro x69 hx69 kx69 lx69
    rw [wg68] at hx69
    refine And.intro ⟨⟨by omega, by omega⟩, ⟨by omega, by omega⟩⟩ (And.intro (fun c70 => ?_) (fun c70 => ?_))
    · refine Exists.intro (Int.toNat (18446744073709551616 * 5 + (81 - (v1 + 1)) * 4294967296 + 4294967295)) (And.intro (by (try rw [wg67]) <;> (try rw [wg68]) <;> (try rw [wg1]) <;> (try rw [wg2]) <;> omega) ?_)
      exact ⟨(fun h => absurd h (by decide)), (fun h => absurd h (by decide)), (fun h => absurd h (by decide)), (fun h => absurd h (by decide)), (fun h => absurd h (by decide)), (fun h => absurd h (by decide)), (fun _ => ⟨_, rfl, z0, ⟨by omega, by omega⟩, (by omega), i1, i2, i3, rfl⟩), (fun h => absurd h (by decide)), (fun h => absurd h (by decide)), (fun h => absurd h (by decide))⟩
    · refine Exists.intro (Int.toNat (18446744073709551616 * 5 + (81 - v1) * 4294967296 + (81 - v2) * 1000 + (81 - 0))) (And.intro (by (try rw [wg67]) <;> (try rw [wg68]) <;> (try rw [wg1]) <;> (try rw [wg2]) <;> omega) ?_)
      exact ⟨(fun h => absurd h (by decide)), (fun h => absurd h (by decide)), (fun h => absurd h (by decide)), (fun h => absurd h (by decide)), (fun h => absurd h (by decide)), (fun h => absurd h (by decide)), (fun h => absurd h (by decide)), (fun h => absurd h (by decide)), (fun _ => ⟨_, _, _, rfl, z0, ⟨by omega, by omega⟩, ⟨by omega, by omega⟩, ⟨by omega, by omega⟩, (by omega), i1, i2, i3, rfl⟩), (fun h => absurd h (by decide))⟩
  · intro vs m0 n hI
    replace hI := hI.2.2.2.2.2.2.2.2.1 rfl
    clear z0
    obtain ⟨v1, v2, v3, rfl, z0, hv1, hv2, hv3, i0, i1, i2, i3, rfl⟩ := hI
    obtain ⟨g71, wg71⟩ : ∃ z : Int, m0.1 66 ((20 : Nat) : Int) = z := ⟨_, rfl⟩
    obtain ⟨g72, wg72⟩ : ∃ z : Int, m0.1 66 ((21 : Nat) : Int) = z := ⟨_, rfl⟩
    intro x73 hx73 kx73 lx73
    rw [wg72] at hx73
    refine And.intro ⟨⟨by omega, by omega⟩, ⟨by omega, by omega⟩⟩ (And.intro (fun c74 => ?_) (fun c74 => ?_))
    · refine Exists.intro (Int.toNat (18446744073709551616 * 5 + (81 - v1) * 4294967296 + (81 - (v2 + 1)) * 1000 + 999)) (And.intro (by (try rw [wg71]) <;> (try rw [wg72]) <;> (try rw [wg1]) <;> (try rw [wg2]) <;> omega) ?_)
      exact ⟨(fun h => absurd h (by decide)), (fun h => absurd h (by decide)), (fun h => absurd h (by decide)), (fun h => absurd h (by decide)), (fun h => absurd h (by decide)), (fun h => absurd h (by decide)), (fun h => absurd h (by decide)), (fun _ => ⟨_, _, rfl, z0, ⟨by omega, by omega⟩, ⟨by omega, by omega⟩, (by omega), i1, i2, i3, rfl⟩), (fun h => absurd h (by decide)), (fun h => absurd h (by decide))⟩
    · refine And.intro ⟨by omega, by omega⟩ ?_
      intro x75 hx75 kx75 lx75
      refine And.intro ⟨by omega, by omega⟩ (And.intro (fun c76 => ?_) (fun c76 => ?_))
      · refine And.intro ⟨by omega, by omega⟩ (And.intro ⟨by omega, by omega⟩ ?_)
        intro m77 em77
        have z78 := zfx_r z0 em77 rfl (by decide)
        have w79 : m77.1 66 ((20 : Nat) : Int) = g71 := by rw [em77]; exact (congrFun (zu_ne (by decide)) _).trans wg71
        have w80 : m77.1 66 ((21 : Nat) : Int) = g72 := by rw [em77]; exact (congrFun (zu_ne (by decide)) _).trans wg72
        refine Exists.intro (Int.toNat (18446744073709551616 * 5 + (81 - v1) * 4294967296 + (81 - v2) * 1000 + (81 - (v3 + 1)))) (And.intro (by (try rw [w79]) <;> (try rw [w80]) <;> (try rw [wg71]) <;> (try rw [wg72]) <;> (try rw [wg1]) <;> (try rw [wg2]) <;> omega) ?_)
        exact ⟨(fun h => absurd h (by decide)), (fun h => absurd h (by decide)), (fun h => absurd h (by decide)), (fun h => absurd h (by decide)), (fun h => absurd h (by decide)), (fun h => absurd h (by decide)), (fun h => absurd h (by decide)), (fun h => absurd h (by decide)), (fun _ => ⟨_, _, _, rfl, z78, ⟨by omega, by omega⟩, ⟨by omega, by omega⟩, ⟨by omega, by omega⟩, (by rw [em77, zu_ne (show (66 : Nat) ≠ 87 by decide)]; omega), (fun x a b => by rw [em77, zu_ne (show (66 : Nat) ≠ 87 by decide), zu_ne (show (98 : Nat) ≠ 87 by decide)]; exact i1 x a b), (fun x a b => by rw [em77, zu_ne (show (66 : Nat) ≠ 87 by decide), zu_ne (show (105 : Nat) ≠ 87 by decide)]; exact i2 x a b), (fG_f i3 (by rw [em77, zu_ne (by decide)])), rfl⟩), (fun h => absurd h (by decide))⟩
      · refine And.intro ⟨by omega, by omega⟩ ?_
        intro x81 hx81 kx81 lx81
        refine And.intro ⟨by omega, by omega⟩ (And.intro (fun c82 => ?_) (fun c82 => ?_))
        · refine And.intro ⟨by omega, by omega⟩ (And.intro ⟨by omega, by omega⟩ ?_)
          intro m83 em83
          have z84 := zfx_r z0 em83 rfl (by decide)
          have w85 : m83.1 66 ((20 : Nat) : Int) = g71 := by rw [em83]; exact (congrFun (zu_ne (by decide)) _).trans wg71
          have w86 : m83.1 66 ((21 : Nat) : Int) = g72 := by rw [em83]; exact (congrFun (zu_ne (by decide)) _).trans wg72
          refine Exists.intro (Int.toNat (18446744073709551616 * 5 + (81 - v1) * 4294967296 + (81 - v2) * 1000 + (81 - (v3 + 1)))) (And.intro (by (try rw [w85]) <;> (try rw [w86]) <;> (try rw [wg71]) <;> (try rw [wg72]) <;> (try rw [wg1]) <;> (try rw [wg2]) <;> omega) ?_)
          exact ⟨(fun h => absurd h (by decide)), (fun h => absurd h (by decide)), (fun h => absurd h (by decide)), (fun h => absurd h (by decide)), (fun h => absurd h (by decide)), (fun h => absurd h (by decide)), (fun h => absurd h (by decide)), (fun h => absurd h (by decide)), (fun _ => ⟨_, _, _, rfl, z84, ⟨by omega, by omega⟩, ⟨by omega, by omega⟩, ⟨by omega, by omega⟩, (by rw [em83, zu_ne (show (66 : Nat) ≠ 87 by decide)]; omega), (fun x a b => by rw [em83, zu_ne (show (66 : Nat) ≠ 87 by decide), zu_ne (show (98 : Nat) ≠ 87 by decide)]; exact i1 x a b), (fun x a b => by rw [em83, zu_ne (show (66 : Nat) ≠ 87 by decide), zu_ne (show (105 : Nat) ≠ 87 by decide)]; exact i2 x a b), (fG_f i3 (by rw [em83, zu_ne (by decide)])), rfl⟩), (fun h => absurd h (by decide))⟩
        · refine And.intro ⟨by omega, by omega⟩ ?_
          intro x87 hx87 kx87 lx87
          refine And.intro ⟨by omega, by omega⟩ (And.intro (fun c88 => ?_) (fun c88 => ?_))
          · refine And.intro ⟨by omega, by omega⟩ (And.intro ⟨by omega, by omega⟩ ?_)
            intro m89 em89
            have z90 := zfx_r z0 em89 rfl (by decide)
            have w91 : m89.1 66 ((20 : Nat) : Int) = g71 := by rw [em89]; exact (congrFun (zu_ne (by decide)) _).trans wg71
            have w92 : m89.1 66 ((21 : Nat) : Int) = g72 := by rw [em89]; exact (congrFun (zu_ne (by decide)) _).trans wg72
            refine Exists.intro (Int.toNat (18446744073709551616 * 5 + (81 - v1) * 4294967296 + (81 - v2) * 1000 + (81 - (v3 + 1)))) (And.intro (by (try rw [w91]) <;> (try rw [w92]) <;> (try rw [wg71]) <;> (try rw [wg72]) <;> (try rw [wg1]) <;> (try rw [wg2]) <;> omega) ?_)
            exact ⟨(fun h => absurd h (by decide)), (fun h => absurd h (by decide)), (fun h => absurd h (by decide)), (fun h => absurd h (by decide)), (fun h => absurd h (by decide)), (fun h => absurd h (by decide)), (fun h => absurd h (by decide)), (fun h => absurd h (by decide)), (fun _ => ⟨_, _, _, rfl, z90, ⟨by omega, by omega⟩, ⟨by omega, by omega⟩, ⟨by omega, by omega⟩, (by rw [em89, zu_ne (show (66 : Nat) ≠ 87 by decide)]; omega), (fun x a b => by rw [em89, zu_ne (show (66 : Nat) ≠ 87 by decide), zu_ne (show (98 : Nat) ≠ 87 by decide)]; exact i1 x a b), (fun x a b => by rw [em89, zu_ne (show (66 : Nat) ≠ 87 by decide), zu_ne (show (105 : Nat) ≠ 87 by decide)]; exact i2 x a b), (fG_f i3 (by rw [em89, zu_ne (by decide)])), rfl⟩), (fun h => absurd h (by decide))⟩
          · refine And.intro ⟨by omega, by omega⟩ (And.intro ⟨by omega, by omega⟩ ?_)
            intro m93 em93
            have z94 := zfx_r z0 em93 rfl (by decide)
            have w95 : m93.1 66 ((20 : Nat) : Int) = g71 := by rw [em93]; exact (congrFun (zu_ne (by decide)) _).trans wg71
            have w96 : m93.1 66 ((21 : Nat) : Int) = g72 := by rw [em93]; exact (congrFun (zu_ne (by decide)) _).trans wg72
            refine Exists.intro (Int.toNat (18446744073709551616 * 5 + (81 - v1) * 4294967296 + (81 - v2) * 1000 + (81 - (v3 + 1)))) (And.intro (by (try rw [w95]) <;> (try rw [w96]) <;> (try rw [wg71]) <;> (try rw [wg72]) <;> (try rw [wg1]) <;> (try rw [wg2]) <;> omega) ?_)
            exact ⟨(fun h => absurd h (by decide)), (fun h => absurd h (by decide)), (fun h => absurd h (by decide)), (fun h => absurd h (by decide)), (fun h => absurd h (by decide)), (fun h => absurd h (by decide)), (fun h => absurd h (by decide)), (fun h => absurd h (by decide)), (fun _ => ⟨_, _, _, rfl, z94, ⟨by omega, by omega⟩, ⟨by omega, by omega⟩, ⟨by omega, by omega⟩, (by rw [em93, zu_ne (show (66 : Nat) ≠ 87 by decide)]; omega), (fun x a b => by rw [em93, zu_ne (show (66 : Nat) ≠ 87 by decide), zu_ne (show (98 : Nat) ≠ 87 by decide)]; exact i1 x a b), (fun x a b => by rw [em93, zu_ne (show (66 : Nat) ≠ 87 by decide), zu_ne (show (105 : Nat) ≠ 87 by decide)]; exact i2 x a b), (fG_f i3 (by rw [em93, zu_ne (by decide)])), rfl⟩), (fun h => absurd h (by decide))⟩
  · intro vs m0 n hI
    replace hI := hI.2.2.2.2.2.2.2.2.2 rfl
    clear z0
    obtain ⟨v1, rfl, z0, hv1, i0, i1, i2, i3, rfl⟩ := hI
    obtain ⟨g97, wg97⟩ : ∃ z : Int, m0.1 66 ((20 : Nat) : Int) = z := ⟨_, rfl⟩
    obtain ⟨g98, wg98⟩ : ∃ z : Int, m0.1 66 ((21 : Nat) : Int) = z := ⟨_, rfl⟩
    intro x99 hx99 kx99 lx99
    rw [wg98] at hx99
    refine And.intro ⟨⟨by omega, by omega⟩, ⟨by omega, by omega⟩⟩ (And.intro (fun c100 => ?_) (fun c100 => ?_))
    · exact And.intro rfl (hQ _ z0 (by omega) (by omega) i1 i2 i3)
    · intro x101 hx101 kx101 lx101
      refine And.intro ⟨by omega, by omega⟩ (And.intro (fun c102 => ?_) (fun c102 => ?_))
      · refine And.intro ⟨by omega, by omega⟩ ?_
        intro m103 em103
        have z104 := zfx_f z0 em103 rfl
        have w105 : m103.1 66 ((20 : Nat) : Int) = g97 := by rw [em103]; exact (zu_nk (by decide)).trans wg97
        have w106 : m103.1 66 ((21 : Nat) : Int) = g98 := by rw [em103]; exact (zu_nk (by decide)).trans wg98
        refine Exists.intro (Int.toNat (2147483648 - (v1 + 1))) (And.intro (by (try rw [w105]) <;> (try rw [w106]) <;> (try rw [wg97]) <;> (try rw [wg98]) <;> (try rw [wg1]) <;> (try rw [wg2]) <;> omega) ?_)
        exact ⟨(fun h => absurd h (by decide)), (fun h => absurd h (by decide)), (fun h => absurd h (by decide)), (fun h => absurd h (by decide)), (fun h => absurd h (by decide)), (fun h => absurd h (by decide)), (fun h => absurd h (by decide)), (fun h => absurd h (by decide)), (fun h => absurd h (by decide)), (fun _ => ⟨_, rfl, z104, ⟨by omega, by omega⟩, (by rw [em103, zu_nk (by decide), zu_nk (by decide)]; omega), (fun x a b => by rw [em103, zu_ne (by decide), zu_nk (by decide)]; exact i1 x a b), (fun x a b => by rw [em103, zu_ne (by decide), zu_nk (by decide)]; exact i2 x a b), (fG_f i3 (by rw [em103, zu_ne (by decide)])), rfl⟩)⟩
      · refine ⟨zk_X9_isOnGrowing, zm_X9_isOnGrowing hg d (by omega), _, rfl, ⟨by omega, by omega⟩, ?_⟩
        intro x107 kx107 lx107
        refine And.intro ⟨by omega, by omega⟩ (And.intro (fun c108 => ?_) (fun c108 => ?_))
        · refine And.intro ⟨by omega, by omega⟩ ?_
          intro m109 em109
          have z110 := zfx_f z0 em109 rfl
          have w111 : m109.1 66 ((20 : Nat) : Int) = g97 := by rw [em109]; exact (zu_nk (by decide)).trans wg97
          have w112 : m109.1 66 ((21 : Nat) : Int) = g98 := by rw [em109]; exact (zu_nk (by decide)).trans wg98
          refine Exists.intro (Int.toNat (2147483648 - (v1 + 1))) (And.intro (by (try rw [w111]) <;> (try rw [w112]) <;> (try rw [wg97]) <;> (try rw [wg98]) <;> (try rw [wg1]) <;> (try rw [wg2]) <;> omega) ?_)
          exact ⟨(fun h => absurd h (by decide)), (fun h => absurd h (by decide)), (fun h => absurd h (by decide)), (fun h => absurd h (by decide)), (fun h => absurd h (by decide)), (fun h => absurd h (by decide)), (fun h => absurd h (by decide)), (fun h => absurd h (by decide)), (fun h => absurd h (by decide)), (fun _ => ⟨_, rfl, z110, ⟨by omega, by omega⟩, (by rw [em109, zu_nk (by decide), zu_nk (by decide)]; omega), (fun x a b => by rw [em109, zu_ne (by decide), zu_nk (by decide)]; exact i1 x a b), (fun x a b => by rw [em109, zu_ne (by decide), zu_nk (by decide)]; exact i2 x a b), (fG_f i3 (by rw [em109, zu_ne (by decide)])), rfl⟩)⟩
        · refine And.intro ⟨by omega, by omega⟩ ?_
          intro m113 em113
          have z114 := zfx_f z0 em113 rfl
          have w115 : m113.1 66 ((20 : Nat) : Int) = g97 := by rw [em113]; exact (zu_nk (by decide)).trans wg97
          have w116 : m113.1 66 ((21 : Nat) : Int) = g98 := by rw [em113]; exact (zu_nk (by decide)).trans wg98
          refine Exists.intro (Int.toNat (2147483648 - (v1 + 1))) (And.intro (by (try rw [w115]) <;> (try rw [w116]) <;> (try rw [wg97]) <;> (try rw [wg98]) <;> (try rw [wg1]) <;> (try rw [wg2]) <;> omega) ?_)
          exact ⟨(fun h => absurd h (by decide)), (fun h => absurd h (by decide)), (fun h => absurd h (by decide)), (fun h => absurd h (by decide)), (fun h => absurd h (by decide)), (fun h => absurd h (by decide)), (fun h => absurd h (by decide)), (fun h => absurd h (by decide)), (fun h => absurd h (by decide)), (fun _ => ⟨_, rfl, z114, ⟨by omega, by omega⟩, (by rw [em113, zu_nk (by decide), zu_nk (by decide)]; omega), (fun x a b => by rw [em113, zu_ne (by decide), zu_nk (by decide)]; exact i1 x a b), (fun x a b => by rw [em113, zu_ne (by decide), zu_nk (by decide)]; exact i2 x a b), (fG_f i3 (by rw [em113, zu_ne (by decide)])), rfl⟩)⟩
