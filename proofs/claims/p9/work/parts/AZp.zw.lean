def yk_X9_findAbove : zC := fun As μ Q => ∃ (a1 : Int) (lo : Int) (P : Int) (τ : yT) (p : Int) (B : yB), As = [.inr (.inr (66, 66)), .inl a1] ∧ (1 ≤ a1 ∧ a1 ≤ 20) ∧ (μ.1 66 ((24 : Nat) : Int) = 21 ∧ μ.1 66 ((26 : Nat) : Int) = a1 + 1) ∧ (zND μ lo ∧ zUq μ lo ∧ zWf μ lo (zTop μ) (a1 + 1) P 0 (zXn μ)) ∧ (zTP μ lo a1 P) ∧ (zCl μ lo a1 P) ∧ (P ≤ 80) ∧ (zTop μ + zXn μ a1 + 1 + μ.1 79 (21 + a1) * zWs μ a1.toNat ≤ 19999) ∧ ((∀ x : Int, 0 ≤ x → x < 20000 → μ.1 98 x ≤ μ.1 66 ((60 : Nat) : Int)) ∧ 0 ≤ μ.1 66 ((60 : Nat) : Int) ∧ μ.1 66 ((60 : Nat) : Int) ≤ 1999000000) ∧ (ykd τ p = 59) ∧ (rNu μ B) ∧ (yInv (8, p, 0, [], B)) ∧ (a1 = B.1 0 3) ∧ (rAb μ B a1 lo) ∧ (rSu μ B a1 lo) ∧ (∀ (v : Int) (μ' : zM), zfx [67, 68, 69, 70, 71, 72, 73, 74, 80, 97, 98, 99] [8, 60] μ μ' → 0 ≤ v → v ≤ 1 → (zND μ' lo ∧ zOld μ μ' (zTop μ) ∧ zTop μ ≤ zTop μ') → (v = 1 → (zUq μ' lo ∧ zWf μ' lo (zTop μ') (a1 + 1) P 0 (zXn μ') ∧ zTP μ' lo (a1 + 1) P) ∧ zTop μ' ≤ zTop μ + zXn μ a1 + 1 + (if μ.1 79 (21 + a1) = 0 then 0 else zWs μ a1.toNat)) → (μ.1 66 ((60 : Nat) : Int) ≤ μ'.1 66 ((60 : Nat) : Int) ∧ μ'.1 66 ((60 : Nat) : Int) ≤ μ.1 66 ((60 : Nat) : Int) + 200) → (∀ x : Int, 0 ≤ x → x < 20000 → μ'.1 98 x ≤ μ'.1 66 ((60 : Nat) : Int)) → (zOt μ μ') → ((v = 1 ∧ ∃ B', yR τ (8, p, 0, [], B) (9, ynx τ p, 0, [], B') ∧ rNu μ' B' ∧ rAb μ' B' (a1 + 1) lo) ∨ (v = 0 ∧ rBA τ (8, p, 0, [], B) p)) → Q (some (.inl v)) μ')
abbrev yi_X9_findAbove (μ : zM) (a1 : Int) (lo : Int) (P : Int) (τ : yT) (p : Int) (B : yB) : Nat → List zV → zM → Nat → Prop := fun pc vs μ' n => (pc = 12 → ∃ (v1 : Int) (v2 : Int) (v3 : Int), vs = [.inr (.inr (66, 66)), .inl v1, .inl v2, .inl v3] ∧ zfx [67, 68, 69, 70, 71, 72, 73, 74, 80, 97, 98, 99] [8, 60] μ μ' ∧ (1 ≤ v1 ∧ v1 ≤ 20) ∧ (462 ≤ v2 ∧ v2 ≤ 861) ∧ (0 ≤ v3 ∧ v3 ≤ 21) ∧ (v1 = a1 ∧ v2 = 21 * (21 + a1)) ∧ (∀ j : Nat, j ≠ 80 → μ'.1 j = μ.1 j) ∧ (∀ q : Int, q < 21 * (21 + a1) → μ'.1 80 q = μ.1 80 q) ∧ (∀ d : Int, 0 ≤ d → d < v3 → μ'.1 80 (21 * (21 + a1) + d) = -1) ∧ (zOt μ μ') ∧ n = (Int.toNat (2147483648 - v3 + 9 * 4294967296))) ∧ (pc = 35 → ∃ (v1 : Int) (v2 : Int) (v3 : Int), vs = [.inr (.inr (66, 66)), .inl v1, .inl v2, .inl v3] ∧ zfx [67, 68, 69, 70, 71, 72, 73, 74, 80, 97, 98, 99] [8, 60] μ μ' ∧ (1 ≤ v1 ∧ v1 ≤ 20) ∧ (462 ≤ v2 ∧ v2 ≤ 861) ∧ (0 ≤ v3 ∧ v3 ≤ 4) ∧ (v1 = a1 ∧ v2 = 21 * (21 + a1)) ∧ (zP1 μ μ' lo a1 P v3) ∧ (v3 ≤ zXn μ a1) ∧ (μ'.1 98 = μ.1 98 ∧ μ'.1 66 ((60 : Nat) : Int) = μ.1 66 ((60 : Nat) : Int)) ∧ (zOt μ μ') ∧ n = (Int.toNat (2147483648 - v3 + 8 * 4294967296))) ∧ (pc = 87 → ∃ (v1 : Int) (v2 : Int) (v3 : Int), vs = [.inr (.inr (66, 66)), .inl v1, .inl v2, .inl v3] ∧ zfx [67, 68, 69, 70, 71, 72, 73, 74, 80, 97, 98, 99] [8, 60] μ μ' ∧ (1 ≤ v1 ∧ v1 ≤ 20) ∧ (462 ≤ v2 ∧ v2 ≤ 861) ∧ (0 ≤ v3 ∧ v3 ≤ 4) ∧ (v1 = a1 ∧ v2 = 21 * (21 + a1)) ∧ (zP1 μ μ' lo a1 P (zXn μ a1)) ∧ (∀ j : Int, 0 ≤ j → j < v3 → μ'.1 74 j = μ'.1 99 j) ∧ (v3 ≤ zXn μ a1) ∧ (μ'.1 98 = μ.1 98 ∧ μ'.1 66 ((60 : Nat) : Int) = μ.1 66 ((60 : Nat) : Int)) ∧ (zOt μ μ') ∧ n = (Int.toNat (2147483648 - v3 + 7 * 4294967296))) ∧ (pc = 163 → ∃ (v1 : Int) (v2 : Int) (v3 : Int) (v4 : Int), vs = [.inr (.inr (66, 66)), .inl v1, .inl v2, .inl v3, .inl v4] ∧ zfx [67, 68, 69, 70, 71, 72, 73, 74, 80, 97, 98, 99] [8, 60] μ μ' ∧ (1 ≤ v1 ∧ v1 ≤ 20) ∧ (462 ≤ v2 ∧ v2 ≤ 861) ∧ (0 ≤ v3 ∧ v3 ≤ 1) ∧ (0 ≤ v4 ∧ v4 ≤ 4) ∧ (v1 = a1 ∧ v2 = 21 * (21 + a1)) ∧ (∃ ν : zM, (zRv μ ν lo a1 P ∧ zWs ν a1.toNat = zWs μ a1.toNat) ∧ zFA ν μ' lo a1 P v4 0 v3 v4) ∧ (v4 ≤ μ.1 79 (21 + a1)) ∧ (μ.1 66 ((60 : Nat) : Int) ≤ μ'.1 66 ((60 : Nat) : Int) ∧ μ'.1 66 ((60 : Nat) : Int) ≤ μ.1 66 ((60 : Nat) : Int) + 21 * v4) ∧ (∀ x : Int, 0 ≤ x → x < 20000 → μ'.1 98 x ≤ μ'.1 66 ((60 : Nat) : Int)) ∧ (zOt μ μ') ∧ ((v3 = 1 ∧ rGA τ (8, p, 0, [], B) p a1 lo v4 0 μ') ∨ (v3 = 0 ∧ rBA τ (8, p, 0, [], B) p)) ∧ n = (Int.toNat ((5 - v4) * 1000 + 999))) ∧ (pc = 209 → ∃ (v1 : Int) (v2 : Int) (v3 : Int) (v4 : Int) (v5 : Int) (v6 : Int) (v7 : Int), vs = [.inr (.inr (66, 66)), .inl v1, .inl v2, .inl v3, .inl v4, .inl v5, .inl v6, .inl v7] ∧ zfx [67, 68, 69, 70, 71, 72, 73, 74, 80, 97, 98, 99] [8, 60] μ μ' ∧ (1 ≤ v1 ∧ v1 ≤ 20) ∧ (462 ≤ v2 ∧ v2 ≤ 861) ∧ (0 ≤ v3 ∧ v3 ≤ 1) ∧ (0 ≤ v4 ∧ v4 ≤ 3) ∧ (0 ≤ v5 ∧ v5 ≤ 19999) ∧ (0 ≤ v6 ∧ v6 ≤ 19) ∧ (0 ≤ v7 ∧ v7 ≤ 21) ∧ (v1 = a1 ∧ v2 = 21 * (21 + a1)) ∧ (∃ ν : zM, (zRv μ ν lo a1 P ∧ zWs ν a1.toNat = zWs μ a1.toNat) ∧ zFA ν μ' lo a1 P v4 v7 v3 (v4 + 1) ∧ v5 = zXs ν a1 v4 ∧ v6 = zXe ν a1 v4) ∧ (v4 < μ.1 79 (21 + a1)) ∧ (v7 ≤ a1 + 1) ∧ (μ.1 66 ((60 : Nat) : Int) ≤ μ'.1 66 ((60 : Nat) : Int) ∧ μ'.1 66 ((60 : Nat) : Int) ≤ μ.1 66 ((60 : Nat) : Int) + (21 * v4 + v7)) ∧ (∀ x : Int, 0 ≤ x → x < 20000 → μ'.1 98 x ≤ μ'.1 66 ((60 : Nat) : Int)) ∧ (zOt μ μ') ∧ ((v3 = 1 ∧ rGA τ (8, p, 0, [], B) p a1 lo v4 v7 μ') ∨ (v3 = 0 ∧ rBA τ (8, p, 0, [], B) p)) ∧ n = (Int.toNat ((5 - v4) * 1000 + 30 - v7)))
set_option maxHeartbeats 4000000 in
theorem ym_X9_findAbove_12 {g : zΓ} (hg : zg g) (d : Nat) (hd : 5 ≤ d + 1) (μ : zM) (Q : Option zV → zM → Prop) (a1 : Int) (lo : Int) (P : Int) (τ : yT) (p : Int) (B : yB) (ha1 : (1 ≤ a1 ∧ a1 ≤ 20)) (hp0 : (μ.1 66 ((24 : Nat) : Int) = 21 ∧ μ.1 66 ((26 : Nat) : Int) = a1 + 1)) (hp1 : (zND μ lo ∧ zUq μ lo ∧ zWf μ lo (zTop μ) (a1 + 1) P 0 (zXn μ))) (hp2 : (zTP μ lo a1 P)) (hp3 : (zCl μ lo a1 P)) (hp4 : (P ≤ 80)) (hp5 : (zTop μ + zXn μ a1 + 1 + μ.1 79 (21 + a1) * zWs μ a1.toNat ≤ 19999)) (hp6 : ((∀ x : Int, 0 ≤ x → x < 20000 → μ.1 98 x ≤ μ.1 66 ((60 : Nat) : Int)) ∧ 0 ≤ μ.1 66 ((60 : Nat) : Int) ∧ μ.1 66 ((60 : Nat) : Int) ≤ 1999000000)) (hp7 : (ykd τ p = 59)) (hp8 : (rNu μ B)) (hp9 : (yInv (8, p, 0, [], B))) (hp10 : (a1 = B.1 0 3)) (hp11 : (rAb μ B a1 lo)) (hp12 : (rSu μ B a1 lo)) (hQ : ∀ (v : Int) (μ' : zM), zfx [67, 68, 69, 70, 71, 72, 73, 74, 80, 97, 98, 99] [8, 60] μ μ' → 0 ≤ v → v ≤ 1 → (zND μ' lo ∧ zOld μ μ' (zTop μ) ∧ zTop μ ≤ zTop μ') → (v = 1 → (zUq μ' lo ∧ zWf μ' lo (zTop μ') (a1 + 1) P 0 (zXn μ') ∧ zTP μ' lo (a1 + 1) P) ∧ zTop μ' ≤ zTop μ + zXn μ a1 + 1 + (if μ.1 79 (21 + a1) = 0 then 0 else zWs μ a1.toNat)) → (μ.1 66 ((60 : Nat) : Int) ≤ μ'.1 66 ((60 : Nat) : Int) ∧ μ'.1 66 ((60 : Nat) : Int) ≤ μ.1 66 ((60 : Nat) : Int) + 200) → (∀ x : Int, 0 ≤ x → x < 20000 → μ'.1 98 x ≤ μ'.1 66 ((60 : Nat) : Int)) → (zOt μ μ') → ((v = 1 ∧ ∃ B', yR τ (8, p, 0, [], B) (9, ynx τ p, 0, [], B') ∧ rNu μ' B' ∧ rAb μ' B' (a1 + 1) lo) ∨ (v = 0 ∧ rBA τ (8, p, 0, [], B) p)) → Q (some (.inl v)) μ') : ∀ (vs : List zV) (m0 : zM) (n : Nat), yi_X9_findAbove μ a1 lo P τ p B 12 vs m0 n → zw (zOk g d) mt_X9_findAbove ([(12, [0, 1, 2, 3]), (35, [0, 1, 2, 3]), (87, [0, 1, 2, 3]), (163, [0, 1, 2, 3, 4]), (209, [0, 1, 2, 3, 4, 5, 6, 7])], []) (fun pc' vs' μ'' => ∃ n', n' < n ∧ yi_X9_findAbove μ a1 lo P τ p B pc' vs' μ'' n') Q (fun _ _ => False) 214 true (zsuf 12 mt_X9_findAbove.2.2.2.2.1) (zzip [0, 1, 2, 3] vs) [] m0 := by
  have HC := hp3.1
  have WN := zWs_nn hp1.1.1.1 hp1.1.2.1 (n := a1.toNat) (fun f a b => (hp2.1 f a (by omega)).1)
  have WM := Int.mul_nonneg HC.2.2.2.2.1 WN
  obtain ⟨g1, wg1⟩ : ∃ z : Int, μ.1 66 ((24 : Nat) : Int) = z := ⟨_, rfl⟩
  obtain ⟨g2, wg2⟩ : ∃ z : Int, μ.1 66 ((26 : Nat) : Int) = z := ⟨_, rfl⟩
  obtain ⟨g3, wg3⟩ : ∃ z : Int, μ.1 66 ((60 : Nat) : Int) = z := ⟨_, rfl⟩
  have z0 : zfx [67, 68, 69, 70, 71, 72, 73, 74, 80, 97, 98, 99] [8, 60] μ μ := zfx_x μ
  intro vs m0 n hI
  replace hI := hI.1 rfl
  clear z0
  obtain ⟨v1, v2, v3, rfl, z0, hv1, hv2, hv3, i0, i1, i2, i3, i4, rfl⟩ := hI
  obtain ⟨j1, j2⟩ := i0
  subst j1
  have E24 : m0.1 66 ((24 : Nat) : Int) = 21 := (z0.2.1 24 rfl).trans hp0.1
  have E26 : m0.1 66 ((26 : Nat) : Int) = v1 + 1 := (z0.2.1 26 rfl).trans hp0.2
  obtain ⟨g5, wg5⟩ : ∃ z : Int, m0.1 66 ((24 : Nat) : Int) = z := ⟨_, rfl⟩
  obtain ⟨g6, wg6⟩ : ∃ z : Int, m0.1 66 ((26 : Nat) : Int) = z := ⟨_, rfl⟩
  obtain ⟨g7, wg7⟩ : ∃ z : Int, m0.1 66 ((60 : Nat) : Int) = z := ⟨_, rfl⟩
  refine And.intro ⟨⟨by omega, by omega⟩, ⟨by omega, by omega⟩⟩ (And.intro (fun c8 => ?_) (fun c8 => ?_))
  · refine Exists.intro (Int.toNat (2147483648 - 0 + 8 * 4294967296)) (And.intro (by (try rw [wg5]) <;> (try rw [wg6]) <;> (try rw [wg7]) <;> (try rw [wg1]) <;> (try rw [wg2]) <;> (try rw [wg3]) <;> omega) ?_)
    exact ⟨(fun h => absurd h (by decide)), (fun _ => ⟨_, _, _, rfl, z0, ⟨by omega, by omega⟩, ⟨by omega, by omega⟩, ⟨by omega, by omega⟩, ⟨rfl, j2⟩, (zP1_0 hp1.1 hp1.2.1 hp1.2.2 i1 i2 (fun d a b => i3 d a (by omega))), (by have := hp3.1; omega), ⟨i1 98 (by decide), by rw [i1 66 (by decide)]⟩, i4, rfl⟩), (fun h => absurd h (by decide)), (fun h => absurd h (by decide)), (fun h => absurd h (by decide))⟩
  · refine And.intro ⟨by omega, by omega⟩ (And.intro ⟨by omega, by omega⟩ ?_)
    intro m9 em9
    have z10 := zfx_r z0 em9 rfl (by decide)
    have w11 : m9.1 66 ((24 : Nat) : Int) = g5 := by rw [em9]; exact (congrFun (zu_ne (by decide)) _).trans wg5
    have w12 : m9.1 66 ((26 : Nat) : Int) = g6 := by rw [em9]; exact (congrFun (zu_ne (by decide)) _).trans wg6
    have w13 : m9.1 66 ((60 : Nat) : Int) = g7 := by rw [em9]; exact (congrFun (zu_ne (by decide)) _).trans wg7
    have ot14 := zOt_w i4 em9 (by have hk : (441 : Int) ≤ (v2 + v3) := (by omega); refine ⟨fun h => ?_, fun h => ?_, fun h => ?_, fun h => ?_, fun h => ?_⟩ <;> first | exact hk | (exfalso; revert h; decide))
    refine Exists.intro (Int.toNat (2147483648 - (v3 + 1) + 9 * 4294967296)) (And.intro (by (try rw [w11]) <;> (try rw [w12]) <;> (try rw [w13]) <;> (try rw [wg5]) <;> (try rw [wg6]) <;> (try rw [wg7]) <;> (try rw [wg1]) <;> (try rw [wg2]) <;> (try rw [wg3]) <;> omega) ?_)
    exact ⟨(fun _ => ⟨_, _, _, rfl, z10, ⟨by omega, by omega⟩, ⟨by omega, by omega⟩, ⟨by omega, by omega⟩, ⟨rfl, j2⟩, (fun j hj => by rw [em9, zu_ne hj]; exact i1 j hj), (fun q hq => by rw [em9, zu_nk (by omega)]; exact i2 q hq), (fun d a b => by rw [em9]; by_cases h : d = v3 <;> first | (rw [h, show 21 * (21 + v1) + v3 = v2 + v3 by omega, zu_at]) | (rw [zu_nk (by omega)]; exact i3 d a (by omega))), ot14, rfl⟩), (fun h => absurd h (by decide)), (fun h => absurd h (by decide)), (fun h => absurd h (by decide)), (fun h => absurd h (by decide))⟩
set_option maxHeartbeats 4000000 in
theorem ym_X9_findAbove_35 {g : zΓ} (hg : zg g) (d : Nat) (hd : 5 ≤ d + 1) (μ : zM) (Q : Option zV → zM → Prop) (a1 : Int) (lo : Int) (P : Int) (τ : yT) (p : Int) (B : yB) (ha1 : (1 ≤ a1 ∧ a1 ≤ 20)) (hp0 : (μ.1 66 ((24 : Nat) : Int) = 21 ∧ μ.1 66 ((26 : Nat) : Int) = a1 + 1)) (hp1 : (zND μ lo ∧ zUq μ lo ∧ zWf μ lo (zTop μ) (a1 + 1) P 0 (zXn μ))) (hp2 : (zTP μ lo a1 P)) (hp3 : (zCl μ lo a1 P)) (hp4 : (P ≤ 80)) (hp5 : (zTop μ + zXn μ a1 + 1 + μ.1 79 (21 + a1) * zWs μ a1.toNat ≤ 19999)) (hp6 : ((∀ x : Int, 0 ≤ x → x < 20000 → μ.1 98 x ≤ μ.1 66 ((60 : Nat) : Int)) ∧ 0 ≤ μ.1 66 ((60 : Nat) : Int) ∧ μ.1 66 ((60 : Nat) : Int) ≤ 1999000000)) (hp7 : (ykd τ p = 59)) (hp8 : (rNu μ B)) (hp9 : (yInv (8, p, 0, [], B))) (hp10 : (a1 = B.1 0 3)) (hp11 : (rAb μ B a1 lo)) (hp12 : (rSu μ B a1 lo)) (hQ : ∀ (v : Int) (μ' : zM), zfx [67, 68, 69, 70, 71, 72, 73, 74, 80, 97, 98, 99] [8, 60] μ μ' → 0 ≤ v → v ≤ 1 → (zND μ' lo ∧ zOld μ μ' (zTop μ) ∧ zTop μ ≤ zTop μ') → (v = 1 → (zUq μ' lo ∧ zWf μ' lo (zTop μ') (a1 + 1) P 0 (zXn μ') ∧ zTP μ' lo (a1 + 1) P) ∧ zTop μ' ≤ zTop μ + zXn μ a1 + 1 + (if μ.1 79 (21 + a1) = 0 then 0 else zWs μ a1.toNat)) → (μ.1 66 ((60 : Nat) : Int) ≤ μ'.1 66 ((60 : Nat) : Int) ∧ μ'.1 66 ((60 : Nat) : Int) ≤ μ.1 66 ((60 : Nat) : Int) + 200) → (∀ x : Int, 0 ≤ x → x < 20000 → μ'.1 98 x ≤ μ'.1 66 ((60 : Nat) : Int)) → (zOt μ μ') → ((v = 1 ∧ ∃ B', yR τ (8, p, 0, [], B) (9, ynx τ p, 0, [], B') ∧ rNu μ' B' ∧ rAb μ' B' (a1 + 1) lo) ∨ (v = 0 ∧ rBA τ (8, p, 0, [], B) p)) → Q (some (.inl v)) μ') : ∀ (vs : List zV) (m0 : zM) (n : Nat), yi_X9_findAbove μ a1 lo P τ p B 35 vs m0 n → zw (zOk g d) mt_X9_findAbove ([(12, [0, 1, 2, 3]), (35, [0, 1, 2, 3]), (87, [0, 1, 2, 3]), (163, [0, 1, 2, 3, 4]), (209, [0, 1, 2, 3, 4, 5, 6, 7])], []) (fun pc' vs' μ'' => ∃ n', n' < n ∧ yi_X9_findAbove μ a1 lo P τ p B pc' vs' μ'' n') Q (fun _ _ => False) 214 true (zsuf 35 mt_X9_findAbove.2.2.2.2.1) (zzip [0, 1, 2, 3] vs) [] m0 := by
  have HC := hp3.1
  have WN := zWs_nn hp1.1.1.1 hp1.1.2.1 (n := a1.toNat) (fun f a b => (hp2.1 f a (by omega)).1)
  have WM := Int.mul_nonneg HC.2.2.2.2.1 WN
  obtain ⟨g1, wg1⟩ : ∃ z : Int, μ.1 66 ((24 : Nat) : Int) = z := ⟨_, rfl⟩
  obtain ⟨g2, wg2⟩ : ∃ z : Int, μ.1 66 ((26 : Nat) : Int) = z := ⟨_, rfl⟩
  obtain ⟨g3, wg3⟩ : ∃ z : Int, μ.1 66 ((60 : Nat) : Int) = z := ⟨_, rfl⟩
  have z0 : zfx [67, 68, 69, 70, 71, 72, 73, 74, 80, 97, 98, 99] [8, 60] μ μ := zfx_x μ
  intro vs m0 n hI
  replace hI := hI.2.1 rfl
  clear z0
  obtain ⟨v1, v2, v3, rfl, z0, hv1, hv2, hv3, i0, i1, i2, i3, i4, rfl⟩ := hI
  obtain ⟨j1, j2⟩ := i0
  subst j1
  have E24 : m0.1 66 ((24 : Nat) : Int) = 21 := (z0.2.1 24 rfl).trans hp0.1
  have E26 : m0.1 66 ((26 : Nat) : Int) = v1 + 1 := (z0.2.1 26 rfl).trans hp0.2
  obtain ⟨g15, wg15⟩ : ∃ z : Int, m0.1 66 ((24 : Nat) : Int) = z := ⟨_, rfl⟩
  obtain ⟨g16, wg16⟩ : ∃ z : Int, m0.1 66 ((26 : Nat) : Int) = z := ⟨_, rfl⟩
  obtain ⟨g17, wg17⟩ : ∃ z : Int, m0.1 66 ((60 : Nat) : Int) = z := ⟨_, rfl⟩
  intro x18 hx18 kx18 lx18
  rw [wg15] at hx18
  refine And.intro ⟨by omega, by omega⟩ ?_
  intro x19 hx19 kx19 lx19
  rw [show m0.1 77 = μ.1 77 from z0.1 77 (by decide) rfl] at hx19
  have XN : x19 = zXn μ v1 := by rw [hx19, show (x18 + v1) = 21 + v1 by omega]; rfl
  refine And.intro ⟨⟨by omega, by omega⟩, ⟨by omega, by omega⟩⟩ (And.intro (fun c20 => ?_) (fun c20 => ?_))
  · refine Exists.intro (Int.toNat (2147483648 - 0 + 7 * 4294967296)) (And.intro (by (try rw [wg15]) <;> (try rw [wg16]) <;> (try rw [wg17]) <;> (try rw [wg1]) <;> (try rw [wg2]) <;> (try rw [wg3]) <;> omega) ?_)
    exact ⟨(fun h => absurd h (by decide)), (fun h => absurd h (by decide)), (fun _ => ⟨_, _, _, rfl, z0, ⟨by omega, by omega⟩, ⟨by omega, by omega⟩, ⟨by omega, by omega⟩, ⟨rfl, j2⟩, (by rw [show zXn μ v1 = v3 by omega]; exact i1), (fun j a b => by omega), (by have := hp3.1; omega), i3, i4, rfl⟩), (fun h => absurd h (by decide)), (fun h => absurd h (by decide))⟩
  · intro x21 hx21 kx21 lx21
    rw [wg15] at hx21
    refine And.intro ⟨by omega, by omega⟩ ?_
    intro x22 hx22 kx22 lx22
    rw [show m0.1 76 = μ.1 76 from z0.1 76 (by decide) rfl] at hx22
    have XF : x22 = zXf μ v1 := by rw [hx22, show (x21 + v1) = 21 + v1 by omega]; rfl
    refine ⟨zk_X9_make, zm_X9_make hg d (by omega), _, _, _, _, rfl, ⟨by omega, by omega⟩, ⟨by omega, by omega⟩, ⟨by omega, by omega⟩, i1.1.1, (show zTop m0 ≤ 19999 by have h1 := i1.1.2.2.2.2.1; omega), ⟨fun h => absurd h (by decide), fun _ => by omega⟩, (fun i a b => by omega), ?_⟩
    intro x23 m24 qm24 kx23 lx23 p25 p26 p27 p28
    have z29 := zfx_t z0 qm24 rfl rfl
    have w30 : m24.1 66 ((24 : Nat) : Int) = g15 := (qm24.2.1 24 rfl).trans wg15
    have w31 : m24.1 66 ((26 : Nat) : Int) = g16 := (qm24.2.1 26 rfl).trans wg16
    have w32 : m24.1 66 ((60 : Nat) : Int) = g17 := (qm24.2.1 60 rfl).trans wg17
    have ot33 := zOt_fr i4 (qm24.1 76 (by decide) rfl) (qm24.1 77 (by decide) rfl) (qm24.1 78 (by decide) rfl) (qm24.1 79 (by decide) rfl) (qm24.1 80 (by decide) rfl) (qm24.1 83 (by decide) rfl) (qm24.1 84 (by decide) rfl)
    refine And.intro ⟨by omega, by omega⟩ (And.intro ⟨by omega, by omega⟩ ?_)
    intro m34 em34
    have z35 := zfx_r z29 em34 rfl (by decide)
    have w36 : m34.1 66 ((24 : Nat) : Int) = g15 := by rw [em34]; exact (congrFun (zu_ne (by decide)) _).trans w30
    have w37 : m34.1 66 ((26 : Nat) : Int) = g16 := by rw [em34]; exact (congrFun (zu_ne (by decide)) _).trans w31
    have w38 : m34.1 66 ((60 : Nat) : Int) = g17 := by rw [em34]; exact (congrFun (zu_ne (by decide)) _).trans w32
    have ot39 := zOt_w ot33 em34 ⟨fun h => absurd h (by decide), fun h => absurd h (by decide), fun h => absurd h (by decide), fun h => absurd h (by decide), fun h => absurd h (by decide)⟩
    have R := zP1_s i1 (by omega) (show (x22 + v3) = zXf μ v1 + v3 by omega) (by omega) (zMd_of p25 p26 p27 p28) (qm24.1 80 (by decide) rfl) (qm24.1 99 (by decide) rfl) em34 rfl
    refine Exists.intro (Int.toNat (2147483648 - (v3 + 1) + 8 * 4294967296)) (And.intro (by (try rw [w36]) <;> (try rw [w37]) <;> (try rw [w38]) <;> (try rw [wg15]) <;> (try rw [wg16]) <;> (try rw [wg17]) <;> (try rw [wg1]) <;> (try rw [wg2]) <;> (try rw [wg3]) <;> omega) ?_)
    exact ⟨(fun h => absurd h (by decide)), (fun _ => ⟨_, _, _, rfl, z35, ⟨by omega, by omega⟩, ⟨by omega, by omega⟩, ⟨by omega, by omega⟩, ⟨rfl, j2⟩, R, (by omega), ⟨by rw [em34, zu_ne (by decide), qm24.1 98 (by decide) rfl]; exact i3.1, by rw [em34, zu_ne (by decide), qm24.2.1 60 rfl]; exact i3.2⟩, ot39, rfl⟩), (fun h => absurd h (by decide)), (fun h => absurd h (by decide)), (fun h => absurd h (by decide))⟩
set_option maxHeartbeats 4000000 in
theorem ym_X9_findAbove_87 {g : zΓ} (hg : zg g) (d : Nat) (hd : 5 ≤ d + 1) (μ : zM) (Q : Option zV → zM → Prop) (a1 : Int) (lo : Int) (P : Int) (τ : yT) (p : Int) (B : yB) (ha1 : (1 ≤ a1 ∧ a1 ≤ 20)) (hp0 : (μ.1 66 ((24 : Nat) : Int) = 21 ∧ μ.1 66 ((26 : Nat) : Int) = a1 + 1)) (hp1 : (zND μ lo ∧ zUq μ lo ∧ zWf μ lo (zTop μ) (a1 + 1) P 0 (zXn μ))) (hp2 : (zTP μ lo a1 P)) (hp3 : (zCl μ lo a1 P)) (hp4 : (P ≤ 80)) (hp5 : (zTop μ + zXn μ a1 + 1 + μ.1 79 (21 + a1) * zWs μ a1.toNat ≤ 19999)) (hp6 : ((∀ x : Int, 0 ≤ x → x < 20000 → μ.1 98 x ≤ μ.1 66 ((60 : Nat) : Int)) ∧ 0 ≤ μ.1 66 ((60 : Nat) : Int) ∧ μ.1 66 ((60 : Nat) : Int) ≤ 1999000000)) (hp7 : (ykd τ p = 59)) (hp8 : (rNu μ B)) (hp9 : (yInv (8, p, 0, [], B))) (hp10 : (a1 = B.1 0 3)) (hp11 : (rAb μ B a1 lo)) (hp12 : (rSu μ B a1 lo)) (hQ : ∀ (v : Int) (μ' : zM), zfx [67, 68, 69, 70, 71, 72, 73, 74, 80, 97, 98, 99] [8, 60] μ μ' → 0 ≤ v → v ≤ 1 → (zND μ' lo ∧ zOld μ μ' (zTop μ) ∧ zTop μ ≤ zTop μ') → (v = 1 → (zUq μ' lo ∧ zWf μ' lo (zTop μ') (a1 + 1) P 0 (zXn μ') ∧ zTP μ' lo (a1 + 1) P) ∧ zTop μ' ≤ zTop μ + zXn μ a1 + 1 + (if μ.1 79 (21 + a1) = 0 then 0 else zWs μ a1.toNat)) → (μ.1 66 ((60 : Nat) : Int) ≤ μ'.1 66 ((60 : Nat) : Int) ∧ μ'.1 66 ((60 : Nat) : Int) ≤ μ.1 66 ((60 : Nat) : Int) + 200) → (∀ x : Int, 0 ≤ x → x < 20000 → μ'.1 98 x ≤ μ'.1 66 ((60 : Nat) : Int)) → (zOt μ μ') → ((v = 1 ∧ ∃ B', yR τ (8, p, 0, [], B) (9, ynx τ p, 0, [], B') ∧ rNu μ' B' ∧ rAb μ' B' (a1 + 1) lo) ∨ (v = 0 ∧ rBA τ (8, p, 0, [], B) p)) → Q (some (.inl v)) μ') : ∀ (vs : List zV) (m0 : zM) (n : Nat), yi_X9_findAbove μ a1 lo P τ p B 87 vs m0 n → zw (zOk g d) mt_X9_findAbove ([(12, [0, 1, 2, 3]), (35, [0, 1, 2, 3]), (87, [0, 1, 2, 3]), (163, [0, 1, 2, 3, 4]), (209, [0, 1, 2, 3, 4, 5, 6, 7])], []) (fun pc' vs' μ'' => ∃ n', n' < n ∧ yi_X9_findAbove μ a1 lo P τ p B pc' vs' μ'' n') Q (fun _ _ => False) 214 true (zsuf 87 mt_X9_findAbove.2.2.2.2.1) (zzip [0, 1, 2, 3] vs) [] m0 := by
  have HC := hp3.1
  have WN := zWs_nn hp1.1.1.1 hp1.1.2.1 (n := a1.toNat) (fun f a b => (hp2.1 f a (by omega)).1)
  have WM := Int.mul_nonneg HC.2.2.2.2.1 WN
  obtain ⟨g1, wg1⟩ : ∃ z : Int, μ.1 66 ((24 : Nat) : Int) = z := ⟨_, rfl⟩
  obtain ⟨g2, wg2⟩ : ∃ z : Int, μ.1 66 ((26 : Nat) : Int) = z := ⟨_, rfl⟩
  obtain ⟨g3, wg3⟩ : ∃ z : Int, μ.1 66 ((60 : Nat) : Int) = z := ⟨_, rfl⟩
  have z0 : zfx [67, 68, 69, 70, 71, 72, 73, 74, 80, 97, 98, 99] [8, 60] μ μ := zfx_x μ
  intro vs m0 n hI
  replace hI := hI.2.2.1 rfl
  clear z0
  obtain ⟨v1, v2, v3, rfl, z0, hv1, hv2, hv3, i0, i1, i2, i3, i4, i5, rfl⟩ := hI
  obtain ⟨j1, j2⟩ := i0
  subst j1
  have E24 : m0.1 66 ((24 : Nat) : Int) = 21 := (z0.2.1 24 rfl).trans hp0.1
  have E26 : m0.1 66 ((26 : Nat) : Int) = v1 + 1 := (z0.2.1 26 rfl).trans hp0.2
  obtain ⟨g40, wg40⟩ : ∃ z : Int, m0.1 66 ((24 : Nat) : Int) = z := ⟨_, rfl⟩
  obtain ⟨g41, wg41⟩ : ∃ z : Int, m0.1 66 ((26 : Nat) : Int) = z := ⟨_, rfl⟩
  obtain ⟨g42, wg42⟩ : ∃ z : Int, m0.1 66 ((60 : Nat) : Int) = z := ⟨_, rfl⟩
  intro x43 hx43 kx43 lx43
  rw [wg40] at hx43
  refine And.intro ⟨by omega, by omega⟩ ?_
  intro x44 hx44 kx44 lx44
  rw [show m0.1 77 = μ.1 77 from z0.1 77 (by decide) rfl] at hx44
  have XN : x44 = zXn μ v1 := by rw [hx44, show (x43 + v1) = 21 + v1 by omega]; rfl
  refine And.intro ⟨⟨by omega, by omega⟩, ⟨by omega, by omega⟩⟩ (And.intro (fun c45 => ?_) (fun c45 => ?_))
  · intro x46 hx46 kx46 lx46
    rw [wg40] at hx46
    refine And.intro ⟨by omega, by omega⟩ ?_
    intro x47 hx47 kx47 lx47
    rw [show m0.1 77 = μ.1 77 from z0.1 77 (by decide) rfl] at hx47
    have XO : x47 = zXn μ v1 := by rw [hx47, show (x46 + v1) = 21 + v1 by omega]; rfl
    refine ⟨zk_X9_make, zm_X9_make hg d (by omega), _, _, _, _, rfl, ⟨by omega, by omega⟩, ⟨by omega, by omega⟩, ⟨by omega, by omega⟩, i1.1.1, (show zTop m0 ≤ 19999 by have h1 := i1.1.2.2.2.2.1; omega), ⟨fun _ => by omega, fun h => absurd h (by decide)⟩, (fun i a b => by rw [i2 i a (by omega)]; have h1 := (i1.2.2 i a (by omega)).1; have h2 := hp1.1.1.1; omega), ?_⟩
    intro x48 m49 qm49 kx48 lx48 p50 p51 p52 p53
    have z54 := zfx_t z0 qm49 rfl rfl
    have w55 : m49.1 66 ((24 : Nat) : Int) = g40 := (qm49.2.1 24 rfl).trans wg40
    have w56 : m49.1 66 ((26 : Nat) : Int) = g41 := (qm49.2.1 26 rfl).trans wg41
    have w57 : m49.1 66 ((60 : Nat) : Int) = g42 := (qm49.2.1 60 rfl).trans wg42
    have ot58 := zOt_fr i5 (qm49.1 76 (by decide) rfl) (qm49.1 77 (by decide) rfl) (qm49.1 78 (by decide) rfl) (qm49.1 79 (by decide) rfl) (qm49.1 80 (by decide) rfl) (qm49.1 83 (by decide) rfl) (qm49.1 84 (by decide) rfl)
    refine And.intro ⟨by omega, by omega⟩ (And.intro ⟨by omega, by omega⟩ ?_)
    intro m59 em59
    have z60 := zfx_r z54 em59 rfl (by decide)
    have w61 : m59.1 66 ((24 : Nat) : Int) = g40 := by rw [em59]; exact (congrFun (zu_ne (by decide)) _).trans w55
    have w62 : m59.1 66 ((26 : Nat) : Int) = g41 := by rw [em59]; exact (congrFun (zu_ne (by decide)) _).trans w56
    have w63 : m59.1 66 ((60 : Nat) : Int) = g42 := by rw [em59]; exact (congrFun (zu_ne (by decide)) _).trans w57
    have ot64 := zOt_w ot58 em59 (by have hk : (441 : Int) ≤ (v2 + v1) := (by omega); refine ⟨fun h => ?_, fun h => ?_, fun h => ?_, fun h => ?_, fun h => ?_⟩ <;> first | exact hk | (exfalso; revert h; decide))
    rw [XO] at p51 p52
    have D1 := zMd_of p50 p51 p52 p53
    have T3 : zTop m59 = zTop m49 := congrFun (show m59.1 66 = m49.1 66 by rw [em59, zu_ne (by decide)]) _
    have N3 : zND m59 lo := zND_t.2 (by rw [T3]; exact zNDt_same (fun j a b => by rw [em59, zu_ne (by omega)]) (zND_t.1 p50))
    have D1t := zMd_tp D1
    refine ⟨zk_X9_make, zm_X9_make hg d (by omega), _, _, _, _, rfl, ⟨by omega, by omega⟩, ⟨by omega, by omega⟩, ⟨by omega, by omega⟩, N3, (show zTop m59 ≤ 19999 by have h1 := i1.1.2.2.2.2.1; omega), ⟨fun _ => by omega, fun h => absurd h (by decide)⟩, (fun i a b => by omega), ?_⟩
    intro x65 m66 qm66 kx65 lx65 p67 p68 p69 p70
    have z71 := zfx_t z60 qm66 rfl rfl
    have w72 : m66.1 66 ((24 : Nat) : Int) = g40 := (qm66.2.1 24 rfl).trans w61
    have w73 : m66.1 66 ((26 : Nat) : Int) = g41 := (qm66.2.1 26 rfl).trans w62
    have w74 : m66.1 66 ((60 : Nat) : Int) = g42 := (qm66.2.1 60 rfl).trans w63
    have ot75 := zOt_fr ot64 (qm66.1 76 (by decide) rfl) (qm66.1 77 (by decide) rfl) (qm66.1 78 (by decide) rfl) (qm66.1 79 (by decide) rfl) (qm66.1 80 (by decide) rfl) (qm66.1 83 (by decide) rfl) (qm66.1 84 (by decide) rfl)
    refine And.intro ⟨by omega, by omega⟩ (And.intro ⟨by omega, by omega⟩ ?_)
    intro m76 em76
    have z77 := zfx_r z71 em76 rfl (by decide)
    have w78 : m76.1 66 ((24 : Nat) : Int) = g40 := by rw [em76]; exact (congrFun (zu_ne (by decide)) _).trans w72
    have w79 : m76.1 66 ((26 : Nat) : Int) = g41 := by rw [em76]; exact (congrFun (zu_ne (by decide)) _).trans w73
    have w80 : m76.1 66 ((60 : Nat) : Int) = g42 := by rw [em76]; exact (congrFun (zu_ne (by decide)) _).trans w74
    have ot81 := zOt_w ot75 em76 (by have hk : (441 : Int) ≤ v2 := (by omega); refine ⟨fun h => ?_, fun h => ?_, fun h => ?_, fun h => ?_, fun h => ?_⟩ <;> first | exact hk | (exfalso; revert h; decide))
    have RV := zRv_mk i1 rfl (fun j a b => i2 j a (by omega)) D1 em59 (by omega) (zMd_of p67 p68 p69 p70) em76 (by omega) (qm49.1 80 (by decide) rfl) (qm66.1 80 (by decide) rfl) (fun j a b c => z77.1 j (by omega) (zanyF (by simp <;> omega))) ⟨by omega, by omega⟩ hp2 hp3 hp1.1.2.1 hp5
    have S8 : m76.1 98 = μ.1 98 ∧ m76.1 66 ((60 : Nat) : Int) = μ.1 66 ((60 : Nat) : Int) := ⟨by rw [em76, zu_ne (by decide), qm66.1 98 (by decide) rfl, em59, zu_ne (by decide), qm49.1 98 (by decide) rfl]; exact i4.1, by rw [em76, zu_ne (by decide), qm66.2.1 60 rfl, em59, zu_ne (by decide), qm49.2.1 60 rfl]; exact i4.2⟩
    have NU : rNu m76 B := rNu_z hp8 z77 ⟨rfl, rfl, rfl, rfl, rfl, rfl⟩ ⟨rfl, rfl, rfl, rfl, rfl, rfl⟩
    have GA := rGA_0 (τ := τ) (p := p) RV.1 hp7 NU hp10.symm (hp8.1.2.2.1.symm.trans hp0.2) hp11 hp12 hp1.1.2.1 (fun q hq => by rw [em76, zu_nk (by omega), qm66.1 80 (by decide) rfl, em59, zu_nk (by omega), qm49.1 80 (by decide) rfl]; exact i1.2.1.1 q hq)
    refine Exists.intro (Int.toNat ((5 - 0) * 1000 + 999)) (And.intro (by (try rw [w78]) <;> (try rw [w79]) <;> (try rw [w80]) <;> (try rw [wg40]) <;> (try rw [wg41]) <;> (try rw [wg42]) <;> (try rw [wg1]) <;> (try rw [wg2]) <;> (try rw [wg3]) <;> omega) ?_)
    exact ⟨(fun h => absurd h (by decide)), (fun h => absurd h (by decide)), (fun h => absurd h (by decide)), (fun _ => ⟨_, _, _, _, rfl, z77, ⟨by omega, by omega⟩, ⟨by omega, by omega⟩, ⟨by omega, by omega⟩, ⟨by omega, by omega⟩, ⟨rfl, j2⟩, ⟨_, RV, zFA_0 RV.1.1⟩, (by have := hp3.1; omega), (by rw [S8.2]; omega), (by rw [S8.1, S8.2]; exact hp6.1), ot81, (Or.inl ⟨rfl, GA⟩), rfl⟩), (fun h => absurd h (by decide))⟩
  · refine And.intro ⟨by omega, by omega⟩ ?_
    intro x82 hx82 kx82 lx82
    refine And.intro ⟨by omega, by omega⟩ (And.intro ⟨by omega, by omega⟩ ?_)
    intro m83 em83
    have z84 := zfx_r z0 em83 rfl (by decide)
    have w85 : m83.1 66 ((24 : Nat) : Int) = g40 := by rw [em83]; exact (congrFun (zu_ne (by decide)) _).trans wg40
    have w86 : m83.1 66 ((26 : Nat) : Int) = g41 := by rw [em83]; exact (congrFun (zu_ne (by decide)) _).trans wg41
    have w87 : m83.1 66 ((60 : Nat) : Int) = g42 := by rw [em83]; exact (congrFun (zu_ne (by decide)) _).trans wg42
    have ot88 := zOt_w i5 em83 ⟨fun h => absurd h (by decide), fun h => absurd h (by decide), fun h => absurd h (by decide), fun h => absurd h (by decide), fun h => absurd h (by decide)⟩
    refine Exists.intro (Int.toNat (2147483648 - (v3 + 1) + 7 * 4294967296)) (And.intro (by (try rw [w85]) <;> (try rw [w86]) <;> (try rw [w87]) <;> (try rw [wg40]) <;> (try rw [wg41]) <;> (try rw [wg42]) <;> (try rw [wg1]) <;> (try rw [wg2]) <;> (try rw [wg3]) <;> omega) ?_)
    exact ⟨(fun h => absurd h (by decide)), (fun h => absurd h (by decide)), (fun _ => ⟨_, _, _, rfl, z84, ⟨by omega, by omega⟩, ⟨by omega, by omega⟩, ⟨by omega, by omega⟩, ⟨rfl, j2⟩, (zP1_f i1 (fun j hj => by rw [em83, zu_ne hj])), (fun j a b => by rw [em83, zu_ne (show (99 : Nat) ≠ 74 by decide)]; by_cases h : j = v3 <;> first | (rw [h, zu_at, hx82]) | (rw [zu_nk h]; exact i2 j a (by omega))), (by omega), (by rw [em83, zu_ne (show (98 : Nat) ≠ 74 by decide), zu_ne (show (66 : Nat) ≠ 74 by decide)]; exact i4), ot88, rfl⟩), (fun h => absurd h (by decide)), (fun h => absurd h (by decide))⟩
set_option maxHeartbeats 4000000 in
theorem ym_X9_findAbove_163 {g : zΓ} (hg : zg g) (d : Nat) (hd : 5 ≤ d + 1) (μ : zM) (Q : Option zV → zM → Prop) (a1 : Int) (lo : Int) (P : Int) (τ : yT) (p : Int) (B : yB) (ha1 : (1 ≤ a1 ∧ a1 ≤ 20)) (hp0 : (μ.1 66 ((24 : Nat) : Int) = 21 ∧ μ.1 66 ((26 : Nat) : Int) = a1 + 1)) (hp1 : (zND μ lo ∧ zUq μ lo ∧ zWf μ lo (zTop μ) (a1 + 1) P 0 (zXn μ))) (hp2 : (zTP μ lo a1 P)) (hp3 : (zCl μ lo a1 P)) (hp4 : (P ≤ 80)) (hp5 : (zTop μ + zXn μ a1 + 1 + μ.1 79 (21 + a1) * zWs μ a1.toNat ≤ 19999)) (hp6 : ((∀ x : Int, 0 ≤ x → x < 20000 → μ.1 98 x ≤ μ.1 66 ((60 : Nat) : Int)) ∧ 0 ≤ μ.1 66 ((60 : Nat) : Int) ∧ μ.1 66 ((60 : Nat) : Int) ≤ 1999000000)) (hp7 : (ykd τ p = 59)) (hp8 : (rNu μ B)) (hp9 : (yInv (8, p, 0, [], B))) (hp10 : (a1 = B.1 0 3)) (hp11 : (rAb μ B a1 lo)) (hp12 : (rSu μ B a1 lo)) (hQ : ∀ (v : Int) (μ' : zM), zfx [67, 68, 69, 70, 71, 72, 73, 74, 80, 97, 98, 99] [8, 60] μ μ' → 0 ≤ v → v ≤ 1 → (zND μ' lo ∧ zOld μ μ' (zTop μ) ∧ zTop μ ≤ zTop μ') → (v = 1 → (zUq μ' lo ∧ zWf μ' lo (zTop μ') (a1 + 1) P 0 (zXn μ') ∧ zTP μ' lo (a1 + 1) P) ∧ zTop μ' ≤ zTop μ + zXn μ a1 + 1 + (if μ.1 79 (21 + a1) = 0 then 0 else zWs μ a1.toNat)) → (μ.1 66 ((60 : Nat) : Int) ≤ μ'.1 66 ((60 : Nat) : Int) ∧ μ'.1 66 ((60 : Nat) : Int) ≤ μ.1 66 ((60 : Nat) : Int) + 200) → (∀ x : Int, 0 ≤ x → x < 20000 → μ'.1 98 x ≤ μ'.1 66 ((60 : Nat) : Int)) → (zOt μ μ') → ((v = 1 ∧ ∃ B', yR τ (8, p, 0, [], B) (9, ynx τ p, 0, [], B') ∧ rNu μ' B' ∧ rAb μ' B' (a1 + 1) lo) ∨ (v = 0 ∧ rBA τ (8, p, 0, [], B) p)) → Q (some (.inl v)) μ') : ∀ (vs : List zV) (m0 : zM) (n : Nat), yi_X9_findAbove μ a1 lo P τ p B 163 vs m0 n → zw (zOk g d) mt_X9_findAbove ([(12, [0, 1, 2, 3]), (35, [0, 1, 2, 3]), (87, [0, 1, 2, 3]), (163, [0, 1, 2, 3, 4]), (209, [0, 1, 2, 3, 4, 5, 6, 7])], []) (fun pc' vs' μ'' => ∃ n', n' < n ∧ yi_X9_findAbove μ a1 lo P τ p B pc' vs' μ'' n') Q (fun _ _ => False) 214 true (zsuf 163 mt_X9_findAbove.2.2.2.2.1) (zzip [0, 1, 2, 3, 4] vs) [] m0 := by
  have HC := hp3.1
  have WN := zWs_nn hp1.1.1.1 hp1.1.2.1 (n := a1.toNat) (fun f a b => (hp2.1 f a (by omega)).1)
  have WM := Int.mul_nonneg HC.2.2.2.2.1 WN
  obtain ⟨g1, wg1⟩ : ∃ z : Int, μ.1 66 ((24 : Nat) : Int) = z := ⟨_, rfl⟩
  obtain ⟨g2, wg2⟩ : ∃ z : Int, μ.1 66 ((26 : Nat) : Int) = z := ⟨_, rfl⟩
  obtain ⟨g3, wg3⟩ : ∃ z : Int, μ.1 66 ((60 : Nat) : Int) = z := ⟨_, rfl⟩
  have z0 : zfx [67, 68, 69, 70, 71, 72, 73, 74, 80, 97, 98, 99] [8, 60] μ μ := zfx_x μ
  intro vs m0 n hI
  replace hI := hI.2.2.2.1 rfl
  clear z0
  obtain ⟨v1, v2, v3, v4, rfl, z0, hv1, hv2, hv3, hv4, i0, i1, i2, i3, i4, i5, i6, rfl⟩ := hI
  obtain ⟨j1, j2⟩ := i0
  subst j1
  have E24 : m0.1 66 ((24 : Nat) : Int) = 21 := (z0.2.1 24 rfl).trans hp0.1
  have E26 : m0.1 66 ((26 : Nat) : Int) = v1 + 1 := (z0.2.1 26 rfl).trans hp0.2
  obtain ⟨ν, ⟨hR, hW⟩, hF⟩ := i1
  have E79 : ν.1 79 (21 + v1) = μ.1 79 (21 + v1) := by rw [hR.2.2.2.1 79 (by omega) (by omega) (by omega)]
  obtain ⟨g89, wg89⟩ : ∃ z : Int, m0.1 66 ((24 : Nat) : Int) = z := ⟨_, rfl⟩
  obtain ⟨g90, wg90⟩ : ∃ z : Int, m0.1 66 ((26 : Nat) : Int) = z := ⟨_, rfl⟩
  obtain ⟨g91, wg91⟩ : ∃ z : Int, m0.1 66 ((60 : Nat) : Int) = z := ⟨_, rfl⟩
  intro x92 hx92 kx92 lx92
  rw [wg89] at hx92
  refine And.intro ⟨by omega, by omega⟩ ?_
  intro x93 hx93 kx93 lx93
  rw [show m0.1 79 = μ.1 79 from z0.1 79 (by decide) rfl] at hx93
  have X79 : x93 = μ.1 79 (21 + v1) := by rw [hx93, show (x92 + v1) = 21 + v1 by omega]
  refine And.intro ⟨⟨by omega, by omega⟩, ⟨by omega, by omega⟩⟩ (And.intro (fun c94 => ?_) (fun c94 => ?_))
  · exact And.intro (zrtb (by omega)) (And.intro ⟨by omega, by omega⟩ (hQ _ _ z0 (by omega) (by omega) ⟨hF.1.1, zOld_t hR.2.1 hF.1.2.2.1 hR.2.2.1.1, by have h1 := hR.2.2.1.1; have h2 := hF.1.2.2.2.1; omega⟩ (fun h => by rw [show v3 = 1 by omega] at hF; exact zFA_fin hR hW hF (by rw [E79]; omega) (z0.1 83 (by decide) rfl) (z0.1 84 (by decide) rfl)) (by omega) i4 i5 (by rcases i6 with h0 | h0; exact Or.inl ⟨h0.1, rGA_e h0.2 (by omega) E26 (by rw [hF.2.1.1 79 (by decide) (by decide), E79]; omega)⟩; exact Or.inr h0)))
  · intro x95 hx95 kx95 lx95
    rw [wg89] at hx95
    refine And.intro ⟨by omega, by omega⟩ ?_
    intro x96 hx96 kx96 lx96
    rw [show m0.1 78 = μ.1 78 from z0.1 78 (by decide) rfl] at hx96
    have XS : x96 = zXs ν v1 v4 := by unfold zXs; rw [hx96, show ((4 * (x95 + v1)) + v4) = 4 * (21 + v1) + v4 by omega, hR.2.2.2.1 78 (by omega) (by omega) (by omega)]
    have SS := zBs_s hR.1 (i := v4) (by omega) (by rw [E79]; omega)
    have SX := SS.1.1
    have L0 := hR.1.1.1.1.1
    refine And.intro ⟨by omega, by omega⟩ ?_
    intro x97 hx97 kx97 lx97
    have XE : x97 = zXe ν v1 v4 := by rw [hx97, XS]; exact (hF.1.2.2.1 _ (by omega) SX.2).2.1
    have EC := SS.2.1
    refine Exists.intro (Int.toNat ((5 - v4) * 1000 + 30 - 0)) (And.intro (by (try rw [wg89]) <;> (try rw [wg90]) <;> (try rw [wg91]) <;> (try rw [wg1]) <;> (try rw [wg2]) <;> (try rw [wg3]) <;> omega) ?_)
    exact ⟨(fun h => absurd h (by decide)), (fun h => absurd h (by decide)), (fun h => absurd h (by decide)), (fun h => absurd h (by decide)), (fun _ => ⟨_, _, _, _, _, _, _, rfl, z0, ⟨by omega, by omega⟩, ⟨by omega, by omega⟩, ⟨by omega, by omega⟩, ⟨by omega, by omega⟩, ⟨by omega, by omega⟩, ⟨by omega, by omega⟩, ⟨by omega, by omega⟩, ⟨rfl, j2⟩, ⟨ν, ⟨hR, hW⟩, zFA_J hF (by omega), XS, XE⟩, (by omega), (by omega), (by omega), i4, i5, i6, rfl⟩)⟩
set_option maxHeartbeats 4000000 in
theorem ym_X9_findAbove_209 {g : zΓ} (hg : zg g) (d : Nat) (hd : 5 ≤ d + 1) (μ : zM) (Q : Option zV → zM → Prop) (a1 : Int) (lo : Int) (P : Int) (τ : yT) (p : Int) (B : yB) (ha1 : (1 ≤ a1 ∧ a1 ≤ 20)) (hp0 : (μ.1 66 ((24 : Nat) : Int) = 21 ∧ μ.1 66 ((26 : Nat) : Int) = a1 + 1)) (hp1 : (zND μ lo ∧ zUq μ lo ∧ zWf μ lo (zTop μ) (a1 + 1) P 0 (zXn μ))) (hp2 : (zTP μ lo a1 P)) (hp3 : (zCl μ lo a1 P)) (hp4 : (P ≤ 80)) (hp5 : (zTop μ + zXn μ a1 + 1 + μ.1 79 (21 + a1) * zWs μ a1.toNat ≤ 19999)) (hp6 : ((∀ x : Int, 0 ≤ x → x < 20000 → μ.1 98 x ≤ μ.1 66 ((60 : Nat) : Int)) ∧ 0 ≤ μ.1 66 ((60 : Nat) : Int) ∧ μ.1 66 ((60 : Nat) : Int) ≤ 1999000000)) (hp7 : (ykd τ p = 59)) (hp8 : (rNu μ B)) (hp9 : (yInv (8, p, 0, [], B))) (hp10 : (a1 = B.1 0 3)) (hp11 : (rAb μ B a1 lo)) (hp12 : (rSu μ B a1 lo)) (hQ : ∀ (v : Int) (μ' : zM), zfx [67, 68, 69, 70, 71, 72, 73, 74, 80, 97, 98, 99] [8, 60] μ μ' → 0 ≤ v → v ≤ 1 → (zND μ' lo ∧ zOld μ μ' (zTop μ) ∧ zTop μ ≤ zTop μ') → (v = 1 → (zUq μ' lo ∧ zWf μ' lo (zTop μ') (a1 + 1) P 0 (zXn μ') ∧ zTP μ' lo (a1 + 1) P) ∧ zTop μ' ≤ zTop μ + zXn μ a1 + 1 + (if μ.1 79 (21 + a1) = 0 then 0 else zWs μ a1.toNat)) → (μ.1 66 ((60 : Nat) : Int) ≤ μ'.1 66 ((60 : Nat) : Int) ∧ μ'.1 66 ((60 : Nat) : Int) ≤ μ.1 66 ((60 : Nat) : Int) + 200) → (∀ x : Int, 0 ≤ x → x < 20000 → μ'.1 98 x ≤ μ'.1 66 ((60 : Nat) : Int)) → (zOt μ μ') → ((v = 1 ∧ ∃ B', yR τ (8, p, 0, [], B) (9, ynx τ p, 0, [], B') ∧ rNu μ' B' ∧ rAb μ' B' (a1 + 1) lo) ∨ (v = 0 ∧ rBA τ (8, p, 0, [], B) p)) → Q (some (.inl v)) μ') : ∀ (vs : List zV) (m0 : zM) (n : Nat), yi_X9_findAbove μ a1 lo P τ p B 209 vs m0 n → zw (zOk g d) mt_X9_findAbove ([(12, [0, 1, 2, 3]), (35, [0, 1, 2, 3]), (87, [0, 1, 2, 3]), (163, [0, 1, 2, 3, 4]), (209, [0, 1, 2, 3, 4, 5, 6, 7])], []) (fun pc' vs' μ'' => ∃ n', n' < n ∧ yi_X9_findAbove μ a1 lo P τ p B pc' vs' μ'' n') Q (fun _ _ => False) 214 true (zsuf 209 mt_X9_findAbove.2.2.2.2.1) (zzip [0, 1, 2, 3, 4, 5, 6, 7] vs) [] m0 := by
  have HC := hp3.1
  have WN := zWs_nn hp1.1.1.1 hp1.1.2.1 (n := a1.toNat) (fun f a b => (hp2.1 f a (by omega)).1)
  have WM := Int.mul_nonneg HC.2.2.2.2.1 WN
  obtain ⟨g1, wg1⟩ : ∃ z : Int, μ.1 66 ((24 : Nat) : Int) = z := ⟨_, rfl⟩
  obtain ⟨g2, wg2⟩ : ∃ z : Int, μ.1 66 ((26 : Nat) : Int) = z := ⟨_, rfl⟩
  obtain ⟨g3, wg3⟩ : ∃ z : Int, μ.1 66 ((60 : Nat) : Int) = z := ⟨_, rfl⟩
  have z0 : zfx [67, 68, 69, 70, 71, 72, 73, 74, 80, 97, 98, 99] [8, 60] μ μ := zfx_x μ
  intro vs m0 n hI
  replace hI := hI.2.2.2.2 rfl
  clear z0
  obtain ⟨v1, v2, v3, v4, v5, v6, v7, rfl, z0, hv1, hv2, hv3, hv4, hv5, hv6, hv7, i0, i1, i2, i3, i4, i5, i6, i7, rfl⟩ := hI
  obtain ⟨j1, j2⟩ := i0
  subst j1
  have E24 : m0.1 66 ((24 : Nat) : Int) = 21 := (z0.2.1 24 rfl).trans hp0.1
  have E26 : m0.1 66 ((26 : Nat) : Int) = v1 + 1 := (z0.2.1 26 rfl).trans hp0.2
  obtain ⟨ν, ⟨hR, hW⟩, hF, hs, he⟩ := i1
  have E79 : ν.1 79 (21 + v1) = μ.1 79 (21 + v1) := by rw [hR.2.2.2.1 79 (by omega) (by omega) (by omega)]
  have SS := zBs_s hR.1 (i := v4) (by omega) (by rw [E79]; omega)
  have EC := SS.2.1
  obtain ⟨g98, wg98⟩ : ∃ z : Int, m0.1 66 ((24 : Nat) : Int) = z := ⟨_, rfl⟩
  obtain ⟨g99, wg99⟩ : ∃ z : Int, m0.1 66 ((26 : Nat) : Int) = z := ⟨_, rfl⟩
  obtain ⟨g100, wg100⟩ : ∃ z : Int, m0.1 66 ((60 : Nat) : Int) = z := ⟨_, rfl⟩
  intro x101 hx101 kx101 lx101
  rw [wg99] at hx101
  refine And.intro ⟨⟨by omega, by omega⟩, ⟨by omega, by omega⟩⟩ (And.intro (fun c102 => ?_) (fun c102 => ?_))
  · refine Exists.intro (Int.toNat ((5 - (v4 + 1)) * 1000 + 999)) (And.intro (by (try rw [wg98]) <;> (try rw [wg99]) <;> (try rw [wg100]) <;> (try rw [wg1]) <;> (try rw [wg2]) <;> (try rw [wg3]) <;> omega) ?_)
    exact ⟨(fun h => absurd h (by decide)), (fun h => absurd h (by decide)), (fun h => absurd h (by decide)), (fun _ => ⟨_, _, _, _, rfl, z0, ⟨by omega, by omega⟩, ⟨by omega, by omega⟩, ⟨by omega, by omega⟩, ⟨by omega, by omega⟩, ⟨rfl, j2⟩, ⟨ν, ⟨hR, hW⟩, zFA_next hR.1 hF (by omega) (by rw [E79]; omega) (by omega) (Int.le_refl _)⟩, (by omega), (by omega), i5, i6, (by rcases i7 with h0 | h0; exact Or.inl ⟨h0.1, rGA_d h0.2 (by omega) E26 (by rw [hF.2.1.1 79 (by decide) (by decide), E79]; exact i2) (by omega)⟩; exact Or.inr h0), rfl⟩), (fun h => absurd h (by decide))⟩
  · intro x103 hx103 kx103 lx103
    rw [wg98] at hx103
    refine And.intro ⟨by omega, by omega⟩ ?_
    intro x104 hx104 kx104 lx104
    have XT : x104 = zXa ν (zXe ν v1 v4) v7 := by unfold zXa; rw [hx104, show ((21 * (x103 + v6)) + v7) = 21 * (21 + zXe ν v1 v4) + v7 by omega]; exact hF.2.1.2 _ (by omega)
    refine And.intro ⟨by omega, by omega⟩ (And.intro (fun c105 => ?_) (fun c105 => ?_))
    · refine Exists.intro (Int.toNat ((5 - v4) * 1000 + 30 - (v7 + 1))) (And.intro (by (try rw [wg98]) <;> (try rw [wg99]) <;> (try rw [wg100]) <;> (try rw [wg1]) <;> (try rw [wg2]) <;> (try rw [wg3]) <;> omega) ?_)
      exact ⟨(fun h => absurd h (by decide)), (fun h => absurd h (by decide)), (fun h => absurd h (by decide)), (fun h => absurd h (by decide)), (fun _ => ⟨_, _, _, _, _, _, _, rfl, z0, ⟨by omega, by omega⟩, ⟨by omega, by omega⟩, ⟨by omega, by omega⟩, ⟨by omega, by omega⟩, ⟨by omega, by omega⟩, ⟨by omega, by omega⟩, ⟨by omega, by omega⟩, ⟨rfl, j2⟩, ⟨ν, ⟨hR, hW⟩, zFA_skip hF (Int.le_refl _) (by omega), hs, he⟩, (by omega), (by omega), (by omega), i5, i6, (by rcases i7 with h0 | h0; exact Or.inl ⟨h0.1, rGA_s h0.2 hR.1 hF E26 (by omega) (by rw [E79]; exact i2) (by omega) (by omega) (by omega) (by omega)⟩; exact Or.inr h0), rfl⟩)⟩
    · intro x106 hx106 kx106 lx106
      rw [wg98] at hx106
      refine And.intro ⟨by omega, by omega⟩ ?_
      intro x107 hx107 kx107 lx107
      rw [show m0.1 76 = μ.1 76 from z0.1 76 (by decide) rfl] at hx107
      have XF : x107 = zXf ν (zXe ν v1 v4) := by unfold zXf; rw [hx107, show (x106 + v6) = 21 + zXe ν v1 v4 by omega, hR.2.2.2.1 76 (by omega) (by omega) (by omega)]
      intro x108 hx108 kx108 lx108
      rw [wg98] at hx108
      refine And.intro ⟨by omega, by omega⟩ ?_
      intro x109 hx109 kx109 lx109
      rw [show m0.1 77 = μ.1 77 from z0.1 77 (by decide) rfl] at hx109
      have XN : x109 = zXn ν (zXe ν v1 v4) := by unfold zXn; rw [hx109, show (x108 + v6) = 21 + zXe ν v1 v4 by omega, hR.2.2.2.1 77 (by omega) (by omega) (by omega)]
      have FP := zFA_pre hR.1 hF (by omega) (by rw [E79]; omega) (by omega) (by omega) (by omega) (show 0 ≤ zXa ν (zXe ν v1 v4) v7 by omega)
      have TT := zFA_top hR hF (by omega) (by rw [E79]; omega)
      have FT : x104 < zTop m0 := by rw [XT]; exact FP.1.2.2
      have FS := FP.1.2.1
      refine ⟨zk_X9_substitute2, zm_X9_substitute2 hg d (by omega), _, _, _, _, _, _, _, rfl, ⟨by omega, by omega⟩, ⟨by omega, by omega⟩, ⟨by omega, by omega⟩, ⟨by omega, by omega⟩, hF.1.1, ⟨FT, by rw [hs]; exact FS.2, by rw [XN, hs, FP.2.1]; exact Int.le_refl _, by omega⟩, rfl, ⟨by omega, by omega⟩, (fun x a b => by have := i5 x a b; omega), (zsb_P (k := 20000) hF.1.1.2.1 (by omega) FT (by omega)), (fun m hJ hU => by rw [XT, XF, XN, hs] at hJ; exact zFA_bd hR hF (Int.le_refl _) (by omega) (by rw [E79]; omega) (by omega) (by omega) (by omega) (by omega) hJ hU), (by rw [XT]; have := FP.2.2.2.2.2.2.1.1; omega), ?_⟩
      intro x110 m111 qm111 kx110 lx110 p112 p113 p114 p115 p116
      have z117 := zfx_t z0 qm111 rfl rfl
      have w118 : m111.1 66 ((24 : Nat) : Int) = g98 := (qm111.2.1 24 rfl).trans wg98
      have w119 : m111.1 66 ((26 : Nat) : Int) = g99 := (qm111.2.1 26 rfl).trans wg99
      obtain ⟨g120, wg120⟩ : ∃ z : Int, m111.1 66 ((60 : Nat) : Int) = z := ⟨_, rfl⟩
      have ot121 := zOt_fr i6 (qm111.1 76 (by decide) rfl) (qm111.1 77 (by decide) rfl) (qm111.1 78 (by decide) rfl) (qm111.1 79 (by decide) rfl) (qm111.1 80 (by decide) rfl) (qm111.1 83 (by decide) rfl) (qm111.1 84 (by decide) rfl)
      rw [XT, XF, XN, hs] at p112
      rw [XT] at p113
      refine And.intro ⟨by omega, by omega⟩ (And.intro (fun c122 => ?_) (fun c122 => ?_))
      · refine And.intro ⟨by omega, by omega⟩ (And.intro ⟨by omega, by omega⟩ ?_)
        intro m123 em123
        have z124 := zfx_r z117 em123 rfl (by decide)
        have w125 : m123.1 66 ((24 : Nat) : Int) = g98 := by rw [em123]; exact (congrFun (zu_ne (by decide)) _).trans w118
        have w126 : m123.1 66 ((26 : Nat) : Int) = g99 := by rw [em123]; exact (congrFun (zu_ne (by decide)) _).trans w119
        have w127 : m123.1 66 ((60 : Nat) : Int) = g120 := by rw [em123]; exact (congrFun (zu_ne (by decide)) _).trans wg120
        have ot128 := zOt_w ot121 em123 (by have hk : (441 : Int) ≤ (v2 + v7) := (by omega); refine ⟨fun h => ?_, fun h => ?_, fun h => ?_, fun h => ?_, fun h => ?_⟩ <;> first | exact hk | (exfalso; revert h; decide))
        have R := zFA_put (g' := 0) hR.1 hF (Int.le_refl _) (by omega) (by rw [E79]; omega) (by omega) (by omega) (by omega) (by omega) p112 (p116 hF.1.2.1) p113.1 p113.2 (fun j a b => qm111.1 j (by omega) (zanyF (by simp <;> omega))) em123 (by omega) (fun h => absurd h (by decide))
        have GP := fun h0 => rGA_p (τ := τ) (s := (8, p, 0, [], B)) (p := p) h0 hp9 hR.1 hF (Int.le_refl _) E26 (by omega) (by rw [E79]; omega) (by omega) (by omega) (by omega) (by omega) p112 (p116 hF.1.2.1) p113.1 p113.2 (fun j a b => qm111.1 j (by omega) (zanyF (by simp <;> omega))) em123 (by omega) (fun B hN => rNu_f (rNu_z hN qm111 ⟨rfl, rfl, rfl, rfl, rfl, rfl⟩ ⟨rfl, rfl, rfl, rfl, rfl, rfl⟩) (fun j hj => by rw [em123, zu_ne (by omega)]) (fun k hk => by rw [em123, zu_ne (by decide)]))
        refine Exists.intro (Int.toNat ((5 - v4) * 1000 + 30 - (v7 + 1))) (And.intro (by (try rw [w125]) <;> (try rw [w126]) <;> (try rw [w127]) <;> (try rw [wg98]) <;> (try rw [wg99]) <;> (try rw [wg100]) <;> (try rw [wg1]) <;> (try rw [wg2]) <;> (try rw [wg3]) <;> omega) ?_)
        exact ⟨(fun h => absurd h (by decide)), (fun h => absurd h (by decide)), (fun h => absurd h (by decide)), (fun h => absurd h (by decide)), (fun _ => ⟨_, _, _, _, _, _, _, rfl, z124, ⟨by omega, by omega⟩, ⟨by omega, by omega⟩, ⟨by omega, by omega⟩, ⟨by omega, by omega⟩, ⟨by omega, by omega⟩, ⟨by omega, by omega⟩, ⟨by omega, by omega⟩, ⟨rfl, j2⟩, ⟨ν, ⟨hR, hW⟩, R, hs, he⟩, (by omega), (by omega), (by rw [em123, zu_ne (by decide), p114]; omega), (fun x a b => by rw [em123, zu_ne (by decide), zu_ne (by decide), p114]; exact p115 x a b), ot128, (Or.inr ⟨rfl, by rcases i7 with h0 | h0; exact (GP h0.2).2 (fun G => by have h1 := h0.1; have h2 := G.1; rcases G.2 with h3 | h3 <;> omega); exact h0.2⟩), rfl⟩)⟩
      · refine And.intro ⟨by omega, by omega⟩ ?_
        intro x129 hx129 kx129 lx129
        refine And.intro ⟨⟨by omega, by omega⟩, ⟨by omega, by omega⟩⟩ (And.intro (fun c130 => ?_) (fun c130 => ?_))
        · refine And.intro ⟨by omega, by omega⟩ (And.intro ⟨by omega, by omega⟩ ?_)
          intro m131 em131
          have z132 := zfx_r z117 em131 rfl (by decide)
          have w133 : m131.1 66 ((24 : Nat) : Int) = g98 := by rw [em131]; exact (congrFun (zu_ne (by decide)) _).trans w118
          have w134 : m131.1 66 ((26 : Nat) : Int) = g99 := by rw [em131]; exact (congrFun (zu_ne (by decide)) _).trans w119
          have w135 : m131.1 66 ((60 : Nat) : Int) = g120 := by rw [em131]; exact (congrFun (zu_ne (by decide)) _).trans wg120
          have ot136 := zOt_w ot121 em131 (by have hk : (441 : Int) ≤ (v2 + v7) := (by omega); refine ⟨fun h => ?_, fun h => ?_, fun h => ?_, fun h => ?_, fun h => ?_⟩ <;> first | exact hk | (exfalso; revert h; decide))
          have R := zFA_put (g' := 0) hR.1 hF (Int.le_refl _) (by omega) (by rw [E79]; omega) (by omega) (by omega) (by omega) (by omega) p112 (p116 hF.1.2.1) p113.1 p113.2 (fun j a b => qm111.1 j (by omega) (zanyF (by simp <;> omega))) em131 (by omega) (fun h => absurd h (by decide))
          have GP := fun h0 => rGA_p (τ := τ) (s := (8, p, 0, [], B)) (p := p) h0 hp9 hR.1 hF (Int.le_refl _) E26 (by omega) (by rw [E79]; omega) (by omega) (by omega) (by omega) (by omega) p112 (p116 hF.1.2.1) p113.1 p113.2 (fun j a b => qm111.1 j (by omega) (zanyF (by simp <;> omega))) em131 (by omega) (fun B hN => rNu_f (rNu_z hN qm111 ⟨rfl, rfl, rfl, rfl, rfl, rfl⟩ ⟨rfl, rfl, rfl, rfl, rfl, rfl⟩) (fun j hj => by rw [em131, zu_ne (by omega)]) (fun k hk => by rw [em131, zu_ne (by decide)]))
          refine Exists.intro (Int.toNat ((5 - v4) * 1000 + 30 - (v7 + 1))) (And.intro (by (try rw [w133]) <;> (try rw [w134]) <;> (try rw [w135]) <;> (try rw [wg98]) <;> (try rw [wg99]) <;> (try rw [wg100]) <;> (try rw [wg1]) <;> (try rw [wg2]) <;> (try rw [wg3]) <;> omega) ?_)
          exact ⟨(fun h => absurd h (by decide)), (fun h => absurd h (by decide)), (fun h => absurd h (by decide)), (fun h => absurd h (by decide)), (fun _ => ⟨_, _, _, _, _, _, _, rfl, z132, ⟨by omega, by omega⟩, ⟨by omega, by omega⟩, ⟨by omega, by omega⟩, ⟨by omega, by omega⟩, ⟨by omega, by omega⟩, ⟨by omega, by omega⟩, ⟨by omega, by omega⟩, ⟨rfl, j2⟩, ⟨ν, ⟨hR, hW⟩, R, hs, he⟩, (by omega), (by omega), (by rw [em131, zu_ne (by decide), p114]; omega), (fun x a b => by rw [em131, zu_ne (by decide), zu_ne (by decide), p114]; exact p115 x a b), ot136, (Or.inr ⟨rfl, by rcases i7 with h0 | h0; exact (GP h0.2).2 (fun G => by have h1 := h0.1; have h2 := G.1; rcases G.2 with h3 | h3 <;> omega); exact h0.2⟩), rfl⟩)⟩
        · refine And.intro ⟨by omega, by omega⟩ ?_
          intro x137 hx137 kx137 lx137
          have XR : x137 = zXa m0 v1 v7 := by unfold zXa; rw [hx137, qm111.1 80 (by decide) rfl, show (v2 + v7) = 21 * (21 + v1) + v7 by omega]
          refine And.intro ⟨by omega, by omega⟩ (And.intro (fun c138 => ?_) (fun c138 => ?_))
          · refine And.intro ⟨by omega, by omega⟩ (And.intro ⟨by omega, by omega⟩ ?_)
            intro m139 em139
            have z140 := zfx_r z117 em139 rfl (by decide)
            have w141 : m139.1 66 ((24 : Nat) : Int) = g98 := by rw [em139]; exact (congrFun (zu_ne (by decide)) _).trans w118
            have w142 : m139.1 66 ((26 : Nat) : Int) = g99 := by rw [em139]; exact (congrFun (zu_ne (by decide)) _).trans w119
            have w143 : m139.1 66 ((60 : Nat) : Int) = g120 := by rw [em139]; exact (congrFun (zu_ne (by decide)) _).trans wg120
            have ot144 := zOt_w ot121 em139 (by have hk : (441 : Int) ≤ (v2 + v7) := (by omega); refine ⟨fun h => ?_, fun h => ?_, fun h => ?_, fun h => ?_, fun h => ?_⟩ <;> first | exact hk | (exfalso; revert h; decide))
            have R := zFA_put (g' := 1) hR.1 hF (Int.le_refl _) (by omega) (by rw [E79]; omega) (by omega) (by omega) (by omega) (by omega) p112 (p116 hF.1.2.1) p113.1 p113.2 (fun j a b => qm111.1 j (by omega) (zanyF (by simp <;> omega))) em139 (by omega) (fun _ => ⟨by omega, by omega, Or.inl (by omega)⟩)
            have GP := fun h0 => rGA_p (τ := τ) (s := (8, p, 0, [], B)) (p := p) h0 hp9 hR.1 hF (Int.le_refl _) E26 (by omega) (by rw [E79]; omega) (by omega) (by omega) (by omega) (by omega) p112 (p116 hF.1.2.1) p113.1 p113.2 (fun j a b => qm111.1 j (by omega) (zanyF (by simp <;> omega))) em139 (by omega) (fun B hN => rNu_f (rNu_z hN qm111 ⟨rfl, rfl, rfl, rfl, rfl, rfl⟩ ⟨rfl, rfl, rfl, rfl, rfl, rfl⟩) (fun j hj => by rw [em139, zu_ne (by omega)]) (fun k hk => by rw [em139, zu_ne (by decide)]))
            refine Exists.intro (Int.toNat ((5 - v4) * 1000 + 30 - (v7 + 1))) (And.intro (by (try rw [w141]) <;> (try rw [w142]) <;> (try rw [w143]) <;> (try rw [wg98]) <;> (try rw [wg99]) <;> (try rw [wg100]) <;> (try rw [wg1]) <;> (try rw [wg2]) <;> (try rw [wg3]) <;> omega) ?_)
            exact ⟨(fun h => absurd h (by decide)), (fun h => absurd h (by decide)), (fun h => absurd h (by decide)), (fun h => absurd h (by decide)), (fun _ => ⟨_, _, _, _, _, _, _, rfl, z140, ⟨by omega, by omega⟩, ⟨by omega, by omega⟩, ⟨by omega, by omega⟩, ⟨by omega, by omega⟩, ⟨by omega, by omega⟩, ⟨by omega, by omega⟩, ⟨by omega, by omega⟩, ⟨rfl, j2⟩, ⟨ν, ⟨hR, hW⟩, R, hs, he⟩, (by omega), (by omega), (by rw [em139, zu_ne (by decide), p114]; omega), (fun x a b => by rw [em139, zu_ne (by decide), zu_ne (by decide), p114]; exact p115 x a b), ot144, (Or.inl ⟨rfl, by rcases i7 with h0 | h0; exact (GP h0.2).1 ⟨by omega, Or.inl (by omega)⟩; (exfalso; have h1 := h0.1; omega)⟩), rfl⟩)⟩
          · refine And.intro ⟨by omega, by omega⟩ ?_
            intro x145 hx145 kx145 lx145
            have XR2 : x145 = zXa m0 v1 v7 := by unfold zXa; rw [hx145, qm111.1 80 (by decide) rfl, show (v2 + v7) = 21 * (21 + v1) + v7 by omega]
            refine And.intro ⟨⟨by omega, by omega⟩, ⟨by omega, by omega⟩⟩ (And.intro (fun c146 => ?_) (fun c146 => ?_))
            · refine And.intro ⟨by omega, by omega⟩ (And.intro ⟨by omega, by omega⟩ ?_)
              intro m147 em147
              have z148 := zfx_r z117 em147 rfl (by decide)
              have w149 : m147.1 66 ((24 : Nat) : Int) = g98 := by rw [em147]; exact (congrFun (zu_ne (by decide)) _).trans w118
              have w150 : m147.1 66 ((26 : Nat) : Int) = g99 := by rw [em147]; exact (congrFun (zu_ne (by decide)) _).trans w119
              have w151 : m147.1 66 ((60 : Nat) : Int) = g120 := by rw [em147]; exact (congrFun (zu_ne (by decide)) _).trans wg120
              have ot152 := zOt_w ot121 em147 (by have hk : (441 : Int) ≤ (v2 + v7) := (by omega); refine ⟨fun h => ?_, fun h => ?_, fun h => ?_, fun h => ?_, fun h => ?_⟩ <;> first | exact hk | (exfalso; revert h; decide))
              have R := zFA_put (g' := 0) hR.1 hF (Int.le_refl _) (by omega) (by rw [E79]; omega) (by omega) (by omega) (by omega) (by omega) p112 (p116 hF.1.2.1) p113.1 p113.2 (fun j a b => qm111.1 j (by omega) (zanyF (by simp <;> omega))) em147 (by omega) (fun h => absurd h (by decide))
              have GP := fun h0 => rGA_p (τ := τ) (s := (8, p, 0, [], B)) (p := p) h0 hp9 hR.1 hF (Int.le_refl _) E26 (by omega) (by rw [E79]; omega) (by omega) (by omega) (by omega) (by omega) p112 (p116 hF.1.2.1) p113.1 p113.2 (fun j a b => qm111.1 j (by omega) (zanyF (by simp <;> omega))) em147 (by omega) (fun B hN => rNu_f (rNu_z hN qm111 ⟨rfl, rfl, rfl, rfl, rfl, rfl⟩ ⟨rfl, rfl, rfl, rfl, rfl, rfl⟩) (fun j hj => by rw [em147, zu_ne (by omega)]) (fun k hk => by rw [em147, zu_ne (by decide)]))
              refine Exists.intro (Int.toNat ((5 - v4) * 1000 + 30 - (v7 + 1))) (And.intro (by (try rw [w149]) <;> (try rw [w150]) <;> (try rw [w151]) <;> (try rw [wg98]) <;> (try rw [wg99]) <;> (try rw [wg100]) <;> (try rw [wg1]) <;> (try rw [wg2]) <;> (try rw [wg3]) <;> omega) ?_)
              exact ⟨(fun h => absurd h (by decide)), (fun h => absurd h (by decide)), (fun h => absurd h (by decide)), (fun h => absurd h (by decide)), (fun _ => ⟨_, _, _, _, _, _, _, rfl, z148, ⟨by omega, by omega⟩, ⟨by omega, by omega⟩, ⟨by omega, by omega⟩, ⟨by omega, by omega⟩, ⟨by omega, by omega⟩, ⟨by omega, by omega⟩, ⟨by omega, by omega⟩, ⟨rfl, j2⟩, ⟨ν, ⟨hR, hW⟩, R, hs, he⟩, (by omega), (by omega), (by rw [em147, zu_ne (by decide), p114]; omega), (fun x a b => by rw [em147, zu_ne (by decide), zu_ne (by decide), p114]; exact p115 x a b), ot152, (Or.inr ⟨rfl, by rcases i7 with h0 | h0; exact (GP h0.2).2 (fun G => by have h1 := h0.1; have h2 := G.1; rcases G.2 with h3 | h3 <;> omega); exact h0.2⟩), rfl⟩)⟩
            · refine And.intro ⟨by omega, by omega⟩ (And.intro ⟨by omega, by omega⟩ ?_)
              intro m153 em153
              have z154 := zfx_r z117 em153 rfl (by decide)
              have w155 : m153.1 66 ((24 : Nat) : Int) = g98 := by rw [em153]; exact (congrFun (zu_ne (by decide)) _).trans w118
              have w156 : m153.1 66 ((26 : Nat) : Int) = g99 := by rw [em153]; exact (congrFun (zu_ne (by decide)) _).trans w119
              have w157 : m153.1 66 ((60 : Nat) : Int) = g120 := by rw [em153]; exact (congrFun (zu_ne (by decide)) _).trans wg120
              have ot158 := zOt_w ot121 em153 (by have hk : (441 : Int) ≤ (v2 + v7) := (by omega); refine ⟨fun h => ?_, fun h => ?_, fun h => ?_, fun h => ?_, fun h => ?_⟩ <;> first | exact hk | (exfalso; revert h; decide))
              have R := zFA_put (g' := 1) hR.1 hF (Int.le_refl _) (by omega) (by rw [E79]; omega) (by omega) (by omega) (by omega) (by omega) p112 (p116 hF.1.2.1) p113.1 p113.2 (fun j a b => qm111.1 j (by omega) (zanyF (by simp <;> omega))) em153 (by omega) (fun _ => ⟨by omega, by omega, Or.inr (by omega)⟩)
              have GP := fun h0 => rGA_p (τ := τ) (s := (8, p, 0, [], B)) (p := p) h0 hp9 hR.1 hF (Int.le_refl _) E26 (by omega) (by rw [E79]; omega) (by omega) (by omega) (by omega) (by omega) p112 (p116 hF.1.2.1) p113.1 p113.2 (fun j a b => qm111.1 j (by omega) (zanyF (by simp <;> omega))) em153 (by omega) (fun B hN => rNu_f (rNu_z hN qm111 ⟨rfl, rfl, rfl, rfl, rfl, rfl⟩ ⟨rfl, rfl, rfl, rfl, rfl, rfl⟩) (fun j hj => by rw [em153, zu_ne (by omega)]) (fun k hk => by rw [em153, zu_ne (by decide)]))
              refine Exists.intro (Int.toNat ((5 - v4) * 1000 + 30 - (v7 + 1))) (And.intro (by (try rw [w155]) <;> (try rw [w156]) <;> (try rw [w157]) <;> (try rw [wg98]) <;> (try rw [wg99]) <;> (try rw [wg100]) <;> (try rw [wg1]) <;> (try rw [wg2]) <;> (try rw [wg3]) <;> omega) ?_)
              exact ⟨(fun h => absurd h (by decide)), (fun h => absurd h (by decide)), (fun h => absurd h (by decide)), (fun h => absurd h (by decide)), (fun _ => ⟨_, _, _, _, _, _, _, rfl, z154, ⟨by omega, by omega⟩, ⟨by omega, by omega⟩, ⟨by omega, by omega⟩, ⟨by omega, by omega⟩, ⟨by omega, by omega⟩, ⟨by omega, by omega⟩, ⟨by omega, by omega⟩, ⟨rfl, j2⟩, ⟨ν, ⟨hR, hW⟩, R, hs, he⟩, (by omega), (by omega), (by rw [em153, zu_ne (by decide), p114]; omega), (fun x a b => by rw [em153, zu_ne (by decide), zu_ne (by decide), p114]; exact p115 x a b), ot158, (Or.inl ⟨rfl, by rcases i7 with h0 | h0; exact (GP h0.2).1 ⟨by omega, Or.inr (by omega)⟩; (exfalso; have h1 := h0.1; omega)⟩), rfl⟩)⟩
set_option maxHeartbeats 4000000 in
theorem ym_X9_findAbove {g : zΓ} (hg : zg g) (d : Nat) (hd : 5 ≤ d) : zOk g d 146 yk_X9_findAbove := by
  obtain ⟨d, rfl⟩ : ∃ d', d = d' + 1 := ⟨d - 1, by omega⟩
  refine zOk_loop hg (show mt_tab[146]? = some mt_X9_findAbove from rfl) ([(12, [0, 1, 2, 3]), (35, [0, 1, 2, 3]), (87, [0, 1, 2, 3]), (163, [0, 1, 2, 3, 4]), (209, [0, 1, 2, 3, 4, 5, 6, 7])], []) 214 rfl fun As μ Q hC => ?_
  obtain ⟨a1, lo, P, τ, p, B, rfl, ha1, hp0, hp1, hp2, hp3, hp4, hp5, hp6, hp7, hp8, hp9, hp10, hp11, hp12, hQ⟩ := hC
  have r_ha1 := ha1
  have r_hp0 := hp0
  have r_hp1 := hp1
  have r_hp2 := hp2
  have r_hp3 := hp3
  have r_hp4 := hp4
  have r_hp5 := hp5
  have r_hp6 := hp6
  have r_hp7 := hp7
  have r_hp8 := hp8
  have r_hp9 := hp9
  have r_hp10 := hp10
  have r_hp11 := hp11
  have r_hp12 := hp12
  have HC := hp3.1
  have WN := zWs_nn hp1.1.1.1 hp1.1.2.1 (n := a1.toNat) (fun f a b => (hp2.1 f a (by omega)).1)
  have WM := Int.mul_nonneg HC.2.2.2.2.1 WN
  obtain ⟨g1, wg1⟩ : ∃ z : Int, μ.1 66 ((24 : Nat) : Int) = z := ⟨_, rfl⟩
  obtain ⟨g2, wg2⟩ : ∃ z : Int, μ.1 66 ((26 : Nat) : Int) = z := ⟨_, rfl⟩
  obtain ⟨g3, wg3⟩ : ∃ z : Int, μ.1 66 ((60 : Nat) : Int) = z := ⟨_, rfl⟩
  have z0 : zfx [67, 68, 69, 70, 71, 72, 73, 74, 80, 97, 98, 99] [8, 60] μ μ := zfx_x μ
  refine ⟨rfl, yi_X9_findAbove μ a1 lo P τ p B, ?_, ym_X9_findAbove_12 hg d hd μ Q a1 lo P τ p B r_ha1 r_hp0 r_hp1 r_hp2 r_hp3 r_hp4 r_hp5 r_hp6 r_hp7 r_hp8 r_hp9 r_hp10 r_hp11 r_hp12 hQ, ym_X9_findAbove_35 hg d hd μ Q a1 lo P τ p B r_ha1 r_hp0 r_hp1 r_hp2 r_hp3 r_hp4 r_hp5 r_hp6 r_hp7 r_hp8 r_hp9 r_hp10 r_hp11 r_hp12 hQ, ym_X9_findAbove_87 hg d hd μ Q a1 lo P τ p B r_ha1 r_hp0 r_hp1 r_hp2 r_hp3 r_hp4 r_hp5 r_hp6 r_hp7 r_hp8 r_hp9 r_hp10 r_hp11 r_hp12 hQ, ym_X9_findAbove_163 hg d hd μ Q a1 lo P τ p B r_ha1 r_hp0 r_hp1 r_hp2 r_hp3 r_hp4 r_hp5 r_hp6 r_hp7 r_hp8 r_hp9 r_hp10 r_hp11 r_hp12 hQ, ym_X9_findAbove_209 hg d hd μ Q a1 lo P τ p B r_ha1 r_hp0 r_hp1 r_hp2 r_hp3 r_hp4 r_hp5 r_hp6 r_hp7 r_hp8 r_hp9 r_hp10 r_hp11 r_hp12 hQ, trivial⟩
  · intro x4 hx4 kx4 lx4
    rw [wg1] at hx4
    refine Exists.intro (Int.toNat (2147483648 - 0 + 9 * 4294967296)) ?_
    exact ⟨(fun _ => ⟨_, _, _, rfl, z0, ⟨by omega, by omega⟩, ⟨by omega, by omega⟩, ⟨by omega, by omega⟩, ⟨rfl, by omega⟩, (fun _ _ => rfl), (fun _ _ => rfl), (fun d a b => by omega), (zOt_r μ), rfl⟩), (fun h => absurd h (by decide)), (fun h => absurd h (by decide)), (fun h => absurd h (by decide)), (fun h => absurd h (by decide))⟩
