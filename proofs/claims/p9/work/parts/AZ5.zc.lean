def yk_J7_fill_53178 : zC := fun As μ Q => ∃ (a1 : Nat) (a2 : Int), As = [.inr (.inr (a1, 1001)), .inl a2] ∧ zIa μ a1 ∧ ((-2147483648) ≤ a2 ∧ a2 ≤ 2147483647) ∧ (zrg a1 a2) ∧ (a1 < 66 ∧ (a1 ≠ 26 ∧ a1 ≠ 44) ∧ a1 ≠ 1) ∧ (∀ (μ' : zM), zl0 μ μ' → ((∀ j : Nat, j ≠ a1 → μ'.1 j = μ.1 j) ∧ ∀ k : Int, 0 ≤ k → k < μ.2 a1 → μ'.1 a1 k = a2) → Q none μ')
set_option maxHeartbeats 4000000 in
theorem ym_J7_fill_53178 {g : zΓ} (hg : zg g) (d : Nat) (hd : 1 ≤ d) : zOk g d 192 yk_J7_fill_53178 := by
  obtain ⟨d, rfl⟩ : ∃ d', d = d' + 1 := ⟨d - 1, by omega⟩
  refine zOk_loop hg (show mt_tab[192]? = some mt_J7_fill_53178 from rfl) ([(5, [0, 1, 2, 3])], []) 20 rfl fun As μ Q hC => ?_
  obtain ⟨a1, a2, rfl, ha1, ha2, hp0, hp1, hQ⟩ := hC
  have z0 : zl0 μ μ := zl0_r μ
  refine ⟨rfl, fun pc vs μ' n => ∃ (v1 : Int) (v2 : Int) (v3 : Int), vs = [.inr (.inr (a1, 1001)), .inl v1, .inl v2, .inl v3] ∧ zl0 μ μ' ∧ ((-2147483648) ≤ v1 ∧ v1 ≤ 2147483647) ∧ (0 ≤ v2 ∧ v2 ≤ 2147483647) ∧ ((-2147483648) ≤ v3 ∧ v3 ≤ 2147483647) ∧ (v3 = μ.2 a1) ∧ (v1 = a2) ∧ ((∀ j : Nat, j ≠ a1 → μ'.1 j = μ.1 j) ∧ ∀ k : Int, 0 ≤ k → k < v2 → μ'.1 a1 k = a2) ∧ n = (Int.toNat (2147483648 - v2)), ?_, ?_, trivial⟩
  · refine And.intro (zIa_m ha1 z0) ?_
    intro x1 hx1 kx1 lx1
    refine Exists.intro (Int.toNat (2147483648 - 0)) ?_
    exact ⟨_, _, _, rfl, z0, ⟨by omega, by omega⟩, ⟨by omega, by omega⟩, ⟨by omega, by omega⟩, (by omega), (by omega), ⟨fun _ _ => rfl, fun k h0 h1 => by omega⟩, rfl⟩
  · intro vs m0 n hI
    clear z0
    obtain ⟨v1, v2, v3, rfl, z0, hv1, hv2, hv3, i0, i1, i2, rfl⟩ := hI
    have hl0 : m0.2 a1 = μ.2 a1 := by rw [z0.2]
    subst i1
    refine And.intro ⟨⟨by omega, by omega⟩, ⟨by omega, by omega⟩⟩ (And.intro (fun c2 => ?_) (fun c2 => ?_))
    · exact And.intro rfl (hQ _ z0 ⟨i2.1, fun k h0 h1 => i2.2 k h0 (by omega)⟩)
    · refine And.intro (zIa_m ha1 z0) ?_
      refine And.intro ⟨by omega, by omega⟩ (And.intro (by exact hp0) ?_)
      intro m3 em3
      have z4 := zl0_t z0 (zl0_u em3 (Or.inl hp1.1) (Or.inl hp1.2.1) (Or.inl hp1.2.2))
      refine Exists.intro (Int.toNat (2147483648 - (v2 + 1))) (And.intro (by omega) ?_)
      exact ⟨_, _, _, rfl, z4, ⟨by omega, by omega⟩, ⟨by omega, by omega⟩, ⟨by omega, by omega⟩, (by omega), (by omega), ⟨fun j hj => by rw [em3, zu_ne hj]; exact i2.1 j hj, fun k h0 h1 => by by_cases hk : k = v2; (rw [em3, hk, zu_at]); (rw [em3, zu_nk hk]; exact i2.2 k h0 (by omega))⟩, rfl⟩
/-! ### what measure and the asker's startOver leave alone -/
def zq0 (μ μ' : zM) : Prop := zl0 μ μ' ∧ ∀ j : Nat, j < 10 ∨ (14 ≤ j ∧ j < 52) ∨ 109 ≤ j → μ'.1 j = μ.1 j
theorem zq0_r (μ : zM) : zq0 μ μ := ⟨zl0_r μ, fun _ _ => rfl⟩
theorem zq0_t {a b c : zM} (h1 : zq0 a b) (h2 : zq0 b c) : zq0 a c := ⟨zl0_t h1.1 h2.1, fun j hj => (h2.2 j hj).trans (h1.2 j hj)⟩
theorem zq0_u {μ μ' : zM} {t : Nat} {k x : Int} (he : μ' = zu μ t k x) (h1 : t < 66 ∨ (109 ≤ t ∧ t < 1000000) ∨ (3000000 ≤ t ∧ t < 3000066) ∨ (5000000 ≤ t ∧ t < 5000066)) (h2 : (t ≠ 26 ∧ t ≠ 44) ∨ k ≠ 5) (h3 : (10 ≤ t ∧ t ≤ 13) ∨ (52 ≤ t ∧ t < 66) := by decide) : zq0 μ μ' := ⟨zl0_u he h1 h2 (Or.inl (by omega)), fun j hj => by rw [he, zu_ne (by omega)]⟩
theorem zq0_s {μ μ' : zM} {t : Nat} (q : zle μ μ') (f : ∀ j : Nat, j ≠ t → μ'.1 j = μ.1 j) (g : μ'.2 = μ.2) (h3 : (10 ≤ t ∧ t ≤ 13) ∨ (52 ≤ t ∧ t < 66)) : zq0 μ μ' := ⟨⟨q, g⟩, fun j hj => f j (by omega)⟩
def zqw (μ μ' : zM) : Prop := zl0 μ μ' ∧ ∀ j : Nat, j < 6 ∨ (14 ≤ j ∧ j < 52) ∨ 109 ≤ j → μ'.1 j = μ.1 j
theorem zqw_r (μ : zM) : zqw μ μ := ⟨zl0_r μ, fun _ _ => rfl⟩
theorem zqw_t {a b c : zM} (h1 : zqw a b) (h2 : zqw b c) : zqw a c := ⟨zl0_t h1.1 h2.1, fun j hj => (h2.2 j hj).trans (h1.2 j hj)⟩
theorem zqw_u {μ μ' : zM} {t : Nat} {k x : Int} (he : μ' = zu μ t k x) (h1 : t < 66 ∨ (109 ≤ t ∧ t < 1000000) ∨ (3000000 ≤ t ∧ t < 3000066) ∨ (5000000 ≤ t ∧ t < 5000066)) (h2 : (t ≠ 26 ∧ t ≠ 44) ∨ k ≠ 5) (h3 : (6 ≤ t ∧ t ≤ 13) ∨ (52 ≤ t ∧ t < 66) := by decide) : zqw μ μ' := ⟨zl0_u he h1 h2 (Or.inl (by omega)), fun j hj => by rw [he, zu_ne (by omega)]⟩
theorem zqw_s {μ μ' : zM} {t : Nat} (q : zle μ μ') (f : ∀ j : Nat, j ≠ t → μ'.1 j = μ.1 j) (g : μ'.2 = μ.2) (h3 : (6 ≤ t ∧ t ≤ 13) ∨ (52 ≤ t ∧ t < 66)) : zqw μ μ' := ⟨⟨q, g⟩, fun j hj => f j (by omega)⟩
theorem zcp_q (μ : zM) : zqw μ (zcp μ) := ⟨zcp_l μ, fun j hj => zcp_n (by omega)⟩
def xk_X7_joinReach : zC := fun As μ Q => ∃ (a1 : Int) (a2 : Int) (a3 : Int), As = [.inr (.inr (6, 6)), .inl a1, .inl a2, .inl a3] ∧ ((-2147483648) ≤ a1 ∧ a1 ≤ 2147483647) ∧ ((-2147483648) ≤ a2 ∧ a2 ≤ 2147483647) ∧ ((-2147483648) ≤ a3 ∧ a3 ≤ 2147483647) ∧ (∀ (μ' : zM), zqw μ μ' → Q none μ')
set_option maxHeartbeats 4000000 in
theorem xm_X7_joinReach {g : zΓ} (hg : zg g) (d : Nat) (hd : 2 ≤ d) : zOk g d 93 xk_X7_joinReach := by
  obtain ⟨d, rfl⟩ : ∃ d', d = d' + 1 := ⟨d - 1, by omega⟩
  refine zOk_loop hg (show mt_tab[93]? = some mt_X7_joinReach from rfl) ([(3, [0, 1, 2, 3, 4])], [16, 19, 33, 36]) 31 rfl fun As μ Q hC => ?_
  obtain ⟨a1, a2, a3, rfl, ha1, ha2, ha3, hQ⟩ := hC
  have z0 : zqw μ μ := zqw_r μ
  refine ⟨rfl, fun pc vs μ' n => ∃ (v1 : Int) (v2 : Int) (v3 : Int) (v4 : Int), vs = [.inr (.inr (6, 6)), .inl v1, .inl v2, .inl v3, .inl v4] ∧ zqw μ μ' ∧ ((-2147483648) ≤ v1 ∧ v1 ≤ 2147483647) ∧ ((-2147483648) ≤ v2 ∧ v2 ≤ 2147483647) ∧ ((-2147483648) ≤ v3 ∧ v3 ≤ 2147483647) ∧ (0 ≤ v4 ∧ v4 ≤ 2147483647) ∧ n = (Int.toNat (2147483648 - v4)), ?_, ?_, trivial⟩
  · refine Exists.intro (Int.toNat (2147483648 - 0)) ?_
    exact ⟨_, _, _, _, rfl, z0, ⟨by omega, by omega⟩, ⟨by omega, by omega⟩, ⟨by omega, by omega⟩, ⟨by omega, by omega⟩, rfl⟩
  · intro vs m0 n hI
    clear z0
    obtain ⟨v1, v2, v3, v4, rfl, z0, hv1, hv2, hv3, hv4, rfl⟩ := hI
    refine And.intro ⟨⟨by omega, by omega⟩, ⟨by omega, by omega⟩⟩ (And.intro (fun c1 => ?_) (fun c1 => ?_))
    · exact And.intro rfl (hQ _ z0)
    · intro x2 hx2 kx2 lx2
      intro x3 hx3 kx3 lx3
      refine ⟨zk_X8_at, zm_X8_at hg d (by omega), _, _, _, rfl, ⟨by omega, by omega⟩, ?_⟩
      intro x4 kx4 lx4 fx4 gx4
      refine And.intro ⟨by omega, by omega⟩ (And.intro (fun c5 => ?_) (fun c5 => ?_))
      · refine Exists.intro (Int.toNat (2147483648 - (v4 + 1))) (And.intro (by omega) ?_)
        exact ⟨_, _, _, _, rfl, z0, ⟨by omega, by omega⟩, ⟨by omega, by omega⟩, ⟨by omega, by omega⟩, ⟨by omega, by omega⟩, rfl⟩
      · intro x6 hx6 kx6 lx6
        intro x7 hx7 kx7 lx7
        refine ⟨zk_X8_set, zm_X8_set hg d (by omega), _, _, _, _, rfl, ⟨by omega, by omega⟩, ?_⟩
        refine And.intro ⟨by omega, by omega⟩ ?_
        intro m8 qm8 fm8 gm8
        have z9 := zqw_t z0 (zqw_s qm8 fm8 gm8 (by decide))
        refine Exists.intro (Int.toNat (2147483648 - (v4 + 1))) (And.intro (by omega) ?_)
        exact ⟨_, _, _, _, rfl, z9, ⟨by omega, by omega⟩, ⟨by omega, by omega⟩, ⟨by omega, by omega⟩, ⟨by omega, by omega⟩, rfl⟩
def xk_X7_addWays : zC := fun As μ Q => ∃ (a1 : Nat) (a2 : Int) (a3 : Int) (a4 : Int), As = [.inr (.inr (6, 6)), .inr (.inr (a1, 1001)), .inl a2, .inl a3, .inl a4] ∧ zIa μ a1 ∧ ((-2147483648) ≤ a2 ∧ a2 ≤ 2147483647) ∧ ((-2147483648) ≤ a3 ∧ a3 ≤ 2147483647) ∧ ((-2147483648) ≤ a4 ∧ a4 ≤ 2147483647) ∧ (∀ (μ' : zM), zqw μ μ' → Q none μ')
set_option maxHeartbeats 4000000 in
theorem xm_X7_addWays {g : zΓ} (hg : zg g) (d : Nat) (hd : 2 ≤ d) : zOk g d 91 xk_X7_addWays := by
  obtain ⟨d, rfl⟩ : ∃ d', d = d' + 1 := ⟨d - 1, by omega⟩
  refine zOk_loop hg (show mt_tab[91]? = some mt_X7_addWays from rfl) ([(17, [0, 1, 3, 4, 5, 6])], [2, 43, 46, 49]) 47 rfl fun As μ Q hC => ?_
  obtain ⟨a1, a2, a3, a4, rfl, ha1, ha2, ha3, ha4, hQ⟩ := hC
  have z0 : zqw μ μ := zqw_r μ
  refine ⟨rfl, fun pc vs μ' n => ∃ (v3 : Int) (v4 : Int) (v5 : Int) (v6 : Int), vs = [.inr (.inr (6, 6)), .inr (.inr (a1, 1001)), .inl v3, .inl v4, .inl v5, .inl v6] ∧ zqw μ μ' ∧ ((-2147483648) ≤ v3 ∧ v3 ≤ 2147483647) ∧ ((-2147483648) ≤ v4 ∧ v4 ≤ 2147483647) ∧ ((-2147483648) ≤ v5 ∧ v5 ≤ 2147483647) ∧ ((-2147483648) ≤ v6 ∧ v6 ≤ 2147483647) ∧ n = (Int.toNat (2147483648 - v6)), ?_, ?_, trivial⟩
  · intro x1 hx1 kx1 lx1
    refine And.intro ⟨⟨by omega, by omega⟩, ⟨by omega, by omega⟩⟩ (And.intro (fun c2 => ?_) (fun c2 => ?_))
    · refine Exists.intro (Int.toNat (2147483648 - a2)) ?_
      exact ⟨_, _, _, _, rfl, z0, ⟨by omega, by omega⟩, ⟨by omega, by omega⟩, ⟨by omega, by omega⟩, ⟨by omega, by omega⟩, rfl⟩
    · refine Exists.intro (Int.toNat (2147483648 - a2)) ?_
      exact ⟨_, _, _, _, rfl, z0, ⟨by omega, by omega⟩, ⟨by omega, by omega⟩, ⟨by omega, by omega⟩, ⟨by omega, by omega⟩, rfl⟩
  · intro vs m0 n hI
    clear z0
    obtain ⟨v3, v4, v5, v6, rfl, z0, hv3, hv4, hv5, hv6, rfl⟩ := hI
    refine And.intro ⟨⟨by omega, by omega⟩, ⟨by omega, by omega⟩⟩ (And.intro (fun c3 => ?_) (fun c3 => ?_))
    · exact And.intro rfl (hQ _ z0)
    · refine ⟨zk_X8_at, zm_X8_at hg d (by omega), _, _, _, rfl, ⟨by omega, by omega⟩, ?_⟩
      refine And.intro (zIa_m ha1 z0.1) ?_
      intro n4 hn4 kn4 ln4
      intro x5 kx5 lx5 fx5 gx5
      refine ⟨zk_X8_isParameter, zm_X8_isParameter hg d (by omega), _, rfl, ⟨by omega, by omega⟩, ?_⟩
      intro x6 kx6 lx6
      refine And.intro ⟨by omega, by omega⟩ (And.intro (fun c7 => ?_) (fun c7 => ?_))
      · refine Exists.intro (Int.toNat (2147483648 - (v6 + 1))) (And.intro (by omega) ?_)
        exact ⟨_, _, _, _, rfl, z0, ⟨by omega, by omega⟩, ⟨by omega, by omega⟩, ⟨by omega, by omega⟩, ⟨by omega, by omega⟩, rfl⟩
      · intro x8 hx8 kx8 lx8
        intro x9 hx9 kx9 lx9
        intro x10 hx10 kx10 lx10
        refine ⟨zk_X8_at, zm_X8_at hg d (by omega), _, _, _, rfl, ⟨by omega, by omega⟩, ?_⟩
        intro x11 kx11 lx11 fx11 gx11
        refine ⟨zk_J9_max_7cf53, zm_J9_max_7cf53 hg d (by omega), _, _, rfl, ⟨by omega, by omega⟩, ⟨by omega, by omega⟩, ?_⟩
        intro x12 kx12 lx12 p13 p14 p15
        refine ⟨zk_X8_set, zm_X8_set hg d (by omega), _, _, _, _, rfl, ⟨by omega, by omega⟩, ?_⟩
        refine And.intro ⟨by omega, by omega⟩ ?_
        intro m16 qm16 fm16 gm16
        have z17 := zqw_t z0 (zqw_s qm16 fm16 gm16 (by decide))
        refine Exists.intro (Int.toNat (2147483648 - (v6 + 1))) (And.intro (by omega) ?_)
        exact ⟨_, _, _, _, rfl, z17, ⟨by omega, by omega⟩, ⟨by omega, by omega⟩, ⟨by omega, by omega⟩, ⟨by omega, by omega⟩, rfl⟩
def xk_X7_closeReach : zC := fun As μ Q => ∃ (a1 : Int), As = [.inr (.inr (6, 6)), .inl a1] ∧ ((-2147483648) ≤ a1 ∧ a1 ≤ 2147483647) ∧ (∀ (μ' : zM), zqw μ μ' → Q none μ')
theorem zcr_q {g : zΓ} (hg : zg g) (d : Nat) (hd : 2 ≤ d) (a1 : Int) (ha1 : (-2147483648) ≤ a1 ∧ a1 ≤ 2147483647) (μ : zM) (Q : Option zV → zM → Prop) (hQ : ∀ μ' : zM, zqw μ μ' → Q none μ') : ∃ Inv : Nat → List zV → zM → Nat → Prop, zw (zOk g d) mt_X7_closeReach ([(20, [0, 1, 2]), (27, [0, 1, 2, 3])], [39, 41]) (fun pc vs μ' => ∃ n, Inv pc vs μ' n) Q (fun _ _ => False) 60 false (zsuf 18 mt_X7_closeReach.2.2.2.2.1) [(0, .inr (.inr (6, 6))), (1, .inl a1)] [] μ ∧
      zAll [(20, [0, 1, 2]), (27, [0, 1, 2, 3])] (fun pc ks => ∀ vs μ' n, Inv pc vs μ' n → zw (zOk g d) mt_X7_closeReach ([(20, [0, 1, 2]), (27, [0, 1, 2, 3])], [39, 41]) (fun pc' vs' μ'' => ∃ n', n' < n ∧ Inv pc' vs' μ'' n') Q (fun _ _ => False) 60 true (zsuf pc mt_X7_closeReach.2.2.2.2.1) (zzip ks vs) [] μ') := by
  have z0 := zqw_r μ
  refine ⟨fun pc vs μ' n => (pc = 20 → ∃ (v1 : Int) (v2 : Int), vs = [.inr (.inr (6, 6)), .inl v1, .inl v2] ∧ zqw μ μ' ∧ ((-2147483648) ≤ v1 ∧ v1 ≤ 2147483647) ∧ (0 ≤ v2 ∧ v2 ≤ 2147483647) ∧ n = (Int.toNat ((2147483648 - v2) * 4294967296 + 4294967295))) ∧ (pc = 27 → ∃ (v1 : Int) (v2 : Int) (v3 : Int), vs = [.inr (.inr (6, 6)), .inl v1, .inl v2, .inl v3] ∧ zqw μ μ' ∧ ((-2147483648) ≤ v1 ∧ v1 ≤ 2147483647) ∧ (0 ≤ v2 ∧ v2 ≤ 2147483646) ∧ (0 ≤ v3 ∧ v3 ≤ 2147483647) ∧ n = (Int.toNat ((2147483648 - v2) * 4294967296 + (2147483648 - v3)))), ?_, ?_, ?_, trivial⟩
  · refine Exists.intro (Int.toNat ((2147483648 - 0) * 4294967296 + 4294967295)) ?_
    exact ⟨(fun _ => ⟨_, _, rfl, z0, ⟨by omega, by omega⟩, ⟨by omega, by omega⟩, rfl⟩), (fun h => absurd h (by decide))⟩
  · intro vs m0 n hI
    replace hI := hI.1 rfl
    clear z0
    obtain ⟨v1, v2, rfl, z0, hv1, hv2, rfl⟩ := hI
    refine And.intro ⟨⟨by omega, by omega⟩, ⟨by omega, by omega⟩⟩ (And.intro (fun c1 => ?_) (fun c1 => ?_))
    · exact And.intro rfl (hQ _ z0)
    · refine Exists.intro (Int.toNat ((2147483648 - v2) * 4294967296 + (2147483648 - 0))) (And.intro (by omega) ?_)
      exact ⟨(fun h => absurd h (by decide)), (fun _ => ⟨_, _, _, rfl, z0, ⟨by omega, by omega⟩, ⟨by omega, by omega⟩, ⟨by omega, by omega⟩, rfl⟩)⟩
  · intro vs m0 n hI
    replace hI := hI.2 rfl
    clear z0
    obtain ⟨v1, v2, v3, rfl, z0, hv1, hv2, hv3, rfl⟩ := hI
    refine And.intro ⟨⟨by omega, by omega⟩, ⟨by omega, by omega⟩⟩ (And.intro (fun c2 => ?_) (fun c2 => ?_))
    · refine Exists.intro (Int.toNat ((2147483648 - (v2 + 1)) * 4294967296 + 4294967295)) (And.intro (by omega) ?_)
      exact ⟨(fun _ => ⟨_, _, rfl, z0, ⟨by omega, by omega⟩, ⟨by omega, by omega⟩, rfl⟩), (fun h => absurd h (by decide))⟩
    · intro x3 hx3 kx3 lx3
      intro x4 hx4 kx4 lx4
      refine ⟨zk_X8_at, zm_X8_at hg d (by omega), _, _, _, rfl, ⟨by omega, by omega⟩, ?_⟩
      intro x5 kx5 lx5 fx5 gx5
      refine And.intro ⟨by omega, by omega⟩ (And.intro (fun c6 => ?_) (fun c6 => ?_))
      · refine Exists.intro (Int.toNat ((2147483648 - v2) * 4294967296 + (2147483648 - (v3 + 1)))) (And.intro (by omega) ?_)
        exact ⟨(fun h => absurd h (by decide)), (fun _ => ⟨_, _, _, rfl, z0, ⟨by omega, by omega⟩, ⟨by omega, by omega⟩, ⟨by omega, by omega⟩, rfl⟩)⟩
      · refine ⟨xk_X7_joinReach, xm_X7_joinReach hg d (by omega), _, _, _, rfl, ⟨by omega, by omega⟩, ⟨by omega, by omega⟩, ⟨by omega, by omega⟩, ?_⟩
        intro m7 qm7
        have z8 := zqw_t z0 qm7
        refine Exists.intro (Int.toNat ((2147483648 - v2) * 4294967296 + (2147483648 - (v3 + 1)))) (And.intro (by omega) ?_)
        exact ⟨(fun h => absurd h (by decide)), (fun _ => ⟨_, _, _, rfl, z8, ⟨by omega, by omega⟩, ⟨by omega, by omega⟩, ⟨by omega, by omega⟩, rfl⟩)⟩
theorem xm_X7_closeReach {g : zΓ} (hg : zg g) (d : Nat) (hd : 3 ≤ d) : zOk g d 92 xk_X7_closeReach := by
  obtain ⟨d, rfl⟩ : ∃ d', d = d' + 1 := ⟨d - 1, by omega⟩
  have hM : mt_tab[92]? = some mt_X7_closeReach := rfl
  have hG := zg_go hg
  have hmem := List.mem_of_getElem? (zg_at hg hM)
  refine zOk_of hG (zg_at hg hM) fun As μ Q w hw hr hC => ?_
  obtain ⟨a1, rfl, ha1, hQ⟩ := hC
  refine ⟨rfl, ?_⟩
  obtain ⟨c6, q6, fs, rfl, fl, f1, f2, f3⟩ := hw.2.2.1 6 _ (show znth zcl 6 = some (.inl 7) from rfl)
  cases (show some zfl7 = some fl from f1)
  have len : fs.length = 4 := f2
  obtain ⟨v0, hv0⟩ : ∃ v, fs[0]? = some v := ⟨fs[0], by simp [len]⟩
  obtain ⟨v1, hv1⟩ : ∃ v, fs[1]? = some v := ⟨fs[1], by simp [len]⟩
  obtain ⟨j0, rfl, -, rfl⟩ := f3 0 (.inr (.inr (.inl (1, 7)))) v0 rfl hv0
  obtain ⟨j1, rfl, -, rfl⟩ := f3 1 (.inr (.inr (.inl (2, 8)))) v1 rfl hv1
  obtain ⟨c7, q7, -, a, rfl, -⟩ := hw.2.2.1 7 _ (show znth zcl 7 = some (.inr (0, 6400, -2147483648, 2147483647)) from rfl)
  obtain ⟨c8, q8, -, b, rfl, -⟩ := hw.2.2.1 8 _ (show znth zcl 8 = some (.inr (0, 6400, -2147483648, 2147483647)) from rfl)
  have hl8 : 8 < w.1.length := (List.getElem?_eq_some_iff.mp q8).1
  have ld : ∀ st : List Value, mx_loc 4 (.aload_n 0) [(0, .ref 6), (1, .int (Int32.ofInt a1))] st = some ([(0, .ref 6), (1, .int (Int32.ofInt a1))], .ref 6 :: st) := fun st => rfl
  refine zE_step (zs_loc (i := .aload_n 0) hG hmem rfl rfl (ld _)) ?_
  refine zE_step (zs_mem (i := .getfield 9) hG hmem rfl rfl rfl rfl (zgetf (tt := 0) (ci := 7) (kf := 0) rfl q6 hv0 rfl)) ?_
  refine zE_step (zs_pure (i := .iconst 0) hG hmem rfl rfl) ?_
  refine zE_step (zs_loc (i := .aload_n 0) hG hmem rfl rfl (ld _)) ?_
  refine zE_step (zs_mem (i := .getfield 15) hG hmem rfl rfl rfl rfl (zgetf (tt := 0) (ci := 7) (kf := 1) rfl q6 hv1 rfl)) ?_
  refine zE_step (zs_pure (i := .iconst 0) hG hmem rfl rfl) ?_
  refine zE_step (zs_loc (i := .aload_n 0) hG hmem rfl rfl (ld _)) ?_
  refine zE_step (zs_mem (i := .getfield 15) hG hmem rfl rfl rfl rfl (zgetf (tt := 0) (ci := 7) (kf := 1) rfl q6 hv1 rfl)) ?_
  have al : ∀ st : List Value, mx_mem g.1 none mt_X7_closeReach.2.2.2.2.2.2 mt_X7_closeReach.2.2.2.2.2.1 .arraylength (.ref 8 :: st) w = some (.int (Int32.ofNat 6400) :: st, w) := fun st => by
    simp only [mx_mem, q8]
    rfl
  refine zE_step (zs_mem (i := .arraylength) hG hmem rfl rfl rfl rfl (al _)) ?_
  have jp : mo_copy (15, [(0, .ref 6), (1, .int (Int32.ofInt a1))], [.int (Int32.ofNat 6400), .int (Int32.ofInt 0), .ref 8, .int (Int32.ofInt 0), .ref 7], w) = some (18, [(0, .ref 6), (1, .int (Int32.ofInt a1))], [], (w.1.set 8 (.inr ((0, 6400), .inl a)), w.2)) := by
    unfold mo_copy
    dsimp only
    rw [q7]
    dsimp only
    rw [q8]
    rfl
  refine zE_step (σ1 := (18, [(0, .ref 6), (1, .int (Int32.ofInt a1))], [], (w.1.set 8 (.inr ((0, 6400), .inl a)), w.2))) ⟨⟨by simp, Nat.le_refl _⟩, fun p e R s m args below meth c H0 X => (mo_copy_jmp X _ _ jp).2⟩ ?_
  obtain ⟨Inv, h1, h2⟩   := zcr_q hg d (by omega) a1 ha1 (zcp μ) Q (fun μ' hz => hQ μ' (zqw_t (zcp_q μ) hz))
  obtain ⟨q, r, e1, e2⟩ := zw_ok (sc := none) (w := (w.1.set 8 (.inr ((0, 6400), .inl a)), w.2)) hG hmem (fun _ _ q => q) 60 h1 (zsuf_suf _ _) (zRep_copy hw q7 hl8) ⟨List.forall_mem_cons.mpr ⟨by show 6 < 1048576; omega, List.forall_mem_cons.mpr ⟨True.intro, fun _ q => by cases q⟩⟩, fun v hv => by cases hv⟩
  have e3 := zsuf_pc e1
  rw [e3] at e2
  obtain ⟨σ', μ', g1, g2, g3⟩ := e2
  rcases g3 with ⟨ks', vs', k1, k2, k3, k4, k5, n', hI'⟩ | g3 | g3
  · exact zE_step g1 (zloop hG hmem (fun _ _ q => q) (fun pc ks vs μ' n e1 _ e3 => zAll_at h2 e1 vs μ' n e3) n' σ' μ' ks' vs' k1 k2 k3 k4 k5 g2 hI')
  · exact ⟨σ', μ', g1, g2, Or.inr (Or.inl g3)⟩
  · exact ⟨σ', μ', g1, g2, Or.inr (Or.inr g3)⟩
def xk_X7_markRound : zC := fun As μ Q => ∃ (a1 : Int) (a2 : Int), As = [.inr (.inr (6, 6)), .inl a1, .inl a2] ∧ ((-2147483648) ≤ a1 ∧ a1 ≤ 2147483647) ∧ ((-2147483648) ≤ a2 ∧ a2 ≤ 2147483647) ∧ (∀ (μ' : zM), zqw μ μ' → Q none μ')
set_option maxHeartbeats 4000000 in
theorem xm_X7_markRound {g : zΓ} (hg : zg g) (d : Nat) (hd : 3 ≤ d) : zOk g d 95 xk_X7_markRound := by
  obtain ⟨d, rfl⟩ : ∃ d', d = d' + 1 := ⟨d - 1, by omega⟩
  refine zOk_loop hg (show mt_tab[95]? = some mt_X7_markRound from rfl) ([(2, [0, 1, 2, 3])], []) 28 rfl fun As μ Q hC => ?_
  obtain ⟨a1, a2, rfl, ha1, ha2, hQ⟩ := hC
  have z0 : zqw μ μ := zqw_r μ
  refine ⟨rfl, fun pc vs μ' n => ∃ (v1 : Int) (v2 : Int) (v3 : Int), vs = [.inr (.inr (6, 6)), .inl v1, .inl v2, .inl v3] ∧ zqw μ μ' ∧ ((-2147483648) ≤ v1 ∧ v1 ≤ 2147483647) ∧ ((-2147483648) ≤ v2 ∧ v2 ≤ 2147483647) ∧ (0 ≤ v3 ∧ v3 ≤ 2147483647) ∧ n = (Int.toNat (2147483648 - v3)), ?_, ?_, trivial⟩
  · refine Exists.intro (Int.toNat (2147483648 - 0)) ?_
    exact ⟨_, _, _, rfl, z0, ⟨by omega, by omega⟩, ⟨by omega, by omega⟩, ⟨by omega, by omega⟩, rfl⟩
  · intro vs m0 n hI
    clear z0
    obtain ⟨v1, v2, v3, rfl, z0, hv1, hv2, hv3, rfl⟩ := hI
    refine And.intro ⟨⟨by omega, by omega⟩, ⟨by omega, by omega⟩⟩ (And.intro (fun c1 => ?_) (fun c1 => ?_))
    · exact And.intro rfl (hQ _ z0)
    · refine ⟨zk_X7_leads, zm_X7_leads hg d (by omega), _, _, rfl, ⟨by omega, by omega⟩, ⟨by omega, by omega⟩, ?_⟩
      intro x2 kx2 lx2
      refine And.intro ⟨by omega, by omega⟩ (And.intro (fun c3 => ?_) (fun c3 => ?_))
      · refine Exists.intro (Int.toNat (2147483648 - (v3 + 1))) (And.intro (by omega) ?_)
        exact ⟨_, _, _, rfl, z0, ⟨by omega, by omega⟩, ⟨by omega, by omega⟩, ⟨by omega, by omega⟩, rfl⟩
      · refine ⟨zk_X7_leads, zm_X7_leads hg d (by omega), _, _, rfl, ⟨by omega, by omega⟩, ⟨by omega, by omega⟩, ?_⟩
        intro x4 kx4 lx4
        refine And.intro ⟨by omega, by omega⟩ (And.intro (fun c5 => ?_) (fun c5 => ?_))
        · refine Exists.intro (Int.toNat (2147483648 - (v3 + 1))) (And.intro (by omega) ?_)
          exact ⟨_, _, _, rfl, z0, ⟨by omega, by omega⟩, ⟨by omega, by omega⟩, ⟨by omega, by omega⟩, rfl⟩
        · refine ⟨zk_X8_set, zm_X8_set hg d (by omega), _, _, _, _, rfl, ⟨by omega, by omega⟩, ?_⟩
          refine And.intro ⟨by omega, by omega⟩ ?_
          intro m6 qm6 fm6 gm6
          have z7 := zqw_t z0 (zqw_s qm6 fm6 gm6 (by decide))
          refine Exists.intro (Int.toNat (2147483648 - (v3 + 1))) (And.intro (by omega) ?_)
          exact ⟨_, _, _, rfl, z7, ⟨by omega, by omega⟩, ⟨by omega, by omega⟩, ⟨by omega, by omega⟩, rfl⟩
def xk_X7_markRounds : zC := fun As μ Q => ∃ (a1 : Int), As = [.inr (.inr (6, 6)), .inl a1] ∧ ((-2147483648) ≤ a1 ∧ a1 ≤ 2147483647) ∧ (∀ (μ' : zM), zqw μ μ' → Q none μ')
set_option maxHeartbeats 4000000 in
theorem xm_X7_markRounds {g : zΓ} (hg : zg g) (d : Nat) (hd : 4 ≤ d) : zOk g d 94 xk_X7_markRounds := by
  obtain ⟨d, rfl⟩ : ∃ d', d = d' + 1 := ⟨d - 1, by omega⟩
  refine zOk_loop hg (show mt_tab[94]? = some mt_X7_markRounds from rfl) ([(2, [0, 1, 2]), (9, [0, 1, 2, 3])], [21, 23]) 42 rfl fun As μ Q hC => ?_
  obtain ⟨a1, rfl, ha1, hQ⟩ := hC
  have z0 : zqw μ μ := zqw_r μ
  refine ⟨rfl, fun pc vs μ' n => (pc = 2 → ∃ (v1 : Int) (v2 : Int), vs = [.inr (.inr (6, 6)), .inl v1, .inl v2] ∧ zqw μ μ' ∧ ((-2147483648) ≤ v1 ∧ v1 ≤ 2147483647) ∧ (0 ≤ v2 ∧ v2 ≤ 2147483647) ∧ n = (Int.toNat ((2147483648 - v2) * 4294967296 + 4294967295))) ∧ (pc = 9 → ∃ (v1 : Int) (v2 : Int) (v3 : Int), vs = [.inr (.inr (6, 6)), .inl v1, .inl v2, .inl v3] ∧ zqw μ μ' ∧ ((-2147483648) ≤ v1 ∧ v1 ≤ 2147483647) ∧ (0 ≤ v2 ∧ v2 ≤ 2147483646) ∧ (0 ≤ v3 ∧ v3 ≤ 2147483647) ∧ n = (Int.toNat ((2147483648 - v2) * 4294967296 + (2147483648 - v3)))), ?_, ?_, ?_, trivial⟩
  · refine Exists.intro (Int.toNat ((2147483648 - 0) * 4294967296 + 4294967295)) ?_
    exact ⟨(fun _ => ⟨_, _, rfl, z0, ⟨by omega, by omega⟩, ⟨by omega, by omega⟩, rfl⟩), (fun h => absurd h (by decide))⟩
  · intro vs m0 n hI
    replace hI := hI.1 rfl
    clear z0
    obtain ⟨v1, v2, rfl, z0, hv1, hv2, rfl⟩ := hI
    refine And.intro ⟨⟨by omega, by omega⟩, ⟨by omega, by omega⟩⟩ (And.intro (fun c1 => ?_) (fun c1 => ?_))
    · exact And.intro rfl (hQ _ z0)
    · refine Exists.intro (Int.toNat ((2147483648 - v2) * 4294967296 + (2147483648 - 0))) (And.intro (by omega) ?_)
      exact ⟨(fun h => absurd h (by decide)), (fun _ => ⟨_, _, _, rfl, z0, ⟨by omega, by omega⟩, ⟨by omega, by omega⟩, ⟨by omega, by omega⟩, rfl⟩)⟩
  · intro vs m0 n hI
    replace hI := hI.2 rfl
    clear z0
    obtain ⟨v1, v2, v3, rfl, z0, hv1, hv2, hv3, rfl⟩ := hI
    refine And.intro ⟨⟨by omega, by omega⟩, ⟨by omega, by omega⟩⟩ (And.intro (fun c2 => ?_) (fun c2 => ?_))
    · refine Exists.intro (Int.toNat ((2147483648 - (v2 + 1)) * 4294967296 + 4294967295)) (And.intro (by omega) ?_)
      exact ⟨(fun _ => ⟨_, _, rfl, z0, ⟨by omega, by omega⟩, ⟨by omega, by omega⟩, rfl⟩), (fun h => absurd h (by decide))⟩
    · intro x3 hx3 kx3 lx3
      intro x4 hx4 kx4 lx4
      refine ⟨zk_X8_at, zm_X8_at hg d (by omega), _, _, _, rfl, ⟨by omega, by omega⟩, ?_⟩
      intro x5 kx5 lx5 fx5 gx5
      refine And.intro ⟨⟨by omega, by omega⟩, ⟨by omega, by omega⟩⟩ (And.intro (fun c6 => ?_) (fun c6 => ?_))
      · refine Exists.intro (Int.toNat ((2147483648 - v2) * 4294967296 + (2147483648 - (v3 + 1)))) (And.intro (by omega) ?_)
        exact ⟨(fun h => absurd h (by decide)), (fun _ => ⟨_, _, _, rfl, z0, ⟨by omega, by omega⟩, ⟨by omega, by omega⟩, ⟨by omega, by omega⟩, rfl⟩)⟩
      · refine ⟨zk_X7_leads, zm_X7_leads hg d (by omega), _, _, rfl, ⟨by omega, by omega⟩, ⟨by omega, by omega⟩, ?_⟩
        intro x7 kx7 lx7
        refine And.intro ⟨by omega, by omega⟩ (And.intro (fun c8 => ?_) (fun c8 => ?_))
        · refine Exists.intro (Int.toNat ((2147483648 - v2) * 4294967296 + (2147483648 - (v3 + 1)))) (And.intro (by omega) ?_)
          exact ⟨(fun h => absurd h (by decide)), (fun _ => ⟨_, _, _, rfl, z0, ⟨by omega, by omega⟩, ⟨by omega, by omega⟩, ⟨by omega, by omega⟩, rfl⟩)⟩
        · refine And.intro ⟨by omega, by omega⟩ ?_
          intro m9 em9
          have z10 := zqw_t z0 (zqw_u em9 (Or.inl (by decide)) (Or.inl ⟨by decide, by decide⟩))
          refine ⟨xk_X7_markRound, xm_X7_markRound hg d (by omega), _, _, rfl, ⟨by omega, by omega⟩, ⟨by omega, by omega⟩, ?_⟩
          intro m11 qm11
          have z12 := zqw_t z10 qm11
          refine Exists.intro (Int.toNat ((2147483648 - v2) * 4294967296 + (2147483648 - (v3 + 1)))) (And.intro (by omega) ?_)
          exact ⟨(fun h => absurd h (by decide)), (fun _ => ⟨_, _, _, rfl, z12, ⟨by omega, by omega⟩, ⟨by omega, by omega⟩, ⟨by omega, by omega⟩, rfl⟩)⟩
def xk_X7_measure : zC := fun As μ Q => ∃ (a1 : Nat), As = [.inr (.inr (6, 6)), .inr (.inr (a1, 14))] ∧ (a1 = 14 ∨ a1 = 32) ∧ (∀ (μ' : zM), zqw μ μ' → Q none μ')
set_option maxHeartbeats 4000000 in
theorem xm_X7_measure {g : zΓ} (hg : zg g) (d : Nat) (hd : 5 ≤ d) : zOk g d 90 xk_X7_measure := by
  obtain ⟨d, rfl⟩ : ∃ d', d = d' + 1 := ⟨d - 1, by omega⟩
  refine zOk_loop hg (show mt_tab[90]? = some mt_X7_measure from rfl) ([(23, [0, 1, 2]), (48, [0, 1, 2, 3, 4, 5])], [92]) 72 rfl fun As μ Q hC => ?_
  obtain ⟨a1, rfl, ha1, hQ⟩ := hC
  have z0 : zqw μ μ := zqw_r μ
  refine ⟨rfl, fun pc vs μ' n => (pc = 23 → ∃ (v2 : Int), vs = [.inr (.inr (6, 6)), .inr (.inr (a1, 14)), .inl v2] ∧ zqw μ μ' ∧ (0 ≤ v2 ∧ v2 ≤ 300) ∧ n = (Int.toNat ((2147483648 - v2) * 4294967296 + 4294967295))) ∧ (pc = 48 → ∃ (v2 : Int) (v3 : Int) (v4 : Int) (v5 : Int), vs = [.inr (.inr (6, 6)), .inr (.inr (a1, 14)), .inl v2, .inl v3, .inl v4, .inl v5] ∧ zqw μ μ' ∧ (0 ≤ v2 ∧ v2 ≤ 299) ∧ ((-2147483648) ≤ v3 ∧ v3 ≤ 2147483647) ∧ (0 ≤ v4 ∧ v4 ≤ 301) ∧ (0 ≤ v5 ∧ v5 ≤ 2147483647) ∧ n = (Int.toNat ((2147483648 - v2) * 4294967296 + (2147483648 - v5)))), ?_, ?_, ?_, trivial⟩
  · refine ⟨_, zOk_tag (ym_J7_fill_53178 hg d (by omega)), [.inr (.inr (7, 1001)), .inl 0], rfl, _, _, rfl, (Or.inr ⟨by decide, by decide⟩), ⟨by omega, by omega⟩, (show _ ∧ _ from ⟨by omega, by omega⟩), (by decide), ?_⟩
    intro m1 qm1 pm1
    have z2 := zqw_t z0 (zqw_s qm1.1 pm1.1 qm1.2 (by decide))
    refine ⟨_, zOk_tag (ym_J7_fill_53178 hg d (by omega)), [.inr (.inr (9, 1001)), .inl 0], rfl, _, _, rfl, (Or.inr ⟨by decide, by decide⟩), ⟨by omega, by omega⟩, (show _ ∧ _ from ⟨by omega, by omega⟩), (by decide), ?_⟩
    intro m3 qm3 pm3
    have z4 := zqw_t z2 (zqw_s qm3.1 pm3.1 qm3.2 (by decide))
    refine And.intro ⟨by omega, by omega⟩ ?_
    intro m5 em5
    have z6 := zqw_t z4 (zqw_u em5 (Or.inl (by decide)) (Or.inl ⟨by decide, by decide⟩))
    refine Exists.intro (Int.toNat ((2147483648 - 0) * 4294967296 + 4294967295)) ?_
    exact ⟨(fun _ => ⟨_, rfl, z6, ⟨by omega, by omega⟩, rfl⟩), (fun h => absurd h (by decide))⟩
  · intro vs m0 n hI
    replace hI := hI.1 rfl
    clear z0
    obtain ⟨v2, rfl, z0, hv2, rfl⟩ := hI
    refine And.intro ha1 ?_
    intro x7 hx7 kx7 lx7
    refine And.intro ⟨⟨by omega, by omega⟩, ⟨by omega, by omega⟩⟩ (And.intro (fun c8 => ?_) (fun c8 => ?_))
    · refine And.intro ha1 ?_
      intro x9 hx9 kx9 lx9
      refine ⟨xk_X7_closeReach, xm_X7_closeReach hg d (by omega), _, rfl, ⟨by omega, by omega⟩, ?_⟩
      intro m10 qm10
      have z11 := zqw_t z0 qm10
      refine And.intro ha1 ?_
      intro x12 hx12 kx12 lx12
      refine ⟨xk_X7_markRounds, xm_X7_markRounds hg d (by omega), _, rfl, ⟨by omega, by omega⟩, ?_⟩
      intro m13 qm13
      have z14 := zqw_t z11 qm13
      exact And.intro rfl (hQ _ z14)
    · refine And.intro ha1 ?_
      refine ⟨zk_X8_at, zm_X8_at hg d (by omega), _, _, _, rfl, ⟨by omega, by omega⟩, ?_⟩
      refine And.intro (zfa (o := 11) (y2 := 25) ha1 rfl) ?_
      intro x15 kx15 lx15 fx15 gx15
      refine Exists.intro (Int.toNat ((2147483648 - v2) * 4294967296 + (2147483648 - 0))) (And.intro (by omega) ?_)
      exact ⟨(fun h => absurd h (by decide)), (fun _ => ⟨_, _, _, _, rfl, z0, ⟨by omega, by omega⟩, ⟨by omega, by omega⟩, ⟨by omega, by omega⟩, ⟨by omega, by omega⟩, rfl⟩)⟩
  · intro vs m0 n hI
    replace hI := hI.2 rfl
    clear z0
    obtain ⟨v2, v3, v4, v5, rfl, z0, hv2, hv3, hv4, hv5, rfl⟩ := hI
    refine ⟨zk_X8_isClass, zm_X8_isClass hg d (by omega), _, rfl, ⟨by omega, by omega⟩, ?_⟩
    intro x16 kx16 lx16
    refine And.intro ⟨by omega, by omega⟩ (And.intro (fun c17 => ?_) (fun c17 => ?_))
    · refine Exists.intro (Int.toNat ((2147483648 - (v2 + 1)) * 4294967296 + 4294967295)) (And.intro (by omega) ?_)
      exact ⟨(fun _ => ⟨_, rfl, z0, ⟨by omega, by omega⟩, rfl⟩), (fun h => absurd h (by decide))⟩
    · refine And.intro ha1 ⟨zk_X4_arity, zm_X4_arity hg d (by omega), _, _, rfl, ha1, ⟨by omega, by omega⟩, ?_⟩
      intro x18 kx18 lx18
      refine And.intro ⟨⟨by omega, by omega⟩, ⟨by omega, by omega⟩⟩ (And.intro (fun c19 => ?_) (fun c19 => ?_))
      · refine Exists.intro (Int.toNat ((2147483648 - (v2 + 1)) * 4294967296 + 4294967295)) (And.intro (by omega) ?_)
        exact ⟨(fun _ => ⟨_, rfl, z0, ⟨by omega, by omega⟩, rfl⟩), (fun h => absurd h (by decide))⟩
      · refine And.intro ha1 ⟨zk_X4_endOfPart, zm_X4_endOfPart hg d (by omega), _, _, rfl, ha1, ⟨by omega, by omega⟩, ?_⟩
        intro x20 kx20 lx20
        refine And.intro ha1 ?_
        refine And.intro ha1 ?_
        refine ⟨zk_X8_at, zm_X8_at hg d (by omega), _, _, _, rfl, ⟨by omega, by omega⟩, ?_⟩
        refine And.intro (zfa (o := 2) (y2 := 16) ha1 rfl) ?_
        intro x21 kx21 lx21 fx21 gx21
        intro x22 hx22 kx22 lx22
        refine ⟨_, zOk_tag (xm_X7_addWays hg d (by omega)), [.inr (.inr (6, 6)), .inr (.inr ((Nat.add a1 11), 1001)), .inl v4, .inl x20, .inl x22], rfl, _, _, _, _, rfl, (zIa_f (zfa (o := 11) (y2 := 25) ha1 rfl) (by decide) (by decide)), ⟨by omega, by omega⟩, ⟨by omega, by omega⟩, ⟨by omega, by omega⟩, ?_⟩
        intro m23 qm23
        have z24 := zqw_t z0 qm23
        refine Exists.intro (Int.toNat ((2147483648 - v2) * 4294967296 + (2147483648 - (v5 + 1)))) (And.intro (by omega) ?_)
        exact ⟨(fun h => absurd h (by decide)), (fun _ => ⟨_, _, _, _, rfl, z24, ⟨by omega, by omega⟩, ⟨by omega, by omega⟩, ⟨by omega, by omega⟩, ⟨by omega, by omega⟩, rfl⟩)⟩
def xk_X6_make : zC := fun As μ Q => ∃ (a1 : Int) (a2 : Int), As = [.inr (.inr (59, 59)), .inl a1, .inl a2] ∧ ((-2147483648) ≤ a1 ∧ a1 ≤ 2147483647) ∧ ((-100000) ≤ a2 ∧ a2 ≤ 300000) ∧ (∀ (v : Int) (μ' : zM), zq0 μ μ' → (-2147483648) ≤ v → v ≤ 2147483647 → (μ'.1 52 ((13 : Nat) : Int) = μ.1 52 ((13 : Nat) : Int)) → Q (some (.inl v)) μ')
set_option maxHeartbeats 4000000 in
theorem xm_X6_make {g : zΓ} (hg : zg g) (d : Nat) (hd : 2 ≤ d) : zOk g d 87 xk_X6_make := by
  obtain ⟨d, rfl⟩ : ∃ d', d = d' + 1 := ⟨d - 1, by omega⟩
  refine zOk_loop hg (show mt_tab[87]? = some mt_X6_make from rfl) ([(15, [0, 1, 2, 3, 4, 5]), (74, [0, 1, 2, 3, 5, 6, 7]), (214, [0, 2, 3, 6, 7])], [25, 37]) 143 rfl fun As μ Q hC => ?_
  obtain ⟨a1, a2, rfl, ha1, ha2, hQ⟩ := hC
  have z0 : zq0 μ μ := zq0_r μ
  refine ⟨rfl, fun pc vs μ' n => (pc = 15 → ∃ (v1 : Int) (v2 : Int) (v3 : Int) (v4 : Int) (v5 : Int), vs = [.inr (.inr (59, 59)), .inl v1, .inl v2, .inl v3, .inl v4, .inl v5] ∧ zq0 μ μ' ∧ ((-2147483648) ≤ v1 ∧ v1 ≤ 2147483647) ∧ ((-100000) ≤ v2 ∧ v2 ≤ 300000) ∧ (0 ≤ v3 ∧ v3 ≤ 4) ∧ ((-2147483648) ≤ v4 ∧ v4 ≤ 2147483647) ∧ (0 ≤ v5 ∧ v5 ≤ 2147483647) ∧ (μ' = μ) ∧ n = (Int.toNat (2147483648 - v5 + 3 * 4294967296))) ∧ (pc = 74 → ∃ (v1 : Int) (v2 : Int) (v3 : Int) (v5 : Int) (v6 : Int) (v7 : Int), vs = [.inr (.inr (59, 59)), .inl v1, .inl v2, .inl v3, .inl v5, .inl v6, .inl v7] ∧ zq0 μ μ' ∧ ((-2147483648) ≤ v1 ∧ v1 ≤ 2147483647) ∧ ((-100000) ≤ v2 ∧ v2 ≤ 300000) ∧ (0 ≤ v3 ∧ v3 ≤ 4) ∧ ((-2147483648) ≤ v5 ∧ v5 ≤ 2147483647) ∧ ((-2147483648) ≤ v6 ∧ v6 ≤ 2147483647) ∧ (0 ≤ v7 ∧ v7 ≤ 2147483647) ∧ (μ' = μ) ∧ n = (Int.toNat (2147483648 - v7 + 2 * 4294967296))) ∧ (pc = 214 → ∃ (v2 : Int) (v3 : Int) (v6 : Int) (v7 : Int), vs = [.inr (.inr (59, 59)), .inl v2, .inl v3, .inl v6, .inl v7] ∧ zq0 μ μ' ∧ ((-100000) ≤ v2 ∧ v2 ≤ 300000) ∧ (0 ≤ v3 ∧ v3 ≤ 4) ∧ (0 ≤ v6 ∧ v6 ≤ 6999) ∧ (0 ≤ v7 ∧ v7 ≤ 2147483647) ∧ (μ'.1 59 ((8 : Nat) : Int) + v3 ≤ 7000) ∧ (μ'.1 59 ((7 : Nat) : Int) = v6) ∧ (μ'.1 52 ((13 : Nat) : Int) = μ.1 52 ((13 : Nat) : Int)) ∧ n = (Int.toNat (2147483648 - v7))), ?_, ?_, ?_, ?_, trivial⟩
  · intro t1 et1 ht1
    refine And.intro ht1.1 ⟨zk_X4_arity, zm_X4_arity hg d (by omega), _, _, rfl, ht1.1, ⟨by omega, by omega⟩, ?_⟩
    intro x2 kx2 lx2
    refine Exists.intro (Int.toNat (2147483648 - 0 + 3 * 4294967296)) ?_
    exact ⟨(fun _ => ⟨_, _, _, _, _, rfl, z0, ⟨by omega, by omega⟩, ⟨by omega, by omega⟩, ⟨by omega, by omega⟩, ⟨by omega, by omega⟩, ⟨by omega, by omega⟩, (by first | rfl | assumption), rfl⟩), (fun h => absurd h (by decide)), (fun h => absurd h (by decide))⟩
  · intro vs m0 n hI
    replace hI := hI.1 rfl
    clear z0
    obtain ⟨v1, v2, v3, v4, v5, rfl, z0, hv1, hv2, hv3, hv4, hv5, i0, rfl⟩ := hI
    subst i0
    refine And.intro ⟨⟨by omega, by omega⟩, ⟨by omega, by omega⟩⟩ (And.intro (fun c3 => ?_) (fun c3 => ?_))
    · intro x4 hx4 kx4 lx4
      intro x5 hx5 kx5 lx5
      intro x6 hx6 kx6 lx6
      refine ⟨zk_X8_at, zm_X8_at hg d (by omega), _, _, _, rfl, ⟨by omega, by omega⟩, ?_⟩
      intro x7 kx7 lx7 fx7 gx7
      refine Exists.intro (Int.toNat (2147483648 - 0 + 2 * 4294967296)) (And.intro (by omega) ?_)
      exact ⟨(fun h => absurd h (by decide)), (fun _ => ⟨_, _, _, _, _, _, rfl, z0, ⟨by omega, by omega⟩, ⟨by omega, by omega⟩, ⟨by omega, by omega⟩, ⟨by omega, by omega⟩, ⟨by omega, by omega⟩, ⟨by omega, by omega⟩, (by first | rfl | assumption), rfl⟩), (fun h => absurd h (by decide))⟩
    · intro x8 hx8 kx8 lx8
      refine ⟨zk_X8_at, zm_X8_at hg d (by omega), _, _, _, rfl, ⟨by omega, by omega⟩, ?_⟩
      intro x9 kx9 lx9 fx9 gx9
      intro x10 hx10 kx10 lx10
      refine Exists.intro (Int.toNat (2147483648 - (v5 + 1) + 3 * 4294967296)) (And.intro (by omega) ?_)
      exact ⟨(fun _ => ⟨_, _, _, _, _, rfl, z0, ⟨by omega, by omega⟩, ⟨by omega, by omega⟩, ⟨by omega, by omega⟩, ⟨by omega, by omega⟩, ⟨by omega, by omega⟩, (by first | rfl | assumption), rfl⟩), (fun h => absurd h (by decide)), (fun h => absurd h (by decide))⟩
  · intro vs m0 n hI
    replace hI := hI.2.1 rfl
    clear z0
    obtain ⟨v1, v2, v3, v5, v6, v7, rfl, z0, hv1, hv2, hv3, hv5, hv6, hv7, i0, rfl⟩ := hI
    subst i0
    refine And.intro ⟨⟨by omega, by omega⟩, ⟨by omega, by omega⟩⟩ (And.intro (fun c11 => ?_) (fun c11 => ?_))
    · intro x12 hx12 kx12 lx12
      refine And.intro ⟨⟨by omega, by omega⟩, ⟨by omega, by omega⟩⟩ (And.intro (fun c13 => ?_) (fun c13 => ?_))
      · exact And.intro trivial (And.intro ⟨by omega, by omega⟩ (hQ _ _ z0 (by omega) (by omega) (by omega)))
      · intro x14 hx14 kx14 lx14
        refine And.intro ⟨⟨by omega, by omega⟩, ⟨by omega, by omega⟩⟩ (And.intro (fun c15 => ?_) (fun c15 => ?_))
        · refine ⟨zk_X8_set, zm_X8_set hg d (by omega), _, _, _, _, rfl, ⟨by omega, by omega⟩, ?_⟩
          refine And.intro ⟨by omega, by omega⟩ ?_
          intro m16 qm16 fm16 gm16
          have z17 := zq0_t z0 (zq0_s qm16 fm16 gm16 (by decide))
          have : m16.1 59 ((8 : Nat) : Int) = m0.1 59 ((8 : Nat) : Int) := congrFun (fm16 59 (show (59 : Nat) ≠ 60 by omega)) _
          have : m16.1 59 ((7 : Nat) : Int) = m0.1 59 ((7 : Nat) : Int) := congrFun (fm16 59 (show (59 : Nat) ≠ 60 by omega)) _
          have : m16.1 52 ((13 : Nat) : Int) = m0.1 52 ((13 : Nat) : Int) := congrFun (fm16 52 (show (52 : Nat) ≠ 60 by omega)) _
          intro x18 hx18 kx18 lx18
          refine ⟨zk_X8_set, zm_X8_set hg d (by omega), _, _, _, _, rfl, ⟨by omega, by omega⟩, ?_⟩
          refine And.intro ⟨by omega, by omega⟩ ?_
          intro m19 qm19 fm19 gm19
          have z20 := zq0_t z17 (zq0_s qm19 fm19 gm19 (by decide))
          have : m19.1 59 ((8 : Nat) : Int) = m16.1 59 ((8 : Nat) : Int) := congrFun (fm19 59 (show (59 : Nat) ≠ 61 by omega)) _
          have : m19.1 59 ((7 : Nat) : Int) = m16.1 59 ((7 : Nat) : Int) := congrFun (fm19 59 (show (59 : Nat) ≠ 61 by omega)) _
          have : m19.1 52 ((13 : Nat) : Int) = m16.1 52 ((13 : Nat) : Int) := congrFun (fm19 52 (show (52 : Nat) ≠ 61 by omega)) _
          refine ⟨zk_X8_at, zm_X8_at hg d (by omega), _, _, _, rfl, ⟨by omega, by omega⟩, ?_⟩
          intro x21 kx21 lx21 fx21 gx21
          refine ⟨zk_X8_set, zm_X8_set hg d (by omega), _, _, _, _, rfl, ⟨by omega, by omega⟩, ?_⟩
          refine And.intro ⟨by omega, by omega⟩ ?_
          intro m22 qm22 fm22 gm22
          have z23 := zq0_t z20 (zq0_s qm22 fm22 gm22 (by decide))
          have : m22.1 59 ((8 : Nat) : Int) = m19.1 59 ((8 : Nat) : Int) := congrFun (fm22 59 (show (59 : Nat) ≠ 62 by omega)) _
          have : m22.1 59 ((7 : Nat) : Int) = m19.1 59 ((7 : Nat) : Int) := congrFun (fm22 59 (show (59 : Nat) ≠ 62 by omega)) _
          have : m22.1 52 ((13 : Nat) : Int) = m19.1 52 ((13 : Nat) : Int) := congrFun (fm22 52 (show (52 : Nat) ≠ 62 by omega)) _
          refine ⟨zk_X8_set, zm_X8_set hg d (by omega), _, _, _, _, rfl, ⟨by omega, by omega⟩, ?_⟩
          refine And.intro ⟨by omega, by omega⟩ ?_
          intro m24 qm24 fm24 gm24
          have z25 := zq0_t z23 (zq0_s qm24 fm24 gm24 (by decide))
          have : m24.1 59 ((8 : Nat) : Int) = m22.1 59 ((8 : Nat) : Int) := congrFun (fm24 59 (show (59 : Nat) ≠ 64 by omega)) _
          have : m24.1 59 ((7 : Nat) : Int) = m22.1 59 ((7 : Nat) : Int) := congrFun (fm24 59 (show (59 : Nat) ≠ 64 by omega)) _
          have : m24.1 52 ((13 : Nat) : Int) = m22.1 52 ((13 : Nat) : Int) := congrFun (fm24 52 (show (52 : Nat) ≠ 64 by omega)) _
          refine Exists.intro (Int.toNat (2147483648 - 0)) (And.intro (by omega) ?_)
          exact ⟨(fun h => absurd h (by decide)), (fun h => absurd h (by decide)), (fun _ => ⟨_, _, _, _, rfl, z25, ⟨by omega, by omega⟩, ⟨by omega, by omega⟩, ⟨by omega, by omega⟩, ⟨by omega, by omega⟩, (by omega), (by omega), (by omega), rfl⟩)⟩
        · exact And.intro trivial (And.intro ⟨by omega, by omega⟩ (hQ _ _ z0 (by omega) (by omega) (by omega)))
    · refine And.intro ⟨by omega, by omega⟩ (And.intro (fun c26 => ?_) (fun c26 => ?_))
      · intro x27 hx27 kx27 lx27
        refine And.intro ⟨⟨by omega, by omega⟩, ⟨by omega, by omega⟩⟩ (And.intro (fun c28 => ?_) (fun c28 => ?_))
        · exact And.intro trivial (And.intro ⟨by omega, by omega⟩ (hQ _ _ z0 (by omega) (by omega) (by omega)))
        · intro x29 hx29 kx29 lx29
          refine And.intro ⟨⟨by omega, by omega⟩, ⟨by omega, by omega⟩⟩ (And.intro (fun c30 => ?_) (fun c30 => ?_))
          · refine ⟨zk_X8_set, zm_X8_set hg d (by omega), _, _, _, _, rfl, ⟨by omega, by omega⟩, ?_⟩
            refine And.intro ⟨by omega, by omega⟩ ?_
            intro m31 qm31 fm31 gm31
            have z32 := zq0_t z0 (zq0_s qm31 fm31 gm31 (by decide))
            have : m31.1 59 ((8 : Nat) : Int) = m0.1 59 ((8 : Nat) : Int) := congrFun (fm31 59 (show (59 : Nat) ≠ 60 by omega)) _
            have : m31.1 59 ((7 : Nat) : Int) = m0.1 59 ((7 : Nat) : Int) := congrFun (fm31 59 (show (59 : Nat) ≠ 60 by omega)) _
            have : m31.1 52 ((13 : Nat) : Int) = m0.1 52 ((13 : Nat) : Int) := congrFun (fm31 52 (show (52 : Nat) ≠ 60 by omega)) _
            intro x33 hx33 kx33 lx33
            refine ⟨zk_X8_set, zm_X8_set hg d (by omega), _, _, _, _, rfl, ⟨by omega, by omega⟩, ?_⟩
            refine And.intro ⟨by omega, by omega⟩ ?_
            intro m34 qm34 fm34 gm34
            have z35 := zq0_t z32 (zq0_s qm34 fm34 gm34 (by decide))
            have : m34.1 59 ((8 : Nat) : Int) = m31.1 59 ((8 : Nat) : Int) := congrFun (fm34 59 (show (59 : Nat) ≠ 61 by omega)) _
            have : m34.1 59 ((7 : Nat) : Int) = m31.1 59 ((7 : Nat) : Int) := congrFun (fm34 59 (show (59 : Nat) ≠ 61 by omega)) _
            have : m34.1 52 ((13 : Nat) : Int) = m31.1 52 ((13 : Nat) : Int) := congrFun (fm34 52 (show (52 : Nat) ≠ 61 by omega)) _
            refine ⟨zk_X8_at, zm_X8_at hg d (by omega), _, _, _, rfl, ⟨by omega, by omega⟩, ?_⟩
            intro x36 kx36 lx36 fx36 gx36
            refine ⟨zk_X8_set, zm_X8_set hg d (by omega), _, _, _, _, rfl, ⟨by omega, by omega⟩, ?_⟩
            refine And.intro ⟨by omega, by omega⟩ ?_
            intro m37 qm37 fm37 gm37
            have z38 := zq0_t z35 (zq0_s qm37 fm37 gm37 (by decide))
            have : m37.1 59 ((8 : Nat) : Int) = m34.1 59 ((8 : Nat) : Int) := congrFun (fm37 59 (show (59 : Nat) ≠ 62 by omega)) _
            have : m37.1 59 ((7 : Nat) : Int) = m34.1 59 ((7 : Nat) : Int) := congrFun (fm37 59 (show (59 : Nat) ≠ 62 by omega)) _
            have : m37.1 52 ((13 : Nat) : Int) = m34.1 52 ((13 : Nat) : Int) := congrFun (fm37 52 (show (52 : Nat) ≠ 62 by omega)) _
            refine ⟨zk_X8_set, zm_X8_set hg d (by omega), _, _, _, _, rfl, ⟨by omega, by omega⟩, ?_⟩
            refine And.intro ⟨by omega, by omega⟩ ?_
            intro m39 qm39 fm39 gm39
            have z40 := zq0_t z38 (zq0_s qm39 fm39 gm39 (by decide))
            have : m39.1 59 ((8 : Nat) : Int) = m37.1 59 ((8 : Nat) : Int) := congrFun (fm39 59 (show (59 : Nat) ≠ 64 by omega)) _
            have : m39.1 59 ((7 : Nat) : Int) = m37.1 59 ((7 : Nat) : Int) := congrFun (fm39 59 (show (59 : Nat) ≠ 64 by omega)) _
            have : m39.1 52 ((13 : Nat) : Int) = m37.1 52 ((13 : Nat) : Int) := congrFun (fm39 52 (show (52 : Nat) ≠ 64 by omega)) _
            refine Exists.intro (Int.toNat (2147483648 - 0)) (And.intro (by omega) ?_)
            exact ⟨(fun h => absurd h (by decide)), (fun h => absurd h (by decide)), (fun _ => ⟨_, _, _, _, rfl, z40, ⟨by omega, by omega⟩, ⟨by omega, by omega⟩, ⟨by omega, by omega⟩, ⟨by omega, by omega⟩, (by omega), (by omega), (by omega), rfl⟩)⟩
          · exact And.intro trivial (And.intro ⟨by omega, by omega⟩ (hQ _ _ z0 (by omega) (by omega) (by omega)))
      · refine ⟨zk_X8_at, zm_X8_at hg d (by omega), _, _, _, rfl, ⟨by omega, by omega⟩, ?_⟩
        intro x41 kx41 lx41 fx41 gx41
        refine And.intro ⟨⟨by omega, by omega⟩, ⟨by omega, by omega⟩⟩ (And.intro (fun c42 => ?_) (fun c42 => ?_))
        · refine ⟨zk_X8_at, zm_X8_at hg d (by omega), _, _, _, rfl, ⟨by omega, by omega⟩, ?_⟩
          intro x43 kx43 lx43 fx43 gx43
          refine Exists.intro (Int.toNat (2147483648 - (v7 + 1) + 2 * 4294967296)) (And.intro (by omega) ?_)
          exact ⟨(fun h => absurd h (by decide)), (fun _ => ⟨_, _, _, _, _, _, rfl, z0, ⟨by omega, by omega⟩, ⟨by omega, by omega⟩, ⟨by omega, by omega⟩, ⟨by omega, by omega⟩, ⟨by omega, by omega⟩, ⟨by omega, by omega⟩, (by first | rfl | assumption), rfl⟩), (fun h => absurd h (by decide))⟩
        · refine ⟨zk_X6_hasParts, zm_X6_hasParts hg d (by omega), _, _, _, rfl, ⟨by omega, by omega⟩, ⟨by omega, by omega⟩, ⟨by omega, by omega⟩, ?_⟩
          intro x44 kx44 lx44
          refine And.intro ⟨by omega, by omega⟩ (And.intro (fun c45 => ?_) (fun c45 => ?_))
          · refine ⟨zk_X8_at, zm_X8_at hg d (by omega), _, _, _, rfl, ⟨by omega, by omega⟩, ?_⟩
            intro x46 kx46 lx46 fx46 gx46
            refine Exists.intro (Int.toNat (2147483648 - (v7 + 1) + 2 * 4294967296)) (And.intro (by omega) ?_)
            exact ⟨(fun h => absurd h (by decide)), (fun _ => ⟨_, _, _, _, _, _, rfl, z0, ⟨by omega, by omega⟩, ⟨by omega, by omega⟩, ⟨by omega, by omega⟩, ⟨by omega, by omega⟩, ⟨by omega, by omega⟩, ⟨by omega, by omega⟩, (by first | rfl | assumption), rfl⟩), (fun h => absurd h (by decide))⟩
          · exact And.intro trivial (And.intro ⟨by omega, by omega⟩ (hQ _ _ z0 (by omega) (by omega) (by omega)))
  · intro vs m0 n hI
    replace hI := hI.2.2 rfl
    clear z0
    obtain ⟨v2, v3, v6, v7, rfl, z0, hv2, hv3, hv6, hv7, i0, i1, i2, rfl⟩ := hI
    refine And.intro ⟨⟨by omega, by omega⟩, ⟨by omega, by omega⟩⟩ (And.intro (fun c47 => ?_) (fun c47 => ?_))
    · intro x48 hx48 kx48 lx48
      refine And.intro ⟨by omega, by omega⟩ ?_
      intro m49 em49
      have z50 := zq0_t z0 (zq0_u em49 (Or.inl (by decide)) (Or.inl ⟨by decide, by decide⟩))
      have : m49.1 59 ((8 : Nat) : Int) = (x48 + v3) := by rw [em49]; exact zu_at
      have : m49.1 59 ((7 : Nat) : Int) = m0.1 59 ((7 : Nat) : Int) := by rw [em49]; exact zu_nk (by decide)
      have : m49.1 52 ((13 : Nat) : Int) = m0.1 52 ((13 : Nat) : Int) := by rw [em49]; exact congrFun (zu_ne (show (52 : Nat) ≠ 59 by omega)) _
      intro x51 hx51 kx51 lx51
      refine And.intro ⟨by omega, by omega⟩ ?_
      intro m52 em52
      have z53 := zq0_t z50 (zq0_u em52 (Or.inl (by decide)) (Or.inl ⟨by decide, by decide⟩))
      have : m52.1 59 ((8 : Nat) : Int) = m49.1 59 ((8 : Nat) : Int) := by rw [em52]; exact zu_nk (by decide)
      have : m52.1 59 ((7 : Nat) : Int) = (x51 + 1) := by rw [em52]; exact zu_at
      have : m52.1 52 ((13 : Nat) : Int) = m49.1 52 ((13 : Nat) : Int) := by rw [em52]; exact congrFun (zu_ne (show (52 : Nat) ≠ 59 by omega)) _
      exact And.intro trivial (And.intro ⟨by omega, by omega⟩ (hQ _ _ z53 (by omega) (by omega) (by omega)))
    · intro x54 hx54 kx54 lx54
      refine ⟨zk_X8_at, zm_X8_at hg d (by omega), _, _, _, rfl, ⟨by omega, by omega⟩, ?_⟩
      intro x55 kx55 lx55 fx55 gx55
      refine ⟨zk_X8_set, zm_X8_set hg d (by omega), _, _, _, _, rfl, ⟨by omega, by omega⟩, ?_⟩
      refine And.intro ⟨by omega, by omega⟩ ?_
      intro m56 qm56 fm56 gm56
      have z57 := zq0_t z0 (zq0_s qm56 fm56 gm56 (by decide))
      have : m56.1 59 ((8 : Nat) : Int) = m0.1 59 ((8 : Nat) : Int) := congrFun (fm56 59 (show (59 : Nat) ≠ 63 by omega)) _
      have : m56.1 59 ((7 : Nat) : Int) = m0.1 59 ((7 : Nat) : Int) := congrFun (fm56 59 (show (59 : Nat) ≠ 63 by omega)) _
      have : m56.1 52 ((13 : Nat) : Int) = m0.1 52 ((13 : Nat) : Int) := congrFun (fm56 52 (show (52 : Nat) ≠ 63 by omega)) _
      refine Exists.intro (Int.toNat (2147483648 - (v7 + 1))) (And.intro (by omega) ?_)
      exact ⟨(fun h => absurd h (by decide)), (fun h => absurd h (by decide)), (fun _ => ⟨_, _, _, _, rfl, z57, ⟨by omega, by omega⟩, ⟨by omega, by omega⟩, ⟨by omega, by omega⟩, ⟨by omega, by omega⟩, (by omega), (by omega), (by omega), rfl⟩)⟩
def xk_X6_leaf : zC := fun As μ Q => ∃ (a1 : Int), As = [.inr (.inr (59, 59)), .inl a1] ∧ ((-2147483648) ≤ a1 ∧ a1 ≤ 2147483647) ∧ (∀ (v : Int) (μ' : zM), zq0 μ μ' → (-2147483648) ≤ v → v ≤ 2147483647 → (μ'.1 52 ((13 : Nat) : Int) = μ.1 52 ((13 : Nat) : Int)) → Q (some (.inl v)) μ')
set_option maxHeartbeats 4000000 in
theorem xm_X6_leaf {g : zΓ} (hg : zg g) (d : Nat) (hd : 3 ≤ d) : zOk g d 85 xk_X6_leaf := by
  obtain ⟨d, rfl⟩ : ∃ d', d = d' + 1 := ⟨d - 1, by omega⟩
  refine zOk_straight hg (show mt_tab[85]? = some mt_X6_leaf from rfl) [] 10 rfl fun As μ Q hC => ?_
  obtain ⟨a1, rfl, ha1, hQ⟩ := hC
  refine ⟨rfl, ?_⟩
  have z0 : zq0 μ μ := zq0_r μ
  refine ⟨xk_X6_make, xm_X6_make hg d (by omega), _, _, rfl, ⟨by omega, by omega⟩, ⟨by omega, by omega⟩, ?_⟩
  intro x1 m2 qm2 kx1 lx1 p3
  have z4 := zq0_t z0 qm2
  have : m2.1 52 ((13 : Nat) : Int) = μ.1 52 ((13 : Nat) : Int) := p3
  exact And.intro trivial (And.intro ⟨by omega, by omega⟩ (hQ _ _ z4 (by omega) (by omega) (by omega)))
def xk_X6_startOver : zC := fun As μ Q => ∃ (a1 : Nat), As = [.inr (.inr (59, 59)), .inr (.inr (a1, 14))] ∧ (a1 = 14 ∨ a1 = 32) ∧ (∀ (μ' : zM), zq0 μ μ' → Q none μ')
set_option maxHeartbeats 4000000 in
theorem xm_X6_startOver {g : zΓ} (hg : zg g) (d : Nat) (hd : 2 ≤ d) : zOk g d 81 xk_X6_startOver := by
  obtain ⟨d, rfl⟩ : ∃ d', d = d' + 1 := ⟨d - 1, by omega⟩
  refine zOk_straight hg (show mt_tab[81]? = some mt_X6_startOver from rfl) [] 19 rfl fun As μ Q hC => ?_
  obtain ⟨a1, rfl, ha1, hQ⟩ := hC
  refine ⟨rfl, ?_⟩
  have z0 : zq0 μ μ := zq0_r μ
  refine And.intro ⟨ha1, trivial⟩ ?_
  intro m1 em1
  have z2 := zq0_t z0 (zq0_u em1 (Or.inl (by decide)) (Or.inl ⟨by decide, by decide⟩))
  refine And.intro ⟨by omega, by omega⟩ ?_
  intro m3 em3
  have z4 := zq0_t z2 (zq0_u em3 (Or.inl (by decide)) (Or.inl ⟨by decide, by decide⟩))
  refine And.intro ⟨by omega, by omega⟩ ?_
  intro m5 em5
  have z6 := zq0_t z4 (zq0_u em5 (Or.inl (by decide)) (Or.inl ⟨by decide, by decide⟩))
  refine ⟨_, zOk_tag (ym_J7_fill_53178 hg d (by omega)), [.inr (.inr (64, 1001)), .inl (-1)], rfl, _, _, rfl, (Or.inr ⟨by decide, by decide⟩), ⟨by omega, by omega⟩, (show _ ∧ _ from ⟨by omega, by omega⟩), (by decide), ?_⟩
  intro m7 qm7 pm7
  have z8 := zq0_t z6 (zq0_s qm7.1 pm7.1 qm7.2 (by decide))
  exact And.intro rfl (hQ _ z8)
def xk_X6_put : zC := fun As μ Q => ∃ (a1 : Nat) (a2 : Int) (a3 : Int) (a4 : Nat) (a5 : Int) (a6 : Int), As = [.inr (.inr (59, 59)), .inr (.inr (a1, 1001)), .inl a2, .inl a3, .inr (.inr (a4, 1001)), .inl a5, .inl a6] ∧ zIa μ a1 ∧ ((-1) ≤ a2 ∧ a2 ≤ 88400) ∧ ((-2147483646) ≤ a3 ∧ a3 ≤ 88400) ∧ zIa μ a4 ∧ ((-2147483648) ≤ a5 ∧ a5 ≤ 2147483647) ∧ ((-2147483648) ≤ a6 ∧ a6 ≤ 2147483647) ∧ (∀ (v : Int) (μ' : zM), zq0 μ μ' → (-2147483648) ≤ v → v ≤ 2147483647 → (μ'.1 52 ((13 : Nat) : Int) = μ.1 52 ((13 : Nat) : Int)) → Q (some (.inl v)) μ')
set_option maxHeartbeats 4000000 in
theorem xm_X6_put {g : zΓ} (hg : zg g) (d : Nat) (hd : 3 ≤ d) : zOk g d 86 xk_X6_put := by
  obtain ⟨d, rfl⟩ : ∃ d', d = d' + 1 := ⟨d - 1, by omega⟩
  refine zOk_loop hg (show mt_tab[86]? = some mt_X6_put from rfl) ([(12, [0, 1, 2, 4, 5, 6, 7, 8])], [40, 43, 46]) 59 rfl fun As μ Q hC => ?_
  obtain ⟨a1, a2, a3, a4, a5, a6, rfl, ha1, ha2, ha3, ha4, ha5, ha6, hQ⟩ := hC
  have z0 : zq0 μ μ := zq0_r μ
  refine ⟨rfl, fun pc vs μ' n => ∃ (v2 : Int) (v5 : Int) (v6 : Int) (v7 : Int) (v8 : Int), vs = [.inr (.inr (59, 59)), .inr (.inr (a1, 1001)), .inl v2, .inr (.inr (a4, 1001)), .inl v5, .inl v6, .inl v7, .inl v8] ∧ zq0 μ μ' ∧ ((-2147483648) ≤ v2 ∧ v2 ≤ 2147483647) ∧ ((-2147483648) ≤ v5 ∧ v5 ≤ 2147483647) ∧ ((-2147483648) ≤ v6 ∧ v6 ≤ 2147483647) ∧ ((-100000) ≤ v7 ∧ v7 ≤ 300000) ∧ ((-2147483648) ≤ v8 ∧ v8 ≤ 2147483647) ∧ (v2 = a2) ∧ (v8 ≤ a2 + a3 - 1) ∧ (a2 - 1 ≤ v8 ∨ v7 = 300) ∧ (300 - (a2 + a3 - 1 - v8) ≤ v7) ∧ (v7 ≤ 300 + 3 * (a2 + a3 - 1 - v8)) ∧ (μ'.1 52 ((13 : Nat) : Int) = μ.1 52 ((13 : Nat) : Int)) ∧ n = (Int.toNat (v8 + 2147483650)), ?_, ?_, trivial⟩
  · refine Exists.intro (Int.toNat (((a2 + a3) - 1) + 2147483650)) ?_
    exact ⟨_, _, _, _, _, rfl, z0, ⟨by omega, by omega⟩, ⟨by omega, by omega⟩, ⟨by omega, by omega⟩, ⟨by omega, by omega⟩, ⟨by omega, by omega⟩, (by omega), (by omega), (by omega), (by omega), (by omega), (by omega), rfl⟩
  · intro vs m0 n hI
    clear z0
    obtain ⟨v2, v5, v6, v7, v8, rfl, z0, hv2, hv5, hv6, hv7, hv8, i0, i1, i2, i3, i4, i5, rfl⟩ := hI
    refine And.intro ⟨⟨by omega, by omega⟩, ⟨by omega, by omega⟩⟩ (And.intro (fun c1 => ?_) (fun c1 => ?_))
    · refine ⟨zk_X8_at, zm_X8_at hg d (by omega), _, _, _, rfl, ⟨by omega, by omega⟩, ?_⟩
      intro x2 kx2 lx2 fx2 gx2
      exact And.intro trivial (And.intro ⟨by omega, by omega⟩ (hQ _ _ z0 (by omega) (by omega) (by omega)))
    · refine ⟨zk_X8_at, zm_X8_at hg d (by omega), _, _, _, rfl, ⟨by omega, by omega⟩, ?_⟩
      refine And.intro (zIa_m ha1 z0.1) ?_
      intro n3 hn3 kn3 ln3
      intro x4 kx4 lx4 fx4 gx4
      refine ⟨zk_X8_isParameter, zm_X8_isParameter hg d (by omega), _, rfl, ⟨by omega, by omega⟩, ?_⟩
      intro x5 kx5 lx5
      refine And.intro ⟨by omega, by omega⟩ (And.intro (fun c6 => ?_) (fun c6 => ?_))
      · refine ⟨xk_X6_make, xm_X6_make hg d (by omega), _, _, rfl, ⟨by omega, by omega⟩, ⟨by omega, by omega⟩, ?_⟩
        intro x7 m8 qm8 kx7 lx7 p9
        have z10 := zq0_t z0 qm8
        have : m8.1 52 ((13 : Nat) : Int) = m0.1 52 ((13 : Nat) : Int) := p9
        intro t11 et11 ht11
        refine And.intro ht11.1 ⟨zk_X4_arity, zm_X4_arity hg d (by omega), _, _, rfl, ht11.1, ⟨by omega, by omega⟩, ?_⟩
        intro x12 kx12 lx12
        refine ⟨zk_X8_set, zm_X8_set hg d (by omega), _, _, _, _, rfl, ⟨by omega, by omega⟩, ?_⟩
        refine And.intro ⟨by omega, by omega⟩ ?_
        intro m13 qm13 fm13 gm13
        have z14 := zq0_t z10 (zq0_s qm13 fm13 gm13 (by decide))
        have : m13.1 52 ((13 : Nat) : Int) = m8.1 52 ((13 : Nat) : Int) := congrFun (fm13 52 (show (52 : Nat) ≠ 65 by omega)) _
        refine Exists.intro (Int.toNat ((v8 + (-1)) + 2147483650)) (And.intro (by omega) ?_)
        exact ⟨_, _, _, _, _, rfl, z14, ⟨by omega, by omega⟩, ⟨by omega, by omega⟩, ⟨by omega, by omega⟩, ⟨by omega, by omega⟩, ⟨by omega, by omega⟩, (by omega), (by omega), (by omega), (by omega), (by omega), (by omega), rfl⟩
      · intro x15 hx15 kx15 lx15
        intro x16 hx16 kx16 lx16
        intro x17 hx17 kx17 lx17
        refine ⟨zk_X8_at, zm_X8_at hg d (by omega), _, _, _, rfl, ⟨by omega, by omega⟩, ?_⟩
        refine And.intro (zIa_m ha4 z0.1) ?_
        intro n18 hn18 kn18 ln18
        intro x19 kx19 lx19 fx19 gx19
        refine ⟨zk_X8_set, zm_X8_set hg d (by omega), _, _, _, _, rfl, ⟨by omega, by omega⟩, ?_⟩
        refine And.intro ⟨by omega, by omega⟩ ?_
        intro m20 qm20 fm20 gm20
        have z21 := zq0_t z0 (zq0_s qm20 fm20 gm20 (by decide))
        have : m20.1 52 ((13 : Nat) : Int) = m0.1 52 ((13 : Nat) : Int) := congrFun (fm20 52 (show (52 : Nat) ≠ 65 by omega)) _
        refine Exists.intro (Int.toNat ((v8 + (-1)) + 2147483650)) (And.intro (by omega) ?_)
        exact ⟨_, _, _, _, _, rfl, z21, ⟨by omega, by omega⟩, ⟨by omega, by omega⟩, ⟨by omega, by omega⟩, ⟨by omega, by omega⟩, ⟨by omega, by omega⟩, (by omega), (by omega), (by omega), (by omega), (by omega), (by omega), rfl⟩
def xk_X0_nodeOf : zC := fun As μ Q => ∃ (a1 : Nat) (a2 : Int) (a3 : Int), As = [.inr (.inr (52, 52)), .inr (.inr (a1, 1001)), .inl a2, .inl a3] ∧ zIa μ a1 ∧ ((-1) ≤ a2 ∧ a2 ≤ 88400) ∧ ((-2147483646) ≤ a3 ∧ a3 ≤ 88400) ∧ (∀ (v : Int) (μ' : zM), zq0 μ μ' → (-2147483648) ≤ v → v ≤ 2147483647 → Q (some (.inl v)) μ')
set_option maxHeartbeats 4000000 in
theorem xm_X0_nodeOf {g : zΓ} (hg : zg g) (d : Nat) (hd : 4 ≤ d) : zOk g d 3 xk_X0_nodeOf := by
  obtain ⟨d, rfl⟩ : ∃ d', d = d' + 1 := ⟨d - 1, by omega⟩
  refine zOk_straight hg (show mt_tab[3]? = some mt_X0_nodeOf from rfl) [] 17 rfl fun As μ Q hC => ?_
  obtain ⟨a1, a2, a3, rfl, ha1, ha2, ha3, hQ⟩ := hC
  refine ⟨rfl, ?_⟩
  have z0 : zq0 μ μ := zq0_r μ
  intro x1 hx1 kx1 lx1
  refine ⟨_, zOk_tag (xm_X6_put hg d (by omega)), [.inr (.inr (59, 59)), .inr (.inr (a1, 1001)), .inl a2, .inl a3, .inr (.inr (56, 1001)), .inl 0, .inl x1], rfl, _, _, _, _, _, _, rfl, (zIa_m ha1 z0.1), ⟨by omega, by omega⟩, ⟨by omega, by omega⟩, (Or.inr ⟨by decide, by decide⟩), ⟨by omega, by omega⟩, ⟨by omega, by omega⟩, ?_⟩
  intro x2 m3 qm3 kx2 lx2 p4
  have z5 := zq0_t z0 qm3
  exact And.intro trivial (And.intro ⟨by omega, by omega⟩ (hQ _ _ z5 (by omega) (by omega)))
def xk_X0_tellOwnBounds : zC := fun As μ Q => ∃ (a1 : Int), As = [.inr (.inr (52, 52)), .inl a1] ∧ (0 ≤ a1 ∧ a1 ≤ 3) ∧ (∀ (μ' : zM), zq0 μ μ' → Q none μ')
set_option maxHeartbeats 4000000 in
theorem xm_X0_tellOwnBounds {g : zΓ} (hg : zg g) (d : Nat) (hd : 5 ≤ d) : zOk g d 2 xk_X0_tellOwnBounds := by
  obtain ⟨d, rfl⟩ : ∃ d', d = d' + 1 := ⟨d - 1, by omega⟩
  refine zOk_loop hg (show mt_tab[2]? = some mt_X0_tellOwnBounds from rfl) ([(23, [0, 1, 2, 3])], [5, 40, 42, 51, 53]) 59 rfl fun As μ Q hC => ?_
  obtain ⟨a1, rfl, ha1, hQ⟩ := hC
  have z0 : zq0 μ μ := zq0_r μ
  refine ⟨rfl, fun pc vs μ' n => ∃ (v1 : Int) (v2 : Int) (v3 : Int), vs = [.inr (.inr (52, 52)), .inl v1, .inl v2, .inl v3] ∧ zq0 μ μ' ∧ ((-2147483648) ≤ v1 ∧ v1 ≤ 2147483647) ∧ ((-2147483648) ≤ v2 ∧ v2 ≤ 2147483647) ∧ (0 ≤ v3 ∧ v3 ≤ 2147483647) ∧ n = (Int.toNat (2147483648 - v3)), ?_, ?_, trivial⟩
  · intro x1 hx1 kx1 lx1
    intro x2 hx2 kx2 lx2
    intro x3 hx3 kx3 lx3
    refine ⟨zk_X8_set, zm_X8_set hg d (by omega), _, _, _, _, rfl, ⟨by omega, by omega⟩, ?_⟩
    refine And.intro ⟨by omega, by omega⟩ ?_
    intro m4 qm4 fm4 gm4
    have z5 := zq0_t z0 (zq0_s qm4 fm4 gm4 (by decide))
    refine Exists.intro (Int.toNat (2147483648 - 0)) ?_
    exact ⟨_, _, _, rfl, z5, ⟨by omega, by omega⟩, ⟨by omega, by omega⟩, ⟨by omega, by omega⟩, rfl⟩
  · intro vs m0 n hI
    clear z0
    obtain ⟨v1, v2, v3, rfl, z0, hv1, hv2, hv3, rfl⟩ := hI
    intro t6 et6 ht6
    refine And.intro ht6.1 ?_
    refine ⟨zk_X8_at, zm_X8_at hg d (by omega), _, _, _, rfl, ⟨by omega, by omega⟩, ?_⟩
    refine And.intro (zfa (o := 8) (y2 := 22) ht6.1 rfl) ?_
    intro x7 kx7 lx7 fx7 gx7
    refine And.intro ⟨⟨by omega, by omega⟩, ⟨by omega, by omega⟩⟩ (And.intro (fun c8 => ?_) (fun c8 => ?_))
    · exact And.intro rfl (hQ _ z0)
    · intro x9 hx9 kx9 lx9
      intro x10 hx10 kx10 lx10
      intro x11 hx11 kx11 lx11
      intro x12 hx12 kx12 lx12
      intro t13 et13 ht13
      have qt13 : t6 = t13 := by omega
      subst qt13
      refine And.intro ht6.1 ?_
      intro t14 et14 ht14
      have qt14 : t6 = t14 := by omega
      subst qt14
      refine And.intro ht6.1 ?_
      refine ⟨zk_X8_at, zm_X8_at hg d (by omega), _, _, _, rfl, ⟨by omega, by omega⟩, ?_⟩
      refine And.intro (zfa (o := 9) (y2 := 23) ht6.1 rfl) ?_
      intro x15 kx15 lx15 fx15 gx15
      intro t16 et16 ht16
      have qt16 : t6 = t16 := by omega
      subst qt16
      refine And.intro ht6.1 ?_
      refine ⟨zk_X8_at, zm_X8_at hg d (by omega), _, _, _, rfl, ⟨by omega, by omega⟩, ?_⟩
      refine And.intro (zfa (o := 10) (y2 := 24) ht6.1 rfl) ?_
      intro x17 kx17 lx17 fx17 gx17
      refine ⟨_, zOk_tag (xm_X0_nodeOf hg d (by omega)), [.inr (.inr (52, 52)), .inr (.inr ((Nat.add t6 11), 1001)), .inl x15, .inl x17], rfl, _, _, _, rfl, (zIa_f (zfa (o := 11) (y2 := 25) ht6.1 rfl) (by decide) (by decide)), ⟨by omega, by omega⟩, ⟨by omega, by omega⟩, ?_⟩
      intro x18 m19 qm19 kx18 lx18
      have z20 := zq0_t z0 qm19
      refine ⟨zk_X8_set, zm_X8_set hg d (by omega), _, _, _, _, rfl, ⟨by omega, by omega⟩, ?_⟩
      refine And.intro ⟨by omega, by omega⟩ ?_
      intro m21 qm21 fm21 gm21
      have z22 := zq0_t z20 (zq0_s qm21 fm21 gm21 (by decide))
      refine Exists.intro (Int.toNat (2147483648 - (v3 + 1))) (And.intro (by omega) ?_)
      exact ⟨_, _, _, rfl, z22, ⟨by omega, by omega⟩, ⟨by omega, by omega⟩, ⟨by omega, by omega⟩, rfl⟩
def xk_X0_startOver : zC := fun As μ Q => ∃ (a1 : Nat) (a2 : Int), As = [.inr (.inr (52, 52)), .inr (.inr (a1, 14)), .inl a2] ∧ (a1 = 14 ∨ a1 = 32) ∧ ((-2147483648) ≤ a2 ∧ a2 ≤ 2147483647) ∧ (∀ (μ' : zM), zq0 μ μ' → Q none μ')
set_option maxHeartbeats 4000000 in
theorem xm_X0_startOver {g : zΓ} (hg : zg g) (d : Nat) (hd : 6 ≤ d) : zOk g d 1 xk_X0_startOver := by
  obtain ⟨d, rfl⟩ : ∃ d', d = d' + 1 := ⟨d - 1, by omega⟩
  refine zOk_loop hg (show mt_tab[1]? = some mt_X0_startOver from rfl) ([(82, [0, 3, 4]), (123, [0, 3, 4]), (150, [0, 3, 4])], [104, 107]) 93 rfl fun As μ Q hC => ?_
  obtain ⟨a1, a2, rfl, ha1, ha2, hQ⟩ := hC
  have z0 : zq0 μ μ := zq0_r μ
  refine ⟨rfl, fun pc vs μ' n => (pc = 82 → ∃ (v3 : Int) (v4 : Int), vs = [.inr (.inr (52, 52)), .inl v3, .inl v4] ∧ zq0 μ μ' ∧ (0 ≤ v3 ∧ v3 ≤ 4) ∧ (0 ≤ v4 ∧ v4 ≤ 2147483647) ∧ n = (Int.toNat (2147483648 - v4 + 17179869184))) ∧ (pc = 123 → ∃ (v3 : Int) (v4 : Int), vs = [.inr (.inr (52, 52)), .inl v3, .inl v4] ∧ zq0 μ μ' ∧ (0 ≤ v3 ∧ v3 ≤ 4) ∧ (0 ≤ v4 ∧ v4 ≤ 2147483647) ∧ n = (Int.toNat (2147483648 - v4 + 8589934592))) ∧ (pc = 150 → ∃ (v3 : Int) (v4 : Int), vs = [.inr (.inr (52, 52)), .inl v3, .inl v4] ∧ zq0 μ μ' ∧ (0 ≤ v3 ∧ v3 ≤ 4) ∧ (0 ≤ v4 ∧ v4 ≤ 2147483647) ∧ n = (Int.toNat (2147483648 - v4))), ?_, ?_, ?_, ?_, trivial⟩
  · refine And.intro ⟨ha1, trivial⟩ ?_
    intro m1 em1
    have z2 := zq0_t z0 (zq0_u em1 (Or.inl (by decide)) (Or.inl ⟨by decide, by decide⟩))
    refine And.intro ⟨by omega, by omega⟩ ?_
    intro m3 em3
    have z4 := zq0_t z2 (zq0_u em3 (Or.inl (by decide)) (Or.inl ⟨by decide, by decide⟩))
    refine And.intro ⟨by omega, by omega⟩ ?_
    intro m5 em5
    have z6 := zq0_t z4 (zq0_u em5 (Or.inl (by decide)) (Or.inl ⟨by decide, by decide⟩))
    refine And.intro ⟨by omega, by omega⟩ ?_
    intro m7 em7
    have z8 := zq0_t z6 (zq0_u em7 (Or.inl (by decide)) (Or.inl ⟨by decide, by decide⟩))
    refine And.intro ⟨by omega, by omega⟩ ?_
    intro m9 em9
    have z10 := zq0_t z8 (zq0_u em9 (Or.inl (by decide)) (Or.inl ⟨by decide, by decide⟩))
    refine ⟨xk_X6_startOver, xm_X6_startOver hg d (by omega), _, rfl, ha1, ?_⟩
    intro m11 qm11
    have z12 := zq0_t z10 qm11
    refine ⟨xk_X6_leaf, xm_X6_leaf hg d (by omega), _, rfl, ⟨by omega, by omega⟩, ?_⟩
    intro x13 m14 qm14 kx13 lx13 p15
    have z16 := zq0_t z12 qm14
    refine And.intro ⟨by omega, by omega⟩ ?_
    intro m17 em17
    have z18 := zq0_t z16 (zq0_u em17 (Or.inl (by decide)) (Or.inl ⟨by decide, by decide⟩))
    refine And.intro ⟨by omega, by omega⟩ (And.intro (fun c19 => ?_) (fun c19 => ?_))
    · refine And.intro ha1 ?_
      refine ⟨zk_X8_at, zm_X8_at hg d (by omega), _, _, _, rfl, ⟨by omega, by omega⟩, ?_⟩
      refine And.intro (zfa (o := 2) (y2 := 16) ha1 rfl) ?_
      intro x20 kx20 lx20 fx20 gx20
      refine And.intro ⟨by omega, by omega⟩ ?_
      intro m21 em21
      have z22 := zq0_t z18 (zq0_u em21 (Or.inl (by decide)) (Or.inl ⟨by decide, by decide⟩))
      refine And.intro ⟨by omega, by omega⟩ (And.intro (fun c23 => ?_) (fun c23 => ?_))
      · refine And.intro ha1 ⟨zk_X4_arity, zm_X4_arity hg d (by omega), _, _, rfl, ha1, ⟨by omega, by omega⟩, ?_⟩
        intro x24 kx24 lx24
        refine Exists.intro (Int.toNat (2147483648 - 0 + 17179869184)) ?_
        exact ⟨(fun _ => ⟨_, _, rfl, z22, ⟨by omega, by omega⟩, ⟨by omega, by omega⟩, rfl⟩), (fun h => absurd h (by decide)), (fun h => absurd h (by decide))⟩
      · exfalso; omega
    · refine And.intro ⟨by omega, by omega⟩ ?_
      intro m25 em25
      have z26 := zq0_t z18 (zq0_u em25 (Or.inl (by decide)) (Or.inl ⟨by decide, by decide⟩))
      refine And.intro ⟨by omega, by omega⟩ (And.intro (fun c27 => ?_) (fun c27 => ?_))
      · exfalso; omega
      · refine Exists.intro (Int.toNat (2147483648 - 0 + 17179869184)) ?_
        exact ⟨(fun _ => ⟨_, _, rfl, z26, ⟨by omega, by omega⟩, ⟨by omega, by omega⟩, rfl⟩), (fun h => absurd h (by decide)), (fun h => absurd h (by decide))⟩
  · intro vs m0 n hI
    replace hI := hI.1 rfl
    clear z0
    obtain ⟨v3, v4, rfl, z0, hv3, hv4, rfl⟩ := hI
    refine And.intro ⟨⟨by omega, by omega⟩, ⟨by omega, by omega⟩⟩ (And.intro (fun c28 => ?_) (fun c28 => ?_))
    · refine Exists.intro (Int.toNat (2147483648 - 0 + 8589934592)) (And.intro (by omega) ?_)
      exact ⟨(fun h => absurd h (by decide)), (fun _ => ⟨_, _, rfl, z0, ⟨by omega, by omega⟩, ⟨by omega, by omega⟩, rfl⟩), (fun h => absurd h (by decide))⟩
    · intro x29 hx29 kx29 lx29
      intro x30 hx30 kx30 lx30
      intro x31 hx31 kx31 lx31
      refine ⟨xk_X6_leaf, xm_X6_leaf hg d (by omega), _, rfl, ⟨by omega, by omega⟩, ?_⟩
      intro x32 m33 qm33 kx32 lx32 p34
      have z35 := zq0_t z0 qm33
      refine ⟨zk_X8_set, zm_X8_set hg d (by omega), _, _, _, _, rfl, ⟨by omega, by omega⟩, ?_⟩
      refine And.intro ⟨by omega, by omega⟩ ?_
      intro m36 qm36 fm36 gm36
      have z37 := zq0_t z35 (zq0_s qm36 fm36 gm36 (by decide))
      refine Exists.intro (Int.toNat (2147483648 - (v4 + 1) + 17179869184)) (And.intro (by omega) ?_)
      exact ⟨(fun _ => ⟨_, _, rfl, z37, ⟨by omega, by omega⟩, ⟨by omega, by omega⟩, rfl⟩), (fun h => absurd h (by decide)), (fun h => absurd h (by decide))⟩
  · intro vs m0 n hI
    replace hI := hI.2.1 rfl
    clear z0
    obtain ⟨v3, v4, rfl, z0, hv3, hv4, rfl⟩ := hI
    refine And.intro ⟨⟨by omega, by omega⟩, ⟨by omega, by omega⟩⟩ (And.intro (fun c38 => ?_) (fun c38 => ?_))
    · refine Exists.intro (Int.toNat (2147483648 - 0)) (And.intro (by omega) ?_)
      exact ⟨(fun h => absurd h (by decide)), (fun h => absurd h (by decide)), (fun _ => ⟨_, _, rfl, z0, ⟨by omega, by omega⟩, ⟨by omega, by omega⟩, rfl⟩)⟩
    · refine ⟨zk_X8_set, zm_X8_set hg d (by omega), _, _, _, _, rfl, ⟨by omega, by omega⟩, ?_⟩
      refine And.intro ⟨by omega, by omega⟩ ?_
      intro m39 qm39 fm39 gm39
      have z40 := zq0_t z0 (zq0_s qm39 fm39 gm39 (by decide))
      refine Exists.intro (Int.toNat (2147483648 - (v4 + 1) + 8589934592)) (And.intro (by omega) ?_)
      exact ⟨(fun h => absurd h (by decide)), (fun _ => ⟨_, _, rfl, z40, ⟨by omega, by omega⟩, ⟨by omega, by omega⟩, rfl⟩), (fun h => absurd h (by decide))⟩
  · intro vs m0 n hI
    replace hI := hI.2.2 rfl
    clear z0
    obtain ⟨v3, v4, rfl, z0, hv3, hv4, rfl⟩ := hI
    refine And.intro ⟨⟨by omega, by omega⟩, ⟨by omega, by omega⟩⟩ (And.intro (fun c41 => ?_) (fun c41 => ?_))
    · exact And.intro rfl (hQ _ z0)
    · refine ⟨xk_X0_tellOwnBounds, xm_X0_tellOwnBounds hg d (by omega), _, rfl, ⟨by omega, by omega⟩, ?_⟩
      intro m42 qm42
      have z43 := zq0_t z0 qm42
      refine Exists.intro (Int.toNat (2147483648 - (v4 + 1))) (And.intro (by omega) ?_)
      exact ⟨(fun h => absurd h (by decide)), (fun h => absurd h (by decide)), (fun _ => ⟨_, _, rfl, z43, ⟨by omega, by omega⟩, ⟨by omega, by omega⟩, rfl⟩)⟩
