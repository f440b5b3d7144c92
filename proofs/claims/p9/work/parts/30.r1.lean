def zk_X9_clearHeads : zC := fun As μ Q => As = [.inr (.inr (66, 66))] ∧ (∀ (μ' : zM), zfx [73] [] μ μ' → (∀ h : Int, 0 ≤ h → h < 2048 → μ'.1 73 h = -1) → Q none μ')
set_option maxHeartbeats 4000000 in
theorem zm_X9_clearHeads {g : zΓ} (hg : zg g) (d : Nat) (hd : 1 ≤ d) : zOk g d 120 zk_X9_clearHeads := by
  obtain ⟨d, rfl⟩ : ∃ d', d = d' + 1 := ⟨d - 1, by omega⟩
  refine zOk_loop hg (show mt_tab[120]? = some mt_X9_clearHeads from rfl) ([(2, [0, 1])], []) 18 rfl fun As μ Q hC => ?_
  obtain ⟨rfl, hQ⟩ := hC
  have z0 : zfx [73] [] μ μ := zfx_x μ
  refine ⟨rfl, fun pc vs μ' n => ∃ (v1 : Int), vs = [.inr (.inr (66, 66)), .inl v1] ∧ zfx [73] [] μ μ' ∧ (0 ≤ v1 ∧ v1 ≤ 2048) ∧ (∀ h : Int, 0 ≤ h → h < v1 → μ'.1 73 h = -1) ∧ n = (Int.toNat (2147483648 - v1)), ?_, ?_, trivial⟩
  · refine Exists.intro (Int.toNat (2147483648 - 0)) ?_
    exact ⟨_, rfl, z0, ⟨by omega, by omega⟩, (fun h h1 h2 => by omega), rfl⟩
  · intro vs m0 n hI
    clear z0
    obtain ⟨v1, rfl, z0, hv1, i0, rfl⟩ := hI
    refine And.intro ⟨⟨by omega, by omega⟩, ⟨by omega, by omega⟩⟩ (And.intro (fun c1 => ?_) (fun c1 => ?_))
    · exact And.intro rfl (hQ _ z0 (fun h h1 h2 => i0 h h1 (by omega)))
    · refine And.intro ⟨by omega, by omega⟩ (And.intro ⟨by omega, by omega⟩ ?_)
      intro m2 em2
      have z3 := zfx_r z0 em2 rfl (by decide)
      refine Exists.intro (Int.toNat (2147483648 - (v1 + 1))) (And.intro (by omega) ?_)
      exact ⟨_, rfl, z3, ⟨by omega, by omega⟩, (fun h h1 h2 => by rw [em2]; rcases (show h < v1 ∨ h = v1 by omega) with q | q <;> first | (rw [zu_nk (by omega)]; exact i0 h h1 q) | (rw [q]; exact zu_at)), rfl⟩
def zk_X9_sign : zC := fun As μ Q => ∃ (a1 : Int), As = [.inr (.inr (66, 66)), .inl a1] ∧ ((-2147483648) ≤ a1 ∧ a1 ≤ 2147483647) ∧ (∀ (μ' : zM), zfx [96] [56] μ μ' → Q none μ')
set_option maxHeartbeats 4000000 in
theorem zm_X9_sign {g : zΓ} (hg : zg g) (d : Nat) (hd : 1 ≤ d) : zOk g d 174 zk_X9_sign := by
  obtain ⟨d, rfl⟩ : ∃ d', d = d' + 1 := ⟨d - 1, by omega⟩
  refine zOk_straight hg (show mt_tab[174]? = some mt_X9_sign from rfl) [] 23 rfl fun As μ Q hC => ?_
  obtain ⟨a1, rfl, ha1, hQ⟩ := hC
  obtain ⟨g1, wg1⟩ : ∃ z : Int, μ.1 66 ((56 : Nat) : Int) = z := ⟨_, rfl⟩
  refine ⟨rfl, ?_⟩
  have z0 : zfx [96] [56] μ μ := zfx_x μ
  intro x2 hx2 kx2 lx2
  rw [wg1] at hx2
  refine And.intro ⟨⟨by omega, by omega⟩, ⟨by omega, by omega⟩⟩ (And.intro (fun c3 => ?_) (fun c3 => ?_))
  · exact And.intro rfl (hQ _ z0)
  · intro x4 hx4 kx4 lx4
    rw [wg1] at hx4
    intro x5 hx5 kx5 lx5
    have bx5 := zi2b (Int32.ofInt a1)
    refine And.intro ⟨by omega, by omega⟩ (And.intro ⟨by omega, by omega⟩ ?_)
    intro m6 em6
    have z7 := zfx_r z0 em6 rfl (by decide)
    have w8 : m6.1 66 ((56 : Nat) : Int) = g1 := by rw [em6]; exact (congrFun (zu_ne (by decide)) _).trans wg1
    intro x9 hx9 kx9 lx9
    rw [w8] at hx9
    refine And.intro ⟨by omega, by omega⟩ ?_
    intro m10 em10
    have z11 := zfx_f z7 em10 rfl
    have w12 : m10.1 66 ((56 : Nat) : Int) = (x9 + 1) := by rw [em10]; exact zu_at
    clear w8
    exact And.intro rfl (hQ _ z11)
def zk_X9_signs : zC := fun As μ Q => ∃ (a1 : Int64), As = [.inr (.inr (66, 66)), .inr (.inl a1)] ∧ (∀ (μ' : zM), zfx [96] [56] μ μ' → Q none μ')
set_option maxHeartbeats 4000000 in
theorem zm_X9_signs {g : zΓ} (hg : zg g) (d : Nat) (hd : 2 ≤ d) : zOk g d 175 zk_X9_signs := by
  obtain ⟨d, rfl⟩ : ∃ d', d = d' + 1 := ⟨d - 1, by omega⟩
  refine zOk_loop hg (show mt_tab[175]? = some mt_X9_signs from rfl) ([(3, [0, 1, 3])], []) 24 rfl fun As μ Q hC => ?_
  obtain ⟨a1, rfl, hQ⟩ := hC
  have z0 : zfx [96] [56] μ μ := zfx_x μ
  refine ⟨rfl, fun pc vs μ' n => ∃ (v1 : Int64) (v3 : Int), vs = [.inr (.inr (66, 66)), .inr (.inl v1), .inl v3] ∧ zfx [96] [56] μ μ' ∧ ((-8) ≤ v3 ∧ v3 ≤ 56) ∧ n = (Int.toNat (v3 + 9)), ?_, ?_, trivial⟩
  · refine Exists.intro (Int.toNat (56 + 9)) ?_
    exact ⟨_, _, rfl, z0, ⟨by omega, by omega⟩, rfl⟩
  · intro vs m0 n hI
    clear z0
    obtain ⟨v1, v3, rfl, z0, hv3, rfl⟩ := hI
    refine And.intro ⟨by omega, by omega⟩ (And.intro (fun c1 => ?_) (fun c1 => ?_))
    · exact And.intro rfl (hQ _ z0)
    · intro x2 hx2 kx2 lx2
      intro x3 hx3 kx3 lx3
      refine And.intro ⟨by omega, by omega⟩ (And.intro (fun c4 => ?_) (fun c4 => ?_))
      · refine Exists.intro (Int.toNat ((v3 + (-8)) + 9)) (And.intro (by omega) ?_)
        exact ⟨_, _, rfl, z0, ⟨by omega, by omega⟩, rfl⟩
      · clear c4
        refine ⟨zk_X9_sign, zm_X9_sign hg d (by omega), _, rfl, ⟨by omega, by omega⟩, ?_⟩
        intro m5 qm5
        have z6 := zfx_t z0 qm5 rfl rfl
        refine Exists.intro (Int.toNat ((v3 + (-8)) + 9)) (And.intro (by omega) ?_)
        exact ⟨_, _, rfl, z6, ⟨by omega, by omega⟩, rfl⟩
def zk_X9_down : zC := fun As μ Q => ∃ (a1 : Int) (a2 : Int), As = [.inr (.inr (66, 66)), .inl a1, .inl a2] ∧ ((-1) ≤ a1 ∧ a1 ≤ 19999) ∧ (0 ≤ a2 ∧ a2 ≤ 20000) ∧ (∀ (v : Int), (-20000) ≤ v → v ≤ 19999 → ((a1 < 0 ∧ v = a1) ∨ (0 ≤ a1 ∧ v = a1 - a2)) → Q (some (.inl v)) μ)
set_option maxHeartbeats 4000000 in
theorem zm_X9_down {g : zΓ} (hg : zg g) (d : Nat) (hd : 1 ≤ d) : zOk g d 150 zk_X9_down := by
  obtain ⟨d, rfl⟩ : ∃ d', d = d' + 1 := ⟨d - 1, by omega⟩
  refine zOk_straight hg (show mt_tab[150]? = some mt_X9_down from rfl) [] 13 rfl fun As μ Q hC => ?_
  obtain ⟨a1, a2, rfl, ha1, ha2, hQ⟩ := hC
  refine ⟨rfl, ?_⟩
  refine And.intro ⟨by omega, by omega⟩ (And.intro (fun c1 => ?_) (fun c1 => ?_))
  · exact And.intro trivial (And.intro ⟨by omega, by omega⟩ (hQ _ (by omega) (by omega) (by omega)))
  · exact And.intro trivial (And.intro ⟨by omega, by omega⟩ (hQ _ (by omega) (by omega) (by omega)))
