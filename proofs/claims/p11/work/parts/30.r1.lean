/-! ### the reference: words, tokens -/
def zk_X9_isLetter : zC := fun As μ Q => ∃ (a1 : Int), As = [.inl a1] ∧ ((-2147483648) ≤ a1 ∧ a1 ≤ 2147483647) ∧ (∀ (v : Int), 0 ≤ v → v ≤ 1 → ((v = 1 → zlet a1) ∧ (zlet a1 → v = 1)) → Q (some (.inl v)) μ)
set_option maxHeartbeats 4000000 in
theorem zm_X9_isLetter {g : zΓ} (hg : zg g) (d : Nat) (hd : 1 ≤ d) : zOk g d 127 zk_X9_isLetter := by
  obtain ⟨d, rfl⟩ : ∃ d', d = d' + 1 := ⟨d - 1, by omega⟩
  refine zOk_straight hg (show mt_tab[127]? = some mt_X9_isLetter from rfl) [] 21 rfl fun As μ Q hC => ?_
  obtain ⟨a1, rfl, ha1, hQ⟩ := hC
  refine ⟨rfl, ?_⟩
  refine And.intro ⟨⟨by omega, by omega⟩, ⟨by omega, by omega⟩⟩ (And.intro (fun c1 => ?_) (fun c1 => ?_))
  · refine And.intro ⟨⟨by omega, by omega⟩, ⟨by omega, by omega⟩⟩ (And.intro (fun c2 => ?_) (fun c2 => ?_))
    · exact And.intro (zrtb (by omega)) (And.intro ⟨by omega, by omega⟩ (hQ _ (by omega) (by omega) ⟨fun h => by unfold zlet; omega, fun h => by unfold zlet at h; omega⟩))
    · refine And.intro ⟨⟨by omega, by omega⟩, ⟨by omega, by omega⟩⟩ (And.intro (fun c3 => ?_) (fun c3 => ?_))
      · exact And.intro (zrtb (by omega)) (And.intro ⟨by omega, by omega⟩ (hQ _ (by omega) (by omega) ⟨fun h => by unfold zlet; omega, fun h => by unfold zlet at h; omega⟩))
      · exact And.intro (zrtb (by omega)) (And.intro ⟨by omega, by omega⟩ (hQ _ (by omega) (by omega) ⟨fun h => by unfold zlet; omega, fun h => by unfold zlet at h; omega⟩))
  · refine And.intro ⟨⟨by omega, by omega⟩, ⟨by omega, by omega⟩⟩ (And.intro (fun c4 => ?_) (fun c4 => ?_))
    · exact And.intro (zrtb (by omega)) (And.intro ⟨by omega, by omega⟩ (hQ _ (by omega) (by omega) ⟨fun h => by unfold zlet; omega, fun h => by unfold zlet at h; omega⟩))
    · refine And.intro ⟨⟨by omega, by omega⟩, ⟨by omega, by omega⟩⟩ (And.intro (fun c5 => ?_) (fun c5 => ?_))
      · exfalso; omega
      · refine And.intro ⟨⟨by omega, by omega⟩, ⟨by omega, by omega⟩⟩ (And.intro (fun c6 => ?_) (fun c6 => ?_))
        · exact And.intro (zrtb (by omega)) (And.intro ⟨by omega, by omega⟩ (hQ _ (by omega) (by omega) ⟨fun h => by unfold zlet; omega, fun h => by unfold zlet at h; omega⟩))
        · exfalso; omega
def zk_X9_isSign : zC := fun As μ Q => ∃ (a1 : Int), As = [.inl a1] ∧ ((-2147483648) ≤ a1 ∧ a1 ≤ 2147483647) ∧ (∀ (v : Int), 0 ≤ v → v ≤ 1 → Q (some (.inl v)) μ)
set_option maxHeartbeats 4000000 in
theorem zm_X9_isSign {g : zΓ} (hg : zg g) (d : Nat) (hd : 1 ≤ d) : zOk g d 129 zk_X9_isSign := by
  obtain ⟨d, rfl⟩ : ∃ d', d = d' + 1 := ⟨d - 1, by omega⟩
  refine zOk_straight hg (show mt_tab[129]? = some mt_X9_isSign from rfl) [] 36 rfl fun As μ Q hC => ?_
  obtain ⟨a1, rfl, ha1, hQ⟩ := hC
  refine ⟨rfl, ?_⟩
  refine And.intro ⟨⟨by omega, by omega⟩, ⟨by omega, by omega⟩⟩ (And.intro (fun c1 => ?_) (fun c1 => ?_))
  · exact And.intro (zrtb (by omega)) (And.intro ⟨by omega, by omega⟩ (hQ _ (by omega) (by omega)))
  · clear c1
    refine And.intro ⟨⟨by omega, by omega⟩, ⟨by omega, by omega⟩⟩ (And.intro (fun c2 => ?_) (fun c2 => ?_))
    · exact And.intro (zrtb (by omega)) (And.intro ⟨by omega, by omega⟩ (hQ _ (by omega) (by omega)))
    · clear c2
      refine And.intro ⟨⟨by omega, by omega⟩, ⟨by omega, by omega⟩⟩ (And.intro (fun c3 => ?_) (fun c3 => ?_))
      · exact And.intro (zrtb (by omega)) (And.intro ⟨by omega, by omega⟩ (hQ _ (by omega) (by omega)))
      · clear c3
        refine And.intro ⟨⟨by omega, by omega⟩, ⟨by omega, by omega⟩⟩ (And.intro (fun c4 => ?_) (fun c4 => ?_))
        · exact And.intro (zrtb (by omega)) (And.intro ⟨by omega, by omega⟩ (hQ _ (by omega) (by omega)))
        · clear c4
          refine And.intro ⟨⟨by omega, by omega⟩, ⟨by omega, by omega⟩⟩ (And.intro (fun c5 => ?_) (fun c5 => ?_))
          · exact And.intro (zrtb (by omega)) (And.intro ⟨by omega, by omega⟩ (hQ _ (by omega) (by omega)))
          · clear c5
            refine And.intro ⟨⟨by omega, by omega⟩, ⟨by omega, by omega⟩⟩ (And.intro (fun c6 => ?_) (fun c6 => ?_))
            · exact And.intro (zrtb (by omega)) (And.intro ⟨by omega, by omega⟩ (hQ _ (by omega) (by omega)))
            · clear c6
              refine And.intro ⟨⟨by omega, by omega⟩, ⟨by omega, by omega⟩⟩ (And.intro (fun c7 => ?_) (fun c7 => ?_))
              · exact And.intro (zrtb (by omega)) (And.intro ⟨by omega, by omega⟩ (hQ _ (by omega) (by omega)))
              · clear c7
                refine And.intro ⟨⟨by omega, by omega⟩, ⟨by omega, by omega⟩⟩ (And.intro (fun c8 => ?_) (fun c8 => ?_))
                · exact And.intro (zrtb (by omega)) (And.intro ⟨by omega, by omega⟩ (hQ _ (by omega) (by omega)))
                · clear c8
                  refine And.intro ⟨⟨by omega, by omega⟩, ⟨by omega, by omega⟩⟩ (And.intro (fun c9 => ?_) (fun c9 => ?_))
                  · clear c9
                    exact And.intro (zrtb (by omega)) (And.intro ⟨by omega, by omega⟩ (hQ _ (by omega) (by omega)))
                  · exact And.intro (zrtb (by omega)) (And.intro ⟨by omega, by omega⟩ (hQ _ (by omega) (by omega)))
def zk_X9_isPart : zC := fun As μ Q => ∃ (a1 : Int), As = [.inr (.inr (66, 66)), .inl a1] ∧ (0 ≤ a1 ∧ a1 ≤ 801) ∧ (∀ (v : Int), 0 ≤ v → v ≤ 1 → (a1 < μ.1 66 ((30 : Nat) : Int) → zlet (μ.1 85 a1) → v = 1) → (v = 0 ∨ a1 < μ.1 66 ((30 : Nat) : Int)) → Q (some (.inl v)) μ)
set_option maxHeartbeats 4000000 in
theorem zm_X9_isPart {g : zΓ} (hg : zg g) (d : Nat) (hd : 2 ≤ d) : zOk g d 128 zk_X9_isPart := by
  obtain ⟨d, rfl⟩ : ∃ d', d = d' + 1 := ⟨d - 1, by omega⟩
  refine zOk_straight hg (show mt_tab[128]? = some mt_X9_isPart from rfl) [] 31 rfl fun As μ Q hC => ?_
  obtain ⟨a1, rfl, ha1, hQ⟩ := hC
  refine ⟨rfl, ?_⟩
  intro x1 hx1 kx1 lx1
  refine And.intro ⟨⟨by omega, by omega⟩, ⟨by omega, by omega⟩⟩ (And.intro (fun c2 => ?_) (fun c2 => ?_))
  · exact And.intro (zrtb (by omega)) (And.intro ⟨by omega, by omega⟩ (hQ _ (by omega) (by omega) (fun h1 h2 => by first | omega | (have hh := p5.2 (by rw [hx3]; exact h2); omega)) (by omega)))
  · refine And.intro ⟨by omega, by omega⟩ ?_
    intro x3 hx3 kx3 lx3
    refine ⟨zk_X9_isLetter, zm_X9_isLetter hg d (by omega), _, rfl, ⟨by omega, by omega⟩, ?_⟩
    intro x4 kx4 lx4 p5
    refine And.intro ⟨by omega, by omega⟩ (And.intro (fun c6 => ?_) (fun c6 => ?_))
    · exact And.intro (zrtb (by omega)) (And.intro ⟨by omega, by omega⟩ (hQ _ (by omega) (by omega) (fun h1 h2 => by first | omega | (have hh := p5.2 (by rw [hx3]; exact h2); omega)) (by omega)))
    · refine And.intro ⟨by omega, by omega⟩ ?_
      intro x7 hx7 kx7 lx7
      refine And.intro ⟨⟨by omega, by omega⟩, ⟨by omega, by omega⟩⟩ (And.intro (fun c8 => ?_) (fun c8 => ?_))
      · exact And.intro (zrtb (by omega)) (And.intro ⟨by omega, by omega⟩ (hQ _ (by omega) (by omega) (fun h1 h2 => by first | omega | (have hh := p5.2 (by rw [hx3]; exact h2); omega)) (by omega)))
      · refine And.intro ⟨by omega, by omega⟩ ?_
        intro x9 hx9 kx9 lx9
        refine And.intro ⟨⟨by omega, by omega⟩, ⟨by omega, by omega⟩⟩ (And.intro (fun c10 => ?_) (fun c10 => ?_))
        · exact And.intro (zrtb (by omega)) (And.intro ⟨by omega, by omega⟩ (hQ _ (by omega) (by omega) (fun h1 h2 => by first | omega | (have hh := p5.2 (by rw [hx3]; exact h2); omega)) (by omega)))
        · exact And.intro (zrtb (by omega)) (And.intro ⟨by omega, by omega⟩ (hQ _ (by omega) (by omega) (fun h1 h2 => by first | omega | (have hh := p5.2 (by rw [hx3]; exact h2); omega)) (by omega)))
def zk_X9_nameAt : zC := fun As μ Q => ∃ (a1 : Int) (a2 : Int), As = [.inr (.inr (66, 66)), .inl a1, .inl a2] ∧ (0 ≤ a1 ∧ a1 ≤ 800) ∧ (0 ≤ a2 ∧ a2 ≤ 800) ∧ (a1 + a2 ≤ 800) ∧ (∀ (v : Int64), Q (some (.inr (.inl v))) μ)
set_option maxHeartbeats 4000000 in
theorem zm_X9_nameAt {g : zΓ} (hg : zg g) (d : Nat) (hd : 1 ≤ d) : zOk g d 130 zk_X9_nameAt := by
  obtain ⟨d, rfl⟩ : ∃ d', d = d' + 1 := ⟨d - 1, by omega⟩
  refine zOk_loop hg (show mt_tab[130]? = some mt_X9_nameAt from rfl) ([(5, [0, 1, 2, 3, 5])], []) 28 rfl fun As μ Q hC => ?_
  obtain ⟨a1, a2, rfl, ha1, ha2, hp0, hQ⟩ := hC
  refine ⟨rfl, fun pc vs μ' n => ∃ (v1 : Int) (v2 : Int) (v3 : Int64) (v5 : Int), vs = [.inr (.inr (66, 66)), .inl v1, .inl v2, .inr (.inl v3), .inl v5] ∧ μ' = μ ∧ (0 ≤ v1 ∧ v1 ≤ 800) ∧ (0 ≤ v2 ∧ v2 ≤ 800) ∧ (0 ≤ v5 ∧ v5 ≤ 801) ∧ (v1 + v2 ≤ 800) ∧ n = (Int.toNat (2147483648 - v5)), ?_, ?_, trivial⟩
  · refine Exists.intro (Int.toNat (2147483648 - 0)) ?_
    exact ⟨_, _, _, _, rfl, rfl, ⟨by omega, by omega⟩, ⟨by omega, by omega⟩, ⟨by omega, by omega⟩, (by omega), rfl⟩
  · intro vs m0 n hI
    obtain ⟨v1, v2, v3, v5, rfl, rfl, hv1, hv2, hv5, i0, rfl⟩ := hI
    refine And.intro ⟨⟨by omega, by omega⟩, ⟨by omega, by omega⟩⟩ (And.intro (fun c1 => ?_) (fun c1 => ?_))
    · exact And.intro rfl (hQ _)
    · refine And.intro ⟨by omega, by omega⟩ ?_
      intro x2 hx2 kx2 lx2
      refine Exists.intro (Int.toNat (2147483648 - (v5 + 1))) (And.intro (by omega) ?_)
      exact ⟨_, _, _, _, rfl, rfl, ⟨by omega, by omega⟩, ⟨by omega, by omega⟩, ⟨by omega, by omega⟩, (by omega), rfl⟩
def zk_X9_isBefore : zC := fun As μ Q => ∃ (a1 : Int), As = [.inr (.inr (66, 66)), .inl a1] ∧ ((-2147483648) ≤ a1 ∧ a1 ≤ 2147483647) ∧ (∀ (v : Int), 0 ≤ v → v ≤ 1 → Q (some (.inl v)) μ)
set_option maxHeartbeats 4000000 in
theorem zm_X9_isBefore {g : zΓ} (hg : zg g) (d : Nat) (hd : 1 ≤ d) : zOk g d 132 zk_X9_isBefore := by
  obtain ⟨d, rfl⟩ : ∃ d', d = d' + 1 := ⟨d - 1, by omega⟩
  refine zOk_loop hg (show mt_tab[132]? = some mt_X9_isBefore from rfl) ([(5, [0, 1, 2])], []) 40 rfl fun As μ Q hC => ?_
  obtain ⟨a1, rfl, ha1, hQ⟩ := hC
  refine ⟨rfl, fun pc vs μ' n => ∃ (v1 : Int) (v2 : Int), vs = [.inr (.inr (66, 66)), .inl v1, .inl v2] ∧ μ' = μ ∧ ((-2147483648) ≤ v1 ∧ v1 ≤ 2147483647) ∧ (0 ≤ v2 ∧ v2 ≤ 800) ∧ n = (Int.toNat (2147483648 - v2)), ?_, ?_, trivial⟩
  · intro x1 hx1 kx1 lx1
    refine Exists.intro (Int.toNat (2147483648 - x1)) ?_
    exact ⟨_, _, rfl, rfl, ⟨by omega, by omega⟩, ⟨by omega, by omega⟩, rfl⟩
  · intro vs m0 n hI
    obtain ⟨v1, v2, rfl, rfl, hv1, hv2, rfl⟩ := hI
    intro x2 hx2 kx2 lx2
    refine And.intro ⟨⟨by omega, by omega⟩, ⟨by omega, by omega⟩⟩ (And.intro (fun c3 => ?_) (fun c3 => ?_))
    · intro x4 hx4 kx4 lx4
      refine And.intro ⟨⟨by omega, by omega⟩, ⟨by omega, by omega⟩⟩ (And.intro (fun c5 => ?_) (fun c5 => ?_))
      · exact And.intro (zrtb (by omega)) (And.intro ⟨by omega, by omega⟩ (hQ _ (by omega) (by omega)))
      · refine And.intro ⟨by omega, by omega⟩ ?_
        intro x6 hx6 kx6 lx6
        refine And.intro ⟨⟨by omega, by omega⟩, ⟨by omega, by omega⟩⟩ (And.intro (fun c7 => ?_) (fun c7 => ?_))
        · clear c7
          exact And.intro (zrtb (by omega)) (And.intro ⟨by omega, by omega⟩ (hQ _ (by omega) (by omega)))
        · exact And.intro (zrtb (by omega)) (And.intro ⟨by omega, by omega⟩ (hQ _ (by omega) (by omega)))
    · refine And.intro ⟨by omega, by omega⟩ ?_
      intro x8 hx8 kx8 lx8
      refine And.intro ⟨⟨by omega, by omega⟩, ⟨by omega, by omega⟩⟩ (And.intro (fun c9 => ?_) (fun c9 => ?_))
      · refine Exists.intro (Int.toNat (2147483648 - (v2 + 1))) (And.intro (by omega) ?_)
        exact ⟨_, _, rfl, rfl, ⟨by omega, by omega⟩, ⟨by omega, by omega⟩, rfl⟩
      · clear c9
        refine And.intro ⟨by omega, by omega⟩ ?_
        intro x10 hx10 kx10 lx10
        refine And.intro ⟨⟨by omega, by omega⟩, ⟨by omega, by omega⟩⟩ (And.intro (fun c11 => ?_) (fun c11 => ?_))
        · clear c11
          intro x12 hx12 kx12 lx12
          refine And.intro ⟨⟨by omega, by omega⟩, ⟨by omega, by omega⟩⟩ (And.intro (fun c13 => ?_) (fun c13 => ?_))
          · exact And.intro (zrtb (by omega)) (And.intro ⟨by omega, by omega⟩ (hQ _ (by omega) (by omega)))
          · refine And.intro ⟨by omega, by omega⟩ ?_
            intro x14 hx14 kx14 lx14
            refine And.intro ⟨⟨by omega, by omega⟩, ⟨by omega, by omega⟩⟩ (And.intro (fun c15 => ?_) (fun c15 => ?_))
            · clear c15
              exact And.intro (zrtb (by omega)) (And.intro ⟨by omega, by omega⟩ (hQ _ (by omega) (by omega)))
            · exact And.intro (zrtb (by omega)) (And.intro ⟨by omega, by omega⟩ (hQ _ (by omega) (by omega)))
        · refine Exists.intro (Int.toNat (2147483648 - (v2 + 1))) (And.intro (by omega) ?_)
          exact ⟨_, _, rfl, rfl, ⟨by omega, by omega⟩, ⟨by omega, by omega⟩, rfl⟩
def zk_X9_fail : zC := fun As μ Q => ∃ (a1 : Int), As = [.inr (.inr (66, 66)), .inl a1] ∧ (1 ≤ a1 ∧ a1 ≤ 8) ∧ (∀ (v : Int) (μ' : zM), zfx [] [35, 36] μ μ' → 0 ≤ v → v ≤ 0 → Q (some (.inl v)) μ')
set_option maxHeartbeats 4000000 in
theorem zm_X9_fail {g : zΓ} (hg : zg g) (d : Nat) (hd : 1 ≤ d) : zOk g d 133 zk_X9_fail := by
  obtain ⟨d, rfl⟩ : ∃ d', d = d' + 1 := ⟨d - 1, by omega⟩
  refine zOk_straight hg (show mt_tab[133]? = some mt_X9_fail from rfl) [] 23 rfl fun As μ Q hC => ?_
  obtain ⟨a1, rfl, ha1, hQ⟩ := hC
  refine ⟨rfl, ?_⟩
  have z0 : zfx [] [35, 36] μ μ := zfx_x μ
  intro x1 hx1 kx1 lx1
  refine And.intro ⟨by omega, by omega⟩ (And.intro (fun c2 => ?_) (fun c2 => ?_))
  · exact And.intro (zrtb (by omega)) (And.intro ⟨by omega, by omega⟩ (hQ _ _ z0 (by omega) (by omega)))
  · intro x3 hx3 kx3 lx3
    refine And.intro ⟨⟨by omega, by omega⟩, ⟨by omega, by omega⟩⟩ (And.intro (fun c4 => ?_) (fun c4 => ?_))
    · clear c4
      refine And.intro ⟨by omega, by omega⟩ ?_
      intro m5 em5
      have z6 := zfx_f z0 em5 rfl
      intro x7 hx7 kx7 lx7
      refine And.intro ⟨by omega, by omega⟩ ?_
      intro m8 em8
      have z9 := zfx_f z6 em8 rfl
      exact And.intro (zrtb (by omega)) (And.intro ⟨by omega, by omega⟩ (hQ _ _ z9 (by omega) (by omega)))
    · refine And.intro ⟨by omega, by omega⟩ ?_
      intro m10 em10
      have z11 := zfx_f z0 em10 rfl
      intro x12 hx12 kx12 lx12
      refine And.intro ⟨by omega, by omega⟩ ?_
      intro m13 em13
      have z14 := zfx_f z11 em13 rfl
      exact And.intro (zrtb (by omega)) (And.intro ⟨by omega, by omega⟩ (hQ _ _ z14 (by omega) (by omega)))
def zk_X9_clearHeads : zC := fun As μ Q => As = [.inr (.inr (66, 66))] ∧ (∀ (μ' : zM), zfx [73] [] μ μ' → (∀ h : Int, 0 ≤ h → h < 2048 → μ'.1 73 h = -1) → Q none μ')
set_option maxHeartbeats 4000000 in
theorem zm_X9_clearHeads {g : zΓ} (hg : zg g) (d : Nat) (hd : 1 ≤ d) : zOk g d 120 zk_X9_clearHeads := by
  obtain ⟨d, rfl⟩ : ∃ d', d = d' + 1 := ⟨d - 1, by omega⟩
  refine zOk_loop hg (show mt_tab[120]? = some mt_X9_clearHeads from rfl) ([(2, [0, 1])], []) 18 rfl fun As μ Q hC => ?_
  obtain ⟨rfl, hQ⟩ := hC
  have z0 : zfx [73] [] μ μ := zfx_x μ
  refine ⟨rfl, fun pc vs μ' n => ∃ (v1 : Int), vs = [.inr (.inr (66, 66)), .inl v1] ∧ zfx [73] [] μ μ' ∧ (0 ≤ v1 ∧ v1 ≤ 2048) ∧ (∀ h : Int, 0 ≤ h → h < v1 → μ'.1 73 h = -1) ∧ n = (Int.toNat (2147483648 - v1)), ?_, ?_, trivial⟩
  · refine Exists.intro (Int.toNat (2147483648 - 0)) ?_
    exact ⟨_, rfl, z0, ⟨by omega, by omega⟩, (fun h h1 h2 => by omega), rfl⟩
  · intro vs m0 n hI
    clear z0
    obtain ⟨v1, rfl, z0, hv1, i0, rfl⟩ := hI
    refine And.intro ⟨⟨by omega, by omega⟩, ⟨by omega, by omega⟩⟩ (And.intro (fun c1 => ?_) (fun c1 => ?_))
    · exact And.intro rfl (hQ _ z0 (fun h h1 h2 => i0 h h1 (by omega)))
    · refine And.intro ⟨by omega, by omega⟩ (And.intro ⟨by omega, by omega⟩ ?_)
      intro m2 em2
      have z3 := zfx_r z0 em2 rfl (by decide)
      refine Exists.intro (Int.toNat (2147483648 - (v1 + 1))) (And.intro (by omega) ?_)
      exact ⟨_, rfl, z3, ⟨by omega, by omega⟩, (fun h h1 h2 => by rw [em2]; rcases (show h < v1 ∨ h = v1 by omega) with q | q <;> first | (rw [zu_nk (by omega)]; exact i0 h h1 q) | (rw [q]; exact zu_at)), rfl⟩
def zk_X9_sign : zC := fun As μ Q => ∃ (a1 : Int), As = [.inr (.inr (66, 66)), .inl a1] ∧ ((-2147483648) ≤ a1 ∧ a1 ≤ 2147483647) ∧ (∀ (μ' : zM), zfx [96] [56] μ μ' → Q none μ')
set_option maxHeartbeats 4000000 in
theorem zm_X9_sign {g : zΓ} (hg : zg g) (d : Nat) (hd : 1 ≤ d) : zOk g d 174 zk_X9_sign := by
  obtain ⟨d, rfl⟩ : ∃ d', d = d' + 1 := ⟨d - 1, by omega⟩
  refine zOk_straight hg (show mt_tab[174]? = some mt_X9_sign from rfl) [] 23 rfl fun As μ Q hC => ?_
  obtain ⟨a1, rfl, ha1, hQ⟩ := hC
  obtain ⟨g1, wg1⟩ : ∃ z : Int, μ.1 66 ((56 : Nat) : Int) = z := ⟨_, rfl⟩
  refine ⟨rfl, ?_⟩
  have z0 : zfx [96] [56] μ μ := zfx_x μ
  intro x2 hx2 kx2 lx2
  rw [wg1] at hx2
  refine And.intro ⟨⟨by omega, by omega⟩, ⟨by omega, by omega⟩⟩ (And.intro (fun c3 => ?_) (fun c3 => ?_))
  · exact And.intro rfl (hQ _ z0)
  · intro x4 hx4 kx4 lx4
    rw [wg1] at hx4
    intro x5 hx5 kx5 lx5
    have bx5 := zi2b (Int32.ofInt a1)
    refine And.intro ⟨by omega, by omega⟩ (And.intro ⟨by omega, by omega⟩ ?_)
    intro m6 em6
    have z7 := zfx_r z0 em6 rfl (by decide)
    have w8 : m6.1 66 ((56 : Nat) : Int) = g1 := by rw [em6]; exact (congrFun (zu_ne (by decide)) _).trans wg1
    intro x9 hx9 kx9 lx9
    rw [w8] at hx9
    refine And.intro ⟨by omega, by omega⟩ ?_
    intro m10 em10
    have z11 := zfx_f z7 em10 rfl
    have w12 : m10.1 66 ((56 : Nat) : Int) = (x9 + 1) := by rw [em10]; exact zu_at
    clear w8
    exact And.intro rfl (hQ _ z11)
def zk_X9_signs : zC := fun As μ Q => ∃ (a1 : Int64), As = [.inr (.inr (66, 66)), .inr (.inl a1)] ∧ (∀ (μ' : zM), zfx [96] [56] μ μ' → Q none μ')
set_option maxHeartbeats 4000000 in
theorem zm_X9_signs {g : zΓ} (hg : zg g) (d : Nat) (hd : 2 ≤ d) : zOk g d 175 zk_X9_signs := by
  obtain ⟨d, rfl⟩ : ∃ d', d = d' + 1 := ⟨d - 1, by omega⟩
  refine zOk_loop hg (show mt_tab[175]? = some mt_X9_signs from rfl) ([(3, [0, 1, 3])], []) 24 rfl fun As μ Q hC => ?_
  obtain ⟨a1, rfl, hQ⟩ := hC
  have z0 : zfx [96] [56] μ μ := zfx_x μ
  refine ⟨rfl, fun pc vs μ' n => ∃ (v1 : Int64) (v3 : Int), vs = [.inr (.inr (66, 66)), .inr (.inl v1), .inl v3] ∧ zfx [96] [56] μ μ' ∧ ((-8) ≤ v3 ∧ v3 ≤ 56) ∧ n = (Int.toNat (v3 + 9)), ?_, ?_, trivial⟩
  · refine Exists.intro (Int.toNat (56 + 9)) ?_
    exact ⟨_, _, rfl, z0, ⟨by omega, by omega⟩, rfl⟩
  · intro vs m0 n hI
    clear z0
    obtain ⟨v1, v3, rfl, z0, hv3, rfl⟩ := hI
    refine And.intro ⟨by omega, by omega⟩ (And.intro (fun c1 => ?_) (fun c1 => ?_))
    · exact And.intro rfl (hQ _ z0)
    · intro x2 hx2 kx2 lx2
      intro x3 hx3 kx3 lx3
      refine And.intro ⟨by omega, by omega⟩ (And.intro (fun c4 => ?_) (fun c4 => ?_))
      · refine Exists.intro (Int.toNat ((v3 + (-8)) + 9)) (And.intro (by omega) ?_)
        exact ⟨_, _, rfl, z0, ⟨by omega, by omega⟩, rfl⟩
      · clear c4
        refine ⟨zk_X9_sign, zm_X9_sign hg d (by omega), _, rfl, ⟨by omega, by omega⟩, ?_⟩
        intro m5 qm5
        have z6 := zfx_t z0 qm5 rfl rfl
        refine Exists.intro (Int.toNat ((v3 + (-8)) + 9)) (And.intro (by omega) ?_)
        exact ⟨_, _, rfl, z6, ⟨by omega, by omega⟩, rfl⟩
def zk_X9_down : zC := fun As μ Q => ∃ (a1 : Int) (a2 : Int), As = [.inr (.inr (66, 66)), .inl a1, .inl a2] ∧ ((-1) ≤ a1 ∧ a1 ≤ 19999) ∧ (0 ≤ a2 ∧ a2 ≤ 20000) ∧ (∀ (v : Int), (-20000) ≤ v → v ≤ 19999 → ((a1 < 0 ∧ v = a1) ∨ (0 ≤ a1 ∧ v = a1 - a2)) → Q (some (.inl v)) μ)
set_option maxHeartbeats 4000000 in
theorem zm_X9_down {g : zΓ} (hg : zg g) (d : Nat) (hd : 1 ≤ d) : zOk g d 150 zk_X9_down := by
  obtain ⟨d, rfl⟩ : ∃ d', d = d' + 1 := ⟨d - 1, by omega⟩
  refine zOk_straight hg (show mt_tab[150]? = some mt_X9_down from rfl) [] 13 rfl fun As μ Q hC => ?_
  obtain ⟨a1, a2, rfl, ha1, ha2, hQ⟩ := hC
  refine ⟨rfl, ?_⟩
  refine And.intro ⟨by omega, by omega⟩ (And.intro (fun c1 => ?_) (fun c1 => ?_))
  · exact And.intro trivial (And.intro ⟨by omega, by omega⟩ (hQ _ (by omega) (by omega) (by omega)))
  · exact And.intro trivial (And.intro ⟨by omega, by omega⟩ (hQ _ (by omega) (by omega) (by omega)))
