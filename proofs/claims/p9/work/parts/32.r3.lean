def zk_X9_isClass : zC := fun As μ Q => ∃ (a1 : Int), As = [.inr (.inr (66, 66)), .inl a1] ∧ ((-2147483648) ≤ a1 ∧ a1 ≤ 2147483647) ∧ (∀ (v : Int) (μ' : zM), zfx [] [54] μ μ' → 0 ≤ v → v ≤ 1 → (v = 0 ∨ (0 ≤ a1 ∧ a1 < μ.1 66 ((20 : Nat) : Int) ∧ a1 ≤ 20)) → Q (some (.inl v)) μ')
set_option maxHeartbeats 1000000 in
theorem zm_X9_isClass {g : zΓ} (hg : zg g) (d : Nat) (hd : 1 ≤ d) : zOk g d 182 zk_X9_isClass := by
  obtain ⟨d, rfl⟩ : ∃ d', d = d' + 1 := ⟨d - 1, by omega⟩
  refine zOk_straight hg (show mt_tab[182]? = some mt_X9_isClass from rfl) [] 25 rfl fun As μ Q hC => ?_
  obtain ⟨a1, rfl, ha1, hQ⟩ := hC
  obtain ⟨g1, wg1⟩ : ∃ z : Int, μ.1 66 ((20 : Nat) : Int) = z := ⟨_, rfl⟩
  refine ⟨rfl, ?_⟩
  have z0 : zfx [] [54] μ μ := zfx_x μ
  refine And.intro ⟨by omega, by omega⟩ (And.intro (fun c2 => ?_) (fun c2 => ?_))
  · refine And.intro ⟨by omega, by omega⟩ (And.intro (fun c3 => ?_) (fun c3 => ?_))
    · refine And.intro ⟨by omega, by omega⟩ ?_
      intro m4 em4
      have z5 := zfx_f z0 em4 rfl
      have w6 : m4.1 66 ((20 : Nat) : Int) = g1 := by rw [em4]; exact (zu_nk (by decide)).trans wg1
      exact And.intro (zrtb (by omega)) (And.intro ⟨by omega, by omega⟩ (hQ _ _ z5 (by omega) (by omega) (by (try rw [w6]) <;> (try rw [wg1]) <;> omega)))
    · exfalso; omega
  · intro x7 hx7 kx7 lx7
    rw [wg1] at hx7
    refine And.intro ⟨⟨by omega, by omega⟩, ⟨by omega, by omega⟩⟩ (And.intro (fun c8 => ?_) (fun c8 => ?_))
    · refine And.intro ⟨by omega, by omega⟩ (And.intro (fun c9 => ?_) (fun c9 => ?_))
      · refine And.intro ⟨by omega, by omega⟩ ?_
        intro m10 em10
        have z11 := zfx_f z0 em10 rfl
        have w12 : m10.1 66 ((20 : Nat) : Int) = g1 := by rw [em10]; exact (zu_nk (by decide)).trans wg1
        exact And.intro (zrtb (by omega)) (And.intro ⟨by omega, by omega⟩ (hQ _ _ z11 (by omega) (by omega) (by (try rw [w12]) <;> (try rw [wg1]) <;> omega)))
      · exfalso; omega
    · refine And.intro ⟨by omega, by omega⟩ (And.intro (fun c13 => ?_) (fun c13 => ?_))
      · exfalso; omega
      · clear c13
        intro x14 hx14 kx14 lx14
        refine And.intro ⟨by omega, by omega⟩ ?_
        intro m15 em15
        have z16 := zfx_f z0 em15 rfl
        have w17 : m15.1 66 ((20 : Nat) : Int) = g1 := by rw [em15]; exact (zu_nk (by decide)).trans wg1
        exact And.intro (zrtb (by omega)) (And.intro ⟨by omega, by omega⟩ (hQ _ _ z16 (by omega) (by omega) (by (try rw [w17]) <;> (try rw [wg1]) <;> omega)))
def zk_X9_isParam : zC := fun As μ Q => ∃ (a1 : Int), As = [.inr (.inr (66, 66)), .inl a1] ∧ ((-2147483648) ≤ a1 ∧ a1 ≤ 2147483647) ∧ (∀ (v : Int) (μ' : zM), zfx [] [54] μ μ' → 0 ≤ v → v ≤ 1 → (v = 0 ∨ (0 ≤ a1 ∧ a1 < μ.1 66 ((21 : Nat) : Int) ∧ a1 ≤ 79)) → Q (some (.inl v)) μ')
set_option maxHeartbeats 1000000 in
theorem zm_X9_isParam {g : zΓ} (hg : zg g) (d : Nat) (hd : 1 ≤ d) : zOk g d 186 zk_X9_isParam := by
  obtain ⟨d, rfl⟩ : ∃ d', d = d' + 1 := ⟨d - 1, by omega⟩
  refine zOk_straight hg (show mt_tab[186]? = some mt_X9_isParam from rfl) [] 25 rfl fun As μ Q hC => ?_
  obtain ⟨a1, rfl, ha1, hQ⟩ := hC
  obtain ⟨g1, wg1⟩ : ∃ z : Int, μ.1 66 ((21 : Nat) : Int) = z := ⟨_, rfl⟩
  refine ⟨rfl, ?_⟩
  have z0 : zfx [] [54] μ μ := zfx_x μ
  refine And.intro ⟨by omega, by omega⟩ (And.intro (fun c2 => ?_) (fun c2 => ?_))
  · refine And.intro ⟨by omega, by omega⟩ (And.intro (fun c3 => ?_) (fun c3 => ?_))
    · refine And.intro ⟨by omega, by omega⟩ ?_
      intro m4 em4
      have z5 := zfx_f z0 em4 rfl
      have w6 : m4.1 66 ((21 : Nat) : Int) = g1 := by rw [em4]; exact (zu_nk (by decide)).trans wg1
      exact And.intro (zrtb (by omega)) (And.intro ⟨by omega, by omega⟩ (hQ _ _ z5 (by omega) (by omega) (by (try rw [w6]) <;> (try rw [wg1]) <;> omega)))
    · exfalso; omega
  · intro x7 hx7 kx7 lx7
    rw [wg1] at hx7
    refine And.intro ⟨⟨by omega, by omega⟩, ⟨by omega, by omega⟩⟩ (And.intro (fun c8 => ?_) (fun c8 => ?_))
    · refine And.intro ⟨by omega, by omega⟩ (And.intro (fun c9 => ?_) (fun c9 => ?_))
      · refine And.intro ⟨by omega, by omega⟩ ?_
        intro m10 em10
        have z11 := zfx_f z0 em10 rfl
        have w12 : m10.1 66 ((21 : Nat) : Int) = g1 := by rw [em10]; exact (zu_nk (by decide)).trans wg1
        exact And.intro (zrtb (by omega)) (And.intro ⟨by omega, by omega⟩ (hQ _ _ z11 (by omega) (by omega) (by (try rw [w12]) <;> (try rw [wg1]) <;> omega)))
      · exfalso; omega
    · refine And.intro ⟨by omega, by omega⟩ (And.intro (fun c13 => ?_) (fun c13 => ?_))
      · exfalso; omega
      · clear c13
        intro x14 hx14 kx14 lx14
        refine And.intro ⟨by omega, by omega⟩ ?_
        intro m15 em15
        have z16 := zfx_f z0 em15 rfl
        have w17 : m15.1 66 ((21 : Nat) : Int) = g1 := by rw [em15]; exact (zu_nk (by decide)).trans wg1
        exact And.intro (zrtb (by omega)) (And.intro ⟨by omega, by omega⟩ (hQ _ _ z16 (by omega) (by omega) (by (try rw [w17]) <;> (try rw [wg1]) <;> omega)))
def zk_X9_isOver : zC := fun As μ Q => ∃ (a1 : Int) (a2 : Int), As = [.inr (.inr (66, 66)), .inl a1, .inl a2] ∧ (0 ≤ a1 ∧ a1 ≤ 20) ∧ (0 ≤ a2 ∧ a2 ≤ 20) ∧ (∀ (v : Int), 0 ≤ v → v ≤ 1 → Q (some (.inl v)) μ)
set_option maxHeartbeats 1000000 in
theorem zm_X9_isOver {g : zΓ} (hg : zg g) (d : Nat) (hd : 1 ≤ d) : zOk g d 184 zk_X9_isOver := by
  obtain ⟨d, rfl⟩ : ∃ d', d = d' + 1 := ⟨d - 1, by omega⟩
  refine zOk_straight hg (show mt_tab[184]? = some mt_X9_isOver from rfl) [] 26 rfl fun As μ Q hC => ?_
  obtain ⟨a1, a2, rfl, ha1, ha2, hQ⟩ := hC
  refine ⟨rfl, ?_⟩
  refine And.intro ⟨⟨by omega, by omega⟩, ⟨by omega, by omega⟩⟩ (And.intro (fun c1 => ?_) (fun c1 => ?_))
  · exact And.intro (zrtb (by omega)) (And.intro ⟨by omega, by omega⟩ (hQ _ (by omega) (by omega)))
  · clear c1
    refine And.intro ⟨by omega, by omega⟩ (And.intro (fun c2 => ?_) (fun c2 => ?_))
    · exact And.intro (zrtb (by omega)) (And.intro ⟨by omega, by omega⟩ (hQ _ (by omega) (by omega)))
    · refine And.intro ⟨⟨by omega, by omega⟩, ⟨by omega, by omega⟩⟩ (And.intro (fun c3 => ?_) (fun c3 => ?_))
      · exact And.intro (zrtb (by omega)) (And.intro ⟨by omega, by omega⟩ (hQ _ (by omega) (by omega)))
      · refine And.intro ⟨by omega, by omega⟩ ?_
        intro x4 hx4 kx4 lx4
        refine And.intro ⟨by omega, by omega⟩ (And.intro (fun c5 => ?_) (fun c5 => ?_))
        · exact And.intro (zrtb (by omega)) (And.intro ⟨by omega, by omega⟩ (hQ _ (by omega) (by omega)))
        · exact And.intro (zrtb (by omega)) (And.intro ⟨by omega, by omega⟩ (hQ _ (by omega) (by omega)))
def zk_X9_isAbove : zC := fun As μ Q => ∃ (a1 : Int) (a2 : Int), As = [.inr (.inr (66, 66)), .inl a1, .inl a2] ∧ ((-2147483648) ≤ a1 ∧ a1 ≤ 2147483647) ∧ ((-2147483648) ≤ a2 ∧ a2 ≤ 2147483647) ∧ (∀ (v : Int) (μ' : zM), zfx [] [54] μ μ' → (-2147483648) ≤ v → v ≤ 2147483647 → Q (some (.inl v)) μ')
set_option maxHeartbeats 1000000 in
theorem zm_X9_isAbove {g : zΓ} (hg : zg g) (d : Nat) (hd : 2 ≤ d) : zOk g d 185 zk_X9_isAbove := by
  obtain ⟨d, rfl⟩ : ∃ d', d = d' + 1 := ⟨d - 1, by omega⟩
  refine zOk_straight hg (show mt_tab[185]? = some mt_X9_isAbove from rfl) [] 25 rfl fun As μ Q hC => ?_
  obtain ⟨a1, a2, rfl, ha1, ha2, hQ⟩ := hC
  refine ⟨rfl, ?_⟩
  have z0 : zfx [] [54] μ μ := zfx_x μ
  refine And.intro ⟨by omega, by omega⟩ ?_
  intro m1 em1
  have z2 := zfx_f z0 em1 rfl
  refine ⟨zk_X9_isClass, zm_X9_isClass hg d (by omega), _, rfl, ⟨by omega, by omega⟩, ?_⟩
  intro x3 m4 qm4 kx3 lx3 p5
  have z6 := zfx_t z2 qm4 rfl rfl
  refine And.intro ⟨by omega, by omega⟩ (And.intro (fun c7 => ?_) (fun c7 => ?_))
  · exact And.intro trivial (And.intro ⟨by omega, by omega⟩ (hQ _ _ z6 (by omega) (by omega)))
  · refine ⟨zk_X9_isClass, zm_X9_isClass hg d (by omega), _, rfl, ⟨by omega, by omega⟩, ?_⟩
    intro x8 m9 qm9 kx8 lx8 p10
    have z11 := zfx_t z6 qm9 rfl rfl
    refine And.intro ⟨by omega, by omega⟩ (And.intro (fun c12 => ?_) (fun c12 => ?_))
    · exact And.intro trivial (And.intro ⟨by omega, by omega⟩ (hQ _ _ z11 (by omega) (by omega)))
    · refine ⟨zk_X9_isOver, zm_X9_isOver hg d (by omega), _, _, rfl, ⟨by omega, by omega⟩, ⟨by omega, by omega⟩, ?_⟩
      intro x13 kx13 lx13
      refine And.intro ⟨by omega, by omega⟩ (And.intro (fun c14 => ?_) (fun c14 => ?_))
      · exact And.intro trivial (And.intro ⟨by omega, by omega⟩ (hQ _ _ z11 (by omega) (by omega)))
      · exact And.intro trivial (And.intro ⟨by omega, by omega⟩ (hQ _ _ z11 (by omega) (by omega)))
def zk_X9_cls : zC := fun As μ Q => ∃ (a1 : Int) (a2 : Int), As = [.inr (.inr (66, 66)), .inl a1, .inl a2] ∧ ((-2147483648) ≤ a1 ∧ a1 ≤ 2147483647) ∧ ((-2147483648) ≤ a2 ∧ a2 ≤ 2147483647) ∧ (∀ (v : Int64) (μ' : zM), zfx [] [54] μ μ' → Q (some (.inr (.inl v))) μ')
set_option maxHeartbeats 1000000 in
theorem zm_X9_cls {g : zΓ} (hg : zg g) (d : Nat) (hd : 2 ≤ d) : zOk g d 183 zk_X9_cls := by
  obtain ⟨d, rfl⟩ : ∃ d', d = d' + 1 := ⟨d - 1, by omega⟩
  refine zOk_loop hg (show mt_tab[183]? = some mt_X9_cls from rfl) ([(73, [0, 1, 3, 4])], []) 75 rfl fun As μ Q hC => ?_
  obtain ⟨a1, a2, rfl, ha1, ha2, hQ⟩ := hC
  have z0 : zfx [] [54] μ μ := zfx_x μ
  refine ⟨rfl, fun pc vs μ' n => ∃ (v1 : Int) (v3 : Int) (v4 : Int), vs = [.inr (.inr (66, 66)), .inl v1, .inl v3, .inl v4] ∧ zfx [] [54] μ μ' ∧ (0 ≤ v1 ∧ v1 ≤ 20) ∧ (0 ≤ v3 ∧ v3 ≤ 21) ∧ (0 ≤ v4 ∧ v4 ≤ 21) ∧ (v3 ≤ v4) ∧ n = (Int.toNat (2147483648 - v4)), ?_, ?_, trivial⟩
  · refine And.intro ⟨by omega, by omega⟩ ?_
    intro m1 em1
    have z2 := zfx_f z0 em1 rfl
    refine ⟨zk_X9_isClass, zm_X9_isClass hg d (by omega), _, rfl, ⟨by omega, by omega⟩, ?_⟩
    intro x3 m4 qm4 kx3 lx3 p5
    have z6 := zfx_t z2 qm4 rfl rfl
    refine And.intro ⟨by omega, by omega⟩ (And.intro (fun c7 => ?_) (fun c7 => ?_))
    · refine And.intro ⟨by omega, by omega⟩ (And.intro (fun c8 => ?_) (And.intro (fun c8 => ?_) (And.intro (fun c8 => ?_) (And.intro (fun c8 => ?_) (And.intro (fun c8 => ?_) (And.intro (fun c8 => ?_) trivial))))))
      · refine And.intro ⟨by omega, by omega⟩ ?_
        intro m9 em9
        have z10 := zfx_f z6 em9 rfl
        exact And.intro rfl (hQ _ _ z10)
      · refine And.intro ⟨by omega, by omega⟩ ?_
        intro x11 hx11 kx11 lx11
        exact And.intro rfl (hQ _ _ z6)
      · refine And.intro ⟨by omega, by omega⟩ ?_
        intro x12 hx12 kx12 lx12
        exact And.intro rfl (hQ _ _ z6)
      · refine Exists.intro (Int.toNat (2147483648 - 0)) ?_
        exact ⟨_, _, _, rfl, z6, ⟨by omega, by omega⟩, ⟨by omega, by omega⟩, ⟨by omega, by omega⟩, (by omega), rfl⟩
      · refine And.intro ⟨by omega, by omega⟩ ?_
        intro x13 hx13
        exact And.intro rfl (hQ _ _ z6)
      · refine And.intro ⟨by omega, by omega⟩ ?_
        intro x14 hx14 kx14 lx14
        refine And.intro ⟨by omega, by omega⟩ (And.intro (fun c15 => ?_) (fun c15 => ?_))
        · refine And.intro ⟨by omega, by omega⟩ ?_
          intro x16 hx16 kx16 lx16
          exact And.intro rfl (hQ _ _ z6)
        · exact And.intro rfl (hQ _ _ z6)
    · exact And.intro rfl (hQ _ _ z6)
  · intro vs m0 n hI
    clear z0
    obtain ⟨v1, v3, v4, rfl, z0, hv1, hv3, hv4, i0, rfl⟩ := hI
    intro x17 hx17 kx17 lx17
    refine And.intro ⟨⟨by omega, by omega⟩, ⟨by omega, by omega⟩⟩ (And.intro (fun c18 => ?_) (fun c18 => ?_))
    · exact And.intro rfl (hQ _ _ z0)
    · refine ⟨zk_X9_isOver, zm_X9_isOver hg d (by omega), _, _, rfl, ⟨by omega, by omega⟩, ⟨by omega, by omega⟩, ?_⟩
      intro x19 kx19 lx19
      refine And.intro ⟨by omega, by omega⟩ (And.intro (fun c20 => ?_) (fun c20 => ?_))
      · refine Exists.intro (Int.toNat (2147483648 - (v4 + 1))) (And.intro (by omega) ?_)
        exact ⟨_, _, _, rfl, z0, ⟨by omega, by omega⟩, ⟨by omega, by omega⟩, ⟨by omega, by omega⟩, (by omega), rfl⟩
      · refine Exists.intro (Int.toNat (2147483648 - (v4 + 1))) (And.intro (by omega) ?_)
        exact ⟨_, _, _, rfl, z0, ⟨by omega, by omega⟩, ⟨by omega, by omega⟩, ⟨by omega, by omega⟩, (by omega), rfl⟩
def zk_X9_isOnGrowing : zC := fun As μ Q => ∃ (a1 : Int), As = [.inr (.inr (66, 66)), .inl a1] ∧ (0 ≤ a1 ∧ a1 ≤ 79) ∧ (∀ (v : Int), 0 ≤ v → v ≤ 1 → Q (some (.inl v)) μ)
set_option maxHeartbeats 1000000 in
theorem zm_X9_isOnGrowing {g : zΓ} (hg : zg g) (d : Nat) (hd : 1 ≤ d) : zOk g d 155 zk_X9_isOnGrowing := by
  obtain ⟨d, rfl⟩ : ∃ d', d = d' + 1 := ⟨d - 1, by omega⟩
  refine zOk_loop hg (show mt_tab[155]? = some mt_X9_isOnGrowing from rfl) ([(4, [0, 1, 2, 3]), (19, [0, 1, 2, 3, 4])], []) 79 rfl fun As μ Q hC => ?_
  obtain ⟨a1, rfl, ha1, hQ⟩ := hC
  refine ⟨rfl, fun pc vs μ' n => (pc = 4 → ∃ (v1 : Int) (v2 : Int) (v3 : Int), vs = [.inr (.inr (66, 66)), .inl v1, .inl v2, .inl v3] ∧ μ' = μ ∧ (0 ≤ v1 ∧ v1 ≤ 79) ∧ (0 ≤ v2 ∧ v2 ≤ 1) ∧ (0 ≤ v3 ∧ v3 ≤ 80) ∧ n = (Int.toNat ((2147483648 - v3) * 4294967296 + 4294967295))) ∧ (pc = 19 → ∃ (v1 : Int) (v2 : Int) (v3 : Int) (v4 : Int), vs = [.inr (.inr (66, 66)), .inl v1, .inl v2, .inl v3, .inl v4] ∧ μ' = μ ∧ (0 ≤ v1 ∧ v1 ≤ 79) ∧ (0 ≤ v2 ∧ v2 ≤ 1) ∧ (0 ≤ v3 ∧ v3 ≤ 79) ∧ (0 ≤ v4 ∧ v4 ≤ 80) ∧ n = (Int.toNat ((2147483648 - v3) * 4294967296 + (2147483648 - v4)))), ?_, ?_, ?_, trivial⟩
  · refine Exists.intro (Int.toNat ((2147483648 - 0) * 4294967296 + 4294967295)) ?_
    exact ⟨(fun _ => ⟨_, _, _, rfl, rfl, ⟨by omega, by omega⟩, ⟨by omega, by omega⟩, ⟨by omega, by omega⟩, rfl⟩), (fun h => absurd h (by decide))⟩
  · intro vs m0 n hI
    replace hI := hI.1 rfl
    obtain ⟨v1, v2, v3, rfl, rfl, hv1, hv2, hv3, rfl⟩ := hI
    intro x1 hx1 kx1 lx1
    refine And.intro ⟨⟨by omega, by omega⟩, ⟨by omega, by omega⟩⟩ (And.intro (fun c2 => ?_) (fun c2 => ?_))
    · exact And.intro (zrtb (by omega)) (And.intro ⟨by omega, by omega⟩ (hQ _ (by omega) (by omega)))
    · refine And.intro ⟨by omega, by omega⟩ (And.intro (fun c3 => ?_) (fun c3 => ?_))
      · exact And.intro (zrtb (by omega)) (And.intro ⟨by omega, by omega⟩ (hQ _ (by omega) (by omega)))
      · refine Exists.intro (Int.toNat ((2147483648 - v3) * 4294967296 + (2147483648 - 0))) (And.intro (by omega) ?_)
        exact ⟨(fun h => absurd h (by decide)), (fun _ => ⟨_, _, _, _, rfl, rfl, ⟨by omega, by omega⟩, ⟨by omega, by omega⟩, ⟨by omega, by omega⟩, ⟨by omega, by omega⟩, rfl⟩)⟩
  · intro vs m0 n hI
    replace hI := hI.2 rfl
    obtain ⟨v1, v2, v3, v4, rfl, rfl, hv1, hv2, hv3, hv4, rfl⟩ := hI
    intro x4 hx4 kx4 lx4
    refine And.intro ⟨⟨by omega, by omega⟩, ⟨by omega, by omega⟩⟩ (And.intro (fun c5 => ?_) (fun c5 => ?_))
    · refine Exists.intro (Int.toNat ((2147483648 - (v3 + 1)) * 4294967296 + 4294967295)) (And.intro (by omega) ?_)
      exact ⟨(fun _ => ⟨_, _, _, rfl, rfl, ⟨by omega, by omega⟩, ⟨by omega, by omega⟩, ⟨by omega, by omega⟩, rfl⟩), (fun h => absurd h (by decide))⟩
    · refine And.intro ⟨by omega, by omega⟩ (And.intro (fun c6 => ?_) (fun c6 => ?_))
      · refine Exists.intro (Int.toNat ((2147483648 - (v3 + 1)) * 4294967296 + 4294967295)) (And.intro (by omega) ?_)
        exact ⟨(fun _ => ⟨_, _, _, rfl, rfl, ⟨by omega, by omega⟩, ⟨by omega, by omega⟩, ⟨by omega, by omega⟩, rfl⟩), (fun h => absurd h (by decide))⟩
      · refine And.intro ⟨⟨by omega, by omega⟩, ⟨by omega, by omega⟩⟩ (And.intro (fun c7 => ?_) (fun c7 => ?_))
        · refine And.intro ⟨⟨by omega, by omega⟩, ⟨by omega, by omega⟩⟩ (And.intro (fun c8 => ?_) (fun c8 => ?_))
          · refine And.intro ⟨by omega, by omega⟩ ?_
            intro x9 hx9 kx9 lx9
            refine And.intro ⟨⟨by omega, by omega⟩, ⟨by omega, by omega⟩⟩ (And.intro (fun c10 => ?_) (fun c10 => ?_))
            · refine Exists.intro (Int.toNat ((2147483648 - v3) * 4294967296 + (2147483648 - (v4 + 1)))) (And.intro (by omega) ?_)
              exact ⟨(fun h => absurd h (by decide)), (fun _ => ⟨_, _, _, _, rfl, rfl, ⟨by omega, by omega⟩, ⟨by omega, by omega⟩, ⟨by omega, by omega⟩, ⟨by omega, by omega⟩, rfl⟩)⟩
            · refine And.intro ⟨by omega, by omega⟩ (And.intro (fun c11 => ?_) (fun c11 => ?_))
              · exfalso; omega
              · clear c11
                refine And.intro ⟨by omega, by omega⟩ (And.intro (fun c12 => ?_) (fun c12 => ?_))
                · exfalso; omega
                · clear c12
                  refine Exists.intro (Int.toNat ((2147483648 - v3) * 4294967296 + (2147483648 - (v4 + 1)))) (And.intro (by omega) ?_)
                  exact ⟨(fun h => absurd h (by decide)), (fun _ => ⟨_, _, _, _, rfl, rfl, ⟨by omega, by omega⟩, ⟨by omega, by omega⟩, ⟨by omega, by omega⟩, ⟨by omega, by omega⟩, rfl⟩)⟩
          · clear c8
            refine And.intro ⟨by omega, by omega⟩ ?_
            intro x13 hx13 kx13 lx13
            refine And.intro ⟨by omega, by omega⟩ (And.intro (fun c14 => ?_) (fun c14 => ?_))
            · refine And.intro ⟨by omega, by omega⟩ ?_
              intro x15 hx15 kx15 lx15
              refine And.intro ⟨⟨by omega, by omega⟩, ⟨by omega, by omega⟩⟩ (And.intro (fun c16 => ?_) (fun c16 => ?_))
              · refine Exists.intro (Int.toNat ((2147483648 - v3) * 4294967296 + (2147483648 - (v4 + 1)))) (And.intro (by omega) ?_)
                exact ⟨(fun h => absurd h (by decide)), (fun _ => ⟨_, _, _, _, rfl, rfl, ⟨by omega, by omega⟩, ⟨by omega, by omega⟩, ⟨by omega, by omega⟩, ⟨by omega, by omega⟩, rfl⟩)⟩
              · refine And.intro ⟨by omega, by omega⟩ (And.intro (fun c17 => ?_) (fun c17 => ?_))
                · exfalso; omega
                · clear c17
                  refine And.intro ⟨by omega, by omega⟩ (And.intro (fun c18 => ?_) (fun c18 => ?_))
                  · refine Exists.intro (Int.toNat ((2147483648 - v3) * 4294967296 + (2147483648 - (v4 + 1)))) (And.intro (by omega) ?_)
                    exact ⟨(fun h => absurd h (by decide)), (fun _ => ⟨_, _, _, _, rfl, rfl, ⟨by omega, by omega⟩, ⟨by omega, by omega⟩, ⟨by omega, by omega⟩, ⟨by omega, by omega⟩, rfl⟩)⟩
                  · exfalso; omega
            · refine And.intro ⟨by omega, by omega⟩ ?_
              intro x19 hx19 kx19 lx19
              refine And.intro ⟨⟨by omega, by omega⟩, ⟨by omega, by omega⟩⟩ (And.intro (fun c20 => ?_) (fun c20 => ?_))
              · refine Exists.intro (Int.toNat ((2147483648 - v3) * 4294967296 + (2147483648 - (v4 + 1)))) (And.intro (by omega) ?_)
                exact ⟨(fun h => absurd h (by decide)), (fun _ => ⟨_, _, _, _, rfl, rfl, ⟨by omega, by omega⟩, ⟨by omega, by omega⟩, ⟨by omega, by omega⟩, ⟨by omega, by omega⟩, rfl⟩)⟩
              · refine And.intro ⟨by omega, by omega⟩ (And.intro (fun c21 => ?_) (fun c21 => ?_))
                · exfalso; omega
                · clear c21
                  refine And.intro ⟨by omega, by omega⟩ (And.intro (fun c22 => ?_) (fun c22 => ?_))
                  · exfalso; omega
                  · clear c22
                    refine Exists.intro (Int.toNat ((2147483648 - v3) * 4294967296 + (2147483648 - (v4 + 1)))) (And.intro (by omega) ?_)
                    exact ⟨(fun h => absurd h (by decide)), (fun _ => ⟨_, _, _, _, rfl, rfl, ⟨by omega, by omega⟩, ⟨by omega, by omega⟩, ⟨by omega, by omega⟩, ⟨by omega, by omega⟩, rfl⟩)⟩
        · clear c7
          refine And.intro ⟨by omega, by omega⟩ ?_
          intro x23 hx23 kx23 lx23
          refine And.intro ⟨by omega, by omega⟩ (And.intro (fun c24 => ?_) (fun c24 => ?_))
          · refine And.intro ⟨⟨by omega, by omega⟩, ⟨by omega, by omega⟩⟩ (And.intro (fun c25 => ?_) (fun c25 => ?_))
            · refine And.intro ⟨by omega, by omega⟩ ?_
              intro x26 hx26 kx26 lx26
              refine And.intro ⟨⟨by omega, by omega⟩, ⟨by omega, by omega⟩⟩ (And.intro (fun c27 => ?_) (fun c27 => ?_))
              · refine Exists.intro (Int.toNat ((2147483648 - v3) * 4294967296 + (2147483648 - (v4 + 1)))) (And.intro (by omega) ?_)
                exact ⟨(fun h => absurd h (by decide)), (fun _ => ⟨_, _, _, _, rfl, rfl, ⟨by omega, by omega⟩, ⟨by omega, by omega⟩, ⟨by omega, by omega⟩, ⟨by omega, by omega⟩, rfl⟩)⟩
              · refine And.intro ⟨by omega, by omega⟩ (And.intro (fun c28 => ?_) (fun c28 => ?_))
                · refine Exists.intro (Int.toNat ((2147483648 - v3) * 4294967296 + (2147483648 - (v4 + 1)))) (And.intro (by omega) ?_)
                  exact ⟨(fun h => absurd h (by decide)), (fun _ => ⟨_, _, _, _, rfl, rfl, ⟨by omega, by omega⟩, ⟨by omega, by omega⟩, ⟨by omega, by omega⟩, ⟨by omega, by omega⟩, rfl⟩)⟩
                · exfalso; omega
            · clear c25
              refine And.intro ⟨by omega, by omega⟩ ?_
              intro x29 hx29 kx29 lx29
              refine And.intro ⟨by omega, by omega⟩ (And.intro (fun c30 => ?_) (fun c30 => ?_))
              · refine And.intro ⟨by omega, by omega⟩ ?_
                intro x31 hx31 kx31 lx31
                refine And.intro ⟨⟨by omega, by omega⟩, ⟨by omega, by omega⟩⟩ (And.intro (fun c32 => ?_) (fun c32 => ?_))
                · refine Exists.intro (Int.toNat ((2147483648 - v3) * 4294967296 + (2147483648 - (v4 + 1)))) (And.intro (by omega) ?_)
                  exact ⟨(fun h => absurd h (by decide)), (fun _ => ⟨_, _, _, _, rfl, rfl, ⟨by omega, by omega⟩, ⟨by omega, by omega⟩, ⟨by omega, by omega⟩, ⟨by omega, by omega⟩, rfl⟩)⟩
                · refine And.intro ⟨by omega, by omega⟩ (And.intro (fun c33 => ?_) (fun c33 => ?_))
                  · refine Exists.intro (Int.toNat ((2147483648 - v3) * 4294967296 + (2147483648 - (v4 + 1)))) (And.intro (by omega) ?_)
                    exact ⟨(fun h => absurd h (by decide)), (fun _ => ⟨_, _, _, _, rfl, rfl, ⟨by omega, by omega⟩, ⟨by omega, by omega⟩, ⟨by omega, by omega⟩, ⟨by omega, by omega⟩, rfl⟩)⟩
                  · exfalso; omega
              · refine And.intro ⟨by omega, by omega⟩ ?_
                intro x34 hx34 kx34 lx34
                refine And.intro ⟨⟨by omega, by omega⟩, ⟨by omega, by omega⟩⟩ (And.intro (fun c35 => ?_) (fun c35 => ?_))
                · refine Exists.intro (Int.toNat ((2147483648 - v3) * 4294967296 + (2147483648 - (v4 + 1)))) (And.intro (by omega) ?_)
                  exact ⟨(fun h => absurd h (by decide)), (fun _ => ⟨_, _, _, _, rfl, rfl, ⟨by omega, by omega⟩, ⟨by omega, by omega⟩, ⟨by omega, by omega⟩, ⟨by omega, by omega⟩, rfl⟩)⟩
                · refine And.intro ⟨by omega, by omega⟩ (And.intro (fun c36 => ?_) (fun c36 => ?_))
                  · refine Exists.intro (Int.toNat ((2147483648 - v3) * 4294967296 + (2147483648 - (v4 + 1)))) (And.intro (by omega) ?_)
                    exact ⟨(fun h => absurd h (by decide)), (fun _ => ⟨_, _, _, _, rfl, rfl, ⟨by omega, by omega⟩, ⟨by omega, by omega⟩, ⟨by omega, by omega⟩, ⟨by omega, by omega⟩, rfl⟩)⟩
                  · exfalso; omega
          · refine And.intro ⟨⟨by omega, by omega⟩, ⟨by omega, by omega⟩⟩ (And.intro (fun c37 => ?_) (fun c37 => ?_))
            · refine And.intro ⟨by omega, by omega⟩ ?_
              intro x38 hx38 kx38 lx38
              refine And.intro ⟨⟨by omega, by omega⟩, ⟨by omega, by omega⟩⟩ (And.intro (fun c39 => ?_) (fun c39 => ?_))
              · refine Exists.intro (Int.toNat ((2147483648 - v3) * 4294967296 + (2147483648 - (v4 + 1)))) (And.intro (by omega) ?_)
                exact ⟨(fun h => absurd h (by decide)), (fun _ => ⟨_, _, _, _, rfl, rfl, ⟨by omega, by omega⟩, ⟨by omega, by omega⟩, ⟨by omega, by omega⟩, ⟨by omega, by omega⟩, rfl⟩)⟩
              · refine And.intro ⟨by omega, by omega⟩ (And.intro (fun c40 => ?_) (fun c40 => ?_))
                · exfalso; omega
                · clear c40
                  refine And.intro ⟨by omega, by omega⟩ (And.intro (fun c41 => ?_) (fun c41 => ?_))
                  · exfalso; omega
                  · clear c41
                    refine Exists.intro (Int.toNat ((2147483648 - v3) * 4294967296 + (2147483648 - (v4 + 1)))) (And.intro (by omega) ?_)
                    exact ⟨(fun h => absurd h (by decide)), (fun _ => ⟨_, _, _, _, rfl, rfl, ⟨by omega, by omega⟩, ⟨by omega, by omega⟩, ⟨by omega, by omega⟩, ⟨by omega, by omega⟩, rfl⟩)⟩
            · clear c37
              refine And.intro ⟨by omega, by omega⟩ ?_
              intro x42 hx42 kx42 lx42
              refine And.intro ⟨by omega, by omega⟩ (And.intro (fun c43 => ?_) (fun c43 => ?_))
              · refine And.intro ⟨by omega, by omega⟩ ?_
                intro x44 hx44 kx44 lx44
                refine And.intro ⟨⟨by omega, by omega⟩, ⟨by omega, by omega⟩⟩ (And.intro (fun c45 => ?_) (fun c45 => ?_))
                · refine Exists.intro (Int.toNat ((2147483648 - v3) * 4294967296 + (2147483648 - (v4 + 1)))) (And.intro (by omega) ?_)
                  exact ⟨(fun h => absurd h (by decide)), (fun _ => ⟨_, _, _, _, rfl, rfl, ⟨by omega, by omega⟩, ⟨by omega, by omega⟩, ⟨by omega, by omega⟩, ⟨by omega, by omega⟩, rfl⟩)⟩
                · refine And.intro ⟨by omega, by omega⟩ (And.intro (fun c46 => ?_) (fun c46 => ?_))
                  · exfalso; omega
                  · clear c46
                    refine And.intro ⟨by omega, by omega⟩ (And.intro (fun c47 => ?_) (fun c47 => ?_))
                    · refine Exists.intro (Int.toNat ((2147483648 - v3) * 4294967296 + (2147483648 - (v4 + 1)))) (And.intro (by omega) ?_)
                      exact ⟨(fun h => absurd h (by decide)), (fun _ => ⟨_, _, _, _, rfl, rfl, ⟨by omega, by omega⟩, ⟨by omega, by omega⟩, ⟨by omega, by omega⟩, ⟨by omega, by omega⟩, rfl⟩)⟩
                    · exfalso; omega
              · refine And.intro ⟨by omega, by omega⟩ ?_
                intro x48 hx48 kx48 lx48
                refine And.intro ⟨⟨by omega, by omega⟩, ⟨by omega, by omega⟩⟩ (And.intro (fun c49 => ?_) (fun c49 => ?_))
                · refine Exists.intro (Int.toNat ((2147483648 - v3) * 4294967296 + (2147483648 - (v4 + 1)))) (And.intro (by omega) ?_)
                  exact ⟨(fun h => absurd h (by decide)), (fun _ => ⟨_, _, _, _, rfl, rfl, ⟨by omega, by omega⟩, ⟨by omega, by omega⟩, ⟨by omega, by omega⟩, ⟨by omega, by omega⟩, rfl⟩)⟩
                · refine And.intro ⟨by omega, by omega⟩ (And.intro (fun c50 => ?_) (fun c50 => ?_))
                  · exfalso; omega
                  · clear c50
                    refine And.intro ⟨by omega, by omega⟩ (And.intro (fun c51 => ?_) (fun c51 => ?_))
                    · exfalso; omega
                    · clear c51
                      refine Exists.intro (Int.toNat ((2147483648 - v3) * 4294967296 + (2147483648 - (v4 + 1)))) (And.intro (by omega) ?_)
                      exact ⟨(fun h => absurd h (by decide)), (fun _ => ⟨_, _, _, _, rfl, rfl, ⟨by omega, by omega⟩, ⟨by omega, by omega⟩, ⟨by omega, by omega⟩, ⟨by omega, by omega⟩, rfl⟩)⟩
def zk_X9_parameter : zC := fun As μ Q => ∃ (a1 : Int) (a2 : Int), As = [.inr (.inr (66, 66)), .inl a1, .inl a2] ∧ ((-2147483648) ≤ a1 ∧ a1 ≤ 2147483647) ∧ ((-2147483648) ≤ a2 ∧ a2 ≤ 2147483647) ∧ (∀ (v : Int64) (μ' : zM), zfx [] [54] μ μ' → Q (some (.inr (.inl v))) μ')
set_option maxHeartbeats 1000000 in
theorem zm_X9_parameter {g : zΓ} (hg : zg g) (d : Nat) (hd : 2 ≤ d) : zOk g d 187 zk_X9_parameter := by
  obtain ⟨d, rfl⟩ : ∃ d', d = d' + 1 := ⟨d - 1, by omega⟩
  refine zOk_straight hg (show mt_tab[187]? = some mt_X9_parameter from rfl) [] 46 rfl fun As μ Q hC => ?_
  obtain ⟨a1, a2, rfl, ha1, ha2, hQ⟩ := hC
  refine ⟨rfl, ?_⟩
  have z0 : zfx [] [54] μ μ := zfx_x μ
  refine And.intro ⟨by omega, by omega⟩ ?_
  intro m1 em1
  have z2 := zfx_f z0 em1 rfl
  refine ⟨zk_X9_isParam, zm_X9_isParam hg d (by omega), _, rfl, ⟨by omega, by omega⟩, ?_⟩
  intro x3 m4 qm4 kx3 lx3 p5
  have z6 := zfx_t z2 qm4 rfl rfl
  refine And.intro ⟨by omega, by omega⟩ (And.intro (fun c7 => ?_) (fun c7 => ?_))
  · refine And.intro ⟨by omega, by omega⟩ (And.intro (fun c8 => ?_) (And.intro (fun c8 => ?_) (And.intro (fun c8 => ?_) (And.intro (fun c8 => ?_) (And.intro (fun c8 => ?_) trivial)))))
    · refine And.intro ⟨by omega, by omega⟩ ?_
      intro m9 em9
      have z10 := zfx_f z6 em9 rfl
      exact And.intro rfl (hQ _ _ z10)
    · refine And.intro ⟨by omega, by omega⟩ ?_
      intro x11 hx11 kx11 lx11
      exact And.intro rfl (hQ _ _ z6)
    · refine And.intro ⟨by omega, by omega⟩ ?_
      intro x12 hx12 kx12 lx12
      exact And.intro rfl (hQ _ _ z6)
    · refine And.intro ⟨by omega, by omega⟩ ?_
      intro x13 hx13
      exact And.intro rfl (hQ _ _ z6)
    · refine ⟨zk_X9_isOnGrowing, zm_X9_isOnGrowing hg d (by omega), _, rfl, ⟨by omega, by omega⟩, ?_⟩
      intro x14 kx14 lx14
      refine And.intro ⟨by omega, by omega⟩ (And.intro (fun c15 => ?_) (fun c15 => ?_))
      · exact And.intro rfl (hQ _ _ z6)
      · exact And.intro rfl (hQ _ _ z6)
  · exact And.intro rfl (hQ _ _ z6)
def zk_X9_way : zC := fun As μ Q => ∃ (a1 : Int) (a2 : Int), As = [.inr (.inr (66, 66)), .inl a1, .inl a2] ∧ ((-2147483648) ≤ a1 ∧ a1 ≤ 2147483647) ∧ ((-2147483648) ≤ a2 ∧ a2 ≤ 2147483647) ∧ (∀ (v : Int) (μ' : zM), zfx [] [54] μ μ' → (-2147483648) ≤ v → v ≤ 2147483647 → Q (some (.inl v)) μ')
set_option maxHeartbeats 1000000 in
theorem zm_X9_way {g : zΓ} (hg : zg g) (d : Nat) (hd : 2 ≤ d) : zOk g d 188 zk_X9_way := by
  obtain ⟨d, rfl⟩ : ∃ d', d = d' + 1 := ⟨d - 1, by omega⟩
  refine zOk_straight hg (show mt_tab[188]? = some mt_X9_way from rfl) [] 27 rfl fun As μ Q hC => ?_
  obtain ⟨a1, a2, rfl, ha1, ha2, hQ⟩ := hC
  refine ⟨rfl, ?_⟩
  have z0 : zfx [] [54] μ μ := zfx_x μ
  refine And.intro ⟨by omega, by omega⟩ ?_
  intro m1 em1
  have z2 := zfx_f z0 em1 rfl
  refine ⟨zk_X9_isParam, zm_X9_isParam hg d (by omega), _, rfl, ⟨by omega, by omega⟩, ?_⟩
  intro x3 m4 qm4 kx3 lx3 p5
  have z6 := zfx_t z2 qm4 rfl rfl
  refine And.intro ⟨by omega, by omega⟩ (And.intro (fun c7 => ?_) (fun c7 => ?_))
  · exact And.intro trivial (And.intro ⟨by omega, by omega⟩ (hQ _ _ z6 (by omega) (by omega)))
  · refine ⟨zk_X9_isParam, zm_X9_isParam hg d (by omega), _, rfl, ⟨by omega, by omega⟩, ?_⟩
    intro x8 m9 qm9 kx8 lx8 p10
    have z11 := zfx_t z6 qm9 rfl rfl
    refine And.intro ⟨by omega, by omega⟩ (And.intro (fun c12 => ?_) (fun c12 => ?_))
    · exact And.intro trivial (And.intro ⟨by omega, by omega⟩ (hQ _ _ z11 (by omega) (by omega)))
    · refine And.intro ⟨by omega, by omega⟩ ?_
      intro x13 hx13 kx13 lx13
      exact And.intro trivial (And.intro ⟨by omega, by omega⟩ (hQ _ _ z11 (by omega) (by omega)))
def zk_X9_told : zC := fun As μ Q => ∃ (a1 : Int), As = [.inr (.inr (66, 66)), .inl a1] ∧ ((-2147483648) ≤ a1 ∧ a1 ≤ 2147483647) ∧ (∀ (v : Int) (μ' : zM), zfx [] [54] μ μ' → (-2147483648) ≤ v → v ≤ 2147483647 → Q (some (.inl v)) μ')
set_option maxHeartbeats 1000000 in
theorem zm_X9_told {g : zΓ} (hg : zg g) (d : Nat) (hd : 1 ≤ d) : zOk g d 189 zk_X9_told := by
  obtain ⟨d, rfl⟩ : ∃ d', d = d' + 1 := ⟨d - 1, by omega⟩
  refine zOk_straight hg (show mt_tab[189]? = some mt_X9_told from rfl) [] 49 rfl fun As μ Q hC => ?_
  obtain ⟨a1, rfl, ha1, hQ⟩ := hC
  refine ⟨rfl, ?_⟩
  have z0 : zfx [] [54] μ μ := zfx_x μ
  refine And.intro ⟨by omega, by omega⟩ ?_
  intro m1 em1
  have z2 := zfx_f z0 em1 rfl
  refine And.intro ⟨by omega, by omega⟩ (And.intro (fun c3 => ?_) (And.intro (fun c3 => ?_) (And.intro (fun c3 => ?_) (And.intro (fun c3 => ?_) (And.intro (fun c3 => ?_) (And.intro (fun c3 => ?_) (And.intro (fun c3 => ?_) (And.intro (fun c3 => ?_) (And.intro (fun c3 => ?_) (And.intro (fun c3 => ?_) (And.intro (fun c3 => ?_) trivial)))))))))))
  · refine And.intro ⟨by omega, by omega⟩ ?_
    intro m4 em4
    have z5 := zfx_f z2 em4 rfl
    exact And.intro trivial (And.intro ⟨by omega, by omega⟩ (hQ _ _ z5 (by omega) (by omega)))
  · intro x6 hx6 kx6 lx6
    exact And.intro trivial (And.intro ⟨by omega, by omega⟩ (hQ _ _ z2 (by omega) (by omega)))
  · intro x7 hx7 kx7 lx7
    exact And.intro trivial (And.intro ⟨by omega, by omega⟩ (hQ _ _ z2 (by omega) (by omega)))
  · intro x8 hx8 kx8 lx8
    exact And.intro trivial (And.intro ⟨by omega, by omega⟩ (hQ _ _ z2 (by omega) (by omega)))
  · intro x9 hx9 kx9 lx9
    exact And.intro trivial (And.intro ⟨by omega, by omega⟩ (hQ _ _ z2 (by omega) (by omega)))
  · intro x10 hx10 kx10 lx10
    exact And.intro trivial (And.intro ⟨by omega, by omega⟩ (hQ _ _ z2 (by omega) (by omega)))
  · intro x11 hx11 kx11 lx11
    exact And.intro trivial (And.intro ⟨by omega, by omega⟩ (hQ _ _ z2 (by omega) (by omega)))
  · intro x12 hx12 kx12 lx12
    exact And.intro trivial (And.intro ⟨by omega, by omega⟩ (hQ _ _ z2 (by omega) (by omega)))
  · intro x13 hx13 kx13 lx13
    exact And.intro trivial (And.intro ⟨by omega, by omega⟩ (hQ _ _ z2 (by omega) (by omega)))
  · intro x14 hx14 kx14 lx14
    exact And.intro trivial (And.intro ⟨by omega, by omega⟩ (hQ _ _ z2 (by omega) (by omega)))
  · intro x15 hx15 kx15 lx15
    refine And.intro ⟨by omega, by omega⟩ (And.intro (fun c16 => ?_) (fun c16 => ?_))
    · exact And.intro trivial (And.intro ⟨by omega, by omega⟩ (hQ _ _ z2 (by omega) (by omega)))
    · exact And.intro trivial (And.intro ⟨by omega, by omega⟩ (hQ _ _ z2 (by omega) (by omega)))
def zk_X9_written : zC := fun As μ Q => ∃ (a1 : Int), As = [.inr (.inr (66, 66)), .inl a1] ∧ ((-2147483648) ≤ a1 ∧ a1 ≤ 2147483647) ∧ (∀ (v : Int) (μ' : zM), zfx [] [54] μ μ' → (-2147483648) ≤ v → v ≤ 2147483647 → Q (some (.inl v)) μ')
set_option maxHeartbeats 1000000 in
theorem zm_X9_written {g : zΓ} (hg : zg g) (d : Nat) (hd : 1 ≤ d) : zOk g d 179 zk_X9_written := by
  obtain ⟨d, rfl⟩ : ∃ d', d = d' + 1 := ⟨d - 1, by omega⟩
  refine zOk_straight hg (show mt_tab[179]? = some mt_X9_written from rfl) [] 28 rfl fun As μ Q hC => ?_
  obtain ⟨a1, rfl, ha1, hQ⟩ := hC
  obtain ⟨g1, wg1⟩ : ∃ z : Int, μ.1 66 ((54 : Nat) : Int) = z := ⟨_, rfl⟩
  obtain ⟨g2, wg2⟩ : ∃ z : Int, μ.1 66 ((56 : Nat) : Int) = z := ⟨_, rfl⟩
  refine ⟨rfl, ?_⟩
  have z0 : zfx [] [54] μ μ := zfx_x μ
  refine And.intro ⟨by omega, by omega⟩ (And.intro (fun c3 => ?_) (fun c3 => ?_))
  · refine And.intro ⟨by omega, by omega⟩ ?_
    intro m4 em4
    have z5 := zfx_f z0 em4 rfl
    have w6 : m4.1 66 ((54 : Nat) : Int) = 1 := by rw [em4]; exact zu_at
    have w7 : m4.1 66 ((56 : Nat) : Int) = g2 := by rw [em4]; exact (zu_nk (by decide)).trans wg2
    intro x8 hx8 kx8 lx8
    rw [w6] at hx8
    refine And.intro ⟨by omega, by omega⟩ (And.intro (fun c9 => ?_) (fun c9 => ?_))
    · exfalso; omega
    · exact And.intro trivial (And.intro ⟨by omega, by omega⟩ (hQ _ _ z5 (by omega) (by omega)))
  · intro x10 hx10 kx10 lx10
    rw [wg2] at hx10
    refine And.intro ⟨⟨by omega, by omega⟩, ⟨by omega, by omega⟩⟩ (And.intro (fun c11 => ?_) (fun c11 => ?_))
    · refine And.intro ⟨by omega, by omega⟩ ?_
      intro m12 em12
      have z13 := zfx_f z0 em12 rfl
      have w14 : m12.1 66 ((54 : Nat) : Int) = 0 := by rw [em12]; exact zu_at
      have w15 : m12.1 66 ((56 : Nat) : Int) = g2 := by rw [em12]; exact (zu_nk (by decide)).trans wg2
      intro x16 hx16 kx16 lx16
      rw [w14] at hx16
      refine And.intro ⟨by omega, by omega⟩ (And.intro (fun c17 => ?_) (fun c17 => ?_))
      · refine And.intro ⟨by omega, by omega⟩ ?_
        intro x18 hx18 kx18 lx18
        intro x19 hx19 kx19 lx19
        exact And.intro trivial (And.intro ⟨by omega, by omega⟩ (hQ _ _ z13 (by omega) (by omega)))
      · exfalso; omega
    · refine And.intro ⟨by omega, by omega⟩ ?_
      intro m20 em20
      have z21 := zfx_f z0 em20 rfl
      have w22 : m20.1 66 ((54 : Nat) : Int) = 1 := by rw [em20]; exact zu_at
      have w23 : m20.1 66 ((56 : Nat) : Int) = g2 := by rw [em20]; exact (zu_nk (by decide)).trans wg2
      intro x24 hx24 kx24 lx24
      rw [w22] at hx24
      refine And.intro ⟨by omega, by omega⟩ (And.intro (fun c25 => ?_) (fun c25 => ?_))
      · exfalso; omega
      · exact And.intro trivial (And.intro ⟨by omega, by omega⟩ (hQ _ _ z21 (by omega) (by omega)))
