/-! ### a question is read: the tables stay -/
def zqj (j : Nat) : Prop := j = 0 ∨ (6 ≤ j ∧ j < 50) ∨ (52 ≤ j ∧ j < 66) ∨ (109 ≤ j ∧ j < 1000000) ∨ (3000006 ≤ j ∧ j < 3000050)
def zqq (μ μ' : zM) : Prop := zl0 μ μ' ∧ μ'.1 50 ((3 : Nat) : Int) = μ.1 50 ((3 : Nat) : Int) ∧ (μ.1 50 ((3 : Nat) : Int) = 51 → ∀ j : Nat, zqj j → μ'.1 j = μ.1 j)
theorem zqq_r (μ : zM) : zqq μ μ := ⟨zl0_r μ, rfl, fun _ _ _ => rfl⟩
theorem zqq_t {a b c : zM} (h1 : zqq a b) (h2 : zqq b c) : zqq a c := ⟨zl0_t h1.1 h2.1, h2.2.1.trans h1.2.1, fun h j hj => (h2.2.2 (h1.2.1.trans h) j hj).trans (h1.2.2 h j hj)⟩
theorem zqq_u {μ μ' : zM} {t : Nat} {k x : Int} (he : μ' = zu μ t k x) (h1 : t < 66 ∨ (109 ≤ t ∧ t < 1000000) ∨ (3000000 ≤ t ∧ t < 3000066) ∨ (5000000 ≤ t ∧ t < 5000066)) (h2 : (t ≠ 26 ∧ t ≠ 44) ∨ k ≠ 5) (h3 : t ≠ 1 ∨ k ≠ ((4 : Nat) : Int) ∨ x = 0 := by first | exact Or.inl (by decide) | exact Or.inr (Or.inl (by decide)) | omega) (h4 : ((1 ≤ t ∧ t ≤ 5) ∨ t = 3000005 ∨ 5000000 ≤ t) ∨ (t = 50 ∧ k ≠ ((3 : Nat) : Int)) := by first | exact Or.inl (by decide) | exact Or.inr ⟨by decide, by decide⟩) : zqq μ μ' := by
  refine ⟨zl0_u he h1 h2 h3, ?_, fun _ j hj => ?_⟩
  · rcases h4 with h | h
    · rw [he, zu_ne (by omega)]
    · rw [he, h.1, zu_nk (by omega)]
  · unfold zqj at hj
    rw [he, zu_ne (by omega)]
theorem zqq_s {μ μ' : zM} {t : Nat} (q : zle μ μ') (f : ∀ j : Nat, j ≠ t → μ'.1 j = μ.1 j) (g : μ'.2 = μ.2) (h3 : (1 ≤ t ∧ t ≤ 5) ∨ (t : Int) = μ.1 50 ((3 : Nat) : Int)) (h5 : t ≠ 50) : zqq μ μ' := by
  refine ⟨⟨q, g⟩, by rw [f 50 (Ne.symm h5)], fun h j hj => ?_⟩
  unfold zqj at hj
  exact f j (by omega)
theorem zOk_mono {g : zΓ} {d a : Nat} {C C' : zC} (h : zOk g d a C) (hc : ∀ As μ Q, C' As μ Q → C As μ Q) : zOk g d a C' := fun As μ Q w hw hr hC => h As μ Q w hw hr (hc As μ Q hC)
def xk_X5_step : zC := fun As μ Q => As = [.inr (.inr (1, 1))] ∧ (∀ (μ' : zM), zqq μ μ' → (∀ j : Nat, j ≠ 1 → j ≠ 5000001 → μ'.1 j = μ.1 j) → Q none μ')
theorem xm_X5_step {g : zΓ} (hg : zg g) (d : Nat) (hd : 1 ≤ d) : zOk g d 79 xk_X5_step := zOk_mono (zm_X5_step hg d hd) (fun As μ Q h => ⟨h.1, fun μ' z p => h.2 μ' ⟨z, by rw [p 50 (by decide) (by decide)], fun _ j hj => by unfold zqj at hj; exact p j (by omega) (by omega)⟩ p⟩)
def xk_X3_fail : zC := fun As μ Q => ∃ (a1 : Int), As = [.inr (.inr (50, 50)), .inl a1] ∧ ((-2147483648) ≤ a1 ∧ a1 ≤ 2147483647) ∧ (∀ (v : Int) (μ' : zM), zqq μ μ' → 0 ≤ v → v ≤ 0 → Q (some (.inl v)) μ')
set_option maxHeartbeats 4000000 in
theorem xm_X3_fail {g : zΓ} (hg : zg g) (d : Nat) (hd : 1 ≤ d) : zOk g d 53 xk_X3_fail := by
  obtain ⟨d, rfl⟩ : ∃ d', d = d' + 1 := ⟨d - 1, by omega⟩
  refine zOk_straight hg (show mt_tab[53]? = some mt_X3_fail from rfl) [] 22 rfl fun As μ Q hC => ?_
  obtain ⟨a1, rfl, ha1, hQ⟩ := hC
  refine ⟨rfl, ?_⟩
  have z0 : zqq μ μ := zqq_r μ
  intro x1 hx1 kx1 lx1
  refine And.intro ⟨⟨by omega, by omega⟩, ⟨by omega, by omega⟩⟩ (And.intro (fun c2 => ?_) (fun c2 => ?_))
  · refine And.intro ⟨by omega, by omega⟩ ?_
    intro m3 em3
    have z4 := zqq_t z0 (zqq_u em3 (Or.inl (by decide)) (Or.inl ⟨by decide, by decide⟩))
    intro x5 hx5 kx5 lx5
    refine And.intro ⟨by omega, by omega⟩ ?_
    intro m6 em6
    have z7 := zqq_t z4 (zqq_u em6 (Or.inl (by decide)) (Or.inl ⟨by decide, by decide⟩))
    exact And.intro (zrtb (by omega)) (And.intro ⟨by omega, by omega⟩ (hQ _ _ z7 (by omega) (by omega)))
  · refine And.intro ⟨by omega, by omega⟩ ?_
    intro m8 em8
    have z9 := zqq_t z0 (zqq_u em8 (Or.inl (by decide)) (Or.inl ⟨by decide, by decide⟩))
    intro x10 hx10 kx10 lx10
    refine And.intro ⟨by omega, by omega⟩ ?_
    intro m11 em11
    have z12 := zqq_t z9 (zqq_u em11 (Or.inl (by decide)) (Or.inl ⟨by decide, by decide⟩))
    exact And.intro (zrtb (by omega)) (And.intro ⟨by omega, by omega⟩ (hQ _ _ z12 (by omega) (by omega)))
def xk_X3_tell : zC := fun As μ Q => ∃ (a1 : Int), As = [.inr (.inr (50, 50)), .inl a1] ∧ ((-2147483648) ≤ a1 ∧ a1 ≤ 2147483647) ∧ (μ.1 50 ((4 : Nat) : Int) ≤ 299) ∧ (∀ (μ' : zM), zqq μ μ' → Q none μ')
set_option maxHeartbeats 4000000 in
theorem xm_X3_tell {g : zΓ} (hg : zg g) (d : Nat) (hd : 2 ≤ d) : zOk g d 52 xk_X3_tell := by
  obtain ⟨d, rfl⟩ : ∃ d', d = d' + 1 := ⟨d - 1, by omega⟩
  refine zOk_straight hg (show mt_tab[52]? = some mt_X3_tell from rfl) [] 18 rfl fun As μ Q hC => ?_
  obtain ⟨a1, rfl, ha1, hp0, hQ⟩ := hC
  refine ⟨rfl, ?_⟩
  have z0 : zqq μ μ := zqq_r μ
  intro t1 et1 ht1
  intro x2 hx2 kx2 lx2
  refine ⟨zk_X8_set, zm_X8_set hg d (by omega), _, _, _, _, rfl, ⟨by omega, by omega⟩, ?_⟩
  refine And.intro ht1.1 ?_
  refine And.intro ⟨by omega, by omega⟩ ?_
  intro m3 qm3 fm3 gm3
  have z4 := zqq_t z0 (zqq_s qm3 fm3 gm3 (Or.inr (by omega)) (by have : t1 = 25 ∨ t1 = 43 ∨ t1 = 51 := ht1.1; omega))
  have : m3.1 50 ((4 : Nat) : Int) = μ.1 50 ((4 : Nat) : Int) := congrFun (fm3 50 (show (50 : Nat) ≠ t1 by have : t1 = 25 ∨ t1 = 43 ∨ t1 = 51 := ht1.1; omega)) _
  intro x5 hx5 kx5 lx5
  refine And.intro ⟨by omega, by omega⟩ ?_
  intro m6 em6
  have z7 := zqq_t z4 (zqq_u em6 (Or.inl (by decide)) (Or.inl ⟨by decide, by decide⟩))
  have : m6.1 50 ((4 : Nat) : Int) = (x5 + 1) := by rw [em6]; exact zu_at
  exact And.intro rfl (hQ _ z7)
def xk_X3_behindType : zC := fun As μ Q => ∃ (a1 : Int), As = [.inr (.inr (50, 50)), .inl a1] ∧ (0 ≤ a1 ∧ a1 ≤ 1) ∧ (∀ (v : Int) (μ' : zM), zqq μ μ' → 0 ≤ v → v ≤ 1 → Q (some (.inl v)) μ')
set_option maxHeartbeats 4000000 in
theorem xm_X3_behindType {g : zΓ} (hg : zg g) (d : Nat) (hd : 2 ≤ d) : zOk g d 51 xk_X3_behindType := by
  obtain ⟨d, rfl⟩ : ∃ d', d = d' + 1 := ⟨d - 1, by omega⟩
  refine zOk_straight hg (show mt_tab[51]? = some mt_X3_behindType from rfl) [] 22 rfl fun As μ Q hC => ?_
  obtain ⟨a1, rfl, ha1, hQ⟩ := hC
  refine ⟨rfl, ?_⟩
  have z0 : zqq μ μ := zqq_r μ
  refine And.intro ⟨by omega, by omega⟩ (And.intro (fun c1 => ?_) (fun c1 => ?_))
  · intro x2 hx2 kx2 lx2
    refine And.intro ⟨by omega, by omega⟩ (And.intro (fun c3 => ?_) (fun c3 => ?_))
    · exact And.intro (zrtb (by omega)) (And.intro ⟨by omega, by omega⟩ (hQ _ _ z0 (by omega) (by omega)))
    · refine ⟨xk_X3_fail, xm_X3_fail hg d (by omega), _, rfl, ⟨by omega, by omega⟩, ?_⟩
      intro x4 m5 qm5 kx4 lx4
      have z6 := zqq_t z0 qm5
      refine And.intro ⟨by omega, by omega⟩ (And.intro (fun c7 => ?_) (fun c7 => ?_))
      · exact And.intro (zrtb (by omega)) (And.intro ⟨by omega, by omega⟩ (hQ _ _ z6 (by omega) (by omega)))
      · exfalso; omega
  · refine ⟨xk_X3_fail, xm_X3_fail hg d (by omega), _, rfl, ⟨by omega, by omega⟩, ?_⟩
    intro x8 m9 qm9 kx8 lx8
    have z10 := zqq_t z0 qm9
    exact And.intro (zrtb (by omega)) (And.intro ⟨by omega, by omega⟩ (hQ _ _ z10 (by omega) (by omega)))
def xk_X3_opening : zC := fun As μ Q => As = [.inr (.inr (50, 50))] ∧ (∀ (v : Int) (μ' : zM), zqq μ μ' → 0 ≤ v → v ≤ 1 → Q (some (.inl v)) μ')
set_option maxHeartbeats 4000000 in
theorem xm_X3_opening {g : zΓ} (hg : zg g) (d : Nat) (hd : 2 ≤ d) : zOk g d 41 xk_X3_opening := by
  obtain ⟨d, rfl⟩ : ∃ d', d = d' + 1 := ⟨d - 1, by omega⟩
  refine zOk_straight hg (show mt_tab[41]? = some mt_X3_opening from rfl) [] 56 rfl fun As μ Q hC => ?_
  obtain ⟨rfl, hQ⟩ := hC
  refine ⟨rfl, ?_⟩
  have z0 : zqq μ μ := zqq_r μ
  intro x1 hx1 kx1 lx1
  refine And.intro ⟨⟨by omega, by omega⟩, ⟨by omega, by omega⟩⟩ (And.intro (fun c2 => ?_) (fun c2 => ?_))
  · refine ⟨xk_X5_step, xm_X5_step hg d (by omega), rfl, ?_⟩
    intro m3 qm3 p4
    have z5 := zqq_t z0 qm3
    intro x6 hx6 kx6 lx6
    refine And.intro ⟨⟨by omega, by omega⟩, ⟨by omega, by omega⟩⟩ (And.intro (fun c7 => ?_) (fun c7 => ?_))
    · intro t8 et8 ht8
      intro j9 hj9
      refine And.intro ht8.1 ⟨zk_X4_findClass, zm_X4_findClass hg d (by omega), _, _, rfl, ht8.1, ?_⟩
      intro x10 kx10 lx10
      refine And.intro ⟨by omega, by omega⟩ ?_
      intro m11 em11
      have z12 := zqq_t z5 (zqq_u em11 (Or.inl (by decide)) (Or.inl ⟨by decide, by decide⟩))
      intro x13 hx13 kx13 lx13
      refine And.intro ⟨by omega, by omega⟩ (And.intro (fun c14 => ?_) (fun c14 => ?_))
      · refine ⟨xk_X5_step, xm_X5_step hg d (by omega), rfl, ?_⟩
        intro m15 qm15 p16
        have z17 := zqq_t z12 qm15
        intro x18 hx18 kx18 lx18
        refine And.intro ⟨⟨by omega, by omega⟩, ⟨by omega, by omega⟩⟩ (And.intro (fun c19 => ?_) (fun c19 => ?_))
        · refine ⟨xk_X5_step, xm_X5_step hg d (by omega), rfl, ?_⟩
          intro m20 qm20 p21
          have z22 := zqq_t z17 qm20
          exact And.intro (zrtb (by omega)) (And.intro ⟨by omega, by omega⟩ (hQ _ _ z22 (by omega) (by omega)))
        · refine ⟨xk_X3_fail, xm_X3_fail hg d (by omega), _, rfl, ⟨by omega, by omega⟩, ?_⟩
          intro x23 m24 qm24 kx23 lx23
          have z25 := zqq_t z17 qm24
          exact And.intro (zrtb (by omega)) (And.intro ⟨by omega, by omega⟩ (hQ _ _ z25 (by omega) (by omega)))
      · refine ⟨xk_X3_fail, xm_X3_fail hg d (by omega), _, rfl, ⟨by omega, by omega⟩, ?_⟩
        intro x26 m27 qm27 kx26 lx26
        have z28 := zqq_t z12 qm27
        exact And.intro (zrtb (by omega)) (And.intro ⟨by omega, by omega⟩ (hQ _ _ z28 (by omega) (by omega)))
    · refine ⟨xk_X3_fail, xm_X3_fail hg d (by omega), _, rfl, ⟨by omega, by omega⟩, ?_⟩
      intro x29 m30 qm30 kx29 lx29
      have z31 := zqq_t z5 qm30
      exact And.intro (zrtb (by omega)) (And.intro ⟨by omega, by omega⟩ (hQ _ _ z31 (by omega) (by omega)))
  · exact And.intro (zrtb (by omega)) (And.intro ⟨by omega, by omega⟩ (hQ _ _ z0 (by omega) (by omega)))
def xk_X3_type (n : Nat) : zC := fun As μ Q => ∃ (a1 : Int) (a2 : Int) (a3 : Int), As = [.inr (.inr (50, 50)), .inl a1, .inl a2, .inl a3] ∧ (0 ≤ a1 ∧ a1 ≤ 8) ∧ (0 ≤ a2 ∧ a2 ≤ 2) ∧ (0 ≤ a3 ∧ a3 ≤ 1) ∧ (8 - a1 ≤ n) ∧ (∀ (v : Int) (μ' : zM), zqq μ μ' → 0 ≤ v → v ≤ 1 → Q (some (.inl v)) μ')
def xk_X3_args (n : Nat) : zC := fun As μ Q => ∃ (a1 : Int) (a2 : Int), As = [.inr (.inr (50, 50)), .inl a1, .inl a2] ∧ (0 ≤ a1 ∧ a1 ≤ 8) ∧ (0 ≤ a2 ∧ a2 ≤ 1) ∧ (8 - a1 ≤ n) ∧ (∀ (v : Int) (μ' : zM), zqq μ μ' → (-1) ≤ v → v ≤ 300 → Q (some (.inl v)) μ')
def xk_X3_wild (n : Nat) : zC := fun As μ Q => ∃ (a1 : Int) (a2 : Int), As = [.inr (.inr (50, 50)), .inl a1, .inl a2] ∧ (0 ≤ a1 ∧ a1 ≤ 8) ∧ (0 ≤ a2 ∧ a2 ≤ 1) ∧ (8 - a1 ≤ n) ∧ (∀ (v : Int) (μ' : zM), zqq μ μ' → 0 ≤ v → v ≤ 1 → Q (some (.inl v)) μ')
set_option maxHeartbeats 4000000 in
theorem xm_X3_wild {g : zΓ} (hg : zg g) (n : Nat) (hT : ∀ d, 4 + 3 * n ≤ d → zOk g d 48 (xk_X3_type n)) (d : Nat) (hd : 5 + 3 * n ≤ d) : zOk g d 50 (xk_X3_wild n) := by
  obtain ⟨d, rfl⟩ : ∃ d', d = d' + 1 := ⟨d - 1, by omega⟩
  refine zOk_straight hg (show mt_tab[50]? = some mt_X3_wild from rfl) [] 59 rfl fun As μ Q hC => ?_
  obtain ⟨a1, a2, rfl, ha1, ha2, hp0, hQ⟩ := hC
  refine ⟨rfl, ?_⟩
  have z0 : zqq μ μ := zqq_r μ
  intro x1 hx1 kx1 lx1
  refine And.intro ⟨⟨by omega, by omega⟩, ⟨by omega, by omega⟩⟩ (And.intro (fun c2 => ?_) (fun c2 => ?_))
  · refine And.intro ⟨by omega, by omega⟩ (And.intro (fun c3 => ?_) (fun c3 => ?_))
    · refine ⟨xk_X5_step, xm_X5_step hg d (by omega), rfl, ?_⟩
      intro m4 qm4 p5
      have z6 := zqq_t z0 qm4
      have : m4.1 50 ((4 : Nat) : Int) = μ.1 50 ((4 : Nat) : Int) := congrFun (p5 50 (show (50 : Nat) ≠ 1 by omega) (show (50 : Nat) ≠ 5000001 by omega)) _
      intro x7 hx7 kx7 lx7
      refine And.intro ⟨⟨by omega, by omega⟩, ⟨by omega, by omega⟩⟩ (And.intro (fun c8 => ?_) (fun c8 => ?_))
      · refine And.intro ⟨by omega, by omega⟩ (And.intro (fun c9 => ?_) (fun c9 => ?_))
        · exfalso; omega
        · intro x10 hx10 kx10 lx10
          refine And.intro ⟨⟨by omega, by omega⟩, ⟨by omega, by omega⟩⟩ (And.intro (fun c11 => ?_) (fun c11 => ?_))
          · refine And.intro ⟨by omega, by omega⟩ (And.intro (fun c12 => ?_) (fun c12 => ?_))
            · refine ⟨xk_X3_tell, xm_X3_tell hg d (by omega), _, rfl, ⟨by omega, by omega⟩, (by omega), ?_⟩
              intro m13 qm13
              have z14 := zqq_t z6 qm13
              refine ⟨xk_X5_step, xm_X5_step hg d (by omega), rfl, ?_⟩
              intro m15 qm15 p16
              have z17 := zqq_t z14 qm15
              have : m15.1 50 ((4 : Nat) : Int) = m13.1 50 ((4 : Nat) : Int) := congrFun (p16 50 (show (50 : Nat) ≠ 1 by omega) (show (50 : Nat) ≠ 5000001 by omega)) _
              refine ⟨(xk_X3_type n), hT d (by omega), _, _, _, rfl, ⟨by omega, by omega⟩, ⟨by omega, by omega⟩, ⟨by omega, by omega⟩, (by omega), ?_⟩
              intro x18 m19 qm19 kx18 lx18
              have z20 := zqq_t z17 qm19
              exact And.intro (zrtb (by omega)) (And.intro ⟨by omega, by omega⟩ (hQ _ _ z20 (by omega) (by omega)))
            · exfalso; omega
          · refine ⟨xk_X3_tell, xm_X3_tell hg d (by omega), _, rfl, ⟨by omega, by omega⟩, (by omega), ?_⟩
            intro m21 qm21
            have z22 := zqq_t z6 qm21
            exact And.intro (zrtb (by omega)) (And.intro ⟨by omega, by omega⟩ (hQ _ _ z22 (by omega) (by omega)))
      · refine And.intro ⟨by omega, by omega⟩ (And.intro (fun c23 => ?_) (fun c23 => ?_))
        · refine And.intro ⟨by omega, by omega⟩ (And.intro (fun c24 => ?_) (fun c24 => ?_))
          · exfalso; omega
          · refine ⟨xk_X3_tell, xm_X3_tell hg d (by omega), _, rfl, ⟨by omega, by omega⟩, (by omega), ?_⟩
            intro m25 qm25
            have z26 := zqq_t z6 qm25
            refine ⟨xk_X5_step, xm_X5_step hg d (by omega), rfl, ?_⟩
            intro m27 qm27 p28
            have z29 := zqq_t z26 qm27
            have : m27.1 50 ((4 : Nat) : Int) = m25.1 50 ((4 : Nat) : Int) := congrFun (p28 50 (show (50 : Nat) ≠ 1 by omega) (show (50 : Nat) ≠ 5000001 by omega)) _
            refine ⟨(xk_X3_type n), hT d (by omega), _, _, _, rfl, ⟨by omega, by omega⟩, ⟨by omega, by omega⟩, ⟨by omega, by omega⟩, (by omega), ?_⟩
            intro x30 m31 qm31 kx30 lx30
            have z32 := zqq_t z29 qm31
            exact And.intro (zrtb (by omega)) (And.intro ⟨by omega, by omega⟩ (hQ _ _ z32 (by omega) (by omega)))
        · exfalso; omega
    · refine ⟨xk_X3_fail, xm_X3_fail hg d (by omega), _, rfl, ⟨by omega, by omega⟩, ?_⟩
      intro x33 m34 qm34 kx33 lx33
      have z35 := zqq_t z0 qm34
      exact And.intro (zrtb (by omega)) (And.intro ⟨by omega, by omega⟩ (hQ _ _ z35 (by omega) (by omega)))
  · refine ⟨xk_X3_fail, xm_X3_fail hg d (by omega), _, rfl, ⟨by omega, by omega⟩, ?_⟩
    intro x36 m37 qm37 kx36 lx36
    have z38 := zqq_t z0 qm37
    exact And.intro (zrtb (by omega)) (And.intro ⟨by omega, by omega⟩ (hQ _ _ z38 (by omega) (by omega)))
set_option maxHeartbeats 4000000 in
theorem xm_X3_args {g : zΓ} (hg : zg g) (n : Nat) (hT : ∀ d, 4 + 3 * n ≤ d → zOk g d 48 (xk_X3_type n)) (d : Nat) (hd : 6 + 3 * n ≤ d) : zOk g d 49 (xk_X3_args n) := by
  obtain ⟨d, rfl⟩ : ∃ d', d = d' + 1 := ⟨d - 1, by omega⟩
  refine zOk_loop hg (show mt_tab[49]? = some mt_X3_args from rfl) ([(2, [0, 1, 2, 3])], []) 67 rfl fun As μ Q hC => ?_
  obtain ⟨a1, a2, rfl, ha1, ha2, hp0, hQ⟩ := hC
  have z0 : zqq μ μ := zqq_r μ
  refine ⟨rfl, fun pc vs μ' n => ∃ (v1 : Int) (v2 : Int) (v3 : Int), vs = [.inr (.inr (50, 50)), .inl v1, .inl v2, .inl v3] ∧ zqq μ μ' ∧ (0 ≤ v1 ∧ v1 ≤ 8) ∧ (0 ≤ v2 ∧ v2 ≤ 1) ∧ (1 ≤ v3 ∧ v3 ≤ 301) ∧ (v1 = a1) ∧ n = (Int.toNat (2147483648 - v3)), ?_, ?_, trivial⟩
  · refine Exists.intro (Int.toNat (2147483648 - 1)) ?_
    exact ⟨_, _, _, rfl, z0, ⟨by omega, by omega⟩, ⟨by omega, by omega⟩, ⟨by omega, by omega⟩, (by omega), rfl⟩
  · intro vs m0 n hI
    clear z0
    obtain ⟨v1, v2, v3, rfl, z0, hv1, hv2, hv3, i0, rfl⟩ := hI
    refine And.intro ⟨⟨by omega, by omega⟩, ⟨by omega, by omega⟩⟩ (And.intro (fun c1 => ?_) (fun c1 => ?_))
    · refine ⟨xk_X3_fail, xm_X3_fail hg d (by omega), _, rfl, ⟨by omega, by omega⟩, ?_⟩
      intro x2 m3 qm3 kx2 lx2
      have z4 := zqq_t z0 qm3
      exact And.intro trivial (And.intro ⟨by omega, by omega⟩ (hQ _ _ z4 (by omega) (by omega)))
    · refine ⟨xk_X5_step, xm_X5_step hg d (by omega), rfl, ?_⟩
      intro m5 qm5 p6
      have z7 := zqq_t z0 qm5
      intro x8 hx8 kx8 lx8
      refine And.intro ⟨⟨by omega, by omega⟩, ⟨by omega, by omega⟩⟩ (And.intro (fun c9 => ?_) (fun c9 => ?_))
      · refine ⟨(xk_X3_type n), hT d (by omega), _, _, _, rfl, ⟨by omega, by omega⟩, ⟨by omega, by omega⟩, ⟨by omega, by omega⟩, (by omega), ?_⟩
        intro x10 m11 qm11 kx10 lx10
        have z12 := zqq_t z7 qm11
        refine And.intro ⟨by omega, by omega⟩ (And.intro (fun c13 => ?_) (fun c13 => ?_))
        · exact And.intro trivial (And.intro ⟨by omega, by omega⟩ (hQ _ _ z12 (by omega) (by omega)))
        · intro x14 hx14 kx14 lx14
          refine And.intro ⟨⟨by omega, by omega⟩, ⟨by omega, by omega⟩⟩ (And.intro (fun c15 => ?_) (fun c15 => ?_))
          · refine ⟨xk_X3_behindType, xm_X3_behindType hg d (by omega), _, rfl, ⟨by omega, by omega⟩, ?_⟩
            intro x16 m17 qm17 kx16 lx16
            have z18 := zqq_t z12 qm17
            refine And.intro ⟨by omega, by omega⟩ (And.intro (fun c19 => ?_) (fun c19 => ?_))
            · intro x20 hx20 kx20 lx20
              refine And.intro ⟨⟨by omega, by omega⟩, ⟨by omega, by omega⟩⟩ (And.intro (fun c21 => ?_) (fun c21 => ?_))
              · refine Exists.intro (Int.toNat (2147483648 - (v3 + 1))) (And.intro (by omega) ?_)
                exact ⟨_, _, _, rfl, z18, ⟨by omega, by omega⟩, ⟨by omega, by omega⟩, ⟨by omega, by omega⟩, (by omega), rfl⟩
              · refine ⟨xk_X5_step, xm_X5_step hg d (by omega), rfl, ?_⟩
                intro m22 qm22 p23
                have z24 := zqq_t z18 qm22
                exact And.intro trivial (And.intro ⟨by omega, by omega⟩ (hQ _ _ z24 (by omega) (by omega)))
            · exact And.intro trivial (And.intro ⟨by omega, by omega⟩ (hQ _ _ z18 (by omega) (by omega)))
          · intro x25 hx25 kx25 lx25
            refine And.intro ⟨⟨by omega, by omega⟩, ⟨by omega, by omega⟩⟩ (And.intro (fun c26 => ?_) (fun c26 => ?_))
            · refine ⟨xk_X3_behindType, xm_X3_behindType hg d (by omega), _, rfl, ⟨by omega, by omega⟩, ?_⟩
              intro x27 m28 qm28 kx27 lx27
              have z29 := zqq_t z12 qm28
              refine And.intro ⟨by omega, by omega⟩ (And.intro (fun c30 => ?_) (fun c30 => ?_))
              · intro x31 hx31 kx31 lx31
                refine And.intro ⟨⟨by omega, by omega⟩, ⟨by omega, by omega⟩⟩ (And.intro (fun c32 => ?_) (fun c32 => ?_))
                · refine Exists.intro (Int.toNat (2147483648 - (v3 + 1))) (And.intro (by omega) ?_)
                  exact ⟨_, _, _, rfl, z29, ⟨by omega, by omega⟩, ⟨by omega, by omega⟩, ⟨by omega, by omega⟩, (by omega), rfl⟩
                · refine ⟨xk_X5_step, xm_X5_step hg d (by omega), rfl, ?_⟩
                  intro m33 qm33 p34
                  have z35 := zqq_t z29 qm33
                  exact And.intro trivial (And.intro ⟨by omega, by omega⟩ (hQ _ _ z35 (by omega) (by omega)))
              · exact And.intro trivial (And.intro ⟨by omega, by omega⟩ (hQ _ _ z29 (by omega) (by omega)))
            · refine ⟨xk_X3_behindType, xm_X3_behindType hg d (by omega), _, rfl, ⟨by omega, by omega⟩, ?_⟩
              intro x36 m37 qm37 kx36 lx36
              have z38 := zqq_t z12 qm37
              refine And.intro ⟨by omega, by omega⟩ (And.intro (fun c39 => ?_) (fun c39 => ?_))
              · intro x40 hx40 kx40 lx40
                refine And.intro ⟨⟨by omega, by omega⟩, ⟨by omega, by omega⟩⟩ (And.intro (fun c41 => ?_) (fun c41 => ?_))
                · refine Exists.intro (Int.toNat (2147483648 - (v3 + 1))) (And.intro (by omega) ?_)
                  exact ⟨_, _, _, rfl, z38, ⟨by omega, by omega⟩, ⟨by omega, by omega⟩, ⟨by omega, by omega⟩, (by omega), rfl⟩
                · refine ⟨xk_X5_step, xm_X5_step hg d (by omega), rfl, ?_⟩
                  intro m42 qm42 p43
                  have z44 := zqq_t z38 qm42
                  exact And.intro trivial (And.intro ⟨by omega, by omega⟩ (hQ _ _ z44 (by omega) (by omega)))
              · exact And.intro trivial (And.intro ⟨by omega, by omega⟩ (hQ _ _ z38 (by omega) (by omega)))
      · refine ⟨(xk_X3_wild n), xm_X3_wild hg n hT d (by omega), _, _, rfl, ⟨by omega, by omega⟩, ⟨by omega, by omega⟩, (by omega), ?_⟩
        intro x45 m46 qm46 kx45 lx45
        have z47 := zqq_t z7 qm46
        refine And.intro ⟨by omega, by omega⟩ (And.intro (fun c48 => ?_) (fun c48 => ?_))
        · exact And.intro trivial (And.intro ⟨by omega, by omega⟩ (hQ _ _ z47 (by omega) (by omega)))
        · intro x49 hx49 kx49 lx49
          refine And.intro ⟨⟨by omega, by omega⟩, ⟨by omega, by omega⟩⟩ (And.intro (fun c50 => ?_) (fun c50 => ?_))
          · refine ⟨xk_X3_behindType, xm_X3_behindType hg d (by omega), _, rfl, ⟨by omega, by omega⟩, ?_⟩
            intro x51 m52 qm52 kx51 lx51
            have z53 := zqq_t z47 qm52
            refine And.intro ⟨by omega, by omega⟩ (And.intro (fun c54 => ?_) (fun c54 => ?_))
            · intro x55 hx55 kx55 lx55
              refine And.intro ⟨⟨by omega, by omega⟩, ⟨by omega, by omega⟩⟩ (And.intro (fun c56 => ?_) (fun c56 => ?_))
              · refine Exists.intro (Int.toNat (2147483648 - (v3 + 1))) (And.intro (by omega) ?_)
                exact ⟨_, _, _, rfl, z53, ⟨by omega, by omega⟩, ⟨by omega, by omega⟩, ⟨by omega, by omega⟩, (by omega), rfl⟩
              · refine ⟨xk_X5_step, xm_X5_step hg d (by omega), rfl, ?_⟩
                intro m57 qm57 p58
                have z59 := zqq_t z53 qm57
                exact And.intro trivial (And.intro ⟨by omega, by omega⟩ (hQ _ _ z59 (by omega) (by omega)))
            · exact And.intro trivial (And.intro ⟨by omega, by omega⟩ (hQ _ _ z53 (by omega) (by omega)))
          · intro x60 hx60 kx60 lx60
            refine And.intro ⟨⟨by omega, by omega⟩, ⟨by omega, by omega⟩⟩ (And.intro (fun c61 => ?_) (fun c61 => ?_))
            · refine ⟨xk_X3_behindType, xm_X3_behindType hg d (by omega), _, rfl, ⟨by omega, by omega⟩, ?_⟩
              intro x62 m63 qm63 kx62 lx62
              have z64 := zqq_t z47 qm63
              refine And.intro ⟨by omega, by omega⟩ (And.intro (fun c65 => ?_) (fun c65 => ?_))
              · intro x66 hx66 kx66 lx66
                refine And.intro ⟨⟨by omega, by omega⟩, ⟨by omega, by omega⟩⟩ (And.intro (fun c67 => ?_) (fun c67 => ?_))
                · refine Exists.intro (Int.toNat (2147483648 - (v3 + 1))) (And.intro (by omega) ?_)
                  exact ⟨_, _, _, rfl, z64, ⟨by omega, by omega⟩, ⟨by omega, by omega⟩, ⟨by omega, by omega⟩, (by omega), rfl⟩
                · refine ⟨xk_X5_step, xm_X5_step hg d (by omega), rfl, ?_⟩
                  intro m68 qm68 p69
                  have z70 := zqq_t z64 qm68
                  exact And.intro trivial (And.intro ⟨by omega, by omega⟩ (hQ _ _ z70 (by omega) (by omega)))
              · exact And.intro trivial (And.intro ⟨by omega, by omega⟩ (hQ _ _ z64 (by omega) (by omega)))
            · refine ⟨xk_X3_behindType, xm_X3_behindType hg d (by omega), _, rfl, ⟨by omega, by omega⟩, ?_⟩
              intro x71 m72 qm72 kx71 lx71
              have z73 := zqq_t z47 qm72
              refine And.intro ⟨by omega, by omega⟩ (And.intro (fun c74 => ?_) (fun c74 => ?_))
              · intro x75 hx75 kx75 lx75
                refine And.intro ⟨⟨by omega, by omega⟩, ⟨by omega, by omega⟩⟩ (And.intro (fun c76 => ?_) (fun c76 => ?_))
                · refine Exists.intro (Int.toNat (2147483648 - (v3 + 1))) (And.intro (by omega) ?_)
                  exact ⟨_, _, _, rfl, z73, ⟨by omega, by omega⟩, ⟨by omega, by omega⟩, ⟨by omega, by omega⟩, (by omega), rfl⟩
                · refine ⟨xk_X5_step, xm_X5_step hg d (by omega), rfl, ?_⟩
                  intro m77 qm77 p78
                  have z79 := zqq_t z73 qm77
                  exact And.intro trivial (And.intro ⟨by omega, by omega⟩ (hQ _ _ z79 (by omega) (by omega)))
              · exact And.intro trivial (And.intro ⟨by omega, by omega⟩ (hQ _ _ z73 (by omega) (by omega)))
set_option maxHeartbeats 4000000 in
theorem xm_X3_type {g : zΓ} (hg : zg g) (n : Nat) (hA : ∀ k, n = k + 1 → ∀ d, 6 + 3 * k ≤ d → zOk g d 49 (xk_X3_args k)) (d : Nat) (hd : 4 + 3 * n ≤ d) : zOk g d 48 (xk_X3_type n) := by
  obtain ⟨d, rfl⟩ : ∃ d', d = d' + 1 := ⟨d - 1, by omega⟩
  refine zOk_straight hg (show mt_tab[48]? = some mt_X3_type from rfl) [] 106 rfl fun As μ Q hC => ?_
  obtain ⟨a1, a2, a3, rfl, ha1, ha2, ha3, hp0, hQ⟩ := hC
  refine ⟨rfl, ?_⟩
  have z0 : zqq μ μ := zqq_r μ
  intro x1 hx1 kx1 lx1
  refine And.intro ⟨⟨by omega, by omega⟩, ⟨by omega, by omega⟩⟩ (And.intro (fun c2 => ?_) (fun c2 => ?_))
  · intro t3 et3 ht3
    intro x4 hx4 kx4 lx4
    intro j5 hj5
    refine And.intro ht3.1 ⟨zk_X4_headOf, zm_X4_headOf hg d (by omega), _, _, _, rfl, ht3.1, ⟨by omega, by omega⟩, ?_⟩
    intro x6 kx6 lx6
    refine And.intro ⟨by omega, by omega⟩ (And.intro (fun c7 => ?_) (fun c7 => ?_))
    · refine And.intro ⟨by omega, by omega⟩ (And.intro (fun c8 => ?_) (fun c8 => ?_))
      · refine ⟨xk_X3_fail, xm_X3_fail hg d (by omega), _, rfl, ⟨by omega, by omega⟩, ?_⟩
        intro x9 m10 qm10 kx9 lx9
        have z11 := zqq_t z0 qm10
        exact And.intro (zrtb (by omega)) (And.intro ⟨by omega, by omega⟩ (hQ _ _ z11 (by omega) (by omega)))
      · refine And.intro ⟨⟨by omega, by omega⟩, ⟨by omega, by omega⟩⟩ (And.intro (fun c12 => ?_) (fun c12 => ?_))
        · refine ⟨xk_X3_fail, xm_X3_fail hg d (by omega), _, rfl, ⟨by omega, by omega⟩, ?_⟩
          intro x13 m14 qm14 kx13 lx13
          have z15 := zqq_t z0 qm14
          exact And.intro (zrtb (by omega)) (And.intro ⟨by omega, by omega⟩ (hQ _ _ z15 (by omega) (by omega)))
        · intro x16 hx16 kx16 lx16
          refine And.intro ⟨⟨by omega, by omega⟩, ⟨by omega, by omega⟩⟩ (And.intro (fun c17 => ?_) (fun c17 => ?_))
          · refine And.intro ⟨by omega, by omega⟩ (And.intro (fun c18 => ?_) (fun c18 => ?_))
            · refine And.intro ⟨⟨by omega, by omega⟩, ⟨by omega, by omega⟩⟩ (And.intro (fun c19 => ?_) (fun c19 => ?_))
              · refine ⟨xk_X3_tell, xm_X3_tell hg d (by omega), _, rfl, ⟨by omega, by omega⟩, (by omega), ?_⟩
                intro m20 qm20
                have z21 := zqq_t z0 qm20
                refine ⟨xk_X5_step, xm_X5_step hg d (by omega), rfl, ?_⟩
                intro m22 qm22 p23
                have z24 := zqq_t z21 qm22
                refine ⟨zk_X5_opensArgs, zm_X5_opensArgs hg d (by omega), rfl, ?_⟩
                intro x25 kx25 lx25
                refine And.intro ⟨by omega, by omega⟩ (And.intro (fun c26 => ?_) (fun c26 => ?_))
                · intro t27 et27 ht27
                  refine And.intro ht27.1 ⟨zk_X4_arity, zm_X4_arity hg d (by omega), _, _, rfl, ht27.1, ⟨by omega, by omega⟩, ?_⟩
                  intro x28 kx28 lx28
                  refine And.intro ⟨⟨by omega, by omega⟩, ⟨by omega, by omega⟩⟩ (And.intro (fun c29 => ?_) (fun c29 => ?_))
                  · refine And.intro ⟨by omega, by omega⟩ ?_
                    intro m30 em30
                    have z31 := zqq_t z24 (zqq_u em30 (Or.inl (by decide)) (Or.inl ⟨by decide, by decide⟩))
                    exact And.intro (zrtb (by omega)) (And.intro ⟨by omega, by omega⟩ (hQ _ _ z31 (by omega) (by omega)))
                  · refine And.intro ⟨by omega, by omega⟩ ?_
                    intro m32 em32
                    have z33 := zqq_t z24 (zqq_u em32 (Or.inl (by decide)) (Or.inl ⟨by decide, by decide⟩))
                    exact And.intro (zrtb (by omega)) (And.intro ⟨by omega, by omega⟩ (hQ _ _ z33 (by omega) (by omega)))
                · refine ⟨zk_X8_isParameter, zm_X8_isParameter hg d (by omega), _, rfl, ⟨by omega, by omega⟩, ?_⟩
                  intro x34 kx34 lx34
                  refine And.intro ⟨by omega, by omega⟩ (And.intro (fun c35 => ?_) (fun c35 => ?_))
                  · refine And.intro ⟨⟨by omega, by omega⟩, ⟨by omega, by omega⟩⟩ (And.intro (fun c36 => ?_) (fun c36 => ?_))
                    · obtain ⟨k, hk⟩ : ∃ k, n = k + 1 := ⟨n - 1, by omega⟩
                      refine ⟨(xk_X3_args k), hA k hk d (by omega), _, _, rfl, ⟨by omega, by omega⟩, ⟨by omega, by omega⟩, (by omega), ?_⟩
                      intro x37 m38 qm38 kx37 lx37
                      have z39 := zqq_t z24 qm38
                      refine And.intro ⟨by omega, by omega⟩ (And.intro (fun c40 => ?_) (fun c40 => ?_))
                      · intro t41 et41 ht41
                        refine And.intro ht41.1 ⟨zk_X4_arity, zm_X4_arity hg d (by omega), _, _, rfl, ht41.1, ⟨by omega, by omega⟩, ?_⟩
                        intro x42 kx42 lx42
                        refine And.intro ⟨⟨by omega, by omega⟩, ⟨by omega, by omega⟩⟩ (And.intro (fun c43 => ?_) (fun c43 => ?_))
                        · refine And.intro ⟨by omega, by omega⟩ ?_
                          intro m44 em44
                          have z45 := zqq_t z39 (zqq_u em44 (Or.inl (by decide)) (Or.inl ⟨by decide, by decide⟩))
                          exact And.intro (zrtb (by omega)) (And.intro ⟨by omega, by omega⟩ (hQ _ _ z45 (by omega) (by omega)))
                        · refine And.intro ⟨by omega, by omega⟩ ?_
                          intro m46 em46
                          have z47 := zqq_t z39 (zqq_u em46 (Or.inl (by decide)) (Or.inl ⟨by decide, by decide⟩))
                          exact And.intro (zrtb (by omega)) (And.intro ⟨by omega, by omega⟩ (hQ _ _ z47 (by omega) (by omega)))
                      · exact And.intro (zrtb (by omega)) (And.intro ⟨by omega, by omega⟩ (hQ _ _ z39 (by omega) (by omega)))
                    · exfalso; omega
                  · refine ⟨xk_X3_fail, xm_X3_fail hg d (by omega), _, rfl, ⟨by omega, by omega⟩, ?_⟩
                    intro x48 m49 qm49 kx48 lx48
                    have z50 := zqq_t z24 qm49
                    exact And.intro (zrtb (by omega)) (And.intro ⟨by omega, by omega⟩ (hQ _ _ z50 (by omega) (by omega)))
              · exfalso; omega
            · refine ⟨zk_X8_isParameter, zm_X8_isParameter hg d (by omega), _, rfl, ⟨by omega, by omega⟩, ?_⟩
              intro x51 kx51 lx51
              refine And.intro ⟨by omega, by omega⟩ (And.intro (fun c52 => ?_) (fun c52 => ?_))
              · refine ⟨xk_X3_fail, xm_X3_fail hg d (by omega), _, rfl, ⟨by omega, by omega⟩, ?_⟩
                intro x53 m54 qm54 kx53 lx53
                have z55 := zqq_t z0 qm54
                exact And.intro (zrtb (by omega)) (And.intro ⟨by omega, by omega⟩ (hQ _ _ z55 (by omega) (by omega)))
              · refine And.intro ⟨⟨by omega, by omega⟩, ⟨by omega, by omega⟩⟩ (And.intro (fun c56 => ?_) (fun c56 => ?_))
                · refine ⟨xk_X3_tell, xm_X3_tell hg d (by omega), _, rfl, ⟨by omega, by omega⟩, (by omega), ?_⟩
                  intro m57 qm57
                  have z58 := zqq_t z0 qm57
                  refine ⟨xk_X5_step, xm_X5_step hg d (by omega), rfl, ?_⟩
                  intro m59 qm59 p60
                  have z61 := zqq_t z58 qm59
                  refine ⟨zk_X5_opensArgs, zm_X5_opensArgs hg d (by omega), rfl, ?_⟩
                  intro x62 kx62 lx62
                  refine And.intro ⟨by omega, by omega⟩ (And.intro (fun c63 => ?_) (fun c63 => ?_))
                  · intro t64 et64 ht64
                    refine And.intro ht64.1 ⟨zk_X4_arity, zm_X4_arity hg d (by omega), _, _, rfl, ht64.1, ⟨by omega, by omega⟩, ?_⟩
                    intro x65 kx65 lx65
                    refine And.intro ⟨⟨by omega, by omega⟩, ⟨by omega, by omega⟩⟩ (And.intro (fun c66 => ?_) (fun c66 => ?_))
                    · refine And.intro ⟨by omega, by omega⟩ ?_
                      intro m67 em67
                      have z68 := zqq_t z61 (zqq_u em67 (Or.inl (by decide)) (Or.inl ⟨by decide, by decide⟩))
                      exact And.intro (zrtb (by omega)) (And.intro ⟨by omega, by omega⟩ (hQ _ _ z68 (by omega) (by omega)))
                    · refine And.intro ⟨by omega, by omega⟩ ?_
                      intro m69 em69
                      have z70 := zqq_t z61 (zqq_u em69 (Or.inl (by decide)) (Or.inl ⟨by decide, by decide⟩))
                      exact And.intro (zrtb (by omega)) (And.intro ⟨by omega, by omega⟩ (hQ _ _ z70 (by omega) (by omega)))
                  · refine ⟨zk_X8_isParameter, zm_X8_isParameter hg d (by omega), _, rfl, ⟨by omega, by omega⟩, ?_⟩
                    intro x71 kx71 lx71
                    refine And.intro ⟨by omega, by omega⟩ (And.intro (fun c72 => ?_) (fun c72 => ?_))
                    · refine And.intro ⟨⟨by omega, by omega⟩, ⟨by omega, by omega⟩⟩ (And.intro (fun c73 => ?_) (fun c73 => ?_))
                      · obtain ⟨k, hk⟩ : ∃ k, n = k + 1 := ⟨n - 1, by omega⟩
                        refine ⟨(xk_X3_args k), hA k hk d (by omega), _, _, rfl, ⟨by omega, by omega⟩, ⟨by omega, by omega⟩, (by omega), ?_⟩
                        intro x74 m75 qm75 kx74 lx74
                        have z76 := zqq_t z61 qm75
                        refine And.intro ⟨by omega, by omega⟩ (And.intro (fun c77 => ?_) (fun c77 => ?_))
                        · intro t78 et78 ht78
                          refine And.intro ht78.1 ⟨zk_X4_arity, zm_X4_arity hg d (by omega), _, _, rfl, ht78.1, ⟨by omega, by omega⟩, ?_⟩
                          intro x79 kx79 lx79
                          refine And.intro ⟨⟨by omega, by omega⟩, ⟨by omega, by omega⟩⟩ (And.intro (fun c80 => ?_) (fun c80 => ?_))
                          · refine And.intro ⟨by omega, by omega⟩ ?_
                            intro m81 em81
                            have z82 := zqq_t z76 (zqq_u em81 (Or.inl (by decide)) (Or.inl ⟨by decide, by decide⟩))
                            exact And.intro (zrtb (by omega)) (And.intro ⟨by omega, by omega⟩ (hQ _ _ z82 (by omega) (by omega)))
                          · refine And.intro ⟨by omega, by omega⟩ ?_
                            intro m83 em83
                            have z84 := zqq_t z76 (zqq_u em83 (Or.inl (by decide)) (Or.inl ⟨by decide, by decide⟩))
                            exact And.intro (zrtb (by omega)) (And.intro ⟨by omega, by omega⟩ (hQ _ _ z84 (by omega) (by omega)))
                        · exact And.intro (zrtb (by omega)) (And.intro ⟨by omega, by omega⟩ (hQ _ _ z76 (by omega) (by omega)))
                      · obtain ⟨k, hk⟩ : ∃ k, n = k + 1 := ⟨n - 1, by omega⟩
                        refine ⟨(xk_X3_args k), hA k hk d (by omega), _, _, rfl, ⟨by omega, by omega⟩, ⟨by omega, by omega⟩, (by omega), ?_⟩
                        intro x85 m86 qm86 kx85 lx85
                        have z87 := zqq_t z61 qm86
                        refine And.intro ⟨by omega, by omega⟩ (And.intro (fun c88 => ?_) (fun c88 => ?_))
                        · intro t89 et89 ht89
                          refine And.intro ht89.1 ⟨zk_X4_arity, zm_X4_arity hg d (by omega), _, _, rfl, ht89.1, ⟨by omega, by omega⟩, ?_⟩
                          intro x90 kx90 lx90
                          refine And.intro ⟨⟨by omega, by omega⟩, ⟨by omega, by omega⟩⟩ (And.intro (fun c91 => ?_) (fun c91 => ?_))
                          · refine And.intro ⟨by omega, by omega⟩ ?_
                            intro m92 em92
                            have z93 := zqq_t z87 (zqq_u em92 (Or.inl (by decide)) (Or.inl ⟨by decide, by decide⟩))
                            exact And.intro (zrtb (by omega)) (And.intro ⟨by omega, by omega⟩ (hQ _ _ z93 (by omega) (by omega)))
                          · refine And.intro ⟨by omega, by omega⟩ ?_
                            intro m94 em94
                            have z95 := zqq_t z87 (zqq_u em94 (Or.inl (by decide)) (Or.inl ⟨by decide, by decide⟩))
                            exact And.intro (zrtb (by omega)) (And.intro ⟨by omega, by omega⟩ (hQ _ _ z95 (by omega) (by omega)))
                        · exact And.intro (zrtb (by omega)) (And.intro ⟨by omega, by omega⟩ (hQ _ _ z87 (by omega) (by omega)))
                    · refine ⟨xk_X3_fail, xm_X3_fail hg d (by omega), _, rfl, ⟨by omega, by omega⟩, ?_⟩
                      intro x96 m97 qm97 kx96 lx96
                      have z98 := zqq_t z61 qm97
                      exact And.intro (zrtb (by omega)) (And.intro ⟨by omega, by omega⟩ (hQ _ _ z98 (by omega) (by omega)))
                · intro x99 hx99 kx99 lx99
                  refine And.intro ⟨⟨by omega, by omega⟩, ⟨by omega, by omega⟩⟩ (And.intro (fun c100 => ?_) (fun c100 => ?_))
                  · refine ⟨xk_X3_tell, xm_X3_tell hg d (by omega), _, rfl, ⟨by omega, by omega⟩, (by omega), ?_⟩
                    intro m101 qm101
                    have z102 := zqq_t z0 qm101
                    refine ⟨xk_X5_step, xm_X5_step hg d (by omega), rfl, ?_⟩
                    intro m103 qm103 p104
                    have z105 := zqq_t z102 qm103
                    refine ⟨zk_X5_opensArgs, zm_X5_opensArgs hg d (by omega), rfl, ?_⟩
                    intro x106 kx106 lx106
                    refine And.intro ⟨by omega, by omega⟩ (And.intro (fun c107 => ?_) (fun c107 => ?_))
                    · intro t108 et108 ht108
                      refine And.intro ht108.1 ⟨zk_X4_arity, zm_X4_arity hg d (by omega), _, _, rfl, ht108.1, ⟨by omega, by omega⟩, ?_⟩
                      intro x109 kx109 lx109
                      refine And.intro ⟨⟨by omega, by omega⟩, ⟨by omega, by omega⟩⟩ (And.intro (fun c110 => ?_) (fun c110 => ?_))
                      · refine And.intro ⟨by omega, by omega⟩ ?_
                        intro m111 em111
                        have z112 := zqq_t z105 (zqq_u em111 (Or.inl (by decide)) (Or.inl ⟨by decide, by decide⟩))
                        exact And.intro (zrtb (by omega)) (And.intro ⟨by omega, by omega⟩ (hQ _ _ z112 (by omega) (by omega)))
                      · refine And.intro ⟨by omega, by omega⟩ ?_
                        intro m113 em113
                        have z114 := zqq_t z105 (zqq_u em113 (Or.inl (by decide)) (Or.inl ⟨by decide, by decide⟩))
                        exact And.intro (zrtb (by omega)) (And.intro ⟨by omega, by omega⟩ (hQ _ _ z114 (by omega) (by omega)))
                    · refine ⟨zk_X8_isParameter, zm_X8_isParameter hg d (by omega), _, rfl, ⟨by omega, by omega⟩, ?_⟩
                      intro x115 kx115 lx115
                      refine And.intro ⟨by omega, by omega⟩ (And.intro (fun c116 => ?_) (fun c116 => ?_))
                      · refine And.intro ⟨⟨by omega, by omega⟩, ⟨by omega, by omega⟩⟩ (And.intro (fun c117 => ?_) (fun c117 => ?_))
                        · exfalso; omega
                        · obtain ⟨k, hk⟩ : ∃ k, n = k + 1 := ⟨n - 1, by omega⟩
                          refine ⟨(xk_X3_args k), hA k hk d (by omega), _, _, rfl, ⟨by omega, by omega⟩, ⟨by omega, by omega⟩, (by omega), ?_⟩
                          intro x118 m119 qm119 kx118 lx118
                          have z120 := zqq_t z105 qm119
                          refine And.intro ⟨by omega, by omega⟩ (And.intro (fun c121 => ?_) (fun c121 => ?_))
                          · intro t122 et122 ht122
                            refine And.intro ht122.1 ⟨zk_X4_arity, zm_X4_arity hg d (by omega), _, _, rfl, ht122.1, ⟨by omega, by omega⟩, ?_⟩
                            intro x123 kx123 lx123
                            refine And.intro ⟨⟨by omega, by omega⟩, ⟨by omega, by omega⟩⟩ (And.intro (fun c124 => ?_) (fun c124 => ?_))
                            · refine And.intro ⟨by omega, by omega⟩ ?_
                              intro m125 em125
                              have z126 := zqq_t z120 (zqq_u em125 (Or.inl (by decide)) (Or.inl ⟨by decide, by decide⟩))
                              exact And.intro (zrtb (by omega)) (And.intro ⟨by omega, by omega⟩ (hQ _ _ z126 (by omega) (by omega)))
                            · refine And.intro ⟨by omega, by omega⟩ ?_
                              intro m127 em127
                              have z128 := zqq_t z120 (zqq_u em127 (Or.inl (by decide)) (Or.inl ⟨by decide, by decide⟩))
                              exact And.intro (zrtb (by omega)) (And.intro ⟨by omega, by omega⟩ (hQ _ _ z128 (by omega) (by omega)))
                          · exact And.intro (zrtb (by omega)) (And.intro ⟨by omega, by omega⟩ (hQ _ _ z120 (by omega) (by omega)))
                      · refine ⟨xk_X3_fail, xm_X3_fail hg d (by omega), _, rfl, ⟨by omega, by omega⟩, ?_⟩
                        intro x129 m130 qm130 kx129 lx129
                        have z131 := zqq_t z105 qm130
                        exact And.intro (zrtb (by omega)) (And.intro ⟨by omega, by omega⟩ (hQ _ _ z131 (by omega) (by omega)))
                  · refine ⟨xk_X3_fail, xm_X3_fail hg d (by omega), _, rfl, ⟨by omega, by omega⟩, ?_⟩
                    intro x132 m133 qm133 kx132 lx132
                    have z134 := zqq_t z0 qm133
                    exact And.intro (zrtb (by omega)) (And.intro ⟨by omega, by omega⟩ (hQ _ _ z134 (by omega) (by omega)))
          · refine ⟨xk_X3_fail, xm_X3_fail hg d (by omega), _, rfl, ⟨by omega, by omega⟩, ?_⟩
            intro x135 m136 qm136 kx135 lx135
            have z137 := zqq_t z0 qm136
            exact And.intro (zrtb (by omega)) (And.intro ⟨by omega, by omega⟩ (hQ _ _ z137 (by omega) (by omega)))
    · refine ⟨xk_X3_fail, xm_X3_fail hg d (by omega), _, rfl, ⟨by omega, by omega⟩, ?_⟩
      intro x138 m139 qm139 kx138 lx138
      have z140 := zqq_t z0 qm139
      exact And.intro (zrtb (by omega)) (And.intro ⟨by omega, by omega⟩ (hQ _ _ z140 (by omega) (by omega)))
  · refine ⟨xk_X3_fail, xm_X3_fail hg d (by omega), _, rfl, ⟨by omega, by omega⟩, ?_⟩
    intro x141 m142 qm142 kx141 lx141
    have z143 := zqq_t z0 qm142
    exact And.intro (zrtb (by omega)) (And.intro ⟨by omega, by omega⟩ (hQ _ _ z143 (by omega) (by omega)))
theorem xm_X3_typeN {g : zΓ} (hg : zg g) : ∀ (n d : Nat), 4 + 3 * n ≤ d → zOk g d 48 (xk_X3_type n)
  | 0, d, hd => xm_X3_type hg 0 (fun k hk => by omega) d hd
  | n + 1, d, hd => xm_X3_type hg (n + 1) (fun k hk d' hd' => by
      have e : k = n := by omega
      subst e
      exact xm_X3_args hg k (xm_X3_typeN hg k) d' hd') d hd
