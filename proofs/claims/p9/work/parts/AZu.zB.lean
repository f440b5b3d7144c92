/-! ### what is written leaves the tape alone -/
def xk_X2_write : zC := fun As μ Q => ∃ (a1 : Int), As = [.inr (.inr (10, 10)), .inl a1] ∧ ((-2147483648) ≤ a1 ∧ a1 ≤ 2147483647) ∧ (∀ (μ' : zM), zq0 μ μ' → (μ'.1 1 ((4 : Nat) : Int) = μ.1 1 ((4 : Nat) : Int)) → Q none μ')
set_option maxHeartbeats 4000000 in
theorem xm_X2_write {g : zΓ} (hg : zg g) (d : Nat) (hd : 2 ≤ d) : zOk g d 35 xk_X2_write := by
  obtain ⟨d, rfl⟩ : ∃ d', d = d' + 1 := ⟨d - 1, by omega⟩
  refine zOk_straight hg (show mt_tab[35]? = some mt_X2_write from rfl) [] 22 rfl fun As μ Q hC => ?_
  obtain ⟨a1, rfl, ha1, hQ⟩ := hC
  refine ⟨rfl, ?_⟩
  have z0 : zq0 μ μ := zq0_r μ
  intro x1 hx1 kx1 lx1
  refine And.intro ⟨⟨by omega, by omega⟩, ⟨by omega, by omega⟩⟩ (And.intro (fun c2 => ?_) (fun c2 => ?_))
  · exact And.intro rfl (hQ _ z0 (by omega))
  · intro x3 hx3 kx3 lx3
    refine ⟨zk_X8_set, zm_X8_set hg d (by omega), _, _, _, _, rfl, ⟨by omega, by omega⟩, ?_⟩
    refine And.intro ⟨by omega, by omega⟩ ?_
    intro m4 qm4 fm4 gm4
    have z5 := zq0_t z0 (zq0_s qm4 fm4 gm4 (by decide))
    have : m4.1 10 ((3 : Nat) : Int) = μ.1 10 ((3 : Nat) : Int) := congrFun (fm4 10 (show (10 : Nat) ≠ 11 by omega)) _
    have : m4.1 1 ((4 : Nat) : Int) = μ.1 1 ((4 : Nat) : Int) := congrFun (fm4 1 (show (1 : Nat) ≠ 11 by omega)) _
    intro x6 hx6 kx6 lx6
    refine And.intro ⟨by omega, by omega⟩ ?_
    intro m7 em7
    have z8 := zq0_t z5 (zq0_u em7 (Or.inl (by decide)) (Or.inl ⟨by decide, by decide⟩))
    have : m7.1 10 ((3 : Nat) : Int) = (x6 + 1) := by rw [em7]; exact zu_at
    have : m7.1 1 ((4 : Nat) : Int) = m4.1 1 ((4 : Nat) : Int) := by rw [em7]; exact congrFun (zu_ne (show (1 : Nat) ≠ 10 by omega)) _
    exact And.intro rfl (hQ _ z8 (by omega))
def xk_X2_writeName : zC := fun As μ Q => ∃ (a1 : Int64), As = [.inr (.inr (10, 10)), .inr (.inl a1)] ∧ (∀ (μ' : zM), zq0 μ μ' → (μ'.1 1 ((4 : Nat) : Int) = μ.1 1 ((4 : Nat) : Int)) → Q none μ')
set_option maxHeartbeats 4000000 in
theorem xm_X2_writeName {g : zΓ} (hg : zg g) (d : Nat) (hd : 3 ≤ d) : zOk g d 33 xk_X2_writeName := by
  obtain ⟨d, rfl⟩ : ∃ d', d = d' + 1 := ⟨d - 1, by omega⟩
  refine zOk_loop hg (show mt_tab[33]? = some mt_X2_writeName from rfl) ([(3, [0, 1, 3])], []) 26 rfl fun As μ Q hC => ?_
  obtain ⟨a1, rfl, hQ⟩ := hC
  have z0 : zq0 μ μ := zq0_r μ
  refine ⟨rfl, fun pc vs μ' n => ∃ (v1 : Int64) (v3 : Int), vs = [.inr (.inr (10, 10)), .inr (.inl v1), .inl v3] ∧ zq0 μ μ' ∧ ((-1) ≤ v3 ∧ v3 ≤ 7) ∧ (μ'.1 1 ((4 : Nat) : Int) = μ.1 1 ((4 : Nat) : Int)) ∧ n = (Int.toNat (v3 + 1)), ?_, ?_, trivial⟩
  · refine Exists.intro (Int.toNat (7 + 1)) ?_
    exact ⟨_, _, rfl, z0, ⟨by omega, by omega⟩, (by omega), rfl⟩
  · intro vs m0 n hI
    clear z0
    obtain ⟨v1, v3, rfl, z0, hv3, i0, rfl⟩ := hI
    refine And.intro ⟨by omega, by omega⟩ (And.intro (fun c1 => ?_) (fun c1 => ?_))
    · exact And.intro rfl (hQ _ z0 (by omega))
    · intro x2 hx2 kx2 lx2
      intro x3 hx3 kx3 lx3
      refine And.intro ⟨by omega, by omega⟩ (And.intro (fun c4 => ?_) (fun c4 => ?_))
      · refine Exists.intro (Int.toNat ((v3 + (-1)) + 1)) (And.intro (by omega) ?_)
        exact ⟨_, _, rfl, z0, ⟨by omega, by omega⟩, (by omega), rfl⟩
      · refine ⟨xk_X2_write, xm_X2_write hg d (by omega), _, rfl, ⟨by omega, by omega⟩, ?_⟩
        intro m5 qm5 p6
        have z7 := zq0_t z0 qm5
        have : m5.1 1 ((4 : Nat) : Int) = m0.1 1 ((4 : Nat) : Int) := p6
        refine Exists.intro (Int.toNat ((v3 + (-1)) + 1)) (And.intro (by omega) ?_)
        exact ⟨_, _, rfl, z7, ⟨by omega, by omega⟩, (by omega), rfl⟩
def xk_X2_writeNumber : zC := fun As μ Q => ∃ (a1 : Int), As = [.inr (.inr (10, 10)), .inl a1] ∧ ((-2147483648) ≤ a1 ∧ a1 ≤ 2147483647) ∧ (∀ (μ' : zM), zq0 μ μ' → (μ'.1 1 ((4 : Nat) : Int) = μ.1 1 ((4 : Nat) : Int)) → Q none μ')
set_option maxHeartbeats 4000000 in
theorem xm_X2_writeNumber {g : zΓ} (hg : zg g) (d : Nat) (hd : 3 ≤ d) : zOk g d 34 xk_X2_writeNumber := by
  obtain ⟨d, rfl⟩ : ∃ d', d = d' + 1 := ⟨d - 1, by omega⟩
  refine zOk_straight hg (show mt_tab[34]? = some mt_X2_writeNumber from rfl) [13, 33, 44] 35 rfl fun As μ Q hC => ?_
  obtain ⟨a1, rfl, ha1, hQ⟩ := hC
  refine ⟨rfl, ?_⟩
  have z0 : zq0 μ μ := zq0_r μ
  refine And.intro ⟨⟨by omega, by omega⟩, ⟨by omega, by omega⟩⟩ (And.intro (fun c1 => ?_) (fun c1 => ?_))
  · refine And.intro ⟨⟨by omega, by omega⟩, ⟨by omega, by omega⟩⟩ (And.intro (fun c2 => ?_) (fun c2 => ?_))
    · refine And.intro ⟨⟨by omega, by omega⟩, by omega⟩ ?_
      intro x3 hx3 kx3 lx3
      intro x4 hx4 kx4 lx4
      refine ⟨xk_X2_write, xm_X2_write hg d (by omega), _, rfl, ⟨by omega, by omega⟩, ?_⟩
      intro m5 qm5 p6
      have z7 := zq0_t z0 qm5
      have : m5.1 1 ((4 : Nat) : Int) = μ.1 1 ((4 : Nat) : Int) := p6
      exact And.intro rfl (hQ _ z7 (by omega))
    · refine And.intro ⟨⟨by omega, by omega⟩, by omega⟩ ?_
      intro x8 hx8 kx8 lx8
      refine And.intro ⟨⟨by omega, by omega⟩, by omega⟩ ?_
      intro x9 hx9 kx9 lx9
      intro x10 hx10 kx10 lx10
      refine ⟨xk_X2_write, xm_X2_write hg d (by omega), _, rfl, ⟨by omega, by omega⟩, ?_⟩
      intro m11 qm11 p12
      have z13 := zq0_t z0 qm11
      have : m11.1 1 ((4 : Nat) : Int) = μ.1 1 ((4 : Nat) : Int) := p12
      refine And.intro ⟨⟨by omega, by omega⟩, by omega⟩ ?_
      intro x14 hx14 kx14 lx14
      intro x15 hx15 kx15 lx15
      refine ⟨xk_X2_write, xm_X2_write hg d (by omega), _, rfl, ⟨by omega, by omega⟩, ?_⟩
      intro m16 qm16 p17
      have z18 := zq0_t z13 qm16
      have : m16.1 1 ((4 : Nat) : Int) = m11.1 1 ((4 : Nat) : Int) := p17
      exact And.intro rfl (hQ _ z18 (by omega))
  · refine And.intro ⟨⟨by omega, by omega⟩, by omega⟩ ?_
    intro x19 hx19 kx19 lx19
    intro x20 hx20 kx20 lx20
    refine ⟨xk_X2_write, xm_X2_write hg d (by omega), _, rfl, ⟨by omega, by omega⟩, ?_⟩
    intro m21 qm21 p22
    have z23 := zq0_t z0 qm21
    have : m21.1 1 ((4 : Nat) : Int) = μ.1 1 ((4 : Nat) : Int) := p22
    refine And.intro ⟨⟨by omega, by omega⟩, ⟨by omega, by omega⟩⟩ (And.intro (fun c24 => ?_) (fun c24 => ?_))
    · exfalso; omega
    · refine And.intro ⟨⟨by omega, by omega⟩, by omega⟩ ?_
      intro x25 hx25 kx25 lx25
      refine And.intro ⟨⟨by omega, by omega⟩, by omega⟩ ?_
      intro x26 hx26 kx26 lx26
      intro x27 hx27 kx27 lx27
      refine ⟨xk_X2_write, xm_X2_write hg d (by omega), _, rfl, ⟨by omega, by omega⟩, ?_⟩
      intro m28 qm28 p29
      have z30 := zq0_t z23 qm28
      have : m28.1 1 ((4 : Nat) : Int) = m21.1 1 ((4 : Nat) : Int) := p29
      refine And.intro ⟨⟨by omega, by omega⟩, by omega⟩ ?_
      intro x31 hx31 kx31 lx31
      intro x32 hx32 kx32 lx32
      refine ⟨xk_X2_write, xm_X2_write hg d (by omega), _, rfl, ⟨by omega, by omega⟩, ?_⟩
      intro m33 qm33 p34
      have z35 := zq0_t z30 qm33
      have : m33.1 1 ((4 : Nat) : Int) = m28.1 1 ((4 : Nat) : Int) := p34
      exact And.intro rfl (hQ _ z35 (by omega))
def xk_X2_writeHead : zC := fun As μ Q => ∃ (a1 : Nat) (a2 : Int), As = [.inr (.inr (10, 10)), .inr (.inr (a1, 14)), .inl a2] ∧ (a1 = 14 ∨ a1 = 32) ∧ ((-2147483648) ≤ a2 ∧ a2 ≤ 2147483647) ∧ (∀ (μ' : zM), zq0 μ μ' → (μ'.1 1 ((4 : Nat) : Int) = μ.1 1 ((4 : Nat) : Int)) → Q none μ')
set_option maxHeartbeats 4000000 in
theorem xm_X2_writeHead {g : zΓ} (hg : zg g) (d : Nat) (hd : 4 ≤ d) : zOk g d 32 xk_X2_writeHead := by
  obtain ⟨d, rfl⟩ : ∃ d', d = d' + 1 := ⟨d - 1, by omega⟩
  refine zOk_straight hg (show mt_tab[32]? = some mt_X2_writeHead from rfl) [81] 54 rfl fun As μ Q hC => ?_
  obtain ⟨a1, a2, rfl, ha1, ha2, hQ⟩ := hC
  refine ⟨rfl, ?_⟩
  have z0 : zq0 μ μ := zq0_r μ
  refine ⟨zk_X8_isWild, zm_X8_isWild hg d (by omega), _, rfl, ⟨by omega, by omega⟩, ?_⟩
  intro x1 kx1 lx1
  refine And.intro ⟨by omega, by omega⟩ (And.intro (fun c2 => ?_) (fun c2 => ?_))
  · refine And.intro ⟨⟨by omega, by omega⟩, ⟨by omega, by omega⟩⟩ (And.intro (fun c3 => ?_) (fun c3 => ?_))
    · refine ⟨zk_X8_isParameter, zm_X8_isParameter hg d (by omega), _, rfl, ⟨by omega, by omega⟩, ?_⟩
      intro x4 kx4 lx4
      refine And.intro ⟨by omega, by omega⟩ (And.intro (fun c5 => ?_) (fun c5 => ?_))
      · refine And.intro ha1 ?_
        refine ⟨zk_X8_nameAt, zm_X8_nameAt hg d (by omega), _, _, _, rfl, ⟨by omega, by omega⟩, by decide, (zfa (o := 1) (y2 := 15) ha1 rfl), ?_⟩
        intro j6 hj6
        refine ⟨xk_X2_writeName, xm_X2_writeName hg d (by omega), _, rfl, ?_⟩
        intro m7 qm7 p8
        have z9 := zq0_t z0 qm7
        have : m7.1 1 ((4 : Nat) : Int) = μ.1 1 ((4 : Nat) : Int) := p8
        exact And.intro rfl (hQ _ z9 (by omega))
      · refine And.intro ha1 ?_
        intro x10 hx10 kx10 lx10
        refine ⟨zk_X8_nameAt, zm_X8_nameAt hg d (by omega), _, _, _, rfl, ⟨by omega, by omega⟩, by decide, (zfa (o := 6) (y2 := 20) ha1 rfl), ?_⟩
        intro j11 hj11
        refine ⟨xk_X2_writeName, xm_X2_writeName hg d (by omega), _, rfl, ?_⟩
        intro m12 qm12 p13
        have z14 := zq0_t z0 qm12
        have : m12.1 1 ((4 : Nat) : Int) = μ.1 1 ((4 : Nat) : Int) := p13
        exact And.intro rfl (hQ _ z14 (by omega))
    · refine ⟨xk_X2_write, xm_X2_write hg d (by omega), _, rfl, ⟨by omega, by omega⟩, ?_⟩
      intro m15 qm15 p16
      have z17 := zq0_t z0 qm15
      have : m15.1 1 ((4 : Nat) : Int) = μ.1 1 ((4 : Nat) : Int) := p16
      refine ⟨xk_X2_writeNumber, xm_X2_writeNumber hg d (by omega), _, rfl, ⟨by omega, by omega⟩, ?_⟩
      intro m18 qm18 p19
      have z20 := zq0_t z17 qm18
      have : m18.1 1 ((4 : Nat) : Int) = m15.1 1 ((4 : Nat) : Int) := p19
      exact And.intro rfl (hQ _ z20 (by omega))
  · refine ⟨xk_X2_write, xm_X2_write hg d (by omega), _, rfl, ⟨by omega, by omega⟩, ?_⟩
    intro m21 qm21 p22
    have z23 := zq0_t z0 qm21
    have : m21.1 1 ((4 : Nat) : Int) = μ.1 1 ((4 : Nat) : Int) := p22
    refine And.intro ⟨⟨by omega, by omega⟩, ⟨by omega, by omega⟩⟩ (And.intro (fun c24 => ?_) (fun c24 => ?_))
    · exact And.intro rfl (hQ _ z23 (by omega))
    · refine And.intro ⟨⟨by omega, by omega⟩, ⟨by omega, by omega⟩⟩ (And.intro (fun c25 => ?_) (fun c25 => ?_))
      · refine ⟨xk_X2_write, xm_X2_write hg d (by omega), _, rfl, ⟨by omega, by omega⟩, ?_⟩
        intro m26 qm26 p27
        have z28 := zq0_t z23 qm26
        have : m26.1 1 ((4 : Nat) : Int) = m21.1 1 ((4 : Nat) : Int) := p27
        exact And.intro rfl (hQ _ z28 (by omega))
      · refine ⟨xk_X2_write, xm_X2_write hg d (by omega), _, rfl, ⟨by omega, by omega⟩, ?_⟩
        intro m29 qm29 p30
        have z31 := zq0_t z23 qm29
        have : m29.1 1 ((4 : Nat) : Int) = m21.1 1 ((4 : Nat) : Int) := p30
        exact And.intro rfl (hQ _ z31 (by omega))
def xk_X2_openType : zC := fun As μ Q => ∃ (a2 : Nat) (a3 : Int), As = [.inr (.inr (10, 10)), .inr (.inr (59, 59)), .inr (.inr (a2, 14)), .inl a3] ∧ (a2 = 14 ∨ a2 = 32) ∧ ((-2147483648) ≤ a3 ∧ a3 ≤ 2147483647) ∧ (∀ (μ' : zM), zq0 μ μ' → (μ'.1 1 ((4 : Nat) : Int) = μ.1 1 ((4 : Nat) : Int)) → Q none μ')
set_option maxHeartbeats 4000000 in
theorem xm_X2_openType {g : zΓ} (hg : zg g) (d : Nat) (hd : 5 ≤ d) : zOk g d 31 xk_X2_openType := by
  obtain ⟨d, rfl⟩ : ∃ d', d = d' + 1 := ⟨d - 1, by omega⟩
  refine zOk_straight hg (show mt_tab[31]? = some mt_X2_openType from rfl) [] 38 rfl fun As μ Q hC => ?_
  obtain ⟨a2, a3, rfl, ha2, ha3, hQ⟩ := hC
  refine ⟨rfl, ?_⟩
  have z0 : zq0 μ μ := zq0_r μ
  refine ⟨zk_X6_head, zm_X6_head hg d (by omega), _, rfl, ⟨by omega, by omega⟩, ?_⟩
  intro x1 kx1 lx1
  refine ⟨xk_X2_writeHead, xm_X2_writeHead hg d (by omega), _, _, rfl, ha2, ⟨by omega, by omega⟩, ?_⟩
  intro m2 qm2 p3
  have z4 := zq0_t z0 qm2
  have : m2.1 1 ((4 : Nat) : Int) = μ.1 1 ((4 : Nat) : Int) := p3
  refine ⟨zk_X6_partsOf, zm_X6_partsOf hg d (by omega), _, rfl, ⟨by omega, by omega⟩, ?_⟩
  intro x5 kx5 lx5
  refine And.intro ⟨by omega, by omega⟩ (And.intro (fun c6 => ?_) (fun c6 => ?_))
  · exact And.intro rfl (hQ _ z4 (by omega))
  · intro x7 hx7 kx7 lx7
    refine And.intro ⟨⟨by omega, by omega⟩, ⟨by omega, by omega⟩⟩ (And.intro (fun c8 => ?_) (fun c8 => ?_))
    · exact And.intro rfl (hQ _ z4 (by omega))
    · intro x9 hx9 kx9 lx9
      refine ⟨zk_X8_set, zm_X8_set hg d (by omega), _, _, _, _, rfl, ⟨by omega, by omega⟩, ?_⟩
      refine And.intro ⟨by omega, by omega⟩ ?_
      intro m10 qm10 fm10 gm10
      have z11 := zq0_t z4 (zq0_s qm10 fm10 gm10 (by decide))
      have : m10.1 10 ((4 : Nat) : Int) = m2.1 10 ((4 : Nat) : Int) := congrFun (fm10 10 (show (10 : Nat) ≠ 12 by omega)) _
      have : m10.1 1 ((4 : Nat) : Int) = m2.1 1 ((4 : Nat) : Int) := congrFun (fm10 1 (show (1 : Nat) ≠ 12 by omega)) _
      intro x12 hx12 kx12 lx12
      refine ⟨zk_X8_set, zm_X8_set hg d (by omega), _, _, _, _, rfl, ⟨by omega, by omega⟩, ?_⟩
      refine And.intro ⟨by omega, by omega⟩ ?_
      intro m13 qm13 fm13 gm13
      have z14 := zq0_t z11 (zq0_s qm13 fm13 gm13 (by decide))
      have : m13.1 10 ((4 : Nat) : Int) = m10.1 10 ((4 : Nat) : Int) := congrFun (fm13 10 (show (10 : Nat) ≠ 13 by omega)) _
      have : m13.1 1 ((4 : Nat) : Int) = m10.1 1 ((4 : Nat) : Int) := congrFun (fm13 1 (show (1 : Nat) ≠ 13 by omega)) _
      intro x15 hx15 kx15 lx15
      refine And.intro ⟨by omega, by omega⟩ ?_
      intro m16 em16
      have z17 := zq0_t z14 (zq0_u em16 (Or.inl (by decide)) (Or.inl ⟨by decide, by decide⟩))
      have : m16.1 10 ((4 : Nat) : Int) = (x15 + 1) := by rw [em16]; exact zu_at
      have : m16.1 1 ((4 : Nat) : Int) = m13.1 1 ((4 : Nat) : Int) := by rw [em16]; exact congrFun (zu_ne (show (1 : Nat) ≠ 10 by omega)) _
      exact And.intro rfl (hQ _ z17 (by omega))
def xk_X2_writeType : zC := fun As μ Q => ∃ (a2 : Nat) (a3 : Int), As = [.inr (.inr (10, 10)), .inr (.inr (59, 59)), .inr (.inr (a2, 14)), .inl a3] ∧ (a2 = 14 ∨ a2 = 32) ∧ ((-2147483648) ≤ a3 ∧ a3 ≤ 2147483647) ∧ (∀ (v : Int) (μ' : zM), zq0 μ μ' → (-2147483648) ≤ v → v ≤ 2147483647 → (μ'.1 1 ((4 : Nat) : Int) = μ.1 1 ((4 : Nat) : Int)) → Q (some (.inl v)) μ')
set_option maxHeartbeats 4000000 in
theorem xm_X2_writeType {g : zΓ} (hg : zg g) (d : Nat) (hd : 6 ≤ d) : zOk g d 30 xk_X2_writeType := by
  obtain ⟨d, rfl⟩ : ∃ d', d = d' + 1 := ⟨d - 1, by omega⟩
  refine zOk_loop hg (show mt_tab[30]? = some mt_X2_writeType from rfl) ([(20, [0, 1, 2, 4])], []) 98 rfl fun As μ Q hC => ?_
  obtain ⟨a2, a3, rfl, ha2, ha3, hQ⟩ := hC
  have z0 : zq0 μ μ := zq0_r μ
  refine ⟨rfl, fun pc vs μ' n => ∃ (v4 : Int), vs = [.inr (.inr (10, 10)), .inr (.inr (59, 59)), .inr (.inr (a2, 14)), .inl v4] ∧ zq0 μ μ' ∧ (0 ≤ v4 ∧ v4 ≤ 2147483647) ∧ (μ'.1 1 ((4 : Nat) : Int) = μ.1 1 ((4 : Nat) : Int)) ∧ n = (Int.toNat (2147483648 - v4)), ?_, ?_, trivial⟩
  · refine And.intro ⟨by omega, by omega⟩ ?_
    intro m1 em1
    have z2 := zq0_t z0 (zq0_u em1 (Or.inl (by decide)) (Or.inl ⟨by decide, by decide⟩))
    have : m1.1 1 ((4 : Nat) : Int) = μ.1 1 ((4 : Nat) : Int) := by rw [em1]; exact congrFun (zu_ne (show (1 : Nat) ≠ 10 by omega)) _
    refine And.intro ⟨by omega, by omega⟩ ?_
    intro m3 em3
    have z4 := zq0_t z2 (zq0_u em3 (Or.inl (by decide)) (Or.inl ⟨by decide, by decide⟩))
    have : m3.1 1 ((4 : Nat) : Int) = m1.1 1 ((4 : Nat) : Int) := by rw [em3]; exact congrFun (zu_ne (show (1 : Nat) ≠ 10 by omega)) _
    refine ⟨xk_X2_openType, xm_X2_openType hg d (by omega), _, _, rfl, ha2, ⟨by omega, by omega⟩, ?_⟩
    intro m5 qm5 p6
    have z7 := zq0_t z4 qm5
    have : m5.1 1 ((4 : Nat) : Int) = m3.1 1 ((4 : Nat) : Int) := p6
    refine Exists.intro (Int.toNat (2147483648 - 0)) ?_
    exact ⟨_, rfl, z7, ⟨by omega, by omega⟩, (by omega), rfl⟩
  · intro vs m0 n hI
    clear z0
    obtain ⟨v4, rfl, z0, hv4, i0, rfl⟩ := hI
    refine And.intro ⟨⟨by omega, by omega⟩, ⟨by omega, by omega⟩⟩ (And.intro (fun c8 => ?_) (fun c8 => ?_))
    · intro x9 hx9 kx9 lx9
      exact And.intro trivial (And.intro ⟨by omega, by omega⟩ (hQ _ _ z0 (by omega) (by omega) (by omega)))
    · intro x10 hx10 kx10 lx10
      refine And.intro ⟨by omega, by omega⟩ (And.intro (fun c11 => ?_) (fun c11 => ?_))
      · intro x12 hx12 kx12 lx12
        exact And.intro trivial (And.intro ⟨by omega, by omega⟩ (hQ _ _ z0 (by omega) (by omega) (by omega)))
      · intro x13 hx13 kx13 lx13
        refine And.intro ⟨⟨by omega, by omega⟩, ⟨by omega, by omega⟩⟩ (And.intro (fun c14 => ?_) (fun c14 => ?_))
        · intro x15 hx15 kx15 lx15
          exact And.intro trivial (And.intro ⟨by omega, by omega⟩ (hQ _ _ z0 (by omega) (by omega) (by omega)))
        · intro x16 hx16 kx16 lx16
          refine ⟨zk_X8_at, zm_X8_at hg d (by omega), _, _, _, rfl, ⟨by omega, by omega⟩, ?_⟩
          intro x17 kx17 lx17 fx17 gx17
          intro x18 hx18 kx18 lx18
          refine ⟨zk_X8_at, zm_X8_at hg d (by omega), _, _, _, rfl, ⟨by omega, by omega⟩, ?_⟩
          intro x19 kx19 lx19 fx19 gx19
          refine ⟨zk_X6_head, zm_X6_head hg d (by omega), _, rfl, ⟨by omega, by omega⟩, ?_⟩
          intro x20 kx20 lx20
          refine ⟨zk_X8_isClass, zm_X8_isClass hg d (by omega), _, rfl, ⟨by omega, by omega⟩, ?_⟩
          intro x21 kx21 lx21
          refine ⟨zk_X6_partsOf, zm_X6_partsOf hg d (by omega), _, rfl, ⟨by omega, by omega⟩, ?_⟩
          intro x22 kx22 lx22
          refine And.intro ⟨⟨by omega, by omega⟩, ⟨by omega, by omega⟩⟩ (And.intro (fun c23 => ?_) (fun c23 => ?_))
          · intro x24 hx24 kx24 lx24
            refine ⟨zk_X8_set, zm_X8_set hg d (by omega), _, _, _, _, rfl, ⟨by omega, by omega⟩, ?_⟩
            refine And.intro ⟨by omega, by omega⟩ ?_
            intro m25 qm25 fm25 gm25
            have z26 := zq0_t z0 (zq0_s qm25 fm25 gm25 (by decide))
            have : m25.1 1 ((4 : Nat) : Int) = m0.1 1 ((4 : Nat) : Int) := congrFun (fm25 1 (show (1 : Nat) ≠ 13 by omega)) _
            refine And.intro ⟨by omega, by omega⟩ (And.intro (fun c27 => ?_) (fun c27 => ?_))
            · refine ⟨zk_X6_part, zm_X6_part hg d (by omega), _, _, rfl, ⟨by omega, by omega⟩, ⟨by omega, by omega⟩, ?_⟩
              intro x28 kx28 lx28
              refine ⟨xk_X2_openType, xm_X2_openType hg d (by omega), _, _, rfl, ha2, ⟨by omega, by omega⟩, ?_⟩
              intro m29 qm29 p30
              have z31 := zq0_t z26 qm29
              have : m29.1 1 ((4 : Nat) : Int) = m25.1 1 ((4 : Nat) : Int) := p30
              refine Exists.intro (Int.toNat (2147483648 - (v4 + 1))) (And.intro (by omega) ?_)
              exact ⟨_, rfl, z31, ⟨by omega, by omega⟩, (by omega), rfl⟩
            · refine And.intro ⟨by omega, by omega⟩ (And.intro (fun c32 => ?_) (fun c32 => ?_))
              · refine ⟨xk_X2_write, xm_X2_write hg d (by omega), _, rfl, ⟨by omega, by omega⟩, ?_⟩
                intro m33 qm33 p34
                have z35 := zq0_t z26 qm33
                have : m33.1 1 ((4 : Nat) : Int) = m25.1 1 ((4 : Nat) : Int) := p34
                refine ⟨zk_X6_part, zm_X6_part hg d (by omega), _, _, rfl, ⟨by omega, by omega⟩, ⟨by omega, by omega⟩, ?_⟩
                intro x36 kx36 lx36
                refine ⟨xk_X2_openType, xm_X2_openType hg d (by omega), _, _, rfl, ha2, ⟨by omega, by omega⟩, ?_⟩
                intro m37 qm37 p38
                have z39 := zq0_t z35 qm37
                have : m37.1 1 ((4 : Nat) : Int) = m33.1 1 ((4 : Nat) : Int) := p38
                refine Exists.intro (Int.toNat (2147483648 - (v4 + 1))) (And.intro (by omega) ?_)
                exact ⟨_, rfl, z39, ⟨by omega, by omega⟩, (by omega), rfl⟩
              · refine ⟨xk_X2_write, xm_X2_write hg d (by omega), _, rfl, ⟨by omega, by omega⟩, ?_⟩
                intro m40 qm40 p41
                have z42 := zq0_t z26 qm40
                have : m40.1 1 ((4 : Nat) : Int) = m25.1 1 ((4 : Nat) : Int) := p41
                refine ⟨zk_X6_part, zm_X6_part hg d (by omega), _, _, rfl, ⟨by omega, by omega⟩, ⟨by omega, by omega⟩, ?_⟩
                intro x43 kx43 lx43
                refine ⟨xk_X2_openType, xm_X2_openType hg d (by omega), _, _, rfl, ha2, ⟨by omega, by omega⟩, ?_⟩
                intro m44 qm44 p45
                have z46 := zq0_t z42 qm44
                have : m44.1 1 ((4 : Nat) : Int) = m40.1 1 ((4 : Nat) : Int) := p45
                refine Exists.intro (Int.toNat (2147483648 - (v4 + 1))) (And.intro (by omega) ?_)
                exact ⟨_, rfl, z46, ⟨by omega, by omega⟩, (by omega), rfl⟩
          · intro x47 hx47 kx47 lx47
            refine And.intro ⟨by omega, by omega⟩ ?_
            intro m48 em48
            have z49 := zq0_t z0 (zq0_u em48 (Or.inl (by decide)) (Or.inl ⟨by decide, by decide⟩))
            have : m48.1 1 ((4 : Nat) : Int) = m0.1 1 ((4 : Nat) : Int) := by rw [em48]; exact congrFun (zu_ne (show (1 : Nat) ≠ 10 by omega)) _
            refine And.intro ⟨by omega, by omega⟩ (And.intro (fun c50 => ?_) (fun c50 => ?_))
            · refine Exists.intro (Int.toNat (2147483648 - (v4 + 1))) (And.intro (by omega) ?_)
              exact ⟨_, rfl, z49, ⟨by omega, by omega⟩, (by omega), rfl⟩
            · refine ⟨xk_X2_write, xm_X2_write hg d (by omega), _, rfl, ⟨by omega, by omega⟩, ?_⟩
              intro m51 qm51 p52
              have z53 := zq0_t z49 qm51
              have : m51.1 1 ((4 : Nat) : Int) = m48.1 1 ((4 : Nat) : Int) := p52
              refine Exists.intro (Int.toNat (2147483648 - (v4 + 1))) (And.intro (by omega) ?_)
              exact ⟨_, rfl, z53, ⟨by omega, by omega⟩, (by omega), rfl⟩
def xt_X8_variable (As : List zV) (μ : zM) (Q : Option zV → zM → Prop) (T : Nat → zM → Prop) : Prop := ∃ (a1 : Int) (a2 : Int), As = [.inr (.inr (0, 0)), .inl a1, .inl a2] ∧ ((-2147483648) ≤ a1 ∧ a1 ≤ 2147483647) ∧ ((-2147483648) ≤ a2 ∧ a2 ≤ 2147483647) ∧ (∀ (v : Int) (μ' : zM), zq0 μ μ' → (-2147483648) ≤ v → v ≤ 2147483647 → (μ'.1 1 ((4 : Nat) : Int) = μ.1 1 ((4 : Nat) : Int)) → Q (some (.inl v)) μ') ∧ (T 15 μ)
set_option maxHeartbeats 4000000 in
theorem xx_X8_variable {g : zΓ} (hg : zg g) (d : Nat) (hd : 6 ≤ d) {As : List zV} {μ : zM} {Q : Option zV → zM → Prop} {T : Nat → zM → Prop} {w : mW} (hw : zRep μ w) (hr : ∀ v ∈ As, zrf v) (hC : xt_X8_variable As μ Q T) : Nat.ble (zsum As) mt_X8_variable.2.2.1.1 = true ∧ zE g d mt_X8_variable none [] (fun _ _ _ => False) Q T (0, zlv (zargs 0 As), [], w) := by
  refine zx_line hg (show mt_tab[108]? = some mt_X8_variable from rfl) [] 46 rfl hw hr ?_
  obtain ⟨a1, a2, rfl, ha1, ha2, hQ, hT15⟩ := hC
  refine ⟨rfl, ?_⟩
  have z0 : zq0 μ μ := zq0_r μ
  refine And.intro ⟨by omega, by omega⟩ (And.intro (fun c1 => ?_) (fun c1 => ?_))
  · exact hT15
  · intro x2 hx2 kx2 lx2
    refine And.intro ⟨⟨by omega, by omega⟩, ⟨by omega, by omega⟩⟩ (And.intro (fun c3 => ?_) (fun c3 => ?_))
    · refine And.intro ⟨⟨by omega, by omega⟩, ⟨by omega, by omega⟩⟩ (And.intro (fun c4 => ?_) (fun c4 => ?_))
      · refine ⟨zk_X0_boundOfNew, zm_X0_boundOfNew hg d (by omega), _, _, rfl, ⟨by omega, by omega⟩, ⟨by omega, by omega⟩, ?_⟩
        intro x5 kx5 lx5
        refine And.intro ⟨by omega, by omega⟩ (And.intro (fun c6 => ?_) (fun c6 => ?_))
        · intro t7 et7 ht7
          refine ⟨xk_X2_writeType, xm_X2_writeType hg d (by omega), _, _, rfl, ht7.1, ⟨by omega, by omega⟩, ?_⟩
          intro x8 m9 qm9 kx8 lx8 p10
          have z11 := zq0_t z0 qm9
          have : m9.1 1 ((4 : Nat) : Int) = μ.1 1 ((4 : Nat) : Int) := p10
          exact And.intro trivial (And.intro ⟨by omega, by omega⟩ (hQ _ _ z11 (by omega) (by omega) (by omega)))
        · exact And.intro trivial (And.intro ⟨by omega, by omega⟩ (hQ _ _ z0 (by omega) (by omega) (by omega)))
      · refine ⟨zk_X8_at, zm_X8_at hg d (by omega), _, _, _, rfl, ⟨by omega, by omega⟩, ?_⟩
        intro x12 kx12 lx12 fx12 gx12
        refine And.intro ⟨by omega, by omega⟩ (And.intro (fun c13 => ?_) (fun c13 => ?_))
        · intro t14 et14 ht14
          refine ⟨xk_X2_writeType, xm_X2_writeType hg d (by omega), _, _, rfl, ht14.1, ⟨by omega, by omega⟩, ?_⟩
          intro x15 m16 qm16 kx15 lx15 p17
          have z18 := zq0_t z0 qm16
          have : m16.1 1 ((4 : Nat) : Int) = μ.1 1 ((4 : Nat) : Int) := p17
          exact And.intro trivial (And.intro ⟨by omega, by omega⟩ (hQ _ _ z18 (by omega) (by omega) (by omega)))
        · exact And.intro trivial (And.intro ⟨by omega, by omega⟩ (hQ _ _ z0 (by omega) (by omega) (by omega)))
    · exact hT15
