/-! ### small ones about nodes -/
/-- how many bounds a variable has, and which -/
def zbn (m : zM) (x : Int) : Int := if m.1 67 x = 2 then (if m.1 89 (m.1 68 x) = 0 then 1 else m.1 89 (m.1 68 x)) else (if m.1 84 (m.1 68 x) = 0 then 1 else m.1 84 (m.1 68 x))
def zbo (m : zM) (x i : Int) : Int := if m.1 67 x = 2 then (if m.1 89 (m.1 68 x) = 0 then m.1 80 0 else m.1 88 (3 * m.1 68 x + i)) else (if m.1 84 (m.1 68 x) = 0 then m.1 80 0 else m.1 83 (2 * m.1 68 x + i))
def zk_X9_boundsOf : zC := fun As μ Q => ∃ (a1 : Int), As = [.inr (.inr (66, 66)), .inl a1] ∧ (0 ≤ a1 ∧ a1 ≤ 19999) ∧ (μ.1 67 a1 = 2 ∨ μ.1 68 a1 ≤ 79) ∧ (∀ (v : Int), 1 ≤ v → v ≤ 3 → (μ.1 67 a1 ≠ 2 → v ≤ 2) → (v = zbn μ a1) → Q (some (.inl v)) μ)
set_option maxHeartbeats 1000000 in
theorem zm_X9_boundsOf {g : zΓ} (hg : zg g) (d : Nat) (hd : 1 ≤ d) : zOk g d 161 zk_X9_boundsOf := by
  obtain ⟨d, rfl⟩ : ∃ d', d = d' + 1 := ⟨d - 1, by omega⟩
  refine zOk_straight hg (show mt_tab[161]? = some mt_X9_boundsOf from rfl) [] 33 rfl fun As μ Q hC => ?_
  obtain ⟨a1, rfl, ha1, hp0, hQ⟩ := hC
  refine ⟨rfl, ?_⟩
  refine And.intro ⟨by omega, by omega⟩ ?_
  intro x1 hx1 kx1 lx1
  refine And.intro ⟨⟨by omega, by omega⟩, ⟨by omega, by omega⟩⟩ (And.intro (fun c2 => ?_) (fun c2 => ?_))
  · refine And.intro ⟨by omega, by omega⟩ ?_
    intro x3 hx3 kx3 lx3
    refine And.intro ⟨by omega, by omega⟩ ?_
    intro x4 hx4 kx4 lx4
    refine And.intro ⟨by omega, by omega⟩ (And.intro (fun c5 => ?_) (fun c5 => ?_))
    · exact And.intro trivial (And.intro ⟨by omega, by omega⟩ (hQ _ (by omega) (by omega) (by omega) (by unfold zbn; subst_vars; (repeat' split) <;> omega)))
    · exact And.intro trivial (And.intro ⟨by omega, by omega⟩ (hQ _ (by omega) (by omega) (by omega) (by unfold zbn; subst_vars; (repeat' split) <;> omega)))
  · refine And.intro ⟨by omega, by omega⟩ ?_
    intro x6 hx6 kx6 lx6
    refine And.intro ⟨by omega, by omega⟩ ?_
    intro x7 hx7 kx7 lx7
    refine And.intro ⟨by omega, by omega⟩ (And.intro (fun c8 => ?_) (fun c8 => ?_))
    · exact And.intro trivial (And.intro ⟨by omega, by omega⟩ (hQ _ (by omega) (by omega) (by omega) (by unfold zbn; subst_vars; (repeat' split) <;> omega)))
    · exact And.intro trivial (And.intro ⟨by omega, by omega⟩ (hQ _ (by omega) (by omega) (by omega) (by unfold zbn; subst_vars; (repeat' split) <;> omega)))
def zk_X9_head : zC := fun As μ Q => ∃ (a1 : Int), As = [.inr (.inr (66, 66)), .inl a1] ∧ (0 ≤ a1 ∧ a1 ≤ 19999) ∧ (μ.1 67 a1 = 0 → μ.1 68 a1 ≤ 20) ∧ (μ.1 67 a1 = 1 → μ.1 68 a1 ≤ 79) ∧ (∀ (μ' : zM), zfx [96] [56] μ μ' → Q none μ')
set_option maxHeartbeats 1000000 in
theorem zm_X9_head {g : zΓ} (hg : zg g) (d : Nat) (hd : 3 ≤ d) : zOk g d 176 zk_X9_head := by
  obtain ⟨d, rfl⟩ : ∃ d', d = d' + 1 := ⟨d - 1, by omega⟩
  refine zOk_straight hg (show mt_tab[176]? = some mt_X9_head from rfl) [91, 111, 122] 101 rfl fun As μ Q hC => ?_
  obtain ⟨a1, rfl, ha1, hp0, hp1, hQ⟩ := hC
  refine ⟨rfl, ?_⟩
  have z0 : zfx [96] [56] μ μ := zfx_x μ
  refine And.intro ⟨by omega, by omega⟩ ?_
  intro x1 hx1 kx1 lx1
  refine And.intro ⟨by omega, by omega⟩ (And.intro (fun c2 => ?_) (fun c2 => ?_))
  · refine And.intro ⟨by omega, by omega⟩ ?_
    intro x3 hx3 kx3 lx3
    refine And.intro ⟨⟨by omega, by omega⟩, ⟨by omega, by omega⟩⟩ (And.intro (fun c4 => ?_) (fun c4 => ?_))
    · refine And.intro ⟨by omega, by omega⟩ ?_
      intro x5 hx5 kx5 lx5
      refine And.intro ⟨⟨by omega, by omega⟩, ⟨by omega, by omega⟩⟩ (And.intro (fun c6 => ?_) (fun c6 => ?_))
      · refine ⟨zk_X9_sign, zm_X9_sign hg d (by omega), _, rfl, ⟨by omega, by omega⟩, ?_⟩
        intro m7 qm7
        have z8 := zfx_t z0 qm7 rfl rfl
        refine And.intro ⟨by omega, by omega⟩ ?_
        intro x9 hx9 kx9 lx9
        refine And.intro ⟨⟨by omega, by omega⟩, ⟨by omega, by omega⟩⟩ (And.intro (fun c10 => ?_) (fun c10 => ?_))
        · exact And.intro rfl (hQ _ z8)
        · refine And.intro ⟨by omega, by omega⟩ ?_
          intro x11 hx11 kx11 lx11
          refine And.intro ⟨⟨by omega, by omega⟩, ⟨by omega, by omega⟩⟩ (And.intro (fun c12 => ?_) (fun c12 => ?_))
          · refine ⟨zk_X9_sign, zm_X9_sign hg d (by omega), _, rfl, ⟨by omega, by omega⟩, ?_⟩
            intro m13 qm13
            have z14 := zfx_t z8 qm13 rfl rfl
            exact And.intro rfl (hQ _ z14)
          · refine ⟨zk_X9_sign, zm_X9_sign hg d (by omega), _, rfl, ⟨by omega, by omega⟩, ?_⟩
            intro m15 qm15
            have z16 := zfx_t z8 qm15 rfl rfl
            exact And.intro rfl (hQ _ z16)
      · refine ⟨zk_X9_sign, zm_X9_sign hg d (by omega), _, rfl, ⟨by omega, by omega⟩, ?_⟩
        intro m17 qm17
        have z18 := zfx_t z0 qm17 rfl rfl
        refine And.intro ⟨by omega, by omega⟩ ?_
        intro x19 hx19 kx19 lx19
        refine And.intro ⟨⟨by omega, by omega⟩, ⟨by omega, by omega⟩⟩ (And.intro (fun c20 => ?_) (fun c20 => ?_))
        · refine And.intro ⟨⟨by omega, by omega⟩, ⟨by omega, by omega⟩⟩ (And.intro (fun c21 => ?_) (fun c21 => ?_))
          · refine And.intro ⟨⟨by omega, by omega⟩, by omega⟩ ?_
            intro x22 hx22 kx22 lx22
            intro x23 hx23 kx23 lx23
            refine ⟨zk_X9_sign, zm_X9_sign hg d (by omega), _, rfl, ⟨by omega, by omega⟩, ?_⟩
            intro m24 qm24
            have z25 := zfx_t z18 qm24 rfl rfl
            exact And.intro rfl (hQ _ z25)
          · refine And.intro ⟨⟨by omega, by omega⟩, by omega⟩ ?_
            intro x26 hx26 kx26 lx26
            refine And.intro ⟨⟨by omega, by omega⟩, by omega⟩ ?_
            intro x27 hx27 kx27 lx27
            intro x28 hx28 kx28 lx28
            refine ⟨zk_X9_sign, zm_X9_sign hg d (by omega), _, rfl, ⟨by omega, by omega⟩, ?_⟩
            intro m29 qm29
            have z30 := zfx_t z18 qm29 rfl rfl
            refine And.intro ⟨⟨by omega, by omega⟩, by omega⟩ ?_
            intro x31 hx31 kx31 lx31
            intro x32 hx32 kx32 lx32
            refine ⟨zk_X9_sign, zm_X9_sign hg d (by omega), _, rfl, ⟨by omega, by omega⟩, ?_⟩
            intro m33 qm33
            have z34 := zfx_t z30 qm33 rfl rfl
            exact And.intro rfl (hQ _ z34)
        · refine And.intro ⟨⟨by omega, by omega⟩, by omega⟩ ?_
          intro x35 hx35 kx35 lx35
          intro x36 hx36 kx36 lx36
          refine ⟨zk_X9_sign, zm_X9_sign hg d (by omega), _, rfl, ⟨by omega, by omega⟩, ?_⟩
          intro m37 qm37
          have z38 := zfx_t z18 qm37 rfl rfl
          refine And.intro ⟨⟨by omega, by omega⟩, ⟨by omega, by omega⟩⟩ (And.intro (fun c39 => ?_) (fun c39 => ?_))
          · exfalso; omega
          · refine And.intro ⟨⟨by omega, by omega⟩, by omega⟩ ?_
            intro x40 hx40 kx40 lx40
            refine And.intro ⟨⟨by omega, by omega⟩, by omega⟩ ?_
            intro x41 hx41 kx41 lx41
            intro x42 hx42 kx42 lx42
            refine ⟨zk_X9_sign, zm_X9_sign hg d (by omega), _, rfl, ⟨by omega, by omega⟩, ?_⟩
            intro m43 qm43
            have z44 := zfx_t z38 qm43 rfl rfl
            refine And.intro ⟨⟨by omega, by omega⟩, by omega⟩ ?_
            intro x45 hx45 kx45 lx45
            intro x46 hx46 kx46 lx46
            refine ⟨zk_X9_sign, zm_X9_sign hg d (by omega), _, rfl, ⟨by omega, by omega⟩, ?_⟩
            intro m47 qm47
            have z48 := zfx_t z44 qm47 rfl rfl
            exact And.intro rfl (hQ _ z48)
    · refine And.intro ⟨by omega, by omega⟩ ?_
      intro x49 hx49 kx49 lx49
      refine And.intro ⟨by omega, by omega⟩ ?_
      intro x50 hx50
      refine ⟨zk_X9_signs, zm_X9_signs hg d (by omega), _, rfl, ?_⟩
      intro m51 qm51
      have z52 := zfx_t z0 qm51 rfl rfl
      exact And.intro rfl (hQ _ z52)
  · refine And.intro ⟨by omega, by omega⟩ ?_
    intro x53 hx53 kx53 lx53
    refine And.intro ⟨by omega, by omega⟩ ?_
    intro x54 hx54
    refine ⟨zk_X9_signs, zm_X9_signs hg d (by omega), _, rfl, ?_⟩
    intro m55 qm55
    have z56 := zfx_t z0 qm55 rfl rfl
    exact And.intro rfl (hQ _ z56)
def zk_X9_addArg : zC := fun As μ Q => ∃ (a1 : Int) (a2 : Int), As = [.inr (.inr (66, 66)), .inl a1, .inl a2] ∧ (0 ≤ a1 ∧ a1 ≤ 8) ∧ (0 ≤ a2 ∧ a2 ≤ 19999) ∧ (μ.1 102 a1 ≤ 999) ∧ (∀ (μ' : zM), zfx [102, 103] [] μ μ' → (μ'.1 102 a1 = μ.1 102 a1 + 1) → (∀ q : Int, q ≠ a1 → μ'.1 102 q = μ.1 102 q) → (∀ q : Int, q ≠ 4 * a1 + μ.1 102 a1 → μ'.1 103 q = μ.1 103 q) → (μ.1 102 a1 < 4 → μ'.1 103 (4 * a1 + μ.1 102 a1) = a2) → Q none μ')
set_option maxHeartbeats 1000000 in
theorem zm_X9_addArg {g : zΓ} (hg : zg g) (d : Nat) (hd : 1 ≤ d) : zOk g d 140 zk_X9_addArg := by
  obtain ⟨d, rfl⟩ : ∃ d', d = d' + 1 := ⟨d - 1, by omega⟩
  refine zOk_straight hg (show mt_tab[140]? = some mt_X9_addArg from rfl) [] 32 rfl fun As μ Q hC => ?_
  obtain ⟨a1, a2, rfl, ha1, ha2, hp0, hQ⟩ := hC
  obtain ⟨g1, wg1⟩ : ∃ z : Int, μ.1 102 a1 = z := ⟨_, rfl⟩
  try rw [wg1] at hp0
  refine ⟨rfl, ?_⟩
  have z0 : zfx [102, 103] [] μ μ := zfx_x μ
  refine And.intro ⟨by omega, by omega⟩ ?_
  intro x2 hx2 kx2 lx2
  rw [wg1] at hx2
  refine And.intro ⟨⟨by omega, by omega⟩, ⟨by omega, by omega⟩⟩ (And.intro (fun c3 => ?_) (fun c3 => ?_))
  · refine And.intro ⟨by omega, by omega⟩ ?_
    intro x4 hx4 kx4 lx4
    rw [wg1] at hx4
    refine And.intro ⟨by omega, by omega⟩ (And.intro ⟨by omega, by omega⟩ ?_)
    intro m5 em5
    have z6 := zfx_r z0 em5 rfl (by decide)
    have w7 : m5.1 102 a1 = (x4 + 1) := by rw [em5]; exact zu_at
    exact And.intro rfl (hQ _ z6 (by (try rw [w7]) <;> (try rw [wg1]) <;> omega) (fun q hq => by rw [em5, zu_nk hq]) (fun q hq => by rw [em5, zu_ne (by decide)]) (fun h => by exfalso; omega))
  · refine And.intro ⟨by omega, by omega⟩ ?_
    intro x8 hx8 kx8 lx8
    rw [wg1] at hx8
    refine And.intro ⟨by omega, by omega⟩ (And.intro ⟨by omega, by omega⟩ ?_)
    intro m9 em9
    have z10 := zfx_r z0 em9 rfl (by decide)
    have w11 : m9.1 102 a1 = g1 := by rw [em9]; exact (congrFun (zu_ne (by decide)) _).trans wg1
    refine And.intro ⟨by omega, by omega⟩ ?_
    intro x12 hx12 kx12 lx12
    rw [w11] at hx12
    refine And.intro ⟨by omega, by omega⟩ (And.intro ⟨by omega, by omega⟩ ?_)
    intro m13 em13
    have z14 := zfx_r z10 em13 rfl (by decide)
    have w15 : m13.1 102 a1 = (x12 + 1) := by rw [em13]; exact zu_at
    clear w11
    exact And.intro rfl (hQ _ z14 (by (try rw [w15]) <;> (try rw [wg1]) <;> omega) (fun q hq => by rw [em13, zu_nk hq, em9, zu_ne (by decide)]) (fun q hq => by rw [em13, zu_ne (by decide), em9]; exact zu_nk (by omega)) (fun _ => by rw [em13, zu_ne (by decide), em9, show 4 * a1 + μ.1 102 a1 = ((4 * a1) + x8) by omega]; exact zu_at))
