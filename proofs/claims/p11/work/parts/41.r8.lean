/-! ### small ones about nodes -/
/-- how many bounds a variable has, and which -/
def zbn (m : zM) (x : Int) : Int := if m.1 67 x = 2 then (if m.1 89 (m.1 68 x) = 0 then 1 else m.1 89 (m.1 68 x)) else (if m.1 84 (m.1 68 x) = 0 then 1 else m.1 84 (m.1 68 x))
def zbo (m : zM) (x i : Int) : Int := if m.1 67 x = 2 then (if m.1 89 (m.1 68 x) = 0 then m.1 80 0 else m.1 88 (3 * m.1 68 x + i)) else (if m.1 84 (m.1 68 x) = 0 then m.1 80 0 else m.1 83 (2 * m.1 68 x + i))
def zk_X9_boundsOf : zC := fun As μ Q => ∃ (a1 : Int), As = [.inr (.inr (66, 66)), .inl a1] ∧ (0 ≤ a1 ∧ a1 ≤ 19999) ∧ (μ.1 67 a1 = 2 ∨ μ.1 68 a1 ≤ 79) ∧ (∀ (v : Int), 1 ≤ v → v ≤ 3 → (μ.1 67 a1 ≠ 2 → v ≤ 2) → (v = zbn μ a1) → Q (some (.inl v)) μ)
set_option maxHeartbeats 1000000 in
theorem zm_X9_boundsOf {g : zΓ} (hg : zg g) (d : Nat) (hd : 1 ≤ d) : zOk g d 161 zk_X9_boundsOf := by
  obtain ⟨d, rfl⟩ : ∃ d', d = d' + 1 := ⟨d - 1, by omega⟩
  refine zOk_straight hg (show mt_tab[161]? = some mt_X9_boundsOf from rfl) [] 33 rfl fun As μ Q hC => ?_
  obtain ⟨a1, rfl, ha1, hp0, hQ⟩ := hC
  refine ⟨rfl, ?_⟩
  refine And.intro ⟨by omega, by omega⟩ ?_
  intro x1 hx1 kx1 lx1
  refine And.intro ⟨⟨by omega, by omega⟩, ⟨by omega, by omega⟩⟩ (And.intro (fun c2 => ?_) (fun c2 => ?_))
  · refine And.intro ⟨by omega, by omega⟩ ?_
    intro x3 hx3 kx3 lx3
    refine And.intro ⟨by omega, by omega⟩ ?_
    intro x4 hx4 kx4 lx4
    refine And.intro ⟨by omega, by omega⟩ (And.intro (fun c5 => ?_) (fun c5 => ?_))
    · exact And.intro trivial (And.intro ⟨by omega, by omega⟩ (hQ _ (by omega) (by omega) (by omega) (by unfold zbn; subst_vars; (repeat' split) <;> omega)))
    · exact And.intro trivial (And.intro ⟨by omega, by omega⟩ (hQ _ (by omega) (by omega) (by omega) (by unfold zbn; subst_vars; (repeat' split) <;> omega)))
  · refine And.intro ⟨by omega, by omega⟩ ?_
    intro x6 hx6 kx6 lx6
    refine And.intro ⟨by omega, by omega⟩ ?_
    intro x7 hx7 kx7 lx7
    refine And.intro ⟨by omega, by omega⟩ (And.intro (fun c8 => ?_) (fun c8 => ?_))
    · exact And.intro trivial (And.intro ⟨by omega, by omega⟩ (hQ _ (by omega) (by omega) (by omega) (by unfold zbn; subst_vars; (repeat' split) <;> omega)))
    · exact And.intro trivial (And.intro ⟨by omega, by omega⟩ (hQ _ (by omega) (by omega) (by omega) (by unfold zbn; subst_vars; (repeat' split) <;> omega)))
def zk_X9_head : zC := fun As μ Q => ∃ (a1 : Int), As = [.inr (.inr (66, 66)), .inl a1] ∧ (0 ≤ a1 ∧ a1 ≤ 19999) ∧ (μ.1 67 a1 = 0 → μ.1 68 a1 ≤ 20) ∧ (μ.1 67 a1 = 1 → μ.1 68 a1 ≤ 79) ∧ (∀ (μ' : zM), zfx [96] [56] μ μ' → Q none μ')
set_option maxHeartbeats 1000000 in
theorem zm_X9_head {g : zΓ} (hg : zg g) (d : Nat) (hd : 3 ≤ d) : zOk g d 176 zk_X9_head := by
  obtain ⟨d, rfl⟩ : ∃ d', d = d' + 1 := ⟨d - 1, by omega⟩
  refine zOk_straight hg (show mt_tab[176]? = some mt_X9_head from rfl) [91, 111, 122] 101 rfl fun As μ Q hC => ?_
  obtain ⟨a1, rfl, ha1, hp0, hp1, hQ⟩ := hC
  refine ⟨rfl, ?_⟩
  have z0 : zfx [96] [56] μ μ := zfx_x μ
  refine And.intro ⟨by omega, by omega⟩ ?_
  intro x1 hx1 kx1 lx1
  refine And.intro ⟨by omega, by omega⟩ (And.intro (fun c2 => ?_) (fun c2 => ?_))
  · refine And.intro ⟨by omega, by omega⟩ ?_
    intro x3 hx3 kx3 lx3
    refine And.intro ⟨⟨by omega, by omega⟩, ⟨by omega, by omega⟩⟩ (And.intro (fun c4 => ?_) (fun c4 => ?_))
    · refine And.intro ⟨by omega, by omega⟩ ?_
      intro x5 hx5 kx5 lx5
      refine And.intro ⟨⟨by omega, by omega⟩, ⟨by omega, by omega⟩⟩ (And.intro (fun c6 => ?_) (fun c6 => ?_))
      · refine ⟨zk_X9_sign, zm_X9_sign hg d (by omega), _, rfl, ⟨by omega, by omega⟩, ?_⟩
        intro m7 qm7
        have z8 := zfx_t z0 qm7 rfl rfl
        refine And.intro ⟨by omega, by omega⟩ ?_
        intro x9 hx9 kx9 lx9
        refine And.intro ⟨⟨by omega, by omega⟩, ⟨by omega, by omega⟩⟩ (And.intro (fun c10 => ?_) (fun c10 => ?_))
        · exact And.intro rfl (hQ _ z8)
        · refine And.intro ⟨by omega, by omega⟩ ?_
          intro x11 hx11 kx11 lx11
          refine And.intro ⟨⟨by omega, by omega⟩, ⟨by omega, by omega⟩⟩ (And.intro (fun c12 => ?_) (fun c12 => ?_))
          · refine ⟨zk_X9_sign, zm_X9_sign hg d (by omega), _, rfl, ⟨by omega, by omega⟩, ?_⟩
            intro m13 qm13
            have z14 := zfx_t z8 qm13 rfl rfl
            exact And.intro rfl (hQ _ z14)
          · refine ⟨zk_X9_sign, zm_X9_sign hg d (by omega), _, rfl, ⟨by omega, by omega⟩, ?_⟩
            intro m15 qm15
            have z16 := zfx_t z8 qm15 rfl rfl
            exact And.intro rfl (hQ _ z16)
      · refine ⟨zk_X9_sign, zm_X9_sign hg d (by omega), _, rfl, ⟨by omega, by omega⟩, ?_⟩
        intro m17 qm17
        have z18 := zfx_t z0 qm17 rfl rfl
        refine And.intro ⟨by omega, by omega⟩ ?_
        intro x19 hx19 kx19 lx19
        refine And.intro ⟨⟨by omega, by omega⟩, ⟨by omega, by omega⟩⟩ (And.intro (fun c20 => ?_) (fun c20 => ?_))
        · refine And.intro ⟨⟨by omega, by omega⟩, ⟨by omega, by omega⟩⟩ (And.intro (fun c21 => ?_) (fun c21 => ?_))
          · refine And.intro ⟨⟨by omega, by omega⟩, by omega⟩ ?_
            intro x22 hx22 kx22 lx22
            intro x23 hx23 kx23 lx23
            refine ⟨zk_X9_sign, zm_X9_sign hg d (by omega), _, rfl, ⟨by omega, by omega⟩, ?_⟩
            intro m24 qm24
            have z25 := zfx_t z18 qm24 rfl rfl
            exact And.intro rfl (hQ _ z25)
          · refine And.intro ⟨⟨by omega, by omega⟩, by omega⟩ ?_
            intro x26 hx26 kx26 lx26
            refine And.intro ⟨⟨by omega, by omega⟩, by omega⟩ ?_
            intro x27 hx27 kx27 lx27
            intro x28 hx28 kx28 lx28
            refine ⟨zk_X9_sign, zm_X9_sign hg d (by omega), _, rfl, ⟨by omega, by omega⟩, ?_⟩
            intro m29 qm29
            have z30 := zfx_t z18 qm29 rfl rfl
            refine And.intro ⟨⟨by omega, by omega⟩, by omega⟩ ?_
            intro x31 hx31 kx31 lx31
            intro x32 hx32 kx32 lx32
            refine ⟨zk_X9_sign, zm_X9_sign hg d (by omega), _, rfl, ⟨by omega, by omega⟩, ?_⟩
            intro m33 qm33
            have z34 := zfx_t z30 qm33 rfl rfl
            exact And.intro rfl (hQ _ z34)
        · refine And.intro ⟨⟨by omega, by omega⟩, by omega⟩ ?_
          intro x35 hx35 kx35 lx35
          intro x36 hx36 kx36 lx36
          refine ⟨zk_X9_sign, zm_X9_sign hg d (by omega), _, rfl, ⟨by omega, by omega⟩, ?_⟩
          intro m37 qm37
          have z38 := zfx_t z18 qm37 rfl rfl
          refine And.intro ⟨⟨by omega, by omega⟩, ⟨by omega, by omega⟩⟩ (And.intro (fun c39 => ?_) (fun c39 => ?_))
          · exfalso; omega
          · refine And.intro ⟨⟨by omega, by omega⟩, by omega⟩ ?_
            intro x40 hx40 kx40 lx40
            refine And.intro ⟨⟨by omega, by omega⟩, by omega⟩ ?_
            intro x41 hx41 kx41 lx41
            intro x42 hx42 kx42 lx42
            refine ⟨zk_X9_sign, zm_X9_sign hg d (by omega), _, rfl, ⟨by omega, by omega⟩, ?_⟩
            intro m43 qm43
            have z44 := zfx_t z38 qm43 rfl rfl
            refine And.intro ⟨⟨by omega, by omega⟩, by omega⟩ ?_
            intro x45 hx45 kx45 lx45
            intro x46 hx46 kx46 lx46
            refine ⟨zk_X9_sign, zm_X9_sign hg d (by omega), _, rfl, ⟨by omega, by omega⟩, ?_⟩
            intro m47 qm47
            have z48 := zfx_t z44 qm47 rfl rfl
            exact And.intro rfl (hQ _ z48)
    · refine And.intro ⟨by omega, by omega⟩ ?_
      intro x49 hx49 kx49 lx49
      refine And.intro ⟨by omega, by omega⟩ ?_
      intro x50 hx50
      refine ⟨zk_X9_signs, zm_X9_signs hg d (by omega), _, rfl, ?_⟩
      intro m51 qm51
      have z52 := zfx_t z0 qm51 rfl rfl
      exact And.intro rfl (hQ _ z52)
  · refine And.intro ⟨by omega, by omega⟩ ?_
    intro x53 hx53 kx53 lx53
    refine And.intro ⟨by omega, by omega⟩ ?_
    intro x54 hx54
    refine ⟨zk_X9_signs, zm_X9_signs hg d (by omega), _, rfl, ?_⟩
    intro m55 qm55
    have z56 := zfx_t z0 qm55 rfl rfl
    exact And.intro rfl (hQ _ z56)
def zk_X9_addArg : zC := fun As μ Q => ∃ (a1 : Int) (a2 : Int), As = [.inr (.inr (66, 66)), .inl a1, .inl a2] ∧ (0 ≤ a1 ∧ a1 ≤ 8) ∧ (0 ≤ a2 ∧ a2 ≤ 19999) ∧ (μ.1 102 a1 ≤ 999) ∧ (∀ (μ' : zM), zfx [102, 103] [] μ μ' → (μ'.1 102 a1 = μ.1 102 a1 + 1) → (∀ q : Int, q ≠ a1 → μ'.1 102 q = μ.1 102 q) → (∀ q : Int, q ≠ 4 * a1 + μ.1 102 a1 → μ'.1 103 q = μ.1 103 q) → (μ.1 102 a1 < 4 → μ'.1 103 (4 * a1 + μ.1 102 a1) = a2) → Q none μ')
set_option maxHeartbeats 1000000 in
theorem zm_X9_addArg {g : zΓ} (hg : zg g) (d : Nat) (hd : 1 ≤ d) : zOk g d 140 zk_X9_addArg := by
  obtain ⟨d, rfl⟩ : ∃ d', d = d' + 1 := ⟨d - 1, by omega⟩
  refine zOk_straight hg (show mt_tab[140]? = some mt_X9_addArg from rfl) [] 32 rfl fun As μ Q hC => ?_
  obtain ⟨a1, a2, rfl, ha1, ha2, hp0, hQ⟩ := hC
  obtain ⟨g1, wg1⟩ : ∃ z : Int, μ.1 102 a1 = z := ⟨_, rfl⟩
  try rw [wg1] at hp0
  refine ⟨rfl, ?_⟩
  have z0 : zfx [102, 103] [] μ μ := zfx_x μ
  refine And.intro ⟨by omega, by omega⟩ ?_
  intro x2 hx2 kx2 lx2
  rw [wg1] at hx2
  refine And.intro ⟨⟨by omega, by omega⟩, ⟨by omega, by omega⟩⟩ (And.intro (fun c3 => ?_) (fun c3 => ?_))
  · refine And.intro ⟨by omega, by omega⟩ ?_
    intro x4 hx4 kx4 lx4
    rw [wg1] at hx4
    refine And.intro ⟨by omega, by omega⟩ (And.intro ⟨by omega, by omega⟩ ?_)
    intro m5 em5
    have z6 := zfx_r z0 em5 rfl (by decide)
    have w7 : m5.1 102 a1 = (x4 + 1) := by rw [em5]; exact zu_at
    exact And.intro rfl (hQ _ z6 (by (try rw [w7]) <;> (try rw [wg1]) <;> omega) (fun q hq => by rw [em5, zu_nk hq]) (fun q hq => by rw [em5, zu_ne (by decide)]) (fun h => by exfalso; omega))
  · refine And.intro ⟨by omega, by omega⟩ ?_
    intro x8 hx8 kx8 lx8
    rw [wg1] at hx8
    refine And.intro ⟨by omega, by omega⟩ (And.intro ⟨by omega, by omega⟩ ?_)
    intro m9 em9
    have z10 := zfx_r z0 em9 rfl (by decide)
    have w11 : m9.1 102 a1 = g1 := by rw [em9]; exact (congrFun (zu_ne (by decide)) _).trans wg1
    refine And.intro ⟨by omega, by omega⟩ ?_
    intro x12 hx12 kx12 lx12
    rw [w11] at hx12
    refine And.intro ⟨by omega, by omega⟩ (And.intro ⟨by omega, by omega⟩ ?_)
    intro m13 em13
    have z14 := zfx_r z10 em13 rfl (by decide)
    have w15 : m13.1 102 a1 = (x12 + 1) := by rw [em13]; exact zu_at
    clear w11
    exact And.intro rfl (hQ _ z14 (by (try rw [w15]) <;> (try rw [wg1]) <;> omega) (fun q hq => by rw [em13, zu_nk hq, em9, zu_ne (by decide)]) (fun q hq => by rw [em13, zu_ne (by decide), em9]; exact zu_nk (by omega)) (fun _ => by rw [em13, zu_ne (by decide), em9, show 4 * a1 + μ.1 102 a1 = ((4 * a1) + x8) by omega]; exact zu_at))
def zk_X9_ask2 : zC := fun As μ Q => ∃ (a1 : Int) (a2 : Int), As = [.inr (.inr (66, 66)), .inl a1, .inl a2] ∧ (0 ≤ a1 ∧ a1 ≤ 19999) ∧ (0 ≤ a2 ∧ a2 ≤ 19999) ∧ (0 ≤ μ.1 66 ((46 : Nat) : Int) ∧ μ.1 66 ((46 : Nat) : Int) ≤ μ.1 66 ((75 : Nat) : Int) ∧ μ.1 66 ((75 : Nat) : Int) ≤ 3000 ∧ 0 ≤ μ.1 66 ((74 : Nat) : Int) ∧ μ.1 66 ((74 : Nat) : Int) ≤ 40) ∧ (∀ (v : Int) (μ' : zM), zfx [91, 92, 93] [46, 47, 74, 76] μ μ' → 0 ≤ v → v ≤ 1 → (0 ≤ μ'.1 66 ((46 : Nat) : Int) ∧ μ'.1 66 ((46 : Nat) : Int) ≤ μ'.1 66 ((75 : Nat) : Int) ∧ μ'.1 66 ((75 : Nat) : Int) ≤ 3000 ∧ 0 ≤ μ'.1 66 ((74 : Nat) : Int) ∧ μ'.1 66 ((74 : Nat) : Int) ≤ 40) → ((v = 0 ∧ μ'.1 66 ((74 : Nat) : Int) = μ.1 66 ((74 : Nat) : Int) ∧ μ'.1 66 ((46 : Nat) : Int) = μ.1 66 ((46 : Nat) : Int)) ∨ (v = 1 ∧ μ'.1 66 ((74 : Nat) : Int) = μ.1 66 ((74 : Nat) : Int) + 1 ∧ μ'.1 66 ((46 : Nat) : Int) = μ.1 66 ((46 : Nat) : Int) + 1)) → (∀ q : Int, q ≠ μ.1 66 ((74 : Nat) : Int) → μ'.1 91 q = μ.1 91 q ∧ μ'.1 92 q = μ.1 92 q ∧ μ'.1 93 q = μ.1 93 q) → (v = 1 → μ'.1 91 (μ.1 66 ((74 : Nat) : Int)) = a1 ∧ μ'.1 92 (μ.1 66 ((74 : Nat) : Int)) = a2 ∧ μ'.1 93 (μ.1 66 ((74 : Nat) : Int)) = 0) → Q (some (.inl v)) μ')
set_option maxHeartbeats 1000000 in
theorem zm_X9_ask2 {g : zΓ} (hg : zg g) (d : Nat) (hd : 1 ≤ d) : zOk g d 166 zk_X9_ask2 := by
  obtain ⟨d, rfl⟩ : ∃ d', d = d' + 1 := ⟨d - 1, by omega⟩
  refine zOk_straight hg (show mt_tab[166]? = some mt_X9_ask2 from rfl) [] 70 rfl fun As μ Q hC => ?_
  obtain ⟨a1, a2, rfl, ha1, ha2, hp0, hQ⟩ := hC
  obtain ⟨g1, wg1⟩ : ∃ z : Int, μ.1 66 ((46 : Nat) : Int) = z := ⟨_, rfl⟩
  obtain ⟨g2, wg2⟩ : ∃ z : Int, μ.1 66 ((75 : Nat) : Int) = z := ⟨_, rfl⟩
  obtain ⟨g3, wg3⟩ : ∃ z : Int, μ.1 66 ((74 : Nat) : Int) = z := ⟨_, rfl⟩
  obtain ⟨g4, wg4⟩ : ∃ z : Int, μ.1 66 ((47 : Nat) : Int) = z := ⟨_, rfl⟩
  try rw [wg1] at hp0
  try rw [wg2] at hp0
  try rw [wg3] at hp0
  try rw [wg4] at hp0
  refine ⟨rfl, ?_⟩
  have z0 : zfx [91, 92, 93] [46, 47, 74, 76] μ μ := zfx_x μ
  intro x5 hx5 kx5 lx5
  rw [wg1] at hx5
  intro x6 hx6 kx6 lx6
  rw [wg2] at hx6
  refine And.intro ⟨⟨by omega, by omega⟩, ⟨by omega, by omega⟩⟩ (And.intro (fun c7 => ?_) (fun c7 => ?_))
  · intro x8 hx8 kx8 lx8
    rw [wg1] at hx8
    intro x9 hx9 kx9 lx9
    rw [wg2] at hx9
    refine And.intro ⟨⟨by omega, by omega⟩, ⟨by omega, by omega⟩⟩ (And.intro (fun c10 => ?_) (fun c10 => ?_))
    · refine And.intro ⟨by omega, by omega⟩ ?_
      intro m11 em11
      have z12 := zfx_f z0 em11 rfl
      have w13 : m11.1 66 ((46 : Nat) : Int) = g1 := by rw [em11]; exact (zu_nk (by decide)).trans wg1
      have w14 : m11.1 66 ((75 : Nat) : Int) = g2 := by rw [em11]; exact (zu_nk (by decide)).trans wg2
      have w15 : m11.1 66 ((74 : Nat) : Int) = g3 := by rw [em11]; exact (zu_nk (by decide)).trans wg3
      have w16 : m11.1 66 ((47 : Nat) : Int) = g4 := by rw [em11]; exact (zu_nk (by decide)).trans wg4
      exact And.intro (zrtb (by omega)) (And.intro ⟨by omega, by omega⟩ (hQ _ _ z12 (by omega) (by omega) (by (try rw [w13]) <;> (try rw [w14]) <;> (try rw [w15]) <;> (try rw [w16]) <;> (try rw [wg1]) <;> (try rw [wg2]) <;> (try rw [wg3]) <;> (try rw [wg4]) <;> omega) (by (try rw [w13]) <;> (try rw [w14]) <;> (try rw [w15]) <;> (try rw [w16]) <;> (try rw [wg1]) <;> (try rw [wg2]) <;> (try rw [wg3]) <;> (try rw [wg4]) <;> omega) (fun q hq => by rw [wg3] at hq; exact ⟨by rw [em11, zu_ne (by decide)], by rw [em11, zu_ne (by decide)], by rw [em11, zu_ne (by decide)]⟩) (fun h => by omega)))
    · refine And.intro ⟨by omega, by omega⟩ ?_
      intro m17 em17
      have z18 := zfx_f z0 em17 rfl
      have w19 : m17.1 66 ((46 : Nat) : Int) = g1 := by rw [em17]; exact (zu_nk (by decide)).trans wg1
      have w20 : m17.1 66 ((75 : Nat) : Int) = g2 := by rw [em17]; exact (zu_nk (by decide)).trans wg2
      have w21 : m17.1 66 ((74 : Nat) : Int) = g3 := by rw [em17]; exact (zu_nk (by decide)).trans wg3
      have w22 : m17.1 66 ((47 : Nat) : Int) = g4 := by rw [em17]; exact (zu_nk (by decide)).trans wg4
      exact And.intro (zrtb (by omega)) (And.intro ⟨by omega, by omega⟩ (hQ _ _ z18 (by omega) (by omega) (by (try rw [w19]) <;> (try rw [w20]) <;> (try rw [w21]) <;> (try rw [w22]) <;> (try rw [wg1]) <;> (try rw [wg2]) <;> (try rw [wg3]) <;> (try rw [wg4]) <;> omega) (by (try rw [w19]) <;> (try rw [w20]) <;> (try rw [w21]) <;> (try rw [w22]) <;> (try rw [wg1]) <;> (try rw [wg2]) <;> (try rw [wg3]) <;> (try rw [wg4]) <;> omega) (fun q hq => by rw [wg3] at hq; exact ⟨by rw [em17, zu_ne (by decide)], by rw [em17, zu_ne (by decide)], by rw [em17, zu_ne (by decide)]⟩) (fun h => by omega)))
  · intro x23 hx23 kx23 lx23
    rw [wg3] at hx23
    refine And.intro ⟨⟨by omega, by omega⟩, ⟨by omega, by omega⟩⟩ (And.intro (fun c24 => ?_) (fun c24 => ?_))
    · intro x25 hx25 kx25 lx25
      rw [wg3] at hx25
      refine And.intro ⟨by omega, by omega⟩ (And.intro ⟨by omega, by omega⟩ ?_)
      intro m26 em26
      have z27 := zfx_r z0 em26 rfl (by decide)
      have w28 : m26.1 66 ((46 : Nat) : Int) = g1 := by rw [em26]; exact (congrFun (zu_ne (by decide)) _).trans wg1
      have w29 : m26.1 66 ((75 : Nat) : Int) = g2 := by rw [em26]; exact (congrFun (zu_ne (by decide)) _).trans wg2
      have w30 : m26.1 66 ((74 : Nat) : Int) = g3 := by rw [em26]; exact (congrFun (zu_ne (by decide)) _).trans wg3
      have w31 : m26.1 66 ((47 : Nat) : Int) = g4 := by rw [em26]; exact (congrFun (zu_ne (by decide)) _).trans wg4
      intro x32 hx32 kx32 lx32
      rw [w30] at hx32
      refine And.intro ⟨by omega, by omega⟩ (And.intro ⟨by omega, by omega⟩ ?_)
      intro m33 em33
      have z34 := zfx_r z27 em33 rfl (by decide)
      have w35 : m33.1 66 ((46 : Nat) : Int) = g1 := by rw [em33]; exact (congrFun (zu_ne (by decide)) _).trans w28
      have w36 : m33.1 66 ((75 : Nat) : Int) = g2 := by rw [em33]; exact (congrFun (zu_ne (by decide)) _).trans w29
      have w37 : m33.1 66 ((74 : Nat) : Int) = g3 := by rw [em33]; exact (congrFun (zu_ne (by decide)) _).trans w30
      have w38 : m33.1 66 ((47 : Nat) : Int) = g4 := by rw [em33]; exact (congrFun (zu_ne (by decide)) _).trans w31
      clear w28 w29 w30 w31
      intro x39 hx39 kx39 lx39
      rw [w37] at hx39
      refine And.intro ⟨by omega, by omega⟩ (And.intro ⟨by omega, by omega⟩ ?_)
      intro m40 em40
      have z41 := zfx_r z34 em40 rfl (by decide)
      have w42 : m40.1 66 ((46 : Nat) : Int) = g1 := by rw [em40]; exact (congrFun (zu_ne (by decide)) _).trans w35
      have w43 : m40.1 66 ((75 : Nat) : Int) = g2 := by rw [em40]; exact (congrFun (zu_ne (by decide)) _).trans w36
      have w44 : m40.1 66 ((74 : Nat) : Int) = g3 := by rw [em40]; exact (congrFun (zu_ne (by decide)) _).trans w37
      have w45 : m40.1 66 ((47 : Nat) : Int) = g4 := by rw [em40]; exact (congrFun (zu_ne (by decide)) _).trans w38
      clear w35 w36 w37 w38
      intro x46 hx46 kx46 lx46
      rw [w44] at hx46
      refine And.intro ⟨by omega, by omega⟩ ?_
      intro m47 em47
      have z48 := zfx_f z41 em47 rfl
      have w49 : m47.1 66 ((46 : Nat) : Int) = g1 := by rw [em47]; exact (zu_nk (by decide)).trans w42
      have w50 : m47.1 66 ((75 : Nat) : Int) = g2 := by rw [em47]; exact (zu_nk (by decide)).trans w43
      have w51 : m47.1 66 ((74 : Nat) : Int) = (x46 + 1) := by rw [em47]; exact zu_at
      have w52 : m47.1 66 ((47 : Nat) : Int) = g4 := by rw [em47]; exact (zu_nk (by decide)).trans w45
      clear w42 w43 w44 w45
      intro x53 hx53 kx53 lx53
      rw [w49] at hx53
      refine And.intro ⟨by omega, by omega⟩ ?_
      intro m54 em54
      have z55 := zfx_f z48 em54 rfl
      have w56 : m54.1 66 ((46 : Nat) : Int) = (x53 + 1) := by rw [em54]; exact zu_at
      have w57 : m54.1 66 ((75 : Nat) : Int) = g2 := by rw [em54]; exact (zu_nk (by decide)).trans w50
      have w58 : m54.1 66 ((74 : Nat) : Int) = (x46 + 1) := by rw [em54]; exact (zu_nk (by decide)).trans w51
      have w59 : m54.1 66 ((47 : Nat) : Int) = g4 := by rw [em54]; exact (zu_nk (by decide)).trans w52
      clear w49 w50 w51 w52
      intro x60 hx60 kx60 lx60
      rw [w58] at hx60
      intro x61 hx61 kx61 lx61
      rw [w59] at hx61
      refine And.intro ⟨⟨by omega, by omega⟩, ⟨by omega, by omega⟩⟩ (And.intro (fun c62 => ?_) (fun c62 => ?_))
      · intro x63 hx63 kx63 lx63
        rw [w59] at hx63
        refine And.intro ⟨by omega, by omega⟩ ?_
        intro m64 em64
        have z65 := zfx_f z55 em64 rfl
        have w66 : m64.1 66 ((46 : Nat) : Int) = (x53 + 1) := by rw [em64]; exact (zu_nk (by decide)).trans w56
        have w67 : m64.1 66 ((75 : Nat) : Int) = g2 := by rw [em64]; exact (zu_nk (by decide)).trans w57
        have w68 : m64.1 66 ((74 : Nat) : Int) = (x46 + 1) := by rw [em64]; exact (zu_nk (by decide)).trans w58
        have w69 : m64.1 66 ((47 : Nat) : Int) = x63 := by rw [em64]; exact zu_at
        clear w56 w57 w58 w59
        exact And.intro (zrtb (by omega)) (And.intro ⟨by omega, by omega⟩ (hQ _ _ z65 (by omega) (by omega) (by (try rw [w66]) <;> (try rw [w67]) <;> (try rw [w68]) <;> (try rw [w69]) <;> (try rw [wg1]) <;> (try rw [wg2]) <;> (try rw [wg3]) <;> (try rw [wg4]) <;> omega) (by (try rw [w66]) <;> (try rw [w67]) <;> (try rw [w68]) <;> (try rw [w69]) <;> (try rw [wg1]) <;> (try rw [wg2]) <;> (try rw [wg3]) <;> (try rw [wg4]) <;> omega) (fun q hq => by rw [wg3] at hq; exact ⟨by rw [em64, zu_ne (by decide), em54, zu_ne (by decide), em47, zu_ne (by decide), em40, zu_ne (by decide), em33, zu_ne (by decide), em26, zu_nk (by omega)], by rw [em64, zu_ne (by decide), em54, zu_ne (by decide), em47, zu_ne (by decide), em40, zu_ne (by decide), em33, zu_nk (by omega), em26, zu_ne (by decide)], by rw [em64, zu_ne (by decide), em54, zu_ne (by decide), em47, zu_ne (by decide), em40, zu_nk (by omega), em33, zu_ne (by decide), em26, zu_ne (by decide)]⟩) (fun _ => by rw [wg3]; exact ⟨by rw [show g3 = x25 by omega, em64, zu_ne (by decide), em54, zu_ne (by decide), em47, zu_ne (by decide), em40, zu_ne (by decide), em33, zu_ne (by decide), em26, zu_at], by rw [show g3 = x32 by omega, em64, zu_ne (by decide), em54, zu_ne (by decide), em47, zu_ne (by decide), em40, zu_ne (by decide), em33, zu_at], by rw [show g3 = x39 by omega, em64, zu_ne (by decide), em54, zu_ne (by decide), em47, zu_ne (by decide), em40, zu_at]⟩)))
      · intro x70 hx70 kx70 lx70
        rw [w58] at hx70
        refine And.intro ⟨by omega, by omega⟩ ?_
        intro m71 em71
        have z72 := zfx_f z55 em71 rfl
        have w73 : m71.1 66 ((46 : Nat) : Int) = (x53 + 1) := by rw [em71]; exact (zu_nk (by decide)).trans w56
        have w74 : m71.1 66 ((75 : Nat) : Int) = g2 := by rw [em71]; exact (zu_nk (by decide)).trans w57
        have w75 : m71.1 66 ((74 : Nat) : Int) = (x46 + 1) := by rw [em71]; exact (zu_nk (by decide)).trans w58
        have w76 : m71.1 66 ((47 : Nat) : Int) = x70 := by rw [em71]; exact zu_at
        clear w56 w57 w58 w59
        exact And.intro (zrtb (by omega)) (And.intro ⟨by omega, by omega⟩ (hQ _ _ z72 (by omega) (by omega) (by (try rw [w73]) <;> (try rw [w74]) <;> (try rw [w75]) <;> (try rw [w76]) <;> (try rw [wg1]) <;> (try rw [wg2]) <;> (try rw [wg3]) <;> (try rw [wg4]) <;> omega) (by (try rw [w73]) <;> (try rw [w74]) <;> (try rw [w75]) <;> (try rw [w76]) <;> (try rw [wg1]) <;> (try rw [wg2]) <;> (try rw [wg3]) <;> (try rw [wg4]) <;> omega) (fun q hq => by rw [wg3] at hq; exact ⟨by rw [em71, zu_ne (by decide), em54, zu_ne (by decide), em47, zu_ne (by decide), em40, zu_ne (by decide), em33, zu_ne (by decide), em26, zu_nk (by omega)], by rw [em71, zu_ne (by decide), em54, zu_ne (by decide), em47, zu_ne (by decide), em40, zu_ne (by decide), em33, zu_nk (by omega), em26, zu_ne (by decide)], by rw [em71, zu_ne (by decide), em54, zu_ne (by decide), em47, zu_ne (by decide), em40, zu_nk (by omega), em33, zu_ne (by decide), em26, zu_ne (by decide)]⟩) (fun _ => by rw [wg3]; exact ⟨by rw [show g3 = x25 by omega, em71, zu_ne (by decide), em54, zu_ne (by decide), em47, zu_ne (by decide), em40, zu_ne (by decide), em33, zu_ne (by decide), em26, zu_at], by rw [show g3 = x32 by omega, em71, zu_ne (by decide), em54, zu_ne (by decide), em47, zu_ne (by decide), em40, zu_ne (by decide), em33, zu_at], by rw [show g3 = x39 by omega, em71, zu_ne (by decide), em54, zu_ne (by decide), em47, zu_ne (by decide), em40, zu_at]⟩)))
    · intro x77 hx77 kx77 lx77
      rw [wg1] at hx77
      intro x78 hx78 kx78 lx78
      rw [wg2] at hx78
      refine And.intro ⟨⟨by omega, by omega⟩, ⟨by omega, by omega⟩⟩ (And.intro (fun c79 => ?_) (fun c79 => ?_))
      · refine And.intro ⟨by omega, by omega⟩ ?_
        intro m80 em80
        have z81 := zfx_f z0 em80 rfl
        have w82 : m80.1 66 ((46 : Nat) : Int) = g1 := by rw [em80]; exact (zu_nk (by decide)).trans wg1
        have w83 : m80.1 66 ((75 : Nat) : Int) = g2 := by rw [em80]; exact (zu_nk (by decide)).trans wg2
        have w84 : m80.1 66 ((74 : Nat) : Int) = g3 := by rw [em80]; exact (zu_nk (by decide)).trans wg3
        have w85 : m80.1 66 ((47 : Nat) : Int) = g4 := by rw [em80]; exact (zu_nk (by decide)).trans wg4
        exact And.intro (zrtb (by omega)) (And.intro ⟨by omega, by omega⟩ (hQ _ _ z81 (by omega) (by omega) (by (try rw [w82]) <;> (try rw [w83]) <;> (try rw [w84]) <;> (try rw [w85]) <;> (try rw [wg1]) <;> (try rw [wg2]) <;> (try rw [wg3]) <;> (try rw [wg4]) <;> omega) (by (try rw [w82]) <;> (try rw [w83]) <;> (try rw [w84]) <;> (try rw [w85]) <;> (try rw [wg1]) <;> (try rw [wg2]) <;> (try rw [wg3]) <;> (try rw [wg4]) <;> omega) (fun q hq => by rw [wg3] at hq; exact ⟨by rw [em80, zu_ne (by decide)], by rw [em80, zu_ne (by decide)], by rw [em80, zu_ne (by decide)]⟩) (fun h => by omega)))
      · refine And.intro ⟨by omega, by omega⟩ ?_
        intro m86 em86
        have z87 := zfx_f z0 em86 rfl
        have w88 : m86.1 66 ((46 : Nat) : Int) = g1 := by rw [em86]; exact (zu_nk (by decide)).trans wg1
        have w89 : m86.1 66 ((75 : Nat) : Int) = g2 := by rw [em86]; exact (zu_nk (by decide)).trans wg2
        have w90 : m86.1 66 ((74 : Nat) : Int) = g3 := by rw [em86]; exact (zu_nk (by decide)).trans wg3
        have w91 : m86.1 66 ((47 : Nat) : Int) = g4 := by rw [em86]; exact (zu_nk (by decide)).trans wg4
        exact And.intro (zrtb (by omega)) (And.intro ⟨by omega, by omega⟩ (hQ _ _ z87 (by omega) (by omega) (by (try rw [w88]) <;> (try rw [w89]) <;> (try rw [w90]) <;> (try rw [w91]) <;> (try rw [wg1]) <;> (try rw [wg2]) <;> (try rw [wg3]) <;> (try rw [wg4]) <;> omega) (by (try rw [w88]) <;> (try rw [w89]) <;> (try rw [w90]) <;> (try rw [w91]) <;> (try rw [wg1]) <;> (try rw [wg2]) <;> (try rw [wg3]) <;> (try rw [wg4]) <;> omega) (fun q hq => by rw [wg3] at hq; exact ⟨by rw [em86, zu_ne (by decide)], by rw [em86, zu_ne (by decide)], by rw [em86, zu_ne (by decide)]⟩) (fun h => by omega)))
