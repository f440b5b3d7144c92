/-! ### pairs of arguments -/
def zk_X9_boundOf2 : zC := fun As μ Q => ∃ (a1 : Int) (a2 : Int), As = [.inr (.inr (66, 66)), .inl a1, .inl a2] ∧ (0 ≤ a1 ∧ a1 ≤ 19999) ∧ (0 ≤ a2 ∧ a2 ≤ 2) ∧ (μ.1 67 a1 = 2 ∨ μ.1 68 a1 ≤ 79) ∧ (μ.1 67 a1 = 2 ∨ a2 ≤ 1) ∧ (∀ (v : Int), (-1) ≤ v → v ≤ 19999 → (v = zbo μ a1 a2) → (0 ≤ μ.1 68 a1) → (1 ≤ zbn μ a1) → Q (some (.inl v)) μ)
set_option maxHeartbeats 2000000 in
theorem zm_X9_boundOf2 {g : zΓ} (hg : zg g) (d : Nat) (hd : 1 ≤ d) : zOk g d 162 zk_X9_boundOf2 := by
  obtain ⟨d, rfl⟩ : ∃ d', d = d' + 1 := ⟨d - 1, by omega⟩
  refine zOk_straight hg (show mt_tab[162]? = some mt_X9_boundOf from rfl) [] 61 rfl fun As μ Q hC => ?_
  obtain ⟨a1, a2, rfl, ha1, ha2, hp0, hp1, hQ⟩ := hC
  refine ⟨rfl, ?_⟩
  refine And.intro ⟨by omega, by omega⟩ ?_
  intro x1 hx1 kx1 lx1
  refine And.intro ⟨⟨by omega, by omega⟩, ⟨by omega, by omega⟩⟩ (And.intro (fun c2 => ?_) (fun c2 => ?_))
  · refine And.intro ⟨by omega, by omega⟩ ?_
    intro x3 hx3 kx3 lx3
    refine And.intro ⟨by omega, by omega⟩ ?_
    intro x4 hx4 kx4 lx4
    refine And.intro ⟨by omega, by omega⟩ (And.intro (fun c5 => ?_) (fun c5 => ?_))
    · refine And.intro ⟨by omega, by omega⟩ ?_
      intro x6 hx6 kx6 lx6
      refine And.intro ⟨by omega, by omega⟩ ?_
      intro x7 hx7 kx7 lx7
      exact And.intro trivial (And.intro ⟨by omega, by omega⟩ (hQ _ (by omega) (by omega) (by unfold zbo; subst_vars; (repeat' split) <;> omega) (by omega) (by unfold zbn; subst_vars; (repeat' split) <;> omega)))
    · refine And.intro ⟨by omega, by omega⟩ ?_
      intro x8 hx8 kx8 lx8
      exact And.intro trivial (And.intro ⟨by omega, by omega⟩ (hQ _ (by omega) (by omega) (by unfold zbo; subst_vars; (repeat' split) <;> omega) (by omega) (by unfold zbn; subst_vars; (repeat' split) <;> omega)))
  · refine And.intro ⟨by omega, by omega⟩ ?_
    intro x9 hx9 kx9 lx9
    refine And.intro ⟨by omega, by omega⟩ ?_
    intro x10 hx10 kx10 lx10
    refine And.intro ⟨by omega, by omega⟩ (And.intro (fun c11 => ?_) (fun c11 => ?_))
    · refine And.intro ⟨by omega, by omega⟩ ?_
      intro x12 hx12 kx12 lx12
      refine And.intro ⟨by omega, by omega⟩ ?_
      intro x13 hx13 kx13 lx13
      exact And.intro trivial (And.intro ⟨by omega, by omega⟩ (hQ _ (by omega) (by omega) (by unfold zbo; subst_vars; (repeat' split) <;> omega) (by omega) (by unfold zbn; subst_vars; (repeat' split) <;> omega)))
    · refine And.intro ⟨by omega, by omega⟩ ?_
      intro x14 hx14 kx14 lx14
      exact And.intro trivial (And.intro ⟨by omega, by omega⟩ (hQ _ (by omega) (by omega) (by unfold zbo; subst_vars; (repeat' split) <;> omega) (by omega) (by unfold zbn; subst_vars; (repeat' split) <;> omega)))
def zk_X9_isVariable2 : zC := fun As μ Q => ∃ (a1 : Int), As = [.inr (.inr (66, 66)), .inl a1] ∧ (0 ≤ a1 ∧ a1 ≤ 19999) ∧ (∀ (v : Int), 0 ≤ v → v ≤ 1 → ((v = 1 ∧ (μ.1 67 a1 = 1 ∨ μ.1 67 a1 = 2)) ∨ (v = 0 ∧ μ.1 67 a1 ≠ 1 ∧ μ.1 67 a1 ≠ 2)) → (0 ≤ μ.1 67 a1) → Q (some (.inl v)) μ)
set_option maxHeartbeats 2000000 in
theorem zm_X9_isVariable2 {g : zΓ} (hg : zg g) (d : Nat) (hd : 1 ≤ d) : zOk g d 160 zk_X9_isVariable2 := by
  obtain ⟨d, rfl⟩ : ∃ d', d = d' + 1 := ⟨d - 1, by omega⟩
  refine zOk_straight hg (show mt_tab[160]? = some mt_X9_isVariable from rfl) [] 21 rfl fun As μ Q hC => ?_
  obtain ⟨a1, rfl, ha1, hQ⟩ := hC
  refine ⟨rfl, ?_⟩
  refine And.intro ⟨by omega, by omega⟩ ?_
  intro x1 hx1 kx1 lx1
  refine And.intro ⟨⟨by omega, by omega⟩, ⟨by omega, by omega⟩⟩ (And.intro (fun c2 => ?_) (fun c2 => ?_))
  · exact And.intro (zrtb (by omega)) (And.intro ⟨by omega, by omega⟩ (hQ _ (by omega) (by omega) (by omega) (by omega)))
  · refine And.intro ⟨by omega, by omega⟩ ?_
    intro x3 hx3 kx3 lx3
    refine And.intro ⟨⟨by omega, by omega⟩, ⟨by omega, by omega⟩⟩ (And.intro (fun c4 => ?_) (fun c4 => ?_))
    · exact And.intro (zrtb (by omega)) (And.intro ⟨by omega, by omega⟩ (hQ _ (by omega) (by omega) (by omega) (by omega)))
    · exact And.intro (zrtb (by omega)) (And.intro ⟨by omega, by omega⟩ (hQ _ (by omega) (by omega) (by omega) (by omega)))
def zk_X9_pairs : zC := fun As μ Q => ∃ (a1 : Int) (C : Int) (Pn : Int) (tt : Int) (K : Int), As = [.inr (.inr (66, 66)), .inl a1] ∧ (0 ≤ a1 ∧ a1 ≤ 39) ∧ (zQS μ C Pn tt K) ∧ (0 ≤ μ.1 66 ((46 : Nat) : Int) ∧ μ.1 66 ((46 : Nat) : Int) ≤ μ.1 66 ((75 : Nat) : Int) ∧ μ.1 66 ((75 : Nat) : Int) ≤ 3000 ∧ 0 ≤ μ.1 66 ((74 : Nat) : Int) ∧ μ.1 66 ((74 : Nat) : Int) ≤ 40) ∧ (μ.1 66 ((74 : Nat) : Int) = a1 + 1) ∧ (zFs μ a1) ∧ (zFq μ a1) ∧ (μ.1 93 a1 = 3) ∧ (∀ (v : Int) (μ' : zM), zfx [91, 92, 93, 94] [46, 47, 74, 76] μ μ' → 0 ≤ v → v ≤ 3 → (zQS μ' C Pn tt K) → (zQx μ μ') → (0 ≤ μ'.1 66 ((46 : Nat) : Int) ∧ μ'.1 66 ((46 : Nat) : Int) ≤ μ'.1 66 ((75 : Nat) : Int) ∧ μ'.1 66 ((75 : Nat) : Int) ≤ 3000 ∧ 0 ≤ μ'.1 66 ((74 : Nat) : Int) ∧ μ'.1 66 ((74 : Nat) : Int) ≤ 40) → (zAp μ μ' a1 v) → Q (some (.inl v)) μ')
set_option maxHeartbeats 2000000 in
theorem zm_X9_pairs {g : zΓ} (hg : zg g) (d : Nat) (hd : 2 ≤ d) : zOk g d 167 zk_X9_pairs := by
  obtain ⟨d, rfl⟩ : ∃ d', d = d' + 1 := ⟨d - 1, by omega⟩
  refine zOk_loop hg (show mt_tab[167]? = some mt_X9_pairs from rfl) ([(14, [0, 1, 2, 3])], []) 111 rfl fun As μ Q hC => ?_
  obtain ⟨a1, C, Pn, tt, K, rfl, ha1, hp0, hp1, hp2, hp3, hp4, hp5, hQ⟩ := hC
  obtain ⟨g1, wg1⟩ : ∃ z : Int, μ.1 66 ((46 : Nat) : Int) = z := ⟨_, rfl⟩
  obtain ⟨g2, wg2⟩ : ∃ z : Int, μ.1 66 ((75 : Nat) : Int) = z := ⟨_, rfl⟩
  obtain ⟨g3, wg3⟩ : ∃ z : Int, μ.1 66 ((74 : Nat) : Int) = z := ⟨_, rfl⟩
  have z0 : zfx [91, 92, 93, 94] [46, 47, 74, 76] μ μ := zfx_x μ
  refine ⟨rfl, fun pc vs μ' n => ∃ (v1 : Int) (v2 : Int) (v3 : Int), vs = [.inr (.inr (66, 66)), .inl v1, .inl v2, .inl v3] ∧ zfx [91, 92, 93, 94] [46, 47, 74, 76] μ μ' ∧ (0 ≤ v1 ∧ v1 ≤ 39) ∧ (0 ≤ v2 ∧ v2 ≤ 19999) ∧ (0 ≤ v3 ∧ v3 ≤ 19999) ∧ (v1 = a1 ∧ v2 = μ.1 95 a1 ∧ v3 = μ.1 92 a1) ∧ (∀ j : Nat, j ≠ 94 → μ'.1 j = μ.1 j) ∧ (∀ q : Int, q ≠ a1 → μ'.1 94 q = μ.1 94 q) ∧ (0 ≤ μ'.1 94 a1) ∧ n = (Int.toNat (10 - μ'.1 94 v1)), ?_, ?_, trivial⟩
  · refine And.intro ⟨by omega, by omega⟩ ?_
    intro x4 hx4 kx4 lx4
    refine And.intro ⟨by omega, by omega⟩ ?_
    intro x5 hx5 kx5 lx5
    refine Exists.intro (Int.toNat (10 - μ.1 94 a1)) ?_
    exact ⟨_, _, _, rfl, z0, ⟨by omega, by omega⟩, ⟨by omega, by omega⟩, ⟨by omega, by omega⟩, ⟨rfl, by omega, by omega⟩, (fun _ _ => rfl), (fun _ _ => rfl), (hp4.2.2.2 hp5).2.2.2, rfl⟩
  · intro vs m0 n hI
    clear z0
    obtain ⟨v1, v2, v3, rfl, z0, hv1, hv2, hv3, i0, i1, i2, i3, rfl⟩ := hI
    obtain ⟨j1, j2, j3⟩ := i0
    subst j1
    obtain ⟨g6, wg6⟩ : ∃ z : Int, m0.1 66 ((46 : Nat) : Int) = z := ⟨_, rfl⟩
    obtain ⟨g7, wg7⟩ : ∃ z : Int, m0.1 66 ((75 : Nat) : Int) = z := ⟨_, rfl⟩
    obtain ⟨g8, wg8⟩ : ∃ z : Int, m0.1 66 ((74 : Nat) : Int) = z := ⟨_, rfl⟩
    have H3 := hp4.2.2.2 hp5
    rw [← j2, ← j3] at H3
    have CN := zQI_cnt hp0.1 H3.1.1 (by have := hp4.2.1.1; rw [← j3] at this; exact this) H3.1.2.1 H3.2.1 H3.2.2.1
    have E66 := i1 66 (by decide)
    have T3 := hp4.2.1.1
    rw [← j3] at T3
    have ND3 := (hp0.1.1.2.1 v3 T3.1 T3.2)
    have ND2 := (hp0.1.1.2.1 v2 H3.1.1.1 H3.1.1.2)
    have E46 : m0.1 66 ((46 : Nat) : Int) = μ.1 66 ((46 : Nat) : Int) := by rw [E66]
    have E74 : m0.1 66 ((74 : Nat) : Int) = μ.1 66 ((74 : Nat) : Int) := by rw [E66]
    have E75 : m0.1 66 ((75 : Nat) : Int) = μ.1 66 ((75 : Nat) : Int) := by rw [E66]
    refine And.intro ⟨by omega, by omega⟩ ?_
    intro x9 hx9 kx9 lx9
    refine And.intro ⟨by omega, by omega⟩ ?_
    intro x10 hx10 kx10 lx10
    rw [show m0.1 69 = μ.1 69 from z0.1 69 (by decide) rfl] at hx10
    refine And.intro ⟨⟨by omega, by omega⟩, ⟨by omega, by omega⟩⟩ (And.intro (fun c11 => ?_) (fun c11 => ?_))
    · have PX := zP_ix hp0 hp3 hp4 hp5 (by omega) i1 i2 (by omega)
      exact And.intro trivial (And.intro ⟨by omega, by omega⟩ (hQ _ _ z0 (by omega) (by omega) PX.1 PX.2.1 (by (try rw [wg6]) <;> (try rw [wg7]) <;> (try rw [wg8]) <;> (try rw [wg1]) <;> (try rw [wg2]) <;> (try rw [wg3]) <;> omega) (zAp_01 (Or.inr rfl) (by rw [E66]; exact hp2) (by rw [E66]) (zFs_down PX.2.2 (by omega)))))
    · refine And.intro ⟨by omega, by omega⟩ ?_
      intro x12 hx12 kx12 lx12
      refine And.intro ⟨by omega, by omega⟩ ?_
      intro x13 hx13 kx13 lx13
      rw [show m0.1 70 = μ.1 70 from z0.1 70 (by decide) rfl] at hx13
      have TA := zTy_arg (i := x12) hp0.1 H3.1 ⟨by omega, by omega⟩ hx13
      refine And.intro ⟨by omega, by omega⟩ ?_
      intro x14 hx14 kx14 lx14
      refine And.intro ⟨by omega, by omega⟩ ?_
      intro x15 hx15 kx15 lx15
      rw [show m0.1 70 = μ.1 70 from z0.1 70 (by decide) rfl] at hx15
      have NB := ND3.2.1 x14 (by omega) (by omega)
      rw [show 4 * v3 + x14 = ((4 * v3) + x14) by omega, ← hx15] at NB
      refine And.intro ⟨by omega, by omega⟩ ?_
      intro x16 hx16 kx16 lx16
      refine And.intro ⟨by omega, by omega⟩ (And.intro ⟨by omega, by omega⟩ ?_)
      intro m17 em17
      have z18 := zfx_r z0 em17 rfl (by decide)
      have w19 : m17.1 66 ((46 : Nat) : Int) = g6 := by rw [em17]; exact (congrFun (zu_ne (by decide)) _).trans wg6
      have w20 : m17.1 66 ((75 : Nat) : Int) = g7 := by rw [em17]; exact (congrFun (zu_ne (by decide)) _).trans wg7
      have w21 : m17.1 66 ((74 : Nat) : Int) = g8 := by rw [em17]; exact (congrFun (zu_ne (by decide)) _).trans wg8
      have F1 : ∀ j : Nat, j ≠ 94 → m17.1 j = μ.1 j := fun j hj => by rw [em17, zu_ne hj]; exact i1 j hj
      have F2 : ∀ q : Int, q ≠ v1 → m17.1 94 q = μ.1 94 q := fun q hq => by rw [em17, zu_nk hq]; exact i2 q hq
      have F3 : m17.1 94 v1 = (x16 + 1) := by rw [em17, zu_at]
      refine And.intro ⟨by omega, by omega⟩ ?_
      intro x22 hx22 kx22 lx22
      rw [show m17.1 67 = μ.1 67 from z18.1 67 (by decide) rfl] at hx22
      refine And.intro ⟨⟨by omega, by omega⟩, ⟨by omega, by omega⟩⟩ (And.intro (fun c23 => ?_) (fun c23 => ?_))
      · refine And.intro ⟨by omega, by omega⟩ ?_
        intro x24 hx24 kx24 lx24
        rw [show m17.1 70 = μ.1 70 from z18.1 70 (by decide) rfl] at hx24
        refine And.intro ⟨by omega, by omega⟩ ?_
        intro x25 hx25 kx25 lx25
        rw [show m17.1 67 = μ.1 67 from z18.1 67 (by decide) rfl] at hx25
        refine And.intro ⟨⟨by omega, by omega⟩, ⟨by omega, by omega⟩⟩ (And.intro (fun c26 => ?_) (fun c26 => ?_))
        · clear c26
          have TU : zTy μ x24 := by rw [hx24]; exact zQI_wild hp0.1 ⟨NB.1, by omega⟩ (by omega)
          have PX := zP_ix hp0 hp3 hp4 hp5 (by omega) F1 F2 (by rw [F3]; omega)
          refine ⟨zk_X9_ask2, zm_X9_ask2 hg d (by omega), _, _, rfl, ⟨by omega, by omega⟩, ⟨by omega, by omega⟩, (by (try rw [w19]) <;> (try rw [w20]) <;> (try rw [w21]) <;> (try rw [wg6]) <;> (try rw [wg7]) <;> (try rw [wg8]) <;> (try rw [wg1]) <;> (try rw [wg2]) <;> (try rw [wg3]) <;> omega), ?_⟩
          intro x27 m28 qm28 kx27 lx27 p29 p30 p31 p32
          have z33 := zfx_t z18 qm28 rfl rfl
          have w34 : m28.1 66 ((75 : Nat) : Int) = g7 := (qm28.2.1 75 rfl).trans w20
          obtain ⟨g35, wg35⟩ : ∃ z : Int, m28.1 66 ((46 : Nat) : Int) = z := ⟨_, rfl⟩
          obtain ⟨g36, wg36⟩ : ∃ z : Int, m28.1 66 ((74 : Nat) : Int) = z := ⟨_, rfl⟩
          clear w19 w20 w21
          have A37 := zAp_ask (μ := μ) (d := v1) PX.1.1 PX.2.2 (show m17.1 66 ((74 : Nat) : Int) = m17.1 66 ((74 : Nat) : Int) from rfl) (by rw [F1 66 (by decide)]; exact hp2) (by rw [F1 66 (by decide)]) (zTy_old TU PX.2.1.1 PX.2.1.2.1) (zTy_old TA PX.2.1.1 PX.2.1.2.1) (fun j a b c d => qm28.1 j a (zanyF (by simp <;> omega))) (qm28.2.1 8 rfl) (qm28.2.1 45 rfl) (qm28.2.1 48 rfl) (qm28.2.1 60 rfl) p30 p31 p32
          have ZS38 := zQS_ask PX.1 (fun j a b c d => qm28.1 j a (zanyF (by simp <;> omega))) (qm28.2.1 8 rfl) (qm28.2.1 45 rfl) (qm28.2.1 48 rfl) (qm28.2.1 60 rfl)
          have X39 := zQx_t PX.2.1 A37.1
          refine And.intro ⟨by omega, by omega⟩ (And.intro (fun c40 => ?_) (fun c40 => ?_))
          · exact And.intro trivial (And.intro ⟨by omega, by omega⟩ (hQ _ _ z33 (by omega) (by omega) ZS38 X39 p29 zAp_3))
          · exact And.intro trivial (And.intro ⟨by omega, by omega⟩ (hQ _ _ z33 (by omega) (by omega) ZS38 X39 p29 (A37.2 (by omega))))
        · have TU : zTy μ x24 := by rw [hx24]; exact zQI_wild hp0.1 ⟨NB.1, by omega⟩ (by omega)
          have PX := zP_ix hp0 hp3 hp4 hp5 (by omega) F1 F2 (by rw [F3]; omega)
          refine ⟨zk_X9_ask2, zm_X9_ask2 hg d (by omega), _, _, rfl, ⟨by omega, by omega⟩, ⟨by omega, by omega⟩, (by (try rw [w19]) <;> (try rw [w20]) <;> (try rw [w21]) <;> (try rw [wg6]) <;> (try rw [wg7]) <;> (try rw [wg8]) <;> (try rw [wg1]) <;> (try rw [wg2]) <;> (try rw [wg3]) <;> omega), ?_⟩
          intro x41 m42 qm42 kx41 lx41 p43 p44 p45 p46
          have z47 := zfx_t z18 qm42 rfl rfl
          have w48 : m42.1 66 ((75 : Nat) : Int) = g7 := (qm42.2.1 75 rfl).trans w20
          obtain ⟨g49, wg49⟩ : ∃ z : Int, m42.1 66 ((46 : Nat) : Int) = z := ⟨_, rfl⟩
          obtain ⟨g50, wg50⟩ : ∃ z : Int, m42.1 66 ((74 : Nat) : Int) = z := ⟨_, rfl⟩
          clear w19 w20 w21
          have A51 := zAp_ask (μ := μ) (d := v1) PX.1.1 PX.2.2 (show m17.1 66 ((74 : Nat) : Int) = m17.1 66 ((74 : Nat) : Int) from rfl) (by rw [F1 66 (by decide)]; exact hp2) (by rw [F1 66 (by decide)]) (zTy_old TA PX.2.1.1 PX.2.1.2.1) (zTy_old TU PX.2.1.1 PX.2.1.2.1) (fun j a b c d => qm42.1 j a (zanyF (by simp <;> omega))) (qm42.2.1 8 rfl) (qm42.2.1 45 rfl) (qm42.2.1 48 rfl) (qm42.2.1 60 rfl) p44 p45 p46
          have ZS52 := zQS_ask PX.1 (fun j a b c d => qm42.1 j a (zanyF (by simp <;> omega))) (qm42.2.1 8 rfl) (qm42.2.1 45 rfl) (qm42.2.1 48 rfl) (qm42.2.1 60 rfl)
          have X53 := zQx_t PX.2.1 A51.1
          refine And.intro ⟨by omega, by omega⟩ (And.intro (fun c54 => ?_) (fun c54 => ?_))
          · exact And.intro trivial (And.intro ⟨by omega, by omega⟩ (hQ _ _ z47 (by omega) (by omega) ZS52 X53 p43 zAp_3))
          · exact And.intro trivial (And.intro ⟨by omega, by omega⟩ (hQ _ _ z47 (by omega) (by omega) ZS52 X53 p43 (A51.2 (by omega))))
      · refine And.intro ⟨by omega, by omega⟩ ?_
        intro x55 hx55 kx55 lx55
        rw [show m17.1 67 = μ.1 67 from z18.1 67 (by decide) rfl] at hx55
        refine And.intro ⟨⟨by omega, by omega⟩, ⟨by omega, by omega⟩⟩ (And.intro (fun c56 => ?_) (fun c56 => ?_))
        · refine And.intro ⟨by omega, by omega⟩ ?_
          intro x57 hx57 kx57 lx57
          rw [show m17.1 67 = μ.1 67 from z18.1 67 (by decide) rfl] at hx57
          refine And.intro ⟨⟨by omega, by omega⟩, ⟨by omega, by omega⟩⟩ (And.intro (fun c58 => ?_) (fun c58 => ?_))
          · refine Exists.intro (Int.toNat (10 - m17.1 94 v1)) (And.intro (by rw [F3]; omega) ?_)
            exact ⟨_, _, _, rfl, z18, ⟨by omega, by omega⟩, ⟨by omega, by omega⟩, ⟨by omega, by omega⟩, ⟨rfl, j2, j3⟩, F1, F2, (by rw [F3]; omega), rfl⟩
          · refine And.intro ⟨⟨by omega, by omega⟩, ⟨by omega, by omega⟩⟩ (And.intro (fun c59 => ?_) (fun c59 => ?_))
            · refine Exists.intro (Int.toNat (10 - m17.1 94 v1)) (And.intro (by rw [F3]; omega) ?_)
              exact ⟨_, _, _, rfl, z18, ⟨by omega, by omega⟩, ⟨by omega, by omega⟩, ⟨by omega, by omega⟩, ⟨rfl, j2, j3⟩, F1, F2, (by rw [F3]; omega), rfl⟩
            · clear c59
              have PX := zP_ix hp0 hp3 hp4 hp5 (by omega) F1 F2 (by rw [F3]; omega)
              exact And.intro trivial (And.intro ⟨by omega, by omega⟩ (hQ _ _ z18 (by omega) (by omega) PX.1 PX.2.1 (by (try rw [w19]) <;> (try rw [w20]) <;> (try rw [w21]) <;> (try rw [wg6]) <;> (try rw [wg7]) <;> (try rw [wg8]) <;> (try rw [wg1]) <;> (try rw [wg2]) <;> (try rw [wg3]) <;> omega) (zAp_01 (Or.inl rfl) (by rw [F1 66 (by decide)]; exact hp2) (by rw [F1 66 (by decide)]) (zFs_down PX.2.2 (by omega)))))
        · refine And.intro ⟨by omega, by omega⟩ ?_
          intro x60 hx60 kx60 lx60
          rw [show m17.1 70 = μ.1 70 from z18.1 70 (by decide) rfl] at hx60
          refine And.intro ⟨by omega, by omega⟩ ?_
          intro x61 hx61 kx61 lx61
          rw [show m17.1 67 = μ.1 67 from z18.1 67 (by decide) rfl] at hx61
          refine And.intro ⟨⟨by omega, by omega⟩, ⟨by omega, by omega⟩⟩ (And.intro (fun c62 => ?_) (fun c62 => ?_))
          · clear c62
            have TU : zTy μ x60 := by rw [hx60]; exact zQI_wild hp0.1 ⟨NB.1, by omega⟩ (by omega)
            have PX := zP_ix hp0 hp3 hp4 hp5 (by omega) F1 F2 (by rw [F3]; omega)
            refine ⟨zk_X9_ask2, zm_X9_ask2 hg d (by omega), _, _, rfl, ⟨by omega, by omega⟩, ⟨by omega, by omega⟩, (by (try rw [w19]) <;> (try rw [w20]) <;> (try rw [w21]) <;> (try rw [wg6]) <;> (try rw [wg7]) <;> (try rw [wg8]) <;> (try rw [wg1]) <;> (try rw [wg2]) <;> (try rw [wg3]) <;> omega), ?_⟩
            intro x63 m64 qm64 kx63 lx63 p65 p66 p67 p68
            have z69 := zfx_t z18 qm64 rfl rfl
            have w70 : m64.1 66 ((75 : Nat) : Int) = g7 := (qm64.2.1 75 rfl).trans w20
            obtain ⟨g71, wg71⟩ : ∃ z : Int, m64.1 66 ((46 : Nat) : Int) = z := ⟨_, rfl⟩
            obtain ⟨g72, wg72⟩ : ∃ z : Int, m64.1 66 ((74 : Nat) : Int) = z := ⟨_, rfl⟩
            clear w19 w20 w21
            have A73 := zAp_ask (μ := μ) (d := v1) PX.1.1 PX.2.2 (show m17.1 66 ((74 : Nat) : Int) = m17.1 66 ((74 : Nat) : Int) from rfl) (by rw [F1 66 (by decide)]; exact hp2) (by rw [F1 66 (by decide)]) (zTy_old TU PX.2.1.1 PX.2.1.2.1) (zTy_old TA PX.2.1.1 PX.2.1.2.1) (fun j a b c d => qm64.1 j a (zanyF (by simp <;> omega))) (qm64.2.1 8 rfl) (qm64.2.1 45 rfl) (qm64.2.1 48 rfl) (qm64.2.1 60 rfl) p66 p67 p68
            have ZS74 := zQS_ask PX.1 (fun j a b c d => qm64.1 j a (zanyF (by simp <;> omega))) (qm64.2.1 8 rfl) (qm64.2.1 45 rfl) (qm64.2.1 48 rfl) (qm64.2.1 60 rfl)
            have X75 := zQx_t PX.2.1 A73.1
            refine And.intro ⟨by omega, by omega⟩ (And.intro (fun c76 => ?_) (fun c76 => ?_))
            · exact And.intro trivial (And.intro ⟨by omega, by omega⟩ (hQ _ _ z69 (by omega) (by omega) ZS74 X75 p65 zAp_3))
            · exact And.intro trivial (And.intro ⟨by omega, by omega⟩ (hQ _ _ z69 (by omega) (by omega) ZS74 X75 p65 (A73.2 (by omega))))
          · have TU : zTy μ x60 := by rw [hx60]; exact zQI_wild hp0.1 ⟨NB.1, by omega⟩ (by omega)
            have PX := zP_ix hp0 hp3 hp4 hp5 (by omega) F1 F2 (by rw [F3]; omega)
            refine ⟨zk_X9_ask2, zm_X9_ask2 hg d (by omega), _, _, rfl, ⟨by omega, by omega⟩, ⟨by omega, by omega⟩, (by (try rw [w19]) <;> (try rw [w20]) <;> (try rw [w21]) <;> (try rw [wg6]) <;> (try rw [wg7]) <;> (try rw [wg8]) <;> (try rw [wg1]) <;> (try rw [wg2]) <;> (try rw [wg3]) <;> omega), ?_⟩
            intro x77 m78 qm78 kx77 lx77 p79 p80 p81 p82
            have z83 := zfx_t z18 qm78 rfl rfl
            have w84 : m78.1 66 ((75 : Nat) : Int) = g7 := (qm78.2.1 75 rfl).trans w20
            obtain ⟨g85, wg85⟩ : ∃ z : Int, m78.1 66 ((46 : Nat) : Int) = z := ⟨_, rfl⟩
            obtain ⟨g86, wg86⟩ : ∃ z : Int, m78.1 66 ((74 : Nat) : Int) = z := ⟨_, rfl⟩
            clear w19 w20 w21
            have A87 := zAp_ask (μ := μ) (d := v1) PX.1.1 PX.2.2 (show m17.1 66 ((74 : Nat) : Int) = m17.1 66 ((74 : Nat) : Int) from rfl) (by rw [F1 66 (by decide)]; exact hp2) (by rw [F1 66 (by decide)]) (zTy_old TA PX.2.1.1 PX.2.1.2.1) (zTy_old TU PX.2.1.1 PX.2.1.2.1) (fun j a b c d => qm78.1 j a (zanyF (by simp <;> omega))) (qm78.2.1 8 rfl) (qm78.2.1 45 rfl) (qm78.2.1 48 rfl) (qm78.2.1 60 rfl) p80 p81 p82
            have ZS88 := zQS_ask PX.1 (fun j a b c d => qm78.1 j a (zanyF (by simp <;> omega))) (qm78.2.1 8 rfl) (qm78.2.1 45 rfl) (qm78.2.1 48 rfl) (qm78.2.1 60 rfl)
            have X89 := zQx_t PX.2.1 A87.1
            refine And.intro ⟨by omega, by omega⟩ (And.intro (fun c90 => ?_) (fun c90 => ?_))
            · exact And.intro trivial (And.intro ⟨by omega, by omega⟩ (hQ _ _ z83 (by omega) (by omega) ZS88 X89 p79 zAp_3))
            · exact And.intro trivial (And.intro ⟨by omega, by omega⟩ (hQ _ _ z83 (by omega) (by omega) ZS88 X89 p79 (A87.2 (by omega))))
