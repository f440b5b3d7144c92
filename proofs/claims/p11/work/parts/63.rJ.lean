/-! ### opened resumed -/
def zk_X9_opened : zC := fun As μ Q => ∃ (a1 : Int) (C : Int) (Pn : Int) (tt : Int) (K : Int), As = [.inr (.inr (66, 66)), .inl a1] ∧ (0 ≤ a1 ∧ a1 ≤ 39) ∧ (zQS μ C Pn tt K) ∧ (0 ≤ μ.1 66 ((46 : Nat) : Int) ∧ μ.1 66 ((46 : Nat) : Int) ≤ μ.1 66 ((75 : Nat) : Int) ∧ μ.1 66 ((75 : Nat) : Int) ≤ 3000 ∧ 0 ≤ μ.1 66 ((74 : Nat) : Int) ∧ μ.1 66 ((74 : Nat) : Int) ≤ 40) ∧ (μ.1 66 ((74 : Nat) : Int) = a1 + 1) ∧ (zFs μ a1) ∧ (zFw μ a1) ∧ (∀ (v : Int) (μ' : zM), zfx [67, 68, 69, 70, 71, 72, 73, 74, 88, 89, 90, 91, 92, 93, 94, 95, 97, 98, 99, 107] [8, 45, 46, 47, 48, 60, 74, 76] μ μ' → 0 ≤ v → v ≤ 3 → (zQS μ' C Pn tt K) → (zQx μ μ') → (0 ≤ μ'.1 66 ((46 : Nat) : Int) ∧ μ'.1 66 ((46 : Nat) : Int) ≤ μ'.1 66 ((75 : Nat) : Int) ∧ μ'.1 66 ((75 : Nat) : Int) ≤ 3000 ∧ 0 ≤ μ'.1 66 ((74 : Nat) : Int) ∧ μ'.1 66 ((74 : Nat) : Int) ≤ 40) → (zAp μ μ' a1 v) → Q (some (.inl v)) μ')
set_option maxHeartbeats 2000000 in
theorem zm_X9_opened {g : zΓ} (hg : zg g) (d : Nat) (hd : 8 ≤ d) : zOk g d 168 zk_X9_opened := by
  obtain ⟨d, rfl⟩ : ∃ d', d = d' + 1 := ⟨d - 1, by omega⟩
  refine zOk_straight hg (show mt_tab[168]? = some mt_X9_opened from rfl) [] 64 rfl fun As μ Q hC => ?_
  obtain ⟨a1, C, Pn, tt, K, rfl, ha1, hp0, hp1, hp2, hp3, hp4, hQ⟩ := hC
  obtain ⟨g1, wg1⟩ : ∃ z : Int, μ.1 66 ((46 : Nat) : Int) = z := ⟨_, rfl⟩
  obtain ⟨g2, wg2⟩ : ∃ z : Int, μ.1 66 ((75 : Nat) : Int) = z := ⟨_, rfl⟩
  obtain ⟨g3, wg3⟩ : ∃ z : Int, μ.1 66 ((74 : Nat) : Int) = z := ⟨_, rfl⟩
  refine ⟨rfl, ?_⟩
  have z0 : zfx [67, 68, 69, 70, 71, 72, 73, 74, 88, 89, 90, 91, 92, 93, 94, 95, 97, 98, 99, 107] [8, 45, 46, 47, 48, 60, 74, 76] μ μ := zfx_x μ
  refine And.intro ⟨by omega, by omega⟩ ?_
  intro x4 hx4 kx4 lx4
  refine And.intro ⟨by omega, by omega⟩ ?_
  intro x5 hx5 kx5 lx5
  have TF := hp4.1
  have TT := hp4.2
  rw [← hx4] at TF
  rw [← hx5] at TT
  refine And.intro ⟨⟨by omega, by omega⟩, ⟨by omega, by omega⟩⟩ (And.intro (fun c6 => ?_) (fun c6 => ?_))
  · exact And.intro trivial (And.intro ⟨by omega, by omega⟩ (hQ _ _ z0 (by omega) (by omega) hp0 (zQx_r _) (by (try rw [wg1]) <;> (try rw [wg2]) <;> (try rw [wg3]) <;> omega) (zAp_01 (Or.inr rfl) hp2 rfl hp3)))
  · clear c6
    refine And.intro ⟨by omega, by omega⟩ ?_
    intro x7 hx7 kx7 lx7
    refine And.intro ⟨⟨by omega, by omega⟩, ⟨by omega, by omega⟩⟩ (And.intro (fun c8 => ?_) (fun c8 => ?_))
    · clear c8
      refine And.intro ⟨by omega, by omega⟩ ?_
      intro x9 hx9 kx9 lx9
      refine And.intro ⟨⟨by omega, by omega⟩, ⟨by omega, by omega⟩⟩ (And.intro (fun c10 => ?_) (fun c10 => ?_))
      · refine ⟨zk_X9_behindFloor, zm_X9_behindFloor hg d (by omega), _, _, _, _, _, rfl, ⟨by omega, by omega⟩, hp0, hp1, hp2, hp3, hp4, ?_⟩
        intro x11 m12 qm12 kx11 lx11 p13 p14 p15 p16
        have z17 := zfx_t z0 qm12 rfl rfl
        have w18 : m12.1 66 ((75 : Nat) : Int) = g2 := (qm12.2.1 75 rfl).trans wg2
        obtain ⟨g19, wg19⟩ : ∃ z : Int, m12.1 66 ((46 : Nat) : Int) = z := ⟨_, rfl⟩
        obtain ⟨g20, wg20⟩ : ∃ z : Int, m12.1 66 ((74 : Nat) : Int) = z := ⟨_, rfl⟩
        exact And.intro trivial (And.intro ⟨by omega, by omega⟩ (hQ _ _ z17 (by omega) (by omega) p13 p14 p15 p16))
      · refine And.intro ⟨by omega, by omega⟩ ?_
        intro x21 hx21 kx21 lx21
        refine And.intro ⟨by omega, by omega⟩ ?_
        intro x22 hx22 kx22 lx22
        have PF := hx22
        have PV := hx21
        refine And.intro ⟨by omega, by omega⟩ (And.intro (fun c23 => ?_) (fun c23 => ?_))
        · refine ⟨zk_X9_behindFloor, zm_X9_behindFloor hg d (by omega), _, _, _, _, _, rfl, ⟨by omega, by omega⟩, hp0, hp1, hp2, hp3, hp4, ?_⟩
          intro x24 m25 qm25 kx24 lx24 p26 p27 p28 p29
          have z30 := zfx_t z0 qm25 rfl rfl
          have w31 : m25.1 66 ((75 : Nat) : Int) = g2 := (qm25.2.1 75 rfl).trans wg2
          obtain ⟨g32, wg32⟩ : ∃ z : Int, m25.1 66 ((46 : Nat) : Int) = z := ⟨_, rfl⟩
          obtain ⟨g33, wg33⟩ : ∃ z : Int, m25.1 66 ((74 : Nat) : Int) = z := ⟨_, rfl⟩
          exact And.intro trivial (And.intro ⟨by omega, by omega⟩ (hQ _ _ z30 (by omega) (by omega) p26 p27 p28 p29))
        · refine And.intro ⟨by omega, by omega⟩ (And.intro ⟨by omega, by omega⟩ ?_)
          intro m34 em34
          have z35 := zfx_r z0 em34 rfl (by decide)
          have w36 : m34.1 66 ((46 : Nat) : Int) = g1 := by rw [em34]; exact (congrFun (zu_ne (by decide)) _).trans wg1
          have w37 : m34.1 66 ((75 : Nat) : Int) = g2 := by rw [em34]; exact (congrFun (zu_ne (by decide)) _).trans wg2
          have w38 : m34.1 66 ((74 : Nat) : Int) = g3 := by rw [em34]; exact (congrFun (zu_ne (by decide)) _).trans wg3
          have W1 := zP_1 hp0 hp3 em34 rfl (Or.inl rfl)
          have E93 : m34.1 93 a1 = 1 := by rw [em34, zu_at]
          have FQ : zFq m34 a1 := by unfold zFq; rw [E93, W1.2.2.2.2 91 (by decide), W1.2.2.2.2 92 (by decide), ← hx4, ← hx5]; exact ⟨zTy_old TF W1.2.2.1.1 W1.2.2.1.2.1, zTy_old TT W1.2.2.1.1 W1.2.2.1.2.1, fun h => by omega, fun h => by omega⟩
          have FS1 := zFs_up W1.2.1 FQ (by omega)
          refine And.intro ⟨by omega, by omega⟩ ?_
          intro x39 hx39 kx39 lx39
          refine And.intro ⟨by omega, by omega⟩ ?_
          intro x40 hx40 kx40 lx40
          have VV : x39 = μ.1 68 x5 := by rw [hx39, W1.2.2.2.2 68 (by decide)]
          have FV := (hp0.1.2.2.2.2.1 x5 TT.1.1 TT.1.2).2.2.2.1 (by omega)
          have VF : x40 = μ.1 90 (μ.1 68 x5) := by rw [hx40, W1.2.2.2.2 90 (by decide), VV]
          have FLT : zTy μ x40 := by have hz : 0 ≤ x40 := (by rw [VF]; have h1 := PF; rw [PV] at h1; omega); rw [VF] at hz ⊢; exact (hp0.1.2.2.2.2.2.1 (μ.1 68 x5) (by omega) FV.1).2.2 hz
          have FL0 := FLT.1
          refine ⟨zk_X9_ask2, zm_X9_ask2 hg d (by omega), _, _, rfl, ⟨by omega, by omega⟩, ⟨by omega, by omega⟩, (by (try rw [w36]) <;> (try rw [w37]) <;> (try rw [w38]) <;> (try rw [wg1]) <;> (try rw [wg2]) <;> (try rw [wg3]) <;> omega), ?_⟩
          intro x41 m42 qm42 kx41 lx41 p43 p44 p45 p46
          have z47 := zfx_t z35 qm42 rfl rfl
          have w48 : m42.1 66 ((75 : Nat) : Int) = g2 := (qm42.2.1 75 rfl).trans w37
          obtain ⟨g49, wg49⟩ : ∃ z : Int, m42.1 66 ((46 : Nat) : Int) = z := ⟨_, rfl⟩
          obtain ⟨g50, wg50⟩ : ∃ z : Int, m42.1 66 ((74 : Nat) : Int) = z := ⟨_, rfl⟩
          clear w36 w37 w38
          have A51 := zAp_ask (μ := μ) (d := a1) W1.1.1 FS1 (show m34.1 66 ((74 : Nat) : Int) = m34.1 66 ((74 : Nat) : Int) from rfl) (by rw [W1.2.2.2.1]; exact hp2) (by rw [W1.2.2.2.1]) (zTy_old TF W1.2.2.1.1 W1.2.2.1.2.1) (zTy_old FLT W1.2.2.1.1 W1.2.2.1.2.1) (fun j a b c d => qm42.1 j a (zanyF (by simp <;> omega))) (qm42.2.1 8 rfl) (qm42.2.1 45 rfl) (qm42.2.1 48 rfl) (qm42.2.1 60 rfl) p44 p45 p46
          have ZS52 := zQS_ask W1.1 (fun j a b c d => qm42.1 j a (zanyF (by simp <;> omega))) (qm42.2.1 8 rfl) (qm42.2.1 45 rfl) (qm42.2.1 48 rfl) (qm42.2.1 60 rfl)
          have X53 := zQx_t W1.2.2.1 A51.1
          refine And.intro ⟨by omega, by omega⟩ (And.intro (fun c54 => ?_) (fun c54 => ?_))
          · exact And.intro trivial (And.intro ⟨by omega, by omega⟩ (hQ _ _ z47 (by omega) (by omega) ZS52 X53 p43 zAp_3))
          · exact And.intro trivial (And.intro ⟨by omega, by omega⟩ (hQ _ _ z47 (by omega) (by omega) ZS52 X53 p43 (A51.2 (by omega))))
    · exact And.intro trivial (And.intro ⟨by omega, by omega⟩ (hQ _ _ z0 (by omega) (by omega) hp0 (zQx_r _) (by (try rw [wg1]) <;> (try rw [wg2]) <;> (try rw [wg3]) <;> omega) (zAp_01 (Or.inr rfl) hp2 rfl hp3)))
def zk_X9_resumed : zC := fun As μ Q => ∃ (a1 : Int) (a2 : Int) (C : Int) (Pn : Int) (tt : Int) (K : Int), As = [.inr (.inr (66, 66)), .inl a1, .inl a2] ∧ (0 ≤ a1 ∧ a1 ≤ 39) ∧ (0 ≤ a2 ∧ a2 ≤ 1) ∧ (zQS μ C Pn tt K) ∧ (0 ≤ μ.1 66 ((46 : Nat) : Int) ∧ μ.1 66 ((46 : Nat) : Int) ≤ μ.1 66 ((75 : Nat) : Int) ∧ μ.1 66 ((75 : Nat) : Int) ≤ 3000 ∧ 0 ≤ μ.1 66 ((74 : Nat) : Int) ∧ μ.1 66 ((74 : Nat) : Int) ≤ 40) ∧ (μ.1 66 ((74 : Nat) : Int) = a1 + 1) ∧ (zFs μ a1) ∧ (zFq μ a1) ∧ (1 ≤ μ.1 93 a1) ∧ (∀ (v : Int) (μ' : zM), zfx [67, 68, 69, 70, 71, 72, 73, 74, 88, 89, 90, 91, 92, 93, 94, 95, 97, 98, 99, 107] [8, 45, 46, 47, 48, 60, 74, 76] μ μ' → 0 ≤ v → v ≤ 3 → (zQS μ' C Pn tt K) → (zQx μ μ') → (0 ≤ μ'.1 66 ((46 : Nat) : Int) ∧ μ'.1 66 ((46 : Nat) : Int) ≤ μ'.1 66 ((75 : Nat) : Int) ∧ μ'.1 66 ((75 : Nat) : Int) ≤ 3000 ∧ 0 ≤ μ'.1 66 ((74 : Nat) : Int) ∧ μ'.1 66 ((74 : Nat) : Int) ≤ 40) → (zAp μ μ' a1 v) → Q (some (.inl v)) μ')
set_option maxHeartbeats 2000000 in
theorem zm_X9_resumed {g : zΓ} (hg : zg g) (d : Nat) (hd : 8 ≤ d) : zOk g d 170 zk_X9_resumed := by
  obtain ⟨d, rfl⟩ : ∃ d', d = d' + 1 := ⟨d - 1, by omega⟩
  refine zOk_straight hg (show mt_tab[170]? = some mt_X9_resumed from rfl) [] 83 rfl fun As μ Q hC => ?_
  obtain ⟨a1, a2, C, Pn, tt, K, rfl, ha1, ha2, hp0, hp1, hp2, hp3, hp4, hp5, hQ⟩ := hC
  obtain ⟨g1, wg1⟩ : ∃ z : Int, μ.1 66 ((46 : Nat) : Int) = z := ⟨_, rfl⟩
  obtain ⟨g2, wg2⟩ : ∃ z : Int, μ.1 66 ((75 : Nat) : Int) = z := ⟨_, rfl⟩
  obtain ⟨g3, wg3⟩ : ∃ z : Int, μ.1 66 ((74 : Nat) : Int) = z := ⟨_, rfl⟩
  refine ⟨rfl, ?_⟩
  have z0 : zfx [67, 68, 69, 70, 71, 72, 73, 74, 88, 89, 90, 91, 92, 93, 94, 95, 97, 98, 99, 107] [8, 45, 46, 47, 48, 60, 74, 76] μ μ := zfx_x μ
  refine And.intro ⟨by omega, by omega⟩ ?_
  intro x4 hx4 kx4 lx4
  refine And.intro ⟨⟨by omega, by omega⟩, ⟨by omega, by omega⟩⟩ (And.intro (fun c5 => ?_) (fun c5 => ?_))
  · refine And.intro ⟨by omega, by omega⟩ ?_
    intro x6 hx6 kx6 lx6
    refine And.intro ⟨⟨by omega, by omega⟩, ⟨by omega, by omega⟩⟩ (And.intro (fun c7 => ?_) (fun c7 => ?_))
    · refine And.intro ⟨by omega, by omega⟩ (And.intro (fun c8 => ?_) (fun c8 => ?_))
      · refine ⟨zk_X9_pairs, zm_X9_pairs hg d (by omega), _, _, _, _, _, rfl, ⟨by omega, by omega⟩, hp0, hp1, hp2, hp3, hp4, (by omega), ?_⟩
        intro x9 m10 qm10 kx9 lx9 p11 p12 p13 p14
        have z15 := zfx_t z0 qm10 rfl rfl
        have w16 : m10.1 66 ((75 : Nat) : Int) = g2 := (qm10.2.1 75 rfl).trans wg2
        obtain ⟨g17, wg17⟩ : ∃ z : Int, m10.1 66 ((46 : Nat) : Int) = z := ⟨_, rfl⟩
        obtain ⟨g18, wg18⟩ : ∃ z : Int, m10.1 66 ((74 : Nat) : Int) = z := ⟨_, rfl⟩
        exact And.intro trivial (And.intro ⟨by omega, by omega⟩ (hQ _ _ z15 (by omega) (by omega) p11 p12 p13 p14))
      · exact And.intro trivial (And.intro ⟨by omega, by omega⟩ (hQ _ _ z0 (by omega) (by omega) hp0 (zQx_r _) (by (try rw [wg1]) <;> (try rw [wg2]) <;> (try rw [wg3]) <;> omega) (zAp_01 (Or.inl rfl) hp2 rfl hp3)))
    · refine And.intro ⟨⟨by omega, by omega⟩, ⟨by omega, by omega⟩⟩ (And.intro (fun c19 => ?_) (fun c19 => ?_))
      · have H2 := hp4.2.2.1 (by omega)
        refine And.intro ⟨by omega, by omega⟩ ?_
        intro x20 hx20 kx20 lx20
        refine And.intro ⟨by omega, by omega⟩ ?_
        intro x21 hx21 kx21 lx21
        refine ⟨zk_X9_boundsOf, zm_X9_boundsOf hg d (by omega), _, rfl, ⟨by omega, by omega⟩, (by have h1 := H2.1; rw [← hx21] at h1; have h2 := hp4.1.1; rw [← hx21] at h2; rcases h1 with h | h <;> first | exact Or.inl h | exact Or.inr ((hp0.1.1.2.1 x21 h2.1 h2.2).2.2.2.1 h)), ?_⟩
        intro x22 kx22 lx22 p23 p24
        try rw [wg1] at p23
        try rw [wg2] at p23
        try rw [wg3] at p23
        try rw [wg1] at p23
        try rw [wg2] at p23
        try rw [wg3] at p23
        try rw [wg1] at p24
        try rw [wg2] at p24
        try rw [wg3] at p24
        try rw [wg1] at p24
        try rw [wg2] at p24
        try rw [wg3] at p24
        refine And.intro ⟨⟨by omega, by omega⟩, ⟨by omega, by omega⟩⟩ (And.intro (fun c25 => ?_) (fun c25 => ?_))
        · rw [← hx21] at H2
          refine And.intro ⟨by omega, by omega⟩ ?_
          intro x26 hx26 kx26 lx26
          refine And.intro ⟨by omega, by omega⟩ (And.intro ⟨by omega, by omega⟩ ?_)
          intro m27 em27
          have z28 := zfx_r z0 em27 rfl (by decide)
          have w29 : m27.1 66 ((46 : Nat) : Int) = g1 := by rw [em27]; exact (congrFun (zu_ne (by decide)) _).trans wg1
          have w30 : m27.1 66 ((75 : Nat) : Int) = g2 := by rw [em27]; exact (congrFun (zu_ne (by decide)) _).trans wg2
          have w31 : m27.1 66 ((74 : Nat) : Int) = g3 := by rw [em27]; exact (congrFun (zu_ne (by decide)) _).trans wg3
          have W1 := zP_1 hp0 hp3 em27 rfl (Or.inr (Or.inl rfl))
          have BN : zbn m27 x21 = zbn μ x21 := zbn_same (fun j a b => W1.2.2.2.2 j (by omega))
          have E94 : m27.1 94 a1 = (x26 + 1) := by rw [em27, zu_at]
          have HX : zTy μ x21 := by rw [hx21]; exact hp4.1
          have FQ : zFq m27 a1 := by unfold zFq; rw [E94, W1.2.2.2.2 91 (by decide), W1.2.2.2.2 92 (by decide), W1.2.2.2.2 93 (by decide), W1.2.2.2.2 67 (by decide), W1.2.2.2.2 68 (by decide), ← hx21, BN]; exact ⟨zTy_old HX W1.2.2.1.1 W1.2.2.1.2.1, zTy_old hp4.2.1 W1.2.2.1.1 W1.2.2.1.2.1, fun _ => ⟨H2.1, H2.2.1, by omega, by omega⟩, fun h => by omega⟩
          have FS1 := zFs_up W1.2.1 FQ (by rw [W1.2.2.2.2 93 (by decide)]; omega)
          refine And.intro ⟨by omega, by omega⟩ ?_
          intro x32 hx32 kx32 lx32
          rw [W1.2.2.2.2 91 (by decide), ← hx21] at hx32
          refine And.intro ⟨by omega, by omega⟩ ?_
          intro x33 hx33 kx33 lx33
          rw [E94] at hx33
          refine ⟨zk_X9_boundOf2, zm_X9_boundOf2 hg d (by omega), _, _, rfl, ⟨by omega, by omega⟩, ⟨by omega, by omega⟩, (by rw [hx32, W1.2.2.2.2 67 (by decide), W1.2.2.2.2 68 (by decide)]; rcases H2.1 with h | h <;> first | exact Or.inl h | exact Or.inr ((hp0.1.1.2.1 x21 HX.1.1 HX.1.2).2.2.2.1 h)), (by rw [hx32, W1.2.2.2.2 67 (by decide)]; rcases H2.1 with h | h <;> first | exact Or.inl h | exact Or.inr (by have := p23 (by omega); omega)), ?_⟩
          intro x34 kx34 lx34 p35 p36 p37
          try rw [w29] at p35
          try rw [w30] at p35
          try rw [w31] at p35
          try rw [wg1] at p35
          try rw [wg2] at p35
          try rw [wg3] at p35
          try rw [w29] at p36
          try rw [w30] at p36
          try rw [w31] at p36
          try rw [wg1] at p36
          try rw [wg2] at p36
          try rw [wg3] at p36
          try rw [w29] at p37
          try rw [w30] at p37
          try rw [w31] at p37
          try rw [wg1] at p37
          try rw [wg2] at p37
          try rw [wg3] at p37
          have TB : zTy m27 x34 := by rw [p35, hx32]; exact zbo_ty W1.1.1 (zTy_old HX W1.2.2.1.1 W1.2.2.1.2.1) (by rw [W1.2.2.2.2 67 (by decide)]; exact H2.1) (by rw [W1.2.2.2.2 68 (by decide)]; exact H2.2.1) ⟨by omega, by omega⟩
          have TB0 := TB.1
          refine And.intro ⟨by omega, by omega⟩ ?_
          intro x38 hx38 kx38 lx38
          rw [W1.2.2.2.2 92 (by decide)] at hx38
          have TT : zTy μ x38 := by rw [hx38]; exact hp4.2.1
          refine ⟨zk_X9_ask2, zm_X9_ask2 hg d (by omega), _, _, rfl, ⟨by omega, by omega⟩, ⟨by omega, by omega⟩, (by (try rw [w29]) <;> (try rw [w30]) <;> (try rw [w31]) <;> (try rw [wg1]) <;> (try rw [wg2]) <;> (try rw [wg3]) <;> omega), ?_⟩
          intro x39 m40 qm40 kx39 lx39 p41 p42 p43 p44
          have z45 := zfx_t z28 qm40 rfl rfl
          have w46 : m40.1 66 ((75 : Nat) : Int) = g2 := (qm40.2.1 75 rfl).trans w30
          obtain ⟨g47, wg47⟩ : ∃ z : Int, m40.1 66 ((46 : Nat) : Int) = z := ⟨_, rfl⟩
          obtain ⟨g48, wg48⟩ : ∃ z : Int, m40.1 66 ((74 : Nat) : Int) = z := ⟨_, rfl⟩
          clear w29 w30 w31
          have A49 := zAp_ask (μ := μ) (d := a1) W1.1.1 FS1 (show m27.1 66 ((74 : Nat) : Int) = m27.1 66 ((74 : Nat) : Int) from rfl) (by rw [W1.2.2.2.1]; exact hp2) (by rw [W1.2.2.2.1]) TB (zTy_old TT W1.2.2.1.1 W1.2.2.1.2.1) (fun j a b c d => qm40.1 j a (zanyF (by simp <;> omega))) (qm40.2.1 8 rfl) (qm40.2.1 45 rfl) (qm40.2.1 48 rfl) (qm40.2.1 60 rfl) p42 p43 p44
          have ZS50 := zQS_ask W1.1 (fun j a b c d => qm40.1 j a (zanyF (by simp <;> omega))) (qm40.2.1 8 rfl) (qm40.2.1 45 rfl) (qm40.2.1 48 rfl) (qm40.2.1 60 rfl)
          have X51 := zQx_t W1.2.2.1 A49.1
          refine And.intro ⟨by omega, by omega⟩ (And.intro (fun c52 => ?_) (fun c52 => ?_))
          · exact And.intro trivial (And.intro ⟨by omega, by omega⟩ (hQ _ _ z45 (by omega) (by omega) ZS50 X51 p41 zAp_3))
          · exact And.intro trivial (And.intro ⟨by omega, by omega⟩ (hQ _ _ z45 (by omega) (by omega) ZS50 X51 p41 (A49.2 (by omega))))
        · exact And.intro trivial (And.intro ⟨by omega, by omega⟩ (hQ _ _ z0 (by omega) (by omega) hp0 (zQx_r _) (by (try rw [wg1]) <;> (try rw [wg2]) <;> (try rw [wg3]) <;> omega) (zAp_01 (Or.inl rfl) hp2 rfl hp3)))
      · exact And.intro trivial (And.intro ⟨by omega, by omega⟩ (hQ _ _ z0 (by omega) (by omega) hp0 (zQx_r _) (by (try rw [wg1]) <;> (try rw [wg2]) <;> (try rw [wg3]) <;> omega) (zAp_01 (Or.inr rfl) hp2 rfl hp3)))
  · refine And.intro ⟨⟨by omega, by omega⟩, ⟨by omega, by omega⟩⟩ (And.intro (fun c53 => ?_) (fun c53 => ?_))
    · refine ⟨zk_X9_behindFloor, zm_X9_behindFloor hg d (by omega), _, _, _, _, _, rfl, ⟨by omega, by omega⟩, hp0, hp1, hp2, hp3, ⟨hp4.1, hp4.2.1⟩, ?_⟩
      intro x54 m55 qm55 kx54 lx54 p56 p57 p58 p59
      have z60 := zfx_t z0 qm55 rfl rfl
      have w61 : m55.1 66 ((75 : Nat) : Int) = g2 := (qm55.2.1 75 rfl).trans wg2
      obtain ⟨g62, wg62⟩ : ∃ z : Int, m55.1 66 ((46 : Nat) : Int) = z := ⟨_, rfl⟩
      obtain ⟨g63, wg63⟩ : ∃ z : Int, m55.1 66 ((74 : Nat) : Int) = z := ⟨_, rfl⟩
      exact And.intro trivial (And.intro ⟨by omega, by omega⟩ (hQ _ _ z60 (by omega) (by omega) p56 p57 p58 p59))
    · exact And.intro trivial (And.intro ⟨by omega, by omega⟩ (hQ _ _ z0 (by omega) (by omega) hp0 (zQx_r _) (by (try rw [wg1]) <;> (try rw [wg2]) <;> (try rw [wg3]) <;> omega) (zAp_01 (Or.inr rfl) hp2 rfl hp3)))
