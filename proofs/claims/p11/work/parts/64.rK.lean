/-! ### questions -/
def zk_X9_questions : zC := fun As μ Q => ∃ (a1 : Int) (a2 : Int) (a3 : Int) (C : Int) (Pn : Int) (tt : Int) (K : Int), As = [.inr (.inr (66, 66)), .inl a1, .inl a2, .inl a3] ∧ (0 ≤ a1 ∧ a1 ≤ 19999) ∧ (0 ≤ a2 ∧ a2 ≤ 19999) ∧ (0 ≤ a3 ∧ a3 ≤ 3000) ∧ (zQS μ C Pn tt K) ∧ (μ.1 66 ((46 : Nat) : Int) = 0) ∧ (zTy μ a1) ∧ (zTy μ a2) ∧ (∀ (v : Int) (μ' : zM), zfx [67, 68, 69, 70, 71, 72, 73, 74, 88, 89, 90, 91, 92, 93, 94, 95, 97, 98, 99, 107] [8, 45, 46, 47, 48, 60, 74, 75, 76] μ μ' → (-4) ≤ v → v ≤ 2 → (zQS μ' C Pn tt K) → (zQx μ μ') → Q (some (.inl v)) μ')
set_option maxHeartbeats 2000000 in
theorem zm_X9_questions {g : zΓ} (hg : zg g) (d : Nat) (hd : 9 ≤ d) : zOk g d 171 zk_X9_questions := by
  obtain ⟨d, rfl⟩ : ∃ d', d = d' + 1 := ⟨d - 1, by omega⟩
  refine zOk_loop hg (show mt_tab[171]? = some mt_X9_questions from rfl) ([(32, [0, 4])], []) 59 rfl fun As μ Q hC => ?_
  obtain ⟨a1, a2, a3, C, Pn, tt, K, rfl, ha1, ha2, ha3, hp0, hp1, hp2, hp3, hQ⟩ := hC
  obtain ⟨g1, wg1⟩ : ∃ z : Int, μ.1 66 ((46 : Nat) : Int) = z := ⟨_, rfl⟩
  obtain ⟨g2, wg2⟩ : ∃ z : Int, μ.1 66 ((75 : Nat) : Int) = z := ⟨_, rfl⟩
  obtain ⟨g3, wg3⟩ : ∃ z : Int, μ.1 66 ((74 : Nat) : Int) = z := ⟨_, rfl⟩
  have z0 : zfx [67, 68, 69, 70, 71, 72, 73, 74, 88, 89, 90, 91, 92, 93, 94, 95, 97, 98, 99, 107] [8, 45, 46, 47, 48, 60, 74, 75, 76] μ μ := zfx_x μ
  refine ⟨rfl, fun pc vs μ' n => ∃ (v4 : Int), vs = [.inr (.inr (66, 66)), .inl v4] ∧ zfx [67, 68, 69, 70, 71, 72, 73, 74, 88, 89, 90, 91, 92, 93, 94, 95, 97, 98, 99, 107] [8, 45, 46, 47, 48, 60, 74, 75, 76] μ μ' ∧ (0 ≤ v4 ∧ v4 ≤ 2) ∧ (zQS μ' C Pn tt K) ∧ (zQx μ μ') ∧ (0 ≤ μ'.1 66 ((46 : Nat) : Int) ∧ μ'.1 66 ((46 : Nat) : Int) ≤ μ'.1 66 ((75 : Nat) : Int) ∧ μ'.1 66 ((75 : Nat) : Int) ≤ 3000 ∧ 0 ≤ μ'.1 66 ((74 : Nat) : Int) ∧ μ'.1 66 ((74 : Nat) : Int) ≤ 40) ∧ (v4 = 2 → 1 ≤ μ'.1 66 ((74 : Nat) : Int) ∧ zFs μ' (μ'.1 66 ((74 : Nat) : Int) - 1) ∧ zFw μ' (μ'.1 66 ((74 : Nat) : Int) - 1)) ∧ (v4 ≠ 2 → zFs μ' (μ'.1 66 ((74 : Nat) : Int))) ∧ n = (Int.toNat (2 * (μ'.1 66 ((75 : Nat) : Int) - μ'.1 66 ((46 : Nat) : Int)) + μ'.1 66 ((74 : Nat) : Int))), ?_, ?_, trivial⟩
  · refine And.intro ⟨by omega, by omega⟩ ?_
    intro m4 em4
    have z5 := zfx_f z0 em4 rfl
    have w6 : m4.1 66 ((46 : Nat) : Int) = g1 := by rw [em4]; exact (zu_nk (by decide)).trans wg1
    have w7 : m4.1 66 ((75 : Nat) : Int) = g2 := by rw [em4]; exact (zu_nk (by decide)).trans wg2
    have w8 : m4.1 66 ((74 : Nat) : Int) = 0 := by rw [em4]; exact zu_at
    refine And.intro ⟨by omega, by omega⟩ ?_
    intro m9 em9
    have z10 := zfx_f z5 em9 rfl
    have w11 : m9.1 66 ((46 : Nat) : Int) = g1 := by rw [em9]; exact (zu_nk (by decide)).trans w6
    have w12 : m9.1 66 ((75 : Nat) : Int) = a3 := by rw [em9]; exact zu_at
    have w13 : m9.1 66 ((74 : Nat) : Int) = 0 := by rw [em9]; exact (zu_nk (by decide)).trans w8
    refine And.intro ⟨by omega, by omega⟩ ?_
    intro m14 em14
    have z15 := zfx_f z10 em14 rfl
    have w16 : m14.1 66 ((46 : Nat) : Int) = g1 := by rw [em14]; exact (zu_nk (by decide)).trans w11
    have w17 : m14.1 66 ((75 : Nat) : Int) = a3 := by rw [em14]; exact (zu_nk (by decide)).trans w12
    have w18 : m14.1 66 ((74 : Nat) : Int) = 0 := by rw [em14]; exact (zu_nk (by decide)).trans w13
    have C1 : ∀ j : Nat, j ≠ 66 → m14.1 j = μ.1 j := fun j hj => by rw [em14, zu_ne hj, em9, zu_ne hj, em4, zu_ne hj]
    have ZS := zQS_fr (m' := m14) hp0 (fun j a b => C1 j (by omega)) (fun j a b => C1 j (by omega)) (fun j a b => C1 j (by omega)) (C1 98 (by decide)) (by rw [em14, zu_nk (by decide), em9, zu_nk (by decide), em4, zu_nk (by decide)]) (by rw [em14, zu_nk (by decide), em9, zu_nk (by decide), em4, zu_nk (by decide)]) (by rw [em14, zu_nk (by decide), em9, zu_nk (by decide), em4, zu_nk (by decide)]) (by rw [em14, zu_nk (by decide), em9, zu_nk (by decide), em4, zu_nk (by decide)])
    have X1 := zQx_same (m := m14) (μ := μ) (fun j a b => C1 j (by omega)) (fun j a b => C1 j (by omega)) (by rw [em14, zu_nk (by decide), em9, zu_nk (by decide), em4, zu_nk (by decide)]) (by rw [em14, zu_nk (by decide), em9, zu_nk (by decide), em4, zu_nk (by decide)]) (by rw [em14, zu_nk (by decide), em9, zu_nk (by decide), em4, zu_nk (by decide)]) (by rw [em14, zu_nk (by decide), em9, zu_nk (by decide), em4, zu_nk (by decide)])
    have X8 : m14.1 66 ((8 : Nat) : Int) = μ.1 66 ((8 : Nat) : Int) := by rw [em14, zu_nk (by decide), em9, zu_nk (by decide), em4, zu_nk (by decide)]
    have W74 : m14.1 66 ((74 : Nat) : Int) = 0 := by rw [em14, zu_nk (by decide), em9, zu_nk (by decide), em4]; exact zu_at
    refine ⟨zk_X9_ask2, zm_X9_ask2 hg d (by omega), _, _, rfl, ⟨by omega, by omega⟩, ⟨by omega, by omega⟩, (by (try rw [w16]) <;> (try rw [w17]) <;> (try rw [w18]) <;> (try rw [wg1]) <;> (try rw [wg2]) <;> (try rw [wg3]) <;> omega), ?_⟩
    intro x19 m20 qm20 kx19 lx19 p21 p22 p23 p24
    have z25 := zfx_t z15 qm20 rfl rfl
    have w26 : m20.1 66 ((75 : Nat) : Int) = a3 := (qm20.2.1 75 rfl).trans w17
    obtain ⟨g27, wg27⟩ : ∃ z : Int, m20.1 66 ((46 : Nat) : Int) = z := ⟨_, rfl⟩
    obtain ⟨g28, wg28⟩ : ∃ z : Int, m20.1 66 ((74 : Nat) : Int) = z := ⟨_, rfl⟩
    have QF : x19 = 1 → zFw m20 0 := fun h => by have h3 := p24 h; rw [W74] at h3; unfold zFw; rw [h3.1, h3.2.1]; exact ⟨zTy_same hp2 (by rw [qm20.1 67 (by decide) rfl, C1 67 (by decide)]) (by rw [qm20.2.1 8 rfl]; exact X8), zTy_same hp3 (by rw [qm20.1 67 (by decide) rfl, C1 67 (by decide)]) (by rw [qm20.2.1 8 rfl]; exact X8)⟩
    have ZA := zQS_ask ZS (fun j a b c d => qm20.1 j a (zanyF (by simp <;> omega))) (qm20.2.1 8 rfl) (qm20.2.1 45 rfl) (qm20.2.1 48 rfl) (qm20.2.1 60 rfl)
    have XA := zQx_t X1 (zQx_same (m := m20) (μ := m14) (fun j a b => qm20.1 j (by omega) (zanyF (by simp <;> omega))) (fun j a b => qm20.1 j (by omega) (zanyF (by simp <;> omega))) (qm20.2.1 8 rfl) (qm20.2.1 45 rfl) (qm20.2.1 48 rfl) (qm20.2.1 60 rfl))
    refine And.intro ⟨by omega, by omega⟩ (And.intro (fun c29 => ?_) (fun c29 => ?_))
    · refine Exists.intro (Int.toNat (2 * (m20.1 66 ((75 : Nat) : Int) - m20.1 66 ((46 : Nat) : Int)) + m20.1 66 ((74 : Nat) : Int))) ?_
      exact ⟨_, rfl, z25, ⟨by omega, by omega⟩, ZA, XA, p21, (fun _ => by have h1 : m20.1 66 ((74 : Nat) : Int) = 1 := (by have h2 := p22; have h3 := W74; omega); rw [h1]; exact ⟨by omega, fun q a b => by omega, QF (by omega)⟩), (fun h => absurd rfl h), rfl⟩
    · intro x30 hx30 kx30 lx30
      exact And.intro trivial (And.intro ⟨by omega, by omega⟩ (hQ _ _ z25 (by omega) (by omega) ZA XA))
  · intro vs m0 n hI
    clear z0
    obtain ⟨v4, rfl, z0, hv4, i0, i1, i2, i3, i4, rfl⟩ := hI
    obtain ⟨g31, wg31⟩ : ∃ z : Int, m0.1 66 ((46 : Nat) : Int) = z := ⟨_, rfl⟩
    obtain ⟨g32, wg32⟩ : ∃ z : Int, m0.1 66 ((75 : Nat) : Int) = z := ⟨_, rfl⟩
    obtain ⟨g33, wg33⟩ : ∃ z : Int, m0.1 66 ((74 : Nat) : Int) = z := ⟨_, rfl⟩
    intro x34 hx34 kx34 lx34
    rw [wg33] at hx34
    refine And.intro ⟨by omega, by omega⟩ (And.intro (fun c35 => ?_) (fun c35 => ?_))
    · exact And.intro trivial (And.intro ⟨by omega, by omega⟩ (hQ _ _ z0 (by omega) (by omega) i0 i1))
    · intro x36 hx36 kx36 lx36
      rw [wg33] at hx36
      have DD := i2
      refine And.intro ⟨⟨by omega, by omega⟩, ⟨by omega, by omega⟩⟩ (And.intro (fun c37 => ?_) (fun c37 => ?_))
      · refine ⟨zk_X9_resumed, zm_X9_resumed hg d (by omega), _, _, _, _, _, _, rfl, ⟨by omega, by omega⟩, ⟨by omega, by omega⟩, i0, i2, (by omega), (zFs_down (i4 (by omega)) (by omega)), ((i4 (by omega)) (x36 - 1) (by omega) (by omega)).1, ((i4 (by omega)) (x36 - 1) (by omega) (by omega)).2, ?_⟩
        intro x38 m39 qm39 kx38 lx38 p40 p41 p42 p43
        have z44 := zfx_t z0 qm39 rfl rfl
        have w45 : m39.1 66 ((75 : Nat) : Int) = g32 := (qm39.2.1 75 rfl).trans wg32
        obtain ⟨g46, wg46⟩ : ∃ z : Int, m39.1 66 ((46 : Nat) : Int) = z := ⟨_, rfl⟩
        obtain ⟨g47, wg47⟩ : ∃ z : Int, m39.1 66 ((74 : Nat) : Int) = z := ⟨_, rfl⟩
        refine And.intro ⟨⟨by omega, by omega⟩, ⟨by omega, by omega⟩⟩ (And.intro (fun c48 => ?_) (fun c48 => ?_))
        · refine And.intro ⟨⟨by omega, by omega⟩, ⟨by omega, by omega⟩⟩ (And.intro (fun c49 => ?_) (fun c49 => ?_))
          · refine Exists.intro (Int.toNat (2 * (m39.1 66 ((75 : Nat) : Int) - m39.1 66 ((46 : Nat) : Int)) + m39.1 66 ((74 : Nat) : Int))) (And.intro (by have h1 := p43.1 (by omega); have h2 := p42; (try rw [wg46]) <;> (try rw [w45]) <;> (try rw [wg47]) <;> (try rw [wg31]) <;> (try rw [wg32]) <;> (try rw [wg33]) <;> (try rw [wg1]) <;> (try rw [wg2]) <;> (try rw [wg3]) <;> omega) ?_)
            exact ⟨_, rfl, z44, ⟨by omega, by omega⟩, p40, (zQx_t i1 p41), p42, (fun _ => by have h := p43.1 (by omega); rw [show m39.1 66 ((74 : Nat) : Int) - 1 = (x36 - 1) + 1 by omega]; exact ⟨by omega, h.2.2.1, h.2.2.2⟩), (fun h => absurd (show x38 = 2 by omega) h), rfl⟩
          · refine And.intro ⟨by omega, by omega⟩ ?_
            intro m50 em50
            have z51 := zfx_f z44 em50 rfl
            have w52 : m50.1 66 ((46 : Nat) : Int) = g46 := by rw [em50]; exact (zu_nk (by decide)).trans wg46
            have w53 : m50.1 66 ((75 : Nat) : Int) = g32 := by rw [em50]; exact (zu_nk (by decide)).trans w45
            have w54 : m50.1 66 ((74 : Nat) : Int) = (x36 - 1) := by rw [em50]; exact zu_at
            refine Exists.intro (Int.toNat (2 * (m50.1 66 ((75 : Nat) : Int) - m50.1 66 ((46 : Nat) : Int)) + m50.1 66 ((74 : Nat) : Int))) (And.intro (by have h1 := p43.2 (by omega); have h2 := p42; (try rw [w52]) <;> (try rw [w53]) <;> (try rw [w54]) <;> (try rw [wg31]) <;> (try rw [wg32]) <;> (try rw [wg33]) <;> (try rw [wg1]) <;> (try rw [wg2]) <;> (try rw [wg3]) <;> omega) ?_)
            exact ⟨_, rfl, z51, ⟨by omega, by omega⟩, (zQS_fr (m' := m50) p40 (fun j a b => by rw [em50, zu_ne (by omega)]) (fun j a b => by rw [em50, zu_ne (by omega)]) (fun j a b => by rw [em50, zu_ne (by omega)]) (by rw [em50, zu_ne (by decide)]) (by rw [em50]; exact zu_nk (by decide)) (by rw [em50]; exact zu_nk (by decide)) (by rw [em50]; exact zu_nk (by decide)) (by rw [em50]; exact zu_nk (by decide))), (zQx_fr (c := m50) (zQx_t i1 p41) (fun j a b => by rw [em50, zu_ne (by omega)]) (fun j a b => by rw [em50, zu_ne (by omega)]) (by rw [em50]; exact zu_nk (by decide)) (by rw [em50]; exact zu_nk (by decide)) (by rw [em50]; exact zu_nk (by decide)) (by rw [em50]; exact zu_nk (by decide))), (by (try rw [w52]) <;> (try rw [w53]) <;> (try rw [w54]) <;> (try rw [wg31]) <;> (try rw [wg32]) <;> (try rw [wg33]) <;> (try rw [wg1]) <;> (try rw [wg2]) <;> (try rw [wg3]) <;> omega), (fun h => by omega), (fun h => by rw [show m50.1 66 ((74 : Nat) : Int) = (x36 - 1) by rw [em50, zu_at]]; exact zFs_same (p43.2 (by omega)).2.2 (fun j hj => by rw [em50, zu_ne hj]) (by rw [em50]; exact zu_nk (by decide))), rfl⟩
        · intro x55 hx55 kx55 lx55
          exact And.intro trivial (And.intro ⟨by omega, by omega⟩ (hQ _ _ z44 (by omega) (by omega) p40 (zQx_t i1 p41)))
      · refine ⟨zk_X9_opened, zm_X9_opened hg d (by omega), _, _, _, _, _, rfl, ⟨by omega, by omega⟩, i0, i2, (by omega), (by have := (i3 (by omega)).2.1; rw [show (x36 - 1) = m0.1 66 ((74 : Nat) : Int) - 1 by omega]; exact this), (by have := (i3 (by omega)).2.2; rw [show (x36 - 1) = m0.1 66 ((74 : Nat) : Int) - 1 by omega]; exact this), ?_⟩
        intro x56 m57 qm57 kx56 lx56 p58 p59 p60 p61
        have z62 := zfx_t z0 qm57 rfl rfl
        have w63 : m57.1 66 ((75 : Nat) : Int) = g32 := (qm57.2.1 75 rfl).trans wg32
        obtain ⟨g64, wg64⟩ : ∃ z : Int, m57.1 66 ((46 : Nat) : Int) = z := ⟨_, rfl⟩
        obtain ⟨g65, wg65⟩ : ∃ z : Int, m57.1 66 ((74 : Nat) : Int) = z := ⟨_, rfl⟩
        refine And.intro ⟨⟨by omega, by omega⟩, ⟨by omega, by omega⟩⟩ (And.intro (fun c66 => ?_) (fun c66 => ?_))
        · refine And.intro ⟨⟨by omega, by omega⟩, ⟨by omega, by omega⟩⟩ (And.intro (fun c67 => ?_) (fun c67 => ?_))
          · refine Exists.intro (Int.toNat (2 * (m57.1 66 ((75 : Nat) : Int) - m57.1 66 ((46 : Nat) : Int)) + m57.1 66 ((74 : Nat) : Int))) (And.intro (by have h1 := p61.1 (by omega); have h2 := p60; (try rw [wg64]) <;> (try rw [w63]) <;> (try rw [wg65]) <;> (try rw [wg31]) <;> (try rw [wg32]) <;> (try rw [wg33]) <;> (try rw [wg1]) <;> (try rw [wg2]) <;> (try rw [wg3]) <;> omega) ?_)
            exact ⟨_, rfl, z62, ⟨by omega, by omega⟩, p58, (zQx_t i1 p59), p60, (fun _ => by have h := p61.1 (by omega); rw [show m57.1 66 ((74 : Nat) : Int) - 1 = (x36 - 1) + 1 by omega]; exact ⟨by omega, h.2.2.1, h.2.2.2⟩), (fun h => absurd (show x56 = 2 by omega) h), rfl⟩
          · refine And.intro ⟨by omega, by omega⟩ ?_
            intro m68 em68
            have z69 := zfx_f z62 em68 rfl
            have w70 : m68.1 66 ((46 : Nat) : Int) = g64 := by rw [em68]; exact (zu_nk (by decide)).trans wg64
            have w71 : m68.1 66 ((75 : Nat) : Int) = g32 := by rw [em68]; exact (zu_nk (by decide)).trans w63
            have w72 : m68.1 66 ((74 : Nat) : Int) = (x36 - 1) := by rw [em68]; exact zu_at
            refine Exists.intro (Int.toNat (2 * (m68.1 66 ((75 : Nat) : Int) - m68.1 66 ((46 : Nat) : Int)) + m68.1 66 ((74 : Nat) : Int))) (And.intro (by have h1 := p61.2 (by omega); have h2 := p60; (try rw [w70]) <;> (try rw [w71]) <;> (try rw [w72]) <;> (try rw [wg31]) <;> (try rw [wg32]) <;> (try rw [wg33]) <;> (try rw [wg1]) <;> (try rw [wg2]) <;> (try rw [wg3]) <;> omega) ?_)
            exact ⟨_, rfl, z69, ⟨by omega, by omega⟩, (zQS_fr (m' := m68) p58 (fun j a b => by rw [em68, zu_ne (by omega)]) (fun j a b => by rw [em68, zu_ne (by omega)]) (fun j a b => by rw [em68, zu_ne (by omega)]) (by rw [em68, zu_ne (by decide)]) (by rw [em68]; exact zu_nk (by decide)) (by rw [em68]; exact zu_nk (by decide)) (by rw [em68]; exact zu_nk (by decide)) (by rw [em68]; exact zu_nk (by decide))), (zQx_fr (c := m68) (zQx_t i1 p59) (fun j a b => by rw [em68, zu_ne (by omega)]) (fun j a b => by rw [em68, zu_ne (by omega)]) (by rw [em68]; exact zu_nk (by decide)) (by rw [em68]; exact zu_nk (by decide)) (by rw [em68]; exact zu_nk (by decide)) (by rw [em68]; exact zu_nk (by decide))), (by (try rw [w70]) <;> (try rw [w71]) <;> (try rw [w72]) <;> (try rw [wg31]) <;> (try rw [wg32]) <;> (try rw [wg33]) <;> (try rw [wg1]) <;> (try rw [wg2]) <;> (try rw [wg3]) <;> omega), (fun h => by omega), (fun h => by rw [show m68.1 66 ((74 : Nat) : Int) = (x36 - 1) by rw [em68, zu_at]]; exact zFs_same (p61.2 (by omega)).2.2 (fun j hj => by rw [em68, zu_ne hj]) (by rw [em68]; exact zu_nk (by decide))), rfl⟩
        · intro x73 hx73 kx73 lx73
          exact And.intro trivial (And.intro ⟨by omega, by omega⟩ (hQ _ _ z62 (by omega) (by omega) p58 (zQx_t i1 p59)))
