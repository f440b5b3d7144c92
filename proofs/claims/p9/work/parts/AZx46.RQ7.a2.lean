/-! ### ask2 with its ends -/
def hk_X9_ask2 : zC := fun As μ Q => ∃ (a1 : Int) (a2 : Int), As = [.inr (.inr (66, 66)), .inl a1, .inl a2] ∧ (0 ≤ a1 ∧ a1 ≤ 19999) ∧ (0 ≤ a2 ∧ a2 ≤ 19999) ∧ (0 ≤ μ.1 66 ((46 : Nat) : Int) ∧ μ.1 66 ((46 : Nat) : Int) ≤ μ.1 66 ((75 : Nat) : Int) ∧ μ.1 66 ((75 : Nat) : Int) ≤ 3000 ∧ 0 ≤ μ.1 66 ((74 : Nat) : Int) ∧ μ.1 66 ((74 : Nat) : Int) ≤ 40) ∧ (∀ (v : Int) (μ' : zM), zfx [91, 92, 93] [46, 47, 74, 76] μ μ' → 0 ≤ v → v ≤ 1 → (0 ≤ μ'.1 66 ((46 : Nat) : Int) ∧ μ'.1 66 ((46 : Nat) : Int) ≤ μ'.1 66 ((75 : Nat) : Int) ∧ μ'.1 66 ((75 : Nat) : Int) ≤ 3000 ∧ 0 ≤ μ'.1 66 ((74 : Nat) : Int) ∧ μ'.1 66 ((74 : Nat) : Int) ≤ 40) → ((v = 0 ∧ μ'.1 66 ((74 : Nat) : Int) = μ.1 66 ((74 : Nat) : Int) ∧ μ'.1 66 ((46 : Nat) : Int) = μ.1 66 ((46 : Nat) : Int)) ∨ (v = 1 ∧ μ'.1 66 ((74 : Nat) : Int) = μ.1 66 ((74 : Nat) : Int) + 1 ∧ μ'.1 66 ((46 : Nat) : Int) = μ.1 66 ((46 : Nat) : Int) + 1)) → (∀ q : Int, q ≠ μ.1 66 ((74 : Nat) : Int) → μ'.1 91 q = μ.1 91 q ∧ μ'.1 92 q = μ.1 92 q ∧ μ'.1 93 q = μ.1 93 q) → (v = 1 → μ'.1 91 (μ.1 66 ((74 : Nat) : Int)) = a1 ∧ μ'.1 92 (μ.1 66 ((74 : Nat) : Int)) = a2 ∧ μ'.1 93 (μ.1 66 ((74 : Nat) : Int)) = 0) → (v = 0 → μ'.1 66 ((76 : Nat) : Int) = (if μ.1 66 ((46 : Nat) : Int) = μ.1 66 ((75 : Nat) : Int) then -3 else -2) ∧ (μ.1 66 ((46 : Nat) : Int) = μ.1 66 ((75 : Nat) : Int) ∨ μ.1 66 ((74 : Nat) : Int) = 40)) → (v = 1 → μ.1 66 ((46 : Nat) : Int) < μ.1 66 ((75 : Nat) : Int) ∧ μ.1 66 ((74 : Nat) : Int) < 40) → Q (some (.inl v)) μ')
set_option maxHeartbeats 1000000 in
theorem hm_X9_ask2 {g : zΓ} (hg : zg g) (d : Nat) (hd : 1 ≤ d) : zOk g d 166 hk_X9_ask2 := by
  obtain ⟨d, rfl⟩ : ∃ d', d = d' + 1 := ⟨d - 1, by omega⟩
  refine zOk_straight hg (show mt_tab[166]? = some mt_X9_ask2 from rfl) [] 70 rfl fun As μ Q hC => ?_
  obtain ⟨a1, a2, rfl, ha1, ha2, hp0, hQ⟩ := hC
  obtain ⟨g1, wg1⟩ : ∃ z : Int, μ.1 66 ((46 : Nat) : Int) = z := ⟨_, rfl⟩
  obtain ⟨g2, wg2⟩ : ∃ z : Int, μ.1 66 ((75 : Nat) : Int) = z := ⟨_, rfl⟩
  obtain ⟨g3, wg3⟩ : ∃ z : Int, μ.1 66 ((74 : Nat) : Int) = z := ⟨_, rfl⟩
  obtain ⟨g4, wg4⟩ : ∃ z : Int, μ.1 66 ((47 : Nat) : Int) = z := ⟨_, rfl⟩
  try rw [wg1] at hp0
  try rw [wg2] at hp0
  try rw [wg3] at hp0
  try rw [wg4] at hp0
  refine ⟨rfl, ?_⟩
  have z0 : zfx [91, 92, 93] [46, 47, 74, 76] μ μ := zfx_x μ
  intro x5 hx5 kx5 lx5
  rw [wg1] at hx5
  intro x6 hx6 kx6 lx6
  rw [wg2] at hx6
  refine And.intro ⟨⟨by omega, by omega⟩, ⟨by omega, by omega⟩⟩ (And.intro (fun c7 => ?_) (fun c7 => ?_))
  · intro x8 hx8 kx8 lx8
    rw [wg1] at hx8
    intro x9 hx9 kx9 lx9
    rw [wg2] at hx9
    refine And.intro ⟨⟨by omega, by omega⟩, ⟨by omega, by omega⟩⟩ (And.intro (fun c10 => ?_) (fun c10 => ?_))
    · refine And.intro ⟨by omega, by omega⟩ ?_
      intro m11 em11
      have z12 := zfx_f z0 em11 rfl
      have w13 : m11.1 66 ((46 : Nat) : Int) = g1 := by rw [em11]; exact (zu_nk (by decide)).trans wg1
      have w14 : m11.1 66 ((75 : Nat) : Int) = g2 := by rw [em11]; exact (zu_nk (by decide)).trans wg2
      have w15 : m11.1 66 ((74 : Nat) : Int) = g3 := by rw [em11]; exact (zu_nk (by decide)).trans wg3
      have w16 : m11.1 66 ((47 : Nat) : Int) = g4 := by rw [em11]; exact (zu_nk (by decide)).trans wg4
      exact And.intro (zrtb (by omega)) (And.intro ⟨by omega, by omega⟩ (hQ _ _ z12 (by omega) (by omega) (by (try rw [w13]) <;> (try rw [w14]) <;> (try rw [w15]) <;> (try rw [w16]) <;> (try rw [wg1]) <;> (try rw [wg2]) <;> (try rw [wg3]) <;> (try rw [wg4]) <;> omega) (by (try rw [w13]) <;> (try rw [w14]) <;> (try rw [w15]) <;> (try rw [w16]) <;> (try rw [wg1]) <;> (try rw [wg2]) <;> (try rw [wg3]) <;> (try rw [wg4]) <;> omega) (fun q hq => by rw [wg3] at hq; exact ⟨by rw [em11, zu_ne (by decide)], by rw [em11, zu_ne (by decide)], by rw [em11, zu_ne (by decide)]⟩) (fun h => by omega) (fun _ => ⟨by rw [em11, zu_at]; first | (rw [if_pos (by omega)]; done) | (rw [if_neg (by omega)]; done) | (exfalso; omega), by omega⟩) (fun h => by exfalso; omega)))
    · refine And.intro ⟨by omega, by omega⟩ ?_
      intro m17 em17
      have z18 := zfx_f z0 em17 rfl
      have w19 : m17.1 66 ((46 : Nat) : Int) = g1 := by rw [em17]; exact (zu_nk (by decide)).trans wg1
      have w20 : m17.1 66 ((75 : Nat) : Int) = g2 := by rw [em17]; exact (zu_nk (by decide)).trans wg2
      have w21 : m17.1 66 ((74 : Nat) : Int) = g3 := by rw [em17]; exact (zu_nk (by decide)).trans wg3
      have w22 : m17.1 66 ((47 : Nat) : Int) = g4 := by rw [em17]; exact (zu_nk (by decide)).trans wg4
      exact And.intro (zrtb (by omega)) (And.intro ⟨by omega, by omega⟩ (hQ _ _ z18 (by omega) (by omega) (by (try rw [w19]) <;> (try rw [w20]) <;> (try rw [w21]) <;> (try rw [w22]) <;> (try rw [wg1]) <;> (try rw [wg2]) <;> (try rw [wg3]) <;> (try rw [wg4]) <;> omega) (by (try rw [w19]) <;> (try rw [w20]) <;> (try rw [w21]) <;> (try rw [w22]) <;> (try rw [wg1]) <;> (try rw [wg2]) <;> (try rw [wg3]) <;> (try rw [wg4]) <;> omega) (fun q hq => by rw [wg3] at hq; exact ⟨by rw [em17, zu_ne (by decide)], by rw [em17, zu_ne (by decide)], by rw [em17, zu_ne (by decide)]⟩) (fun h => by omega) (fun _ => ⟨by rw [em17, zu_at]; first | (rw [if_pos (by omega)]; done) | (rw [if_neg (by omega)]; done) | (exfalso; omega), by omega⟩) (fun h => by exfalso; omega)))
  · intro x23 hx23 kx23 lx23
    rw [wg3] at hx23
    refine And.intro ⟨⟨by omega, by omega⟩, ⟨by omega, by omega⟩⟩ (And.intro (fun c24 => ?_) (fun c24 => ?_))
    · intro x25 hx25 kx25 lx25
      rw [wg3] at hx25
      refine And.intro ⟨by omega, by omega⟩ (And.intro ⟨by omega, by omega⟩ ?_)
      intro m26 em26
      have z27 := zfx_r z0 em26 rfl (by decide)
      have w28 : m26.1 66 ((46 : Nat) : Int) = g1 := by rw [em26]; exact (congrFun (zu_ne (by decide)) _).trans wg1
      have w29 : m26.1 66 ((75 : Nat) : Int) = g2 := by rw [em26]; exact (congrFun (zu_ne (by decide)) _).trans wg2
      have w30 : m26.1 66 ((74 : Nat) : Int) = g3 := by rw [em26]; exact (congrFun (zu_ne (by decide)) _).trans wg3
      have w31 : m26.1 66 ((47 : Nat) : Int) = g4 := by rw [em26]; exact (congrFun (zu_ne (by decide)) _).trans wg4
      intro x32 hx32 kx32 lx32
      rw [w30] at hx32
      refine And.intro ⟨by omega, by omega⟩ (And.intro ⟨by omega, by omega⟩ ?_)
      intro m33 em33
      have z34 := zfx_r z27 em33 rfl (by decide)
      have w35 : m33.1 66 ((46 : Nat) : Int) = g1 := by rw [em33]; exact (congrFun (zu_ne (by decide)) _).trans w28
      have w36 : m33.1 66 ((75 : Nat) : Int) = g2 := by rw [em33]; exact (congrFun (zu_ne (by decide)) _).trans w29
      have w37 : m33.1 66 ((74 : Nat) : Int) = g3 := by rw [em33]; exact (congrFun (zu_ne (by decide)) _).trans w30
      have w38 : m33.1 66 ((47 : Nat) : Int) = g4 := by rw [em33]; exact (congrFun (zu_ne (by decide)) _).trans w31
      clear w28 w29 w30 w31
      intro x39 hx39 kx39 lx39
      rw [w37] at hx39
      refine And.intro ⟨by omega, by omega⟩ (And.intro ⟨by omega, by omega⟩ ?_)
      intro m40 em40
      have z41 := zfx_r z34 em40 rfl (by decide)
      have w42 : m40.1 66 ((46 : Nat) : Int) = g1 := by rw [em40]; exact (congrFun (zu_ne (by decide)) _).trans w35
      have w43 : m40.1 66 ((75 : Nat) : Int) = g2 := by rw [em40]; exact (congrFun (zu_ne (by decide)) _).trans w36
      have w44 : m40.1 66 ((74 : Nat) : Int) = g3 := by rw [em40]; exact (congrFun (zu_ne (by decide)) _).trans w37
      have w45 : m40.1 66 ((47 : Nat) : Int) = g4 := by rw [em40]; exact (congrFun (zu_ne (by decide)) _).trans w38
      clear w35 w36 w37 w38
      intro x46 hx46 kx46 lx46
      rw [w44] at hx46
      refine And.intro ⟨by omega, by omega⟩ ?_
      intro m47 em47
      have z48 := zfx_f z41 em47 rfl
      have w49 : m47.1 66 ((46 : Nat) : Int) = g1 := by rw [em47]; exact (zu_nk (by decide)).trans w42
      have w50 : m47.1 66 ((75 : Nat) : Int) = g2 := by rw [em47]; exact (zu_nk (by decide)).trans w43
      have w51 : m47.1 66 ((74 : Nat) : Int) = (x46 + 1) := by rw [em47]; exact zu_at
      have w52 : m47.1 66 ((47 : Nat) : Int) = g4 := by rw [em47]; exact (zu_nk (by decide)).trans w45
      clear w42 w43 w44 w45
      intro x53 hx53 kx53 lx53
      rw [w49] at hx53
      refine And.intro ⟨by omega, by omega⟩ ?_
      intro m54 em54
      have z55 := zfx_f z48 em54 rfl
      have w56 : m54.1 66 ((46 : Nat) : Int) = (x53 + 1) := by rw [em54]; exact zu_at
      have w57 : m54.1 66 ((75 : Nat) : Int) = g2 := by rw [em54]; exact (zu_nk (by decide)).trans w50
      have w58 : m54.1 66 ((74 : Nat) : Int) = (x46 + 1) := by rw [em54]; exact (zu_nk (by decide)).trans w51
      have w59 : m54.1 66 ((47 : Nat) : Int) = g4 := by rw [em54]; exact (zu_nk (by decide)).trans w52
      clear w49 w50 w51 w52
      intro x60 hx60 kx60 lx60
      rw [w58] at hx60
      intro x61 hx61 kx61 lx61
      rw [w59] at hx61
      refine And.intro ⟨⟨by omega, by omega⟩, ⟨by omega, by omega⟩⟩ (And.intro (fun c62 => ?_) (fun c62 => ?_))
      · intro x63 hx63 kx63 lx63
        rw [w59] at hx63
        refine And.intro ⟨by omega, by omega⟩ ?_
        intro m64 em64
        have z65 := zfx_f z55 em64 rfl
        have w66 : m64.1 66 ((46 : Nat) : Int) = (x53 + 1) := by rw [em64]; exact (zu_nk (by decide)).trans w56
        have w67 : m64.1 66 ((75 : Nat) : Int) = g2 := by rw [em64]; exact (zu_nk (by decide)).trans w57
        have w68 : m64.1 66 ((74 : Nat) : Int) = (x46 + 1) := by rw [em64]; exact (zu_nk (by decide)).trans w58
        have w69 : m64.1 66 ((47 : Nat) : Int) = x63 := by rw [em64]; exact zu_at
        clear w56 w57 w58 w59
        exact And.intro (zrtb (by omega)) (And.intro ⟨by omega, by omega⟩ (hQ _ _ z65 (by omega) (by omega) (by (try rw [w66]) <;> (try rw [w67]) <;> (try rw [w68]) <;> (try rw [w69]) <;> (try rw [wg1]) <;> (try rw [wg2]) <;> (try rw [wg3]) <;> (try rw [wg4]) <;> omega) (by (try rw [w66]) <;> (try rw [w67]) <;> (try rw [w68]) <;> (try rw [w69]) <;> (try rw [wg1]) <;> (try rw [wg2]) <;> (try rw [wg3]) <;> (try rw [wg4]) <;> omega) (fun q hq => by rw [wg3] at hq; exact ⟨by rw [em64, zu_ne (by decide), em54, zu_ne (by decide), em47, zu_ne (by decide), em40, zu_ne (by decide), em33, zu_ne (by decide), em26, zu_nk (by omega)], by rw [em64, zu_ne (by decide), em54, zu_ne (by decide), em47, zu_ne (by decide), em40, zu_ne (by decide), em33, zu_nk (by omega), em26, zu_ne (by decide)], by rw [em64, zu_ne (by decide), em54, zu_ne (by decide), em47, zu_ne (by decide), em40, zu_nk (by omega), em33, zu_ne (by decide), em26, zu_ne (by decide)]⟩) (fun _ => by rw [wg3]; exact ⟨by rw [show g3 = x25 by omega, em64, zu_ne (by decide), em54, zu_ne (by decide), em47, zu_ne (by decide), em40, zu_ne (by decide), em33, zu_ne (by decide), em26, zu_at], by rw [show g3 = x32 by omega, em64, zu_ne (by decide), em54, zu_ne (by decide), em47, zu_ne (by decide), em40, zu_ne (by decide), em33, zu_at], by rw [show g3 = x39 by omega, em64, zu_ne (by decide), em54, zu_ne (by decide), em47, zu_ne (by decide), em40, zu_at]⟩) (fun h => by exfalso; omega) (fun _ => ⟨by omega, by omega⟩)))
      · intro x70 hx70 kx70 lx70
        rw [w58] at hx70
        refine And.intro ⟨by omega, by omega⟩ ?_
        intro m71 em71
        have z72 := zfx_f z55 em71 rfl
        have w73 : m71.1 66 ((46 : Nat) : Int) = (x53 + 1) := by rw [em71]; exact (zu_nk (by decide)).trans w56
        have w74 : m71.1 66 ((75 : Nat) : Int) = g2 := by rw [em71]; exact (zu_nk (by decide)).trans w57
        have w75 : m71.1 66 ((74 : Nat) : Int) = (x46 + 1) := by rw [em71]; exact (zu_nk (by decide)).trans w58
        have w76 : m71.1 66 ((47 : Nat) : Int) = x70 := by rw [em71]; exact zu_at
        clear w56 w57 w58 w59
        exact And.intro (zrtb (by omega)) (And.intro ⟨by omega, by omega⟩ (hQ _ _ z72 (by omega) (by omega) (by (try rw [w73]) <;> (try rw [w74]) <;> (try rw [w75]) <;> (try rw [w76]) <;> (try rw [wg1]) <;> (try rw [wg2]) <;> (try rw [wg3]) <;> (try rw [wg4]) <;> omega) (by (try rw [w73]) <;> (try rw [w74]) <;> (try rw [w75]) <;> (try rw [w76]) <;> (try rw [wg1]) <;> (try rw [wg2]) <;> (try rw [wg3]) <;> (try rw [wg4]) <;> omega) (fun q hq => by rw [wg3] at hq; exact ⟨by rw [em71, zu_ne (by decide), em54, zu_ne (by decide), em47, zu_ne (by decide), em40, zu_ne (by decide), em33, zu_ne (by decide), em26, zu_nk (by omega)], by rw [em71, zu_ne (by decide), em54, zu_ne (by decide), em47, zu_ne (by decide), em40, zu_ne (by decide), em33, zu_nk (by omega), em26, zu_ne (by decide)], by rw [em71, zu_ne (by decide), em54, zu_ne (by decide), em47, zu_ne (by decide), em40, zu_nk (by omega), em33, zu_ne (by decide), em26, zu_ne (by decide)]⟩) (fun _ => by rw [wg3]; exact ⟨by rw [show g3 = x25 by omega, em71, zu_ne (by decide), em54, zu_ne (by decide), em47, zu_ne (by decide), em40, zu_ne (by decide), em33, zu_ne (by decide), em26, zu_at], by rw [show g3 = x32 by omega, em71, zu_ne (by decide), em54, zu_ne (by decide), em47, zu_ne (by decide), em40, zu_ne (by decide), em33, zu_at], by rw [show g3 = x39 by omega, em71, zu_ne (by decide), em54, zu_ne (by decide), em47, zu_ne (by decide), em40, zu_at]⟩) (fun h => by exfalso; omega) (fun _ => ⟨by omega, by omega⟩)))
    · intro x77 hx77 kx77 lx77
      rw [wg1] at hx77
      intro x78 hx78 kx78 lx78
      rw [wg2] at hx78
      refine And.intro ⟨⟨by omega, by omega⟩, ⟨by omega, by omega⟩⟩ (And.intro (fun c79 => ?_) (fun c79 => ?_))
      · refine And.intro ⟨by omega, by omega⟩ ?_
        intro m80 em80
        have z81 := zfx_f z0 em80 rfl
        have w82 : m80.1 66 ((46 : Nat) : Int) = g1 := by rw [em80]; exact (zu_nk (by decide)).trans wg1
        have w83 : m80.1 66 ((75 : Nat) : Int) = g2 := by rw [em80]; exact (zu_nk (by decide)).trans wg2
        have w84 : m80.1 66 ((74 : Nat) : Int) = g3 := by rw [em80]; exact (zu_nk (by decide)).trans wg3
        have w85 : m80.1 66 ((47 : Nat) : Int) = g4 := by rw [em80]; exact (zu_nk (by decide)).trans wg4
        exact And.intro (zrtb (by omega)) (And.intro ⟨by omega, by omega⟩ (hQ _ _ z81 (by omega) (by omega) (by (try rw [w82]) <;> (try rw [w83]) <;> (try rw [w84]) <;> (try rw [w85]) <;> (try rw [wg1]) <;> (try rw [wg2]) <;> (try rw [wg3]) <;> (try rw [wg4]) <;> omega) (by (try rw [w82]) <;> (try rw [w83]) <;> (try rw [w84]) <;> (try rw [w85]) <;> (try rw [wg1]) <;> (try rw [wg2]) <;> (try rw [wg3]) <;> (try rw [wg4]) <;> omega) (fun q hq => by rw [wg3] at hq; exact ⟨by rw [em80, zu_ne (by decide)], by rw [em80, zu_ne (by decide)], by rw [em80, zu_ne (by decide)]⟩) (fun h => by omega) (fun _ => ⟨by rw [em80, zu_at]; first | (rw [if_pos (by omega)]; done) | (rw [if_neg (by omega)]; done) | (exfalso; omega), by omega⟩) (fun h => by exfalso; omega)))
      · refine And.intro ⟨by omega, by omega⟩ ?_
        intro m86 em86
        have z87 := zfx_f z0 em86 rfl
        have w88 : m86.1 66 ((46 : Nat) : Int) = g1 := by rw [em86]; exact (zu_nk (by decide)).trans wg1
        have w89 : m86.1 66 ((75 : Nat) : Int) = g2 := by rw [em86]; exact (zu_nk (by decide)).trans wg2
        have w90 : m86.1 66 ((74 : Nat) : Int) = g3 := by rw [em86]; exact (zu_nk (by decide)).trans wg3
        have w91 : m86.1 66 ((47 : Nat) : Int) = g4 := by rw [em86]; exact (zu_nk (by decide)).trans wg4
        exact And.intro (zrtb (by omega)) (And.intro ⟨by omega, by omega⟩ (hQ _ _ z87 (by omega) (by omega) (by (try rw [w88]) <;> (try rw [w89]) <;> (try rw [w90]) <;> (try rw [w91]) <;> (try rw [wg1]) <;> (try rw [wg2]) <;> (try rw [wg3]) <;> (try rw [wg4]) <;> omega) (by (try rw [w88]) <;> (try rw [w89]) <;> (try rw [w90]) <;> (try rw [w91]) <;> (try rw [wg1]) <;> (try rw [wg2]) <;> (try rw [wg3]) <;> (try rw [wg4]) <;> omega) (fun q hq => by rw [wg3] at hq; exact ⟨by rw [em86, zu_ne (by decide)], by rw [em86, zu_ne (by decide)], by rw [em86, zu_ne (by decide)]⟩) (fun h => by omega) (fun _ => ⟨by rw [em86, zu_at]; first | (rw [if_pos (by omega)]; done) | (rw [if_neg (by omega)]; done) | (exfalso; omega), by omega⟩) (fun h => by exfalso; omega)))
