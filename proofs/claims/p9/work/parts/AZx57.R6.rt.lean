def gk_X9_readTwice : zC := fun As μ Q => ∃ (C : Int) (Pn : Int) (tt : Int) (K : Int) (B : yB), As = [.inr (.inr (66, 66)), .inl 0] ∧ (zQS μ C Pn tt K) ∧ (C = μ.1 66 ((20 : Nat) : Int) ∧ Pn = μ.1 66 ((21 : Nat) : Int) ∧ tt = μ.1 66 ((23 : Nat) : Int)) ∧ (K + 6000 ≤ 1999990000) ∧ (rTq μ B) ∧ (yI0 B) ∧ (∀ (v : Int) (μ' : zM), zfx [67, 68, 69, 70, 71, 72, 73, 74, 100, 101, 102, 103, 104] [7, 8, 24, 25, 26, 27, 29, 30, 31, 32, 33, 34, 35, 36, 37, 38, 45, 46, 47, 48, 70, 71, 72] μ μ' → 0 ≤ v → v ≤ 1 → (zQS μ' C Pn tt (K + 6000)) → (μ'.1 66 ((29 : Nat) : Int) = 0) → (zOld μ μ' tt) → ((v = 1 ∧ (μ'.1 66 ((45 : Nat) : Int) = 0 ∧ μ'.1 66 ((48 : Nat) : Int) = 0 ∧ zTy μ' (μ'.1 66 ((71 : Nat) : Int)) ∧ 0 ≤ μ'.1 66 ((72 : Nat) : Int) ∧ μ'.1 66 ((72 : Nat) : Int) < C) ∧ yQp ((μ.1 85, μ.1 66 ((29 : Nat) : Int)) : yT) B 0 0 ∧ μ'.1 66 ((37 : Nat) : Int) = 0 ∧ ∃ (o k : Int) (L : List Int), yPl ((μ.1 85, μ.1 66 ((29 : Nat) : Int)) : yT) B o L k ∧ rE μ' (μ'.1 66 ((71 : Nat) : Int)) L ∧ μ'.1 66 ((72 : Nat) : Int) = k) ∨ (v = 0 ∧ ∃ x l, yQp ((μ.1 85, μ.1 66 ((29 : Nat) : Int)) : yT) B x l ∧ μ'.1 66 ((37 : Nat) : Int) = x ∧ μ'.1 66 ((36 : Nat) : Int) = l ∧ x ≠ 0)) → Q (some (.inl v)) μ')
set_option maxHeartbeats 4000000 in
theorem gm_X9_readTwice {g : zΓ} (hg : zg g) (d : Nat) (hd : 7 ≤ d) : zOk g d 159 gk_X9_readTwice := by
  obtain ⟨d, rfl⟩ : ∃ d', d = d' + 1 := ⟨d - 1, by omega⟩
  refine zOk_straight hg (show mt_tab[159]? = some mt_X9_readTwice from rfl) [] 69 rfl fun As μ Q hC => ?_
  obtain ⟨C, Pn, tt, K, B, rfl, hp0, hp1, hp2, hp3, hp4, hQ⟩ := hC
  refine ⟨rfl, ?_⟩
  have z0 : zfx [67, 68, 69, 70, 71, 72, 73, 74, 100, 101, 102, 103, 104] [7, 8, 24, 25, 26, 27, 29, 30, 31, 32, 33, 34, 35, 36, 37, 38, 45, 46, 47, 48, 70, 71, 72] μ μ := zfx_x μ
  intro x1 hx1 kx1 lx1
  have HAD : x1 = zTop μ := hx1
  refine And.intro ⟨by omega, by omega⟩ ?_
  intro m2 em2
  have z3 := zfx_f z0 em2 rfl
  refine And.intro ⟨by omega, by omega⟩ ?_
  intro m4 em4
  have z5 := zfx_f z3 em4 rfl
  intro x6 hx6 kx6 lx6
  have X20 : x6 = μ.1 66 ((20 : Nat) : Int) := by rw [hx6, em4, zu_nk (by decide), em2, zu_nk (by decide)]
  refine And.intro ⟨by omega, by omega⟩ ?_
  intro m7 em7
  have z8 := zfx_f z5 em7 rfl
  intro x9 hx9 kx9 lx9
  have X28 : x9 = μ.1 66 ((21 : Nat) : Int) := by rw [hx9, em7, zu_nk (by decide), em4, zu_nk (by decide), em2, zu_nk (by decide)]
  refine And.intro ⟨by omega, by omega⟩ ?_
  intro m10 em10
  have z11 := zfx_f z8 em10 rfl
  have C1 : ∀ j : Nat, j ≠ 66 → m10.1 j = μ.1 j := fun j hj => by rw [em10, zu_ne hj, em7, zu_ne hj, em4, zu_ne hj, em2, zu_ne hj]
  refine ⟨yk_X9_begin, ym_X9_begin hg d (by omega), rfl, ?_⟩
  intro m12 qm12 p13 p14 p15
  have z16 := zfx_t z11 qm12 rfl rfl
  have C5 : ∀ j : Nat, j ≠ 66 → m12.1 j = μ.1 j := fun j hj => (qm12.1 j hj rfl).trans (C1 j hj)
  have D8 : m12.1 66 ((8 : Nat) : Int) = μ.1 66 ((8 : Nat) : Int) := (qm12.2.1 8 rfl).trans (by rw [em10, zu_nk (by decide), em7, zu_nk (by decide), em4, zu_nk (by decide), em2, zu_nk (by decide)])
  have D45 : m12.1 66 ((45 : Nat) : Int) = μ.1 66 ((45 : Nat) : Int) := (qm12.2.1 45 rfl).trans (by rw [em10, zu_nk (by decide), em7, zu_nk (by decide), em4, zu_nk (by decide), em2, zu_nk (by decide)])
  have D48 : m12.1 66 ((48 : Nat) : Int) = μ.1 66 ((48 : Nat) : Int) := (qm12.2.1 48 rfl).trans (by rw [em10, zu_nk (by decide), em7, zu_nk (by decide), em4, zu_nk (by decide), em2, zu_nk (by decide)])
  have D60 : m12.1 66 ((60 : Nat) : Int) = μ.1 66 ((60 : Nat) : Int) := (qm12.2.1 60 rfl).trans (by rw [em10, zu_nk (by decide), em7, zu_nk (by decide), em4, zu_nk (by decide), em2, zu_nk (by decide)])
  have D23 : m12.1 66 ((23 : Nat) : Int) = μ.1 66 ((23 : Nat) : Int) := (qm12.2.1 23 rfl).trans (by rw [em10, zu_nk (by decide), em7, zu_nk (by decide), em4, zu_nk (by decide), em2, zu_nk (by decide)])
  have T5 : zTop m12 = zTop μ := D8
  have N5 : zND m12 0 := zND_t.2 (by rw [T5]; exact zNDt_same (fun j a b => C5 j (by omega)) (zND_t.1 hp0.1.1))
  have W5 : zWf m12 0 (zTop m12) C Pn (μ.1 66 ((45 : Nat) : Int)) (μ.1 77) := by rw [T5]; exact zWf_same hp0.1.2.2.2.2.1 (fun j a b => C5 j (by omega)) rfl
  have TM := zQS_top hp0
  have HB := hp0.1.2.1.1
  have HTC := hp0.1.2.1.2.1
  have TE : ((m10.1 85, m10.1 66 ((29 : Nat) : Int)) : yT) = ((μ.1 85, μ.1 66 ((29 : Nat) : Int)) : yT) := by rw [C1 85 (by decide), show m10.1 66 ((29 : Nat) : Int) = μ.1 66 ((29 : Nat) : Int) from (by rw [em10, zu_nk (by decide), em7, zu_nk (by decide), em4, zu_nk (by decide), em2, zu_nk (by decide)])]
  have LB := p15
  rw [TE] at LB
  have NB0 : rNg 0 0 m12 (yN B 0 2 0) := rNg_0 hp3 (by rw [qm12.2.1 24 rfl, em10, zu_nk (by decide), em7, zu_nk (by decide), em4, zu_nk (by decide), em2, zu_at]) (by rw [qm12.2.1 25 rfl, em10, zu_nk (by decide), em7, zu_nk (by decide), em4, zu_at]) (by rw [qm12.2.1 26 rfl, em10, zu_nk (by decide), em7, zu_at, X20]) (by rw [qm12.2.1 27 rfl, em10, zu_at, X28]) p14.1 LB.2 C5
  refine And.intro ⟨by omega, by omega⟩ (And.intro (fun c17 => ?_) (fun c17 => ?_))
  · refine ⟨gk_X9_readPlace, gm_X9_readPlace hg d (by omega), _, _, _, _, _, ((μ.1 85, μ.1 66 ((29 : Nat) : Int)) : yT), B, _, _, rfl, p13, N5, W5, (by rw [show m12.1 66 ((26 : Nat) : Int) = μ.1 66 ((20 : Nat) : Int) from (qm12.2.1 26 rfl).trans (by rw [em10, zu_nk (by decide), em7, zu_at, X20]), show m12.1 66 ((24 : Nat) : Int) = 0 from (qm12.2.1 24 rfl).trans (by rw [em10, zu_nk (by decide), em7, zu_nk (by decide), em4, zu_nk (by decide), em2, zu_at]), C5 76 (by decide), C5 77 (by decide)]; exact ⟨Int.le_of_eq hp1.1.symm, fun c a b => by rw [Int.zero_add]; exact (HTC c a b).2.2.2.1, HB.2.1, HB.2.2.2.1⟩), (fun v a b => by rw [show m12.1 66 ((24 : Nat) : Int) = 0 from (qm12.2.1 24 rfl).trans (by rw [em10, zu_nk (by decide), em7, zu_nk (by decide), em4, zu_nk (by decide), em2, zu_at]), C5 77 (by decide), Int.zero_add]), (by rw [D8, p14.1]; exact zar1 TM), (by rw [show m12.1 66 ((26 : Nat) : Int) = μ.1 66 ((20 : Nat) : Int) from (qm12.2.1 26 rfl).trans (by rw [em10, zu_nk (by decide), em7, zu_at, X20])]; rw [← hp1.1]; exact zar0 HB.1), ⟨LB.1, NB0⟩, hp4, (by rw [hp1.1]; exact hp3.1.1), ?_⟩
    intro x18 m19 qm19 kx18 lx18 p20 p21 p22 p23 p24
    have z25 := zfx_t z16 qm19 rfl rfl
    clear p20 p23
    have E6 : m19.1 66 ((30 : Nat) : Int) ≤ 800 ∧ 0 ≤ m19.1 66 ((30 : Nat) : Int) := by have h1 := p22; have h2 := p13; omega
    clear p22 p13
    have O6 : zOld μ m19 (zTop μ) := zOld_l (fun j a b => C5 j (by omega)) (by rw [← T5]; exact p21.1.2.2.1)
    intro x26 hx26 kx26 lx26
    refine And.intro ⟨by omega, by omega⟩ ?_
    intro m27 em27
    have z28 := zfx_f z25 em27 rfl
    refine And.intro ⟨by omega, by omega⟩ (And.intro (fun c29 => ?_) (fun c29 => ?_))
    · intro x30 hx30 kx30 lx30
      rw [em27, zu_nk (by decide), qm19.2.1 23 rfl, D23] at hx30
      refine ⟨zk_X9_chainAgain, zm_X9_chainAgain hg d (by omega), _, _, rfl, ⟨by omega, by omega⟩, ⟨by omega, by omega⟩, (by omega), (fun x a b => by have h1 : x30 = tt := (by omega); have h3 := hp0.1.2.2.1; exact zNd_same (fun j c e => by rw [em27, zu_ne (by omega)]) (zOld_Nd O6 a (by omega) (hp0.1.1.2.1 x a (by omega)))), ?_⟩
      intro m31 qm31 p32 p33
      have z34 := zfx_t z28 qm31 rfl rfl
      have O8 : zOld μ m31 (zTop μ) := zOld_t O6 (zOld_same (fun j a b => by rw [qm31.1 j (by omega) (zanyF (by simp <;> omega)), em27, zu_ne (by omega)])) (Int.le_refl _)
      have C8 : ∀ j : Nat, 75 ≤ j → j ≤ 99 → m31.1 j = μ.1 j := fun j a b => by rw [qm31.1 j (by omega) (zanyF (by simp <;> omega)), em27, zu_ne (by omega), qm19.1 j (by omega) (zanyF (by simp <;> omega)), C5 j (by omega)]
      have G45 : m31.1 66 ((45 : Nat) : Int) = μ.1 66 ((45 : Nat) : Int) := by rw [qm31.2.1 45 rfl, em27, zu_nk (by decide), qm19.2.1 45 rfl, D45]
      have G48 : m31.1 66 ((48 : Nat) : Int) = μ.1 66 ((48 : Nat) : Int) := by rw [qm31.2.1 48 rfl, em27, zu_nk (by decide), qm19.2.1 48 rfl, D48]
      have G60 : m31.1 66 ((60 : Nat) : Int) = μ.1 66 ((60 : Nat) : Int) := by rw [qm31.2.1 60 rfl, em27, zu_nk (by decide), qm19.2.1 60 rfl, D60]
      refine And.intro ⟨by omega, by omega⟩ ?_
      intro m35 em35
      have z36 := zfx_f z34 em35 rfl
      refine And.intro ⟨by omega, by omega⟩ ?_
      intro m37 em37
      have z38 := zfx_f z36 em37 rfl
      refine ⟨yk_X9_pass, ym_X9_pass hg d (by omega), rfl, (by rw [show m37.1 66 ((31 : Nat) : Int) = 0 from (by rw [em37, zu_nk (by decide), em35, zu_at]), show m37.1 66 ((30 : Nat) : Int) = m19.1 66 ((30 : Nat) : Int) from (by rw [em37, zu_nk (by decide), em35, zu_nk (by decide), qm31.2.1 30 rfl, em27, zu_nk (by decide)])]; omega), ?_⟩
      intro m39 qm39 p40 p41 p42 p43 p44
      have z45 := zfx_t z38 qm39 rfl rfl
      have CB : ∀ j : Nat, j ≠ 66 → m39.1 j = m31.1 j := fun j hj => (qm39.1 j hj rfl).trans (by rw [em37, zu_ne hj, em35, zu_ne hj])
      have H8 : m39.1 66 ((8 : Nat) : Int) = m31.1 66 ((8 : Nat) : Int) := (qm39.2.1 8 rfl).trans (by rw [em37, zu_nk (by decide), em35, zu_nk (by decide)])
      have H60 : m39.1 66 ((60 : Nat) : Int) = m31.1 66 ((60 : Nat) : Int) := (qm39.2.1 60 rfl).trans (by rw [em37, zu_nk (by decide), em35, zu_nk (by decide)])
      have H38 : m39.1 66 ((38 : Nat) : Int) = 0 := (qm39.2.1 38 rfl).trans (by rw [em37, zu_at])
      have TB : zTop m39 = tt := by rw [show zTop m39 = zTop m31 from H8, p33]; omega
      have NB : zND m39 0 := zND_t.2 (by rw [show zTop m39 = zTop m31 from H8]; exact zNDt_same (fun j a b => CB j (by omega)) (zND_t.1 p32))
      have QT := zQ_tab hp0.1 NB TB (zOld_t O8 (zOld_same (fun j a b => CB j (by omega))) (Int.le_refl _)) hp0.1.2.2.1 (fun j a b => by rw [CB j (by omega), C8 j (by omega) (by omega)])
      refine And.intro ⟨by omega, by omega⟩ (And.intro (fun c46 => ?_) (fun c46 => ?_))
      · have K24 : m39.1 66 ((24 : Nat) : Int) = 0 := (qm39.2.1 24 rfl).trans (by rw [em37, zu_nk (by decide), em35, zu_nk (by decide), qm31.2.1 24 rfl, em27, zu_nk (by decide), qm19.2.1 24 rfl, qm12.2.1 24 rfl, em10, zu_nk (by decide), em7, zu_nk (by decide), em4, zu_nk (by decide), em2, zu_at])
        have K26 : m39.1 66 ((26 : Nat) : Int) = μ.1 66 ((20 : Nat) : Int) := (qm39.2.1 26 rfl).trans (by rw [em37, zu_nk (by decide), em35, zu_nk (by decide), qm31.2.1 26 rfl, em27, zu_nk (by decide), qm19.2.1 26 rfl, qm12.2.1 26 rfl, em10, zu_nk (by decide), em7, zu_at, X20])
        have K76 : m39.1 76 = μ.1 76 := by rw [CB 76 (by decide), C8 76 (by decide) (by decide)]
        have K77 : m39.1 77 = μ.1 77 := by rw [CB 77 (by decide), C8 77 (by decide) (by decide)]
        have PG := (by rcases p24 with h | h; exact h; (exfalso; have := h.1; omega) : x18 = 1 ∧ _ ∧ _ ∧ _)
        have t29 : m19.1 85 = μ.1 85 ∧ m19.1 66 ((30 : Nat) : Int) = μ.1 66 ((29 : Nat) : Int) := ⟨by rw [qm19.1 85 (by decide) rfl, C5 85 (by decide)], by rw [qm19.2.1 30 rfl, LB.1.1.2]⟩
        have LX2 : rLx m39 ((μ.1 85, μ.1 66 ((29 : Nat) : Int)) : yT) 0 := by
          have e85 : m37.1 85 = μ.1 85 := by rw [em37, zu_ne (by decide), em35, zu_ne (by decide), qm31.1 85 (by decide) rfl, em27, zu_ne (by decide)]; exact t29.1
          have e30 : m37.1 66 ((30 : Nat) : Int) = μ.1 66 ((29 : Nat) : Int) := by rw [em37, zu_nk (by decide), em35, zu_nk (by decide), qm31.2.1 30 rfl, em27, zu_nk (by decide)]; exact t29.2
          have e31 : m37.1 66 ((31 : Nat) : Int) = 0 := by rw [em37, zu_nk (by decide), em35, zu_at]
          have q := p44
          rw [e85, e30, e31] at q
          refine ⟨⟨(qm39.1 85 (by decide) rfl).trans e85, (qm39.2.1 30 rfl).trans e30⟩, ⟨by omega, ?_, ?_⟩, q⟩
          · show 0 ≤ μ.1 66 ((29 : Nat) : Int)
            rw [← t29.2]; exact E6.2
          · show μ.1 66 ((29 : Nat) : Int) ≤ 800
            rw [← t29.2]; exact E6.1
        have NG2 : rNg 0 0 m39 (yN B 0 2 0) := rNg_0' hp3 K24 ((qm39.2.1 25 rfl).trans (by rw [em37, zu_nk (by decide), em35, zu_nk (by decide), qm31.2.1 25 rfl, em27, zu_nk (by decide), qm19.2.1 25 rfl, qm12.2.1 25 rfl, em10, zu_nk (by decide), em7, zu_nk (by decide), em4, zu_at])) K26 ((qm39.2.1 27 rfl).trans (by rw [em37, zu_nk (by decide), em35, zu_nk (by decide), qm31.2.1 27 rfl, em27, zu_nk (by decide), qm19.2.1 27 rfl, qm12.2.1 27 rfl, em10, zu_at, X28])) H38 ((qm39.2.1 35 rfl).trans (by rw [em37, zu_nk (by decide), em35, zu_nk (by decide), qm31.2.1 35 rfl, em27, zu_nk (by decide)]; exact PG.2.2.1)) (fun j hj => by rcases hj with h | h | h | h | h | h <;> subst h <;> first | (rw [CB _ (by decide), C8 _ (by decide) (by decide)]) | (rw [CB _ (by decide), qm31.1 _ (by decide) rfl, em27, zu_ne (by decide), qm19.1 _ (by decide) rfl, C5 _ (by decide)]))
        have CB0 : C = B.1 0 0 := hp1.1.trans hp3.1.1
        refine ⟨gk_X9_readPlace, gm_X9_readPlace hg d (by omega), _, _, _, _, _, ((μ.1 85, μ.1 66 ((29 : Nat) : Int)) : yT), B, 0, 0, rfl, p40, NB, QT.2, (by rw [K26, K24, K76, K77]; exact ⟨Int.le_of_eq hp1.1.symm, fun c a b => by rw [Int.zero_add]; exact (HTC c a b).2.2.2.1, HB.2.1, HB.2.2.2.1⟩), (fun v a b => by rw [K24, Int.zero_add]), (by rw [show m39.1 66 ((8 : Nat) : Int) = tt from TB, H38]; exact zar2 HB.2.2.2.2.2), (by rw [K26, ← hp1.1]; exact zar0 HB.1), ⟨LX2, NG2⟩, hp4, CB0, ?_⟩
        intro x47 m48 qm48 kx47 lx47 p49 p50 p51 p52 p53
        have PS := (by rcases p53 with h | ⟨-, x, l, h1, -, -, h4⟩; exact h; exact absurd (yQp_one h1 PG.2.1).1 h4 : x47 = 1 ∧ _ ∧ _ ∧ _)
        have z54 := zfx_t z45 qm48 rfl rfl
        clear p49 p40
        refine ⟨zk_X9_forgetAsked2, zm_X9_forgetAsked2 hg d (by omega), rfl, ?_⟩
        intro m55 qm55 p56
        have z57 := zfx_t z54 qm55 rfl rfl
        have TE := zTE_fr p50 (fun j a b => qm55.1 j (by omega) rfl) (qm55.2.1 8 rfl) (qm55.2.1 38 rfl)
        have S60 : m55.1 66 ((60 : Nat) : Int) = μ.1 66 ((60 : Nat) : Int) := by rw [qm55.2.1 60 rfl, qm48.2.1 60 rfl, H60, G60]
        have N38 : m55.1 66 ((38 : Nat) : Int) ≤ 300 := by rw [qm55.2.1 38 rfl]; have := p51; omega
        have FIN : zQS m55 C Pn tt (K + 6000) := zQ_read QT.1 QT.2 NB TB TE (fun j a b => by rw [qm55.1 j (by omega) rfl, qm48.1 j (by omega) (zanyF (by simp <;> omega))]) (by have h1 := TE.2.1; unfold zTn at h1; omega) p56.1 p56.2.2.2 (by rw [S60]; have := hp0.2.2.2; omega) hp2 (fun x a b => by rw [S60, qm55.1 98 (by decide) rfl, qm48.1 98 (by decide) rfl, CB 98 (by decide), C8 98 (by decide) (by decide)]; exact hp0.1.2.2.2.2.2.2 x a b)
        have O55 : zOld μ m55 tt := by
          have o1 : zOld μ m39 tt := fun x a b => zOld_t O8 (zOld_same (fun j a b => CB j (by omega))) (Int.le_refl _) x a (by have h3 := hp0.1.2.2.1; omega)
          have o2 : zOld m39 m55 tt := by have q := TE.1.2.2.1; rw [TB] at q; exact q
          exact zOld_t o1 o2 (Int.le_refl _)
        have P1 := p52 PS.1
        have PS1 := PS.1
        obtain ⟨-, -, -, o, k, L, PL, RE, RK⟩ := PS
        exact And.intro (zrtb (by omega)) (And.intro ⟨by omega, by omega⟩ (hQ _ _ z57 (by omega) (by omega) FIN (by rw [qm55.2.1 29 rfl, qm48.2.1 29 rfl, qm39.2.1 29 rfl, em37, zu_nk (by decide), em35, zu_nk (by decide), qm31.2.1 29 rfl, em27, zu_nk (by decide), qm19.2.1 29 rfl]; exact p14.2) O55 (Or.inl ⟨PS1, ⟨p56.1, p56.2.2.2, by rw [qm55.2.1 71 rfl]; exact zTy_same P1.1 (qm55.1 67 (by decide) rfl) (qm55.2.1 8 rfl), by rw [qm55.2.1 72 rfl]; exact P1.2.1, by rw [qm55.2.1 72 rfl]; omega⟩, PG.2.1, by rw [qm55.2.1 37 rfl, qm48.2.1 37 rfl, qm39.2.1 37 rfl, em37, zu_nk (by decide), em35, zu_nk (by decide), qm31.2.1 37 rfl, em27, zu_at, hx26]; exact PG.2.2.1, o, k, L, PL, by rw [qm55.2.1 71 rfl]; exact rE_c (fun j a b => qm55.1 j (by omega) rfl) RE, by rw [qm55.2.1 72 rfl]; exact RK⟩)))
      · exfalso; omega
    · refine ⟨zk_X9_chainAgain, zm_X9_chainAgain hg d (by omega), _, _, rfl, ⟨by omega, by omega⟩, ⟨by omega, by omega⟩, (by omega), (fun x a b => zNd_same (fun j c e => by rw [em27, zu_ne (by omega)]) (zOld_Nd O6 a (by have : x1 = zTop μ := HAD; omega) (hp0.1.1.2.1 x a (by have : x1 = zTop μ := HAD; omega)))), ?_⟩
      intro m58 qm58 p59 p60
      have z61 := zfx_t z28 qm58 rfl rfl
      have O8 : zOld μ m58 (zTop μ) := zOld_t O6 (zOld_same (fun j a b => by rw [qm58.1 j (by omega) (zanyF (by simp <;> omega)), em27, zu_ne (by omega)])) (Int.le_refl _)
      have C8 : ∀ j : Nat, 75 ≤ j → j ≤ 99 → m58.1 j = μ.1 j := fun j a b => by rw [qm58.1 j (by omega) (zanyF (by simp <;> omega)), em27, zu_ne (by omega), qm19.1 j (by omega) (zanyF (by simp <;> omega)), C5 j (by omega)]
      have G45 : m58.1 66 ((45 : Nat) : Int) = μ.1 66 ((45 : Nat) : Int) := by rw [qm58.2.1 45 rfl, em27, zu_nk (by decide), qm19.2.1 45 rfl, D45]
      have G48 : m58.1 66 ((48 : Nat) : Int) = μ.1 66 ((48 : Nat) : Int) := by rw [qm58.2.1 48 rfl, em27, zu_nk (by decide), qm19.2.1 48 rfl, D48]
      have G60 : m58.1 66 ((60 : Nat) : Int) = μ.1 66 ((60 : Nat) : Int) := by rw [qm58.2.1 60 rfl, em27, zu_nk (by decide), qm19.2.1 60 rfl, D60]
      obtain ⟨-, xF, lF, QF, F5, F6, xN⟩ := (by rcases p24 with h | h; (exfalso; have := h.1; omega); exact h : x18 = 0 ∧ _)
      exact And.intro (zrtb (by omega)) (And.intro ⟨by omega, by omega⟩ (hQ _ _ z61 (by omega) (by omega) (zQS_K (zQS_back hp0 p59 (by rw [p60]; exact HAD) O8 (fun j a b => C8 j (by omega) (by omega)) (fun j a b => C8 j (by omega) (by omega)) (C8 98 (by decide) (by decide)) G45 G48 G60) (by omega) hp2) (by rw [qm58.2.1 29 rfl, em27, zu_nk (by decide), qm19.2.1 29 rfl]; exact p14.2) (fun x a b => O8 x a (by have h3 := hp0.1.2.2.1; omega)) (Or.inr ⟨by omega, xF, lF, QF, by rw [qm58.2.1 37 rfl, em27, zu_at, hx26]; exact F5, by rw [qm58.2.1 36 rfl, em27, zu_nk (by decide)]; exact F6, xN⟩)))
  · exfalso; omega
