def yk_X9_anew : zC := fun As μ Q => ∃ (K : Int), As = [.inr (.inr (66, 66))] ∧ (∀ x : Int, 0 ≤ x → x < 20000 → μ.1 98 x ≤ μ.1 66 ((60 : Nat) : Int)) ∧ (0 ≤ μ.1 66 ((60 : Nat) : Int) ∧ μ.1 66 ((60 : Nat) : Int) ≤ K) ∧ ((∀ x : Int, 0 ≤ x → x < 20000 → μ.1 105 x ≤ μ.1 66 ((68 : Nat) : Int)) ∧ 0 ≤ μ.1 66 ((68 : Nat) : Int) ∧ μ.1 66 ((68 : Nat) : Int) ≤ K) ∧ (K ≤ 1999990000) ∧ (∀ (μ' : zM), zfx [67, 68, 69, 70, 71, 72, 73, 76, 77, 79, 80, 86, 87, 3000075] [7, 8, 20, 21, 22, 23, 29, 37, 41, 45, 46, 47, 48, 56, 57] μ μ' → (zRI μ' K) → (μ'.1 66 ((29 : Nat) : Int) = 0) → (μ'.1 66 ((20 : Nat) : Int) = 1) → ((μ'.1 3000075 0 = 4288121 ∧ μ'.1 76 0 = 0 ∧ μ'.1 77 0 = 0 ∧ μ'.1 79 0 = 0)) → (μ'.1 66 ((21 : Nat) : Int) = 0 ∧ μ'.1 66 ((37 : Nat) : Int) = 0) → (∀ w : Int, 0 ≤ w → w < 6400 → μ'.1 86 w = 0 ∧ μ'.1 87 w = 0) → (μ'.1 66 ((23 : Nat) : Int) = 1) → Q none μ')
set_option maxHeartbeats 4000000 in
theorem ym_X9_anew {g : zΓ} (hg : zg g) (d : Nat) (hd : 3 ≤ d) : zOk g d 118 yk_X9_anew := by
  obtain ⟨d, rfl⟩ : ∃ d', d = d' + 1 := ⟨d - 1, by omega⟩
  refine zOk_loop hg (show mt_tab[118]? = some mt_X9_anew from rfl) ([(61, [0, 1]), (105, [0, 1])], []) 101 rfl fun As μ Q hC => ?_
  obtain ⟨K, rfl, hp0, hp1, hp2, hp3, hQ⟩ := hC
  have z0 : zfx [67, 68, 69, 70, 71, 72, 73, 76, 77, 79, 80, 86, 87, 3000075] [7, 8, 20, 21, 22, 23, 29, 37, 41, 45, 46, 47, 48, 56, 57] μ μ := zfx_x μ
  refine ⟨rfl, fun pc vs μ' n => (pc = 61 → ∃ (v1 : Int), vs = [.inr (.inr (66, 66)), .inl v1] ∧ zfx [67, 68, 69, 70, 71, 72, 73, 76, 77, 79, 80, 86, 87, 3000075] [7, 8, 20, 21, 22, 23, 29, 37, 41, 45, 46, 47, 48, 56, 57] μ μ' ∧ (0 ≤ v1 ∧ v1 ≤ 21) ∧ (0 ≤ v1) ∧ (μ'.1 76 0 = 0 ∧ μ'.1 77 0 = 0 ∧ μ'.1 79 0 = 0 ∧ μ'.1 66 ((20 : Nat) : Int) = 1 ∧ μ'.1 66 ((21 : Nat) : Int) = 0 ∧ μ'.1 66 ((8 : Nat) : Int) = 0) ∧ (∀ h : Int, 0 ≤ h → h < 2048 → μ'.1 73 h = -1) ∧ (∀ d : Int, 0 ≤ d → d < v1 → μ'.1 80 d = -1) ∧ (μ'.1 3000075 0 = 4288121) ∧ n = (Int.toNat (2147483648 - v1 + 4294967296))) ∧ (pc = 105 → ∃ (v1 : Int), vs = [.inr (.inr (66, 66)), .inl v1] ∧ zfx [67, 68, 69, 70, 71, 72, 73, 76, 77, 79, 80, 86, 87, 3000075] [7, 8, 20, 21, 22, 23, 29, 37, 41, 45, 46, 47, 48, 56, 57] μ μ' ∧ (0 ≤ v1 ∧ v1 ≤ 6400) ∧ (zA0 μ') ∧ (μ'.1 66 ((23 : Nat) : Int) = 1) ∧ (μ'.1 3000075 0 = 4288121) ∧ (∀ w : Int, 0 ≤ w → w < v1 → μ'.1 86 w = 0 ∧ μ'.1 87 w = 0) ∧ n = (Int.toNat (2147483648 - v1))), ?_, ?_, ?_, trivial⟩
  · refine And.intro ⟨by omega, by omega⟩ ?_
    intro m1 em1
    have z2 := zfx_r z0 em1 rfl (by decide)
    refine And.intro ⟨by omega, by omega⟩ (And.intro ⟨by omega, by omega⟩ ?_)
    intro m3 em3
    have z4 := zfx_r z2 em3 rfl (by decide)
    refine And.intro ⟨by omega, by omega⟩ (And.intro ⟨by omega, by omega⟩ ?_)
    intro m5 em5
    have z6 := zfx_r z4 em5 rfl (by decide)
    refine And.intro ⟨by omega, by omega⟩ (And.intro ⟨by omega, by omega⟩ ?_)
    intro m7 em7
    have z8 := zfx_r z6 em7 rfl (by decide)
    refine And.intro ⟨by omega, by omega⟩ ?_
    intro m9 em9
    have z10 := zfx_f z8 em9 rfl
    refine And.intro ⟨by omega, by omega⟩ ?_
    intro m11 em11
    have z12 := zfx_f z10 em11 rfl
    refine And.intro ⟨by omega, by omega⟩ ?_
    intro m13 em13
    have z14 := zfx_f z12 em13 rfl
    refine And.intro ⟨by omega, by omega⟩ ?_
    intro m15 em15
    have z16 := zfx_f z14 em15 rfl
    refine And.intro ⟨by omega, by omega⟩ ?_
    intro m17 em17
    have z18 := zfx_f z16 em17 rfl
    refine ⟨zk_X9_clearHeads, zm_X9_clearHeads hg d (by omega), rfl, ?_⟩
    intro m19 qm19 p20
    have z21 := zfx_t z18 qm19 rfl rfl
    have B76 : m19.1 76 0 = 0 := by rw [qm19.1 76 (by decide) rfl, em17, zu_ne (by decide), em15, zu_ne (by decide), em13, zu_ne (by decide), em11, zu_ne (by decide), em9, zu_ne (by decide), em7, zu_ne (by decide), em5, zu_ne (by decide), em3, zu_at]
    have B77 : m19.1 77 0 = 0 := by rw [qm19.1 77 (by decide) rfl, em17, zu_ne (by decide), em15, zu_ne (by decide), em13, zu_ne (by decide), em11, zu_ne (by decide), em9, zu_ne (by decide), em7, zu_ne (by decide), em5, zu_at]
    have B79 : m19.1 79 0 = 0 := by rw [qm19.1 79 (by decide) rfl, em17, zu_ne (by decide), em15, zu_ne (by decide), em13, zu_ne (by decide), em11, zu_ne (by decide), em9, zu_ne (by decide), em7, zu_at]
    have B20 : m19.1 66 ((20 : Nat) : Int) = 1 := by rw [qm19.2.1 20 rfl, em17, zu_nk (by decide), em15, zu_nk (by decide), em13, zu_nk (by decide), em11, zu_nk (by decide), em9, zu_at]
    have B21 : m19.1 66 ((21 : Nat) : Int) = 0 := by rw [qm19.2.1 21 rfl, em17, zu_nk (by decide), em15, zu_nk (by decide), em13, zu_nk (by decide), em11, zu_at]
    have B8 : m19.1 66 ((8 : Nat) : Int) = 0 := by rw [qm19.2.1 8 rfl, em17, zu_nk (by decide), em15, zu_at]
    refine Exists.intro (Int.toNat (2147483648 - 0 + 4294967296)) ?_
    exact ⟨(fun _ => ⟨_, rfl, z21, ⟨by omega, by omega⟩, (by omega), ⟨B76, B77, B79, B20, B21, B8⟩, p20, (fun d a b => by omega), (by rw [qm19.1 3000075 (by decide) rfl, em17, zu_ne (by decide), em15, zu_ne (by decide), em13, zu_ne (by decide), em11, zu_ne (by decide), em9, zu_ne (by decide), em7, zu_ne (by decide), em5, zu_ne (by decide), em3, zu_ne (by decide), em1, zu_at]; rfl), rfl⟩), (fun h => absurd h (by decide))⟩
  · intro vs m0 n hI
    replace hI := hI.1 rfl
    clear z0
    obtain ⟨v1, rfl, z0, hv1, i0, i1, i2, i3, i4, rfl⟩ := hI
    refine And.intro ⟨⟨by omega, by omega⟩, ⟨by omega, by omega⟩⟩ (And.intro (fun c22 => ?_) (fun c22 => ?_))
    · refine ⟨zk_X9_make, zm_X9_make hg d (by omega), _, _, _, _, rfl, ⟨by omega, by omega⟩, ⟨by omega, by omega⟩, ⟨by omega, by omega⟩, (zND_t.2 (by rw [show zTop m0 = 0 from i1.2.2.2.2.2]; exact zNDt_0 (by omega) (fun x a b => by omega) i2)), (by rw [i1.2.2.2.2.2]; omega), ⟨fun _ => by omega, fun h => by omega⟩, (fun i a b => by omega), ?_⟩
      intro x23 m24 qm24 kx23 lx23 p25 p26 p27 p28
      have z29 := zfx_t z0 qm24 rfl rfl
      refine And.intro ⟨by omega, by omega⟩ (And.intro ⟨by omega, by omega⟩ ?_)
      intro m30 em30
      have z31 := zfx_r z29 em30 rfl (by decide)
      have T00 : zTop m0 = 0 := i1.2.2.2.2.2
      have X0 : x23 = 0 := by rcases p27 with c | c <;> omega
      have TN : zTop m24 = 1 := by rcases p27 with c | c <;> omega
      have LK := p26
      rw [X0] at LK
      have CE : ∀ j : Nat, j ≠ 80 → m30.1 j = m24.1 j := fun j hj => by rw [em30, zu_ne hj]
      have A := (⟨zND_t.2 (by rw [show zTop m30 = zTop m24 from congrFun (CE 66 (by decide)) _]; exact zNDt_same (fun j a b => CE j (by omega)) (zND_t.1 p25)), by rw [show zTop m30 = zTop m24 from congrFun (CE 66 (by decide)) _]; exact TN, by rw [CE 67 (by decide), CE 68 (by decide), CE 69 (by decide)]; exact ⟨LK.1, LK.2.1, LK.2.2.1⟩, ⟨by rw [CE 76 (by decide), qm24.1 76 (by decide) rfl]; exact i1.1, by rw [CE 77 (by decide), qm24.1 77 (by decide) rfl]; exact i1.2.1, by rw [CE 79 (by decide), qm24.1 79 (by decide) rfl]; exact i1.2.2.1, by rw [em30, zu_at, X0]⟩, fun d a b => by rw [em30, zu_nk (by omega), qm24.1 80 (by decide) rfl]; exact i3 d (by omega) (by omega), by rw [CE 66 (by decide), qm24.2.1 20 rfl]; exact i1.2.2.2.1, by rw [CE 66 (by decide), qm24.2.1 21 rfl]; exact i1.2.2.2.2.1⟩ : zA0 m30)
      refine And.intro ⟨by omega, by omega⟩ ?_
      intro m32 em32
      have z33 := zfx_f z31 em32 rfl
      have A34 := zA0_fr (m' := m32) A (fun j a b => by rw [em32, zu_ne (by omega)]) (by rw [em32]; exact zu_nk (by decide)) (by rw [em32]; exact zu_nk (by decide)) (by rw [em32]; exact zu_nk (by decide))
      refine And.intro ⟨by omega, by omega⟩ ?_
      intro m35 em35
      have z36 := zfx_f z33 em35 rfl
      have A37 := zA0_fr (m' := m35) A34 (fun j a b => by rw [em35, zu_ne (by omega)]) (by rw [em35]; exact zu_nk (by decide)) (by rw [em35]; exact zu_nk (by decide)) (by rw [em35]; exact zu_nk (by decide))
      refine Exists.intro (Int.toNat (2147483648 - 0)) (And.intro (by omega) ?_)
      exact ⟨(fun h => absurd h (by decide)), (fun _ => ⟨_, rfl, z36, ⟨by omega, by omega⟩, A37, (by rw [em35, zu_nk (by decide), em32, zu_at]), (by rw [em35, zu_ne (by decide), em32, zu_ne (by decide), em30, zu_ne (by decide), qm24.1 3000075 (by decide) rfl]; exact i4), (fun w a b => by exfalso; omega), rfl⟩)⟩
    · refine And.intro ⟨by omega, by omega⟩ (And.intro ⟨by omega, by omega⟩ ?_)
      intro m38 em38
      have z39 := zfx_r z0 em38 rfl (by decide)
      refine Exists.intro (Int.toNat (2147483648 - (v1 + 1) + 4294967296)) (And.intro (by omega) ?_)
      exact ⟨(fun _ => ⟨_, rfl, z39, ⟨by omega, by omega⟩, (by omega), (by rw [em38, zu_ne (show (76 : Nat) ≠ 80 by decide), zu_ne (show (77 : Nat) ≠ 80 by decide), zu_ne (show (79 : Nat) ≠ 80 by decide), zu_ne (show (66 : Nat) ≠ 80 by decide)]; exact i1), (by rw [em38, zu_ne (by decide)]; exact i2), (fun d a b => by rw [em38]; by_cases h : d = v1 <;> first | (rw [h, zu_at]) | (rw [zu_nk h]; exact i3 d a (by omega))), (by rw [em38, zu_ne (by decide)]; exact i4), rfl⟩), (fun h => absurd h (by decide))⟩
  · intro vs m0 n hI
    replace hI := hI.2 rfl
    clear z0
    obtain ⟨v1, rfl, z0, hv1, i0, i1, i2, i3, rfl⟩ := hI
    refine And.intro ⟨⟨by omega, by omega⟩, ⟨by omega, by omega⟩⟩ (And.intro (fun c40 => ?_) (fun c40 => ?_))
    · refine And.intro ⟨by omega, by omega⟩ ?_
      intro m41 em41
      have z42 := zfx_f z0 em41 rfl
      have A43 := zA0_fr (m' := m41) i0 (fun j a b => by rw [em41, zu_ne (by omega)]) (by rw [em41]; exact zu_nk (by decide)) (by rw [em41]; exact zu_nk (by decide)) (by rw [em41]; exact zu_nk (by decide))
      refine And.intro ⟨by omega, by omega⟩ ?_
      intro m44 em44
      have z45 := zfx_f z42 em44 rfl
      have A46 := zA0_fr (m' := m44) A43 (fun j a b => by rw [em44, zu_ne (by omega)]) (by rw [em44]; exact zu_nk (by decide)) (by rw [em44]; exact zu_nk (by decide)) (by rw [em44]; exact zu_nk (by decide))
      refine ⟨zk_X9_forgetAsked2, zm_X9_forgetAsked2 hg d (by omega), rfl, ?_⟩
      intro m47 qm47 p48
      have z49 := zfx_t z45 qm47 rfl rfl
      have A50 := zA0_fr (m' := m47) A46 (fun j a b => qm47.1 j (by omega) rfl) (qm47.2.1 8 rfl) (qm47.2.1 20 rfl) (qm47.2.1 21 rfl)
      refine And.intro ⟨by omega, by omega⟩ ?_
      intro m51 em51
      have z52 := zfx_f z49 em51 rfl
      have A53 := zA0_fr (m' := m51) A50 (fun j a b => by rw [em51, zu_ne (by omega)]) (by rw [em51]; exact zu_nk (by decide)) (by rw [em51]; exact zu_nk (by decide)) (by rw [em51]; exact zu_nk (by decide))
      refine And.intro ⟨by omega, by omega⟩ ?_
      intro m54 em54
      have z55 := zfx_f z52 em54 rfl
      have A56 := zA0_fr (m' := m54) A53 (fun j a b => by rw [em54, zu_ne (by omega)]) (by rw [em54]; exact zu_nk (by decide)) (by rw [em54]; exact zu_nk (by decide)) (by rw [em54]; exact zu_nk (by decide))
      exact And.intro rfl (hQ _ z55 (zA0_RI A56 (by rw [em54, zu_nk (by decide), em51, zu_nk (by decide), qm47.2.1 23 rfl, em44, zu_nk (by decide), em41, zu_nk (by decide)]; exact i1) (by rw [em54, zu_nk (by decide), em51, zu_nk (by decide)]; exact p48.1) (by rw [em54, zu_nk (by decide), em51, zu_nk (by decide)]; exact p48.2.2.2) (by rw [z55.2.1 60 rfl]; exact hp1) hp3 (by rw [z55.2.1 60 rfl, z55.1 98 (by decide) rfl]; exact hp0) (by rw [z55.2.1 68 rfl, z55.1 105 (by decide) rfl]; exact hp2.1) (by rw [z55.2.1 68 rfl]; exact hp2.2)) (by rw [em54, zu_nk (by decide), em51, zu_nk (by decide), qm47.2.1 29 rfl, em44, zu_nk (by decide), em41, zu_at]) A56.2.2.2.2.2.1 ⟨(by rw [em54, zu_ne (by decide), em51, zu_ne (by decide), qm47.1 3000075 (by decide) rfl, em44, zu_ne (by decide), em41, zu_ne (by decide)]; exact i2), A56.2.2.2.1.1, A56.2.2.2.1.2.1, A56.2.2.2.1.2.2.1⟩ ⟨A56.2.2.2.2.2.2, (by first | (rw [em54, zu_at]) | (rw [em54, zu_nk (by decide), em51, zu_at]) | (rw [em54, zu_nk (by decide), em51, zu_nk (by decide), qm47.2.1 37 rfl, em44, zu_at]) | (rw [em54, zu_nk (by decide), em51, zu_nk (by decide), qm47.2.1 37 rfl, em44, zu_nk (by decide), em41, zu_at]))⟩ (fun w a b => ⟨(by rw [em54, zu_ne (by decide), em51, zu_ne (by decide), qm47.1 86 (by decide) rfl, em44, zu_ne (by decide), em41, zu_ne (by decide)]; exact (i3 w a (by omega)).1), (by rw [em54, zu_ne (by decide), em51, zu_ne (by decide), qm47.1 87 (by decide) rfl, em44, zu_ne (by decide), em41, zu_ne (by decide)]; exact (i3 w a (by omega)).2)⟩) (by rw [em54, zu_nk (by decide), em51, zu_nk (by decide), qm47.2.1 23 rfl, em44, zu_nk (by decide), em41, zu_nk (by decide)]; exact i1))
    · refine And.intro ⟨by omega, by omega⟩ (And.intro ⟨by omega, by omega⟩ ?_)
      intro m57 em57
      have z58 := zfx_r z0 em57 rfl (by decide)
      refine And.intro ⟨by omega, by omega⟩ (And.intro ⟨by omega, by omega⟩ ?_)
      intro m59 em59
      have z60 := zfx_r z58 em59 rfl (by decide)
      refine Exists.intro (Int.toNat (2147483648 - (v1 + 1))) (And.intro (by omega) ?_)
      exact ⟨(fun h => absurd h (by decide)), (fun _ => ⟨_, rfl, z60, ⟨by omega, by omega⟩, (zA0_fr (m' := m59) i0 (fun j a b => by rw [em59, zu_ne (by omega), em57, zu_ne (by omega)]) (by rw [em59, zu_ne (by decide), em57, zu_ne (by decide)]) (by rw [em59, zu_ne (by decide), em57, zu_ne (by decide)]) (by rw [em59, zu_ne (by decide), em57, zu_ne (by decide)])), (by rw [em59, zu_ne (by decide), em57, zu_ne (by decide)]; exact i1), (by rw [em59, zu_ne (by decide), em57, zu_ne (by decide)]; exact i2), (fun w a b => by by_cases c : w = v1; (rw [c]; exact ⟨by rw [em59, zu_ne (by decide), em57, zu_at], by rw [em59, zu_at]⟩); (have q := i3 w a (by omega); exact ⟨by rw [em59, zu_ne (by decide), em57, zu_nk c]; exact q.1, by rw [em59, zu_nk c, em57, zu_ne (by decide)]; exact q.2⟩)), rfl⟩)⟩
def yk_X9_clear : zC := fun As μ Q => ∃ (K : Int), As = [.inr (.inr (66, 66))] ∧ (∀ x : Int, 0 ≤ x → x < 20000 → μ.1 98 x ≤ μ.1 66 ((60 : Nat) : Int)) ∧ (0 ≤ μ.1 66 ((60 : Nat) : Int) ∧ μ.1 66 ((60 : Nat) : Int) ≤ K) ∧ ((∀ x : Int, 0 ≤ x → x < 20000 → μ.1 105 x ≤ μ.1 66 ((68 : Nat) : Int)) ∧ 0 ≤ μ.1 66 ((68 : Nat) : Int) ∧ μ.1 66 ((68 : Nat) : Int) ≤ K) ∧ (K ≤ 1999990000) ∧ (∀ (μ' : zM), zfx [67, 68, 69, 70, 71, 72, 73, 76, 77, 79, 80, 86, 87, 3000075] [7, 8, 20, 21, 22, 23, 29, 37, 41, 45, 46, 47, 48, 54, 56, 57] μ μ' → (zRI μ' K) → (μ'.1 66 ((29 : Nat) : Int) = 0) → (μ'.1 66 ((20 : Nat) : Int) = 1) → ((μ'.1 3000075 0 = 4288121 ∧ μ'.1 76 0 = 0 ∧ μ'.1 77 0 = 0 ∧ μ'.1 79 0 = 0)) → (μ'.1 66 ((21 : Nat) : Int) = 0 ∧ μ'.1 66 ((37 : Nat) : Int) = 0) → (∀ w : Int, 0 ≤ w → w < 6400 → μ'.1 86 w = 0 ∧ μ'.1 87 w = 0) → (μ'.1 66 ((23 : Nat) : Int) = 1) → Q none μ')
set_option maxHeartbeats 4000000 in
theorem ym_X9_clear {g : zΓ} (hg : zg g) (d : Nat) (hd : 4 ≤ d) : zOk g d 190 yk_X9_clear := by
  obtain ⟨d, rfl⟩ : ∃ d', d = d' + 1 := ⟨d - 1, by omega⟩
  refine zOk_straight hg (show mt_tab[190]? = some mt_X9_clear from rfl) [] 11 rfl fun As μ Q hC => ?_
  obtain ⟨K, rfl, hp0, hp1, hp2, hp3, hQ⟩ := hC
  refine ⟨rfl, ?_⟩
  have z0 : zfx [67, 68, 69, 70, 71, 72, 73, 76, 77, 79, 80, 86, 87, 3000075] [7, 8, 20, 21, 22, 23, 29, 37, 41, 45, 46, 47, 48, 54, 56, 57] μ μ := zfx_x μ
  refine And.intro ⟨by omega, by omega⟩ ?_
  intro m1 em1
  have z2 := zfx_f z0 em1 rfl
  refine ⟨yk_X9_anew, ym_X9_anew hg d (by omega), _, rfl, (by rw [em1, zu_ne (by decide), zu_nk (by decide)]; exact hp0), (by rw [em1, zu_nk (by decide)]; exact hp1), (by rw [em1, zu_ne (by decide), zu_nk (by decide)]; exact hp2), hp3, ?_⟩
  intro m3 qm3 p4 p5 p6 p7 p8 p9 p9t
  have z10 := zfx_t z2 qm3 rfl rfl
  exact And.intro rfl (hQ _ z10 p4 p5 p6 p7 p8 p9 p9t)
