theorem rNg_0' {μ m : zM} {B : yB} (h : rTq μ B) (h24 : m.1 66 ((24 : Nat) : Int) = 0) (h25 : m.1 66 ((25 : Nat) : Int) = 0) (h26 : m.1 66 ((26 : Nat) : Int) = μ.1 66 ((20 : Nat) : Int)) (h27 : m.1 66 ((27 : Nat) : Int) = μ.1 66 ((21 : Nat) : Int)) (h38 : m.1 66 ((38 : Nat) : Int) = 0) (h35 : m.1 66 ((35 : Nat) : Int) = 0) (hj : ∀ j : Nat, j = 3000075 ∨ j = 3000081 ∨ j = 76 ∨ j = 77 ∨ j = 79 ∨ j = 84 → m.1 j = μ.1 j) : rNg 0 0 m (yN B 0 2 0) := by
  have q := rNg_0 (m := (fun j k => if j = 66 then m.1 66 k else μ.1 j k, m.2)) h h24 h25 h26 h27 h38 h35 (fun j hj => by funext k; show (if j = 66 then _ else _) = _; rw [if_neg hj])
  exact rNu_f q (fun j h => by rw [hj j h]; funext k; show μ.1 j k = (if j = 66 then _ else μ.1 j k); rw [if_neg (by omega)]) (fun k hk => rfl)
/-- nodes below n are apart -/
def rUt (m : zM) (n : Int) : Prop := ∀ x y : Int, 0 ≤ x → x < n → 0 ≤ y → y < n → zlike m y (m.1 67 x) (m.1 68 x) (m.1 69 x) (fun i => m.1 70 (4 * x + i)) → x = y
theorem rUt_o {μ m : zM} {n : Int} (h : rUt μ n) (nd : ∀ x : Int, 0 ≤ x → x < n → zNd μ x) (ho : zOld μ m n) : rUt m n := fun x y a b c d hl => by
  obtain ⟨o1, o2, o3, o4, o5⟩ := ho x a b
  obtain ⟨p1, p2, p3, p4, p5⟩ := ho y c d
  have h4 := (nd x a b).1.2
  obtain ⟨l1, l2, l3, l4⟩ := hl
  refine h x y a b c d ⟨by rw [← p1, l1, o1], by rw [← p2, l2, o2], by rw [← p3, l3, o3], fun i i0 i1 => ?_⟩
  exact (p5 i i0 (by omega)).symm.trans ((l4 i i0 (by rw [o3]; exact i1)).trans (o5 i i0 (by omega)))
def hk_X9_readTwiceQ : zC := fun As μ Q => ∃ (C : Int) (Pn : Int) (tt : Int) (K : Int) (B : yB), As = [.inr (.inr (66, 66)), .inl 1] ∧ (zQS μ C Pn tt K) ∧ (C = μ.1 66 ((20 : Nat) : Int) ∧ Pn = μ.1 66 ((21 : Nat) : Int) ∧ tt = μ.1 66 ((23 : Nat) : Int)) ∧ (K + 6000 ≤ 1999990000) ∧ (rTq μ B) ∧ (yI0 B) ∧ (rUt μ tt) ∧ (∀ (v : Int) (μ' : zM), zfx [67, 68, 69, 70, 71, 72, 73, 74, 100, 101, 102, 103, 104] [7, 8, 24, 25, 26, 27, 29, 30, 31, 32, 33, 34, 35, 36, 37, 38, 45, 46, 47, 48, 70, 71, 72] μ μ' → 0 ≤ v → v ≤ 1 → (zQS μ' C Pn tt (K + 6000)) → (μ'.1 66 ((29 : Nat) : Int) = 0) → (zOld μ μ' tt) → ((v = 1 ∧ (μ'.1 66 ((45 : Nat) : Int) = 0 ∧ μ'.1 66 ((46 : Nat) : Int) = 0 ∧ μ'.1 66 ((48 : Nat) : Int) = 0 ∧ zTy μ' (μ'.1 66 ((71 : Nat) : Int)) ∧ zTy μ' (μ'.1 66 ((72 : Nat) : Int))) ∧ yQq ((μ.1 85, μ.1 66 ((29 : Nat) : Int)) : yT) B 0 0 ∧ μ'.1 66 ((37 : Nat) : Int) = 0 ∧ zUq μ' 0 ∧ ∃ (o : Int) (L1 L2 : List Int), yQl ((μ.1 85, μ.1 66 ((29 : Nat) : Int)) : yT) B o L1 L2 ∧ rE μ' (μ'.1 66 ((71 : Nat) : Int)) L1 ∧ rE μ' (μ'.1 66 ((72 : Nat) : Int)) L2) ∨ (v = 0 ∧ ∃ x l, yQq ((μ.1 85, μ.1 66 ((29 : Nat) : Int)) : yT) B x l ∧ μ'.1 66 ((37 : Nat) : Int) = x ∧ μ'.1 66 ((36 : Nat) : Int) = l ∧ x ≠ 0)) → Q (some (.inl v)) μ')
set_option maxHeartbeats 4000000 in
theorem hm_X9_readTwiceQ {g : zΓ} (hg : zg g) (d : Nat) (hd : 7 ≤ d) : zOk g d 159 hk_X9_readTwiceQ := by
  obtain ⟨d, rfl⟩ : ∃ d', d = d' + 1 := ⟨d - 1, by omega⟩
  refine zOk_straight hg (show mt_tab[159]? = some mt_X9_readTwice from rfl) [] 69 rfl fun As μ Q hC => ?_
  obtain ⟨C, Pn, tt, K, B, rfl, hp0, hp1, hp2, hp3, hp4, hUt, hQ⟩ := hC
  refine ⟨rfl, ?_⟩
  have z0 : zfx [67, 68, 69, 70, 71, 72, 73, 74, 100, 101, 102, 103, 104] [7, 8, 24, 25, 26, 27, 29, 30, 31, 32, 33, 34, 35, 36, 37, 38, 45, 46, 47, 48, 70, 71, 72] μ μ := zfx_x μ
  intro x1 hx1 kx1 lx1
  have HAD : x1 = zTop μ := hx1
  refine And.intro ⟨by omega, by omega⟩ ?_
  intro m2 em2
  have z3 := zfx_f z0 em2 rfl
  refine And.intro ⟨by omega, by omega⟩ ?_
  intro m4 em4
  have z5 := zfx_f z3 em4 rfl
  intro x6 hx6 kx6 lx6
  have X20 : x6 = μ.1 66 ((20 : Nat) : Int) := by rw [hx6, em4, zu_nk (by decide), em2, zu_nk (by decide)]
  refine And.intro ⟨by omega, by omega⟩ ?_
  intro m7 em7
  have z8 := zfx_f z5 em7 rfl
  intro x9 hx9 kx9 lx9
  have X28 : x9 = μ.1 66 ((21 : Nat) : Int) := by rw [hx9, em7, zu_nk (by decide), em4, zu_nk (by decide), em2, zu_nk (by decide)]
  refine And.intro ⟨by omega, by omega⟩ ?_
  intro m10 em10
  have z11 := zfx_f z8 em10 rfl
  have C1 : ∀ j : Nat, j ≠ 66 → m10.1 j = μ.1 j := fun j hj => by rw [em10, zu_ne hj, em7, zu_ne hj, em4, zu_ne hj, em2, zu_ne hj]
  refine ⟨yk_X9_begin, ym_X9_begin hg d (by omega), rfl, ?_⟩
  intro m12 qm12 p13 p14 p15
  have z16 := zfx_t z11 qm12 rfl rfl
  have C5 : ∀ j : Nat, j ≠ 66 → m12.1 j = μ.1 j := fun j hj => (qm12.1 j hj rfl).trans (C1 j hj)
  have D8 : m12.1 66 ((8 : Nat) : Int) = μ.1 66 ((8 : Nat) : Int) := (qm12.2.1 8 rfl).trans (by rw [em10, zu_nk (by decide), em7, zu_nk (by decide), em4, zu_nk (by decide), em2, zu_nk (by decide)])
  have D45 : m12.1 66 ((45 : Nat) : Int) = μ.1 66 ((45 : Nat) : Int) := (qm12.2.1 45 rfl).trans (by rw [em10, zu_nk (by decide), em7, zu_nk (by decide), em4, zu_nk (by decide), em2, zu_nk (by decide)])
  have D48 : m12.1 66 ((48 : Nat) : Int) = μ.1 66 ((48 : Nat) : Int) := (qm12.2.1 48 rfl).trans (by rw [em10, zu_nk (by decide), em7, zu_nk (by decide), em4, zu_nk (by decide), em2, zu_nk (by decide)])
  have D60 : m12.1 66 ((60 : Nat) : Int) = μ.1 66 ((60 : Nat) : Int) := (qm12.2.1 60 rfl).trans (by rw [em10, zu_nk (by decide), em7, zu_nk (by decide), em4, zu_nk (by decide), em2, zu_nk (by decide)])
  have D23 : m12.1 66 ((23 : Nat) : Int) = μ.1 66 ((23 : Nat) : Int) := (qm12.2.1 23 rfl).trans (by rw [em10, zu_nk (by decide), em7, zu_nk (by decide), em4, zu_nk (by decide), em2, zu_nk (by decide)])
  have T5 : zTop m12 = zTop μ := D8
  have N5 : zND m12 0 := zND_t.2 (by rw [T5]; exact zNDt_same (fun j a b => C5 j (by omega)) (zND_t.1 hp0.1.1))
  have W5 : zWf m12 0 (zTop m12) C Pn (μ.1 66 ((45 : Nat) : Int)) (μ.1 77) := by rw [T5]; exact zWf_same hp0.1.2.2.2.2.1 (fun j a b => C5 j (by omega)) rfl
  have TM := zQS_top hp0
  have HB := hp0.1.2.1.1
  have HTC := hp0.1.2.1.2.1
  have TE : ((m10.1 85, m10.1 66 ((29 : Nat) : Int)) : yT) = ((μ.1 85, μ.1 66 ((29 : Nat) : Int)) : yT) := by rw [C1 85 (by decide), show m10.1 66 ((29 : Nat) : Int) = μ.1 66 ((29 : Nat) : Int) from (by rw [em10, zu_nk (by decide), em7, zu_nk (by decide), em4, zu_nk (by decide), em2, zu_nk (by decide)])]
  have LB := p15
  rw [TE] at LB
  have NB0 : rNg 0 0 m12 (yN B 0 2 0) := rNg_0 hp3 (by rw [qm12.2.1 24 rfl, em10, zu_nk (by decide), em7, zu_nk (by decide), em4, zu_nk (by decide), em2, zu_at]) (by rw [qm12.2.1 25 rfl, em10, zu_nk (by decide), em7, zu_nk (by decide), em4, zu_at]) (by rw [qm12.2.1 26 rfl, em10, zu_nk (by decide), em7, zu_at, X20]) (by rw [qm12.2.1 27 rfl, em10, zu_at, X28]) p14.1 LB.2 C5
  refine And.intro ⟨by omega, by omega⟩ (And.intro (fun c17 => ?_) (fun c17 => ?_))
  · exfalso; omega
  · refine ⟨hk_X9_readQuestion, hm_X9_readQuestion hg d (by omega), _, _, _, _, _, ((μ.1 85, μ.1 66 ((29 : Nat) : Int)) : yT), B, _, _, rfl, p13, N5, W5, (by rw [show m12.1 66 ((26 : Nat) : Int) = μ.1 66 ((20 : Nat) : Int) from (qm12.2.1 26 rfl).trans (by rw [em10, zu_nk (by decide), em7, zu_at, X20]), show m12.1 66 ((24 : Nat) : Int) = 0 from (qm12.2.1 24 rfl).trans (by rw [em10, zu_nk (by decide), em7, zu_nk (by decide), em4, zu_nk (by decide), em2, zu_at]), C5 76 (by decide), C5 77 (by decide)]; exact ⟨Int.le_of_eq hp1.1.symm, fun c a b => by rw [Int.zero_add]; exact (HTC c a b).2.2.2.1, HB.2.1, HB.2.2.2.1⟩), (fun v a b => by rw [show m12.1 66 ((24 : Nat) : Int) = 0 from (qm12.2.1 24 rfl).trans (by rw [em10, zu_nk (by decide), em7, zu_nk (by decide), em4, zu_nk (by decide), em2, zu_at]), C5 77 (by decide), Int.zero_add]), (by rw [D8, p14.1]; exact zar1 TM), (by rw [show m12.1 66 ((26 : Nat) : Int) = μ.1 66 ((20 : Nat) : Int) from (qm12.2.1 26 rfl).trans (by rw [em10, zu_nk (by decide), em7, zu_at, X20])]; rw [← hp1.1]; exact zar0 HB.1), ⟨LB.1, NB0⟩, hp4, (by rw [hp1.1]; exact hp3.1.1), ?_⟩
    intro x62 m63 qm63 kx62 lx62 p64 p65 p66 p67 p68
    have z69 := zfx_t z16 qm63 rfl rfl
    clear p64 p67
    have E6 : m63.1 66 ((30 : Nat) : Int) ≤ 800 ∧ 0 ≤ m63.1 66 ((30 : Nat) : Int) := by have h1 := p66; have h2 := p13; omega
    clear p66 p13
    have O6 : zOld μ m63 (zTop μ) := zOld_l (fun j a b => C5 j (by omega)) (by rw [← T5]; exact p65.1.2.2.1)
    intro x70 hx70 kx70 lx70
    refine And.intro ⟨by omega, by omega⟩ ?_
    intro m71 em71
    have z72 := zfx_f z69 em71 rfl
    refine And.intro ⟨by omega, by omega⟩ (And.intro (fun c73 => ?_) (fun c73 => ?_))
    · intro x74 hx74 kx74 lx74
      rw [em71, zu_nk (by decide), qm63.2.1 23 rfl, D23] at hx74
      refine ⟨zk_X9_chainAgain, zm_X9_chainAgain hg d (by omega), _, _, rfl, ⟨by omega, by omega⟩, ⟨by omega, by omega⟩, (by omega), (fun x a b => by have h1 : x74 = tt := (by omega); have h3 := hp0.1.2.2.1; exact zNd_same (fun j c e => by rw [em71, zu_ne (by omega)]) (zOld_Nd O6 a (by omega) (hp0.1.1.2.1 x a (by omega)))), ?_⟩
      intro m75 qm75 p76 p77
      have z78 := zfx_t z72 qm75 rfl rfl
      have O8 : zOld μ m75 (zTop μ) := zOld_t O6 (zOld_same (fun j a b => by rw [qm75.1 j (by omega) (zanyF (by simp <;> omega)), em71, zu_ne (by omega)])) (Int.le_refl _)
      have C8 : ∀ j : Nat, 75 ≤ j → j ≤ 99 → m75.1 j = μ.1 j := fun j a b => by rw [qm75.1 j (by omega) (zanyF (by simp <;> omega)), em71, zu_ne (by omega), qm63.1 j (by omega) (zanyF (by simp <;> omega)), C5 j (by omega)]
      have G45 : m75.1 66 ((45 : Nat) : Int) = μ.1 66 ((45 : Nat) : Int) := by rw [qm75.2.1 45 rfl, em71, zu_nk (by decide), qm63.2.1 45 rfl, D45]
      have G48 : m75.1 66 ((48 : Nat) : Int) = μ.1 66 ((48 : Nat) : Int) := by rw [qm75.2.1 48 rfl, em71, zu_nk (by decide), qm63.2.1 48 rfl, D48]
      have G60 : m75.1 66 ((60 : Nat) : Int) = μ.1 66 ((60 : Nat) : Int) := by rw [qm75.2.1 60 rfl, em71, zu_nk (by decide), qm63.2.1 60 rfl, D60]
      refine And.intro ⟨by omega, by omega⟩ ?_
      intro m79 em79
      have z80 := zfx_f z78 em79 rfl
      refine And.intro ⟨by omega, by omega⟩ ?_
      intro m81 em81
      have z82 := zfx_f z80 em81 rfl
      refine ⟨yk_X9_pass, ym_X9_pass hg d (by omega), rfl, (by rw [show m81.1 66 ((31 : Nat) : Int) = 0 from (by rw [em81, zu_nk (by decide), em79, zu_at]), show m81.1 66 ((30 : Nat) : Int) = m63.1 66 ((30 : Nat) : Int) from (by rw [em81, zu_nk (by decide), em79, zu_nk (by decide), qm75.2.1 30 rfl, em71, zu_nk (by decide)])]; omega), ?_⟩
      intro m83 qm83 p84 p85 p86 p87 p88
      have z89 := zfx_t z82 qm83 rfl rfl
      have CB : ∀ j : Nat, j ≠ 66 → m83.1 j = m75.1 j := fun j hj => (qm83.1 j hj rfl).trans (by rw [em81, zu_ne hj, em79, zu_ne hj])
      have H8 : m83.1 66 ((8 : Nat) : Int) = m75.1 66 ((8 : Nat) : Int) := (qm83.2.1 8 rfl).trans (by rw [em81, zu_nk (by decide), em79, zu_nk (by decide)])
      have H60 : m83.1 66 ((60 : Nat) : Int) = m75.1 66 ((60 : Nat) : Int) := (qm83.2.1 60 rfl).trans (by rw [em81, zu_nk (by decide), em79, zu_nk (by decide)])
      have H38 : m83.1 66 ((38 : Nat) : Int) = 0 := (qm83.2.1 38 rfl).trans (by rw [em81, zu_at])
      have TB : zTop m83 = tt := by rw [show zTop m83 = zTop m75 from H8, p77]; omega
      have NB : zND m83 0 := zND_t.2 (by rw [show zTop m83 = zTop m75 from H8]; exact zNDt_same (fun j a b => CB j (by omega)) (zND_t.1 p76))
      have QT := zQ_tab hp0.1 NB TB (zOld_t O8 (zOld_same (fun j a b => CB j (by omega))) (Int.le_refl _)) hp0.1.2.2.1 (fun j a b => by rw [CB j (by omega), C8 j (by omega) (by omega)])
      refine And.intro ⟨by omega, by omega⟩ (And.intro (fun c90 => ?_) (fun c90 => ?_))
      · exfalso; omega
      · have K24 : m83.1 66 ((24 : Nat) : Int) = 0 := (qm83.2.1 24 rfl).trans (by rw [em81, zu_nk (by decide), em79, zu_nk (by decide), qm75.2.1 24 rfl, em71, zu_nk (by decide), qm63.2.1 24 rfl, qm12.2.1 24 rfl, em10, zu_nk (by decide), em7, zu_nk (by decide), em4, zu_nk (by decide), em2, zu_at])
        have K26 : m83.1 66 ((26 : Nat) : Int) = μ.1 66 ((20 : Nat) : Int) := (qm83.2.1 26 rfl).trans (by rw [em81, zu_nk (by decide), em79, zu_nk (by decide), qm75.2.1 26 rfl, em71, zu_nk (by decide), qm63.2.1 26 rfl, qm12.2.1 26 rfl, em10, zu_nk (by decide), em7, zu_at, X20])
        have K76 : m83.1 76 = μ.1 76 := by rw [CB 76 (by decide), C8 76 (by decide) (by decide)]
        have K77 : m83.1 77 = μ.1 77 := by rw [CB 77 (by decide), C8 77 (by decide) (by decide)]
        have PG := (by rcases p68 with h | h; exact h; (exfalso; have := h.1; omega) : x62 = 1 ∧ _ ∧ _ ∧ _)
        have t29 : m63.1 85 = μ.1 85 ∧ m63.1 66 ((30 : Nat) : Int) = μ.1 66 ((29 : Nat) : Int) := ⟨by rw [qm63.1 85 (by decide) rfl, C5 85 (by decide)], by rw [qm63.2.1 30 rfl, LB.1.1.2]⟩
        have LX2 : rLx m83 ((μ.1 85, μ.1 66 ((29 : Nat) : Int)) : yT) 0 := by
          have e85 : m81.1 85 = μ.1 85 := by rw [em81, zu_ne (by decide), em79, zu_ne (by decide), qm75.1 85 (by decide) rfl, em71, zu_ne (by decide)]; exact t29.1
          have e30 : m81.1 66 ((30 : Nat) : Int) = μ.1 66 ((29 : Nat) : Int) := by rw [em81, zu_nk (by decide), em79, zu_nk (by decide), qm75.2.1 30 rfl, em71, zu_nk (by decide)]; exact t29.2
          have e31 : m81.1 66 ((31 : Nat) : Int) = 0 := by rw [em81, zu_nk (by decide), em79, zu_at]
          have q := p88
          rw [e85, e30, e31] at q
          refine ⟨⟨(qm83.1 85 (by decide) rfl).trans e85, (qm83.2.1 30 rfl).trans e30⟩, ⟨by omega, ?_, ?_⟩, q⟩
          · show 0 ≤ μ.1 66 ((29 : Nat) : Int)
            rw [← t29.2]; exact E6.2
          · show μ.1 66 ((29 : Nat) : Int) ≤ 800
            rw [← t29.2]; exact E6.1
        have NG2 : rNg 0 0 m83 (yN B 0 2 0) := rNg_0' hp3 K24 ((qm83.2.1 25 rfl).trans (by rw [em81, zu_nk (by decide), em79, zu_nk (by decide), qm75.2.1 25 rfl, em71, zu_nk (by decide), qm63.2.1 25 rfl, qm12.2.1 25 rfl, em10, zu_nk (by decide), em7, zu_nk (by decide), em4, zu_at])) K26 ((qm83.2.1 27 rfl).trans (by rw [em81, zu_nk (by decide), em79, zu_nk (by decide), qm75.2.1 27 rfl, em71, zu_nk (by decide), qm63.2.1 27 rfl, qm12.2.1 27 rfl, em10, zu_at, X28])) H38 ((qm83.2.1 35 rfl).trans (by rw [em81, zu_nk (by decide), em79, zu_nk (by decide), qm75.2.1 35 rfl, em71, zu_nk (by decide)]; exact PG.2.2.1)) (fun j hj => by rcases hj with h | h | h | h | h | h <;> subst h <;> first | (rw [CB _ (by decide), C8 _ (by decide) (by decide)]) | (rw [CB _ (by decide), qm75.1 _ (by decide) rfl, em71, zu_ne (by decide), qm63.1 _ (by decide) rfl, C5 _ (by decide)]))
        have CB0 : C = B.1 0 0 := hp1.1.trans hp3.1.1
        refine ⟨hk_X9_readQuestion, hm_X9_readQuestion hg d (by omega), _, _, _, _, _, ((μ.1 85, μ.1 66 ((29 : Nat) : Int)) : yT), B, 0, 0, rfl, p84, NB, QT.2, (by rw [K26, K24, K76, K77]; exact ⟨Int.le_of_eq hp1.1.symm, fun c a b => by rw [Int.zero_add]; exact (HTC c a b).2.2.2.1, HB.2.1, HB.2.2.2.1⟩), (fun v a b => by rw [K24, Int.zero_add]), (by rw [show m83.1 66 ((8 : Nat) : Int) = tt from TB, H38]; exact zar2 HB.2.2.2.2.2), (by rw [K26, ← hp1.1]; exact zar0 HB.1), ⟨LX2, NG2⟩, hp4, CB0, ?_⟩
        intro x102 m103 qm103 kx102 lx102 p104 p105 p106 p107 p108
        have PS := (by rcases p108 with h | ⟨-, x, l, h1, -, -, h4⟩; exact h; exact absurd (yQq_one h1 PG.2.1).1 h4 : x102 = 1 ∧ _ ∧ _ ∧ _)
        have z109 := zfx_t z89 qm103 rfl rfl
        clear p104 p84
        refine ⟨zk_X9_forgetAsked2, zm_X9_forgetAsked2 hg d (by omega), rfl, ?_⟩
        intro m110 qm110 p111
        have z112 := zfx_t z109 qm110 rfl rfl
        have TE := zTE_fr p105 (fun j a b => qm110.1 j (by omega) rfl) (qm110.2.1 8 rfl) (qm110.2.1 38 rfl)
        have S60 : m110.1 66 ((60 : Nat) : Int) = μ.1 66 ((60 : Nat) : Int) := by rw [qm110.2.1 60 rfl, qm103.2.1 60 rfl, H60, G60]
        have N38 : m110.1 66 ((38 : Nat) : Int) ≤ 300 := by rw [qm110.2.1 38 rfl]; have := p106; omega
        have FIN : zQS m110 C Pn tt (K + 6000) := zQ_read QT.1 QT.2 NB TB TE (fun j a b => by rw [qm110.1 j (by omega) rfl, qm103.1 j (by omega) (zanyF (by simp <;> omega))]) (by have h1 := TE.2.1; unfold zTn at h1; omega) p111.1 p111.2.2.2 (by rw [S60]; have := hp0.2.2.2; omega) hp2 (fun x a b => by rw [S60, qm110.1 98 (by decide) rfl, qm103.1 98 (by decide) rfl, CB 98 (by decide), C8 98 (by decide) (by decide)]; exact hp0.1.2.2.2.2.2.2 x a b)
        have o1 : zOld μ m83 tt := fun x a b => zOld_t O8 (zOld_same (fun j a b => CB j (by omega))) (Int.le_refl _) x a (by have h3 := hp0.1.2.2.1; omega)
        have O110 : zOld μ m110 tt := by
          have o2 : zOld m83 m110 tt := by have q := TE.1.2.2.1; rw [TB] at q; exact q
          exact zOld_t o1 o2 (Int.le_refl _)
        have U110 : zUq m110 0 := TE.1.2.2.2.2 (by
          have q := rUt_o hUt (fun x a b => hp0.1.1.2.1 x a (by have h3 := hp0.1.2.2.1; omega)) o1
          rw [← TB] at q
          exact q)
        have P1 := p107 PS.1
        have PS1 := PS.1
        obtain ⟨-, -, -, o, L1, L2, QL, RE1, RE2⟩ := PS
        exact And.intro (zrtb (by omega)) (And.intro ⟨by omega, by omega⟩ (hQ _ _ z112 (by omega) (by omega) FIN (by rw [qm110.2.1 29 rfl, qm103.2.1 29 rfl, qm83.2.1 29 rfl, em81, zu_nk (by decide), em79, zu_nk (by decide), qm75.2.1 29 rfl, em71, zu_nk (by decide), qm63.2.1 29 rfl]; exact p14.2) O110 (Or.inl ⟨PS1, ⟨p111.1, p111.2.1, p111.2.2.2, by rw [qm110.2.1 71 rfl]; exact zTy_same P1.1 (qm110.1 67 (by decide) rfl) (qm110.2.1 8 rfl), by rw [qm110.2.1 72 rfl]; exact zTy_same P1.2 (qm110.1 67 (by decide) rfl) (qm110.2.1 8 rfl)⟩, PG.2.1, by rw [qm110.2.1 37 rfl, qm103.2.1 37 rfl, qm83.2.1 37 rfl, em81, zu_nk (by decide), em79, zu_nk (by decide), qm75.2.1 37 rfl, em71, zu_at, hx70]; exact PG.2.2.1, U110, o, L1, L2, QL, by rw [qm110.2.1 71 rfl]; exact rE_c (fun j a b => qm110.1 j (by omega) rfl) RE1, by rw [qm110.2.1 72 rfl]; exact rE_c (fun j a b => qm110.1 j (by omega) rfl) RE2⟩)))
    · refine ⟨zk_X9_chainAgain, zm_X9_chainAgain hg d (by omega), _, _, rfl, ⟨by omega, by omega⟩, ⟨by omega, by omega⟩, (by omega), (fun x a b => zNd_same (fun j c e => by rw [em71, zu_ne (by omega)]) (zOld_Nd O6 a (by have : x1 = zTop μ := HAD; omega) (hp0.1.1.2.1 x a (by have : x1 = zTop μ := HAD; omega)))), ?_⟩
      intro m113 qm113 p114 p115
      have z116 := zfx_t z72 qm113 rfl rfl
      have O8 : zOld μ m113 (zTop μ) := zOld_t O6 (zOld_same (fun j a b => by rw [qm113.1 j (by omega) (zanyF (by simp <;> omega)), em71, zu_ne (by omega)])) (Int.le_refl _)
      have C8 : ∀ j : Nat, 75 ≤ j → j ≤ 99 → m113.1 j = μ.1 j := fun j a b => by rw [qm113.1 j (by omega) (zanyF (by simp <;> omega)), em71, zu_ne (by omega), qm63.1 j (by omega) (zanyF (by simp <;> omega)), C5 j (by omega)]
      have G45 : m113.1 66 ((45 : Nat) : Int) = μ.1 66 ((45 : Nat) : Int) := by rw [qm113.2.1 45 rfl, em71, zu_nk (by decide), qm63.2.1 45 rfl, D45]
      have G48 : m113.1 66 ((48 : Nat) : Int) = μ.1 66 ((48 : Nat) : Int) := by rw [qm113.2.1 48 rfl, em71, zu_nk (by decide), qm63.2.1 48 rfl, D48]
      have G60 : m113.1 66 ((60 : Nat) : Int) = μ.1 66 ((60 : Nat) : Int) := by rw [qm113.2.1 60 rfl, em71, zu_nk (by decide), qm63.2.1 60 rfl, D60]
      obtain ⟨-, xF, lF, QF, F5, F6, xN⟩ := (by rcases p68 with h | h; (exfalso; have := h.1; omega); exact h : x62 = 0 ∧ _)
      exact And.intro (zrtb (by omega)) (And.intro ⟨by omega, by omega⟩ (hQ _ _ z116 (by omega) (by omega) (zQS_K (zQS_back hp0 p114 (by rw [p115]; exact HAD) O8 (fun j a b => C8 j (by omega) (by omega)) (fun j a b => C8 j (by omega) (by omega)) (C8 98 (by decide) (by decide)) G45 G48 G60) (by omega) hp2) (by rw [qm113.2.1 29 rfl, em71, zu_nk (by decide), qm63.2.1 29 rfl]; exact p14.2) (fun x a b => O8 x a (by have h3 := hp0.1.2.2.1; omega)) (Or.inr ⟨by omega, xF, lF, QF, by rw [qm113.2.1 37 rfl, em71, zu_at, hx70]; exact F5, by rw [qm113.2.1 36 rfl, em71, zu_nk (by decide)]; exact F6, xN⟩)))
