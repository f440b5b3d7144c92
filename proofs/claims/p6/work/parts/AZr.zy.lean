def yk_X9_readDecl : zC := fun As μ Q => ∃ (lo : Int) (n : Int) (τ : yT) (p : Int) (B : yB), As = [.inr (.inr (66, 66))] ∧ (0 ≤ μ.1 66 ((33 : Nat) : Int) ∧ 0 ≤ μ.1 66 ((34 : Nat) : Int) ∧ μ.1 66 ((33 : Nat) : Int) + μ.1 66 ((34 : Nat) : Int) ≤ μ.1 66 ((31 : Nat) : Int) ∧ μ.1 66 ((31 : Nat) : Int) ≤ μ.1 66 ((30 : Nat) : Int) ∧ μ.1 66 ((30 : Nat) : Int) ≤ 800) ∧ (zDS μ lo n) ∧ (μ.1 66 ((60 : Nat) : Int) ≤ 1999000000) ∧ (rLx μ τ p) ∧ (rNu μ B) ∧ (yInv (0, p, 0, [], B)) ∧ (rAb μ B n lo) ∧ (∀ (v : Int) (μ' : zM), zfx [67, 68, 69, 70, 71, 72, 73, 74, 76, 77, 78, 79, 80, 82, 83, 84, 97, 98, 99, 100, 101, 102, 103, 104, 3000075, 3000081] [8, 26, 27, 31, 32, 33, 34, 35, 36, 38, 60] μ μ' → 0 ≤ v → v ≤ 1 → (0 ≤ μ'.1 66 ((33 : Nat) : Int) ∧ 0 ≤ μ'.1 66 ((34 : Nat) : Int) ∧ μ'.1 66 ((33 : Nat) : Int) + μ'.1 66 ((34 : Nat) : Int) ≤ μ'.1 66 ((31 : Nat) : Int) ∧ μ'.1 66 ((31 : Nat) : Int) ≤ μ'.1 66 ((30 : Nat) : Int) ∧ μ'.1 66 ((30 : Nat) : Int) ≤ 800) → (μ'.1 66 ((30 : Nat) : Int) = μ.1 66 ((30 : Nat) : Int)) → (zNo μ μ' lo) → (μ.1 66 ((60 : Nat) : Int) ≤ μ'.1 66 ((60 : Nat) : Int) ∧ μ'.1 66 ((60 : Nat) : Int) ≤ μ.1 66 ((60 : Nat) : Int) + 200) → (∀ x : Int, 0 ≤ x → x < 20000 → μ'.1 98 x ≤ μ'.1 66 ((60 : Nat) : Int)) → (v = 1 → zDS μ' lo (n + 1) ∧ zrm μ' < zrm μ) → (zOt μ μ') → ((v = 0 ∧ rFa τ (0, p, 0, [], B) μ') ∨ (v = 1 ∧ ∃ p' B', yR τ (0, p, 0, [], B) (9, p', 0, [], B') ∧ rLx μ' τ p' ∧ rNu μ' B' ∧ rAb μ' B' (n + 1) lo)) → Q (some (.inl v)) μ')
set_option maxHeartbeats 4000000 in
theorem ym_X9_readDecl {g : zΓ} (hg : zg g) (d : Nat) (hd : 7 ≤ d) : zOk g d 147 yk_X9_readDecl := by
  obtain ⟨d, rfl⟩ : ∃ d', d = d' + 1 := ⟨d - 1, by omega⟩
  refine zOk_straight hg (show mt_tab[147]? = some mt_X9_readDecl from rfl) [] 54 rfl fun As μ Q hC => ?_
  obtain ⟨lo, n, τ, p, B, rfl, hp0, hp1, hp2, hp3, hp4, hp5, hp6, hQ⟩ := hC
  refine ⟨rfl, ?_⟩
  have z0 : zfx [67, 68, 69, 70, 71, 72, 73, 74, 76, 77, 78, 79, 80, 82, 83, 84, 97, 98, 99, 100, 101, 102, 103, 104, 3000075, 3000081] [8, 26, 27, 31, 32, 33, 34, 35, 36, 38, 60] μ μ := zfx_x μ
  intro x1 hx1 kx1 lx1
  have DD := hp1.1
  have CN : x1 = n := by omega
  subst CN
  have L0 := DD.2.2.2.2.2.2.2.2.2.1
  have L1 := DD.2.2.2.1
  have N0 := zNo_r (μ := μ) hp1.2.1.1
  refine ⟨yk_X9_readHead, ym_X9_readHead hg d (by omega), _, _, _, _, rfl, ⟨by omega, by omega⟩, hp0, ⟨DD.1, DD.2.1, DD.2.2.1⟩, ⟨DD.2.2.2.2.2.1, DD.2.2.2.2.2.2.1⟩, hp3, hp4, hp5, ?_⟩
  intro x2 m3 qm3 kx2 lx2 p4 p5 p6 p7 p8
  have z9 := zfx_t z0 qm3 rfl rfl
  have ot10 := zOt_t (zOt_r μ) p7
  have N11 := zNo_fr N0 (fun j a b => qm3.1 j (by omega) (zanyF (by simp <;> omega))) (qm3.2.1 8 rfl)
  refine And.intro ⟨by omega, by omega⟩ (And.intro (fun c12 => ?_) (fun c12 => ?_))
  · have H := p6 (by omega)
    have DH := zD2_head hp1 H.2.1 H.1 (fun j a b => qm3.1 j (by omega) (zanyF (by simp <;> omega))) (qm3.1 78 (by decide) rfl) (qm3.1 80 (by decide) rfl) (qm3.1 83 (by decide) rfl) (qm3.1 98 (by decide) rfl) (fun k hk => by rcases hk with h | h | h | h | h <;> subst h <;> exact qm3.2.1 _ rfl)
    have D1 := DH.1
    have Z79 := DH.2
    have ZR1 := Int.le_of_lt H.2.2
    have PR1 := zD2_pre hp1 D1
    obtain ⟨-, p1, B1, R1, Y1, U1, O1, E1⟩ := Or.resolve_left p8 (fun h0 => by have h2 := h0.1; omega)
    have E2 : B1.2 2 = B.2 2 := by rw [E1]
    intro x13 hx13 kx13 lx13
    have KK1 := rkd Y1 hx13.symm
    refine And.intro ⟨⟨by omega, by omega⟩, ⟨by omega, by omega⟩⟩ (And.intro (fun c14 => ?_) (fun c14 => ?_))
    · have R2 := yR_s R1 (ym3_b (fun h0 => by have h1 := (rKd_w KK1).1.mpr h0; omega))
      intro x15 hx15 kx15 lx15
      have KK2 := rkd Y1 hx15.symm
      refine And.intro ⟨⟨by omega, by omega⟩, ⟨by omega, by omega⟩⟩ (And.intro (fun c16 => ?_) (fun c16 => ?_))
      · have R3 := yR_s R2 (ym6_b (fun h0 => by have h1 := (rKd_s 58 KK2 (by decide)).mpr h0; omega))
        have S3 : rSu m3 B1 x1 lo := fun i i0 i1 => by exfalso; have h0 := (U1.2.1 x1 (by omega) (by have h1 := U1.1.2.2.1; have h2 := D1.1.2.2.1; omega)).2.2.2; have h3 := Z79; omega
        intro x17 hx17 kx17 lx17
        have KK3 := rkd Y1 hx17.symm
        refine And.intro ⟨⟨by omega, by omega⟩, ⟨by omega, by omega⟩⟩ (And.intro (fun c18 => ?_) (fun c18 => ?_))
        · have TK9 : m3.1 66 ((32 : Nat) : Int) = 59 := by omega
          have AB : rAb m3 B1 x1 lo := rAb_old hp6 N11.1.1.1 N11.2.1 hp1.2.1.1.2.1 (fun q hq => by rw [qm3.1 80 (by decide) rfl]) N11.2.2 (fun e d a b => by rw [E2])
          refine ⟨yk_X9_findAbove, ym_X9_findAbove hg d (by omega), _, _, _, _, _, _, rfl, ⟨by omega, by omega⟩, ⟨D1.1.1, D1.1.2.2.1⟩, D1.2.1, D1.2.2.1, D1.2.2.2.1, PR1.2.1, PR1.1, (by rw [D1.2.2.2.2.2.1.1, D1.2.2.2.2.2.1.2]; exact ⟨hp1.2.2.2.2.2.1, hp1.2.2.2.2.2.2, hp2⟩), ((rKd_s 59 KK3 (by decide)).mp (by omega)), U1, (yInv_R hp5 R3), O1.symm, AB, S3, ?_⟩
          intro x19 m20 qm20 kx19 lx19 p21 p22 p23 p24 p25 p26
          have z27 := zfx_t z9 qm20 rfl rfl
          have ot28 := zOt_t ot10 p25
          have NF := zNo_t N11 p21
          have Y4 := rLx_z Y1 qm20 rfl ⟨rfl, rfl, rfl, rfl, rfl⟩
          have F35 : m20.1 66 ((35 : Nat) : Int) = 0 := (qm20.2.1 35 rfl).trans U1.1.2.2.2.2.2
          refine And.intro ⟨by omega, by omega⟩ (And.intro (fun c29 => ?_) (fun c29 => ?_))
          · have DS1 := zD2_post hp1 D1 p21 (p22 (by omega)) p23.1 p24 (fun j a b => qm20.1 j (by omega) (zanyF (by simp <;> omega))) (fun k hk => by rcases hk with h | h | h | h | h <;> subst h <;> exact qm20.2.1 _ rfl)
            obtain ⟨-, B4, R4, U4, A4⟩ := Or.resolve_right p26 (fun h0 => by have h2 := h0.1; omega)
            refine ⟨yk_X9_pass, ym_X9_pass hg d (by omega), rfl, (by have h1 : 0 ≤ m20.1 66 ((33 : Nat) : Int) ∧ 0 ≤ m20.1 66 ((34 : Nat) : Int) ∧ m20.1 66 ((33 : Nat) : Int) + m20.1 66 ((34 : Nat) : Int) ≤ m20.1 66 ((31 : Nat) : Int) ∧ m20.1 66 ((31 : Nat) : Int) ≤ m20.1 66 ((30 : Nat) : Int) ∧ m20.1 66 ((30 : Nat) : Int) ≤ 800 := (by rw [qm20.2.1 33 rfl, qm20.2.1 34 rfl, qm20.2.1 31 rfl, qm20.2.1 30 rfl]; exact p4); omega), ?_⟩
            intro m30 qm30 p31 p32 p33 p34 p35
            have z36 := zfx_t z27 qm30 rfl rfl
            have ot37 := zOt_fr ot28 (qm30.1 76 (by decide) rfl) (qm30.1 77 (by decide) rfl) (qm30.1 78 (by decide) rfl) (qm30.1 79 (by decide) rfl) (qm30.1 80 (by decide) rfl) (qm30.1 83 (by decide) rfl) (qm30.1 84 (by decide) rfl)
            have N38 := zNo_fr NF (fun j a b => qm30.1 j (by omega) (zanyF (by simp <;> omega))) (qm30.2.1 8 rfl)
            have DS2 := zDS_fr DS1 (fun j a b => qm30.1 j (by omega) (zanyF (by simp <;> omega))) (qm30.1 98 (by decide) rfl) (fun k hk => by rcases hk with h | h | h | h | h | h | h <;> subst h <;> exact qm30.2.1 _ rfl)
            have ZL : zrm m30 < zrm m20 := zrm_p (by rw [qm20.2.1 32 rfl, TK9]; decide) p32 p33 p34
            have ZM := zrm_q (m := m3) (m' := m20) (fun k hk => by rcases hk with h | h | h <;> subst h <;> exact qm20.2.1 _ rfl)
            have Y5 := rLx_p Y4 (qm30.1 85 (by decide) rfl) (qm30.2.1 30 rfl) p35
            have U5 := rNu_z U4 qm30 ⟨rfl, rfl, rfl, rfl, rfl, rfl⟩ ⟨rfl, rfl, rfl, rfl, rfl, rfl⟩
            have A5 := rAb_c A4 (fun j a b => qm30.1 j (by omega) (zanyF (by simp <;> omega))) (qm30.1 80 (by decide) rfl) (qm30.2.1 8 rfl)
            exact And.intro (zrtb (by omega)) (And.intro ⟨by omega, by omega⟩ (hQ _ _ z36 (by omega) (by omega) p31 (p32.trans (((qm20.2.1 30 rfl).trans (p5)))) N38 (by rw [qm30.2.1 60 rfl]; have h1 := p23; rw [D1.2.2.2.2.2.1.2] at h1; exact h1) (by rw [qm30.2.1 60 rfl, qm30.1 98 (by decide) rfl]; exact p24) (fun _ => ⟨DS2, Int.lt_of_lt_of_le ZL (Int.le_trans ZM ZR1)⟩) ot37 (Or.inr ⟨rfl, _, B4, yR_t R3 R4, Y5, U5, A5⟩)))
          · refine ⟨yk_X9_fail, ym_X9_fail hg d (by omega), _, rfl, ⟨by omega, by omega⟩, ?_⟩
            intro x39 m40 qm40 kx39 lx39 p41
            have z42 := zfx_t z27 qm40 rfl rfl
            have ot43 := zOt_fr ot28 (qm40.1 76 (by decide) rfl) (qm40.1 77 (by decide) rfl) (qm40.1 78 (by decide) rfl) (qm40.1 79 (by decide) rfl) (qm40.1 80 (by decide) rfl) (qm40.1 83 (by decide) rfl) (qm40.1 84 (by decide) rfl)
            have N44 := zNo_fr NF (fun j a b => qm40.1 j (by omega) (zanyF (by simp <;> omega))) (qm40.2.1 8 rfl)
            exact And.intro (zrtb (by omega)) (And.intro ⟨by omega, by omega⟩ (hQ _ _ z42 (by omega) (by omega) (by rw [qm40.2.1 33 rfl, qm40.2.1 34 rfl, qm40.2.1 31 rfl, qm40.2.1 30 rfl]; exact (by rw [qm20.2.1 33 rfl, qm20.2.1 34 rfl, qm20.2.1 31 rfl, qm20.2.1 30 rfl]; exact p4)) ((qm40.2.1 30 rfl).trans (((qm20.2.1 30 rfl).trans (p5)))) N44 (by rw [qm40.2.1 60 rfl]; have h1 := p23; rw [D1.2.2.2.2.2.1.2] at h1; exact h1) (by rw [qm40.2.1 60 rfl, qm40.1 98 (by decide) rfl]; exact p24) (fun h => by exfalso; omega) ot43 (Or.inl ⟨by omega, by rcases p26 with h0 | h0; (exfalso; have h1 := h0.1; omega); (obtain ⟨B9, h0⟩ := h0.2; exact rFa_t R3 (rFa_f Y4 F35 h0 p41))⟩)))
        · refine ⟨yk_X9_fail, ym_X9_fail hg d (by omega), _, rfl, ⟨by omega, by omega⟩, ?_⟩
          intro x45 m46 qm46 kx45 lx45 p47
          have z48 := zfx_t z9 qm46 rfl rfl
          have ot49 := zOt_fr ot10 (qm46.1 76 (by decide) rfl) (qm46.1 77 (by decide) rfl) (qm46.1 78 (by decide) rfl) (qm46.1 79 (by decide) rfl) (qm46.1 80 (by decide) rfl) (qm46.1 83 (by decide) rfl) (qm46.1 84 (by decide) rfl)
          have N50 := zNo_fr N11 (fun j a b => qm46.1 j (by omega) (zanyF (by simp <;> omega))) (qm46.2.1 8 rfl)
          have D51 := zD2_fr L0 L1 D1 (fun j a b c => qm46.1 j (by omega) (zanyF (by simp <;> omega))) (qm46.1 98 (by decide) rfl) (fun k hk => by rcases hk with h | h | h | h | h | h | h <;> subst h <;> exact qm46.2.1 _ rfl)
          exact And.intro (zrtb (by omega)) (And.intro ⟨by omega, by omega⟩ (hQ _ _ z48 (by omega) (by omega) (by rw [qm46.2.1 33 rfl, qm46.2.1 34 rfl, qm46.2.1 31 rfl, qm46.2.1 30 rfl]; exact p4) ((qm46.2.1 30 rfl).trans (p5)) N50 (by rw [qm46.2.1 60 rfl, qm3.2.1 60 rfl]; omega) (by rw [qm46.2.1 60 rfl, qm3.2.1 60 rfl, qm46.1 98 (by decide) rfl, qm3.1 98 (by decide) rfl]; exact hp1.2.2.2.2.2.1) (fun h => by exfalso; omega) ot49 (Or.inl ⟨by omega, rFa_t R3 (rFa_f Y1 U1.1.2.2.2.2.2 (yR_s (yR_r τ _) (ym8_f (fun h0 => by have h1 := (rKd_s 59 KK3 (by decide)).mpr h0; omega))) p47)⟩)))
      · have R3a := yR_s R2 (ym6_a ((rKd_s 58 KK2 (by decide)).mp (by omega)))
        refine ⟨yk_X9_readSupers, ym_X9_readSupers hg d (by omega), _, _, _, _, _, _, rfl, ⟨by omega, by omega⟩, p4, D1.2.1.1, D1.2.1.2.2, ⟨D1.1.1, D1.1.2.1, D1.1.2.2.1⟩, ⟨D1.1.2.2.2.2.2.1, D1.1.2.2.2.2.2.2.2.2.2.2, PR1.2.1⟩, ⟨PR1.2.2, by have h1 := D1.1; omega, by have h1 := D1.1; omega⟩, ⟨D1.2.2.2.1, Z79⟩, (by omega), Y1, U1, (yInv_R hp5 R3a), O1.symm, ?_⟩
        intro x52 m53 qm53 kx52 lx52 p54 p55 p56 p57 p58 p59 p60 p61
        have z62 := zfx_t z9 qm53 rfl rfl
        have ot63 := zOt_t ot10 p60
        have NS := zNo_te N11 p56
        have ES := p55.trans (p5)
        refine And.intro ⟨by omega, by omega⟩ (And.intro (fun c64 => ?_) (fun c64 => ?_))
        · have SQ := p58 (by omega)
          have BQ := zBd_old D1.2.2.1.2.1 L0 p56.1.2.2.1 p56.1.2.2.2.1 (qm53.1 83 (by decide) rfl) (qm53.1 84 (by decide) rfl)
          have D3 := zD2_te L0 L1 D1 p56 BQ ⟨SQ.1, by have h1 := SQ.2.1; have h2 := D1.1; unfold zTn at h1; omega⟩ (qm53.1 76 (by decide) rfl) (qm53.1 77 (by decide) rfl) (qm53.1 80 (by decide) rfl) SQ.2.2.2 SQ.2.2.1 (qm53.1 98 (by decide) rfl) (fun k hk => by rcases hk with h | h | h | h | h <;> subst h <;> exact qm53.2.1 _ rfl) p57.2
          have ZR3 := Int.le_trans (Int.le_of_lt (p59 (by omega))) ZR1
          have PR3 := zD2_pre hp1 D3
          obtain ⟨-, p3, B3, R3b, Y3, U3, O3, S3⟩ := Or.resolve_left p61 (fun h0 => by have h2 := h0.1; omega)
          have R3 := yR_t R3a R3b
          have E4 : B3.2 2 = B.2 2 := O3.2.trans E2
          intro x65 hx65 kx65 lx65
          have KK3 := rkd Y3 hx65.symm
          refine And.intro ⟨⟨by omega, by omega⟩, ⟨by omega, by omega⟩⟩ (And.intro (fun c66 => ?_) (fun c66 => ?_))
          · have TK9 : m53.1 66 ((32 : Nat) : Int) = 59 := by omega
            have AB : rAb m53 B3 x1 lo := rAb_old hp6 NS.1.1.1 NS.2.1 hp1.2.1.1.2.1 (fun q hq => by rw [qm53.1 80 (by decide) rfl, qm3.1 80 (by decide) rfl]) NS.2.2 (fun e d a b => by rw [E4])
            refine ⟨yk_X9_findAbove, ym_X9_findAbove hg d (by omega), _, _, _, _, _, _, rfl, ⟨by omega, by omega⟩, ⟨D3.1.1, D3.1.2.2.1⟩, D3.2.1, D3.2.2.1, D3.2.2.2.1, PR3.2.1, PR3.1, (by rw [D3.2.2.2.2.2.1.1, D3.2.2.2.2.2.1.2]; exact ⟨hp1.2.2.2.2.2.1, hp1.2.2.2.2.2.2, hp2⟩), ((rKd_s 59 KK3 (by decide)).mp (by omega)), U3, (yInv_R hp5 R3), O3.1.symm, AB, S3, ?_⟩
            intro x67 m68 qm68 kx67 lx67 p69 p70 p71 p72 p73 p74
            have z75 := zfx_t z62 qm68 rfl rfl
            have ot76 := zOt_t ot63 p73
            have NF := zNo_t NS p69
            have Y4 := rLx_z Y3 qm68 rfl ⟨rfl, rfl, rfl, rfl, rfl⟩
            have F35 : m68.1 66 ((35 : Nat) : Int) = 0 := (qm68.2.1 35 rfl).trans U3.1.2.2.2.2.2
            refine And.intro ⟨by omega, by omega⟩ (And.intro (fun c77 => ?_) (fun c77 => ?_))
            · have DS1 := zD2_post hp1 D3 p69 (p70 (by omega)) p71.1 p72 (fun j a b => qm68.1 j (by omega) (zanyF (by simp <;> omega))) (fun k hk => by rcases hk with h | h | h | h | h <;> subst h <;> exact qm68.2.1 _ rfl)
              obtain ⟨-, B4, R4, U4, A4⟩ := Or.resolve_right p74 (fun h0 => by have h2 := h0.1; omega)
              refine ⟨yk_X9_pass, ym_X9_pass hg d (by omega), rfl, (by have h1 : 0 ≤ m68.1 66 ((33 : Nat) : Int) ∧ 0 ≤ m68.1 66 ((34 : Nat) : Int) ∧ m68.1 66 ((33 : Nat) : Int) + m68.1 66 ((34 : Nat) : Int) ≤ m68.1 66 ((31 : Nat) : Int) ∧ m68.1 66 ((31 : Nat) : Int) ≤ m68.1 66 ((30 : Nat) : Int) ∧ m68.1 66 ((30 : Nat) : Int) ≤ 800 := (by rw [qm68.2.1 33 rfl, qm68.2.1 34 rfl, qm68.2.1 31 rfl, qm68.2.1 30 rfl]; exact p54); omega), ?_⟩
              intro m78 qm78 p79 p80 p81 p82 p83
              have z84 := zfx_t z75 qm78 rfl rfl
              have ot85 := zOt_fr ot76 (qm78.1 76 (by decide) rfl) (qm78.1 77 (by decide) rfl) (qm78.1 78 (by decide) rfl) (qm78.1 79 (by decide) rfl) (qm78.1 80 (by decide) rfl) (qm78.1 83 (by decide) rfl) (qm78.1 84 (by decide) rfl)
              have N86 := zNo_fr NF (fun j a b => qm78.1 j (by omega) (zanyF (by simp <;> omega))) (qm78.2.1 8 rfl)
              have DS2 := zDS_fr DS1 (fun j a b => qm78.1 j (by omega) (zanyF (by simp <;> omega))) (qm78.1 98 (by decide) rfl) (fun k hk => by rcases hk with h | h | h | h | h | h | h <;> subst h <;> exact qm78.2.1 _ rfl)
              have ZL : zrm m78 < zrm m68 := zrm_p (by rw [qm68.2.1 32 rfl, TK9]; decide) p80 p81 p82
              have ZM := zrm_q (m := m53) (m' := m68) (fun k hk => by rcases hk with h | h | h <;> subst h <;> exact qm68.2.1 _ rfl)
              have Y5 := rLx_p Y4 (qm78.1 85 (by decide) rfl) (qm78.2.1 30 rfl) p83
              have U5 := rNu_z U4 qm78 ⟨rfl, rfl, rfl, rfl, rfl, rfl⟩ ⟨rfl, rfl, rfl, rfl, rfl, rfl⟩
              have A5 := rAb_c A4 (fun j a b => qm78.1 j (by omega) (zanyF (by simp <;> omega))) (qm78.1 80 (by decide) rfl) (qm78.2.1 8 rfl)
              exact And.intro (zrtb (by omega)) (And.intro ⟨by omega, by omega⟩ (hQ _ _ z84 (by omega) (by omega) p79 (p80.trans (((qm68.2.1 30 rfl).trans (ES)))) N86 (by rw [qm78.2.1 60 rfl]; have h1 := p71; rw [D3.2.2.2.2.2.1.2] at h1; exact h1) (by rw [qm78.2.1 60 rfl, qm78.1 98 (by decide) rfl]; exact p72) (fun _ => ⟨DS2, Int.lt_of_lt_of_le ZL (Int.le_trans ZM ZR3)⟩) ot85 (Or.inr ⟨rfl, _, B4, yR_t R3 R4, Y5, U5, A5⟩)))
            · refine ⟨yk_X9_fail, ym_X9_fail hg d (by omega), _, rfl, ⟨by omega, by omega⟩, ?_⟩
              intro x87 m88 qm88 kx87 lx87 p89
              have z90 := zfx_t z75 qm88 rfl rfl
              have ot91 := zOt_fr ot76 (qm88.1 76 (by decide) rfl) (qm88.1 77 (by decide) rfl) (qm88.1 78 (by decide) rfl) (qm88.1 79 (by decide) rfl) (qm88.1 80 (by decide) rfl) (qm88.1 83 (by decide) rfl) (qm88.1 84 (by decide) rfl)
              have N92 := zNo_fr NF (fun j a b => qm88.1 j (by omega) (zanyF (by simp <;> omega))) (qm88.2.1 8 rfl)
              exact And.intro (zrtb (by omega)) (And.intro ⟨by omega, by omega⟩ (hQ _ _ z90 (by omega) (by omega) (by rw [qm88.2.1 33 rfl, qm88.2.1 34 rfl, qm88.2.1 31 rfl, qm88.2.1 30 rfl]; exact (by rw [qm68.2.1 33 rfl, qm68.2.1 34 rfl, qm68.2.1 31 rfl, qm68.2.1 30 rfl]; exact p54)) ((qm88.2.1 30 rfl).trans (((qm68.2.1 30 rfl).trans (ES)))) N92 (by rw [qm88.2.1 60 rfl]; have h1 := p71; rw [D3.2.2.2.2.2.1.2] at h1; exact h1) (by rw [qm88.2.1 60 rfl, qm88.1 98 (by decide) rfl]; exact p72) (fun h => by exfalso; omega) ot91 (Or.inl ⟨by omega, by rcases p74 with h0 | h0; (exfalso; have h1 := h0.1; omega); (obtain ⟨B9, h0⟩ := h0.2; exact rFa_t R3 (rFa_f Y4 F35 h0 p89))⟩)))
          · refine ⟨yk_X9_fail, ym_X9_fail hg d (by omega), _, rfl, ⟨by omega, by omega⟩, ?_⟩
            intro x93 m94 qm94 kx93 lx93 p95
            have z96 := zfx_t z62 qm94 rfl rfl
            have ot97 := zOt_fr ot63 (qm94.1 76 (by decide) rfl) (qm94.1 77 (by decide) rfl) (qm94.1 78 (by decide) rfl) (qm94.1 79 (by decide) rfl) (qm94.1 80 (by decide) rfl) (qm94.1 83 (by decide) rfl) (qm94.1 84 (by decide) rfl)
            have N98 := zNo_fr NS (fun j a b => qm94.1 j (by omega) (zanyF (by simp <;> omega))) (qm94.2.1 8 rfl)
            have D99 := zD2_fr L0 L1 D3 (fun j a b c => qm94.1 j (by omega) (zanyF (by simp <;> omega))) (qm94.1 98 (by decide) rfl) (fun k hk => by rcases hk with h | h | h | h | h | h | h <;> subst h <;> exact qm94.2.1 _ rfl)
            exact And.intro (zrtb (by omega)) (And.intro ⟨by omega, by omega⟩ (hQ _ _ z96 (by omega) (by omega) (by rw [qm94.2.1 33 rfl, qm94.2.1 34 rfl, qm94.2.1 31 rfl, qm94.2.1 30 rfl]; exact p54) ((qm94.2.1 30 rfl).trans (ES)) N98 (by rw [qm94.2.1 60 rfl, qm53.2.1 60 rfl, qm3.2.1 60 rfl]; omega) (by rw [qm94.2.1 60 rfl, qm53.2.1 60 rfl, qm3.2.1 60 rfl, qm94.1 98 (by decide) rfl, qm53.1 98 (by decide) rfl, qm3.1 98 (by decide) rfl]; exact hp1.2.2.2.2.2.1) (fun h => by exfalso; omega) ot97 (Or.inl ⟨by omega, rFa_t R3 (rFa_f Y3 U3.1.2.2.2.2.2 (yR_s (yR_r τ _) (ym8_f (fun h0 => by have h1 := (rKd_s 59 KK3 (by decide)).mpr h0; omega))) p95)⟩)))
        · exact And.intro (zrtb (by omega)) (And.intro ⟨by omega, by omega⟩ (hQ _ _ z62 (by omega) (by omega) p54 ES NS (by rw [qm53.2.1 60 rfl, qm3.2.1 60 rfl]; omega) (by rw [qm53.2.1 60 rfl, qm3.2.1 60 rfl, qm53.1 98 (by decide) rfl, qm3.1 98 (by decide) rfl]; exact hp1.2.2.2.2.2.1) (fun h => by exfalso; omega) ot63 (Or.inl ⟨by omega, by rcases p61 with h0 | h0; exact rFa_t R3a h0.2; (exfalso; have h1 := h0.1; omega)⟩)))
    · have R1b := yR_s R1 (ym3_a ((rKd_w KK1).1.mp (by omega)))
      refine ⟨yk_X9_readBounds, ym_X9_readBounds hg d (by omega), _, _, _, _, _, _, rfl, ⟨by omega, by omega⟩, p4, D1.2.1.1, D1.2.1.2.2, ⟨D1.1.1, D1.1.2.1, D1.1.2.2.1⟩, ⟨D1.1.2.2.2.2.2.1, D1.1.2.2.2.2.2.2.2.2.2.2, PR1.2.1⟩, ⟨PR1.2.2, by have h1 := D1.1; omega, by have h1 := D1.1; omega⟩, D1.2.2.1.2.1, (by omega), Y1, U1, (yInv_R hp5 R1b), O1.symm, ?_⟩
      intro x100 m101 qm101 kx100 lx100 p102 p103 p104 p105 p106 p107 p108 p109
      have z110 := zfx_t z9 qm101 rfl rfl
      have ot111 := zOt_t ot10 p108
      have NB := zNo_te N11 p104
      have EB := p103.trans (p5)
      refine And.intro ⟨by omega, by omega⟩ (And.intro (fun c112 => ?_) (fun c112 => ?_))
      · have SP := zSp_old (zSp_r D1.2.2.2.1 Z79) L0 D1.2.1.1.2.1 p104.1.2.2.1 p104.1.2.2.2.1 (fun j a b => qm101.1 j (by omega) (zanyF (by simp <;> omega))) (by have := p104.2.2; unfold zTn at this; omega)
        have D2 := zD2_te L0 L1 D1 p104 (p106 (by omega)) ⟨SP.1, by have h1 := SP.2.1; have h2 := D1.1; unfold zTn at h1; omega⟩ (qm101.1 76 (by decide) rfl) (qm101.1 77 (by decide) rfl) (qm101.1 80 (by decide) rfl) (fun q _ => by rw [qm101.1 78 (by decide) rfl]) (fun q _ => by rw [qm101.1 79 (by decide) rfl]) (qm101.1 98 (by decide) rfl) (fun k hk => by rcases hk with h | h | h | h | h <;> subst h <;> exact qm101.2.1 _ rfl) p105.2
        have Z79b : m101.1 79 (21 + x1) = 0 := by rw [qm101.1 79 (by decide) rfl]; exact Z79
        have ZR2 := Int.le_trans (Int.le_of_lt (p107 (by omega))) ZR1
        have PR2 := zD2_pre hp1 D2
        obtain ⟨-, p2, B2, R2a, Y2, U2, O2, E2a, E2b⟩ := Or.resolve_left p109 (fun h0 => by have h2 := h0.1; omega)
        have R2 := yR_t R1b R2a
        have E3 : B2.2 2 = B.2 2 := E2b.trans E2
        intro x113 hx113 kx113 lx113
        have KK2 := rkd Y2 hx113.symm
        refine And.intro ⟨⟨by omega, by omega⟩, ⟨by omega, by omega⟩⟩ (And.intro (fun c114 => ?_) (fun c114 => ?_))
        · have R3 := yR_s R2 (ym6_b (fun h0 => by have h1 := (rKd_s 58 KK2 (by decide)).mpr h0; omega))
          have S3 : rSu m101 B2 x1 lo := fun i i0 i1 => by exfalso; have h0 := (U2.2.1 x1 (by omega) (by have h1 := U2.1.2.2.1; have h2 := D2.1.2.2.1; omega)).2.2.2; have h3 := Z79b; omega
          intro x115 hx115 kx115 lx115
          have KK3 := rkd Y2 hx115.symm
          refine And.intro ⟨⟨by omega, by omega⟩, ⟨by omega, by omega⟩⟩ (And.intro (fun c116 => ?_) (fun c116 => ?_))
          · have TK9 : m101.1 66 ((32 : Nat) : Int) = 59 := by omega
            have AB : rAb m101 B2 x1 lo := rAb_old hp6 NB.1.1.1 NB.2.1 hp1.2.1.1.2.1 (fun q hq => by rw [qm101.1 80 (by decide) rfl, qm3.1 80 (by decide) rfl]) NB.2.2 (fun e d a b => by rw [E3])
            refine ⟨yk_X9_findAbove, ym_X9_findAbove hg d (by omega), _, _, _, _, _, _, rfl, ⟨by omega, by omega⟩, ⟨D2.1.1, D2.1.2.2.1⟩, D2.2.1, D2.2.2.1, D2.2.2.2.1, PR2.2.1, PR2.1, (by rw [D2.2.2.2.2.2.1.1, D2.2.2.2.2.2.1.2]; exact ⟨hp1.2.2.2.2.2.1, hp1.2.2.2.2.2.2, hp2⟩), ((rKd_s 59 KK3 (by decide)).mp (by omega)), U2, (yInv_R hp5 R3), O2.symm, AB, S3, ?_⟩
            intro x117 m118 qm118 kx117 lx117 p119 p120 p121 p122 p123 p124
            have z125 := zfx_t z110 qm118 rfl rfl
            have ot126 := zOt_t ot111 p123
            have NF := zNo_t NB p119
            have Y4 := rLx_z Y2 qm118 rfl ⟨rfl, rfl, rfl, rfl, rfl⟩
            have F35 : m118.1 66 ((35 : Nat) : Int) = 0 := (qm118.2.1 35 rfl).trans U2.1.2.2.2.2.2
            refine And.intro ⟨by omega, by omega⟩ (And.intro (fun c127 => ?_) (fun c127 => ?_))
            · have DS1 := zD2_post hp1 D2 p119 (p120 (by omega)) p121.1 p122 (fun j a b => qm118.1 j (by omega) (zanyF (by simp <;> omega))) (fun k hk => by rcases hk with h | h | h | h | h <;> subst h <;> exact qm118.2.1 _ rfl)
              obtain ⟨-, B4, R4, U4, A4⟩ := Or.resolve_right p124 (fun h0 => by have h2 := h0.1; omega)
              refine ⟨yk_X9_pass, ym_X9_pass hg d (by omega), rfl, (by have h1 : 0 ≤ m118.1 66 ((33 : Nat) : Int) ∧ 0 ≤ m118.1 66 ((34 : Nat) : Int) ∧ m118.1 66 ((33 : Nat) : Int) + m118.1 66 ((34 : Nat) : Int) ≤ m118.1 66 ((31 : Nat) : Int) ∧ m118.1 66 ((31 : Nat) : Int) ≤ m118.1 66 ((30 : Nat) : Int) ∧ m118.1 66 ((30 : Nat) : Int) ≤ 800 := (by rw [qm118.2.1 33 rfl, qm118.2.1 34 rfl, qm118.2.1 31 rfl, qm118.2.1 30 rfl]; exact p102); omega), ?_⟩
              intro m128 qm128 p129 p130 p131 p132 p133
              have z134 := zfx_t z125 qm128 rfl rfl
              have ot135 := zOt_fr ot126 (qm128.1 76 (by decide) rfl) (qm128.1 77 (by decide) rfl) (qm128.1 78 (by decide) rfl) (qm128.1 79 (by decide) rfl) (qm128.1 80 (by decide) rfl) (qm128.1 83 (by decide) rfl) (qm128.1 84 (by decide) rfl)
              have N136 := zNo_fr NF (fun j a b => qm128.1 j (by omega) (zanyF (by simp <;> omega))) (qm128.2.1 8 rfl)
              have DS2 := zDS_fr DS1 (fun j a b => qm128.1 j (by omega) (zanyF (by simp <;> omega))) (qm128.1 98 (by decide) rfl) (fun k hk => by rcases hk with h | h | h | h | h | h | h <;> subst h <;> exact qm128.2.1 _ rfl)
              have ZL : zrm m128 < zrm m118 := zrm_p (by rw [qm118.2.1 32 rfl, TK9]; decide) p130 p131 p132
              have ZM := zrm_q (m := m101) (m' := m118) (fun k hk => by rcases hk with h | h | h <;> subst h <;> exact qm118.2.1 _ rfl)
              have Y5 := rLx_p Y4 (qm128.1 85 (by decide) rfl) (qm128.2.1 30 rfl) p133
              have U5 := rNu_z U4 qm128 ⟨rfl, rfl, rfl, rfl, rfl, rfl⟩ ⟨rfl, rfl, rfl, rfl, rfl, rfl⟩
              have A5 := rAb_c A4 (fun j a b => qm128.1 j (by omega) (zanyF (by simp <;> omega))) (qm128.1 80 (by decide) rfl) (qm128.2.1 8 rfl)
              exact And.intro (zrtb (by omega)) (And.intro ⟨by omega, by omega⟩ (hQ _ _ z134 (by omega) (by omega) p129 (p130.trans (((qm118.2.1 30 rfl).trans (EB)))) N136 (by rw [qm128.2.1 60 rfl]; have h1 := p121; rw [D2.2.2.2.2.2.1.2] at h1; exact h1) (by rw [qm128.2.1 60 rfl, qm128.1 98 (by decide) rfl]; exact p122) (fun _ => ⟨DS2, Int.lt_of_lt_of_le ZL (Int.le_trans ZM ZR2)⟩) ot135 (Or.inr ⟨rfl, _, B4, yR_t R3 R4, Y5, U5, A5⟩)))
            · refine ⟨yk_X9_fail, ym_X9_fail hg d (by omega), _, rfl, ⟨by omega, by omega⟩, ?_⟩
              intro x137 m138 qm138 kx137 lx137 p139
              have z140 := zfx_t z125 qm138 rfl rfl
              have ot141 := zOt_fr ot126 (qm138.1 76 (by decide) rfl) (qm138.1 77 (by decide) rfl) (qm138.1 78 (by decide) rfl) (qm138.1 79 (by decide) rfl) (qm138.1 80 (by decide) rfl) (qm138.1 83 (by decide) rfl) (qm138.1 84 (by decide) rfl)
              have N142 := zNo_fr NF (fun j a b => qm138.1 j (by omega) (zanyF (by simp <;> omega))) (qm138.2.1 8 rfl)
              exact And.intro (zrtb (by omega)) (And.intro ⟨by omega, by omega⟩ (hQ _ _ z140 (by omega) (by omega) (by rw [qm138.2.1 33 rfl, qm138.2.1 34 rfl, qm138.2.1 31 rfl, qm138.2.1 30 rfl]; exact (by rw [qm118.2.1 33 rfl, qm118.2.1 34 rfl, qm118.2.1 31 rfl, qm118.2.1 30 rfl]; exact p102)) ((qm138.2.1 30 rfl).trans (((qm118.2.1 30 rfl).trans (EB)))) N142 (by rw [qm138.2.1 60 rfl]; have h1 := p121; rw [D2.2.2.2.2.2.1.2] at h1; exact h1) (by rw [qm138.2.1 60 rfl, qm138.1 98 (by decide) rfl]; exact p122) (fun h => by exfalso; omega) ot141 (Or.inl ⟨by omega, by rcases p124 with h0 | h0; (exfalso; have h1 := h0.1; omega); (obtain ⟨B9, h0⟩ := h0.2; exact rFa_t R3 (rFa_f Y4 F35 h0 p139))⟩)))
          · refine ⟨yk_X9_fail, ym_X9_fail hg d (by omega), _, rfl, ⟨by omega, by omega⟩, ?_⟩
            intro x143 m144 qm144 kx143 lx143 p145
            have z146 := zfx_t z110 qm144 rfl rfl
            have ot147 := zOt_fr ot111 (qm144.1 76 (by decide) rfl) (qm144.1 77 (by decide) rfl) (qm144.1 78 (by decide) rfl) (qm144.1 79 (by decide) rfl) (qm144.1 80 (by decide) rfl) (qm144.1 83 (by decide) rfl) (qm144.1 84 (by decide) rfl)
            have N148 := zNo_fr NB (fun j a b => qm144.1 j (by omega) (zanyF (by simp <;> omega))) (qm144.2.1 8 rfl)
            have D149 := zD2_fr L0 L1 D2 (fun j a b c => qm144.1 j (by omega) (zanyF (by simp <;> omega))) (qm144.1 98 (by decide) rfl) (fun k hk => by rcases hk with h | h | h | h | h | h | h <;> subst h <;> exact qm144.2.1 _ rfl)
            exact And.intro (zrtb (by omega)) (And.intro ⟨by omega, by omega⟩ (hQ _ _ z146 (by omega) (by omega) (by rw [qm144.2.1 33 rfl, qm144.2.1 34 rfl, qm144.2.1 31 rfl, qm144.2.1 30 rfl]; exact p102) ((qm144.2.1 30 rfl).trans (EB)) N148 (by rw [qm144.2.1 60 rfl, qm101.2.1 60 rfl, qm3.2.1 60 rfl]; omega) (by rw [qm144.2.1 60 rfl, qm101.2.1 60 rfl, qm3.2.1 60 rfl, qm144.1 98 (by decide) rfl, qm101.1 98 (by decide) rfl, qm3.1 98 (by decide) rfl]; exact hp1.2.2.2.2.2.1) (fun h => by exfalso; omega) ot147 (Or.inl ⟨by omega, rFa_t R3 (rFa_f Y2 U2.1.2.2.2.2.2 (yR_s (yR_r τ _) (ym8_f (fun h0 => by have h1 := (rKd_s 59 KK3 (by decide)).mpr h0; omega))) p145)⟩)))
        · have R3a := yR_s R2 (ym6_a ((rKd_s 58 KK2 (by decide)).mp (by omega)))
          refine ⟨yk_X9_readSupers, ym_X9_readSupers hg d (by omega), _, _, _, _, _, _, rfl, ⟨by omega, by omega⟩, p102, D2.2.1.1, D2.2.1.2.2, ⟨D2.1.1, D2.1.2.1, D2.1.2.2.1⟩, ⟨D2.1.2.2.2.2.2.1, D2.1.2.2.2.2.2.2.2.2.2.2, PR2.2.1⟩, ⟨PR2.2.2, by have h1 := D2.1; omega, by have h1 := D2.1; omega⟩, ⟨D2.2.2.2.1, Z79b⟩, (by omega), Y2, U2, (yInv_R hp5 R3a), O2.symm, ?_⟩
          intro x150 m151 qm151 kx150 lx150 p152 p153 p154 p155 p156 p157 p158 p159
          have z160 := zfx_t z110 qm151 rfl rfl
          have ot161 := zOt_t ot111 p158
          have NS := zNo_te NB p154
          have ES := p153.trans (EB)
          refine And.intro ⟨by omega, by omega⟩ (And.intro (fun c162 => ?_) (fun c162 => ?_))
          · have SQ := p156 (by omega)
            have BQ := zBd_old D2.2.2.1.2.1 L0 p154.1.2.2.1 p154.1.2.2.2.1 (qm151.1 83 (by decide) rfl) (qm151.1 84 (by decide) rfl)
            have D3 := zD2_te L0 L1 D2 p154 BQ ⟨SQ.1, by have h1 := SQ.2.1; have h2 := D2.1; unfold zTn at h1; omega⟩ (qm151.1 76 (by decide) rfl) (qm151.1 77 (by decide) rfl) (qm151.1 80 (by decide) rfl) SQ.2.2.2 SQ.2.2.1 (qm151.1 98 (by decide) rfl) (fun k hk => by rcases hk with h | h | h | h | h <;> subst h <;> exact qm151.2.1 _ rfl) p155.2
            have ZR3 := Int.le_trans (Int.le_of_lt (p157 (by omega))) ZR2
            have PR3 := zD2_pre hp1 D3
            obtain ⟨-, p3, B3, R3b, Y3, U3, O3, S3⟩ := Or.resolve_left p159 (fun h0 => by have h2 := h0.1; omega)
            have R3 := yR_t R3a R3b
            have E4 : B3.2 2 = B.2 2 := O3.2.trans E3
            intro x163 hx163 kx163 lx163
            have KK3 := rkd Y3 hx163.symm
            refine And.intro ⟨⟨by omega, by omega⟩, ⟨by omega, by omega⟩⟩ (And.intro (fun c164 => ?_) (fun c164 => ?_))
            · have TK9 : m151.1 66 ((32 : Nat) : Int) = 59 := by omega
              have AB : rAb m151 B3 x1 lo := rAb_old hp6 NS.1.1.1 NS.2.1 hp1.2.1.1.2.1 (fun q hq => by rw [qm151.1 80 (by decide) rfl, qm101.1 80 (by decide) rfl, qm3.1 80 (by decide) rfl]) NS.2.2 (fun e d a b => by rw [E4])
              refine ⟨yk_X9_findAbove, ym_X9_findAbove hg d (by omega), _, _, _, _, _, _, rfl, ⟨by omega, by omega⟩, ⟨D3.1.1, D3.1.2.2.1⟩, D3.2.1, D3.2.2.1, D3.2.2.2.1, PR3.2.1, PR3.1, (by rw [D3.2.2.2.2.2.1.1, D3.2.2.2.2.2.1.2]; exact ⟨hp1.2.2.2.2.2.1, hp1.2.2.2.2.2.2, hp2⟩), ((rKd_s 59 KK3 (by decide)).mp (by omega)), U3, (yInv_R hp5 R3), O3.1.symm, AB, S3, ?_⟩
              intro x165 m166 qm166 kx165 lx165 p167 p168 p169 p170 p171 p172
              have z173 := zfx_t z160 qm166 rfl rfl
              have ot174 := zOt_t ot161 p171
              have NF := zNo_t NS p167
              have Y4 := rLx_z Y3 qm166 rfl ⟨rfl, rfl, rfl, rfl, rfl⟩
              have F35 : m166.1 66 ((35 : Nat) : Int) = 0 := (qm166.2.1 35 rfl).trans U3.1.2.2.2.2.2
              refine And.intro ⟨by omega, by omega⟩ (And.intro (fun c175 => ?_) (fun c175 => ?_))
              · have DS1 := zD2_post hp1 D3 p167 (p168 (by omega)) p169.1 p170 (fun j a b => qm166.1 j (by omega) (zanyF (by simp <;> omega))) (fun k hk => by rcases hk with h | h | h | h | h <;> subst h <;> exact qm166.2.1 _ rfl)
                obtain ⟨-, B4, R4, U4, A4⟩ := Or.resolve_right p172 (fun h0 => by have h2 := h0.1; omega)
                refine ⟨yk_X9_pass, ym_X9_pass hg d (by omega), rfl, (by have h1 : 0 ≤ m166.1 66 ((33 : Nat) : Int) ∧ 0 ≤ m166.1 66 ((34 : Nat) : Int) ∧ m166.1 66 ((33 : Nat) : Int) + m166.1 66 ((34 : Nat) : Int) ≤ m166.1 66 ((31 : Nat) : Int) ∧ m166.1 66 ((31 : Nat) : Int) ≤ m166.1 66 ((30 : Nat) : Int) ∧ m166.1 66 ((30 : Nat) : Int) ≤ 800 := (by rw [qm166.2.1 33 rfl, qm166.2.1 34 rfl, qm166.2.1 31 rfl, qm166.2.1 30 rfl]; exact p152); omega), ?_⟩
                intro m176 qm176 p177 p178 p179 p180 p181
                have z182 := zfx_t z173 qm176 rfl rfl
                have ot183 := zOt_fr ot174 (qm176.1 76 (by decide) rfl) (qm176.1 77 (by decide) rfl) (qm176.1 78 (by decide) rfl) (qm176.1 79 (by decide) rfl) (qm176.1 80 (by decide) rfl) (qm176.1 83 (by decide) rfl) (qm176.1 84 (by decide) rfl)
                have N184 := zNo_fr NF (fun j a b => qm176.1 j (by omega) (zanyF (by simp <;> omega))) (qm176.2.1 8 rfl)
                have DS2 := zDS_fr DS1 (fun j a b => qm176.1 j (by omega) (zanyF (by simp <;> omega))) (qm176.1 98 (by decide) rfl) (fun k hk => by rcases hk with h | h | h | h | h | h | h <;> subst h <;> exact qm176.2.1 _ rfl)
                have ZL : zrm m176 < zrm m166 := zrm_p (by rw [qm166.2.1 32 rfl, TK9]; decide) p178 p179 p180
                have ZM := zrm_q (m := m151) (m' := m166) (fun k hk => by rcases hk with h | h | h <;> subst h <;> exact qm166.2.1 _ rfl)
                have Y5 := rLx_p Y4 (qm176.1 85 (by decide) rfl) (qm176.2.1 30 rfl) p181
                have U5 := rNu_z U4 qm176 ⟨rfl, rfl, rfl, rfl, rfl, rfl⟩ ⟨rfl, rfl, rfl, rfl, rfl, rfl⟩
                have A5 := rAb_c A4 (fun j a b => qm176.1 j (by omega) (zanyF (by simp <;> omega))) (qm176.1 80 (by decide) rfl) (qm176.2.1 8 rfl)
                exact And.intro (zrtb (by omega)) (And.intro ⟨by omega, by omega⟩ (hQ _ _ z182 (by omega) (by omega) p177 (p178.trans (((qm166.2.1 30 rfl).trans (ES)))) N184 (by rw [qm176.2.1 60 rfl]; have h1 := p169; rw [D3.2.2.2.2.2.1.2] at h1; exact h1) (by rw [qm176.2.1 60 rfl, qm176.1 98 (by decide) rfl]; exact p170) (fun _ => ⟨DS2, Int.lt_of_lt_of_le ZL (Int.le_trans ZM ZR3)⟩) ot183 (Or.inr ⟨rfl, _, B4, yR_t R3 R4, Y5, U5, A5⟩)))
              · refine ⟨yk_X9_fail, ym_X9_fail hg d (by omega), _, rfl, ⟨by omega, by omega⟩, ?_⟩
                intro x185 m186 qm186 kx185 lx185 p187
                have z188 := zfx_t z173 qm186 rfl rfl
                have ot189 := zOt_fr ot174 (qm186.1 76 (by decide) rfl) (qm186.1 77 (by decide) rfl) (qm186.1 78 (by decide) rfl) (qm186.1 79 (by decide) rfl) (qm186.1 80 (by decide) rfl) (qm186.1 83 (by decide) rfl) (qm186.1 84 (by decide) rfl)
                have N190 := zNo_fr NF (fun j a b => qm186.1 j (by omega) (zanyF (by simp <;> omega))) (qm186.2.1 8 rfl)
                exact And.intro (zrtb (by omega)) (And.intro ⟨by omega, by omega⟩ (hQ _ _ z188 (by omega) (by omega) (by rw [qm186.2.1 33 rfl, qm186.2.1 34 rfl, qm186.2.1 31 rfl, qm186.2.1 30 rfl]; exact (by rw [qm166.2.1 33 rfl, qm166.2.1 34 rfl, qm166.2.1 31 rfl, qm166.2.1 30 rfl]; exact p152)) ((qm186.2.1 30 rfl).trans (((qm166.2.1 30 rfl).trans (ES)))) N190 (by rw [qm186.2.1 60 rfl]; have h1 := p169; rw [D3.2.2.2.2.2.1.2] at h1; exact h1) (by rw [qm186.2.1 60 rfl, qm186.1 98 (by decide) rfl]; exact p170) (fun h => by exfalso; omega) ot189 (Or.inl ⟨by omega, by rcases p172 with h0 | h0; (exfalso; have h1 := h0.1; omega); (obtain ⟨B9, h0⟩ := h0.2; exact rFa_t R3 (rFa_f Y4 F35 h0 p187))⟩)))
            · refine ⟨yk_X9_fail, ym_X9_fail hg d (by omega), _, rfl, ⟨by omega, by omega⟩, ?_⟩
              intro x191 m192 qm192 kx191 lx191 p193
              have z194 := zfx_t z160 qm192 rfl rfl
              have ot195 := zOt_fr ot161 (qm192.1 76 (by decide) rfl) (qm192.1 77 (by decide) rfl) (qm192.1 78 (by decide) rfl) (qm192.1 79 (by decide) rfl) (qm192.1 80 (by decide) rfl) (qm192.1 83 (by decide) rfl) (qm192.1 84 (by decide) rfl)
              have N196 := zNo_fr NS (fun j a b => qm192.1 j (by omega) (zanyF (by simp <;> omega))) (qm192.2.1 8 rfl)
              have D197 := zD2_fr L0 L1 D3 (fun j a b c => qm192.1 j (by omega) (zanyF (by simp <;> omega))) (qm192.1 98 (by decide) rfl) (fun k hk => by rcases hk with h | h | h | h | h | h | h <;> subst h <;> exact qm192.2.1 _ rfl)
              exact And.intro (zrtb (by omega)) (And.intro ⟨by omega, by omega⟩ (hQ _ _ z194 (by omega) (by omega) (by rw [qm192.2.1 33 rfl, qm192.2.1 34 rfl, qm192.2.1 31 rfl, qm192.2.1 30 rfl]; exact p152) ((qm192.2.1 30 rfl).trans (ES)) N196 (by rw [qm192.2.1 60 rfl, qm151.2.1 60 rfl, qm101.2.1 60 rfl, qm3.2.1 60 rfl]; omega) (by rw [qm192.2.1 60 rfl, qm151.2.1 60 rfl, qm101.2.1 60 rfl, qm3.2.1 60 rfl, qm192.1 98 (by decide) rfl, qm151.1 98 (by decide) rfl, qm101.1 98 (by decide) rfl, qm3.1 98 (by decide) rfl]; exact hp1.2.2.2.2.2.1) (fun h => by exfalso; omega) ot195 (Or.inl ⟨by omega, rFa_t R3 (rFa_f Y3 U3.1.2.2.2.2.2 (yR_s (yR_r τ _) (ym8_f (fun h0 => by have h1 := (rKd_s 59 KK3 (by decide)).mpr h0; omega))) p193)⟩)))
          · exact And.intro (zrtb (by omega)) (And.intro ⟨by omega, by omega⟩ (hQ _ _ z160 (by omega) (by omega) p152 ES NS (by rw [qm151.2.1 60 rfl, qm101.2.1 60 rfl, qm3.2.1 60 rfl]; omega) (by rw [qm151.2.1 60 rfl, qm101.2.1 60 rfl, qm3.2.1 60 rfl, qm151.1 98 (by decide) rfl, qm101.1 98 (by decide) rfl, qm3.1 98 (by decide) rfl]; exact hp1.2.2.2.2.2.1) (fun h => by exfalso; omega) ot161 (Or.inl ⟨by omega, by rcases p159 with h0 | h0; exact rFa_t R3a h0.2; (exfalso; have h1 := h0.1; omega)⟩)))
      · exact And.intro (zrtb (by omega)) (And.intro ⟨by omega, by omega⟩ (hQ _ _ z110 (by omega) (by omega) p102 EB NB (by rw [qm101.2.1 60 rfl, qm3.2.1 60 rfl]; omega) (by rw [qm101.2.1 60 rfl, qm3.2.1 60 rfl, qm101.1 98 (by decide) rfl, qm3.1 98 (by decide) rfl]; exact hp1.2.2.2.2.2.1) (fun h => by exfalso; omega) ot111 (Or.inl ⟨by omega, by rcases p109 with h0 | h0; exact rFa_t R1b h0.2; (exfalso; have h1 := h0.1; omega)⟩)))
  · exact And.intro (zrtb (by omega)) (And.intro ⟨by omega, by omega⟩ (hQ _ _ z9 (by omega) (by omega) p4 p5 N11 (by rw [qm3.2.1 60 rfl]; omega) (by rw [qm3.2.1 60 rfl, qm3.1 98 (by decide) rfl]; exact hp1.2.2.2.2.2.1) (fun h => by exfalso; omega) ot10 (Or.inl ⟨by omega, by rcases p8 with h0 | h0; exact h0.2; (exfalso; have h1 := h0.1; omega)⟩)))
