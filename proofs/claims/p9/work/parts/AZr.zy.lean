def yk_X9_readDecl : zC := fun As μ Q => ∃ (lo : Int) (n : Int) (τ : yT) (p : Int) (B : yB), As = [.inr (.inr (66, 66))] ∧ (0 ≤ μ.1 66 ((33 : Nat) : Int) ∧ 0 ≤ μ.1 66 ((34 : Nat) : Int) ∧ μ.1 66 ((33 : Nat) : Int) + μ.1 66 ((34 : Nat) : Int) ≤ μ.1 66 ((31 : Nat) : Int) ∧ μ.1 66 ((31 : Nat) : Int) ≤ μ.1 66 ((30 : Nat) : Int) ∧ μ.1 66 ((30 : Nat) : Int) ≤ 800) ∧ (zDS μ lo n) ∧ (μ.1 66 ((60 : Nat) : Int) ≤ 1999000000) ∧ (rLx μ τ p) ∧ (rNu μ B) ∧ (yInv (0, p, 0, [], B)) ∧ (rAb μ B n lo) ∧ (rTd μ B) ∧ (∀ (v : Int) (μ' : zM), zfx [67, 68, 69, 70, 71, 72, 73, 74, 76, 77, 78, 79, 80, 82, 83, 84, 97, 98, 99, 100, 101, 102, 103, 104, 3000075, 3000081] [8, 26, 27, 31, 32, 33, 34, 35, 36, 38, 60] μ μ' → 0 ≤ v → v ≤ 1 → (0 ≤ μ'.1 66 ((33 : Nat) : Int) ∧ 0 ≤ μ'.1 66 ((34 : Nat) : Int) ∧ μ'.1 66 ((33 : Nat) : Int) + μ'.1 66 ((34 : Nat) : Int) ≤ μ'.1 66 ((31 : Nat) : Int) ∧ μ'.1 66 ((31 : Nat) : Int) ≤ μ'.1 66 ((30 : Nat) : Int) ∧ μ'.1 66 ((30 : Nat) : Int) ≤ 800) → (μ'.1 66 ((30 : Nat) : Int) = μ.1 66 ((30 : Nat) : Int)) → (zNo μ μ' lo) → (μ.1 66 ((60 : Nat) : Int) ≤ μ'.1 66 ((60 : Nat) : Int) ∧ μ'.1 66 ((60 : Nat) : Int) ≤ μ.1 66 ((60 : Nat) : Int) + 200) → (∀ x : Int, 0 ≤ x → x < 20000 → μ'.1 98 x ≤ μ'.1 66 ((60 : Nat) : Int)) → (v = 1 → zDS μ' lo (n + 1) ∧ zrm μ' < zrm μ) → (zOt μ μ') → ((v = 0 ∧ rFa τ (0, p, 0, [], B) μ') ∨ (v = 1 ∧ ∃ p' B', yR τ (0, p, 0, [], B) (9, p', 0, [], B') ∧ rLx μ' τ p' ∧ rNu μ' B' ∧ rAb μ' B' (n + 1) lo ∧ rTd μ' B')) → (zOn μ μ') → Q (some (.inl v)) μ')
set_option maxHeartbeats 4000000 in
theorem ym_X9_readDecl {g : zΓ} (hg : zg g) (d : Nat) (hd : 7 ≤ d) : zOk g d 147 yk_X9_readDecl := by
  obtain ⟨d, rfl⟩ : ∃ d', d = d' + 1 := ⟨d - 1, by omega⟩
  refine zOk_straight hg (show mt_tab[147]? = some mt_X9_readDecl from rfl) [] 54 rfl fun As μ Q hC => ?_
  obtain ⟨lo, n, τ, p, B, rfl, hp0, hp1, hp2, hp3, hp4, hp5, hp6, hp7, hQ⟩ := hC
  refine ⟨rfl, ?_⟩
  have z0 : zfx [67, 68, 69, 70, 71, 72, 73, 74, 76, 77, 78, 79, 80, 82, 83, 84, 97, 98, 99, 100, 101, 102, 103, 104, 3000075, 3000081] [8, 26, 27, 31, 32, 33, 34, 35, 36, 38, 60] μ μ := zfx_x μ
  intro x1 hx1 kx1 lx1
  have DD := hp1.1
  have CN : x1 = n := by omega
  subst CN
  have L0 := DD.2.2.2.2.2.2.2.2.2.1
  have L1 := DD.2.2.2.1
  have N0 := zNo_r (μ := μ) hp1.2.1.1
  refine ⟨yk_X9_readHead, ym_X9_readHead hg d (by omega), _, _, _, _, rfl, ⟨by omega, by omega⟩, hp0, ⟨DD.1, DD.2.1, DD.2.2.1⟩, ⟨DD.2.2.2.2.2.1, DD.2.2.2.2.2.2.1⟩, hp3, hp4, hp5, ?_⟩
  intro x2 m3 qm3 kx2 lx2 p4 p5 p6 p7 p8 p9
  have z10 := zfx_t z0 qm3 rfl rfl
  have ot11 := zOt_t (zOt_r μ) p7
  have on12 := zOn_t (zOn_r μ) p9
  have N13 := zNo_fr N0 (fun j a b => qm3.1 j (by omega) (zanyF (by simp <;> omega))) (qm3.2.1 8 rfl)
  refine And.intro ⟨by omega, by omega⟩ (And.intro (fun c14 => ?_) (fun c14 => ?_))
  · have H := p6 (by omega)
    have DH := zD2_head hp1 H.2.1 H.1 (fun j a b => qm3.1 j (by omega) (zanyF (by simp <;> omega))) (qm3.1 78 (by decide) rfl) (qm3.1 80 (by decide) rfl) (qm3.1 83 (by decide) rfl) (qm3.1 98 (by decide) rfl) (fun k hk => by rcases hk with h | h | h | h | h <;> subst h <;> exact qm3.2.1 _ rfl)
    have D1 := DH.1
    have Z79 := DH.2
    have ZR1 := Int.le_of_lt H.2.2
    have PR1 := zD2_pre hp1 D1
    obtain ⟨-, p1, B1, R1, Y1, U1, O1, E1⟩ := Or.resolve_left p8 (fun h0 => by have h2 := h0.1; omega)
    have E2 : B1.2 2 = B.2 2 := by rw [E1]
    have TD1 : rTd m3 B1 := rTd_h hp7 hp4 U1 H.2.1 hp1.1.2.2.1 E1 (fun j a b => qm3.1 j (by omega) (zanyF (by simp <;> omega))) (qm3.1 78 (by decide) rfl) (qm3.1 83 (by decide) rfl) (qm3.2.1 8 rfl)
    intro x15 hx15 kx15 lx15
    have KK1 := rkd Y1 hx15.symm
    refine And.intro ⟨⟨by omega, by omega⟩, ⟨by omega, by omega⟩⟩ (And.intro (fun c16 => ?_) (fun c16 => ?_))
    · have R2 := yR_s R1 (ym3_b (fun h0 => by have h1 := (rKd_w KK1).1.mpr h0; omega))
      intro x17 hx17 kx17 lx17
      have KK2 := rkd Y1 hx17.symm
      refine And.intro ⟨⟨by omega, by omega⟩, ⟨by omega, by omega⟩⟩ (And.intro (fun c18 => ?_) (fun c18 => ?_))
      · have R3 := yR_s R2 (ym6_b (fun h0 => by have h1 := (rKd_s 58 KK2 (by decide)).mpr h0; omega))
        have S3 : rSu m3 B1 x1 lo := fun i i0 i1 => by exfalso; have h0 := (U1.2.1 x1 (by omega) (by have h1 := U1.1.2.2.1; have h2 := D1.1.2.2.1; omega)).2.2.2; have h3 := Z79; omega
        intro x19 hx19 kx19 lx19
        have KK3 := rkd Y1 hx19.symm
        refine And.intro ⟨⟨by omega, by omega⟩, ⟨by omega, by omega⟩⟩ (And.intro (fun c20 => ?_) (fun c20 => ?_))
        · have TK9 : m3.1 66 ((32 : Nat) : Int) = 59 := by omega
          have AB : rAb m3 B1 x1 lo := rAb_old hp6 N13.1.1.1 N13.2.1 hp1.2.1.1.2.1 (fun q hq => by rw [qm3.1 80 (by decide) rfl]) N13.2.2 (fun e d a b => by rw [E2])
          refine ⟨yk_X9_findAbove, ym_X9_findAbove hg d (by omega), _, _, _, _, _, _, rfl, ⟨by omega, by omega⟩, ⟨D1.1.1, D1.1.2.2.1⟩, D1.2.1, D1.2.2.1, D1.2.2.2.1, PR1.2.1, PR1.1, (by rw [D1.2.2.2.2.2.1.1, D1.2.2.2.2.2.1.2]; exact ⟨hp1.2.2.2.2.2.1, hp1.2.2.2.2.2.2, hp2⟩), ((rKd_s 59 KK3 (by decide)).mp (by omega)), U1, (yInv_R hp5 R3), O1.symm, AB, S3, ?_⟩
          intro x21 m22 qm22 kx21 lx21 p23 p24 p25 p26 p27 p28
          have z29 := zfx_t z10 qm22 rfl rfl
          have ot30 := zOt_t ot11 p27
          have on31 := zOn_fr on12 (qm22.1 3000075 (by decide) rfl) (qm22.1 3000081 (by decide) rfl) (qm22.1 82 (by decide) rfl)
          have NF := zNo_t N13 p23
          have Y4 := rLx_z Y1 qm22 rfl ⟨rfl, rfl, rfl, rfl, rfl⟩
          have F35 : m22.1 66 ((35 : Nat) : Int) = 0 := (qm22.2.1 35 rfl).trans U1.1.2.2.2.2.2
          refine And.intro ⟨by omega, by omega⟩ (And.intro (fun c32 => ?_) (fun c32 => ?_))
          · have DS1 := zD2_post hp1 D1 p23 (p24 (by omega)) p25.1 p26 (fun j a b => qm22.1 j (by omega) (zanyF (by simp <;> omega))) (fun k hk => by rcases hk with h | h | h | h | h <;> subst h <;> exact qm22.2.1 _ rfl)
            obtain ⟨-, B4, R4, U4, A4⟩ := Or.resolve_right p28 (fun h0 => by have h2 := h0.1; omega)
            have C00 : B4.1 0 0 = B1.1 0 0 := U4.1.2.2.1.symm.trans ((qm22.2.1 26 rfl).trans U1.1.2.2.1)
            have E8 := yE8_9 R4 C00
            have TD4 : rTd m22 B4 := rTd_B (rTd_old TD1 p23.2.1 N13.1.2.1 (qm22.1 78 (by decide) rfl) (qm22.1 83 (by decide) rfl) p23.2.2) C00 E8.2.2.1 (E8.2.1 4 (by decide)) (E8.2.1 6 (by decide)) E8.1.1 E8.1.2
            refine ⟨yk_X9_pass, ym_X9_pass hg d (by omega), rfl, (by have h1 : 0 ≤ m22.1 66 ((33 : Nat) : Int) ∧ 0 ≤ m22.1 66 ((34 : Nat) : Int) ∧ m22.1 66 ((33 : Nat) : Int) + m22.1 66 ((34 : Nat) : Int) ≤ m22.1 66 ((31 : Nat) : Int) ∧ m22.1 66 ((31 : Nat) : Int) ≤ m22.1 66 ((30 : Nat) : Int) ∧ m22.1 66 ((30 : Nat) : Int) ≤ 800 := (by rw [qm22.2.1 33 rfl, qm22.2.1 34 rfl, qm22.2.1 31 rfl, qm22.2.1 30 rfl]; exact p4); omega), ?_⟩
            intro m33 qm33 p34 p35 p36 p37 p38
            have z39 := zfx_t z29 qm33 rfl rfl
            have ot40 := zOt_fr ot30 (qm33.1 76 (by decide) rfl) (qm33.1 77 (by decide) rfl) (qm33.1 78 (by decide) rfl) (qm33.1 79 (by decide) rfl) (qm33.1 80 (by decide) rfl) (qm33.1 83 (by decide) rfl) (qm33.1 84 (by decide) rfl)
            have on41 := zOn_fr on31 (qm33.1 3000075 (by decide) rfl) (qm33.1 3000081 (by decide) rfl) (qm33.1 82 (by decide) rfl)
            have N42 := zNo_fr NF (fun j a b => qm33.1 j (by omega) (zanyF (by simp <;> omega))) (qm33.2.1 8 rfl)
            have DS2 := zDS_fr DS1 (fun j a b => qm33.1 j (by omega) (zanyF (by simp <;> omega))) (qm33.1 98 (by decide) rfl) (fun k hk => by rcases hk with h | h | h | h | h | h | h <;> subst h <;> exact qm33.2.1 _ rfl)
            have ZL : zrm m33 < zrm m22 := zrm_p (by rw [qm22.2.1 32 rfl, TK9]; decide) p35 p36 p37
            have ZM := zrm_q (m := m3) (m' := m22) (fun k hk => by rcases hk with h | h | h <;> subst h <;> exact qm22.2.1 _ rfl)
            have Y5 := rLx_p Y4 (qm33.1 85 (by decide) rfl) (qm33.2.1 30 rfl) p38
            have U5 := rNu_z U4 qm33 ⟨rfl, rfl, rfl, rfl, rfl, rfl⟩ ⟨rfl, rfl, rfl, rfl, rfl, rfl⟩
            have A5 := rAb_c A4 (fun j a b => qm33.1 j (by omega) (zanyF (by simp <;> omega))) (qm33.1 80 (by decide) rfl) (qm33.2.1 8 rfl)
            have TD5 := rTd_c TD4 (fun j a b => qm33.1 j (by omega) (zanyF (by simp <;> omega))) (qm33.1 78 (by decide) rfl) (qm33.1 83 (by decide) rfl) (qm33.2.1 8 rfl)
            exact And.intro (zrtb (by omega)) (And.intro ⟨by omega, by omega⟩ (hQ _ _ z39 (by omega) (by omega) p34 (p35.trans (((qm22.2.1 30 rfl).trans (p5)))) N42 (by rw [qm33.2.1 60 rfl]; have h1 := p25; rw [D1.2.2.2.2.2.1.2] at h1; exact h1) (by rw [qm33.2.1 60 rfl, qm33.1 98 (by decide) rfl]; exact p26) (fun _ => ⟨DS2, Int.lt_of_lt_of_le ZL (Int.le_trans ZM ZR1)⟩) ot40 (Or.inr ⟨rfl, _, B4, yR_t R3 R4, Y5, U5, A5, TD5⟩) on41))
          · refine ⟨yk_X9_fail, ym_X9_fail hg d (by omega), _, rfl, ⟨by omega, by omega⟩, ?_⟩
            intro x43 m44 qm44 kx43 lx43 p45
            have z46 := zfx_t z29 qm44 rfl rfl
            have ot47 := zOt_fr ot30 (qm44.1 76 (by decide) rfl) (qm44.1 77 (by decide) rfl) (qm44.1 78 (by decide) rfl) (qm44.1 79 (by decide) rfl) (qm44.1 80 (by decide) rfl) (qm44.1 83 (by decide) rfl) (qm44.1 84 (by decide) rfl)
            have on48 := zOn_fr on31 (qm44.1 3000075 (by decide) rfl) (qm44.1 3000081 (by decide) rfl) (qm44.1 82 (by decide) rfl)
            have N49 := zNo_fr NF (fun j a b => qm44.1 j (by omega) (zanyF (by simp <;> omega))) (qm44.2.1 8 rfl)
            exact And.intro (zrtb (by omega)) (And.intro ⟨by omega, by omega⟩ (hQ _ _ z46 (by omega) (by omega) (by rw [qm44.2.1 33 rfl, qm44.2.1 34 rfl, qm44.2.1 31 rfl, qm44.2.1 30 rfl]; exact (by rw [qm22.2.1 33 rfl, qm22.2.1 34 rfl, qm22.2.1 31 rfl, qm22.2.1 30 rfl]; exact p4)) ((qm44.2.1 30 rfl).trans (((qm22.2.1 30 rfl).trans (p5)))) N49 (by rw [qm44.2.1 60 rfl]; have h1 := p25; rw [D1.2.2.2.2.2.1.2] at h1; exact h1) (by rw [qm44.2.1 60 rfl, qm44.1 98 (by decide) rfl]; exact p26) (fun h => by exfalso; omega) ot47 (Or.inl ⟨by omega, by rcases p28 with h0 | h0; (exfalso; have h1 := h0.1; omega); (obtain ⟨B9, h0⟩ := h0.2; exact rFa_t R3 (rFa_f Y4 F35 h0 p45))⟩) on48))
        · refine ⟨yk_X9_fail, ym_X9_fail hg d (by omega), _, rfl, ⟨by omega, by omega⟩, ?_⟩
          intro x50 m51 qm51 kx50 lx50 p52
          have z53 := zfx_t z10 qm51 rfl rfl
          have ot54 := zOt_fr ot11 (qm51.1 76 (by decide) rfl) (qm51.1 77 (by decide) rfl) (qm51.1 78 (by decide) rfl) (qm51.1 79 (by decide) rfl) (qm51.1 80 (by decide) rfl) (qm51.1 83 (by decide) rfl) (qm51.1 84 (by decide) rfl)
          have on55 := zOn_fr on12 (qm51.1 3000075 (by decide) rfl) (qm51.1 3000081 (by decide) rfl) (qm51.1 82 (by decide) rfl)
          have N56 := zNo_fr N13 (fun j a b => qm51.1 j (by omega) (zanyF (by simp <;> omega))) (qm51.2.1 8 rfl)
          have D57 := zD2_fr L0 L1 D1 (fun j a b c => qm51.1 j (by omega) (zanyF (by simp <;> omega))) (qm51.1 98 (by decide) rfl) (fun k hk => by rcases hk with h | h | h | h | h | h | h <;> subst h <;> exact qm51.2.1 _ rfl)
          exact And.intro (zrtb (by omega)) (And.intro ⟨by omega, by omega⟩ (hQ _ _ z53 (by omega) (by omega) (by rw [qm51.2.1 33 rfl, qm51.2.1 34 rfl, qm51.2.1 31 rfl, qm51.2.1 30 rfl]; exact p4) ((qm51.2.1 30 rfl).trans (p5)) N56 (by rw [qm51.2.1 60 rfl, qm3.2.1 60 rfl]; omega) (by rw [qm51.2.1 60 rfl, qm3.2.1 60 rfl, qm51.1 98 (by decide) rfl, qm3.1 98 (by decide) rfl]; exact hp1.2.2.2.2.2.1) (fun h => by exfalso; omega) ot54 (Or.inl ⟨by omega, rFa_t R3 (rFa_f Y1 U1.1.2.2.2.2.2 (yR_s (yR_r τ _) (ym8_f (fun h0 => by have h1 := (rKd_s 59 KK3 (by decide)).mpr h0; omega))) p52)⟩) on55))
      · have R3a := yR_s R2 (ym6_a ((rKd_s 58 KK2 (by decide)).mp (by omega)))
        refine ⟨yk_X9_readSupers, ym_X9_readSupers hg d (by omega), _, _, _, _, _, _, rfl, ⟨by omega, by omega⟩, p4, D1.2.1.1, D1.2.1.2.2, ⟨D1.1.1, D1.1.2.1, D1.1.2.2.1⟩, ⟨D1.1.2.2.2.2.2.1, D1.1.2.2.2.2.2.2.2.2.2.2, PR1.2.1⟩, ⟨PR1.2.2, by have h1 := D1.1; omega, by have h1 := D1.1; omega⟩, ⟨D1.2.2.2.1, Z79⟩, (by omega), Y1, U1, (yInv_R hp5 R3a), O1.symm, TD1, ?_⟩
        intro x58 m59 qm59 kx58 lx58 p60 p61 p62 p63 p64 p65 p66 p67
        have z68 := zfx_t z10 qm59 rfl rfl
        have ot69 := zOt_t ot11 p66
        have on70 := zOn_fr on12 (qm59.1 3000075 (by decide) rfl) (qm59.1 3000081 (by decide) rfl) (qm59.1 82 (by decide) rfl)
        have NS := zNo_te N13 p62
        have ES := p61.trans (p5)
        refine And.intro ⟨by omega, by omega⟩ (And.intro (fun c71 => ?_) (fun c71 => ?_))
        · have SQ := p64 (by omega)
          have BQ := zBd_old D1.2.2.1.2.1 L0 p62.1.2.2.1 p62.1.2.2.2.1 (qm59.1 83 (by decide) rfl) (qm59.1 84 (by decide) rfl)
          have D3 := zD2_te L0 L1 D1 p62 BQ ⟨SQ.1, by have h1 := SQ.2.1; have h2 := D1.1; unfold zTn at h1; omega⟩ (qm59.1 76 (by decide) rfl) (qm59.1 77 (by decide) rfl) (qm59.1 80 (by decide) rfl) SQ.2.2.2 SQ.2.2.1 (qm59.1 98 (by decide) rfl) (fun k hk => by rcases hk with h | h | h | h | h <;> subst h <;> exact qm59.2.1 _ rfl) p63.2
          have ZR3 := Int.le_trans (Int.le_of_lt (p65 (by omega))) ZR1
          have PR3 := zD2_pre hp1 D3
          obtain ⟨-, p3, B3, R3b, Y3, U3, O3, S3, TD3⟩ := Or.resolve_left p67 (fun h0 => by have h2 := h0.1; omega)
          have R3 := yR_t R3a R3b
          have E4 : B3.2 2 = B.2 2 := O3.2.trans E2
          intro x72 hx72 kx72 lx72
          have KK3 := rkd Y3 hx72.symm
          refine And.intro ⟨⟨by omega, by omega⟩, ⟨by omega, by omega⟩⟩ (And.intro (fun c73 => ?_) (fun c73 => ?_))
          · have TK9 : m59.1 66 ((32 : Nat) : Int) = 59 := by omega
            have AB : rAb m59 B3 x1 lo := rAb_old hp6 NS.1.1.1 NS.2.1 hp1.2.1.1.2.1 (fun q hq => by rw [qm59.1 80 (by decide) rfl, qm3.1 80 (by decide) rfl]) NS.2.2 (fun e d a b => by rw [E4])
            refine ⟨yk_X9_findAbove, ym_X9_findAbove hg d (by omega), _, _, _, _, _, _, rfl, ⟨by omega, by omega⟩, ⟨D3.1.1, D3.1.2.2.1⟩, D3.2.1, D3.2.2.1, D3.2.2.2.1, PR3.2.1, PR3.1, (by rw [D3.2.2.2.2.2.1.1, D3.2.2.2.2.2.1.2]; exact ⟨hp1.2.2.2.2.2.1, hp1.2.2.2.2.2.2, hp2⟩), ((rKd_s 59 KK3 (by decide)).mp (by omega)), U3, (yInv_R hp5 R3), O3.1.symm, AB, S3, ?_⟩
            intro x74 m75 qm75 kx74 lx74 p76 p77 p78 p79 p80 p81
            have z82 := zfx_t z68 qm75 rfl rfl
            have ot83 := zOt_t ot69 p80
            have on84 := zOn_fr on70 (qm75.1 3000075 (by decide) rfl) (qm75.1 3000081 (by decide) rfl) (qm75.1 82 (by decide) rfl)
            have NF := zNo_t NS p76
            have Y4 := rLx_z Y3 qm75 rfl ⟨rfl, rfl, rfl, rfl, rfl⟩
            have F35 : m75.1 66 ((35 : Nat) : Int) = 0 := (qm75.2.1 35 rfl).trans U3.1.2.2.2.2.2
            refine And.intro ⟨by omega, by omega⟩ (And.intro (fun c85 => ?_) (fun c85 => ?_))
            · have DS1 := zD2_post hp1 D3 p76 (p77 (by omega)) p78.1 p79 (fun j a b => qm75.1 j (by omega) (zanyF (by simp <;> omega))) (fun k hk => by rcases hk with h | h | h | h | h <;> subst h <;> exact qm75.2.1 _ rfl)
              obtain ⟨-, B4, R4, U4, A4⟩ := Or.resolve_right p81 (fun h0 => by have h2 := h0.1; omega)
              have C00 : B4.1 0 0 = B3.1 0 0 := U4.1.2.2.1.symm.trans ((qm75.2.1 26 rfl).trans U3.1.2.2.1)
              have E8 := yE8_9 R4 C00
              have TD4 : rTd m75 B4 := rTd_B (rTd_old TD3 p76.2.1 NS.1.2.1 (qm75.1 78 (by decide) rfl) (qm75.1 83 (by decide) rfl) p76.2.2) C00 E8.2.2.1 (E8.2.1 4 (by decide)) (E8.2.1 6 (by decide)) E8.1.1 E8.1.2
              refine ⟨yk_X9_pass, ym_X9_pass hg d (by omega), rfl, (by have h1 : 0 ≤ m75.1 66 ((33 : Nat) : Int) ∧ 0 ≤ m75.1 66 ((34 : Nat) : Int) ∧ m75.1 66 ((33 : Nat) : Int) + m75.1 66 ((34 : Nat) : Int) ≤ m75.1 66 ((31 : Nat) : Int) ∧ m75.1 66 ((31 : Nat) : Int) ≤ m75.1 66 ((30 : Nat) : Int) ∧ m75.1 66 ((30 : Nat) : Int) ≤ 800 := (by rw [qm75.2.1 33 rfl, qm75.2.1 34 rfl, qm75.2.1 31 rfl, qm75.2.1 30 rfl]; exact p60); omega), ?_⟩
              intro m86 qm86 p87 p88 p89 p90 p91
              have z92 := zfx_t z82 qm86 rfl rfl
              have ot93 := zOt_fr ot83 (qm86.1 76 (by decide) rfl) (qm86.1 77 (by decide) rfl) (qm86.1 78 (by decide) rfl) (qm86.1 79 (by decide) rfl) (qm86.1 80 (by decide) rfl) (qm86.1 83 (by decide) rfl) (qm86.1 84 (by decide) rfl)
              have on94 := zOn_fr on84 (qm86.1 3000075 (by decide) rfl) (qm86.1 3000081 (by decide) rfl) (qm86.1 82 (by decide) rfl)
              have N95 := zNo_fr NF (fun j a b => qm86.1 j (by omega) (zanyF (by simp <;> omega))) (qm86.2.1 8 rfl)
              have DS2 := zDS_fr DS1 (fun j a b => qm86.1 j (by omega) (zanyF (by simp <;> omega))) (qm86.1 98 (by decide) rfl) (fun k hk => by rcases hk with h | h | h | h | h | h | h <;> subst h <;> exact qm86.2.1 _ rfl)
              have ZL : zrm m86 < zrm m75 := zrm_p (by rw [qm75.2.1 32 rfl, TK9]; decide) p88 p89 p90
              have ZM := zrm_q (m := m59) (m' := m75) (fun k hk => by rcases hk with h | h | h <;> subst h <;> exact qm75.2.1 _ rfl)
              have Y5 := rLx_p Y4 (qm86.1 85 (by decide) rfl) (qm86.2.1 30 rfl) p91
              have U5 := rNu_z U4 qm86 ⟨rfl, rfl, rfl, rfl, rfl, rfl⟩ ⟨rfl, rfl, rfl, rfl, rfl, rfl⟩
              have A5 := rAb_c A4 (fun j a b => qm86.1 j (by omega) (zanyF (by simp <;> omega))) (qm86.1 80 (by decide) rfl) (qm86.2.1 8 rfl)
              have TD5 := rTd_c TD4 (fun j a b => qm86.1 j (by omega) (zanyF (by simp <;> omega))) (qm86.1 78 (by decide) rfl) (qm86.1 83 (by decide) rfl) (qm86.2.1 8 rfl)
              exact And.intro (zrtb (by omega)) (And.intro ⟨by omega, by omega⟩ (hQ _ _ z92 (by omega) (by omega) p87 (p88.trans (((qm75.2.1 30 rfl).trans (ES)))) N95 (by rw [qm86.2.1 60 rfl]; have h1 := p78; rw [D3.2.2.2.2.2.1.2] at h1; exact h1) (by rw [qm86.2.1 60 rfl, qm86.1 98 (by decide) rfl]; exact p79) (fun _ => ⟨DS2, Int.lt_of_lt_of_le ZL (Int.le_trans ZM ZR3)⟩) ot93 (Or.inr ⟨rfl, _, B4, yR_t R3 R4, Y5, U5, A5, TD5⟩) on94))
            · refine ⟨yk_X9_fail, ym_X9_fail hg d (by omega), _, rfl, ⟨by omega, by omega⟩, ?_⟩
              intro x96 m97 qm97 kx96 lx96 p98
              have z99 := zfx_t z82 qm97 rfl rfl
              have ot100 := zOt_fr ot83 (qm97.1 76 (by decide) rfl) (qm97.1 77 (by decide) rfl) (qm97.1 78 (by decide) rfl) (qm97.1 79 (by decide) rfl) (qm97.1 80 (by decide) rfl) (qm97.1 83 (by decide) rfl) (qm97.1 84 (by decide) rfl)
              have on101 := zOn_fr on84 (qm97.1 3000075 (by decide) rfl) (qm97.1 3000081 (by decide) rfl) (qm97.1 82 (by decide) rfl)
              have N102 := zNo_fr NF (fun j a b => qm97.1 j (by omega) (zanyF (by simp <;> omega))) (qm97.2.1 8 rfl)
              exact And.intro (zrtb (by omega)) (And.intro ⟨by omega, by omega⟩ (hQ _ _ z99 (by omega) (by omega) (by rw [qm97.2.1 33 rfl, qm97.2.1 34 rfl, qm97.2.1 31 rfl, qm97.2.1 30 rfl]; exact (by rw [qm75.2.1 33 rfl, qm75.2.1 34 rfl, qm75.2.1 31 rfl, qm75.2.1 30 rfl]; exact p60)) ((qm97.2.1 30 rfl).trans (((qm75.2.1 30 rfl).trans (ES)))) N102 (by rw [qm97.2.1 60 rfl]; have h1 := p78; rw [D3.2.2.2.2.2.1.2] at h1; exact h1) (by rw [qm97.2.1 60 rfl, qm97.1 98 (by decide) rfl]; exact p79) (fun h => by exfalso; omega) ot100 (Or.inl ⟨by omega, by rcases p81 with h0 | h0; (exfalso; have h1 := h0.1; omega); (obtain ⟨B9, h0⟩ := h0.2; exact rFa_t R3 (rFa_f Y4 F35 h0 p98))⟩) on101))
          · refine ⟨yk_X9_fail, ym_X9_fail hg d (by omega), _, rfl, ⟨by omega, by omega⟩, ?_⟩
            intro x103 m104 qm104 kx103 lx103 p105
            have z106 := zfx_t z68 qm104 rfl rfl
            have ot107 := zOt_fr ot69 (qm104.1 76 (by decide) rfl) (qm104.1 77 (by decide) rfl) (qm104.1 78 (by decide) rfl) (qm104.1 79 (by decide) rfl) (qm104.1 80 (by decide) rfl) (qm104.1 83 (by decide) rfl) (qm104.1 84 (by decide) rfl)
            have on108 := zOn_fr on70 (qm104.1 3000075 (by decide) rfl) (qm104.1 3000081 (by decide) rfl) (qm104.1 82 (by decide) rfl)
            have N109 := zNo_fr NS (fun j a b => qm104.1 j (by omega) (zanyF (by simp <;> omega))) (qm104.2.1 8 rfl)
            have D110 := zD2_fr L0 L1 D3 (fun j a b c => qm104.1 j (by omega) (zanyF (by simp <;> omega))) (qm104.1 98 (by decide) rfl) (fun k hk => by rcases hk with h | h | h | h | h | h | h <;> subst h <;> exact qm104.2.1 _ rfl)
            exact And.intro (zrtb (by omega)) (And.intro ⟨by omega, by omega⟩ (hQ _ _ z106 (by omega) (by omega) (by rw [qm104.2.1 33 rfl, qm104.2.1 34 rfl, qm104.2.1 31 rfl, qm104.2.1 30 rfl]; exact p60) ((qm104.2.1 30 rfl).trans (ES)) N109 (by rw [qm104.2.1 60 rfl, qm59.2.1 60 rfl, qm3.2.1 60 rfl]; omega) (by rw [qm104.2.1 60 rfl, qm59.2.1 60 rfl, qm3.2.1 60 rfl, qm104.1 98 (by decide) rfl, qm59.1 98 (by decide) rfl, qm3.1 98 (by decide) rfl]; exact hp1.2.2.2.2.2.1) (fun h => by exfalso; omega) ot107 (Or.inl ⟨by omega, rFa_t R3 (rFa_f Y3 U3.1.2.2.2.2.2 (yR_s (yR_r τ _) (ym8_f (fun h0 => by have h1 := (rKd_s 59 KK3 (by decide)).mpr h0; omega))) p105)⟩) on108))
        · exact And.intro (zrtb (by omega)) (And.intro ⟨by omega, by omega⟩ (hQ _ _ z68 (by omega) (by omega) p60 ES NS (by rw [qm59.2.1 60 rfl, qm3.2.1 60 rfl]; omega) (by rw [qm59.2.1 60 rfl, qm3.2.1 60 rfl, qm59.1 98 (by decide) rfl, qm3.1 98 (by decide) rfl]; exact hp1.2.2.2.2.2.1) (fun h => by exfalso; omega) ot69 (Or.inl ⟨by omega, by rcases p67 with h0 | h0; exact rFa_t R3a h0.2; (exfalso; have h1 := h0.1; omega)⟩) on70))
    · have R1b := yR_s R1 (ym3_a ((rKd_w KK1).1.mp (by omega)))
      refine ⟨yk_X9_readBounds, ym_X9_readBounds hg d (by omega), _, _, _, _, _, _, rfl, ⟨by omega, by omega⟩, p4, D1.2.1.1, D1.2.1.2.2, ⟨D1.1.1, D1.1.2.1, D1.1.2.2.1⟩, ⟨D1.1.2.2.2.2.2.1, D1.1.2.2.2.2.2.2.2.2.2.2, PR1.2.1⟩, ⟨PR1.2.2, by have h1 := D1.1; omega, by have h1 := D1.1; omega⟩, D1.2.2.1.2.1, (by omega), Y1, U1, (yInv_R hp5 R1b), O1.symm, TD1, ?_⟩
      intro x111 m112 qm112 kx111 lx111 p113 p114 p115 p116 p117 p118 p119 p120
      have z121 := zfx_t z10 qm112 rfl rfl
      have ot122 := zOt_t ot11 p119
      have on123 := zOn_fr on12 (qm112.1 3000075 (by decide) rfl) (qm112.1 3000081 (by decide) rfl) (qm112.1 82 (by decide) rfl)
      have NB := zNo_te N13 p115
      have EB := p114.trans (p5)
      refine And.intro ⟨by omega, by omega⟩ (And.intro (fun c124 => ?_) (fun c124 => ?_))
      · have SP := zSp_old (zSp_r D1.2.2.2.1 Z79) L0 D1.2.1.1.2.1 p115.1.2.2.1 p115.1.2.2.2.1 (fun j a b => qm112.1 j (by omega) (zanyF (by simp <;> omega))) (by have := p115.2.2; unfold zTn at this; omega)
        have D2 := zD2_te L0 L1 D1 p115 (p117 (by omega)) ⟨SP.1, by have h1 := SP.2.1; have h2 := D1.1; unfold zTn at h1; omega⟩ (qm112.1 76 (by decide) rfl) (qm112.1 77 (by decide) rfl) (qm112.1 80 (by decide) rfl) (fun q _ => by rw [qm112.1 78 (by decide) rfl]) (fun q _ => by rw [qm112.1 79 (by decide) rfl]) (qm112.1 98 (by decide) rfl) (fun k hk => by rcases hk with h | h | h | h | h <;> subst h <;> exact qm112.2.1 _ rfl) p116.2
        have Z79b : m112.1 79 (21 + x1) = 0 := by rw [qm112.1 79 (by decide) rfl]; exact Z79
        have ZR2 := Int.le_trans (Int.le_of_lt (p118 (by omega))) ZR1
        have PR2 := zD2_pre hp1 D2
        obtain ⟨-, p2, B2, R2a, Y2, U2, ⟨O2, E2a, E2b⟩, TD2⟩ := Or.resolve_left p120 (fun h0 => by have h2 := h0.1; omega)
        have R2 := yR_t R1b R2a
        have E3 : B2.2 2 = B.2 2 := E2b.trans E2
        intro x125 hx125 kx125 lx125
        have KK2 := rkd Y2 hx125.symm
        refine And.intro ⟨⟨by omega, by omega⟩, ⟨by omega, by omega⟩⟩ (And.intro (fun c126 => ?_) (fun c126 => ?_))
        · have R3 := yR_s R2 (ym6_b (fun h0 => by have h1 := (rKd_s 58 KK2 (by decide)).mpr h0; omega))
          have S3 : rSu m112 B2 x1 lo := fun i i0 i1 => by exfalso; have h0 := (U2.2.1 x1 (by omega) (by have h1 := U2.1.2.2.1; have h2 := D2.1.2.2.1; omega)).2.2.2; have h3 := Z79b; omega
          intro x127 hx127 kx127 lx127
          have KK3 := rkd Y2 hx127.symm
          refine And.intro ⟨⟨by omega, by omega⟩, ⟨by omega, by omega⟩⟩ (And.intro (fun c128 => ?_) (fun c128 => ?_))
          · have TK9 : m112.1 66 ((32 : Nat) : Int) = 59 := by omega
            have AB : rAb m112 B2 x1 lo := rAb_old hp6 NB.1.1.1 NB.2.1 hp1.2.1.1.2.1 (fun q hq => by rw [qm112.1 80 (by decide) rfl, qm3.1 80 (by decide) rfl]) NB.2.2 (fun e d a b => by rw [E3])
            refine ⟨yk_X9_findAbove, ym_X9_findAbove hg d (by omega), _, _, _, _, _, _, rfl, ⟨by omega, by omega⟩, ⟨D2.1.1, D2.1.2.2.1⟩, D2.2.1, D2.2.2.1, D2.2.2.2.1, PR2.2.1, PR2.1, (by rw [D2.2.2.2.2.2.1.1, D2.2.2.2.2.2.1.2]; exact ⟨hp1.2.2.2.2.2.1, hp1.2.2.2.2.2.2, hp2⟩), ((rKd_s 59 KK3 (by decide)).mp (by omega)), U2, (yInv_R hp5 R3), O2.symm, AB, S3, ?_⟩
            intro x129 m130 qm130 kx129 lx129 p131 p132 p133 p134 p135 p136
            have z137 := zfx_t z121 qm130 rfl rfl
            have ot138 := zOt_t ot122 p135
            have on139 := zOn_fr on123 (qm130.1 3000075 (by decide) rfl) (qm130.1 3000081 (by decide) rfl) (qm130.1 82 (by decide) rfl)
            have NF := zNo_t NB p131
            have Y4 := rLx_z Y2 qm130 rfl ⟨rfl, rfl, rfl, rfl, rfl⟩
            have F35 : m130.1 66 ((35 : Nat) : Int) = 0 := (qm130.2.1 35 rfl).trans U2.1.2.2.2.2.2
            refine And.intro ⟨by omega, by omega⟩ (And.intro (fun c140 => ?_) (fun c140 => ?_))
            · have DS1 := zD2_post hp1 D2 p131 (p132 (by omega)) p133.1 p134 (fun j a b => qm130.1 j (by omega) (zanyF (by simp <;> omega))) (fun k hk => by rcases hk with h | h | h | h | h <;> subst h <;> exact qm130.2.1 _ rfl)
              obtain ⟨-, B4, R4, U4, A4⟩ := Or.resolve_right p136 (fun h0 => by have h2 := h0.1; omega)
              have C00 : B4.1 0 0 = B2.1 0 0 := U4.1.2.2.1.symm.trans ((qm130.2.1 26 rfl).trans U2.1.2.2.1)
              have E8 := yE8_9 R4 C00
              have TD4 : rTd m130 B4 := rTd_B (rTd_old TD2 p131.2.1 NB.1.2.1 (qm130.1 78 (by decide) rfl) (qm130.1 83 (by decide) rfl) p131.2.2) C00 E8.2.2.1 (E8.2.1 4 (by decide)) (E8.2.1 6 (by decide)) E8.1.1 E8.1.2
              refine ⟨yk_X9_pass, ym_X9_pass hg d (by omega), rfl, (by have h1 : 0 ≤ m130.1 66 ((33 : Nat) : Int) ∧ 0 ≤ m130.1 66 ((34 : Nat) : Int) ∧ m130.1 66 ((33 : Nat) : Int) + m130.1 66 ((34 : Nat) : Int) ≤ m130.1 66 ((31 : Nat) : Int) ∧ m130.1 66 ((31 : Nat) : Int) ≤ m130.1 66 ((30 : Nat) : Int) ∧ m130.1 66 ((30 : Nat) : Int) ≤ 800 := (by rw [qm130.2.1 33 rfl, qm130.2.1 34 rfl, qm130.2.1 31 rfl, qm130.2.1 30 rfl]; exact p113); omega), ?_⟩
              intro m141 qm141 p142 p143 p144 p145 p146
              have z147 := zfx_t z137 qm141 rfl rfl
              have ot148 := zOt_fr ot138 (qm141.1 76 (by decide) rfl) (qm141.1 77 (by decide) rfl) (qm141.1 78 (by decide) rfl) (qm141.1 79 (by decide) rfl) (qm141.1 80 (by decide) rfl) (qm141.1 83 (by decide) rfl) (qm141.1 84 (by decide) rfl)
              have on149 := zOn_fr on139 (qm141.1 3000075 (by decide) rfl) (qm141.1 3000081 (by decide) rfl) (qm141.1 82 (by decide) rfl)
              have N150 := zNo_fr NF (fun j a b => qm141.1 j (by omega) (zanyF (by simp <;> omega))) (qm141.2.1 8 rfl)
              have DS2 := zDS_fr DS1 (fun j a b => qm141.1 j (by omega) (zanyF (by simp <;> omega))) (qm141.1 98 (by decide) rfl) (fun k hk => by rcases hk with h | h | h | h | h | h | h <;> subst h <;> exact qm141.2.1 _ rfl)
              have ZL : zrm m141 < zrm m130 := zrm_p (by rw [qm130.2.1 32 rfl, TK9]; decide) p143 p144 p145
              have ZM := zrm_q (m := m112) (m' := m130) (fun k hk => by rcases hk with h | h | h <;> subst h <;> exact qm130.2.1 _ rfl)
              have Y5 := rLx_p Y4 (qm141.1 85 (by decide) rfl) (qm141.2.1 30 rfl) p146
              have U5 := rNu_z U4 qm141 ⟨rfl, rfl, rfl, rfl, rfl, rfl⟩ ⟨rfl, rfl, rfl, rfl, rfl, rfl⟩
              have A5 := rAb_c A4 (fun j a b => qm141.1 j (by omega) (zanyF (by simp <;> omega))) (qm141.1 80 (by decide) rfl) (qm141.2.1 8 rfl)
              have TD5 := rTd_c TD4 (fun j a b => qm141.1 j (by omega) (zanyF (by simp <;> omega))) (qm141.1 78 (by decide) rfl) (qm141.1 83 (by decide) rfl) (qm141.2.1 8 rfl)
              exact And.intro (zrtb (by omega)) (And.intro ⟨by omega, by omega⟩ (hQ _ _ z147 (by omega) (by omega) p142 (p143.trans (((qm130.2.1 30 rfl).trans (EB)))) N150 (by rw [qm141.2.1 60 rfl]; have h1 := p133; rw [D2.2.2.2.2.2.1.2] at h1; exact h1) (by rw [qm141.2.1 60 rfl, qm141.1 98 (by decide) rfl]; exact p134) (fun _ => ⟨DS2, Int.lt_of_lt_of_le ZL (Int.le_trans ZM ZR2)⟩) ot148 (Or.inr ⟨rfl, _, B4, yR_t R3 R4, Y5, U5, A5, TD5⟩) on149))
            · refine ⟨yk_X9_fail, ym_X9_fail hg d (by omega), _, rfl, ⟨by omega, by omega⟩, ?_⟩
              intro x151 m152 qm152 kx151 lx151 p153
              have z154 := zfx_t z137 qm152 rfl rfl
              have ot155 := zOt_fr ot138 (qm152.1 76 (by decide) rfl) (qm152.1 77 (by decide) rfl) (qm152.1 78 (by decide) rfl) (qm152.1 79 (by decide) rfl) (qm152.1 80 (by decide) rfl) (qm152.1 83 (by decide) rfl) (qm152.1 84 (by decide) rfl)
              have on156 := zOn_fr on139 (qm152.1 3000075 (by decide) rfl) (qm152.1 3000081 (by decide) rfl) (qm152.1 82 (by decide) rfl)
              have N157 := zNo_fr NF (fun j a b => qm152.1 j (by omega) (zanyF (by simp <;> omega))) (qm152.2.1 8 rfl)
              exact And.intro (zrtb (by omega)) (And.intro ⟨by omega, by omega⟩ (hQ _ _ z154 (by omega) (by omega) (by rw [qm152.2.1 33 rfl, qm152.2.1 34 rfl, qm152.2.1 31 rfl, qm152.2.1 30 rfl]; exact (by rw [qm130.2.1 33 rfl, qm130.2.1 34 rfl, qm130.2.1 31 rfl, qm130.2.1 30 rfl]; exact p113)) ((qm152.2.1 30 rfl).trans (((qm130.2.1 30 rfl).trans (EB)))) N157 (by rw [qm152.2.1 60 rfl]; have h1 := p133; rw [D2.2.2.2.2.2.1.2] at h1; exact h1) (by rw [qm152.2.1 60 rfl, qm152.1 98 (by decide) rfl]; exact p134) (fun h => by exfalso; omega) ot155 (Or.inl ⟨by omega, by rcases p136 with h0 | h0; (exfalso; have h1 := h0.1; omega); (obtain ⟨B9, h0⟩ := h0.2; exact rFa_t R3 (rFa_f Y4 F35 h0 p153))⟩) on156))
          · refine ⟨yk_X9_fail, ym_X9_fail hg d (by omega), _, rfl, ⟨by omega, by omega⟩, ?_⟩
            intro x158 m159 qm159 kx158 lx158 p160
            have z161 := zfx_t z121 qm159 rfl rfl
            have ot162 := zOt_fr ot122 (qm159.1 76 (by decide) rfl) (qm159.1 77 (by decide) rfl) (qm159.1 78 (by decide) rfl) (qm159.1 79 (by decide) rfl) (qm159.1 80 (by decide) rfl) (qm159.1 83 (by decide) rfl) (qm159.1 84 (by decide) rfl)
            have on163 := zOn_fr on123 (qm159.1 3000075 (by decide) rfl) (qm159.1 3000081 (by decide) rfl) (qm159.1 82 (by decide) rfl)
            have N164 := zNo_fr NB (fun j a b => qm159.1 j (by omega) (zanyF (by simp <;> omega))) (qm159.2.1 8 rfl)
            have D165 := zD2_fr L0 L1 D2 (fun j a b c => qm159.1 j (by omega) (zanyF (by simp <;> omega))) (qm159.1 98 (by decide) rfl) (fun k hk => by rcases hk with h | h | h | h | h | h | h <;> subst h <;> exact qm159.2.1 _ rfl)
            exact And.intro (zrtb (by omega)) (And.intro ⟨by omega, by omega⟩ (hQ _ _ z161 (by omega) (by omega) (by rw [qm159.2.1 33 rfl, qm159.2.1 34 rfl, qm159.2.1 31 rfl, qm159.2.1 30 rfl]; exact p113) ((qm159.2.1 30 rfl).trans (EB)) N164 (by rw [qm159.2.1 60 rfl, qm112.2.1 60 rfl, qm3.2.1 60 rfl]; omega) (by rw [qm159.2.1 60 rfl, qm112.2.1 60 rfl, qm3.2.1 60 rfl, qm159.1 98 (by decide) rfl, qm112.1 98 (by decide) rfl, qm3.1 98 (by decide) rfl]; exact hp1.2.2.2.2.2.1) (fun h => by exfalso; omega) ot162 (Or.inl ⟨by omega, rFa_t R3 (rFa_f Y2 U2.1.2.2.2.2.2 (yR_s (yR_r τ _) (ym8_f (fun h0 => by have h1 := (rKd_s 59 KK3 (by decide)).mpr h0; omega))) p160)⟩) on163))
        · have R3a := yR_s R2 (ym6_a ((rKd_s 58 KK2 (by decide)).mp (by omega)))
          refine ⟨yk_X9_readSupers, ym_X9_readSupers hg d (by omega), _, _, _, _, _, _, rfl, ⟨by omega, by omega⟩, p113, D2.2.1.1, D2.2.1.2.2, ⟨D2.1.1, D2.1.2.1, D2.1.2.2.1⟩, ⟨D2.1.2.2.2.2.2.1, D2.1.2.2.2.2.2.2.2.2.2.2, PR2.2.1⟩, ⟨PR2.2.2, by have h1 := D2.1; omega, by have h1 := D2.1; omega⟩, ⟨D2.2.2.2.1, Z79b⟩, (by omega), Y2, U2, (yInv_R hp5 R3a), O2.symm, TD2, ?_⟩
          intro x166 m167 qm167 kx166 lx166 p168 p169 p170 p171 p172 p173 p174 p175
          have z176 := zfx_t z121 qm167 rfl rfl
          have ot177 := zOt_t ot122 p174
          have on178 := zOn_fr on123 (qm167.1 3000075 (by decide) rfl) (qm167.1 3000081 (by decide) rfl) (qm167.1 82 (by decide) rfl)
          have NS := zNo_te NB p170
          have ES := p169.trans (EB)
          refine And.intro ⟨by omega, by omega⟩ (And.intro (fun c179 => ?_) (fun c179 => ?_))
          · have SQ := p172 (by omega)
            have BQ := zBd_old D2.2.2.1.2.1 L0 p170.1.2.2.1 p170.1.2.2.2.1 (qm167.1 83 (by decide) rfl) (qm167.1 84 (by decide) rfl)
            have D3 := zD2_te L0 L1 D2 p170 BQ ⟨SQ.1, by have h1 := SQ.2.1; have h2 := D2.1; unfold zTn at h1; omega⟩ (qm167.1 76 (by decide) rfl) (qm167.1 77 (by decide) rfl) (qm167.1 80 (by decide) rfl) SQ.2.2.2 SQ.2.2.1 (qm167.1 98 (by decide) rfl) (fun k hk => by rcases hk with h | h | h | h | h <;> subst h <;> exact qm167.2.1 _ rfl) p171.2
            have ZR3 := Int.le_trans (Int.le_of_lt (p173 (by omega))) ZR2
            have PR3 := zD2_pre hp1 D3
            obtain ⟨-, p3, B3, R3b, Y3, U3, O3, S3, TD3⟩ := Or.resolve_left p175 (fun h0 => by have h2 := h0.1; omega)
            have R3 := yR_t R3a R3b
            have E4 : B3.2 2 = B.2 2 := O3.2.trans E3
            intro x180 hx180 kx180 lx180
            have KK3 := rkd Y3 hx180.symm
            refine And.intro ⟨⟨by omega, by omega⟩, ⟨by omega, by omega⟩⟩ (And.intro (fun c181 => ?_) (fun c181 => ?_))
            · have TK9 : m167.1 66 ((32 : Nat) : Int) = 59 := by omega
              have AB : rAb m167 B3 x1 lo := rAb_old hp6 NS.1.1.1 NS.2.1 hp1.2.1.1.2.1 (fun q hq => by rw [qm167.1 80 (by decide) rfl, qm112.1 80 (by decide) rfl, qm3.1 80 (by decide) rfl]) NS.2.2 (fun e d a b => by rw [E4])
              refine ⟨yk_X9_findAbove, ym_X9_findAbove hg d (by omega), _, _, _, _, _, _, rfl, ⟨by omega, by omega⟩, ⟨D3.1.1, D3.1.2.2.1⟩, D3.2.1, D3.2.2.1, D3.2.2.2.1, PR3.2.1, PR3.1, (by rw [D3.2.2.2.2.2.1.1, D3.2.2.2.2.2.1.2]; exact ⟨hp1.2.2.2.2.2.1, hp1.2.2.2.2.2.2, hp2⟩), ((rKd_s 59 KK3 (by decide)).mp (by omega)), U3, (yInv_R hp5 R3), O3.1.symm, AB, S3, ?_⟩
              intro x182 m183 qm183 kx182 lx182 p184 p185 p186 p187 p188 p189
              have z190 := zfx_t z176 qm183 rfl rfl
              have ot191 := zOt_t ot177 p188
              have on192 := zOn_fr on178 (qm183.1 3000075 (by decide) rfl) (qm183.1 3000081 (by decide) rfl) (qm183.1 82 (by decide) rfl)
              have NF := zNo_t NS p184
              have Y4 := rLx_z Y3 qm183 rfl ⟨rfl, rfl, rfl, rfl, rfl⟩
              have F35 : m183.1 66 ((35 : Nat) : Int) = 0 := (qm183.2.1 35 rfl).trans U3.1.2.2.2.2.2
              refine And.intro ⟨by omega, by omega⟩ (And.intro (fun c193 => ?_) (fun c193 => ?_))
              · have DS1 := zD2_post hp1 D3 p184 (p185 (by omega)) p186.1 p187 (fun j a b => qm183.1 j (by omega) (zanyF (by simp <;> omega))) (fun k hk => by rcases hk with h | h | h | h | h <;> subst h <;> exact qm183.2.1 _ rfl)
                obtain ⟨-, B4, R4, U4, A4⟩ := Or.resolve_right p189 (fun h0 => by have h2 := h0.1; omega)
                have C00 : B4.1 0 0 = B3.1 0 0 := U4.1.2.2.1.symm.trans ((qm183.2.1 26 rfl).trans U3.1.2.2.1)
                have E8 := yE8_9 R4 C00
                have TD4 : rTd m183 B4 := rTd_B (rTd_old TD3 p184.2.1 NS.1.2.1 (qm183.1 78 (by decide) rfl) (qm183.1 83 (by decide) rfl) p184.2.2) C00 E8.2.2.1 (E8.2.1 4 (by decide)) (E8.2.1 6 (by decide)) E8.1.1 E8.1.2
                refine ⟨yk_X9_pass, ym_X9_pass hg d (by omega), rfl, (by have h1 : 0 ≤ m183.1 66 ((33 : Nat) : Int) ∧ 0 ≤ m183.1 66 ((34 : Nat) : Int) ∧ m183.1 66 ((33 : Nat) : Int) + m183.1 66 ((34 : Nat) : Int) ≤ m183.1 66 ((31 : Nat) : Int) ∧ m183.1 66 ((31 : Nat) : Int) ≤ m183.1 66 ((30 : Nat) : Int) ∧ m183.1 66 ((30 : Nat) : Int) ≤ 800 := (by rw [qm183.2.1 33 rfl, qm183.2.1 34 rfl, qm183.2.1 31 rfl, qm183.2.1 30 rfl]; exact p168); omega), ?_⟩
                intro m194 qm194 p195 p196 p197 p198 p199
                have z200 := zfx_t z190 qm194 rfl rfl
                have ot201 := zOt_fr ot191 (qm194.1 76 (by decide) rfl) (qm194.1 77 (by decide) rfl) (qm194.1 78 (by decide) rfl) (qm194.1 79 (by decide) rfl) (qm194.1 80 (by decide) rfl) (qm194.1 83 (by decide) rfl) (qm194.1 84 (by decide) rfl)
                have on202 := zOn_fr on192 (qm194.1 3000075 (by decide) rfl) (qm194.1 3000081 (by decide) rfl) (qm194.1 82 (by decide) rfl)
                have N203 := zNo_fr NF (fun j a b => qm194.1 j (by omega) (zanyF (by simp <;> omega))) (qm194.2.1 8 rfl)
                have DS2 := zDS_fr DS1 (fun j a b => qm194.1 j (by omega) (zanyF (by simp <;> omega))) (qm194.1 98 (by decide) rfl) (fun k hk => by rcases hk with h | h | h | h | h | h | h <;> subst h <;> exact qm194.2.1 _ rfl)
                have ZL : zrm m194 < zrm m183 := zrm_p (by rw [qm183.2.1 32 rfl, TK9]; decide) p196 p197 p198
                have ZM := zrm_q (m := m167) (m' := m183) (fun k hk => by rcases hk with h | h | h <;> subst h <;> exact qm183.2.1 _ rfl)
                have Y5 := rLx_p Y4 (qm194.1 85 (by decide) rfl) (qm194.2.1 30 rfl) p199
                have U5 := rNu_z U4 qm194 ⟨rfl, rfl, rfl, rfl, rfl, rfl⟩ ⟨rfl, rfl, rfl, rfl, rfl, rfl⟩
                have A5 := rAb_c A4 (fun j a b => qm194.1 j (by omega) (zanyF (by simp <;> omega))) (qm194.1 80 (by decide) rfl) (qm194.2.1 8 rfl)
                have TD5 := rTd_c TD4 (fun j a b => qm194.1 j (by omega) (zanyF (by simp <;> omega))) (qm194.1 78 (by decide) rfl) (qm194.1 83 (by decide) rfl) (qm194.2.1 8 rfl)
                exact And.intro (zrtb (by omega)) (And.intro ⟨by omega, by omega⟩ (hQ _ _ z200 (by omega) (by omega) p195 (p196.trans (((qm183.2.1 30 rfl).trans (ES)))) N203 (by rw [qm194.2.1 60 rfl]; have h1 := p186; rw [D3.2.2.2.2.2.1.2] at h1; exact h1) (by rw [qm194.2.1 60 rfl, qm194.1 98 (by decide) rfl]; exact p187) (fun _ => ⟨DS2, Int.lt_of_lt_of_le ZL (Int.le_trans ZM ZR3)⟩) ot201 (Or.inr ⟨rfl, _, B4, yR_t R3 R4, Y5, U5, A5, TD5⟩) on202))
              · refine ⟨yk_X9_fail, ym_X9_fail hg d (by omega), _, rfl, ⟨by omega, by omega⟩, ?_⟩
                intro x204 m205 qm205 kx204 lx204 p206
                have z207 := zfx_t z190 qm205 rfl rfl
                have ot208 := zOt_fr ot191 (qm205.1 76 (by decide) rfl) (qm205.1 77 (by decide) rfl) (qm205.1 78 (by decide) rfl) (qm205.1 79 (by decide) rfl) (qm205.1 80 (by decide) rfl) (qm205.1 83 (by decide) rfl) (qm205.1 84 (by decide) rfl)
                have on209 := zOn_fr on192 (qm205.1 3000075 (by decide) rfl) (qm205.1 3000081 (by decide) rfl) (qm205.1 82 (by decide) rfl)
                have N210 := zNo_fr NF (fun j a b => qm205.1 j (by omega) (zanyF (by simp <;> omega))) (qm205.2.1 8 rfl)
                exact And.intro (zrtb (by omega)) (And.intro ⟨by omega, by omega⟩ (hQ _ _ z207 (by omega) (by omega) (by rw [qm205.2.1 33 rfl, qm205.2.1 34 rfl, qm205.2.1 31 rfl, qm205.2.1 30 rfl]; exact (by rw [qm183.2.1 33 rfl, qm183.2.1 34 rfl, qm183.2.1 31 rfl, qm183.2.1 30 rfl]; exact p168)) ((qm205.2.1 30 rfl).trans (((qm183.2.1 30 rfl).trans (ES)))) N210 (by rw [qm205.2.1 60 rfl]; have h1 := p186; rw [D3.2.2.2.2.2.1.2] at h1; exact h1) (by rw [qm205.2.1 60 rfl, qm205.1 98 (by decide) rfl]; exact p187) (fun h => by exfalso; omega) ot208 (Or.inl ⟨by omega, by rcases p189 with h0 | h0; (exfalso; have h1 := h0.1; omega); (obtain ⟨B9, h0⟩ := h0.2; exact rFa_t R3 (rFa_f Y4 F35 h0 p206))⟩) on209))
            · refine ⟨yk_X9_fail, ym_X9_fail hg d (by omega), _, rfl, ⟨by omega, by omega⟩, ?_⟩
              intro x211 m212 qm212 kx211 lx211 p213
              have z214 := zfx_t z176 qm212 rfl rfl
              have ot215 := zOt_fr ot177 (qm212.1 76 (by decide) rfl) (qm212.1 77 (by decide) rfl) (qm212.1 78 (by decide) rfl) (qm212.1 79 (by decide) rfl) (qm212.1 80 (by decide) rfl) (qm212.1 83 (by decide) rfl) (qm212.1 84 (by decide) rfl)
              have on216 := zOn_fr on178 (qm212.1 3000075 (by decide) rfl) (qm212.1 3000081 (by decide) rfl) (qm212.1 82 (by decide) rfl)
              have N217 := zNo_fr NS (fun j a b => qm212.1 j (by omega) (zanyF (by simp <;> omega))) (qm212.2.1 8 rfl)
              have D218 := zD2_fr L0 L1 D3 (fun j a b c => qm212.1 j (by omega) (zanyF (by simp <;> omega))) (qm212.1 98 (by decide) rfl) (fun k hk => by rcases hk with h | h | h | h | h | h | h <;> subst h <;> exact qm212.2.1 _ rfl)
              exact And.intro (zrtb (by omega)) (And.intro ⟨by omega, by omega⟩ (hQ _ _ z214 (by omega) (by omega) (by rw [qm212.2.1 33 rfl, qm212.2.1 34 rfl, qm212.2.1 31 rfl, qm212.2.1 30 rfl]; exact p168) ((qm212.2.1 30 rfl).trans (ES)) N217 (by rw [qm212.2.1 60 rfl, qm167.2.1 60 rfl, qm112.2.1 60 rfl, qm3.2.1 60 rfl]; omega) (by rw [qm212.2.1 60 rfl, qm167.2.1 60 rfl, qm112.2.1 60 rfl, qm3.2.1 60 rfl, qm212.1 98 (by decide) rfl, qm167.1 98 (by decide) rfl, qm112.1 98 (by decide) rfl, qm3.1 98 (by decide) rfl]; exact hp1.2.2.2.2.2.1) (fun h => by exfalso; omega) ot215 (Or.inl ⟨by omega, rFa_t R3 (rFa_f Y3 U3.1.2.2.2.2.2 (yR_s (yR_r τ _) (ym8_f (fun h0 => by have h1 := (rKd_s 59 KK3 (by decide)).mpr h0; omega))) p213)⟩) on216))
          · exact And.intro (zrtb (by omega)) (And.intro ⟨by omega, by omega⟩ (hQ _ _ z176 (by omega) (by omega) p168 ES NS (by rw [qm167.2.1 60 rfl, qm112.2.1 60 rfl, qm3.2.1 60 rfl]; omega) (by rw [qm167.2.1 60 rfl, qm112.2.1 60 rfl, qm3.2.1 60 rfl, qm167.1 98 (by decide) rfl, qm112.1 98 (by decide) rfl, qm3.1 98 (by decide) rfl]; exact hp1.2.2.2.2.2.1) (fun h => by exfalso; omega) ot177 (Or.inl ⟨by omega, by rcases p175 with h0 | h0; exact rFa_t R3a h0.2; (exfalso; have h1 := h0.1; omega)⟩) on178))
      · exact And.intro (zrtb (by omega)) (And.intro ⟨by omega, by omega⟩ (hQ _ _ z121 (by omega) (by omega) p113 EB NB (by rw [qm112.2.1 60 rfl, qm3.2.1 60 rfl]; omega) (by rw [qm112.2.1 60 rfl, qm3.2.1 60 rfl, qm112.1 98 (by decide) rfl, qm3.1 98 (by decide) rfl]; exact hp1.2.2.2.2.2.1) (fun h => by exfalso; omega) ot122 (Or.inl ⟨by omega, by rcases p120 with h0 | h0; exact rFa_t R1b h0.2; (exfalso; have h1 := h0.1; omega)⟩) on123))
  · exact And.intro (zrtb (by omega)) (And.intro ⟨by omega, by omega⟩ (hQ _ _ z10 (by omega) (by omega) p4 p5 N13 (by rw [qm3.2.1 60 rfl]; omega) (by rw [qm3.2.1 60 rfl, qm3.1 98 (by decide) rfl]; exact hp1.2.2.2.2.2.1) (fun h => by exfalso; omega) ot11 (Or.inl ⟨by omega, by rcases p8 with h0 | h0; exact h0.2; (exfalso; have h1 := h0.1; omega)⟩) on12))
