/-! ### readDecl -/
def zk_X9_readDecl : zC := fun As μ Q => ∃ (lo : Int) (n : Int), As = [.inr (.inr (66, 66))] ∧ (0 ≤ μ.1 66 ((33 : Nat) : Int) ∧ 0 ≤ μ.1 66 ((34 : Nat) : Int) ∧ μ.1 66 ((33 : Nat) : Int) + μ.1 66 ((34 : Nat) : Int) ≤ μ.1 66 ((31 : Nat) : Int) ∧ μ.1 66 ((31 : Nat) : Int) ≤ μ.1 66 ((30 : Nat) : Int) ∧ μ.1 66 ((30 : Nat) : Int) ≤ 800) ∧ (zDS μ lo n) ∧ (μ.1 66 ((60 : Nat) : Int) ≤ 1999000000) ∧ (∀ (v : Int) (μ' : zM), zfx [67, 68, 69, 70, 71, 72, 73, 74, 76, 77, 78, 79, 80, 82, 83, 84, 97, 98, 99, 100, 101, 102, 103, 104, 3000075, 3000081] [8, 26, 27, 31, 32, 33, 34, 35, 36, 38, 60] μ μ' → 0 ≤ v → v ≤ 1 → (0 ≤ μ'.1 66 ((33 : Nat) : Int) ∧ 0 ≤ μ'.1 66 ((34 : Nat) : Int) ∧ μ'.1 66 ((33 : Nat) : Int) + μ'.1 66 ((34 : Nat) : Int) ≤ μ'.1 66 ((31 : Nat) : Int) ∧ μ'.1 66 ((31 : Nat) : Int) ≤ μ'.1 66 ((30 : Nat) : Int) ∧ μ'.1 66 ((30 : Nat) : Int) ≤ 800) → (μ'.1 66 ((30 : Nat) : Int) = μ.1 66 ((30 : Nat) : Int)) → (zNo μ μ' lo) → (μ.1 66 ((60 : Nat) : Int) ≤ μ'.1 66 ((60 : Nat) : Int) ∧ μ'.1 66 ((60 : Nat) : Int) ≤ μ.1 66 ((60 : Nat) : Int) + 200) → (∀ x : Int, 0 ≤ x → x < 20000 → μ'.1 98 x ≤ μ'.1 66 ((60 : Nat) : Int)) → (v = 1 → zDS μ' lo (n + 1) ∧ zrm μ' < zrm μ) → (zOt μ μ') → Q (some (.inl v)) μ')
set_option maxHeartbeats 2000000 in
theorem zm_X9_readDecl {g : zΓ} (hg : zg g) (d : Nat) (hd : 7 ≤ d) : zOk g d 147 zk_X9_readDecl := by
  obtain ⟨d, rfl⟩ : ∃ d', d = d' + 1 := ⟨d - 1, by omega⟩
  refine zOk_straight hg (show mt_tab[147]? = some mt_X9_readDecl from rfl) [] 54 rfl fun As μ Q hC => ?_
  obtain ⟨lo, n, rfl, hp0, hp1, hp2, hQ⟩ := hC
  refine ⟨rfl, ?_⟩
  have z0 : zfx [67, 68, 69, 70, 71, 72, 73, 74, 76, 77, 78, 79, 80, 82, 83, 84, 97, 98, 99, 100, 101, 102, 103, 104, 3000075, 3000081] [8, 26, 27, 31, 32, 33, 34, 35, 36, 38, 60] μ μ := zfx_x μ
  intro x1 hx1 kx1 lx1
  have DD := hp1.1
  have CN : x1 = n := by omega
  subst CN
  have L0 := DD.2.2.2.2.2.2.2.2.2.1
  have L1 := DD.2.2.2.1
  have N0 := zNo_r (μ := μ) hp1.2.1.1
  refine ⟨zk_X9_readHead, zm_X9_readHead hg d (by omega), _, rfl, ⟨by omega, by omega⟩, hp0, ⟨DD.1, DD.2.1, DD.2.2.1⟩, ⟨DD.2.2.2.2.2.1, DD.2.2.2.2.2.2.1⟩, ?_⟩
  intro x2 m3 qm3 kx2 lx2 p4 p5 p6 p7
  have z8 := zfx_t z0 qm3 rfl rfl
  have ot9 := zOt_t (zOt_r μ) p7
  have N10 := zNo_fr N0 (fun j a b => qm3.1 j (by omega) (zanyF (by simp <;> omega))) (qm3.2.1 8 rfl)
  refine And.intro ⟨by omega, by omega⟩ (And.intro (fun c11 => ?_) (fun c11 => ?_))
  · have H := p6 (by omega)
    have DH := zD2_head hp1 H.2.1 H.1 (fun j a b => qm3.1 j (by omega) (zanyF (by simp <;> omega))) (qm3.1 78 (by decide) rfl) (qm3.1 80 (by decide) rfl) (qm3.1 83 (by decide) rfl) (qm3.1 98 (by decide) rfl) (fun k hk => by rcases hk with h | h | h | h | h <;> subst h <;> exact qm3.2.1 _ rfl)
    have D1 := DH.1
    have Z79 := DH.2
    have ZR1 := Int.le_of_lt H.2.2
    have PR1 := zD2_pre hp1 D1
    intro x12 hx12 kx12 lx12
    refine And.intro ⟨⟨by omega, by omega⟩, ⟨by omega, by omega⟩⟩ (And.intro (fun c13 => ?_) (fun c13 => ?_))
    · intro x14 hx14 kx14 lx14
      refine And.intro ⟨⟨by omega, by omega⟩, ⟨by omega, by omega⟩⟩ (And.intro (fun c15 => ?_) (fun c15 => ?_))
      · intro x16 hx16 kx16 lx16
        refine And.intro ⟨⟨by omega, by omega⟩, ⟨by omega, by omega⟩⟩ (And.intro (fun c17 => ?_) (fun c17 => ?_))
        · have TK9 : m3.1 66 ((32 : Nat) : Int) = 59 := by omega
          refine ⟨zk_X9_findAbove, zm_X9_findAbove hg d (by omega), _, _, _, rfl, ⟨by omega, by omega⟩, ⟨D1.1.1, D1.1.2.2.1⟩, D1.2.1, D1.2.2.1, D1.2.2.2.1, PR1.2.1, PR1.1, (by rw [D1.2.2.2.2.2.1.1, D1.2.2.2.2.2.1.2]; exact ⟨hp1.2.2.2.2.2.1, hp1.2.2.2.2.2.2, hp2⟩), ?_⟩
          intro x18 m19 qm19 kx18 lx18 p20 p21 p22 p23 p24
          have z25 := zfx_t z8 qm19 rfl rfl
          have ot26 := zOt_t ot9 p24
          have NF := zNo_t N10 p20
          refine And.intro ⟨by omega, by omega⟩ (And.intro (fun c27 => ?_) (fun c27 => ?_))
          · have DS1 := zD2_post hp1 D1 p20 (p21 (by omega)) p22.1 p23 (fun j a b => qm19.1 j (by omega) (zanyF (by simp <;> omega))) (fun k hk => by rcases hk with h | h | h | h | h <;> subst h <;> exact qm19.2.1 _ rfl)
            refine ⟨zk_X9_pass, zm_X9_pass hg d (by omega), rfl, (by have h1 : 0 ≤ m19.1 66 ((33 : Nat) : Int) ∧ 0 ≤ m19.1 66 ((34 : Nat) : Int) ∧ m19.1 66 ((33 : Nat) : Int) + m19.1 66 ((34 : Nat) : Int) ≤ m19.1 66 ((31 : Nat) : Int) ∧ m19.1 66 ((31 : Nat) : Int) ≤ m19.1 66 ((30 : Nat) : Int) ∧ m19.1 66 ((30 : Nat) : Int) ≤ 800 := (by rw [qm19.2.1 33 rfl, qm19.2.1 34 rfl, qm19.2.1 31 rfl, qm19.2.1 30 rfl]; exact p4); omega), ?_⟩
            intro m28 qm28 p29 p30 p31 p32
            have z33 := zfx_t z25 qm28 rfl rfl
            have ot34 := zOt_fr ot26 (qm28.1 76 (by decide) rfl) (qm28.1 77 (by decide) rfl) (qm28.1 78 (by decide) rfl) (qm28.1 79 (by decide) rfl) (qm28.1 80 (by decide) rfl) (qm28.1 83 (by decide) rfl) (qm28.1 84 (by decide) rfl)
            have N35 := zNo_fr NF (fun j a b => qm28.1 j (by omega) (zanyF (by simp <;> omega))) (qm28.2.1 8 rfl)
            have DS2 := zDS_fr DS1 (fun j a b => qm28.1 j (by omega) (zanyF (by simp <;> omega))) (qm28.1 98 (by decide) rfl) (fun k hk => by rcases hk with h | h | h | h | h | h | h <;> subst h <;> exact qm28.2.1 _ rfl)
            have ZL : zrm m28 < zrm m19 := zrm_p (by rw [qm19.2.1 32 rfl, TK9]; decide) p30 p31 p32
            have ZM := zrm_q (m := m3) (m' := m19) (fun k hk => by rcases hk with h | h | h <;> subst h <;> exact qm19.2.1 _ rfl)
            exact And.intro (zrtb (by omega)) (And.intro ⟨by omega, by omega⟩ (hQ _ _ z33 (by omega) (by omega) p29 (p30.trans (((qm19.2.1 30 rfl).trans (p5)))) N35 (by rw [qm28.2.1 60 rfl]; have h1 := p22; rw [D1.2.2.2.2.2.1.2] at h1; exact h1) (by rw [qm28.2.1 60 rfl, qm28.1 98 (by decide) rfl]; exact p23) (fun _ => ⟨DS2, Int.lt_of_lt_of_le ZL (Int.le_trans ZM ZR1)⟩) ot34))
          · refine ⟨zk_X9_fail, zm_X9_fail hg d (by omega), _, rfl, ⟨by omega, by omega⟩, ?_⟩
            intro x36 m37 qm37 kx36 lx36
            have z38 := zfx_t z25 qm37 rfl rfl
            have ot39 := zOt_fr ot26 (qm37.1 76 (by decide) rfl) (qm37.1 77 (by decide) rfl) (qm37.1 78 (by decide) rfl) (qm37.1 79 (by decide) rfl) (qm37.1 80 (by decide) rfl) (qm37.1 83 (by decide) rfl) (qm37.1 84 (by decide) rfl)
            have N40 := zNo_fr NF (fun j a b => qm37.1 j (by omega) (zanyF (by simp <;> omega))) (qm37.2.1 8 rfl)
            exact And.intro (zrtb (by omega)) (And.intro ⟨by omega, by omega⟩ (hQ _ _ z38 (by omega) (by omega) (by rw [qm37.2.1 33 rfl, qm37.2.1 34 rfl, qm37.2.1 31 rfl, qm37.2.1 30 rfl]; exact (by rw [qm19.2.1 33 rfl, qm19.2.1 34 rfl, qm19.2.1 31 rfl, qm19.2.1 30 rfl]; exact p4)) ((qm37.2.1 30 rfl).trans (((qm19.2.1 30 rfl).trans (p5)))) N40 (by rw [qm37.2.1 60 rfl]; have h1 := p22; rw [D1.2.2.2.2.2.1.2] at h1; exact h1) (by rw [qm37.2.1 60 rfl, qm37.1 98 (by decide) rfl]; exact p23) (fun h => by exfalso; omega) ot39))
        · refine ⟨zk_X9_fail, zm_X9_fail hg d (by omega), _, rfl, ⟨by omega, by omega⟩, ?_⟩
          intro x41 m42 qm42 kx41 lx41
          have z43 := zfx_t z8 qm42 rfl rfl
          have ot44 := zOt_fr ot9 (qm42.1 76 (by decide) rfl) (qm42.1 77 (by decide) rfl) (qm42.1 78 (by decide) rfl) (qm42.1 79 (by decide) rfl) (qm42.1 80 (by decide) rfl) (qm42.1 83 (by decide) rfl) (qm42.1 84 (by decide) rfl)
          have N45 := zNo_fr N10 (fun j a b => qm42.1 j (by omega) (zanyF (by simp <;> omega))) (qm42.2.1 8 rfl)
          have D46 := zD2_fr L0 L1 D1 (fun j a b c => qm42.1 j (by omega) (zanyF (by simp <;> omega))) (qm42.1 98 (by decide) rfl) (fun k hk => by rcases hk with h | h | h | h | h | h | h <;> subst h <;> exact qm42.2.1 _ rfl)
          exact And.intro (zrtb (by omega)) (And.intro ⟨by omega, by omega⟩ (hQ _ _ z43 (by omega) (by omega) (by rw [qm42.2.1 33 rfl, qm42.2.1 34 rfl, qm42.2.1 31 rfl, qm42.2.1 30 rfl]; exact p4) ((qm42.2.1 30 rfl).trans (p5)) N45 (by rw [qm42.2.1 60 rfl, qm3.2.1 60 rfl]; omega) (by rw [qm42.2.1 60 rfl, qm3.2.1 60 rfl, qm42.1 98 (by decide) rfl, qm3.1 98 (by decide) rfl]; exact hp1.2.2.2.2.2.1) (fun h => by exfalso; omega) ot44))
      · refine ⟨zk_X9_readSupers, zm_X9_readSupers hg d (by omega), _, _, _, rfl, ⟨by omega, by omega⟩, p4, D1.2.1.1, D1.2.1.2.2, ⟨D1.1.1, D1.1.2.1, D1.1.2.2.1⟩, ⟨D1.1.2.2.2.2.2.1, D1.1.2.2.2.2.2.2.2.2.2.2, PR1.2.1⟩, ⟨PR1.2.2, by have h1 := D1.1; omega, by have h1 := D1.1; omega⟩, ⟨D1.2.2.2.1, Z79⟩, (by omega), ?_⟩
        intro x47 m48 qm48 kx47 lx47 p49 p50 p51 p52 p53 p54 p55
        have z56 := zfx_t z8 qm48 rfl rfl
        have ot57 := zOt_t ot9 p55
        have NS := zNo_te N10 p51
        have ES := p50.trans (p5)
        refine And.intro ⟨by omega, by omega⟩ (And.intro (fun c58 => ?_) (fun c58 => ?_))
        · have SQ := p53 (by omega)
          have BQ := zBd_old D1.2.2.1.2.1 L0 p51.1.2.2.1 p51.1.2.2.2.1 (qm48.1 83 (by decide) rfl) (qm48.1 84 (by decide) rfl)
          have D3 := zD2_te L0 L1 D1 p51 BQ ⟨SQ.1, by have h1 := SQ.2.1; have h2 := D1.1; unfold zTn at h1; omega⟩ (qm48.1 76 (by decide) rfl) (qm48.1 77 (by decide) rfl) (qm48.1 80 (by decide) rfl) SQ.2.2.2 SQ.2.2.1 (qm48.1 98 (by decide) rfl) (fun k hk => by rcases hk with h | h | h | h | h <;> subst h <;> exact qm48.2.1 _ rfl) p52.2
          have ZR3 := Int.le_trans (Int.le_of_lt (p54 (by omega))) ZR1
          have PR3 := zD2_pre hp1 D3
          intro x59 hx59 kx59 lx59
          refine And.intro ⟨⟨by omega, by omega⟩, ⟨by omega, by omega⟩⟩ (And.intro (fun c60 => ?_) (fun c60 => ?_))
          · have TK9 : m48.1 66 ((32 : Nat) : Int) = 59 := by omega
            refine ⟨zk_X9_findAbove, zm_X9_findAbove hg d (by omega), _, _, _, rfl, ⟨by omega, by omega⟩, ⟨D3.1.1, D3.1.2.2.1⟩, D3.2.1, D3.2.2.1, D3.2.2.2.1, PR3.2.1, PR3.1, (by rw [D3.2.2.2.2.2.1.1, D3.2.2.2.2.2.1.2]; exact ⟨hp1.2.2.2.2.2.1, hp1.2.2.2.2.2.2, hp2⟩), ?_⟩
            intro x61 m62 qm62 kx61 lx61 p63 p64 p65 p66 p67
            have z68 := zfx_t z56 qm62 rfl rfl
            have ot69 := zOt_t ot57 p67
            have NF := zNo_t NS p63
            refine And.intro ⟨by omega, by omega⟩ (And.intro (fun c70 => ?_) (fun c70 => ?_))
            · have DS1 := zD2_post hp1 D3 p63 (p64 (by omega)) p65.1 p66 (fun j a b => qm62.1 j (by omega) (zanyF (by simp <;> omega))) (fun k hk => by rcases hk with h | h | h | h | h <;> subst h <;> exact qm62.2.1 _ rfl)
              refine ⟨zk_X9_pass, zm_X9_pass hg d (by omega), rfl, (by have h1 : 0 ≤ m62.1 66 ((33 : Nat) : Int) ∧ 0 ≤ m62.1 66 ((34 : Nat) : Int) ∧ m62.1 66 ((33 : Nat) : Int) + m62.1 66 ((34 : Nat) : Int) ≤ m62.1 66 ((31 : Nat) : Int) ∧ m62.1 66 ((31 : Nat) : Int) ≤ m62.1 66 ((30 : Nat) : Int) ∧ m62.1 66 ((30 : Nat) : Int) ≤ 800 := (by rw [qm62.2.1 33 rfl, qm62.2.1 34 rfl, qm62.2.1 31 rfl, qm62.2.1 30 rfl]; exact p49); omega), ?_⟩
              intro m71 qm71 p72 p73 p74 p75
              have z76 := zfx_t z68 qm71 rfl rfl
              have ot77 := zOt_fr ot69 (qm71.1 76 (by decide) rfl) (qm71.1 77 (by decide) rfl) (qm71.1 78 (by decide) rfl) (qm71.1 79 (by decide) rfl) (qm71.1 80 (by decide) rfl) (qm71.1 83 (by decide) rfl) (qm71.1 84 (by decide) rfl)
              have N78 := zNo_fr NF (fun j a b => qm71.1 j (by omega) (zanyF (by simp <;> omega))) (qm71.2.1 8 rfl)
              have DS2 := zDS_fr DS1 (fun j a b => qm71.1 j (by omega) (zanyF (by simp <;> omega))) (qm71.1 98 (by decide) rfl) (fun k hk => by rcases hk with h | h | h | h | h | h | h <;> subst h <;> exact qm71.2.1 _ rfl)
              have ZL : zrm m71 < zrm m62 := zrm_p (by rw [qm62.2.1 32 rfl, TK9]; decide) p73 p74 p75
              have ZM := zrm_q (m := m48) (m' := m62) (fun k hk => by rcases hk with h | h | h <;> subst h <;> exact qm62.2.1 _ rfl)
              exact And.intro (zrtb (by omega)) (And.intro ⟨by omega, by omega⟩ (hQ _ _ z76 (by omega) (by omega) p72 (p73.trans (((qm62.2.1 30 rfl).trans (ES)))) N78 (by rw [qm71.2.1 60 rfl]; have h1 := p65; rw [D3.2.2.2.2.2.1.2] at h1; exact h1) (by rw [qm71.2.1 60 rfl, qm71.1 98 (by decide) rfl]; exact p66) (fun _ => ⟨DS2, Int.lt_of_lt_of_le ZL (Int.le_trans ZM ZR3)⟩) ot77))
            · refine ⟨zk_X9_fail, zm_X9_fail hg d (by omega), _, rfl, ⟨by omega, by omega⟩, ?_⟩
              intro x79 m80 qm80 kx79 lx79
              have z81 := zfx_t z68 qm80 rfl rfl
              have ot82 := zOt_fr ot69 (qm80.1 76 (by decide) rfl) (qm80.1 77 (by decide) rfl) (qm80.1 78 (by decide) rfl) (qm80.1 79 (by decide) rfl) (qm80.1 80 (by decide) rfl) (qm80.1 83 (by decide) rfl) (qm80.1 84 (by decide) rfl)
              have N83 := zNo_fr NF (fun j a b => qm80.1 j (by omega) (zanyF (by simp <;> omega))) (qm80.2.1 8 rfl)
              exact And.intro (zrtb (by omega)) (And.intro ⟨by omega, by omega⟩ (hQ _ _ z81 (by omega) (by omega) (by rw [qm80.2.1 33 rfl, qm80.2.1 34 rfl, qm80.2.1 31 rfl, qm80.2.1 30 rfl]; exact (by rw [qm62.2.1 33 rfl, qm62.2.1 34 rfl, qm62.2.1 31 rfl, qm62.2.1 30 rfl]; exact p49)) ((qm80.2.1 30 rfl).trans (((qm62.2.1 30 rfl).trans (ES)))) N83 (by rw [qm80.2.1 60 rfl]; have h1 := p65; rw [D3.2.2.2.2.2.1.2] at h1; exact h1) (by rw [qm80.2.1 60 rfl, qm80.1 98 (by decide) rfl]; exact p66) (fun h => by exfalso; omega) ot82))
          · refine ⟨zk_X9_fail, zm_X9_fail hg d (by omega), _, rfl, ⟨by omega, by omega⟩, ?_⟩
            intro x84 m85 qm85 kx84 lx84
            have z86 := zfx_t z56 qm85 rfl rfl
            have ot87 := zOt_fr ot57 (qm85.1 76 (by decide) rfl) (qm85.1 77 (by decide) rfl) (qm85.1 78 (by decide) rfl) (qm85.1 79 (by decide) rfl) (qm85.1 80 (by decide) rfl) (qm85.1 83 (by decide) rfl) (qm85.1 84 (by decide) rfl)
            have N88 := zNo_fr NS (fun j a b => qm85.1 j (by omega) (zanyF (by simp <;> omega))) (qm85.2.1 8 rfl)
            have D89 := zD2_fr L0 L1 D3 (fun j a b c => qm85.1 j (by omega) (zanyF (by simp <;> omega))) (qm85.1 98 (by decide) rfl) (fun k hk => by rcases hk with h | h | h | h | h | h | h <;> subst h <;> exact qm85.2.1 _ rfl)
            exact And.intro (zrtb (by omega)) (And.intro ⟨by omega, by omega⟩ (hQ _ _ z86 (by omega) (by omega) (by rw [qm85.2.1 33 rfl, qm85.2.1 34 rfl, qm85.2.1 31 rfl, qm85.2.1 30 rfl]; exact p49) ((qm85.2.1 30 rfl).trans (ES)) N88 (by rw [qm85.2.1 60 rfl, qm48.2.1 60 rfl, qm3.2.1 60 rfl]; omega) (by rw [qm85.2.1 60 rfl, qm48.2.1 60 rfl, qm3.2.1 60 rfl, qm85.1 98 (by decide) rfl, qm48.1 98 (by decide) rfl, qm3.1 98 (by decide) rfl]; exact hp1.2.2.2.2.2.1) (fun h => by exfalso; omega) ot87))
        · exact And.intro (zrtb (by omega)) (And.intro ⟨by omega, by omega⟩ (hQ _ _ z56 (by omega) (by omega) p49 ES NS (by rw [qm48.2.1 60 rfl, qm3.2.1 60 rfl]; omega) (by rw [qm48.2.1 60 rfl, qm3.2.1 60 rfl, qm48.1 98 (by decide) rfl, qm3.1 98 (by decide) rfl]; exact hp1.2.2.2.2.2.1) (fun h => by exfalso; omega) ot57))
    · refine ⟨zk_X9_readBounds, zm_X9_readBounds hg d (by omega), _, _, _, rfl, ⟨by omega, by omega⟩, p4, D1.2.1.1, D1.2.1.2.2, ⟨D1.1.1, D1.1.2.1, D1.1.2.2.1⟩, ⟨D1.1.2.2.2.2.2.1, D1.1.2.2.2.2.2.2.2.2.2.2, PR1.2.1⟩, ⟨PR1.2.2, by have h1 := D1.1; omega, by have h1 := D1.1; omega⟩, D1.2.2.1.2.1, (by omega), ?_⟩
      intro x90 m91 qm91 kx90 lx90 p92 p93 p94 p95 p96 p97 p98
      have z99 := zfx_t z8 qm91 rfl rfl
      have ot100 := zOt_t ot9 p98
      have NB := zNo_te N10 p94
      have EB := p93.trans (p5)
      refine And.intro ⟨by omega, by omega⟩ (And.intro (fun c101 => ?_) (fun c101 => ?_))
      · have SP := zSp_old (zSp_r D1.2.2.2.1 Z79) L0 D1.2.1.1.2.1 p94.1.2.2.1 p94.1.2.2.2.1 (fun j a b => qm91.1 j (by omega) (zanyF (by simp <;> omega))) (by have := p94.2.2; unfold zTn at this; omega)
        have D2 := zD2_te L0 L1 D1 p94 (p96 (by omega)) ⟨SP.1, by have h1 := SP.2.1; have h2 := D1.1; unfold zTn at h1; omega⟩ (qm91.1 76 (by decide) rfl) (qm91.1 77 (by decide) rfl) (qm91.1 80 (by decide) rfl) (fun q _ => by rw [qm91.1 78 (by decide) rfl]) (fun q _ => by rw [qm91.1 79 (by decide) rfl]) (qm91.1 98 (by decide) rfl) (fun k hk => by rcases hk with h | h | h | h | h <;> subst h <;> exact qm91.2.1 _ rfl) p95.2
        have Z79b : m91.1 79 (21 + x1) = 0 := by rw [qm91.1 79 (by decide) rfl]; exact Z79
        have ZR2 := Int.le_trans (Int.le_of_lt (p97 (by omega))) ZR1
        have PR2 := zD2_pre hp1 D2
        intro x102 hx102 kx102 lx102
        refine And.intro ⟨⟨by omega, by omega⟩, ⟨by omega, by omega⟩⟩ (And.intro (fun c103 => ?_) (fun c103 => ?_))
        · intro x104 hx104 kx104 lx104
          refine And.intro ⟨⟨by omega, by omega⟩, ⟨by omega, by omega⟩⟩ (And.intro (fun c105 => ?_) (fun c105 => ?_))
          · have TK9 : m91.1 66 ((32 : Nat) : Int) = 59 := by omega
            refine ⟨zk_X9_findAbove, zm_X9_findAbove hg d (by omega), _, _, _, rfl, ⟨by omega, by omega⟩, ⟨D2.1.1, D2.1.2.2.1⟩, D2.2.1, D2.2.2.1, D2.2.2.2.1, PR2.2.1, PR2.1, (by rw [D2.2.2.2.2.2.1.1, D2.2.2.2.2.2.1.2]; exact ⟨hp1.2.2.2.2.2.1, hp1.2.2.2.2.2.2, hp2⟩), ?_⟩
            intro x106 m107 qm107 kx106 lx106 p108 p109 p110 p111 p112
            have z113 := zfx_t z99 qm107 rfl rfl
            have ot114 := zOt_t ot100 p112
            have NF := zNo_t NB p108
            refine And.intro ⟨by omega, by omega⟩ (And.intro (fun c115 => ?_) (fun c115 => ?_))
            · have DS1 := zD2_post hp1 D2 p108 (p109 (by omega)) p110.1 p111 (fun j a b => qm107.1 j (by omega) (zanyF (by simp <;> omega))) (fun k hk => by rcases hk with h | h | h | h | h <;> subst h <;> exact qm107.2.1 _ rfl)
              refine ⟨zk_X9_pass, zm_X9_pass hg d (by omega), rfl, (by have h1 : 0 ≤ m107.1 66 ((33 : Nat) : Int) ∧ 0 ≤ m107.1 66 ((34 : Nat) : Int) ∧ m107.1 66 ((33 : Nat) : Int) + m107.1 66 ((34 : Nat) : Int) ≤ m107.1 66 ((31 : Nat) : Int) ∧ m107.1 66 ((31 : Nat) : Int) ≤ m107.1 66 ((30 : Nat) : Int) ∧ m107.1 66 ((30 : Nat) : Int) ≤ 800 := (by rw [qm107.2.1 33 rfl, qm107.2.1 34 rfl, qm107.2.1 31 rfl, qm107.2.1 30 rfl]; exact p92); omega), ?_⟩
              intro m116 qm116 p117 p118 p119 p120
              have z121 := zfx_t z113 qm116 rfl rfl
              have ot122 := zOt_fr ot114 (qm116.1 76 (by decide) rfl) (qm116.1 77 (by decide) rfl) (qm116.1 78 (by decide) rfl) (qm116.1 79 (by decide) rfl) (qm116.1 80 (by decide) rfl) (qm116.1 83 (by decide) rfl) (qm116.1 84 (by decide) rfl)
              have N123 := zNo_fr NF (fun j a b => qm116.1 j (by omega) (zanyF (by simp <;> omega))) (qm116.2.1 8 rfl)
              have DS2 := zDS_fr DS1 (fun j a b => qm116.1 j (by omega) (zanyF (by simp <;> omega))) (qm116.1 98 (by decide) rfl) (fun k hk => by rcases hk with h | h | h | h | h | h | h <;> subst h <;> exact qm116.2.1 _ rfl)
              have ZL : zrm m116 < zrm m107 := zrm_p (by rw [qm107.2.1 32 rfl, TK9]; decide) p118 p119 p120
              have ZM := zrm_q (m := m91) (m' := m107) (fun k hk => by rcases hk with h | h | h <;> subst h <;> exact qm107.2.1 _ rfl)
              exact And.intro (zrtb (by omega)) (And.intro ⟨by omega, by omega⟩ (hQ _ _ z121 (by omega) (by omega) p117 (p118.trans (((qm107.2.1 30 rfl).trans (EB)))) N123 (by rw [qm116.2.1 60 rfl]; have h1 := p110; rw [D2.2.2.2.2.2.1.2] at h1; exact h1) (by rw [qm116.2.1 60 rfl, qm116.1 98 (by decide) rfl]; exact p111) (fun _ => ⟨DS2, Int.lt_of_lt_of_le ZL (Int.le_trans ZM ZR2)⟩) ot122))
            · refine ⟨zk_X9_fail, zm_X9_fail hg d (by omega), _, rfl, ⟨by omega, by omega⟩, ?_⟩
              intro x124 m125 qm125 kx124 lx124
              have z126 := zfx_t z113 qm125 rfl rfl
              have ot127 := zOt_fr ot114 (qm125.1 76 (by decide) rfl) (qm125.1 77 (by decide) rfl) (qm125.1 78 (by decide) rfl) (qm125.1 79 (by decide) rfl) (qm125.1 80 (by decide) rfl) (qm125.1 83 (by decide) rfl) (qm125.1 84 (by decide) rfl)
              have N128 := zNo_fr NF (fun j a b => qm125.1 j (by omega) (zanyF (by simp <;> omega))) (qm125.2.1 8 rfl)
              exact And.intro (zrtb (by omega)) (And.intro ⟨by omega, by omega⟩ (hQ _ _ z126 (by omega) (by omega) (by rw [qm125.2.1 33 rfl, qm125.2.1 34 rfl, qm125.2.1 31 rfl, qm125.2.1 30 rfl]; exact (by rw [qm107.2.1 33 rfl, qm107.2.1 34 rfl, qm107.2.1 31 rfl, qm107.2.1 30 rfl]; exact p92)) ((qm125.2.1 30 rfl).trans (((qm107.2.1 30 rfl).trans (EB)))) N128 (by rw [qm125.2.1 60 rfl]; have h1 := p110; rw [D2.2.2.2.2.2.1.2] at h1; exact h1) (by rw [qm125.2.1 60 rfl, qm125.1 98 (by decide) rfl]; exact p111) (fun h => by exfalso; omega) ot127))
          · refine ⟨zk_X9_fail, zm_X9_fail hg d (by omega), _, rfl, ⟨by omega, by omega⟩, ?_⟩
            intro x129 m130 qm130 kx129 lx129
            have z131 := zfx_t z99 qm130 rfl rfl
            have ot132 := zOt_fr ot100 (qm130.1 76 (by decide) rfl) (qm130.1 77 (by decide) rfl) (qm130.1 78 (by decide) rfl) (qm130.1 79 (by decide) rfl) (qm130.1 80 (by decide) rfl) (qm130.1 83 (by decide) rfl) (qm130.1 84 (by decide) rfl)
            have N133 := zNo_fr NB (fun j a b => qm130.1 j (by omega) (zanyF (by simp <;> omega))) (qm130.2.1 8 rfl)
            have D134 := zD2_fr L0 L1 D2 (fun j a b c => qm130.1 j (by omega) (zanyF (by simp <;> omega))) (qm130.1 98 (by decide) rfl) (fun k hk => by rcases hk with h | h | h | h | h | h | h <;> subst h <;> exact qm130.2.1 _ rfl)
            exact And.intro (zrtb (by omega)) (And.intro ⟨by omega, by omega⟩ (hQ _ _ z131 (by omega) (by omega) (by rw [qm130.2.1 33 rfl, qm130.2.1 34 rfl, qm130.2.1 31 rfl, qm130.2.1 30 rfl]; exact p92) ((qm130.2.1 30 rfl).trans (EB)) N133 (by rw [qm130.2.1 60 rfl, qm91.2.1 60 rfl, qm3.2.1 60 rfl]; omega) (by rw [qm130.2.1 60 rfl, qm91.2.1 60 rfl, qm3.2.1 60 rfl, qm130.1 98 (by decide) rfl, qm91.1 98 (by decide) rfl, qm3.1 98 (by decide) rfl]; exact hp1.2.2.2.2.2.1) (fun h => by exfalso; omega) ot132))
        · refine ⟨zk_X9_readSupers, zm_X9_readSupers hg d (by omega), _, _, _, rfl, ⟨by omega, by omega⟩, p92, D2.2.1.1, D2.2.1.2.2, ⟨D2.1.1, D2.1.2.1, D2.1.2.2.1⟩, ⟨D2.1.2.2.2.2.2.1, D2.1.2.2.2.2.2.2.2.2.2.2, PR2.2.1⟩, ⟨PR2.2.2, by have h1 := D2.1; omega, by have h1 := D2.1; omega⟩, ⟨D2.2.2.2.1, Z79b⟩, (by omega), ?_⟩
          intro x135 m136 qm136 kx135 lx135 p137 p138 p139 p140 p141 p142 p143
          have z144 := zfx_t z99 qm136 rfl rfl
          have ot145 := zOt_t ot100 p143
          have NS := zNo_te NB p139
          have ES := p138.trans (EB)
          refine And.intro ⟨by omega, by omega⟩ (And.intro (fun c146 => ?_) (fun c146 => ?_))
          · have SQ := p141 (by omega)
            have BQ := zBd_old D2.2.2.1.2.1 L0 p139.1.2.2.1 p139.1.2.2.2.1 (qm136.1 83 (by decide) rfl) (qm136.1 84 (by decide) rfl)
            have D3 := zD2_te L0 L1 D2 p139 BQ ⟨SQ.1, by have h1 := SQ.2.1; have h2 := D2.1; unfold zTn at h1; omega⟩ (qm136.1 76 (by decide) rfl) (qm136.1 77 (by decide) rfl) (qm136.1 80 (by decide) rfl) SQ.2.2.2 SQ.2.2.1 (qm136.1 98 (by decide) rfl) (fun k hk => by rcases hk with h | h | h | h | h <;> subst h <;> exact qm136.2.1 _ rfl) p140.2
            have ZR3 := Int.le_trans (Int.le_of_lt (p142 (by omega))) ZR2
            have PR3 := zD2_pre hp1 D3
            intro x147 hx147 kx147 lx147
            refine And.intro ⟨⟨by omega, by omega⟩, ⟨by omega, by omega⟩⟩ (And.intro (fun c148 => ?_) (fun c148 => ?_))
            · have TK9 : m136.1 66 ((32 : Nat) : Int) = 59 := by omega
              refine ⟨zk_X9_findAbove, zm_X9_findAbove hg d (by omega), _, _, _, rfl, ⟨by omega, by omega⟩, ⟨D3.1.1, D3.1.2.2.1⟩, D3.2.1, D3.2.2.1, D3.2.2.2.1, PR3.2.1, PR3.1, (by rw [D3.2.2.2.2.2.1.1, D3.2.2.2.2.2.1.2]; exact ⟨hp1.2.2.2.2.2.1, hp1.2.2.2.2.2.2, hp2⟩), ?_⟩
              intro x149 m150 qm150 kx149 lx149 p151 p152 p153 p154 p155
              have z156 := zfx_t z144 qm150 rfl rfl
              have ot157 := zOt_t ot145 p155
              have NF := zNo_t NS p151
              refine And.intro ⟨by omega, by omega⟩ (And.intro (fun c158 => ?_) (fun c158 => ?_))
              · have DS1 := zD2_post hp1 D3 p151 (p152 (by omega)) p153.1 p154 (fun j a b => qm150.1 j (by omega) (zanyF (by simp <;> omega))) (fun k hk => by rcases hk with h | h | h | h | h <;> subst h <;> exact qm150.2.1 _ rfl)
                refine ⟨zk_X9_pass, zm_X9_pass hg d (by omega), rfl, (by have h1 : 0 ≤ m150.1 66 ((33 : Nat) : Int) ∧ 0 ≤ m150.1 66 ((34 : Nat) : Int) ∧ m150.1 66 ((33 : Nat) : Int) + m150.1 66 ((34 : Nat) : Int) ≤ m150.1 66 ((31 : Nat) : Int) ∧ m150.1 66 ((31 : Nat) : Int) ≤ m150.1 66 ((30 : Nat) : Int) ∧ m150.1 66 ((30 : Nat) : Int) ≤ 800 := (by rw [qm150.2.1 33 rfl, qm150.2.1 34 rfl, qm150.2.1 31 rfl, qm150.2.1 30 rfl]; exact p137); omega), ?_⟩
                intro m159 qm159 p160 p161 p162 p163
                have z164 := zfx_t z156 qm159 rfl rfl
                have ot165 := zOt_fr ot157 (qm159.1 76 (by decide) rfl) (qm159.1 77 (by decide) rfl) (qm159.1 78 (by decide) rfl) (qm159.1 79 (by decide) rfl) (qm159.1 80 (by decide) rfl) (qm159.1 83 (by decide) rfl) (qm159.1 84 (by decide) rfl)
                have N166 := zNo_fr NF (fun j a b => qm159.1 j (by omega) (zanyF (by simp <;> omega))) (qm159.2.1 8 rfl)
                have DS2 := zDS_fr DS1 (fun j a b => qm159.1 j (by omega) (zanyF (by simp <;> omega))) (qm159.1 98 (by decide) rfl) (fun k hk => by rcases hk with h | h | h | h | h | h | h <;> subst h <;> exact qm159.2.1 _ rfl)
                have ZL : zrm m159 < zrm m150 := zrm_p (by rw [qm150.2.1 32 rfl, TK9]; decide) p161 p162 p163
                have ZM := zrm_q (m := m136) (m' := m150) (fun k hk => by rcases hk with h | h | h <;> subst h <;> exact qm150.2.1 _ rfl)
                exact And.intro (zrtb (by omega)) (And.intro ⟨by omega, by omega⟩ (hQ _ _ z164 (by omega) (by omega) p160 (p161.trans (((qm150.2.1 30 rfl).trans (ES)))) N166 (by rw [qm159.2.1 60 rfl]; have h1 := p153; rw [D3.2.2.2.2.2.1.2] at h1; exact h1) (by rw [qm159.2.1 60 rfl, qm159.1 98 (by decide) rfl]; exact p154) (fun _ => ⟨DS2, Int.lt_of_lt_of_le ZL (Int.le_trans ZM ZR3)⟩) ot165))
              · refine ⟨zk_X9_fail, zm_X9_fail hg d (by omega), _, rfl, ⟨by omega, by omega⟩, ?_⟩
                intro x167 m168 qm168 kx167 lx167
                have z169 := zfx_t z156 qm168 rfl rfl
                have ot170 := zOt_fr ot157 (qm168.1 76 (by decide) rfl) (qm168.1 77 (by decide) rfl) (qm168.1 78 (by decide) rfl) (qm168.1 79 (by decide) rfl) (qm168.1 80 (by decide) rfl) (qm168.1 83 (by decide) rfl) (qm168.1 84 (by decide) rfl)
                have N171 := zNo_fr NF (fun j a b => qm168.1 j (by omega) (zanyF (by simp <;> omega))) (qm168.2.1 8 rfl)
                exact And.intro (zrtb (by omega)) (And.intro ⟨by omega, by omega⟩ (hQ _ _ z169 (by omega) (by omega) (by rw [qm168.2.1 33 rfl, qm168.2.1 34 rfl, qm168.2.1 31 rfl, qm168.2.1 30 rfl]; exact (by rw [qm150.2.1 33 rfl, qm150.2.1 34 rfl, qm150.2.1 31 rfl, qm150.2.1 30 rfl]; exact p137)) ((qm168.2.1 30 rfl).trans (((qm150.2.1 30 rfl).trans (ES)))) N171 (by rw [qm168.2.1 60 rfl]; have h1 := p153; rw [D3.2.2.2.2.2.1.2] at h1; exact h1) (by rw [qm168.2.1 60 rfl, qm168.1 98 (by decide) rfl]; exact p154) (fun h => by exfalso; omega) ot170))
            · refine ⟨zk_X9_fail, zm_X9_fail hg d (by omega), _, rfl, ⟨by omega, by omega⟩, ?_⟩
              intro x172 m173 qm173 kx172 lx172
              have z174 := zfx_t z144 qm173 rfl rfl
              have ot175 := zOt_fr ot145 (qm173.1 76 (by decide) rfl) (qm173.1 77 (by decide) rfl) (qm173.1 78 (by decide) rfl) (qm173.1 79 (by decide) rfl) (qm173.1 80 (by decide) rfl) (qm173.1 83 (by decide) rfl) (qm173.1 84 (by decide) rfl)
              have N176 := zNo_fr NS (fun j a b => qm173.1 j (by omega) (zanyF (by simp <;> omega))) (qm173.2.1 8 rfl)
              have D177 := zD2_fr L0 L1 D3 (fun j a b c => qm173.1 j (by omega) (zanyF (by simp <;> omega))) (qm173.1 98 (by decide) rfl) (fun k hk => by rcases hk with h | h | h | h | h | h | h <;> subst h <;> exact qm173.2.1 _ rfl)
              exact And.intro (zrtb (by omega)) (And.intro ⟨by omega, by omega⟩ (hQ _ _ z174 (by omega) (by omega) (by rw [qm173.2.1 33 rfl, qm173.2.1 34 rfl, qm173.2.1 31 rfl, qm173.2.1 30 rfl]; exact p137) ((qm173.2.1 30 rfl).trans (ES)) N176 (by rw [qm173.2.1 60 rfl, qm136.2.1 60 rfl, qm91.2.1 60 rfl, qm3.2.1 60 rfl]; omega) (by rw [qm173.2.1 60 rfl, qm136.2.1 60 rfl, qm91.2.1 60 rfl, qm3.2.1 60 rfl, qm173.1 98 (by decide) rfl, qm136.1 98 (by decide) rfl, qm91.1 98 (by decide) rfl, qm3.1 98 (by decide) rfl]; exact hp1.2.2.2.2.2.1) (fun h => by exfalso; omega) ot175))
          · exact And.intro (zrtb (by omega)) (And.intro ⟨by omega, by omega⟩ (hQ _ _ z144 (by omega) (by omega) p137 ES NS (by rw [qm136.2.1 60 rfl, qm91.2.1 60 rfl, qm3.2.1 60 rfl]; omega) (by rw [qm136.2.1 60 rfl, qm91.2.1 60 rfl, qm3.2.1 60 rfl, qm136.1 98 (by decide) rfl, qm91.1 98 (by decide) rfl, qm3.1 98 (by decide) rfl]; exact hp1.2.2.2.2.2.1) (fun h => by exfalso; omega) ot145))
      · exact And.intro (zrtb (by omega)) (And.intro ⟨by omega, by omega⟩ (hQ _ _ z99 (by omega) (by omega) p92 EB NB (by rw [qm91.2.1 60 rfl, qm3.2.1 60 rfl]; omega) (by rw [qm91.2.1 60 rfl, qm3.2.1 60 rfl, qm91.1 98 (by decide) rfl, qm3.1 98 (by decide) rfl]; exact hp1.2.2.2.2.2.1) (fun h => by exfalso; omega) ot100))
  · exact And.intro (zrtb (by omega)) (And.intro ⟨by omega, by omega⟩ (hQ _ _ z8 (by omega) (by omega) p4 p5 N10 (by rw [qm3.2.1 60 rfl]; omega) (by rw [qm3.2.1 60 rfl, qm3.1 98 (by decide) rfl]; exact hp1.2.2.2.2.2.1) (fun h => by exfalso; omega) ot9))
