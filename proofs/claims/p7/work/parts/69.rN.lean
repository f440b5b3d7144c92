/-! ### variable ask above -/
def zk_X9_variable : zC := fun As μ Q => ∃ (a1 : Int) (a2 : Int) (K : Int), As = [.inr (.inr (66, 66)), .inl a1, .inl a2] ∧ ((-2147483648) ≤ a1 ∧ a1 ≤ 2147483647) ∧ ((-2147483648) ≤ a2 ∧ a2 ≤ 2147483647) ∧ (zRI μ K) ∧ (∀ (v : Int) (μ' : zM), zfx [96, 99, 106] [54, 56] μ μ' → (-2147483648) ≤ v → v ≤ 2147483647 → (zRI μ' K) → Q (some (.inl v)) μ')
set_option maxHeartbeats 2000000 in
theorem zm_X9_variable {g : zΓ} (hg : zg g) (d : Nat) (hd : 5 ≤ d) : zOk g d 178 zk_X9_variable := by
  obtain ⟨d, rfl⟩ : ∃ d', d = d' + 1 := ⟨d - 1, by omega⟩
  refine zOk_straight hg (show mt_tab[178]? = some mt_X9_variable from rfl) [] 61 rfl fun As μ Q hC => ?_
  obtain ⟨a1, a2, K, rfl, ha1, ha2, hp0, hQ⟩ := hC
  obtain ⟨g1, wg1⟩ : ∃ z : Int, μ.1 66 ((54 : Nat) : Int) = z := ⟨_, rfl⟩
  obtain ⟨g2, wg2⟩ : ∃ z : Int, μ.1 66 ((45 : Nat) : Int) = z := ⟨_, rfl⟩
  refine ⟨rfl, ?_⟩
  have z0 : zfx [96, 99, 106] [54, 56] μ μ := zfx_x μ
  refine And.intro ⟨by omega, by omega⟩ (And.intro (fun c3 => ?_) (fun c3 => ?_))
  · refine And.intro ⟨by omega, by omega⟩ ?_
    intro m4 em4
    have z5 := zfx_f z0 em4 rfl
    have w6 : m4.1 66 ((54 : Nat) : Int) = 1 := by rw [em4]; exact zu_at
    have w7 : m4.1 66 ((45 : Nat) : Int) = g2 := by rw [em4]; exact (zu_nk (by decide)).trans wg2
    have R1 := zRI_1 hp0 em4
    intro x8 hx8 kx8 lx8
    rw [w6] at hx8
    refine And.intro ⟨by omega, by omega⟩ (And.intro (fun c9 => ?_) (fun c9 => ?_))
    · exfalso; omega
    · exact And.intro trivial (And.intro ⟨by omega, by omega⟩ (hQ _ _ z5 (by omega) (by omega) (zRI_z hp0 z5 rfl rfl)))
  · intro x10 hx10 kx10 lx10
    rw [wg2] at hx10
    refine And.intro ⟨⟨by omega, by omega⟩, ⟨by omega, by omega⟩⟩ (And.intro (fun c11 => ?_) (fun c11 => ?_))
    · refine And.intro ⟨by omega, by omega⟩ ?_
      intro m12 em12
      have z13 := zfx_f z0 em12 rfl
      have w14 : m12.1 66 ((54 : Nat) : Int) = 0 := by rw [em12]; exact zu_at
      have w15 : m12.1 66 ((45 : Nat) : Int) = g2 := by rw [em12]; exact (zu_nk (by decide)).trans wg2
      have R1 := zRI_1 hp0 em12
      intro x16 hx16 kx16 lx16
      rw [w14] at hx16
      refine And.intro ⟨by omega, by omega⟩ (And.intro (fun c17 => ?_) (fun c17 => ?_))
      · refine And.intro ⟨⟨by omega, by omega⟩, ⟨by omega, by omega⟩⟩ (And.intro (fun c18 => ?_) (fun c18 => ?_))
        · clear c18
          refine And.intro ⟨by omega, by omega⟩ (And.intro (fun c19 => ?_) (fun c19 => ?_))
          · exact And.intro trivial (And.intro ⟨by omega, by omega⟩ (hQ _ _ z13 (by omega) (by omega) (zRI_z hp0 z13 rfl rfl)))
          · refine And.intro ⟨by omega, by omega⟩ ?_
            intro x20 hx20 kx20 lx20
            refine And.intro ⟨⟨by omega, by omega⟩, ⟨by omega, by omega⟩⟩ (And.intro (fun c21 => ?_) (fun c21 => ?_))
            · exact And.intro trivial (And.intro ⟨by omega, by omega⟩ (hQ _ _ z13 (by omega) (by omega) (zRI_z hp0 z13 rfl rfl)))
            · refine And.intro ⟨by omega, by omega⟩ ?_
              intro x22 hx22 kx22 lx22
              refine ⟨zk_X9_write, zm_X9_write hg d (by omega), _, rfl, ⟨by omega, by omega⟩, R1.1.1.1.2.1, (by have h1 := (R1.1.1.2.2.2.2.2.1 a1 (by omega) (by omega)).2.1 a2 (by omega) (by omega); rw [show 3 * a1 + a2 = ((3 * a1) + a2) by omega, ← hx22] at h1; exact h1.1.2), ?_⟩
              intro m23 qm23
              have z24 := zfx_t z13 qm23 rfl rfl
              have w25 : m23.1 66 ((54 : Nat) : Int) = 0 := (qm23.2.1 54 rfl).trans w14
              have w26 : m23.1 66 ((45 : Nat) : Int) = g2 := (qm23.2.1 45 rfl).trans w15
              intro x27 hx27 kx27 lx27
              exact And.intro trivial (And.intro ⟨by omega, by omega⟩ (hQ _ _ z24 (by omega) (by omega) (zRI_z hp0 z24 rfl rfl)))
        · refine And.intro ⟨by omega, by omega⟩ ?_
          intro x28 hx28 kx28 lx28
          refine And.intro ⟨by omega, by omega⟩ (And.intro (fun c29 => ?_) (fun c29 => ?_))
          · refine And.intro ⟨by omega, by omega⟩ (And.intro (fun c30 => ?_) (fun c30 => ?_))
            · exact And.intro trivial (And.intro ⟨by omega, by omega⟩ (hQ _ _ z13 (by omega) (by omega) (zRI_z hp0 z13 rfl rfl)))
            · exfalso; omega
          · refine And.intro ⟨by omega, by omega⟩ ?_
            intro x31 hx31 kx31 lx31
            refine ⟨zk_X9_write, zm_X9_write hg d (by omega), _, rfl, ⟨by omega, by omega⟩, R1.1.1.1.2.1, (by have h1 := (R1.1.1.2.2.2.2.2.1 a1 (by omega) (by omega)).2.2; rw [← hx31] at h1; exact (h1 (by omega)).1.2), ?_⟩
            intro m32 qm32
            have z33 := zfx_t z13 qm32 rfl rfl
            have w34 : m32.1 66 ((54 : Nat) : Int) = 0 := (qm32.2.1 54 rfl).trans w14
            have w35 : m32.1 66 ((45 : Nat) : Int) = g2 := (qm32.2.1 45 rfl).trans w15
            intro x36 hx36 kx36 lx36
            exact And.intro trivial (And.intro ⟨by omega, by omega⟩ (hQ _ _ z33 (by omega) (by omega) (zRI_z hp0 z33 rfl rfl)))
      · exfalso; omega
    · refine And.intro ⟨by omega, by omega⟩ ?_
      intro m37 em37
      have z38 := zfx_f z0 em37 rfl
      have w39 : m37.1 66 ((54 : Nat) : Int) = 1 := by rw [em37]; exact zu_at
      have w40 : m37.1 66 ((45 : Nat) : Int) = g2 := by rw [em37]; exact (zu_nk (by decide)).trans wg2
      have R1 := zRI_1 hp0 em37
      intro x41 hx41 kx41 lx41
      rw [w39] at hx41
      refine And.intro ⟨by omega, by omega⟩ (And.intro (fun c42 => ?_) (fun c42 => ?_))
      · exfalso; omega
      · exact And.intro trivial (And.intro ⟨by omega, by omega⟩ (hQ _ _ z38 (by omega) (by omega) (zRI_z hp0 z38 rfl rfl)))
def zk_X9_ask : zC := fun As μ Q => ∃ (a1 : Int) (K : Int), As = [.inr (.inr (66, 66)), .inl a1] ∧ ((-2147483648) ≤ a1 ∧ a1 ≤ 2147483647) ∧ (zRI μ K) ∧ (K + 6000 ≤ 1999990000) ∧ (∀ (v : Int) (μ' : zM), zfx [67, 68, 69, 70, 71, 72, 73, 74, 88, 89, 90, 91, 92, 93, 94, 95, 97, 98, 99, 100, 101, 102, 103, 104, 107] [7, 8, 24, 25, 26, 27, 29, 30, 31, 32, 33, 34, 35, 36, 37, 38, 45, 46, 47, 48, 54, 60, 70, 71, 72, 74, 75, 76] μ μ' → (-2147483648) ≤ v → v ≤ 2147483647 → (zRI μ' (K + 6000)) → ((0 ≤ a1 ∧ a1 ≤ 3000 → μ'.1 66 ((29 : Nat) : Int) = 0) ∧ (a1 < 0 ∨ 3000 < a1 → μ'.1 66 ((29 : Nat) : Int) = μ.1 66 ((29 : Nat) : Int))) → Q (some (.inl v)) μ')
set_option maxHeartbeats 2000000 in
theorem zm_X9_ask {g : zΓ} (hg : zg g) (d : Nat) (hd : 10 ≤ d) : zOk g d 172 zk_X9_ask := by
  obtain ⟨d, rfl⟩ : ∃ d', d = d' + 1 := ⟨d - 1, by omega⟩
  refine zOk_straight hg (show mt_tab[172]? = some mt_X9_ask from rfl) [] 37 rfl fun As μ Q hC => ?_
  obtain ⟨a1, K, rfl, ha1, hp0, hp1, hQ⟩ := hC
  obtain ⟨g1, wg1⟩ : ∃ z : Int, μ.1 66 ((54 : Nat) : Int) = z := ⟨_, rfl⟩
  refine ⟨rfl, ?_⟩
  have z0 : zfx [67, 68, 69, 70, 71, 72, 73, 74, 88, 89, 90, 91, 92, 93, 94, 95, 97, 98, 99, 100, 101, 102, 103, 104, 107] [7, 8, 24, 25, 26, 27, 29, 30, 31, 32, 33, 34, 35, 36, 37, 38, 45, 46, 47, 48, 54, 60, 70, 71, 72, 74, 75, 76] μ μ := zfx_x μ
  refine And.intro ⟨by omega, by omega⟩ (And.intro (fun c2 => ?_) (fun c2 => ?_))
  · refine And.intro ⟨by omega, by omega⟩ ?_
    intro m3 em3
    have z4 := zfx_f z0 em3 rfl
    have w5 : m3.1 66 ((54 : Nat) : Int) = 1 := by rw [em3]; exact zu_at
    have R1 := zRI_1 hp0 em3
    intro x6 hx6 kx6 lx6
    rw [w5] at hx6
    refine And.intro ⟨by omega, by omega⟩ (And.intro (fun c7 => ?_) (fun c7 => ?_))
    · exfalso; omega
    · exact And.intro trivial (And.intro ⟨by omega, by omega⟩ (hQ _ _ z4 (by omega) (by omega) (zRI_K R1 (by omega) (by omega)) ⟨fun h => by exfalso; omega, fun _ => by rw [em3]; exact zu_nk (by decide)⟩))
  · refine And.intro ⟨⟨by omega, by omega⟩, ⟨by omega, by omega⟩⟩ (And.intro (fun c8 => ?_) (fun c8 => ?_))
    · refine And.intro ⟨by omega, by omega⟩ ?_
      intro m9 em9
      have z10 := zfx_f z0 em9 rfl
      have w11 : m9.1 66 ((54 : Nat) : Int) = 0 := by rw [em9]; exact zu_at
      have R1 := zRI_1 hp0 em9
      intro x12 hx12 kx12 lx12
      rw [w11] at hx12
      refine And.intro ⟨by omega, by omega⟩ (And.intro (fun c13 => ?_) (fun c13 => ?_))
      · refine ⟨zk_X9_readTwice, zm_X9_readTwice hg d (by omega), _, _, _, _, _, rfl, ⟨by omega, by omega⟩, R1.1, ⟨rfl, rfl, rfl⟩, hp1, ?_⟩
        intro x14 m15 qm15 kx14 lx14 p16 p17 p18
        have z19 := zfx_t z10 qm15 rfl rfl
        have w20 : m15.1 66 ((54 : Nat) : Int) = 0 := (qm15.2.1 54 rfl).trans w11
        refine And.intro ⟨by omega, by omega⟩ (And.intro (fun c21 => ?_) (fun c21 => ?_))
        · intro x22 hx22 kx22 lx22
          exact And.intro trivial (And.intro ⟨by omega, by omega⟩ (hQ _ _ z19 (by omega) (by omega) (zRI_of R1 p16 (by omega) (by rw [qm15.1 84 (by decide) rfl]) (by rw [qm15.1 105 (by decide) rfl]) (by rw [qm15.2.1 20 rfl]) (by rw [qm15.2.1 21 rfl]) (by rw [qm15.2.1 23 rfl]) (by rw [qm15.2.1 68 rfl])) ⟨fun _ => p18, fun h => by exfalso; omega⟩))
        · have H := p17 (by omega)
          intro x23 hx23 kx23 lx23
          intro x24 hx24 kx24 lx24
          have TL : zTy m15 x23 := by rw [hx23]; exact H.2.2.1
          have TR : zTy m15 x24 := by rw [hx24]; exact H.2.2.2.1 rfl
          have TL0 := TL.1
          have TR0 := TR.1
          refine ⟨zk_X9_questions, zm_X9_questions hg d (by omega), _, _, _, _, _, _, _, rfl, ⟨by omega, by omega⟩, ⟨by omega, by omega⟩, ⟨by omega, by omega⟩, p16, H.2.1, TL, TR, ?_⟩
          intro x25 m26 qm26 kx25 lx25 p27 p28
          have z29 := zfx_t z19 qm26 rfl rfl
          have w30 : m26.1 66 ((54 : Nat) : Int) = 0 := (qm26.2.1 54 rfl).trans w20
          exact And.intro trivial (And.intro ⟨by omega, by omega⟩ (hQ _ _ z29 (by omega) (by omega) (zRI_of R1 p27 (by omega) (by rw [qm26.1 84 (by decide) rfl, qm15.1 84 (by decide) rfl]) (by rw [qm26.1 105 (by decide) rfl, qm15.1 105 (by decide) rfl]) (by rw [qm26.2.1 20 rfl, qm15.2.1 20 rfl]) (by rw [qm26.2.1 21 rfl, qm15.2.1 21 rfl]) (by rw [qm26.2.1 23 rfl, qm15.2.1 23 rfl]) (by rw [qm26.2.1 68 rfl, qm15.2.1 68 rfl])) ⟨fun _ => by rw [qm26.2.1 29 rfl]; exact p18, fun h => by exfalso; omega⟩))
      · exfalso; omega
    · refine And.intro ⟨by omega, by omega⟩ ?_
      intro m31 em31
      have z32 := zfx_f z0 em31 rfl
      have w33 : m31.1 66 ((54 : Nat) : Int) = 1 := by rw [em31]; exact zu_at
      have R1 := zRI_1 hp0 em31
      intro x34 hx34 kx34 lx34
      rw [w33] at hx34
      refine And.intro ⟨by omega, by omega⟩ (And.intro (fun c35 => ?_) (fun c35 => ?_))
      · exfalso; omega
      · exact And.intro trivial (And.intro ⟨by omega, by omega⟩ (hQ _ _ z32 (by omega) (by omega) (zRI_K R1 (by omega) (by omega)) ⟨fun h => by exfalso; omega, fun _ => by rw [em31]; exact zu_nk (by decide)⟩))
def zk_X9_above : zC := fun As μ Q => ∃ (K : Int), As = [.inr (.inr (66, 66))] ∧ (zRI μ K) ∧ (K + 6000 ≤ 1999990000) ∧ (∀ (v : Int) (μ' : zM), zfx [67, 68, 69, 70, 71, 72, 73, 74, 88, 89, 90, 96, 97, 98, 99, 100, 101, 102, 103, 104, 106, 107] [7, 8, 24, 25, 26, 27, 29, 30, 31, 32, 33, 34, 35, 36, 37, 38, 45, 46, 47, 48, 54, 56, 60, 70, 71, 72] μ μ' → (-2147483648) ≤ v → v ≤ 2147483647 → (zRI μ' (K + 6000)) → (μ'.1 66 ((29 : Nat) : Int) = 0) → Q (some (.inl v)) μ')
set_option maxHeartbeats 2000000 in
theorem zm_X9_above {g : zΓ} (hg : zg g) (d : Nat) (hd : 8 ≤ d) : zOk g d 173 zk_X9_above := by
  obtain ⟨d, rfl⟩ : ∃ d', d = d' + 1 := ⟨d - 1, by omega⟩
  refine zOk_straight hg (show mt_tab[173]? = some mt_X9_above from rfl) [] 85 rfl fun As μ Q hC => ?_
  obtain ⟨K, rfl, hp0, hp1, hQ⟩ := hC
  refine ⟨rfl, ?_⟩
  have z0 : zfx [67, 68, 69, 70, 71, 72, 73, 74, 88, 89, 90, 96, 97, 98, 99, 100, 101, 102, 103, 104, 106, 107] [7, 8, 24, 25, 26, 27, 29, 30, 31, 32, 33, 34, 35, 36, 37, 38, 45, 46, 47, 48, 54, 56, 60, 70, 71, 72] μ μ := zfx_x μ
  refine And.intro ⟨by omega, by omega⟩ ?_
  intro m1 em1
  have z2 := zfx_f z0 em1 rfl
  have R1 := zRI_1 hp0 em1
  refine ⟨zk_X9_readTwice, zm_X9_readTwice hg d (by omega), _, _, _, _, _, rfl, ⟨by omega, by omega⟩, R1.1, ⟨rfl, rfl, rfl⟩, hp1, ?_⟩
  intro x3 m4 qm4 kx3 lx3 p5 p6 p7
  have z8 := zfx_t z2 qm4 rfl rfl
  refine And.intro ⟨by omega, by omega⟩ (And.intro (fun c9 => ?_) (fun c9 => ?_))
  · have H := p6 (by omega)
    have HC := H.2.2.2.2 rfl
    have HB := p5.1.2.1.1
    have HL := H.2.2.1.1
    intro x10 hx10 kx10 lx10
    have TL : zTy m4 x10 := by rw [hx10]; exact H.2.2.1
    intro x11 hx11 kx11 lx11
    refine And.intro ⟨by omega, by omega⟩ (And.intro (fun c12 => ?_) (fun c12 => ?_))
    · intro x13 hx13 kx13 lx13
      refine ⟨zk_X9_isVariable2, zm_X9_isVariable2 hg d (by omega), _, rfl, ⟨by omega, by omega⟩, ?_⟩
      intro x14 kx14 lx14 p15 p16
      refine And.intro ⟨by omega, by omega⟩ (And.intro (fun c17 => ?_) (fun c17 => ?_))
      · have KL : m4.1 67 (m4.1 66 ((71 : Nat) : Int)) = 0 := by have h1 := H.2.2.1.2; rw [← hx13] at h1 ⊢; omega
        have V20 := (p5.1.1.2.1 _ H.2.2.1.1.1 H.2.2.1.1.2).2.2.1 KL
        intro x18 hx18 kx18 lx18
        refine And.intro ⟨by omega, by omega⟩ ?_
        intro x19 hx19 kx19 lx19
        intro x20 hx20 kx20 lx20
        refine And.intro ⟨⟨by omega, by omega⟩, ⟨by omega, by omega⟩⟩ (And.intro (fun c21 => ?_) (fun c21 => ?_))
        · have TW := TL
          refine ⟨zk_X9_write, zm_X9_write hg d (by omega), _, rfl, ⟨by omega, by omega⟩, p5.1.1.2.1, TW.1.2, ?_⟩
          intro m22 qm22
          have z23 := zfx_t z8 qm22 rfl rfl
          intro x24 hx24 kx24 lx24
          exact And.intro trivial (And.intro ⟨by omega, by omega⟩ (hQ _ _ z23 (by omega) (by omega) (zRI_of R1 (zQS_fr (m' := m22) p5 (fun j a b => qm22.1 j (by omega) (zanyF (by simp <;> omega))) (fun j a b => qm22.1 j (by omega) (zanyF (by simp <;> omega))) (fun j a b => qm22.1 j (by omega) (zanyF (by simp <;> omega))) (qm22.1 98 (by decide) rfl) (qm22.2.1 8 rfl) (qm22.2.1 45 rfl) (qm22.2.1 48 rfl) (qm22.2.1 60 rfl)) (by omega) (by rw [qm22.1 84 (by decide) rfl, qm4.1 84 (by decide) rfl]) (by rw [qm22.1 105 (by decide) rfl, qm4.1 105 (by decide) rfl]) (by rw [qm22.2.1 20 rfl, qm4.2.1 20 rfl]) (by rw [qm22.2.1 21 rfl, qm4.2.1 21 rfl]) (by rw [qm22.2.1 23 rfl, qm4.2.1 23 rfl]) (by rw [qm22.2.1 68 rfl, qm4.2.1 68 rfl])) (by rw [qm22.2.1 29 rfl]; exact p7)))
        · intro x25 hx25 kx25 lx25
          refine And.intro ⟨by omega, by omega⟩ ?_
          intro x26 hx26 kx26 lx26
          rw [hx25] at hx26
          intro x27 hx27 kx27 lx27
          refine And.intro ⟨by omega, by omega⟩ ?_
          intro x28 hx28 kx28 lx28
          refine And.intro ⟨by omega, by omega⟩ (And.intro (fun c29 => ?_) (fun c29 => ?_))
          · intro x30 hx30 kx30 lx30
            refine ⟨zk_X9_captured, zm_X9_captured hg d (by omega), _, _, _, _, _, rfl, ⟨by omega, by omega⟩, p5, (by rw [hx30]; exact ⟨H.2.2.1.1.2, KL⟩), ?_⟩
            intro x31 m32 qm32 kx31 lx31 p33 p34 p35
            have z36 := zfx_t z8 qm32 rfl rfl
            refine And.intro ⟨by omega, by omega⟩ (And.intro (fun c37 => ?_) (fun c37 => ?_))
            · intro x38 hx38 kx38 lx38
              rw [qm32.2.1 72 rfl] at hx38
              refine ⟨zk_X9_aboveOf, zm_X9_aboveOf hg d (by omega), _, _, _, _, _, _, rfl, ⟨by omega, by omega⟩, ⟨by omega, by omega⟩, p33, (by rcases p35 with c | c <;> first | (exfalso; omega) | exact c.1), ?_⟩
              intro x39 m40 qm40 kx39 lx39 p41 p42 p43
              have z44 := zfx_t z36 qm40 rfl rfl
              have HQ : 0 ≤ x39 → zTy m40 x39 := fun h => by rcases p43 with c | c | c <;> first | (exfalso; omega) | exact ⟨c.1.1, by have := c.1.2.1; omega⟩
              refine And.intro ⟨by omega, by omega⟩ (And.intro (fun c45 => ?_) (fun c45 => ?_))
              · have TW := HQ (by omega)
                refine ⟨zk_X9_write, zm_X9_write hg d (by omega), _, rfl, ⟨by omega, by omega⟩, p41.1.1.2.1, TW.1.2, ?_⟩
                intro m46 qm46
                have z47 := zfx_t z44 qm46 rfl rfl
                intro x48 hx48 kx48 lx48
                exact And.intro trivial (And.intro ⟨by omega, by omega⟩ (hQ _ _ z47 (by omega) (by omega) (zRI_of R1 (zQS_fr (m' := m46) p41 (fun j a b => qm46.1 j (by omega) (zanyF (by simp <;> omega))) (fun j a b => qm46.1 j (by omega) (zanyF (by simp <;> omega))) (fun j a b => qm46.1 j (by omega) (zanyF (by simp <;> omega))) (qm46.1 98 (by decide) rfl) (qm46.2.1 8 rfl) (qm46.2.1 45 rfl) (qm46.2.1 48 rfl) (qm46.2.1 60 rfl)) (by omega) (by rw [qm46.1 84 (by decide) rfl, qm40.1 84 (by decide) rfl, qm32.1 84 (by decide) rfl, qm4.1 84 (by decide) rfl]) (by rw [qm46.1 105 (by decide) rfl, qm40.1 105 (by decide) rfl, qm32.1 105 (by decide) rfl, qm4.1 105 (by decide) rfl]) (by rw [qm46.2.1 20 rfl, qm40.2.1 20 rfl, qm32.2.1 20 rfl, qm4.2.1 20 rfl]) (by rw [qm46.2.1 21 rfl, qm40.2.1 21 rfl, qm32.2.1 21 rfl, qm4.2.1 21 rfl]) (by rw [qm46.2.1 23 rfl, qm40.2.1 23 rfl, qm32.2.1 23 rfl, qm4.2.1 23 rfl]) (by rw [qm46.2.1 68 rfl, qm40.2.1 68 rfl, qm32.2.1 68 rfl, qm4.2.1 68 rfl])) (by rw [qm46.2.1 29 rfl, qm40.2.1 29 rfl, qm32.2.1 29 rfl]; exact p7)))
              · exact And.intro trivial (And.intro ⟨by omega, by omega⟩ (hQ _ _ z44 (by omega) (by omega) (zRI_of R1 p41 (by omega) (by rw [qm40.1 84 (by decide) rfl, qm32.1 84 (by decide) rfl, qm4.1 84 (by decide) rfl]) (by rw [qm40.1 105 (by decide) rfl, qm32.1 105 (by decide) rfl, qm4.1 105 (by decide) rfl]) (by rw [qm40.2.1 20 rfl, qm32.2.1 20 rfl, qm4.2.1 20 rfl]) (by rw [qm40.2.1 21 rfl, qm32.2.1 21 rfl, qm4.2.1 21 rfl]) (by rw [qm40.2.1 23 rfl, qm32.2.1 23 rfl, qm4.2.1 23 rfl]) (by rw [qm40.2.1 68 rfl, qm32.2.1 68 rfl, qm4.2.1 68 rfl])) (by rw [qm40.2.1 29 rfl, qm32.2.1 29 rfl]; exact p7)))
            · refine And.intro ⟨by omega, by omega⟩ (And.intro (fun c49 => ?_) (fun c49 => ?_))
              · exfalso; omega
              · exact And.intro trivial (And.intro ⟨by omega, by omega⟩ (hQ _ _ z36 (by omega) (by omega) (zRI_of R1 p33 (by omega) (by rw [qm32.1 84 (by decide) rfl, qm4.1 84 (by decide) rfl]) (by rw [qm32.1 105 (by decide) rfl, qm4.1 105 (by decide) rfl]) (by rw [qm32.2.1 20 rfl, qm4.2.1 20 rfl]) (by rw [qm32.2.1 21 rfl, qm4.2.1 21 rfl]) (by rw [qm32.2.1 23 rfl, qm4.2.1 23 rfl]) (by rw [qm32.2.1 68 rfl, qm4.2.1 68 rfl])) (by rw [qm32.2.1 29 rfl]; exact p7)))
          · exact And.intro trivial (And.intro ⟨by omega, by omega⟩ (hQ _ _ z8 (by omega) (by omega) (zRI_of R1 p5 (by omega) (by rw [qm4.1 84 (by decide) rfl]) (by rw [qm4.1 105 (by decide) rfl]) (by rw [qm4.2.1 20 rfl]) (by rw [qm4.2.1 21 rfl]) (by rw [qm4.2.1 23 rfl]) (by rw [qm4.2.1 68 rfl])) p7))
      · exact And.intro trivial (And.intro ⟨by omega, by omega⟩ (hQ _ _ z8 (by omega) (by omega) (zRI_of R1 p5 (by omega) (by rw [qm4.1 84 (by decide) rfl]) (by rw [qm4.1 105 (by decide) rfl]) (by rw [qm4.2.1 20 rfl]) (by rw [qm4.2.1 21 rfl]) (by rw [qm4.2.1 23 rfl]) (by rw [qm4.2.1 68 rfl])) p7))
    · refine And.intro ⟨by omega, by omega⟩ ?_
      intro x50 hx50 kx50 lx50
      have TW : zTy m4 x50 := by rw [hx50]; exact (zQI_any p5.1).1
      have TW0 := TW.1
      refine ⟨zk_X9_write, zm_X9_write hg d (by omega), _, rfl, ⟨by omega, by omega⟩, p5.1.1.2.1, TW.1.2, ?_⟩
      intro m51 qm51
      have z52 := zfx_t z8 qm51 rfl rfl
      intro x53 hx53 kx53 lx53
      exact And.intro trivial (And.intro ⟨by omega, by omega⟩ (hQ _ _ z52 (by omega) (by omega) (zRI_of R1 (zQS_fr (m' := m51) p5 (fun j a b => qm51.1 j (by omega) (zanyF (by simp <;> omega))) (fun j a b => qm51.1 j (by omega) (zanyF (by simp <;> omega))) (fun j a b => qm51.1 j (by omega) (zanyF (by simp <;> omega))) (qm51.1 98 (by decide) rfl) (qm51.2.1 8 rfl) (qm51.2.1 45 rfl) (qm51.2.1 48 rfl) (qm51.2.1 60 rfl)) (by omega) (by rw [qm51.1 84 (by decide) rfl, qm4.1 84 (by decide) rfl]) (by rw [qm51.1 105 (by decide) rfl, qm4.1 105 (by decide) rfl]) (by rw [qm51.2.1 20 rfl, qm4.2.1 20 rfl]) (by rw [qm51.2.1 21 rfl, qm4.2.1 21 rfl]) (by rw [qm51.2.1 23 rfl, qm4.2.1 23 rfl]) (by rw [qm51.2.1 68 rfl, qm4.2.1 68 rfl])) (by rw [qm51.2.1 29 rfl]; exact p7)))
  · intro x54 hx54 kx54 lx54
    exact And.intro trivial (And.intro ⟨by omega, by omega⟩ (hQ _ _ z8 (by omega) (by omega) (zRI_of R1 p5 (by omega) (by rw [qm4.1 84 (by decide) rfl]) (by rw [qm4.1 105 (by decide) rfl]) (by rw [qm4.2.1 20 rfl]) (by rw [qm4.2.1 21 rfl]) (by rw [qm4.2.1 23 rfl]) (by rw [qm4.2.1 68 rfl])) p7))
