/-! ### variable ask above -/
def zk_X9_variable : zC := fun As μ Q => ∃ (a1 : Int) (a2 : Int) (K : Int), As = [.inr (.inr (66, 66)), .inl a1, .inl a2] ∧ ((-2147483648) ≤ a1 ∧ a1 ≤ 2147483647) ∧ ((-2147483648) ≤ a2 ∧ a2 ≤ 2147483647) ∧ (zRI μ K) ∧ (∀ (v : Int) (μ' : zM), zfx [96, 99, 106] [54, 56] μ μ' → (-2147483648) ≤ v → v ≤ 2147483647 → (zRI μ' K) → Q (some (.inl v)) μ')
set_option maxHeartbeats 2000000 in
theorem zm_X9_variable {g : zΓ} (hg : zg g) (d : Nat) (hd : 5 ≤ d) : zOk g d 178 zk_X9_variable := by
  obtain ⟨d, rfl⟩ : ∃ d', d = d' + 1 := ⟨d - 1, by omega⟩
  refine zOk_straight hg (show mt_tab[178]? = some mt_X9_variable from rfl) [] 61 rfl fun As μ Q hC => ?_
  obtain ⟨a1, a2, K, rfl, ha1, ha2, hp0, hQ⟩ := hC
  obtain ⟨g1, wg1⟩ : ∃ z : Int, μ.1 66 ((54 : Nat) : Int) = z := ⟨_, rfl⟩
  obtain ⟨g2, wg2⟩ : ∃ z : Int, μ.1 66 ((45 : Nat) : Int) = z := ⟨_, rfl⟩
  refine ⟨rfl, ?_⟩
  have z0 : zfx [96, 99, 106] [54, 56] μ μ := zfx_x μ
  refine And.intro ⟨by omega, by omega⟩ (And.intro (fun c3 => ?_) (fun c3 => ?_))
  · refine And.intro ⟨by omega, by omega⟩ ?_
    intro m4 em4
    have z5 := zfx_f z0 em4 rfl
    have w6 : m4.1 66 ((54 : Nat) : Int) = 1 := by rw [em4]; exact zu_at
    have w7 : m4.1 66 ((45 : Nat) : Int) = g2 := by rw [em4]; exact (zu_nk (by decide)).trans wg2
    have R1 := zRI_1 hp0 em4
    intro x8 hx8 kx8 lx8
    rw [w6] at hx8
    refine And.intro ⟨by omega, by omega⟩ (And.intro (fun c9 => ?_) (fun c9 => ?_))
    · exfalso; omega
    · exact And.intro trivial (And.intro ⟨by omega, by omega⟩ (hQ _ _ z5 (by omega) (by omega) (zRI_z hp0 z5 rfl rfl)))
  · intro x10 hx10 kx10 lx10
    rw [wg2] at hx10
    refine And.intro ⟨⟨by omega, by omega⟩, ⟨by omega, by omega⟩⟩ (And.intro (fun c11 => ?_) (fun c11 => ?_))
    · refine And.intro ⟨by omega, by omega⟩ ?_
      intro m12 em12
      have z13 := zfx_f z0 em12 rfl
      have w14 : m12.1 66 ((54 : Nat) : Int) = 0 := by rw [em12]; exact zu_at
      have w15 : m12.1 66 ((45 : Nat) : Int) = g2 := by rw [em12]; exact (zu_nk (by decide)).trans wg2
      have R1 := zRI_1 hp0 em12
      intro x16 hx16 kx16 lx16
      rw [w14] at hx16
      refine And.intro ⟨by omega, by omega⟩ (And.intro (fun c17 => ?_) (fun c17 => ?_))
      · refine And.intro ⟨⟨by omega, by omega⟩, ⟨by omega, by omega⟩⟩ (And.intro (fun c18 => ?_) (fun c18 => ?_))
        · clear c18
          refine And.intro ⟨by omega, by omega⟩ (And.intro (fun c19 => ?_) (fun c19 => ?_))
          · exact And.intro trivial (And.intro ⟨by omega, by omega⟩ (hQ _ _ z13 (by omega) (by omega) (zRI_z hp0 z13 rfl rfl)))
          · refine And.intro ⟨by omega, by omega⟩ ?_
            intro x20 hx20 kx20 lx20
            refine And.intro ⟨⟨by omega, by omega⟩, ⟨by omega, by omega⟩⟩ (And.intro (fun c21 => ?_) (fun c21 => ?_))
            · exact And.intro trivial (And.intro ⟨by omega, by omega⟩ (hQ _ _ z13 (by omega) (by omega) (zRI_z hp0 z13 rfl rfl)))
            · refine And.intro ⟨by omega, by omega⟩ ?_
              intro x22 hx22 kx22 lx22
              refine ⟨zk_X9_write, zm_X9_write hg d (by omega), _, rfl, ⟨by omega, by omega⟩, R1.1.1.1.2.1, (by have h1 := (R1.1.1.2.2.2.2.2.1 a1 (by omega) (by omega)).2.1 a2 (by omega) (by omega); rw [show 3 * a1 + a2 = ((3 * a1) + a2) by omega, ← hx22] at h1; exact h1.1.2), ?_⟩
              intro m23 qm23
              have z24 := zfx_t z13 qm23 rfl rfl
              have w25 : m23.1 66 ((54 : Nat) : Int) = 0 := (qm23.2.1 54 rfl).trans w14
              have w26 : m23.1 66 ((45 : Nat) : Int) = g2 := (qm23.2.1 45 rfl).trans w15
              intro x27 hx27 kx27 lx27
              exact And.intro trivial (And.intro ⟨by omega, by omega⟩ (hQ _ _ z24 (by omega) (by omega) (zRI_z hp0 z24 rfl rfl)))
        · refine And.intro ⟨by omega, by omega⟩ ?_
          intro x28 hx28 kx28 lx28
          refine And.intro ⟨by omega, by omega⟩ (And.intro (fun c29 => ?_) (fun c29 => ?_))
          · refine And.intro ⟨by omega, by omega⟩ (And.intro (fun c30 => ?_) (fun c30 => ?_))
            · exact And.intro trivial (And.intro ⟨by omega, by omega⟩ (hQ _ _ z13 (by omega) (by omega) (zRI_z hp0 z13 rfl rfl)))
            · exfalso; omega
          · refine And.intro ⟨by omega, by omega⟩ ?_
            intro x31 hx31 kx31 lx31
            refine ⟨zk_X9_write, zm_X9_write hg d (by omega), _, rfl, ⟨by omega, by omega⟩, R1.1.1.1.2.1, (by have h1 := (R1.1.1.2.2.2.2.2.1 a1 (by omega) (by omega)).2.2; rw [← hx31] at h1; exact (h1 (by omega)).1.2), ?_⟩
            intro m32 qm32
            have z33 := zfx_t z13 qm32 rfl rfl
            have w34 : m32.1 66 ((54 : Nat) : Int) = 0 := (qm32.2.1 54 rfl).trans w14
            have w35 : m32.1 66 ((45 : Nat) : Int) = g2 := (qm32.2.1 45 rfl).trans w15
            intro x36 hx36 kx36 lx36
            exact And.intro trivial (And.intro ⟨by omega, by omega⟩ (hQ _ _ z33 (by omega) (by omega) (zRI_z hp0 z33 rfl rfl)))
      · exfalso; omega
    · refine And.intro ⟨by omega, by omega⟩ ?_
      intro m37 em37
      have z38 := zfx_f z0 em37 rfl
      have w39 : m37.1 66 ((54 : Nat) : Int) = 1 := by rw [em37]; exact zu_at
      have w40 : m37.1 66 ((45 : Nat) : Int) = g2 := by rw [em37]; exact (zu_nk (by decide)).trans wg2
      have R1 := zRI_1 hp0 em37
      intro x41 hx41 kx41 lx41
      rw [w39] at hx41
      refine And.intro ⟨by omega, by omega⟩ (And.intro (fun c42 => ?_) (fun c42 => ?_))
      · exfalso; omega
      · exact And.intro trivial (And.intro ⟨by omega, by omega⟩ (hQ _ _ z38 (by omega) (by omega) (zRI_z hp0 z38 rfl rfl)))
