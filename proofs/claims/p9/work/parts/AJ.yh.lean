def yk_X5_cut : zC := fun As μ Q => As = [.inr (.inr (1, 1))] ∧ (∀ i : Int, 0 ≤ i → i < μ.1 1 ((4 : Nat) : Int) → 0 ≤ μ.1 2 i ∧ μ.1 2 i ≤ 255) ∧ (0 ≤ μ.1 1 ((4 : Nat) : Int) ∧ μ.1 1 ((4 : Nat) : Int) ≤ 800) ∧ (∀ (μ' : zM), zl0 μ μ' → (yRT ((μ.1 2, μ.1 1 ((4 : Nat) : Int)) : yT) μ' 0 ∧ (∀ j : Nat, j ≠ 1 → j ≠ 3 → j ≠ 4 → j ≠ 3000005 → j ≠ 5000001 → μ'.1 j = μ.1 j) ∧ μ'.1 1 ((4 : Nat) : Int) = 0) → Q none μ')
set_option maxHeartbeats 4000000 in
theorem ym_X5_cut {g : zΓ} (hg : zg g) (d : Nat) (hd : 6 ≤ d) : zOk g d 72 yk_X5_cut := by
  obtain ⟨d, rfl⟩ : ∃ d', d = d' + 1 := ⟨d - 1, by omega⟩
  refine zOk_loop hg (show mt_tab[72]? = some mt_X5_cut from rfl) ([(4, [0, 1, 2])], []) 101 rfl fun As μ Q hC => ?_
  obtain ⟨rfl, hp0, hp1, hQ⟩ := hC
  have z0 : zl0 μ μ := zl0_r μ
  refine ⟨rfl, fun pc vs μ' n => ∃ (v1 : Int) (v2 : Int), vs = [.inr (.inr (1, 1)), .inl v1, .inl v2] ∧ zl0 μ μ' ∧ (0 ≤ v1 ∧ v1 ≤ 800) ∧ (0 ≤ v2 ∧ v2 ≤ 800) ∧ (yCI ((μ.1 2, μ.1 1 ((4 : Nat) : Int)) : yT) μ μ' v1 v2) ∧ n = (Int.toNat (2147483648 - v2)), ?_, ?_, trivial⟩
  · refine Exists.intro (Int.toNat (2147483648 - 0)) ?_
    exact ⟨_, _, rfl, z0, ⟨by omega, by omega⟩, ⟨by omega, by omega⟩, (yCI_0 _ _ (show 0 ≤ μ.1 1 ((4 : Nat) : Int) by omega)), rfl⟩
  · intro vs m0 n hI
    clear z0
    obtain ⟨v1, v2, rfl, z0, hv1, hv2, i0, rfl⟩ := hI
    have I1 := i0.2.1
    have I2 : v2 ≤ μ.1 1 ((4 : Nat) : Int) := i0.2.1.2.2
    have D1 : m0.1 1 ((4 : Nat) : Int) = μ.1 1 ((4 : Nat) : Int) := congrFun (i0.1 1 (by decide) (by decide) (by decide)) _
    intro x1 hx1 kx1 lx1
    refine And.intro ⟨⟨by omega, by omega⟩, ⟨by omega, by omega⟩⟩ (And.intro (fun c2 => ?_) (fun c2 => ?_))
    · intro x3 hx3 kx3 lx3
      refine And.intro ⟨by omega, by omega⟩ (And.intro ⟨by omega, by omega⟩ ?_)
      intro m4 em4
      have z5 := zl0_t z0 (zl0_u em4 (Or.inl (by decide)) (Or.inl ⟨by decide, by decide⟩))
      refine And.intro ⟨by omega, by omega⟩ ?_
      intro m6 em6
      have z7 := zl0_t z5 (zl0_u em6 (by simp only [Nat.add_eq] at *; omega) (Or.inl ⟨(by simp only [Nat.add_eq] at *; omega), (by simp only [Nat.add_eq] at *; omega)⟩) (Or.inl (by simp only [Nat.add_eq] at *; omega)))
      refine And.intro ⟨by omega, by omega⟩ (And.intro ⟨by omega, by omega⟩ ?_)
      intro m8 em8
      have z9 := zl0_t z7 (zl0_u em8 (Or.inl (by decide)) (Or.inl ⟨by decide, by decide⟩))
      refine And.intro ⟨by omega, by omega⟩ ?_
      intro m10 em10
      have z11 := zl0_t z9 (zl0_u em10 (Or.inl (by decide)) (Or.inl ⟨by decide, by decide⟩))
      refine And.intro ⟨by omega, by omega⟩ ?_
      intro m12 em12
      have z13 := zl0_t z11 (zl0_u em12 (Or.inl (by decide)) (Or.inl ⟨by decide, by decide⟩))
      refine And.intro ⟨by omega, by omega⟩ ?_
      intro m14 em14
      have z15 := zl0_t z13 (zl0_u em14 (Or.inl (by decide)) (Or.inl ⟨by decide, by decide⟩))
      refine ⟨yk_X5_step, ym_X5_step hg d (by omega), rfl, ?_⟩
      intro m16 qm16 p17
      have z18 := zl0_t z15 qm16
      exact And.intro rfl (hQ _ z18 (by rw [p17 ⟨by rw [em14, zu_at]; decide, by rw [em14, zu_nk (by decide), em12, zu_at]; decide⟩]; exact yCI_e i0 (show μ.1 1 ((4 : Nat) : Int) ≤ v2 by omega) (show μ.1 1 ((4 : Nat) : Int) ≤ 800 by omega) (by show _ = μ.1 1 ((4 : Nat) : Int); omega) em4 em6 em8 em10 em12 em14))
    · refine And.intro ⟨⟨by omega, by omega⟩, ⟨by omega, by omega⟩⟩ (And.intro (fun c19 => ?_) (fun c19 => ?_))
      · exfalso; omega
      · refine And.intro ⟨⟨by omega, by omega⟩, ⟨by omega, by omega⟩⟩ (And.intro (fun c20 => ?_) (fun c20 => ?_))
        · intro x21 hx21 kx21 lx21
          refine And.intro ⟨by omega, by omega⟩ (And.intro ⟨by omega, by omega⟩ ?_)
          intro m22 em22
          have z23 := zl0_t z0 (zl0_u em22 (Or.inl (by decide)) (Or.inl ⟨by decide, by decide⟩))
          refine And.intro ⟨by omega, by omega⟩ ?_
          intro m24 em24
          have z25 := zl0_t z23 (zl0_u em24 (by simp only [Nat.add_eq] at *; omega) (Or.inl ⟨(by simp only [Nat.add_eq] at *; omega), (by simp only [Nat.add_eq] at *; omega)⟩) (Or.inl (by simp only [Nat.add_eq] at *; omega)))
          refine And.intro ⟨by omega, by omega⟩ (And.intro ⟨by omega, by omega⟩ ?_)
          intro m26 em26
          have z27 := zl0_t z25 (zl0_u em26 (Or.inl (by decide)) (Or.inl ⟨by decide, by decide⟩))
          refine And.intro ⟨by omega, by omega⟩ ?_
          intro m28 em28
          have z29 := zl0_t z27 (zl0_u em28 (Or.inl (by decide)) (Or.inl ⟨by decide, by decide⟩))
          refine And.intro ⟨by omega, by omega⟩ ?_
          intro m30 em30
          have z31 := zl0_t z29 (zl0_u em30 (Or.inl (by decide)) (Or.inl ⟨by decide, by decide⟩))
          refine And.intro ⟨by omega, by omega⟩ ?_
          intro m32 em32
          have z33 := zl0_t z31 (zl0_u em32 (Or.inl (by decide)) (Or.inl ⟨by decide, by decide⟩))
          refine ⟨yk_X5_step, ym_X5_step hg d (by omega), rfl, ?_⟩
          intro m34 qm34 p35
          have z36 := zl0_t z33 qm34
          exact And.intro rfl (hQ _ z36 (by rw [p35 ⟨by rw [em32, zu_at]; decide, by rw [em32, zu_nk (by decide), em30, zu_at]; decide⟩]; exact yCI_e i0 (show μ.1 1 ((4 : Nat) : Int) ≤ v2 by omega) (show μ.1 1 ((4 : Nat) : Int) ≤ 800 by omega) (by show _ = μ.1 1 ((4 : Nat) : Int); omega) em22 em24 em26 em28 em30 em32))
        · refine And.intro ⟨by omega, by omega⟩ ?_
          intro x37 hx37 kx37 lx37
          have XB : x37 = μ.1 2 v2 := hx37.trans (congrFun (i0.1 2 (by decide) (by decide) (by decide)) _)
          have HB := hp0 v2 (by omega) (by omega)
          refine And.intro ⟨⟨by omega, by omega⟩, ⟨by omega, by omega⟩⟩ (And.intro (fun c38 => ?_) (fun c38 => ?_))
          · refine Exists.intro (Int.toNat (2147483648 - (v2 + 1))) (And.intro (by omega) ?_)
            exact ⟨_, _, rfl, z0, ⟨by omega, by omega⟩, ⟨by omega, by omega⟩, (yCI_b i0 (show v2 < μ.1 1 ((4 : Nat) : Int) by omega) (show μ.1 2 v2 = 32 ∨ μ.1 2 v2 = 10 by omega)), rfl⟩
          · refine And.intro ⟨⟨by omega, by omega⟩, ⟨by omega, by omega⟩⟩ (And.intro (fun c39 => ?_) (fun c39 => ?_))
            · refine Exists.intro (Int.toNat (2147483648 - (v2 + 1))) (And.intro (by omega) ?_)
              exact ⟨_, _, rfl, z0, ⟨by omega, by omega⟩, ⟨by omega, by omega⟩, (yCI_b i0 (show v2 < μ.1 1 ((4 : Nat) : Int) by omega) (show μ.1 2 v2 = 32 ∨ μ.1 2 v2 = 10 by omega)), rfl⟩
            · refine ⟨yk_X5_nameSize, ym_X5_nameSize hg d (by omega), _, rfl, ⟨by omega, by omega⟩, ?_⟩
              intro x40 kx40 lx40 p41
              refine ⟨zk_J9_max_7cf53, zm_J9_max_7cf53 hg d (by omega), _, _, rfl, ⟨by omega, by omega⟩, ⟨by omega, by omega⟩, ?_⟩
              intro x42 kx42 lx42 p43 p44 p45
              have NB : ypl ((μ.1 2, μ.1 1 ((4 : Nat) : Int)) : yT) v2 = v2 := ypl_nb (T := (((μ.1 2, μ.1 1 ((4 : Nat) : Int)) : yT))) (show ¬ (μ.1 2 v2 = 32 ∨ μ.1 2 v2 = 10) by omega)
              have SZ := ysz_1 (T := (((μ.1 2, μ.1 1 ((4 : Nat) : Int)) : yT))) NB (show v2 < μ.1 1 ((4 : Nat) : Int) by omega) (by have h := p41; rw [i0.1 2 (by decide) (by decide) (by decide), i0.1 1 (by decide) (by decide) (by decide)] at h; exact h) p43 p44 p45
              have SB : v2 + x42 ≤ μ.1 1 ((4 : Nat) : Int) := SZ.2
              refine And.intro ⟨by omega, by omega⟩ (And.intro ⟨by omega, by omega⟩ ?_)
              intro m46 em46
              have z47 := zl0_t z0 (zl0_u em46 (Or.inl (by decide)) (Or.inl ⟨by decide, by decide⟩))
              refine And.intro ⟨⟨by omega, by omega⟩, ⟨by omega, by omega⟩⟩ (And.intro (fun c48 => ?_) (fun c48 => ?_))
              · refine And.intro ⟨by omega, by omega⟩ ?_
                intro m49 em49
                have z50 := zl0_t z47 (zl0_u em49 (by simp only [Nat.add_eq] at *; omega) (Or.inl ⟨(by simp only [Nat.add_eq] at *; omega), (by simp only [Nat.add_eq] at *; omega)⟩) (Or.inl (by simp only [Nat.add_eq] at *; omega)))
                refine And.intro ⟨by omega, by omega⟩ ?_
                intro x51 hx51
                refine ⟨yk_X5_kindOf, ym_X5_kindOf hg d (by omega), _, _, _, rfl, ⟨by omega, by omega⟩, ⟨by omega, by omega⟩, ?_⟩
                intro x52 kx52 lx52 p53
                refine And.intro ⟨by omega, by omega⟩ (And.intro ⟨by omega, by omega⟩ ?_)
                intro m54 em54
                have z55 := zl0_t z50 (zl0_u em54 (Or.inl (by decide)) (Or.inl ⟨by decide, by decide⟩))
                refine Exists.intro (Int.toNat (2147483648 - (v2 + x42))) (And.intro (by omega) ?_)
                exact ⟨_, _, rfl, z55, ⟨by omega, by omega⟩, ⟨by omega, by omega⟩, (yCI_s i0 (show v2 < μ.1 1 ((4 : Nat) : Int) by omega) XB (by omega) (by omega) SZ (by omega) em46 (by unfold ynm; rw [if_neg (by have := SZ.1; omega)]; rfl) em49 hx51 p53 em54), rfl⟩
              · refine ⟨yk_X5_nameOf, ym_X5_nameOf hg d (by omega), _, _, rfl, ⟨by omega, by omega⟩, ⟨by omega, by omega⟩, (by omega), ?_⟩
                intro j56 p57
                refine And.intro ⟨by omega, by omega⟩ ?_
                intro m58 em58
                have z59 := zl0_t z47 (zl0_u em58 (by simp only [Nat.add_eq] at *; omega) (Or.inl ⟨(by simp only [Nat.add_eq] at *; omega), (by simp only [Nat.add_eq] at *; omega)⟩) (Or.inl (by simp only [Nat.add_eq] at *; omega)))
                refine And.intro ⟨by omega, by omega⟩ ?_
                intro x60 hx60
                refine ⟨yk_X5_kindOf, ym_X5_kindOf hg d (by omega), _, _, _, rfl, ⟨by omega, by omega⟩, ⟨by omega, by omega⟩, ?_⟩
                intro x61 kx61 lx61 p62
                refine And.intro ⟨by omega, by omega⟩ (And.intro ⟨by omega, by omega⟩ ?_)
                intro m63 em63
                have z64 := zl0_t z59 (zl0_u em63 (Or.inl (by decide)) (Or.inl ⟨by decide, by decide⟩))
                refine Exists.intro (Int.toNat (2147483648 - (v2 + x42))) (And.intro (by omega) ?_)
                exact ⟨_, _, rfl, z64, ⟨by omega, by omega⟩, ⟨by omega, by omega⟩, (yCI_s i0 (show v2 < μ.1 1 ((4 : Nat) : Int) by omega) XB (by omega) (by omega) SZ (by omega) em46 (by unfold ynm; rw [if_pos (by have := SZ.1; omega), NB, ← SZ.1]; have h := p57; rw [em46, zu_ne (by decide), zu_ne (by decide), i0.1 2 (by decide) (by decide) (by decide), i0.1 1 (by decide) (by decide) (by decide)] at h; exact h) em58 hx60 p62 em63), rfl⟩
