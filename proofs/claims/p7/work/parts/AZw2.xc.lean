def zqx (μ μ' : zM) : Prop := zl0 μ μ' ∧ μ'.1 50 ((3 : Nat) : Int) = 51 ∧ ∀ j : Nat, zqj j → μ'.1 j = μ.1 j
theorem zqx_t {a b c : zM} (h1 : zqx a b) (h2 : zqq b c) : zqx a c := ⟨zl0_t h1.1 h2.1, h2.2.1.trans h1.2.1, fun j hj => (h2.2.2 h1.2.1 j hj).trans (h1.2.2 j hj)⟩
def xk_X3_readQuestion : zC := fun As μ Q => ∃ (a1 : Nat), As = [.inr (.inr (50, 50)), .inr (.inr (a1, 14))] ∧ (a1 = 14 ∨ a1 = 32) ∧ (∀ i : Int, 0 ≤ i → i < μ.1 1 ((4 : Nat) : Int) → 0 ≤ μ.1 2 i ∧ μ.1 2 i ≤ 255) ∧ (0 ≤ μ.1 1 ((4 : Nat) : Int) ∧ μ.1 1 ((4 : Nat) : Int) ≤ 800) ∧ (∀ (v : Int) (μ' : zM), zqx μ μ' → 0 ≤ v → v ≤ 1 → (μ'.1 1 ((4 : Nat) : Int) = 0) → Q (some (.inl v)) μ')
set_option maxHeartbeats 4000000 in
theorem xm_X3_readQuestion {g : zΓ} (hg : zg g) (d : Nat) (hd : 29 ≤ d) : zOk g d 39 xk_X3_readQuestion := by
  obtain ⟨d, rfl⟩ : ∃ d', d = d' + 1 := ⟨d - 1, by omega⟩
  refine zOk_straight hg (show mt_tab[39]? = some mt_X3_readQuestion from rfl) [] 71 rfl fun As μ Q hC => ?_
  obtain ⟨a1, rfl, ha1, hp0, hp1, hQ⟩ := hC
  refine ⟨rfl, ?_⟩
  have z0 : zl0 μ μ := zl0_r μ
  refine ⟨_, zOk_tag (ym_X3_start hg d (by omega)), [.inr (.inr (50, 50)), .inr (.inr (a1, 14)), .inr (.inr (51, 200))], rfl, _, _, rfl, ha1, (Or.inr (Or.inr rfl)), hp0, hp1, ?_⟩
  intro m1 qm1 p5
  have p2 := p5.2.2.2
  have z3 : zqx μ m1 := ⟨qm1, p5.2.2.1.2.1, fun j hj => by unfold zqj at hj; exact p5.2.1 j (by omega) (by omega) (by omega) (by omega) (by omega) (by omega)⟩
  refine ⟨xk_X3_opening, xm_X3_opening hg d (by omega), rfl, ?_⟩
  intro x4 m5 qm5 kx4 lx4
  have z6 := zqx_t z3 qm5
  have : m5.1 1 ((4 : Nat) : Int) = m1.1 1 ((4 : Nat) : Int) ∨ m5.1 1 ((4 : Nat) : Int) = 0 := qm5.1.1.2.2.2.1
  refine And.intro ⟨by omega, by omega⟩ (And.intro (fun c7 => ?_) (fun c7 => ?_))
  · exact And.intro (zrtb (by omega)) (And.intro ⟨by omega, by omega⟩ (hQ _ _ z6 (by omega) (by omega) (by omega)))
  · refine ⟨(xk_X3_type 8), xm_X3_typeN hg 8 d (by omega), _, _, _, rfl, ⟨by omega, by omega⟩, ⟨by omega, by omega⟩, ⟨by omega, by omega⟩, (by omega), ?_⟩
    intro x8 m9 qm9 kx8 lx8
    have z10 := zqx_t z6 qm9
    have : m9.1 1 ((4 : Nat) : Int) = m5.1 1 ((4 : Nat) : Int) ∨ m9.1 1 ((4 : Nat) : Int) = 0 := qm9.1.1.2.2.2.1
    refine And.intro ⟨by omega, by omega⟩ (And.intro (fun c11 => ?_) (fun c11 => ?_))
    · exact And.intro (zrtb (by omega)) (And.intro ⟨by omega, by omega⟩ (hQ _ _ z10 (by omega) (by omega) (by omega)))
    · intro x12 hx12 kx12 lx12
      refine And.intro ⟨⟨by omega, by omega⟩, ⟨by omega, by omega⟩⟩ (And.intro (fun c13 => ?_) (fun c13 => ?_))
      · refine ⟨xk_X3_behindType, xm_X3_behindType hg d (by omega), _, rfl, ⟨by omega, by omega⟩, ?_⟩
        intro x14 m15 qm15 kx14 lx14
        have z16 := zqx_t z10 qm15
        have : m15.1 1 ((4 : Nat) : Int) = m9.1 1 ((4 : Nat) : Int) ∨ m15.1 1 ((4 : Nat) : Int) = 0 := qm15.1.1.2.2.2.1
        refine And.intro ⟨by omega, by omega⟩ (And.intro (fun c17 => ?_) (fun c17 => ?_))
        · refine ⟨xk_X5_step, xm_X5_step hg d (by omega), rfl, ?_⟩
          intro m18 qm18 p19
          have z20 := zqx_t z16 qm18
          have : m18.1 1 ((4 : Nat) : Int) = m15.1 1 ((4 : Nat) : Int) ∨ m18.1 1 ((4 : Nat) : Int) = 0 := qm18.1.1.2.2.2.1
          intro x21 hx21 kx21 lx21
          refine And.intro ⟨⟨by omega, by omega⟩, ⟨by omega, by omega⟩⟩ (And.intro (fun c22 => ?_) (fun c22 => ?_))
          · refine ⟨xk_X5_step, xm_X5_step hg d (by omega), rfl, ?_⟩
            intro m23 qm23 p24
            have z25 := zqx_t z20 qm23
            have : m23.1 1 ((4 : Nat) : Int) = m18.1 1 ((4 : Nat) : Int) ∨ m23.1 1 ((4 : Nat) : Int) = 0 := qm23.1.1.2.2.2.1
            intro x26 hx26 kx26 lx26
            refine And.intro ⟨by omega, by omega⟩ ?_
            intro m27 em27
            have z28 := zqx_t z25 (zqq_u em27 (Or.inl (by decide)) (Or.inl ⟨by decide, by decide⟩))
            have : m27.1 1 ((4 : Nat) : Int) = m23.1 1 ((4 : Nat) : Int) := by rw [em27]; exact congrFun (zu_ne (show (1 : Nat) ≠ 50 by omega)) _
            refine ⟨(xk_X3_type 8), xm_X3_typeN hg 8 d (by omega), _, _, _, rfl, ⟨by omega, by omega⟩, ⟨by omega, by omega⟩, ⟨by omega, by omega⟩, (by omega), ?_⟩
            intro x29 m30 qm30 kx29 lx29
            have z31 := zqx_t z28 qm30
            have : m30.1 1 ((4 : Nat) : Int) = m27.1 1 ((4 : Nat) : Int) ∨ m30.1 1 ((4 : Nat) : Int) = 0 := qm30.1.1.2.2.2.1
            refine And.intro ⟨by omega, by omega⟩ (And.intro (fun c32 => ?_) (fun c32 => ?_))
            · exact And.intro (zrtb (by omega)) (And.intro ⟨by omega, by omega⟩ (hQ _ _ z31 (by omega) (by omega) (by omega)))
            · intro x33 hx33 kx33 lx33
              refine And.intro ⟨by omega, by omega⟩ (And.intro (fun c34 => ?_) (fun c34 => ?_))
              · refine ⟨xk_X3_behindType, xm_X3_behindType hg d (by omega), _, rfl, ⟨by omega, by omega⟩, ?_⟩
                intro x35 m36 qm36 kx35 lx35
                have z37 := zqx_t z31 qm36
                have : m36.1 1 ((4 : Nat) : Int) = m30.1 1 ((4 : Nat) : Int) ∨ m36.1 1 ((4 : Nat) : Int) = 0 := qm36.1.1.2.2.2.1
                refine And.intro ⟨by omega, by omega⟩ (And.intro (fun c38 => ?_) (fun c38 => ?_))
                · exact And.intro (zrtb (by omega)) (And.intro ⟨by omega, by omega⟩ (hQ _ _ z37 (by omega) (by omega) (by omega)))
                · exact And.intro (zrtb (by omega)) (And.intro ⟨by omega, by omega⟩ (hQ _ _ z37 (by omega) (by omega) (by omega)))
              · refine ⟨xk_X3_behindType, xm_X3_behindType hg d (by omega), _, rfl, ⟨by omega, by omega⟩, ?_⟩
                intro x39 m40 qm40 kx39 lx39
                have z41 := zqx_t z31 qm40
                have : m40.1 1 ((4 : Nat) : Int) = m30.1 1 ((4 : Nat) : Int) ∨ m40.1 1 ((4 : Nat) : Int) = 0 := qm40.1.1.2.2.2.1
                refine And.intro ⟨by omega, by omega⟩ (And.intro (fun c42 => ?_) (fun c42 => ?_))
                · exact And.intro (zrtb (by omega)) (And.intro ⟨by omega, by omega⟩ (hQ _ _ z41 (by omega) (by omega) (by omega)))
                · exact And.intro (zrtb (by omega)) (And.intro ⟨by omega, by omega⟩ (hQ _ _ z41 (by omega) (by omega) (by omega)))
          · refine ⟨xk_X3_fail, xm_X3_fail hg d (by omega), _, rfl, ⟨by omega, by omega⟩, ?_⟩
            intro x43 m44 qm44 kx43 lx43
            have z45 := zqx_t z20 qm44
            have : m44.1 1 ((4 : Nat) : Int) = m18.1 1 ((4 : Nat) : Int) ∨ m44.1 1 ((4 : Nat) : Int) = 0 := qm44.1.1.2.2.2.1
            exact And.intro (zrtb (by omega)) (And.intro ⟨by omega, by omega⟩ (hQ _ _ z45 (by omega) (by omega) (by omega)))
        · exact And.intro (zrtb (by omega)) (And.intro ⟨by omega, by omega⟩ (hQ _ _ z16 (by omega) (by omega) (by omega)))
      · refine ⟨xk_X3_behindType, xm_X3_behindType hg d (by omega), _, rfl, ⟨by omega, by omega⟩, ?_⟩
        intro x46 m47 qm47 kx46 lx46
        have z48 := zqx_t z10 qm47
        have : m47.1 1 ((4 : Nat) : Int) = m9.1 1 ((4 : Nat) : Int) ∨ m47.1 1 ((4 : Nat) : Int) = 0 := qm47.1.1.2.2.2.1
        refine And.intro ⟨by omega, by omega⟩ (And.intro (fun c49 => ?_) (fun c49 => ?_))
        · refine ⟨xk_X5_step, xm_X5_step hg d (by omega), rfl, ?_⟩
          intro m50 qm50 p51
          have z52 := zqx_t z48 qm50
          have : m50.1 1 ((4 : Nat) : Int) = m47.1 1 ((4 : Nat) : Int) ∨ m50.1 1 ((4 : Nat) : Int) = 0 := qm50.1.1.2.2.2.1
          intro x53 hx53 kx53 lx53
          refine And.intro ⟨⟨by omega, by omega⟩, ⟨by omega, by omega⟩⟩ (And.intro (fun c54 => ?_) (fun c54 => ?_))
          · refine ⟨xk_X5_step, xm_X5_step hg d (by omega), rfl, ?_⟩
            intro m55 qm55 p56
            have z57 := zqx_t z52 qm55
            have : m55.1 1 ((4 : Nat) : Int) = m50.1 1 ((4 : Nat) : Int) ∨ m55.1 1 ((4 : Nat) : Int) = 0 := qm55.1.1.2.2.2.1
            intro x58 hx58 kx58 lx58
            refine And.intro ⟨by omega, by omega⟩ ?_
            intro m59 em59
            have z60 := zqx_t z57 (zqq_u em59 (Or.inl (by decide)) (Or.inl ⟨by decide, by decide⟩))
            have : m59.1 1 ((4 : Nat) : Int) = m55.1 1 ((4 : Nat) : Int) := by rw [em59]; exact congrFun (zu_ne (show (1 : Nat) ≠ 50 by omega)) _
            refine ⟨(xk_X3_type 8), xm_X3_typeN hg 8 d (by omega), _, _, _, rfl, ⟨by omega, by omega⟩, ⟨by omega, by omega⟩, ⟨by omega, by omega⟩, (by omega), ?_⟩
            intro x61 m62 qm62 kx61 lx61
            have z63 := zqx_t z60 qm62
            have : m62.1 1 ((4 : Nat) : Int) = m59.1 1 ((4 : Nat) : Int) ∨ m62.1 1 ((4 : Nat) : Int) = 0 := qm62.1.1.2.2.2.1
            refine And.intro ⟨by omega, by omega⟩ (And.intro (fun c64 => ?_) (fun c64 => ?_))
            · exact And.intro (zrtb (by omega)) (And.intro ⟨by omega, by omega⟩ (hQ _ _ z63 (by omega) (by omega) (by omega)))
            · intro x65 hx65 kx65 lx65
              refine And.intro ⟨by omega, by omega⟩ (And.intro (fun c66 => ?_) (fun c66 => ?_))
              · refine ⟨xk_X3_behindType, xm_X3_behindType hg d (by omega), _, rfl, ⟨by omega, by omega⟩, ?_⟩
                intro x67 m68 qm68 kx67 lx67
                have z69 := zqx_t z63 qm68
                have : m68.1 1 ((4 : Nat) : Int) = m62.1 1 ((4 : Nat) : Int) ∨ m68.1 1 ((4 : Nat) : Int) = 0 := qm68.1.1.2.2.2.1
                refine And.intro ⟨by omega, by omega⟩ (And.intro (fun c70 => ?_) (fun c70 => ?_))
                · exact And.intro (zrtb (by omega)) (And.intro ⟨by omega, by omega⟩ (hQ _ _ z69 (by omega) (by omega) (by omega)))
                · exact And.intro (zrtb (by omega)) (And.intro ⟨by omega, by omega⟩ (hQ _ _ z69 (by omega) (by omega) (by omega)))
              · refine ⟨xk_X3_behindType, xm_X3_behindType hg d (by omega), _, rfl, ⟨by omega, by omega⟩, ?_⟩
                intro x71 m72 qm72 kx71 lx71
                have z73 := zqx_t z63 qm72
                have : m72.1 1 ((4 : Nat) : Int) = m62.1 1 ((4 : Nat) : Int) ∨ m72.1 1 ((4 : Nat) : Int) = 0 := qm72.1.1.2.2.2.1
                refine And.intro ⟨by omega, by omega⟩ (And.intro (fun c74 => ?_) (fun c74 => ?_))
                · exact And.intro (zrtb (by omega)) (And.intro ⟨by omega, by omega⟩ (hQ _ _ z73 (by omega) (by omega) (by omega)))
                · exact And.intro (zrtb (by omega)) (And.intro ⟨by omega, by omega⟩ (hQ _ _ z73 (by omega) (by omega) (by omega)))
          · refine ⟨xk_X3_fail, xm_X3_fail hg d (by omega), _, rfl, ⟨by omega, by omega⟩, ?_⟩
            intro x75 m76 qm76 kx75 lx75
            have z77 := zqx_t z52 qm76
            have : m76.1 1 ((4 : Nat) : Int) = m50.1 1 ((4 : Nat) : Int) ∨ m76.1 1 ((4 : Nat) : Int) = 0 := qm76.1.1.2.2.2.1
            exact And.intro (zrtb (by omega)) (And.intro ⟨by omega, by omega⟩ (hQ _ _ z77 (by omega) (by omega) (by omega)))
        · exact And.intro (zrtb (by omega)) (And.intro ⟨by omega, by omega⟩ (hQ _ _ z48 (by omega) (by omega) (by omega)))
def xk_X3_readPlace : zC := fun As μ Q => ∃ (a1 : Nat), As = [.inr (.inr (50, 50)), .inr (.inr (a1, 14))] ∧ (a1 = 14 ∨ a1 = 32) ∧ (∀ i : Int, 0 ≤ i → i < μ.1 1 ((4 : Nat) : Int) → 0 ≤ μ.1 2 i ∧ μ.1 2 i ≤ 255) ∧ (0 ≤ μ.1 1 ((4 : Nat) : Int) ∧ μ.1 1 ((4 : Nat) : Int) ≤ 800) ∧ (∀ (v : Int) (μ' : zM), zqx μ μ' → 0 ≤ v → v ≤ 1 → (μ'.1 1 ((4 : Nat) : Int) = 0) → Q (some (.inl v)) μ')
set_option maxHeartbeats 4000000 in
theorem xm_X3_readPlace {g : zΓ} (hg : zg g) (d : Nat) (hd : 29 ≤ d) : zOk g d 40 xk_X3_readPlace := by
  obtain ⟨d, rfl⟩ : ∃ d', d = d' + 1 := ⟨d - 1, by omega⟩
  refine zOk_straight hg (show mt_tab[40]? = some mt_X3_readPlace from rfl) [] 74 rfl fun As μ Q hC => ?_
  obtain ⟨a1, rfl, ha1, hp0, hp1, hQ⟩ := hC
  refine ⟨rfl, ?_⟩
  have z0 : zl0 μ μ := zl0_r μ
  refine ⟨_, zOk_tag (ym_X3_start hg d (by omega)), [.inr (.inr (50, 50)), .inr (.inr (a1, 14)), .inr (.inr (51, 200))], rfl, _, _, rfl, ha1, (Or.inr (Or.inr rfl)), hp0, hp1, ?_⟩
  intro m1 qm1 p5
  have p2 := p5.2.2.2
  have z3 : zqx μ m1 := ⟨qm1, p5.2.2.1.2.1, fun j hj => by unfold zqj at hj; exact p5.2.1 j (by omega) (by omega) (by omega) (by omega) (by omega) (by omega)⟩
  refine ⟨xk_X3_opening, xm_X3_opening hg d (by omega), rfl, ?_⟩
  intro x4 m5 qm5 kx4 lx4
  have z6 := zqx_t z3 qm5
  have : m5.1 1 ((4 : Nat) : Int) = m1.1 1 ((4 : Nat) : Int) ∨ m5.1 1 ((4 : Nat) : Int) = 0 := qm5.1.1.2.2.2.1
  refine And.intro ⟨by omega, by omega⟩ (And.intro (fun c7 => ?_) (fun c7 => ?_))
  · exact And.intro (zrtb (by omega)) (And.intro ⟨by omega, by omega⟩ (hQ _ _ z6 (by omega) (by omega) (by omega)))
  · refine ⟨(xk_X3_type 8), xm_X3_typeN hg 8 d (by omega), _, _, _, rfl, ⟨by omega, by omega⟩, ⟨by omega, by omega⟩, ⟨by omega, by omega⟩, (by omega), ?_⟩
    intro x8 m9 qm9 kx8 lx8
    have z10 := zqx_t z6 qm9
    have : m9.1 1 ((4 : Nat) : Int) = m5.1 1 ((4 : Nat) : Int) ∨ m9.1 1 ((4 : Nat) : Int) = 0 := qm9.1.1.2.2.2.1
    refine And.intro ⟨by omega, by omega⟩ (And.intro (fun c11 => ?_) (fun c11 => ?_))
    · exact And.intro (zrtb (by omega)) (And.intro ⟨by omega, by omega⟩ (hQ _ _ z10 (by omega) (by omega) (by omega)))
    · intro x12 hx12 kx12 lx12
      refine And.intro ⟨⟨by omega, by omega⟩, ⟨by omega, by omega⟩⟩ (And.intro (fun c13 => ?_) (fun c13 => ?_))
      · refine ⟨xk_X3_behindType, xm_X3_behindType hg d (by omega), _, rfl, ⟨by omega, by omega⟩, ?_⟩
        intro x14 m15 qm15 kx14 lx14
        have z16 := zqx_t z10 qm15
        have : m15.1 1 ((4 : Nat) : Int) = m9.1 1 ((4 : Nat) : Int) ∨ m15.1 1 ((4 : Nat) : Int) = 0 := qm15.1.1.2.2.2.1
        refine And.intro ⟨by omega, by omega⟩ (And.intro (fun c17 => ?_) (fun c17 => ?_))
        · refine ⟨xk_X5_step, xm_X5_step hg d (by omega), rfl, ?_⟩
          intro m18 qm18 p19
          have z20 := zqx_t z16 qm18
          have : m18.1 1 ((4 : Nat) : Int) = m15.1 1 ((4 : Nat) : Int) ∨ m18.1 1 ((4 : Nat) : Int) = 0 := qm18.1.1.2.2.2.1
          intro x21 hx21 kx21 lx21
          refine And.intro ⟨⟨by omega, by omega⟩, ⟨by omega, by omega⟩⟩ (And.intro (fun c22 => ?_) (fun c22 => ?_))
          · intro t23 et23 ht23
            intro j24 hj24
            refine And.intro ht23.1 ⟨zk_X4_findClass, zm_X4_findClass hg d (by omega), _, _, rfl, ht23.1, ?_⟩
            intro x25 kx25 lx25
            refine And.intro ⟨by omega, by omega⟩ ?_
            intro m26 em26
            have z27 := zqx_t z20 (zqq_u em26 (Or.inl (by decide)) (Or.inl ⟨by decide, by decide⟩))
            have : m26.1 1 ((4 : Nat) : Int) = m18.1 1 ((4 : Nat) : Int) := by rw [em26]; exact congrFun (zu_ne (show (1 : Nat) ≠ 50 by omega)) _
            intro x28 hx28 kx28 lx28
            refine And.intro ⟨by omega, by omega⟩ (And.intro (fun c29 => ?_) (fun c29 => ?_))
            · refine ⟨xk_X5_step, xm_X5_step hg d (by omega), rfl, ?_⟩
              intro m30 qm30 p31
              have z32 := zqx_t z27 qm30
              have : m30.1 1 ((4 : Nat) : Int) = m26.1 1 ((4 : Nat) : Int) ∨ m30.1 1 ((4 : Nat) : Int) = 0 := qm30.1.1.2.2.2.1
              intro x33 hx33 kx33 lx33
              refine And.intro ⟨by omega, by omega⟩ (And.intro (fun c34 => ?_) (fun c34 => ?_))
              · exact And.intro (zrtb (by omega)) (And.intro ⟨by omega, by omega⟩ (hQ _ _ z32 (by omega) (by omega) (by omega)))
              · refine ⟨xk_X3_fail, xm_X3_fail hg d (by omega), _, rfl, ⟨by omega, by omega⟩, ?_⟩
                intro x35 m36 qm36 kx35 lx35
                have z37 := zqx_t z32 qm36
                have : m36.1 1 ((4 : Nat) : Int) = m30.1 1 ((4 : Nat) : Int) ∨ m36.1 1 ((4 : Nat) : Int) = 0 := qm36.1.1.2.2.2.1
                refine And.intro ⟨by omega, by omega⟩ (And.intro (fun c38 => ?_) (fun c38 => ?_))
                · exact And.intro (zrtb (by omega)) (And.intro ⟨by omega, by omega⟩ (hQ _ _ z37 (by omega) (by omega) (by omega)))
                · exfalso; omega
            · refine ⟨xk_X3_fail, xm_X3_fail hg d (by omega), _, rfl, ⟨by omega, by omega⟩, ?_⟩
              intro x39 m40 qm40 kx39 lx39
              have z41 := zqx_t z27 qm40
              have : m40.1 1 ((4 : Nat) : Int) = m26.1 1 ((4 : Nat) : Int) ∨ m40.1 1 ((4 : Nat) : Int) = 0 := qm40.1.1.2.2.2.1
              exact And.intro (zrtb (by omega)) (And.intro ⟨by omega, by omega⟩ (hQ _ _ z41 (by omega) (by omega) (by omega)))
          · refine ⟨xk_X3_fail, xm_X3_fail hg d (by omega), _, rfl, ⟨by omega, by omega⟩, ?_⟩
            intro x42 m43 qm43 kx42 lx42
            have z44 := zqx_t z20 qm43
            have : m43.1 1 ((4 : Nat) : Int) = m18.1 1 ((4 : Nat) : Int) ∨ m43.1 1 ((4 : Nat) : Int) = 0 := qm43.1.1.2.2.2.1
            exact And.intro (zrtb (by omega)) (And.intro ⟨by omega, by omega⟩ (hQ _ _ z44 (by omega) (by omega) (by omega)))
        · exact And.intro (zrtb (by omega)) (And.intro ⟨by omega, by omega⟩ (hQ _ _ z16 (by omega) (by omega) (by omega)))
      · refine ⟨xk_X3_behindType, xm_X3_behindType hg d (by omega), _, rfl, ⟨by omega, by omega⟩, ?_⟩
        intro x45 m46 qm46 kx45 lx45
        have z47 := zqx_t z10 qm46
        have : m46.1 1 ((4 : Nat) : Int) = m9.1 1 ((4 : Nat) : Int) ∨ m46.1 1 ((4 : Nat) : Int) = 0 := qm46.1.1.2.2.2.1
        refine And.intro ⟨by omega, by omega⟩ (And.intro (fun c48 => ?_) (fun c48 => ?_))
        · refine ⟨xk_X5_step, xm_X5_step hg d (by omega), rfl, ?_⟩
          intro m49 qm49 p50
          have z51 := zqx_t z47 qm49
          have : m49.1 1 ((4 : Nat) : Int) = m46.1 1 ((4 : Nat) : Int) ∨ m49.1 1 ((4 : Nat) : Int) = 0 := qm49.1.1.2.2.2.1
          intro x52 hx52 kx52 lx52
          refine And.intro ⟨⟨by omega, by omega⟩, ⟨by omega, by omega⟩⟩ (And.intro (fun c53 => ?_) (fun c53 => ?_))
          · intro t54 et54 ht54
            intro j55 hj55
            refine And.intro ht54.1 ⟨zk_X4_findClass, zm_X4_findClass hg d (by omega), _, _, rfl, ht54.1, ?_⟩
            intro x56 kx56 lx56
            refine And.intro ⟨by omega, by omega⟩ ?_
            intro m57 em57
            have z58 := zqx_t z51 (zqq_u em57 (Or.inl (by decide)) (Or.inl ⟨by decide, by decide⟩))
            have : m57.1 1 ((4 : Nat) : Int) = m49.1 1 ((4 : Nat) : Int) := by rw [em57]; exact congrFun (zu_ne (show (1 : Nat) ≠ 50 by omega)) _
            intro x59 hx59 kx59 lx59
            refine And.intro ⟨by omega, by omega⟩ (And.intro (fun c60 => ?_) (fun c60 => ?_))
            · refine ⟨xk_X5_step, xm_X5_step hg d (by omega), rfl, ?_⟩
              intro m61 qm61 p62
              have z63 := zqx_t z58 qm61
              have : m61.1 1 ((4 : Nat) : Int) = m57.1 1 ((4 : Nat) : Int) ∨ m61.1 1 ((4 : Nat) : Int) = 0 := qm61.1.1.2.2.2.1
              intro x64 hx64 kx64 lx64
              refine And.intro ⟨by omega, by omega⟩ (And.intro (fun c65 => ?_) (fun c65 => ?_))
              · exact And.intro (zrtb (by omega)) (And.intro ⟨by omega, by omega⟩ (hQ _ _ z63 (by omega) (by omega) (by omega)))
              · refine ⟨xk_X3_fail, xm_X3_fail hg d (by omega), _, rfl, ⟨by omega, by omega⟩, ?_⟩
                intro x66 m67 qm67 kx66 lx66
                have z68 := zqx_t z63 qm67
                have : m67.1 1 ((4 : Nat) : Int) = m61.1 1 ((4 : Nat) : Int) ∨ m67.1 1 ((4 : Nat) : Int) = 0 := qm67.1.1.2.2.2.1
                refine And.intro ⟨by omega, by omega⟩ (And.intro (fun c69 => ?_) (fun c69 => ?_))
                · exact And.intro (zrtb (by omega)) (And.intro ⟨by omega, by omega⟩ (hQ _ _ z68 (by omega) (by omega) (by omega)))
                · exfalso; omega
            · refine ⟨xk_X3_fail, xm_X3_fail hg d (by omega), _, rfl, ⟨by omega, by omega⟩, ?_⟩
              intro x70 m71 qm71 kx70 lx70
              have z72 := zqx_t z58 qm71
              have : m71.1 1 ((4 : Nat) : Int) = m57.1 1 ((4 : Nat) : Int) ∨ m71.1 1 ((4 : Nat) : Int) = 0 := qm71.1.1.2.2.2.1
              exact And.intro (zrtb (by omega)) (And.intro ⟨by omega, by omega⟩ (hQ _ _ z72 (by omega) (by omega) (by omega)))
          · refine ⟨xk_X3_fail, xm_X3_fail hg d (by omega), _, rfl, ⟨by omega, by omega⟩, ?_⟩
            intro x73 m74 qm74 kx73 lx73
            have z75 := zqx_t z51 qm74
            have : m74.1 1 ((4 : Nat) : Int) = m49.1 1 ((4 : Nat) : Int) ∨ m74.1 1 ((4 : Nat) : Int) = 0 := qm74.1.1.2.2.2.1
            exact And.intro (zrtb (by omega)) (And.intro ⟨by omega, by omega⟩ (hQ _ _ z75 (by omega) (by omega) (by omega)))
        · exact And.intro (zrtb (by omega)) (And.intro ⟨by omega, by omega⟩ (hQ _ _ z47 (by omega) (by omega) (by omega)))
/-! ### ask, above: the tables stay -/
def zyj (j : Nat) : Prop := (6 ≤ j ∧ j < 10) ∨ (14 ≤ j ∧ j < 50) ∨ (109 ≤ j ∧ j < 1000000) ∨ (3000014 ≤ j ∧ j < 3000050)
def zqy (μ μ' : zM) : Prop := zl0 μ μ' ∧ (μ'.1 0 ((3 : Nat) : Int) = μ.1 0 ((3 : Nat) : Int) ∧ μ'.1 0 ((4 : Nat) : Int) = μ.1 0 ((4 : Nat) : Int)) ∧ ∀ j : Nat, zyj j → μ'.1 j = μ.1 j
theorem zqy_r (μ : zM) : zqy μ μ := ⟨zl0_r μ, ⟨rfl, rfl⟩, fun _ _ => rfl⟩
theorem zqy_t {a b c : zM} (h1 : zqy a b) (h2 : zqy b c) : zqy a c := ⟨zl0_t h1.1 h2.1, ⟨h2.2.1.1.trans h1.2.1.1, h2.2.1.2.trans h1.2.1.2⟩, fun j hj => (h2.2.2 j hj).trans (h1.2.2 j hj)⟩
theorem zqy_x {a b : zM} (h : zqx a b) : zqy a b := ⟨h.1, by rw [h.2.2 0 (Or.inl rfl)]; exact ⟨rfl, rfl⟩, fun j hj => h.2.2 j (by unfold zyj at hj; unfold zqj; omega)⟩
theorem zqy_0 {a b : zM} (h : zq0 a b) : zqy a b := ⟨h.1, by rw [h.2 0 (by decide)]; exact ⟨rfl, rfl⟩, fun j hj => h.2 j (by unfold zyj at hj; omega)⟩
theorem zqy_u {μ μ' : zM} {t : Nat} {k x : Int} (he : μ' = zu μ t k x) (h1 : t < 66 ∨ (109 ≤ t ∧ t < 1000000) ∨ (3000000 ≤ t ∧ t < 3000066) ∨ (5000000 ≤ t ∧ t < 5000066)) (h2 : (t ≠ 26 ∧ t ≠ 44) ∨ k ≠ 5) (h3 : (t = 0 ∧ k ≠ ((3 : Nat) : Int) ∧ k ≠ ((4 : Nat) : Int)) ∨ (10 ≤ t ∧ t ≤ 13) ∨ (52 ≤ t ∧ t < 66) := by first | exact Or.inl ⟨by decide, by decide, by decide⟩ | exact Or.inr (by decide)) : zqy μ μ' := by
  refine ⟨zl0_u he h1 h2 (Or.inl (by omega)), ?_, fun j hj => ?_⟩
  · rcases h3 with h | h
    · rw [he, h.1, zu_nk (by omega), zu_nk (by omega)]; exact ⟨rfl, rfl⟩
    · rw [he, zu_ne (by omega)]; exact ⟨rfl, rfl⟩
  · unfold zyj at hj
    rw [he, zu_ne (by omega)]
def xt_X8_ask (As : List zV) (μ : zM) (Q : Option zV → zM → Prop) (T : Nat → zM → Prop) : Prop := ∃ (a1 : Int), As = [.inr (.inr (0, 0)), .inl a1] ∧ ((-2147483648) ≤ a1 ∧ a1 ≤ 2147483647) ∧ (∀ i : Int, 0 ≤ i → i < μ.1 1 ((4 : Nat) : Int) → 0 ≤ μ.1 2 i ∧ μ.1 2 i ≤ 255) ∧ (0 ≤ μ.1 1 ((4 : Nat) : Int) ∧ μ.1 1 ((4 : Nat) : Int) ≤ 800) ∧ (∀ (v : Int) (μ' : zM), zqy μ μ' → (-2147483648) ≤ v → v ≤ 2147483647 → (μ'.1 1 ((4 : Nat) : Int) = 0) → (0 ≤ a1 ∧ a1 ≤ 3000) → Q (some (.inl v)) μ') ∧ ((a1 < 0 ∨ 3000 < a1) → T 11 μ)
set_option maxHeartbeats 4000000 in
theorem xx_X8_ask {g : zΓ} (hg : zg g) (d : Nat) (hd : 132 ≤ d) {As : List zV} {μ : zM} {Q : Option zV → zM → Prop} {T : Nat → zM → Prop} {w : mW} (hw : zRep μ w) (hr : ∀ v ∈ As, zrf v) (hC : xt_X8_ask As μ Q T) : Nat.ble (zsum As) mt_X8_ask.2.2.1.1 = true ∧ zE g d mt_X8_ask none [] (fun _ _ _ => False) Q T (0, zlv (zargs 0 As), [], w) := by
  refine zx_line hg (show mt_tab[105]? = some mt_X8_ask from rfl) [57] 81 rfl hw hr ?_
  obtain ⟨a1, rfl, ha1, hp0, hp1, hQ, hT11⟩ := hC
  refine ⟨rfl, ?_⟩
  have z0 : zqy μ μ := zqy_r μ
  refine And.intro ⟨by omega, by omega⟩ (And.intro (fun c1 => ?_) (fun c1 => ?_))
  · exact hT11 (by omega)
  · refine And.intro ⟨⟨by omega, by omega⟩, ⟨by omega, by omega⟩⟩ (And.intro (fun c2 => ?_) (fun c2 => ?_))
    · intro t3 et3 ht3
      refine ⟨xk_X3_readQuestion, xm_X3_readQuestion hg d (by omega), _, rfl, ht3.1, hp0, hp1, ?_⟩
      intro x4 m5 qm5 kx4 lx4 p6
      have z7 := zqy_t z0 (zqy_x qm5)
      intro x8 hx8 kx8 lx8
      refine And.intro ⟨by omega, by omega⟩ ?_
      intro m9 em9
      have z10 := zqy_t z7 (zqy_u em9 (Or.inl (by decide)) (Or.inl ⟨by decide, by decide⟩))
      have : m9.1 1 ((4 : Nat) : Int) = m5.1 1 ((4 : Nat) : Int) := by rw [em9]; exact congrFun (zu_ne (show (1 : Nat) ≠ 0 by omega)) _
      refine And.intro ⟨by omega, by omega⟩ (And.intro (fun c11 => ?_) (fun c11 => ?_))
      · intro t12 et12 ht12
        intro x13 hx13 kx13 lx13
        refine ⟨xk_X0_startOver, xm_X0_startOver hg d (by omega), _, _, rfl, ht12.1, ⟨by omega, by omega⟩, ?_⟩
        intro m14 qm14
        have z15 := zqy_t z10 (zqy_0 qm14)
        have : m14.1 1 ((4 : Nat) : Int) = m9.1 1 ((4 : Nat) : Int) ∨ m14.1 1 ((4 : Nat) : Int) = 0 := qm14.1.1.2.2.2.1
        intro t16 et16 ht16
        intro x17 hx17 kx17 lx17
        refine ⟨_, zOk_tag (xm_X0_nodeOf hg d (by omega)), [.inr (.inr (52, 52)), .inr (.inr (t16, 1001)), .inl 0, .inl x17], rfl, _, _, _, rfl, (zIa_200 ht16.1), ⟨by omega, by omega⟩, ⟨by omega, by omega⟩, ?_⟩
        intro x18 m19 qm19 kx18 lx18
        have z20 := zqy_t z15 (zqy_0 qm19)
        have : m19.1 1 ((4 : Nat) : Int) = m14.1 1 ((4 : Nat) : Int) ∨ m19.1 1 ((4 : Nat) : Int) = 0 := qm19.1.1.2.2.2.1
        intro t21 et21 ht21
        intro x22 hx22 kx22 lx22
        intro x23 hx23 kx23 lx23
        intro x24 hx24 kx24 lx24
        refine ⟨_, zOk_tag (xm_X0_nodeOf hg d (by omega)), [.inr (.inr (52, 52)), .inr (.inr (t21, 1001)), .inl x22, .inl (x23 - x24)], rfl, _, _, _, rfl, (zIa_200 ht21.1), ⟨by omega, by omega⟩, ⟨by omega, by omega⟩, ?_⟩
        intro x25 m26 qm26 kx25 lx25
        have z27 := zqy_t z20 (zqy_0 qm26)
        have : m26.1 1 ((4 : Nat) : Int) = m19.1 1 ((4 : Nat) : Int) ∨ m26.1 1 ((4 : Nat) : Int) = 0 := qm26.1.1.2.2.2.1
        refine And.intro ⟨by omega, by omega⟩ ?_
        intro m28 em28
        have z29 := zqy_t z27 (zqy_u em28 (Or.inl (by decide)) (Or.inl ⟨by decide, by decide⟩))
        have : m28.1 1 ((4 : Nat) : Int) = m26.1 1 ((4 : Nat) : Int) := by rw [em28]; exact congrFun (zu_ne (show (1 : Nat) ≠ 52 by omega)) _
        refine ⟨(xk_X0_below 41), xm_X0_belowN hg 41 d (by omega), _, _, _, rfl, ⟨by omega, by omega⟩, ⟨by omega, by omega⟩, ⟨by omega, by omega⟩, (by omega), ?_⟩
        intro x30 m31 qm31 kx30 lx30
        have z32 := zqy_t z29 (zqy_0 qm31)
        have : m31.1 1 ((4 : Nat) : Int) = m28.1 1 ((4 : Nat) : Int) ∨ m31.1 1 ((4 : Nat) : Int) = 0 := qm31.1.1.2.2.2.1
        exact And.intro trivial (And.intro ⟨by omega, by omega⟩ (hQ _ _ z32 (by omega) (by omega) (by omega) (by omega)))
      · intro x33 hx33 kx33 lx33
        intro x34 hx34 kx34 lx34
        exact And.intro trivial (And.intro ⟨by omega, by omega⟩ (hQ _ _ z10 (by omega) (by omega) (by omega) (by omega)))
    · exact hT11 (by omega)
def xk_X8_above : zC := fun As μ Q => As = [.inr (.inr (0, 0))] ∧ (∀ i : Int, 0 ≤ i → i < μ.1 1 ((4 : Nat) : Int) → 0 ≤ μ.1 2 i ∧ μ.1 2 i ≤ 255) ∧ (0 ≤ μ.1 1 ((4 : Nat) : Int) ∧ μ.1 1 ((4 : Nat) : Int) ≤ 800) ∧ (∀ (v : Int) (μ' : zM), zqy μ μ' → (-2147483648) ≤ v → v ≤ 2147483647 → (μ'.1 1 ((4 : Nat) : Int) = 0) → Q (some (.inl v)) μ')
set_option maxHeartbeats 4000000 in
theorem xm_X8_above {g : zΓ} (hg : zg g) (d : Nat) (hd : 30 ≤ d) : zOk g d 107 xk_X8_above := by
  obtain ⟨d, rfl⟩ : ∃ d', d = d' + 1 := ⟨d - 1, by omega⟩
  refine zOk_straight hg (show mt_tab[107]? = some mt_X8_above from rfl) [36] 68 rfl fun As μ Q hC => ?_
  obtain ⟨rfl, hp0, hp1, hQ⟩ := hC
  refine ⟨rfl, ?_⟩
  have z0 : zqy μ μ := zqy_r μ
  intro t1 et1 ht1
  refine ⟨xk_X3_readPlace, xm_X3_readPlace hg d (by omega), _, rfl, ht1.1, hp0, hp1, ?_⟩
  intro x2 m3 qm3 kx2 lx2 p4
  have z5 := zqy_t z0 (zqy_x qm3)
  intro x6 hx6 kx6 lx6
  refine And.intro ⟨by omega, by omega⟩ ?_
  intro m7 em7
  have z8 := zqy_t z5 (zqy_u em7 (Or.inl (by decide)) (Or.inl ⟨by decide, by decide⟩))
  have : m7.1 1 ((4 : Nat) : Int) = m3.1 1 ((4 : Nat) : Int) := by rw [em7]; exact congrFun (zu_ne (show (1 : Nat) ≠ 0 by omega)) _
  refine And.intro ⟨by omega, by omega⟩ (And.intro (fun c9 => ?_) (fun c9 => ?_))
  · intro t10 et10 ht10
    intro x11 hx11 kx11 lx11
    refine ⟨xk_X0_startOver, xm_X0_startOver hg d (by omega), _, _, rfl, ht10.1, ⟨by omega, by omega⟩, ?_⟩
    intro m12 qm12
    have z13 := zqy_t z8 (zqy_0 qm12)
    have : m12.1 1 ((4 : Nat) : Int) = m7.1 1 ((4 : Nat) : Int) ∨ m12.1 1 ((4 : Nat) : Int) = 0 := qm12.1.1.2.2.2.1
    intro t14 et14 ht14
    intro x15 hx15 kx15 lx15
    refine ⟨_, zOk_tag (xm_X0_nodeOf hg d (by omega)), [.inr (.inr (52, 52)), .inr (.inr (t14, 1001)), .inl 0, .inl x15], rfl, _, _, _, rfl, (zIa_200 ht14.1), ⟨by omega, by omega⟩, ⟨by omega, by omega⟩, ?_⟩
    intro x16 m17 qm17 kx16 lx16
    have z18 := zqy_t z13 (zqy_0 qm17)
    have : m17.1 1 ((4 : Nat) : Int) = m12.1 1 ((4 : Nat) : Int) ∨ m17.1 1 ((4 : Nat) : Int) = 0 := qm17.1.1.2.2.2.1
    intro x19 hx19 kx19 lx19
    refine ⟨xk_X0_nodeAbove, xm_X0_nodeAbove hg d (by omega), _, _, rfl, ⟨by omega, by omega⟩, ⟨by omega, by omega⟩, ?_⟩
    intro x20 m21 qm21 kx20 lx20
    have z22 := zqy_t z18 (zqy_0 qm21)
    have : m21.1 1 ((4 : Nat) : Int) = m17.1 1 ((4 : Nat) : Int) ∨ m21.1 1 ((4 : Nat) : Int) = 0 := qm21.1.1.2.2.2.1
    refine And.intro ⟨⟨by omega, by omega⟩, ⟨by omega, by omega⟩⟩ (And.intro (fun c23 => ?_) (fun c23 => ?_))
    · refine And.intro ⟨by omega, by omega⟩ (And.intro (fun c24 => ?_) (fun c24 => ?_))
      · intro t25 et25 ht25
        refine ⟨xk_X2_writeType, xm_X2_writeType hg d (by omega), _, _, rfl, ht25.1, ⟨by omega, by omega⟩, ?_⟩
        intro x26 m27 qm27 kx26 lx26 p28
        have z29 := zqy_t z22 (zqy_0 qm27)
        have : m27.1 1 ((4 : Nat) : Int) = m21.1 1 ((4 : Nat) : Int) := p28
        exact And.intro trivial (And.intro ⟨by omega, by omega⟩ (hQ _ _ z29 (by omega) (by omega) (by omega)))
      · exact And.intro trivial (And.intro ⟨by omega, by omega⟩ (hQ _ _ z22 (by omega) (by omega) (by omega)))
    · exact And.intro trivial (And.intro ⟨by omega, by omega⟩ (hQ _ _ z22 (by omega) (by omega) (by omega)))
  · intro x30 hx30 kx30 lx30
    intro x31 hx31 kx31 lx31
    exact And.intro trivial (And.intro ⟨by omega, by omega⟩ (hQ _ _ z8 (by omega) (by omega) (by omega)))
