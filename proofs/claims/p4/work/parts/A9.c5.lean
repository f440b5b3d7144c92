/-! ### tables and questions are read -/
def zk_X3_bounds : zC := fun As μ Q => As = [.inr (.inr (50, 50))] ∧ (∀ (v : Int) (μ' : zM), zl0 μ μ' → 0 ≤ v → v ≤ 1 → Q (some (.inl v)) μ')
set_option maxHeartbeats 4000000 in
theorem zm_X3_bounds {g : zΓ} (hg : zg g) (d : Nat) (hd : 29 ≤ d) : zOk g d 44 zk_X3_bounds := by
  obtain ⟨d, rfl⟩ : ∃ d', d = d' + 1 := ⟨d - 1, by omega⟩
  refine zOk_loop hg (show mt_tab[44]? = some mt_X3_bounds from rfl) ([(4, [0, 1, 2])], []) 81 rfl fun As μ Q hC => ?_
  obtain ⟨rfl, hQ⟩ := hC
  have z0 : zl0 μ μ := zl0_r μ
  refine ⟨rfl, fun pc vs μ' n => ∃ (v1 : Int) (v2 : Int), vs = [.inr (.inr (50, 50)), .inl v1, .inl v2] ∧ zl0 μ μ' ∧ ((-2147483648) ≤ v1 ∧ v1 ≤ 2147483647) ∧ (0 ≤ v2 ∧ v2 ≤ 2147483647) ∧ n = (Int.toNat (2147483648 - v2)), ?_, ?_, trivial⟩
  · refine Exists.intro (Int.toNat (2147483648 - 0)) ?_
    exact ⟨_, _, rfl, z0, ⟨by omega, by omega⟩, ⟨by omega, by omega⟩, rfl⟩
  · intro vs m0 n hI
    clear z0
    obtain ⟨v1, v2, rfl, z0, hv1, hv2, rfl⟩ := hI
    refine And.intro ⟨⟨by omega, by omega⟩, ⟨by omega, by omega⟩⟩ (And.intro (fun c1 => ?_) (fun c1 => ?_))
    · refine ⟨zk_X3_fail, zm_X3_fail hg d (by omega), _, rfl, ⟨by omega, by omega⟩, ?_⟩
      intro x2 m3 qm3 kx2 lx2
      have z4 := zl0_t z0 qm3
      exact And.intro (zrtb (by omega)) (And.intro ⟨by omega, by omega⟩ (hQ _ _ z4 (by omega) (by omega)))
    · intro x5 hx5 kx5 lx5
      refine And.intro ⟨⟨by omega, by omega⟩, ⟨by omega, by omega⟩⟩ (And.intro (fun c6 => ?_) (fun c6 => ?_))
      · refine ⟨zk_X5_step, zm_X5_step hg d (by omega), rfl, ?_⟩
        intro m7 qm7 p8
        have z9 := zl0_t z0 qm7
        intro x10 hx10 kx10 lx10
        intro t11 et11 ht11
        refine And.intro ht11.1 ?_
        refine ⟨zk_X8_at, zm_X8_at hg d (by omega), _, _, _, rfl, ⟨by omega, by omega⟩, ?_⟩
        refine And.intro (zfa (o := 8) (y2 := 22) ht11.1 rfl) ?_
        intro x12 kx12 lx12 fx12 gx12
        refine And.intro ⟨⟨by omega, by omega⟩, ⟨by omega, by omega⟩⟩ (And.intro (fun c13 => ?_) (fun c13 => ?_))
        · refine ⟨(zk_X3_type 8), zm_X3_typeN hg 8 d (by omega), _, _, _, rfl, ⟨by omega, by omega⟩, ⟨by omega, by omega⟩, ⟨by omega, by omega⟩, (by omega), ?_⟩
          intro x14 m15 qm15 kx14 lx14
          have z16 := zl0_t z9 qm15
          refine And.intro ⟨by omega, by omega⟩ (And.intro (fun c17 => ?_) (fun c17 => ?_))
          · exact And.intro (zrtb (by omega)) (And.intro ⟨by omega, by omega⟩ (hQ _ _ z16 (by omega) (by omega)))
          · intro x18 hx18 kx18 lx18
            refine ⟨zk_X3_isBehindBound, zm_X3_isBehindBound hg d (by omega), _, rfl, ⟨by omega, by omega⟩, ?_⟩
            intro x19 kx19 lx19
            refine ⟨zk_X3_behindType, zm_X3_behindType hg d (by omega), _, rfl, ⟨by omega, by omega⟩, ?_⟩
            intro x20 m21 qm21 kx20 lx20
            have z22 := zl0_t z16 qm21
            refine And.intro ⟨by omega, by omega⟩ (And.intro (fun c23 => ?_) (fun c23 => ?_))
            · intro t24 et24 ht24
              intro x25 hx25 kx25 lx25
              refine And.intro ht24.1 ⟨zk_X4_addBound, zm_X4_addBound hg d (by omega), _, _, _, _, rfl, ht24.1, ⟨by omega, by omega⟩, ⟨by omega, by omega⟩, ⟨by omega, by omega⟩, ?_⟩
              intro m26 qm26
              have z27 := zl0_t z22 qm26
              intro x28 hx28 kx28 lx28
              refine And.intro ⟨⟨by omega, by omega⟩, ⟨by omega, by omega⟩⟩ (And.intro (fun c29 => ?_) (fun c29 => ?_))
              · exact And.intro (zrtb (by omega)) (And.intro ⟨by omega, by omega⟩ (hQ _ _ z27 (by omega) (by omega)))
              · intro x30 hx30 kx30 lx30
                refine And.intro ⟨⟨by omega, by omega⟩, ⟨by omega, by omega⟩⟩ (And.intro (fun c31 => ?_) (fun c31 => ?_))
                · refine Exists.intro (Int.toNat (2147483648 - (v2 + 1))) (And.intro (by omega) ?_)
                  exact ⟨_, _, rfl, z27, ⟨by omega, by omega⟩, ⟨by omega, by omega⟩, rfl⟩
                · exact And.intro (zrtb (by omega)) (And.intro ⟨by omega, by omega⟩ (hQ _ _ z27 (by omega) (by omega)))
            · exact And.intro (zrtb (by omega)) (And.intro ⟨by omega, by omega⟩ (hQ _ _ z22 (by omega) (by omega)))
        · refine ⟨(zk_X3_type 8), zm_X3_typeN hg 8 d (by omega), _, _, _, rfl, ⟨by omega, by omega⟩, ⟨by omega, by omega⟩, ⟨by omega, by omega⟩, (by omega), ?_⟩
          intro x32 m33 qm33 kx32 lx32
          have z34 := zl0_t z9 qm33
          refine And.intro ⟨by omega, by omega⟩ (And.intro (fun c35 => ?_) (fun c35 => ?_))
          · exact And.intro (zrtb (by omega)) (And.intro ⟨by omega, by omega⟩ (hQ _ _ z34 (by omega) (by omega)))
          · intro x36 hx36 kx36 lx36
            refine ⟨zk_X3_isBehindBound, zm_X3_isBehindBound hg d (by omega), _, rfl, ⟨by omega, by omega⟩, ?_⟩
            intro x37 kx37 lx37
            refine ⟨zk_X3_behindType, zm_X3_behindType hg d (by omega), _, rfl, ⟨by omega, by omega⟩, ?_⟩
            intro x38 m39 qm39 kx38 lx38
            have z40 := zl0_t z34 qm39
            refine And.intro ⟨by omega, by omega⟩ (And.intro (fun c41 => ?_) (fun c41 => ?_))
            · intro t42 et42 ht42
              intro x43 hx43 kx43 lx43
              refine And.intro ht42.1 ⟨zk_X4_addBound, zm_X4_addBound hg d (by omega), _, _, _, _, rfl, ht42.1, ⟨by omega, by omega⟩, ⟨by omega, by omega⟩, ⟨by omega, by omega⟩, ?_⟩
              intro m44 qm44
              have z45 := zl0_t z40 qm44
              intro x46 hx46 kx46 lx46
              refine And.intro ⟨⟨by omega, by omega⟩, ⟨by omega, by omega⟩⟩ (And.intro (fun c47 => ?_) (fun c47 => ?_))
              · exact And.intro (zrtb (by omega)) (And.intro ⟨by omega, by omega⟩ (hQ _ _ z45 (by omega) (by omega)))
              · intro x48 hx48 kx48 lx48
                refine And.intro ⟨⟨by omega, by omega⟩, ⟨by omega, by omega⟩⟩ (And.intro (fun c49 => ?_) (fun c49 => ?_))
                · refine Exists.intro (Int.toNat (2147483648 - (v2 + 1))) (And.intro (by omega) ?_)
                  exact ⟨_, _, rfl, z45, ⟨by omega, by omega⟩, ⟨by omega, by omega⟩, rfl⟩
                · exact And.intro (zrtb (by omega)) (And.intro ⟨by omega, by omega⟩ (hQ _ _ z45 (by omega) (by omega)))
            · exact And.intro (zrtb (by omega)) (And.intro ⟨by omega, by omega⟩ (hQ _ _ z40 (by omega) (by omega)))
      · refine ⟨zk_X3_boundName, zm_X3_boundName hg d (by omega), rfl, ?_⟩
        intro x50 m51 qm51 kx50 lx50
        have z52 := zl0_t z0 qm51
        refine And.intro ⟨by omega, by omega⟩ (And.intro (fun c53 => ?_) (fun c53 => ?_))
        · refine ⟨zk_X5_step, zm_X5_step hg d (by omega), rfl, ?_⟩
          intro m54 qm54 p55
          have z56 := zl0_t z52 qm54
          intro x57 hx57 kx57 lx57
          intro t58 et58 ht58
          refine And.intro ht58.1 ?_
          refine ⟨zk_X8_at, zm_X8_at hg d (by omega), _, _, _, rfl, ⟨by omega, by omega⟩, ?_⟩
          refine And.intro (zfa (o := 8) (y2 := 22) ht58.1 rfl) ?_
          intro x59 kx59 lx59 fx59 gx59
          refine And.intro ⟨⟨by omega, by omega⟩, ⟨by omega, by omega⟩⟩ (And.intro (fun c60 => ?_) (fun c60 => ?_))
          · refine ⟨(zk_X3_type 8), zm_X3_typeN hg 8 d (by omega), _, _, _, rfl, ⟨by omega, by omega⟩, ⟨by omega, by omega⟩, ⟨by omega, by omega⟩, (by omega), ?_⟩
            intro x61 m62 qm62 kx61 lx61
            have z63 := zl0_t z56 qm62
            refine And.intro ⟨by omega, by omega⟩ (And.intro (fun c64 => ?_) (fun c64 => ?_))
            · exact And.intro (zrtb (by omega)) (And.intro ⟨by omega, by omega⟩ (hQ _ _ z63 (by omega) (by omega)))
            · intro x65 hx65 kx65 lx65
              refine ⟨zk_X3_isBehindBound, zm_X3_isBehindBound hg d (by omega), _, rfl, ⟨by omega, by omega⟩, ?_⟩
              intro x66 kx66 lx66
              refine ⟨zk_X3_behindType, zm_X3_behindType hg d (by omega), _, rfl, ⟨by omega, by omega⟩, ?_⟩
              intro x67 m68 qm68 kx67 lx67
              have z69 := zl0_t z63 qm68
              refine And.intro ⟨by omega, by omega⟩ (And.intro (fun c70 => ?_) (fun c70 => ?_))
              · intro t71 et71 ht71
                intro x72 hx72 kx72 lx72
                refine And.intro ht71.1 ⟨zk_X4_addBound, zm_X4_addBound hg d (by omega), _, _, _, _, rfl, ht71.1, ⟨by omega, by omega⟩, ⟨by omega, by omega⟩, ⟨by omega, by omega⟩, ?_⟩
                intro m73 qm73
                have z74 := zl0_t z69 qm73
                intro x75 hx75 kx75 lx75
                refine And.intro ⟨⟨by omega, by omega⟩, ⟨by omega, by omega⟩⟩ (And.intro (fun c76 => ?_) (fun c76 => ?_))
                · exact And.intro (zrtb (by omega)) (And.intro ⟨by omega, by omega⟩ (hQ _ _ z74 (by omega) (by omega)))
                · intro x77 hx77 kx77 lx77
                  refine And.intro ⟨⟨by omega, by omega⟩, ⟨by omega, by omega⟩⟩ (And.intro (fun c78 => ?_) (fun c78 => ?_))
                  · refine Exists.intro (Int.toNat (2147483648 - (v2 + 1))) (And.intro (by omega) ?_)
                    exact ⟨_, _, rfl, z74, ⟨by omega, by omega⟩, ⟨by omega, by omega⟩, rfl⟩
                  · exact And.intro (zrtb (by omega)) (And.intro ⟨by omega, by omega⟩ (hQ _ _ z74 (by omega) (by omega)))
              · exact And.intro (zrtb (by omega)) (And.intro ⟨by omega, by omega⟩ (hQ _ _ z69 (by omega) (by omega)))
          · refine ⟨(zk_X3_type 8), zm_X3_typeN hg 8 d (by omega), _, _, _, rfl, ⟨by omega, by omega⟩, ⟨by omega, by omega⟩, ⟨by omega, by omega⟩, (by omega), ?_⟩
            intro x79 m80 qm80 kx79 lx79
            have z81 := zl0_t z56 qm80
            refine And.intro ⟨by omega, by omega⟩ (And.intro (fun c82 => ?_) (fun c82 => ?_))
            · exact And.intro (zrtb (by omega)) (And.intro ⟨by omega, by omega⟩ (hQ _ _ z81 (by omega) (by omega)))
            · intro x83 hx83 kx83 lx83
              refine ⟨zk_X3_isBehindBound, zm_X3_isBehindBound hg d (by omega), _, rfl, ⟨by omega, by omega⟩, ?_⟩
              intro x84 kx84 lx84
              refine ⟨zk_X3_behindType, zm_X3_behindType hg d (by omega), _, rfl, ⟨by omega, by omega⟩, ?_⟩
              intro x85 m86 qm86 kx85 lx85
              have z87 := zl0_t z81 qm86
              refine And.intro ⟨by omega, by omega⟩ (And.intro (fun c88 => ?_) (fun c88 => ?_))
              · intro t89 et89 ht89
                intro x90 hx90 kx90 lx90
                refine And.intro ht89.1 ⟨zk_X4_addBound, zm_X4_addBound hg d (by omega), _, _, _, _, rfl, ht89.1, ⟨by omega, by omega⟩, ⟨by omega, by omega⟩, ⟨by omega, by omega⟩, ?_⟩
                intro m91 qm91
                have z92 := zl0_t z87 qm91
                intro x93 hx93 kx93 lx93
                refine And.intro ⟨⟨by omega, by omega⟩, ⟨by omega, by omega⟩⟩ (And.intro (fun c94 => ?_) (fun c94 => ?_))
                · exact And.intro (zrtb (by omega)) (And.intro ⟨by omega, by omega⟩ (hQ _ _ z92 (by omega) (by omega)))
                · intro x95 hx95 kx95 lx95
                  refine And.intro ⟨⟨by omega, by omega⟩, ⟨by omega, by omega⟩⟩ (And.intro (fun c96 => ?_) (fun c96 => ?_))
                  · refine Exists.intro (Int.toNat (2147483648 - (v2 + 1))) (And.intro (by omega) ?_)
                    exact ⟨_, _, rfl, z92, ⟨by omega, by omega⟩, ⟨by omega, by omega⟩, rfl⟩
                  · exact And.intro (zrtb (by omega)) (And.intro ⟨by omega, by omega⟩ (hQ _ _ z92 (by omega) (by omega)))
              · exact And.intro (zrtb (by omega)) (And.intro ⟨by omega, by omega⟩ (hQ _ _ z87 (by omega) (by omega)))
        · exact And.intro (zrtb (by omega)) (And.intro ⟨by omega, by omega⟩ (hQ _ _ z52 (by omega) (by omega)))
def zk_X3_supers : zC := fun As μ Q => As = [.inr (.inr (50, 50))] ∧ (∀ (v : Int) (μ' : zM), zl0 μ μ' → 0 ≤ v → v ≤ 1 → Q (some (.inl v)) μ')
set_option maxHeartbeats 4000000 in
theorem zm_X3_supers {g : zΓ} (hg : zg g) (d : Nat) (hd : 29 ≤ d) : zOk g d 47 zk_X3_supers := by
  obtain ⟨d, rfl⟩ : ∃ d', d = d' + 1 := ⟨d - 1, by omega⟩
  refine zOk_loop hg (show mt_tab[47]? = some mt_X3_supers from rfl) ([(2, [0, 1])], []) 64 rfl fun As μ Q hC => ?_
  obtain ⟨rfl, hQ⟩ := hC
  have z0 : zl0 μ μ := zl0_r μ
  refine ⟨rfl, fun pc vs μ' n => ∃ (v1 : Int), vs = [.inr (.inr (50, 50)), .inl v1] ∧ zl0 μ μ' ∧ (0 ≤ v1 ∧ v1 ≤ 2147483647) ∧ n = (Int.toNat (2147483648 - v1)), ?_, ?_, trivial⟩
  · refine Exists.intro (Int.toNat (2147483648 - 0)) ?_
    exact ⟨_, rfl, z0, ⟨by omega, by omega⟩, rfl⟩
  · intro vs m0 n hI
    clear z0
    obtain ⟨v1, rfl, z0, hv1, rfl⟩ := hI
    refine And.intro ⟨⟨by omega, by omega⟩, ⟨by omega, by omega⟩⟩ (And.intro (fun c1 => ?_) (fun c1 => ?_))
    · refine ⟨zk_X3_fail, zm_X3_fail hg d (by omega), _, rfl, ⟨by omega, by omega⟩, ?_⟩
      intro x2 m3 qm3 kx2 lx2
      have z4 := zl0_t z0 qm3
      exact And.intro (zrtb (by omega)) (And.intro ⟨by omega, by omega⟩ (hQ _ _ z4 (by omega) (by omega)))
    · refine ⟨zk_X5_step, zm_X5_step hg d (by omega), rfl, ?_⟩
      intro m5 qm5 p6
      have z7 := zl0_t z0 qm5
      intro x8 hx8 kx8 lx8
      refine And.intro ⟨⟨by omega, by omega⟩, ⟨by omega, by omega⟩⟩ (And.intro (fun c9 => ?_) (fun c9 => ?_))
      · refine ⟨(zk_X3_type 8), zm_X3_typeN hg 8 d (by omega), _, _, _, rfl, ⟨by omega, by omega⟩, ⟨by omega, by omega⟩, ⟨by omega, by omega⟩, (by omega), ?_⟩
        intro x10 m11 qm11 kx10 lx10
        have z12 := zl0_t z7 qm11
        refine And.intro ⟨by omega, by omega⟩ (And.intro (fun c13 => ?_) (fun c13 => ?_))
        · exact And.intro (zrtb (by omega)) (And.intro ⟨by omega, by omega⟩ (hQ _ _ z12 (by omega) (by omega)))
        · intro x14 hx14 kx14 lx14
          refine And.intro ⟨⟨by omega, by omega⟩, ⟨by omega, by omega⟩⟩ (And.intro (fun c15 => ?_) (fun c15 => ?_))
          · refine ⟨zk_X3_behindType, zm_X3_behindType hg d (by omega), _, rfl, ⟨by omega, by omega⟩, ?_⟩
            intro x16 m17 qm17 kx16 lx16
            have z18 := zl0_t z12 qm17
            refine And.intro ⟨by omega, by omega⟩ (And.intro (fun c19 => ?_) (fun c19 => ?_))
            · intro t20 et20 ht20
              intro x21 hx21 kx21 lx21
              refine And.intro ht20.1 ⟨zk_X4_addSuper, zm_X4_addSuper hg d (by omega), _, _, _, rfl, ht20.1, ⟨by omega, by omega⟩, ⟨by omega, by omega⟩, ?_⟩
              intro m22 qm22
              have z23 := zl0_t z18 qm22
              intro x24 hx24 kx24 lx24
              refine And.intro ⟨⟨by omega, by omega⟩, ⟨by omega, by omega⟩⟩ (And.intro (fun c25 => ?_) (fun c25 => ?_))
              · refine Exists.intro (Int.toNat (2147483648 - (v1 + 1))) (And.intro (by omega) ?_)
                exact ⟨_, rfl, z23, ⟨by omega, by omega⟩, rfl⟩
              · exact And.intro (zrtb (by omega)) (And.intro ⟨by omega, by omega⟩ (hQ _ _ z23 (by omega) (by omega)))
            · exact And.intro (zrtb (by omega)) (And.intro ⟨by omega, by omega⟩ (hQ _ _ z18 (by omega) (by omega)))
          · intro x26 hx26 kx26 lx26
            refine And.intro ⟨⟨by omega, by omega⟩, ⟨by omega, by omega⟩⟩ (And.intro (fun c27 => ?_) (fun c27 => ?_))
            · refine ⟨zk_X3_behindType, zm_X3_behindType hg d (by omega), _, rfl, ⟨by omega, by omega⟩, ?_⟩
              intro x28 m29 qm29 kx28 lx28
              have z30 := zl0_t z12 qm29
              refine And.intro ⟨by omega, by omega⟩ (And.intro (fun c31 => ?_) (fun c31 => ?_))
              · intro t32 et32 ht32
                intro x33 hx33 kx33 lx33
                refine And.intro ht32.1 ⟨zk_X4_addSuper, zm_X4_addSuper hg d (by omega), _, _, _, rfl, ht32.1, ⟨by omega, by omega⟩, ⟨by omega, by omega⟩, ?_⟩
                intro m34 qm34
                have z35 := zl0_t z30 qm34
                intro x36 hx36 kx36 lx36
                refine And.intro ⟨⟨by omega, by omega⟩, ⟨by omega, by omega⟩⟩ (And.intro (fun c37 => ?_) (fun c37 => ?_))
                · refine Exists.intro (Int.toNat (2147483648 - (v1 + 1))) (And.intro (by omega) ?_)
                  exact ⟨_, rfl, z35, ⟨by omega, by omega⟩, rfl⟩
                · exact And.intro (zrtb (by omega)) (And.intro ⟨by omega, by omega⟩ (hQ _ _ z35 (by omega) (by omega)))
              · exact And.intro (zrtb (by omega)) (And.intro ⟨by omega, by omega⟩ (hQ _ _ z30 (by omega) (by omega)))
            · refine ⟨zk_X3_behindType, zm_X3_behindType hg d (by omega), _, rfl, ⟨by omega, by omega⟩, ?_⟩
              intro x38 m39 qm39 kx38 lx38
              have z40 := zl0_t z12 qm39
              refine And.intro ⟨by omega, by omega⟩ (And.intro (fun c41 => ?_) (fun c41 => ?_))
              · intro t42 et42 ht42
                intro x43 hx43 kx43 lx43
                refine And.intro ht42.1 ⟨zk_X4_addSuper, zm_X4_addSuper hg d (by omega), _, _, _, rfl, ht42.1, ⟨by omega, by omega⟩, ⟨by omega, by omega⟩, ?_⟩
                intro m44 qm44
                have z45 := zl0_t z40 qm44
                intro x46 hx46 kx46 lx46
                refine And.intro ⟨⟨by omega, by omega⟩, ⟨by omega, by omega⟩⟩ (And.intro (fun c47 => ?_) (fun c47 => ?_))
                · refine Exists.intro (Int.toNat (2147483648 - (v1 + 1))) (And.intro (by omega) ?_)
                  exact ⟨_, rfl, z45, ⟨by omega, by omega⟩, rfl⟩
                · exact And.intro (zrtb (by omega)) (And.intro ⟨by omega, by omega⟩ (hQ _ _ z45 (by omega) (by omega)))
              · exact And.intro (zrtb (by omega)) (And.intro ⟨by omega, by omega⟩ (hQ _ _ z40 (by omega) (by omega)))
      · refine ⟨(zk_X3_type 8), zm_X3_typeN hg 8 d (by omega), _, _, _, rfl, ⟨by omega, by omega⟩, ⟨by omega, by omega⟩, ⟨by omega, by omega⟩, (by omega), ?_⟩
        intro x48 m49 qm49 kx48 lx48
        have z50 := zl0_t z7 qm49
        refine And.intro ⟨by omega, by omega⟩ (And.intro (fun c51 => ?_) (fun c51 => ?_))
        · exact And.intro (zrtb (by omega)) (And.intro ⟨by omega, by omega⟩ (hQ _ _ z50 (by omega) (by omega)))
        · intro x52 hx52 kx52 lx52
          refine And.intro ⟨⟨by omega, by omega⟩, ⟨by omega, by omega⟩⟩ (And.intro (fun c53 => ?_) (fun c53 => ?_))
          · refine ⟨zk_X3_behindType, zm_X3_behindType hg d (by omega), _, rfl, ⟨by omega, by omega⟩, ?_⟩
            intro x54 m55 qm55 kx54 lx54
            have z56 := zl0_t z50 qm55
            refine And.intro ⟨by omega, by omega⟩ (And.intro (fun c57 => ?_) (fun c57 => ?_))
            · intro t58 et58 ht58
              intro x59 hx59 kx59 lx59
              refine And.intro ht58.1 ⟨zk_X4_addSuper, zm_X4_addSuper hg d (by omega), _, _, _, rfl, ht58.1, ⟨by omega, by omega⟩, ⟨by omega, by omega⟩, ?_⟩
              intro m60 qm60
              have z61 := zl0_t z56 qm60
              intro x62 hx62 kx62 lx62
              refine And.intro ⟨⟨by omega, by omega⟩, ⟨by omega, by omega⟩⟩ (And.intro (fun c63 => ?_) (fun c63 => ?_))
              · refine Exists.intro (Int.toNat (2147483648 - (v1 + 1))) (And.intro (by omega) ?_)
                exact ⟨_, rfl, z61, ⟨by omega, by omega⟩, rfl⟩
              · exact And.intro (zrtb (by omega)) (And.intro ⟨by omega, by omega⟩ (hQ _ _ z61 (by omega) (by omega)))
            · exact And.intro (zrtb (by omega)) (And.intro ⟨by omega, by omega⟩ (hQ _ _ z56 (by omega) (by omega)))
          · intro x64 hx64 kx64 lx64
            refine And.intro ⟨⟨by omega, by omega⟩, ⟨by omega, by omega⟩⟩ (And.intro (fun c65 => ?_) (fun c65 => ?_))
            · refine ⟨zk_X3_behindType, zm_X3_behindType hg d (by omega), _, rfl, ⟨by omega, by omega⟩, ?_⟩
              intro x66 m67 qm67 kx66 lx66
              have z68 := zl0_t z50 qm67
              refine And.intro ⟨by omega, by omega⟩ (And.intro (fun c69 => ?_) (fun c69 => ?_))
              · intro t70 et70 ht70
                intro x71 hx71 kx71 lx71
                refine And.intro ht70.1 ⟨zk_X4_addSuper, zm_X4_addSuper hg d (by omega), _, _, _, rfl, ht70.1, ⟨by omega, by omega⟩, ⟨by omega, by omega⟩, ?_⟩
                intro m72 qm72
                have z73 := zl0_t z68 qm72
                intro x74 hx74 kx74 lx74
                refine And.intro ⟨⟨by omega, by omega⟩, ⟨by omega, by omega⟩⟩ (And.intro (fun c75 => ?_) (fun c75 => ?_))
                · refine Exists.intro (Int.toNat (2147483648 - (v1 + 1))) (And.intro (by omega) ?_)
                  exact ⟨_, rfl, z73, ⟨by omega, by omega⟩, rfl⟩
                · exact And.intro (zrtb (by omega)) (And.intro ⟨by omega, by omega⟩ (hQ _ _ z73 (by omega) (by omega)))
              · exact And.intro (zrtb (by omega)) (And.intro ⟨by omega, by omega⟩ (hQ _ _ z68 (by omega) (by omega)))
            · refine ⟨zk_X3_behindType, zm_X3_behindType hg d (by omega), _, rfl, ⟨by omega, by omega⟩, ?_⟩
              intro x76 m77 qm77 kx76 lx76
              have z78 := zl0_t z50 qm77
              refine And.intro ⟨by omega, by omega⟩ (And.intro (fun c79 => ?_) (fun c79 => ?_))
              · intro t80 et80 ht80
                intro x81 hx81 kx81 lx81
                refine And.intro ht80.1 ⟨zk_X4_addSuper, zm_X4_addSuper hg d (by omega), _, _, _, rfl, ht80.1, ⟨by omega, by omega⟩, ⟨by omega, by omega⟩, ?_⟩
                intro m82 qm82
                have z83 := zl0_t z78 qm82
                intro x84 hx84 kx84 lx84
                refine And.intro ⟨⟨by omega, by omega⟩, ⟨by omega, by omega⟩⟩ (And.intro (fun c85 => ?_) (fun c85 => ?_))
                · refine Exists.intro (Int.toNat (2147483648 - (v1 + 1))) (And.intro (by omega) ?_)
                  exact ⟨_, rfl, z83, ⟨by omega, by omega⟩, rfl⟩
                · exact And.intro (zrtb (by omega)) (And.intro ⟨by omega, by omega⟩ (hQ _ _ z83 (by omega) (by omega)))
              · exact And.intro (zrtb (by omega)) (And.intro ⟨by omega, by omega⟩ (hQ _ _ z78 (by omega) (by omega)))
def zk_X3_parameterNames : zC := fun As μ Q => As = [.inr (.inr (50, 50))] ∧ (∀ T : Nat, (T : Int) = μ.1 50 ((2 : Nat) : Int) → μ.1 (Nat.add T 3) (μ.1 50 ((5 : Nat) : Int)) ≤ 0) ∧ (∀ (v : Int) (μ' : zM), zl0 μ μ' → 0 ≤ v → v ≤ 1 → Q (some (.inl v)) μ')
set_option maxHeartbeats 4000000 in
theorem zm_X3_parameterNames {g : zΓ} (hg : zg g) (d : Nat) (hd : 3 ≤ d) : zOk g d 43 zk_X3_parameterNames := by
  obtain ⟨d, rfl⟩ : ∃ d', d = d' + 1 := ⟨d - 1, by omega⟩
  refine zOk_loop hg (show mt_tab[43]? = some mt_X3_parameterNames from rfl) ([(2, [0, 1])], []) 78 rfl fun As μ Q hC => ?_
  obtain ⟨rfl, hp0, hQ⟩ := hC
  have z0 : zl0 μ μ := zl0_r μ
  refine ⟨rfl, fun pc vs μ' n => ∃ (v1 : Int), vs = [.inr (.inr (50, 50)), .inl v1] ∧ zl0 μ μ' ∧ (0 ≤ v1 ∧ v1 ≤ 5) ∧ (∀ T : Nat, (T : Int) = μ'.1 50 ((2 : Nat) : Int) → μ'.1 (Nat.add T 3) (μ'.1 50 ((5 : Nat) : Int)) ≤ v1) ∧ n = (Int.toNat (2147483648 - v1)), ?_, ?_, trivial⟩
  · refine Exists.intro (Int.toNat (2147483648 - 0)) ?_
    exact ⟨_, rfl, z0, ⟨by omega, by omega⟩, hp0, rfl⟩
  · intro vs m0 n hI
    clear z0
    obtain ⟨v1, rfl, z0, hv1, i0, rfl⟩ := hI
    refine And.intro ⟨⟨by omega, by omega⟩, ⟨by omega, by omega⟩⟩ (And.intro (fun c1 => ?_) (fun c1 => ?_))
    · refine ⟨zk_X3_fail, zm_X3_fail hg d (by omega), _, rfl, ⟨by omega, by omega⟩, ?_⟩
      intro x2 m3 qm3 kx2 lx2
      have z4 := zl0_t z0 qm3
      exact And.intro (zrtb (by omega)) (And.intro ⟨by omega, by omega⟩ (hQ _ _ z4 (by omega) (by omega)))
    · refine ⟨zk_X5_step, zm_X5_step hg d (by omega), rfl, ?_⟩
      intro m5 qm5 p6
      have z7 := zl0_t z0 qm5
      have : m5.1 50 ((2 : Nat) : Int) = m0.1 50 ((2 : Nat) : Int) := congrFun (p6 50 (show (50 : Nat) ≠ 1 by omega) (show (50 : Nat) ≠ 5000001 by omega)) _
      have : m5.1 50 ((5 : Nat) : Int) = m0.1 50 ((5 : Nat) : Int) := congrFun (p6 50 (show (50 : Nat) ≠ 1 by omega) (show (50 : Nat) ≠ 5000001 by omega)) _
      intro x8 hx8 kx8 lx8
      refine And.intro ⟨⟨by omega, by omega⟩, ⟨by omega, by omega⟩⟩ (And.intro (fun c9 => ?_) (fun c9 => ?_))
      · intro t10 et10 ht10
        intro x11 hx11 kx11 lx11
        intro j12 hj12
        refine And.intro ht10.1 ⟨zk_X4_findParameter, zm_X4_findParameter hg d (by omega), _, _, _, rfl, ht10.1, ⟨by omega, by omega⟩, ?_⟩
        intro x13 kx13 lx13
        refine And.intro ⟨by omega, by omega⟩ (And.intro (fun c14 => ?_) (fun c14 => ?_))
        · refine And.intro ⟨⟨by omega, by omega⟩, ⟨by omega, by omega⟩⟩ (And.intro (fun c15 => ?_) (fun c15 => ?_))
          · intro t16 et16 ht16
            have qt16 : t10 = t16 := by omega
            subst qt16
            intro x17 hx17 kx17 lx17
            intro j18 hj18
            have hcnt : m5.1 (Nat.add t10 3) x17 ≤ v1 := by
              have q1 := i0 t10 (by omega)
              have q2 := congrFun (p6 (Nat.add t10 3) (show (t10 + 3 : Nat) ≠ 1 by have : t10 = 14 ∨ t10 = 14 + 18 := ht10.1; omega) (show (t10 + 3 : Nat) ≠ 5000001 by have : t10 = 14 ∨ t10 = 14 + 18 := ht10.1; omega)) (m0.1 50 ((5 : Nat) : Int))
              rw [show x17 = m0.1 50 ((5 : Nat) : Int) by omega]
              exact Int.le_trans (Int.le_of_eq q2) q1
            refine And.intro ht10.1 ⟨zk_X4_addParameter, zm_X4_addParameter hg d (by omega), _, _, _, rfl, ht10.1, ⟨by omega, by omega⟩, (by omega), ?_⟩
            intro m19 qm19 p20 p21 p22
            have z23 := zl0_t z7 qm19
            have : m19.1 50 ((2 : Nat) : Int) = m5.1 50 ((2 : Nat) : Int) := p21
            have : m19.1 50 ((5 : Nat) : Int) = m5.1 50 ((5 : Nat) : Int) := p22
            refine ⟨zk_X5_step, zm_X5_step hg d (by omega), rfl, ?_⟩
            intro m24 qm24 p25
            have z26 := zl0_t z23 qm24
            have : m24.1 50 ((2 : Nat) : Int) = m19.1 50 ((2 : Nat) : Int) := congrFun (p25 50 (show (50 : Nat) ≠ 1 by omega) (show (50 : Nat) ≠ 5000001 by omega)) _
            have : m24.1 50 ((5 : Nat) : Int) = m19.1 50 ((5 : Nat) : Int) := congrFun (p25 50 (show (50 : Nat) ≠ 1 by omega) (show (50 : Nat) ≠ 5000001 by omega)) _
            intro x27 hx27 kx27 lx27
            refine And.intro ⟨⟨by omega, by omega⟩, ⟨by omega, by omega⟩⟩ (And.intro (fun c28 => ?_) (fun c28 => ?_))
            · intro x29 hx29 kx29 lx29
              refine And.intro ⟨⟨by omega, by omega⟩, ⟨by omega, by omega⟩⟩ (And.intro (fun c30 => ?_) (fun c30 => ?_))
              · refine Exists.intro (Int.toNat (2147483648 - (v1 + 1))) (And.intro (by omega) ?_)
                exact ⟨_, rfl, z26, ⟨by omega, by omega⟩, (fun T hT => by rw [show T = t10 by omega, show m24.1 50 ((5 : Nat) : Int) = x17 by omega]; have q := congrFun (p25 (Nat.add t10 3) (show (t10 + 3 : Nat) ≠ 1 by have : t10 = 14 ∨ t10 = 14 + 18 := ht10.1; omega) (show (t10 + 3 : Nat) ≠ 5000001 by have : t10 = 14 ∨ t10 = 14 + 18 := ht10.1; omega)) x17; omega), rfl⟩
              · refine ⟨zk_X3_fail, zm_X3_fail hg d (by omega), _, rfl, ⟨by omega, by omega⟩, ?_⟩
                intro x31 m32 qm32 kx31 lx31
                have z33 := zl0_t z26 qm32
                exact And.intro (zrtb (by omega)) (And.intro ⟨by omega, by omega⟩ (hQ _ _ z33 (by omega) (by omega)))
            · refine ⟨zk_X5_step, zm_X5_step hg d (by omega), rfl, ?_⟩
              intro m34 qm34 p35
              have z36 := zl0_t z26 qm34
              have : m34.1 50 ((2 : Nat) : Int) = m24.1 50 ((2 : Nat) : Int) := congrFun (p35 50 (show (50 : Nat) ≠ 1 by omega) (show (50 : Nat) ≠ 5000001 by omega)) _
              have : m34.1 50 ((5 : Nat) : Int) = m24.1 50 ((5 : Nat) : Int) := congrFun (p35 50 (show (50 : Nat) ≠ 1 by omega) (show (50 : Nat) ≠ 5000001 by omega)) _
              exact And.intro (zrtb (by omega)) (And.intro ⟨by omega, by omega⟩ (hQ _ _ z36 (by omega) (by omega)))
          · refine ⟨zk_X3_fail, zm_X3_fail hg d (by omega), _, rfl, ⟨by omega, by omega⟩, ?_⟩
            intro x37 m38 qm38 kx37 lx37
            have z39 := zl0_t z7 qm38
            exact And.intro (zrtb (by omega)) (And.intro ⟨by omega, by omega⟩ (hQ _ _ z39 (by omega) (by omega)))
        · refine ⟨zk_X3_fail, zm_X3_fail hg d (by omega), _, rfl, ⟨by omega, by omega⟩, ?_⟩
          intro x40 m41 qm41 kx40 lx40
          have z42 := zl0_t z7 qm41
          exact And.intro (zrtb (by omega)) (And.intro ⟨by omega, by omega⟩ (hQ _ _ z42 (by omega) (by omega)))
      · refine ⟨zk_X3_fail, zm_X3_fail hg d (by omega), _, rfl, ⟨by omega, by omega⟩, ?_⟩
        intro x43 m44 qm44 kx43 lx43
        have z45 := zl0_t z7 qm44
        exact And.intro (zrtb (by omega)) (And.intro ⟨by omega, by omega⟩ (hQ _ _ z45 (by omega) (by omega)))
def zk_X3_declaration : zC := fun As μ Q => As = [.inr (.inr (50, 50))] ∧ (zcq μ) ∧ (∀ (v : Int) (μ' : zM), zle μ μ' → 0 ≤ v → v ≤ 1 → Q (some (.inl v)) μ')
set_option maxHeartbeats 4000000 in
theorem zm_X3_declaration {g : zΓ} (hg : zg g) (d : Nat) (hd : 30 ≤ d) : zOk g d 42 zk_X3_declaration := by
  obtain ⟨d, rfl⟩ : ∃ d', d = d' + 1 := ⟨d - 1, by omega⟩
  refine zOk_straight hg (show mt_tab[42]? = some mt_X3_declaration from rfl) [] 100 rfl fun As μ Q hC => ?_
  obtain ⟨rfl, hp0, hQ⟩ := hC
  refine ⟨rfl, ?_⟩
  have z0 : zle μ μ := zle_r μ
  intro x1 hx1 kx1 lx1
  refine And.intro ⟨⟨by omega, by omega⟩, ⟨by omega, by omega⟩⟩ (And.intro (fun c2 => ?_) (fun c2 => ?_))
  · intro t3 et3 ht3
    intro j4 hj4
    refine And.intro ht3.1 ⟨zk_X4_findClass, zm_X4_findClass hg d (by omega), _, _, rfl, ht3.1, ?_⟩
    intro x5 kx5 lx5
    refine And.intro ⟨by omega, by omega⟩ (And.intro (fun c6 => ?_) (fun c6 => ?_))
    · intro t7 et7 ht7
      have qt7 : t3 = t7 := by omega
      subst qt7
      refine And.intro ht3.1 ?_
      intro x8 hx8 kx8 lx8
      refine And.intro ⟨⟨by omega, by omega⟩, ⟨by omega, by omega⟩⟩ (And.intro (fun c9 => ?_) (fun c9 => ?_))
      · intro t10 et10 ht10
        have qt10 : t3 = t10 := by omega
        subst qt10
        intro j11 hj11
        refine And.intro ht3.1 ⟨zk_X4_addClass, zm_X4_addClass hg d (by omega), _, _, rfl, ht3.1, ?_⟩
        intro x12 m13 qm13 kx12 lx12 p14 p15 p16
        have z17 := zle_0 z0 qm13
        have : m13.1 50 ((2 : Nat) : Int) = μ.1 50 ((2 : Nat) : Int) := p16
        refine And.intro ⟨by omega, by omega⟩ ?_
        intro m18 em18
        have z19 := zle_0 z17 (zl0_u em18 (Or.inl (by decide)) (Or.inl ⟨by decide, by decide⟩))
        have : m18.1 50 ((2 : Nat) : Int) = m13.1 50 ((2 : Nat) : Int) := by rw [em18]; exact zu_nk (by decide)
        have : m18.1 50 ((5 : Nat) : Int) = x12 := by rw [em18]; exact zu_at
        have : m18.1 (Nat.add t3 3) x12 = m13.1 (Nat.add t3 3) x12 := by rw [em18]; exact congrFun (zu_ne (show ((t3 + 3) : Nat) ≠ 50 by have : t3 = 14 ∨ t3 = 14 + 18 := ht3.1; omega)) _
        refine ⟨zk_X5_step, zm_X5_step hg d (by omega), rfl, ?_⟩
        intro m20 qm20 p21
        have z22 := zle_0 z19 qm20
        have : m20.1 50 ((2 : Nat) : Int) = m18.1 50 ((2 : Nat) : Int) := congrFun (p21 50 (show (50 : Nat) ≠ 1 by omega) (show (50 : Nat) ≠ 5000001 by omega)) _
        have : m20.1 50 ((5 : Nat) : Int) = m18.1 50 ((5 : Nat) : Int) := congrFun (p21 50 (show (50 : Nat) ≠ 1 by omega) (show (50 : Nat) ≠ 5000001 by omega)) _
        have : m20.1 (Nat.add t3 3) x12 = m18.1 (Nat.add t3 3) x12 := congrFun (p21 (Nat.add t3 3) (show ((t3 + 3) : Nat) ≠ 1 by have : t3 = 14 ∨ t3 = 14 + 18 := ht3.1; omega) (show ((t3 + 3) : Nat) ≠ 5000001 by have : t3 = 14 ∨ t3 = 14 + 18 := ht3.1; omega)) _
        intro x23 hx23 kx23 lx23
        refine And.intro ⟨⟨by omega, by omega⟩, ⟨by omega, by omega⟩⟩ (And.intro (fun c24 => ?_) (fun c24 => ?_))
        · intro x25 hx25 kx25 lx25
          refine And.intro ⟨⟨by omega, by omega⟩, ⟨by omega, by omega⟩⟩ (And.intro (fun c26 => ?_) (fun c26 => ?_))
          · intro x27 hx27 kx27 lx27
            refine And.intro ⟨⟨by omega, by omega⟩, ⟨by omega, by omega⟩⟩ (And.intro (fun c28 => ?_) (fun c28 => ?_))
            · intro x29 hx29 kx29 lx29
              refine And.intro ⟨⟨by omega, by omega⟩, ⟨by omega, by omega⟩⟩ (And.intro (fun c30 => ?_) (fun c30 => ?_))
              · intro t31 et31 ht31
                have qt31 : t3 = t31 := by omega
                subst qt31
                intro x32 hx32 kx32 lx32
                refine And.intro ht3.1 ?_
                refine And.intro ⟨by omega, by omega⟩ ?_
                intro m33 em33
                have z34 := zle_0 z22 (zl0_f em33 ht3.1 (by decide) (Or.inl (by decide)))
                have : m33.1 50 ((2 : Nat) : Int) = m20.1 50 ((2 : Nat) : Int) := by rw [em33]; exact congrFun (zu_ne (show (50 : Nat) ≠ t3 by have : t3 = 14 ∨ t3 = 14 + 18 := ht3.1; omega)) _
                have : m33.1 50 ((5 : Nat) : Int) = m20.1 50 ((5 : Nat) : Int) := by rw [em33]; exact congrFun (zu_ne (show (50 : Nat) ≠ t3 by have : t3 = 14 ∨ t3 = 14 + 18 := ht3.1; omega)) _
                have : m33.1 (Nat.add t3 3) x12 = m20.1 (Nat.add t3 3) x12 := by rw [em33]; exact congrFun (zu_ne (show ((t3 + 3) : Nat) ≠ t3 by have : t3 = 14 ∨ t3 = 14 + 18 := ht3.1; have : t3 = 14 ∨ t3 = 14 + 18 := ht3.1; omega)) _
                intro t35 et35 ht35
                have qt35 : t3 = t35 := by omega
                subst qt35
                intro x36 hx36 kx36 lx36
                refine And.intro ht3.1 ⟨zk_X4_closeClass, zm_X4_closeClass hg d (by omega), _, _, rfl, ht3.1, ⟨by omega, by omega⟩, (zcq_t hp0 z34), ?_⟩
                intro x37 m38 qm38 kx37 lx37
                have z39 := zle_t z34 qm38
                refine And.intro ⟨by omega, by omega⟩ (And.intro (fun c40 => ?_) (fun c40 => ?_))
                · refine ⟨zk_X5_step, zm_X5_step hg d (by omega), rfl, ?_⟩
                  intro m41 qm41 p42
                  have z43 := zle_0 z39 qm41
                  have : m41.1 50 ((2 : Nat) : Int) = m38.1 50 ((2 : Nat) : Int) := congrFun (p42 50 (show (50 : Nat) ≠ 1 by omega) (show (50 : Nat) ≠ 5000001 by omega)) _
                  have : m41.1 50 ((5 : Nat) : Int) = m38.1 50 ((5 : Nat) : Int) := congrFun (p42 50 (show (50 : Nat) ≠ 1 by omega) (show (50 : Nat) ≠ 5000001 by omega)) _
                  have : m41.1 (Nat.add t3 3) x12 = m38.1 (Nat.add t3 3) x12 := congrFun (p42 (Nat.add t3 3) (show ((t3 + 3) : Nat) ≠ 1 by have : t3 = 14 ∨ t3 = 14 + 18 := ht3.1; omega) (show ((t3 + 3) : Nat) ≠ 5000001 by have : t3 = 14 ∨ t3 = 14 + 18 := ht3.1; omega)) _
                  exact And.intro (zrtb (by omega)) (And.intro ⟨by omega, by omega⟩ (hQ _ _ z43 (by omega) (by omega)))
                · refine ⟨zk_X3_fail, zm_X3_fail hg d (by omega), _, rfl, ⟨by omega, by omega⟩, ?_⟩
                  intro x44 m45 qm45 kx44 lx44
                  have z46 := zle_0 z39 qm45
                  exact And.intro (zrtb (by omega)) (And.intro ⟨by omega, by omega⟩ (hQ _ _ z46 (by omega) (by omega)))
              · refine ⟨zk_X3_fail, zm_X3_fail hg d (by omega), _, rfl, ⟨by omega, by omega⟩, ?_⟩
                intro x47 m48 qm48 kx47 lx47
                have z49 := zle_0 z22 qm48
                exact And.intro (zrtb (by omega)) (And.intro ⟨by omega, by omega⟩ (hQ _ _ z49 (by omega) (by omega)))
            · refine ⟨zk_X3_supers, zm_X3_supers hg d (by omega), rfl, ?_⟩
              intro x50 m51 qm51 kx50 lx50
              have z52 := zle_0 z22 qm51
              refine And.intro ⟨by omega, by omega⟩ (And.intro (fun c53 => ?_) (fun c53 => ?_))
              · intro x54 hx54 kx54 lx54
                refine And.intro ⟨⟨by omega, by omega⟩, ⟨by omega, by omega⟩⟩ (And.intro (fun c55 => ?_) (fun c55 => ?_))
                · intro t56 et56 ht56
                  intro x57 hx57 kx57 lx57
                  refine And.intro ht56.1 ?_
                  refine And.intro ⟨by omega, by omega⟩ ?_
                  intro m58 em58
                  have z59 := zle_0 z52 (zl0_f em58 ht56.1 (by decide) (Or.inl (by decide)))
                  have : m58.1 50 ((2 : Nat) : Int) = m51.1 50 ((2 : Nat) : Int) := by rw [em58]; exact congrFun (zu_ne (show (50 : Nat) ≠ t56 by have : t56 = 14 ∨ t56 = 14 + 18 := ht56.1; omega)) _
                  have : m58.1 50 ((5 : Nat) : Int) = m51.1 50 ((5 : Nat) : Int) := by rw [em58]; exact congrFun (zu_ne (show (50 : Nat) ≠ t56 by have : t56 = 14 ∨ t56 = 14 + 18 := ht56.1; omega)) _
                  have : m58.1 (Nat.add t3 3) x12 = m51.1 (Nat.add t3 3) x12 := by rw [em58]; exact congrFun (zu_ne (show ((t3 + 3) : Nat) ≠ t56 by have : t3 = 14 ∨ t3 = 14 + 18 := ht3.1; have : t56 = 14 ∨ t56 = 14 + 18 := ht56.1; omega)) _
                  intro t60 et60 ht60
                  have qt60 : t56 = t60 := by omega
                  subst qt60
                  intro x61 hx61 kx61 lx61
                  refine And.intro ht56.1 ⟨zk_X4_closeClass, zm_X4_closeClass hg d (by omega), _, _, rfl, ht56.1, ⟨by omega, by omega⟩, (zcq_t hp0 z59), ?_⟩
                  intro x62 m63 qm63 kx62 lx62
                  have z64 := zle_t z59 qm63
                  refine And.intro ⟨by omega, by omega⟩ (And.intro (fun c65 => ?_) (fun c65 => ?_))
                  · refine ⟨zk_X5_step, zm_X5_step hg d (by omega), rfl, ?_⟩
                    intro m66 qm66 p67
                    have z68 := zle_0 z64 qm66
                    have : m66.1 50 ((2 : Nat) : Int) = m63.1 50 ((2 : Nat) : Int) := congrFun (p67 50 (show (50 : Nat) ≠ 1 by omega) (show (50 : Nat) ≠ 5000001 by omega)) _
                    have : m66.1 50 ((5 : Nat) : Int) = m63.1 50 ((5 : Nat) : Int) := congrFun (p67 50 (show (50 : Nat) ≠ 1 by omega) (show (50 : Nat) ≠ 5000001 by omega)) _
                    have : m66.1 (Nat.add t3 3) x12 = m63.1 (Nat.add t3 3) x12 := congrFun (p67 (Nat.add t3 3) (show ((t3 + 3) : Nat) ≠ 1 by have : t3 = 14 ∨ t3 = 14 + 18 := ht3.1; omega) (show ((t3 + 3) : Nat) ≠ 5000001 by have : t3 = 14 ∨ t3 = 14 + 18 := ht3.1; omega)) _
                    exact And.intro (zrtb (by omega)) (And.intro ⟨by omega, by omega⟩ (hQ _ _ z68 (by omega) (by omega)))
                  · refine ⟨zk_X3_fail, zm_X3_fail hg d (by omega), _, rfl, ⟨by omega, by omega⟩, ?_⟩
                    intro x69 m70 qm70 kx69 lx69
                    have z71 := zle_0 z64 qm70
                    exact And.intro (zrtb (by omega)) (And.intro ⟨by omega, by omega⟩ (hQ _ _ z71 (by omega) (by omega)))
                · refine ⟨zk_X3_fail, zm_X3_fail hg d (by omega), _, rfl, ⟨by omega, by omega⟩, ?_⟩
                  intro x72 m73 qm73 kx72 lx72
                  have z74 := zle_0 z52 qm73
                  exact And.intro (zrtb (by omega)) (And.intro ⟨by omega, by omega⟩ (hQ _ _ z74 (by omega) (by omega)))
              · exact And.intro (zrtb (by omega)) (And.intro ⟨by omega, by omega⟩ (hQ _ _ z52 (by omega) (by omega)))
          · refine ⟨zk_X3_bounds, zm_X3_bounds hg d (by omega), rfl, ?_⟩
            intro x75 m76 qm76 kx75 lx75
            have z77 := zle_0 z22 qm76
            refine And.intro ⟨by omega, by omega⟩ (And.intro (fun c78 => ?_) (fun c78 => ?_))
            · exact And.intro (zrtb (by omega)) (And.intro ⟨by omega, by omega⟩ (hQ _ _ z77 (by omega) (by omega)))
            · intro x79 hx79 kx79 lx79
              refine And.intro ⟨⟨by omega, by omega⟩, ⟨by omega, by omega⟩⟩ (And.intro (fun c80 => ?_) (fun c80 => ?_))
              · intro x81 hx81 kx81 lx81
                refine And.intro ⟨⟨by omega, by omega⟩, ⟨by omega, by omega⟩⟩ (And.intro (fun c82 => ?_) (fun c82 => ?_))
                · intro t83 et83 ht83
                  intro x84 hx84 kx84 lx84
                  refine And.intro ht83.1 ?_
                  refine And.intro ⟨by omega, by omega⟩ ?_
                  intro m85 em85
                  have z86 := zle_0 z77 (zl0_f em85 ht83.1 (by decide) (Or.inl (by decide)))
                  have : m85.1 50 ((2 : Nat) : Int) = m76.1 50 ((2 : Nat) : Int) := by rw [em85]; exact congrFun (zu_ne (show (50 : Nat) ≠ t83 by have : t83 = 14 ∨ t83 = 14 + 18 := ht83.1; omega)) _
                  have : m85.1 50 ((5 : Nat) : Int) = m76.1 50 ((5 : Nat) : Int) := by rw [em85]; exact congrFun (zu_ne (show (50 : Nat) ≠ t83 by have : t83 = 14 ∨ t83 = 14 + 18 := ht83.1; omega)) _
                  have : m85.1 (Nat.add t3 3) x12 = m76.1 (Nat.add t3 3) x12 := by rw [em85]; exact congrFun (zu_ne (show ((t3 + 3) : Nat) ≠ t83 by have : t3 = 14 ∨ t3 = 14 + 18 := ht3.1; have : t83 = 14 ∨ t83 = 14 + 18 := ht83.1; omega)) _
                  intro t87 et87 ht87
                  have qt87 : t83 = t87 := by omega
                  subst qt87
                  intro x88 hx88 kx88 lx88
                  refine And.intro ht83.1 ⟨zk_X4_closeClass, zm_X4_closeClass hg d (by omega), _, _, rfl, ht83.1, ⟨by omega, by omega⟩, (zcq_t hp0 z86), ?_⟩
                  intro x89 m90 qm90 kx89 lx89
                  have z91 := zle_t z86 qm90
                  refine And.intro ⟨by omega, by omega⟩ (And.intro (fun c92 => ?_) (fun c92 => ?_))
                  · refine ⟨zk_X5_step, zm_X5_step hg d (by omega), rfl, ?_⟩
                    intro m93 qm93 p94
                    have z95 := zle_0 z91 qm93
                    have : m93.1 50 ((2 : Nat) : Int) = m90.1 50 ((2 : Nat) : Int) := congrFun (p94 50 (show (50 : Nat) ≠ 1 by omega) (show (50 : Nat) ≠ 5000001 by omega)) _
                    have : m93.1 50 ((5 : Nat) : Int) = m90.1 50 ((5 : Nat) : Int) := congrFun (p94 50 (show (50 : Nat) ≠ 1 by omega) (show (50 : Nat) ≠ 5000001 by omega)) _
                    have : m93.1 (Nat.add t3 3) x12 = m90.1 (Nat.add t3 3) x12 := congrFun (p94 (Nat.add t3 3) (show ((t3 + 3) : Nat) ≠ 1 by have : t3 = 14 ∨ t3 = 14 + 18 := ht3.1; omega) (show ((t3 + 3) : Nat) ≠ 5000001 by have : t3 = 14 ∨ t3 = 14 + 18 := ht3.1; omega)) _
                    exact And.intro (zrtb (by omega)) (And.intro ⟨by omega, by omega⟩ (hQ _ _ z95 (by omega) (by omega)))
                  · refine ⟨zk_X3_fail, zm_X3_fail hg d (by omega), _, rfl, ⟨by omega, by omega⟩, ?_⟩
                    intro x96 m97 qm97 kx96 lx96
                    have z98 := zle_0 z91 qm97
                    exact And.intro (zrtb (by omega)) (And.intro ⟨by omega, by omega⟩ (hQ _ _ z98 (by omega) (by omega)))
                · refine ⟨zk_X3_fail, zm_X3_fail hg d (by omega), _, rfl, ⟨by omega, by omega⟩, ?_⟩
                  intro x99 m100 qm100 kx99 lx99
                  have z101 := zle_0 z77 qm100
                  exact And.intro (zrtb (by omega)) (And.intro ⟨by omega, by omega⟩ (hQ _ _ z101 (by omega) (by omega)))
              · refine ⟨zk_X3_supers, zm_X3_supers hg d (by omega), rfl, ?_⟩
                intro x102 m103 qm103 kx102 lx102
                have z104 := zle_0 z77 qm103
                refine And.intro ⟨by omega, by omega⟩ (And.intro (fun c105 => ?_) (fun c105 => ?_))
                · intro x106 hx106 kx106 lx106
                  refine And.intro ⟨⟨by omega, by omega⟩, ⟨by omega, by omega⟩⟩ (And.intro (fun c107 => ?_) (fun c107 => ?_))
                  · intro t108 et108 ht108
                    intro x109 hx109 kx109 lx109
                    refine And.intro ht108.1 ?_
                    refine And.intro ⟨by omega, by omega⟩ ?_
                    intro m110 em110
                    have z111 := zle_0 z104 (zl0_f em110 ht108.1 (by decide) (Or.inl (by decide)))
                    have : m110.1 50 ((2 : Nat) : Int) = m103.1 50 ((2 : Nat) : Int) := by rw [em110]; exact congrFun (zu_ne (show (50 : Nat) ≠ t108 by have : t108 = 14 ∨ t108 = 14 + 18 := ht108.1; omega)) _
                    have : m110.1 50 ((5 : Nat) : Int) = m103.1 50 ((5 : Nat) : Int) := by rw [em110]; exact congrFun (zu_ne (show (50 : Nat) ≠ t108 by have : t108 = 14 ∨ t108 = 14 + 18 := ht108.1; omega)) _
                    have : m110.1 (Nat.add t3 3) x12 = m103.1 (Nat.add t3 3) x12 := by rw [em110]; exact congrFun (zu_ne (show ((t3 + 3) : Nat) ≠ t108 by have : t3 = 14 ∨ t3 = 14 + 18 := ht3.1; have : t108 = 14 ∨ t108 = 14 + 18 := ht108.1; omega)) _
                    intro t112 et112 ht112
                    have qt112 : t108 = t112 := by omega
                    subst qt112
                    intro x113 hx113 kx113 lx113
                    refine And.intro ht108.1 ⟨zk_X4_closeClass, zm_X4_closeClass hg d (by omega), _, _, rfl, ht108.1, ⟨by omega, by omega⟩, (zcq_t hp0 z111), ?_⟩
                    intro x114 m115 qm115 kx114 lx114
                    have z116 := zle_t z111 qm115
                    refine And.intro ⟨by omega, by omega⟩ (And.intro (fun c117 => ?_) (fun c117 => ?_))
                    · refine ⟨zk_X5_step, zm_X5_step hg d (by omega), rfl, ?_⟩
                      intro m118 qm118 p119
                      have z120 := zle_0 z116 qm118
                      have : m118.1 50 ((2 : Nat) : Int) = m115.1 50 ((2 : Nat) : Int) := congrFun (p119 50 (show (50 : Nat) ≠ 1 by omega) (show (50 : Nat) ≠ 5000001 by omega)) _
                      have : m118.1 50 ((5 : Nat) : Int) = m115.1 50 ((5 : Nat) : Int) := congrFun (p119 50 (show (50 : Nat) ≠ 1 by omega) (show (50 : Nat) ≠ 5000001 by omega)) _
                      have : m118.1 (Nat.add t3 3) x12 = m115.1 (Nat.add t3 3) x12 := congrFun (p119 (Nat.add t3 3) (show ((t3 + 3) : Nat) ≠ 1 by have : t3 = 14 ∨ t3 = 14 + 18 := ht3.1; omega) (show ((t3 + 3) : Nat) ≠ 5000001 by have : t3 = 14 ∨ t3 = 14 + 18 := ht3.1; omega)) _
                      exact And.intro (zrtb (by omega)) (And.intro ⟨by omega, by omega⟩ (hQ _ _ z120 (by omega) (by omega)))
                    · refine ⟨zk_X3_fail, zm_X3_fail hg d (by omega), _, rfl, ⟨by omega, by omega⟩, ?_⟩
                      intro x121 m122 qm122 kx121 lx121
                      have z123 := zle_0 z116 qm122
                      exact And.intro (zrtb (by omega)) (And.intro ⟨by omega, by omega⟩ (hQ _ _ z123 (by omega) (by omega)))
                  · refine ⟨zk_X3_fail, zm_X3_fail hg d (by omega), _, rfl, ⟨by omega, by omega⟩, ?_⟩
                    intro x124 m125 qm125 kx124 lx124
                    have z126 := zle_0 z104 qm125
                    exact And.intro (zrtb (by omega)) (And.intro ⟨by omega, by omega⟩ (hQ _ _ z126 (by omega) (by omega)))
                · exact And.intro (zrtb (by omega)) (And.intro ⟨by omega, by omega⟩ (hQ _ _ z104 (by omega) (by omega)))
        · refine ⟨zk_X3_parameterNames, zm_X3_parameterNames hg d (by omega), rfl, (fun T hT => by rw [show T = t3 by omega, show m20.1 50 ((5 : Nat) : Int) = x12 by omega]; omega), ?_⟩
          intro x127 m128 qm128 kx127 lx127
          have z129 := zle_0 z22 qm128
          refine And.intro ⟨by omega, by omega⟩ (And.intro (fun c130 => ?_) (fun c130 => ?_))
          · exact And.intro (zrtb (by omega)) (And.intro ⟨by omega, by omega⟩ (hQ _ _ z129 (by omega) (by omega)))
          · intro x131 hx131 kx131 lx131
            refine And.intro ⟨⟨by omega, by omega⟩, ⟨by omega, by omega⟩⟩ (And.intro (fun c132 => ?_) (fun c132 => ?_))
            · intro x133 hx133 kx133 lx133
              refine And.intro ⟨⟨by omega, by omega⟩, ⟨by omega, by omega⟩⟩ (And.intro (fun c134 => ?_) (fun c134 => ?_))
              · intro x135 hx135 kx135 lx135
                refine And.intro ⟨⟨by omega, by omega⟩, ⟨by omega, by omega⟩⟩ (And.intro (fun c136 => ?_) (fun c136 => ?_))
                · intro t137 et137 ht137
                  intro x138 hx138 kx138 lx138
                  refine And.intro ht137.1 ?_
                  refine And.intro ⟨by omega, by omega⟩ ?_
                  intro m139 em139
                  have z140 := zle_0 z129 (zl0_f em139 ht137.1 (by decide) (Or.inl (by decide)))
                  have : m139.1 50 ((2 : Nat) : Int) = m128.1 50 ((2 : Nat) : Int) := by rw [em139]; exact congrFun (zu_ne (show (50 : Nat) ≠ t137 by have : t137 = 14 ∨ t137 = 14 + 18 := ht137.1; omega)) _
                  have : m139.1 50 ((5 : Nat) : Int) = m128.1 50 ((5 : Nat) : Int) := by rw [em139]; exact congrFun (zu_ne (show (50 : Nat) ≠ t137 by have : t137 = 14 ∨ t137 = 14 + 18 := ht137.1; omega)) _
                  have : m139.1 (Nat.add t3 3) x12 = m128.1 (Nat.add t3 3) x12 := by rw [em139]; exact congrFun (zu_ne (show ((t3 + 3) : Nat) ≠ t137 by have : t3 = 14 ∨ t3 = 14 + 18 := ht3.1; have : t137 = 14 ∨ t137 = 14 + 18 := ht137.1; omega)) _
                  intro t141 et141 ht141
                  have qt141 : t137 = t141 := by omega
                  subst qt141
                  intro x142 hx142 kx142 lx142
                  refine And.intro ht137.1 ⟨zk_X4_closeClass, zm_X4_closeClass hg d (by omega), _, _, rfl, ht137.1, ⟨by omega, by omega⟩, (zcq_t hp0 z140), ?_⟩
                  intro x143 m144 qm144 kx143 lx143
                  have z145 := zle_t z140 qm144
                  refine And.intro ⟨by omega, by omega⟩ (And.intro (fun c146 => ?_) (fun c146 => ?_))
                  · refine ⟨zk_X5_step, zm_X5_step hg d (by omega), rfl, ?_⟩
                    intro m147 qm147 p148
                    have z149 := zle_0 z145 qm147
                    have : m147.1 50 ((2 : Nat) : Int) = m144.1 50 ((2 : Nat) : Int) := congrFun (p148 50 (show (50 : Nat) ≠ 1 by omega) (show (50 : Nat) ≠ 5000001 by omega)) _
                    have : m147.1 50 ((5 : Nat) : Int) = m144.1 50 ((5 : Nat) : Int) := congrFun (p148 50 (show (50 : Nat) ≠ 1 by omega) (show (50 : Nat) ≠ 5000001 by omega)) _
                    have : m147.1 (Nat.add t3 3) x12 = m144.1 (Nat.add t3 3) x12 := congrFun (p148 (Nat.add t3 3) (show ((t3 + 3) : Nat) ≠ 1 by have : t3 = 14 ∨ t3 = 14 + 18 := ht3.1; omega) (show ((t3 + 3) : Nat) ≠ 5000001 by have : t3 = 14 ∨ t3 = 14 + 18 := ht3.1; omega)) _
                    exact And.intro (zrtb (by omega)) (And.intro ⟨by omega, by omega⟩ (hQ _ _ z149 (by omega) (by omega)))
                  · refine ⟨zk_X3_fail, zm_X3_fail hg d (by omega), _, rfl, ⟨by omega, by omega⟩, ?_⟩
                    intro x150 m151 qm151 kx150 lx150
                    have z152 := zle_0 z145 qm151
                    exact And.intro (zrtb (by omega)) (And.intro ⟨by omega, by omega⟩ (hQ _ _ z152 (by omega) (by omega)))
                · refine ⟨zk_X3_fail, zm_X3_fail hg d (by omega), _, rfl, ⟨by omega, by omega⟩, ?_⟩
                  intro x153 m154 qm154 kx153 lx153
                  have z155 := zle_0 z129 qm154
                  exact And.intro (zrtb (by omega)) (And.intro ⟨by omega, by omega⟩ (hQ _ _ z155 (by omega) (by omega)))
              · refine ⟨zk_X3_supers, zm_X3_supers hg d (by omega), rfl, ?_⟩
                intro x156 m157 qm157 kx156 lx156
                have z158 := zle_0 z129 qm157
                refine And.intro ⟨by omega, by omega⟩ (And.intro (fun c159 => ?_) (fun c159 => ?_))
                · intro x160 hx160 kx160 lx160
                  refine And.intro ⟨⟨by omega, by omega⟩, ⟨by omega, by omega⟩⟩ (And.intro (fun c161 => ?_) (fun c161 => ?_))
                  · intro t162 et162 ht162
                    intro x163 hx163 kx163 lx163
                    refine And.intro ht162.1 ?_
                    refine And.intro ⟨by omega, by omega⟩ ?_
                    intro m164 em164
                    have z165 := zle_0 z158 (zl0_f em164 ht162.1 (by decide) (Or.inl (by decide)))
                    have : m164.1 50 ((2 : Nat) : Int) = m157.1 50 ((2 : Nat) : Int) := by rw [em164]; exact congrFun (zu_ne (show (50 : Nat) ≠ t162 by have : t162 = 14 ∨ t162 = 14 + 18 := ht162.1; omega)) _
                    have : m164.1 50 ((5 : Nat) : Int) = m157.1 50 ((5 : Nat) : Int) := by rw [em164]; exact congrFun (zu_ne (show (50 : Nat) ≠ t162 by have : t162 = 14 ∨ t162 = 14 + 18 := ht162.1; omega)) _
                    have : m164.1 (Nat.add t3 3) x12 = m157.1 (Nat.add t3 3) x12 := by rw [em164]; exact congrFun (zu_ne (show ((t3 + 3) : Nat) ≠ t162 by have : t3 = 14 ∨ t3 = 14 + 18 := ht3.1; have : t162 = 14 ∨ t162 = 14 + 18 := ht162.1; omega)) _
                    intro t166 et166 ht166
                    have qt166 : t162 = t166 := by omega
                    subst qt166
                    intro x167 hx167 kx167 lx167
                    refine And.intro ht162.1 ⟨zk_X4_closeClass, zm_X4_closeClass hg d (by omega), _, _, rfl, ht162.1, ⟨by omega, by omega⟩, (zcq_t hp0 z165), ?_⟩
                    intro x168 m169 qm169 kx168 lx168
                    have z170 := zle_t z165 qm169
                    refine And.intro ⟨by omega, by omega⟩ (And.intro (fun c171 => ?_) (fun c171 => ?_))
                    · refine ⟨zk_X5_step, zm_X5_step hg d (by omega), rfl, ?_⟩
                      intro m172 qm172 p173
                      have z174 := zle_0 z170 qm172
                      have : m172.1 50 ((2 : Nat) : Int) = m169.1 50 ((2 : Nat) : Int) := congrFun (p173 50 (show (50 : Nat) ≠ 1 by omega) (show (50 : Nat) ≠ 5000001 by omega)) _
                      have : m172.1 50 ((5 : Nat) : Int) = m169.1 50 ((5 : Nat) : Int) := congrFun (p173 50 (show (50 : Nat) ≠ 1 by omega) (show (50 : Nat) ≠ 5000001 by omega)) _
                      have : m172.1 (Nat.add t3 3) x12 = m169.1 (Nat.add t3 3) x12 := congrFun (p173 (Nat.add t3 3) (show ((t3 + 3) : Nat) ≠ 1 by have : t3 = 14 ∨ t3 = 14 + 18 := ht3.1; omega) (show ((t3 + 3) : Nat) ≠ 5000001 by have : t3 = 14 ∨ t3 = 14 + 18 := ht3.1; omega)) _
                      exact And.intro (zrtb (by omega)) (And.intro ⟨by omega, by omega⟩ (hQ _ _ z174 (by omega) (by omega)))
                    · refine ⟨zk_X3_fail, zm_X3_fail hg d (by omega), _, rfl, ⟨by omega, by omega⟩, ?_⟩
                      intro x175 m176 qm176 kx175 lx175
                      have z177 := zle_0 z170 qm176
                      exact And.intro (zrtb (by omega)) (And.intro ⟨by omega, by omega⟩ (hQ _ _ z177 (by omega) (by omega)))
                  · refine ⟨zk_X3_fail, zm_X3_fail hg d (by omega), _, rfl, ⟨by omega, by omega⟩, ?_⟩
                    intro x178 m179 qm179 kx178 lx178
                    have z180 := zle_0 z158 qm179
                    exact And.intro (zrtb (by omega)) (And.intro ⟨by omega, by omega⟩ (hQ _ _ z180 (by omega) (by omega)))
                · exact And.intro (zrtb (by omega)) (And.intro ⟨by omega, by omega⟩ (hQ _ _ z158 (by omega) (by omega)))
            · refine ⟨zk_X3_bounds, zm_X3_bounds hg d (by omega), rfl, ?_⟩
              intro x181 m182 qm182 kx181 lx181
              have z183 := zle_0 z129 qm182
              refine And.intro ⟨by omega, by omega⟩ (And.intro (fun c184 => ?_) (fun c184 => ?_))
              · exact And.intro (zrtb (by omega)) (And.intro ⟨by omega, by omega⟩ (hQ _ _ z183 (by omega) (by omega)))
              · intro x185 hx185 kx185 lx185
                refine And.intro ⟨⟨by omega, by omega⟩, ⟨by omega, by omega⟩⟩ (And.intro (fun c186 => ?_) (fun c186 => ?_))
                · intro x187 hx187 kx187 lx187
                  refine And.intro ⟨⟨by omega, by omega⟩, ⟨by omega, by omega⟩⟩ (And.intro (fun c188 => ?_) (fun c188 => ?_))
                  · intro t189 et189 ht189
                    intro x190 hx190 kx190 lx190
                    refine And.intro ht189.1 ?_
                    refine And.intro ⟨by omega, by omega⟩ ?_
                    intro m191 em191
                    have z192 := zle_0 z183 (zl0_f em191 ht189.1 (by decide) (Or.inl (by decide)))
                    have : m191.1 50 ((2 : Nat) : Int) = m182.1 50 ((2 : Nat) : Int) := by rw [em191]; exact congrFun (zu_ne (show (50 : Nat) ≠ t189 by have : t189 = 14 ∨ t189 = 14 + 18 := ht189.1; omega)) _
                    have : m191.1 50 ((5 : Nat) : Int) = m182.1 50 ((5 : Nat) : Int) := by rw [em191]; exact congrFun (zu_ne (show (50 : Nat) ≠ t189 by have : t189 = 14 ∨ t189 = 14 + 18 := ht189.1; omega)) _
                    have : m191.1 (Nat.add t3 3) x12 = m182.1 (Nat.add t3 3) x12 := by rw [em191]; exact congrFun (zu_ne (show ((t3 + 3) : Nat) ≠ t189 by have : t3 = 14 ∨ t3 = 14 + 18 := ht3.1; have : t189 = 14 ∨ t189 = 14 + 18 := ht189.1; omega)) _
                    intro t193 et193 ht193
                    have qt193 : t189 = t193 := by omega
                    subst qt193
                    intro x194 hx194 kx194 lx194
                    refine And.intro ht189.1 ⟨zk_X4_closeClass, zm_X4_closeClass hg d (by omega), _, _, rfl, ht189.1, ⟨by omega, by omega⟩, (zcq_t hp0 z192), ?_⟩
                    intro x195 m196 qm196 kx195 lx195
                    have z197 := zle_t z192 qm196
                    refine And.intro ⟨by omega, by omega⟩ (And.intro (fun c198 => ?_) (fun c198 => ?_))
                    · refine ⟨zk_X5_step, zm_X5_step hg d (by omega), rfl, ?_⟩
                      intro m199 qm199 p200
                      have z201 := zle_0 z197 qm199
                      have : m199.1 50 ((2 : Nat) : Int) = m196.1 50 ((2 : Nat) : Int) := congrFun (p200 50 (show (50 : Nat) ≠ 1 by omega) (show (50 : Nat) ≠ 5000001 by omega)) _
                      have : m199.1 50 ((5 : Nat) : Int) = m196.1 50 ((5 : Nat) : Int) := congrFun (p200 50 (show (50 : Nat) ≠ 1 by omega) (show (50 : Nat) ≠ 5000001 by omega)) _
                      have : m199.1 (Nat.add t3 3) x12 = m196.1 (Nat.add t3 3) x12 := congrFun (p200 (Nat.add t3 3) (show ((t3 + 3) : Nat) ≠ 1 by have : t3 = 14 ∨ t3 = 14 + 18 := ht3.1; omega) (show ((t3 + 3) : Nat) ≠ 5000001 by have : t3 = 14 ∨ t3 = 14 + 18 := ht3.1; omega)) _
                      exact And.intro (zrtb (by omega)) (And.intro ⟨by omega, by omega⟩ (hQ _ _ z201 (by omega) (by omega)))
                    · refine ⟨zk_X3_fail, zm_X3_fail hg d (by omega), _, rfl, ⟨by omega, by omega⟩, ?_⟩
                      intro x202 m203 qm203 kx202 lx202
                      have z204 := zle_0 z197 qm203
                      exact And.intro (zrtb (by omega)) (And.intro ⟨by omega, by omega⟩ (hQ _ _ z204 (by omega) (by omega)))
                  · refine ⟨zk_X3_fail, zm_X3_fail hg d (by omega), _, rfl, ⟨by omega, by omega⟩, ?_⟩
                    intro x205 m206 qm206 kx205 lx205
                    have z207 := zle_0 z183 qm206
                    exact And.intro (zrtb (by omega)) (And.intro ⟨by omega, by omega⟩ (hQ _ _ z207 (by omega) (by omega)))
                · refine ⟨zk_X3_supers, zm_X3_supers hg d (by omega), rfl, ?_⟩
                  intro x208 m209 qm209 kx208 lx208
                  have z210 := zle_0 z183 qm209
                  refine And.intro ⟨by omega, by omega⟩ (And.intro (fun c211 => ?_) (fun c211 => ?_))
                  · intro x212 hx212 kx212 lx212
                    refine And.intro ⟨⟨by omega, by omega⟩, ⟨by omega, by omega⟩⟩ (And.intro (fun c213 => ?_) (fun c213 => ?_))
                    · intro t214 et214 ht214
                      intro x215 hx215 kx215 lx215
                      refine And.intro ht214.1 ?_
                      refine And.intro ⟨by omega, by omega⟩ ?_
                      intro m216 em216
                      have z217 := zle_0 z210 (zl0_f em216 ht214.1 (by decide) (Or.inl (by decide)))
                      have : m216.1 50 ((2 : Nat) : Int) = m209.1 50 ((2 : Nat) : Int) := by rw [em216]; exact congrFun (zu_ne (show (50 : Nat) ≠ t214 by have : t214 = 14 ∨ t214 = 14 + 18 := ht214.1; omega)) _
                      have : m216.1 50 ((5 : Nat) : Int) = m209.1 50 ((5 : Nat) : Int) := by rw [em216]; exact congrFun (zu_ne (show (50 : Nat) ≠ t214 by have : t214 = 14 ∨ t214 = 14 + 18 := ht214.1; omega)) _
                      have : m216.1 (Nat.add t3 3) x12 = m209.1 (Nat.add t3 3) x12 := by rw [em216]; exact congrFun (zu_ne (show ((t3 + 3) : Nat) ≠ t214 by have : t3 = 14 ∨ t3 = 14 + 18 := ht3.1; have : t214 = 14 ∨ t214 = 14 + 18 := ht214.1; omega)) _
                      intro t218 et218 ht218
                      have qt218 : t214 = t218 := by omega
                      subst qt218
                      intro x219 hx219 kx219 lx219
                      refine And.intro ht214.1 ⟨zk_X4_closeClass, zm_X4_closeClass hg d (by omega), _, _, rfl, ht214.1, ⟨by omega, by omega⟩, (zcq_t hp0 z217), ?_⟩
                      intro x220 m221 qm221 kx220 lx220
                      have z222 := zle_t z217 qm221
                      refine And.intro ⟨by omega, by omega⟩ (And.intro (fun c223 => ?_) (fun c223 => ?_))
                      · refine ⟨zk_X5_step, zm_X5_step hg d (by omega), rfl, ?_⟩
                        intro m224 qm224 p225
                        have z226 := zle_0 z222 qm224
                        have : m224.1 50 ((2 : Nat) : Int) = m221.1 50 ((2 : Nat) : Int) := congrFun (p225 50 (show (50 : Nat) ≠ 1 by omega) (show (50 : Nat) ≠ 5000001 by omega)) _
                        have : m224.1 50 ((5 : Nat) : Int) = m221.1 50 ((5 : Nat) : Int) := congrFun (p225 50 (show (50 : Nat) ≠ 1 by omega) (show (50 : Nat) ≠ 5000001 by omega)) _
                        have : m224.1 (Nat.add t3 3) x12 = m221.1 (Nat.add t3 3) x12 := congrFun (p225 (Nat.add t3 3) (show ((t3 + 3) : Nat) ≠ 1 by have : t3 = 14 ∨ t3 = 14 + 18 := ht3.1; omega) (show ((t3 + 3) : Nat) ≠ 5000001 by have : t3 = 14 ∨ t3 = 14 + 18 := ht3.1; omega)) _
                        exact And.intro (zrtb (by omega)) (And.intro ⟨by omega, by omega⟩ (hQ _ _ z226 (by omega) (by omega)))
                      · refine ⟨zk_X3_fail, zm_X3_fail hg d (by omega), _, rfl, ⟨by omega, by omega⟩, ?_⟩
                        intro x227 m228 qm228 kx227 lx227
                        have z229 := zle_0 z222 qm228
                        exact And.intro (zrtb (by omega)) (And.intro ⟨by omega, by omega⟩ (hQ _ _ z229 (by omega) (by omega)))
                    · refine ⟨zk_X3_fail, zm_X3_fail hg d (by omega), _, rfl, ⟨by omega, by omega⟩, ?_⟩
                      intro x230 m231 qm231 kx230 lx230
                      have z232 := zle_0 z210 qm231
                      exact And.intro (zrtb (by omega)) (And.intro ⟨by omega, by omega⟩ (hQ _ _ z232 (by omega) (by omega)))
                  · exact And.intro (zrtb (by omega)) (And.intro ⟨by omega, by omega⟩ (hQ _ _ z210 (by omega) (by omega)))
      · refine ⟨zk_X3_fail, zm_X3_fail hg d (by omega), _, rfl, ⟨by omega, by omega⟩, ?_⟩
        intro x233 m234 qm234 kx233 lx233
        have z235 := zle_0 z0 qm234
        exact And.intro (zrtb (by omega)) (And.intro ⟨by omega, by omega⟩ (hQ _ _ z235 (by omega) (by omega)))
    · refine ⟨zk_X3_fail, zm_X3_fail hg d (by omega), _, rfl, ⟨by omega, by omega⟩, ?_⟩
      intro x236 m237 qm237 kx236 lx236
      have z238 := zle_0 z0 qm237
      exact And.intro (zrtb (by omega)) (And.intro ⟨by omega, by omega⟩ (hQ _ _ z238 (by omega) (by omega)))
  · refine ⟨zk_X3_fail, zm_X3_fail hg d (by omega), _, rfl, ⟨by omega, by omega⟩, ?_⟩
    intro x239 m240 qm240 kx239 lx239
    have z241 := zle_0 z0 qm240
    exact And.intro (zrtb (by omega)) (And.intro ⟨by omega, by omega⟩ (hQ _ _ z241 (by omega) (by omega)))
def zk_X3_readTable : zC := fun As μ Q => ∃ (a1 : Nat), As = [.inr (.inr (50, 50)), .inr (.inr (a1, 14))] ∧ (a1 = 14 ∨ a1 = 32) ∧ (zcq μ) ∧ (∀ (v : Int) (μ' : zM), zle μ μ' → 0 ≤ v → v ≤ 1 → (μ'.1 1 ((4 : Nat) : Int) = 0) → Q (some (.inl v)) μ')
set_option maxHeartbeats 4000000 in
theorem zm_X3_readTable {g : zΓ} (hg : zg g) (d : Nat) (hd : 31 ≤ d) : zOk g d 38 zk_X3_readTable := by
  obtain ⟨d, rfl⟩ : ∃ d', d = d' + 1 := ⟨d - 1, by omega⟩
  refine zOk_loop hg (show mt_tab[38]? = some mt_X3_readTable from rfl) ([(15, [0, 2])], []) 34 rfl fun As μ Q hC => ?_
  obtain ⟨a1, rfl, ha1, hp0, hQ⟩ := hC
  have z0 : zle μ μ := zle_r μ
  refine ⟨rfl, fun pc vs μ' n => ∃ (v2 : Int), vs = [.inr (.inr (50, 50)), .inl v2] ∧ zle μ μ' ∧ (0 ≤ v2 ∧ v2 ≤ 2147483647) ∧ (μ'.1 1 ((4 : Nat) : Int) = 0) ∧ n = (Int.toNat (2147483648 - v2)), ?_, ?_, trivial⟩
  · refine And.intro ha1 ⟨zk_X4_startOver, zm_X4_startOver hg d (by omega), _, rfl, ha1, (zcq_t hp0 z0), ?_⟩
    intro m1 qm1
    have z2 := zle_t z0 qm1
    have : m1.1 1 ((4 : Nat) : Int) = μ.1 1 ((4 : Nat) : Int) ∨ m1.1 1 ((4 : Nat) : Int) = 0 := qm1.2.2.2.1
    refine And.intro ha1 ?_
    refine ⟨_, zOk_tag (zm_X3_start hg d (by omega)), [.inr (.inr (50, 50)), .inr (.inr (a1, 14)), .inr (.inr ((Nat.add a1 11), 200))], rfl, _, _, rfl, ha1, (z200_f (zfa (o := 11) (y2 := 25) ha1 rfl)), ?_⟩
    intro m3 qm3 p4
    have z5 := zle_0 z2 qm3
    refine Exists.intro (Int.toNat (2147483648 - 0)) ?_
    exact ⟨_, rfl, z5, ⟨by omega, by omega⟩, (by omega), rfl⟩
  · intro vs m0 n hI
    clear z0
    obtain ⟨v2, rfl, z0, hv2, i0, rfl⟩ := hI
    refine And.intro ⟨⟨by omega, by omega⟩, ⟨by omega, by omega⟩⟩ (And.intro (fun c6 => ?_) (fun c6 => ?_))
    · refine ⟨zk_X3_fail, zm_X3_fail hg d (by omega), _, rfl, ⟨by omega, by omega⟩, ?_⟩
      intro x7 m8 qm8 kx7 lx7
      have z9 := zle_0 z0 qm8
      have : m8.1 1 ((4 : Nat) : Int) = m0.1 1 ((4 : Nat) : Int) ∨ m8.1 1 ((4 : Nat) : Int) = 0 := qm8.1.2.2.2.1
      exact And.intro (zrtb (by omega)) (And.intro ⟨by omega, by omega⟩ (hQ _ _ z9 (by omega) (by omega) (by omega)))
    · refine ⟨zk_X3_declaration, zm_X3_declaration hg d (by omega), rfl, (zcq_t hp0 z0), ?_⟩
      intro x10 m11 qm11 kx10 lx10
      have z12 := zle_t z0 qm11
      have : m11.1 1 ((4 : Nat) : Int) = m0.1 1 ((4 : Nat) : Int) ∨ m11.1 1 ((4 : Nat) : Int) = 0 := qm11.2.2.2.1
      refine And.intro ⟨by omega, by omega⟩ (And.intro (fun c13 => ?_) (fun c13 => ?_))
      · intro x14 hx14 kx14 lx14
        refine And.intro ⟨by omega, by omega⟩ (And.intro (fun c15 => ?_) (fun c15 => ?_))
        · refine Exists.intro (Int.toNat (2147483648 - (v2 + 1))) (And.intro (by omega) ?_)
          exact ⟨_, rfl, z12, ⟨by omega, by omega⟩, (by omega), rfl⟩
        · exact And.intro (zrtb (by omega)) (And.intro ⟨by omega, by omega⟩ (hQ _ _ z12 (by omega) (by omega) (by omega)))
      · exact And.intro (zrtb (by omega)) (And.intro ⟨by omega, by omega⟩ (hQ _ _ z12 (by omega) (by omega) (by omega)))
def zk_X3_readQuestion : zC := fun As μ Q => ∃ (a1 : Nat), As = [.inr (.inr (50, 50)), .inr (.inr (a1, 14))] ∧ (a1 = 14 ∨ a1 = 32) ∧ (∀ (v : Int) (μ' : zM), zl0 μ μ' → 0 ≤ v → v ≤ 1 → (μ'.1 1 ((4 : Nat) : Int) = 0) → Q (some (.inl v)) μ')
set_option maxHeartbeats 4000000 in
theorem zm_X3_readQuestion {g : zΓ} (hg : zg g) (d : Nat) (hd : 29 ≤ d) : zOk g d 39 zk_X3_readQuestion := by
  obtain ⟨d, rfl⟩ : ∃ d', d = d' + 1 := ⟨d - 1, by omega⟩
  refine zOk_straight hg (show mt_tab[39]? = some mt_X3_readQuestion from rfl) [] 71 rfl fun As μ Q hC => ?_
  obtain ⟨a1, rfl, ha1, hQ⟩ := hC
  refine ⟨rfl, ?_⟩
  have z0 : zl0 μ μ := zl0_r μ
  refine ⟨_, zOk_tag (zm_X3_start hg d (by omega)), [.inr (.inr (50, 50)), .inr (.inr (a1, 14)), .inr (.inr (51, 200))], rfl, _, _, rfl, ha1, (Or.inr (Or.inr rfl)), ?_⟩
  intro m1 qm1 p2
  have z3 := zl0_t z0 qm1
  refine ⟨zk_X3_opening, zm_X3_opening hg d (by omega), rfl, ?_⟩
  intro x4 m5 qm5 kx4 lx4
  have z6 := zl0_t z3 qm5
  have : m5.1 1 ((4 : Nat) : Int) = m1.1 1 ((4 : Nat) : Int) ∨ m5.1 1 ((4 : Nat) : Int) = 0 := qm5.1.2.2.2.1
  refine And.intro ⟨by omega, by omega⟩ (And.intro (fun c7 => ?_) (fun c7 => ?_))
  · exact And.intro (zrtb (by omega)) (And.intro ⟨by omega, by omega⟩ (hQ _ _ z6 (by omega) (by omega) (by omega)))
  · refine ⟨(zk_X3_type 8), zm_X3_typeN hg 8 d (by omega), _, _, _, rfl, ⟨by omega, by omega⟩, ⟨by omega, by omega⟩, ⟨by omega, by omega⟩, (by omega), ?_⟩
    intro x8 m9 qm9 kx8 lx8
    have z10 := zl0_t z6 qm9
    have : m9.1 1 ((4 : Nat) : Int) = m5.1 1 ((4 : Nat) : Int) ∨ m9.1 1 ((4 : Nat) : Int) = 0 := qm9.1.2.2.2.1
    refine And.intro ⟨by omega, by omega⟩ (And.intro (fun c11 => ?_) (fun c11 => ?_))
    · exact And.intro (zrtb (by omega)) (And.intro ⟨by omega, by omega⟩ (hQ _ _ z10 (by omega) (by omega) (by omega)))
    · intro x12 hx12 kx12 lx12
      refine And.intro ⟨⟨by omega, by omega⟩, ⟨by omega, by omega⟩⟩ (And.intro (fun c13 => ?_) (fun c13 => ?_))
      · refine ⟨zk_X3_behindType, zm_X3_behindType hg d (by omega), _, rfl, ⟨by omega, by omega⟩, ?_⟩
        intro x14 m15 qm15 kx14 lx14
        have z16 := zl0_t z10 qm15
        have : m15.1 1 ((4 : Nat) : Int) = m9.1 1 ((4 : Nat) : Int) ∨ m15.1 1 ((4 : Nat) : Int) = 0 := qm15.1.2.2.2.1
        refine And.intro ⟨by omega, by omega⟩ (And.intro (fun c17 => ?_) (fun c17 => ?_))
        · refine ⟨zk_X5_step, zm_X5_step hg d (by omega), rfl, ?_⟩
          intro m18 qm18 p19
          have z20 := zl0_t z16 qm18
          have : m18.1 1 ((4 : Nat) : Int) = m15.1 1 ((4 : Nat) : Int) ∨ m18.1 1 ((4 : Nat) : Int) = 0 := qm18.1.2.2.2.1
          intro x21 hx21 kx21 lx21
          refine And.intro ⟨⟨by omega, by omega⟩, ⟨by omega, by omega⟩⟩ (And.intro (fun c22 => ?_) (fun c22 => ?_))
          · refine ⟨zk_X5_step, zm_X5_step hg d (by omega), rfl, ?_⟩
            intro m23 qm23 p24
            have z25 := zl0_t z20 qm23
            have : m23.1 1 ((4 : Nat) : Int) = m18.1 1 ((4 : Nat) : Int) ∨ m23.1 1 ((4 : Nat) : Int) = 0 := qm23.1.2.2.2.1
            intro x26 hx26 kx26 lx26
            refine And.intro ⟨by omega, by omega⟩ ?_
            intro m27 em27
            have z28 := zl0_t z25 (zl0_u em27 (Or.inl (by decide)) (Or.inl ⟨by decide, by decide⟩))
            have : m27.1 1 ((4 : Nat) : Int) = m23.1 1 ((4 : Nat) : Int) := by rw [em27]; exact congrFun (zu_ne (show (1 : Nat) ≠ 50 by omega)) _
            refine ⟨(zk_X3_type 8), zm_X3_typeN hg 8 d (by omega), _, _, _, rfl, ⟨by omega, by omega⟩, ⟨by omega, by omega⟩, ⟨by omega, by omega⟩, (by omega), ?_⟩
            intro x29 m30 qm30 kx29 lx29
            have z31 := zl0_t z28 qm30
            have : m30.1 1 ((4 : Nat) : Int) = m27.1 1 ((4 : Nat) : Int) ∨ m30.1 1 ((4 : Nat) : Int) = 0 := qm30.1.2.2.2.1
            refine And.intro ⟨by omega, by omega⟩ (And.intro (fun c32 => ?_) (fun c32 => ?_))
            · exact And.intro (zrtb (by omega)) (And.intro ⟨by omega, by omega⟩ (hQ _ _ z31 (by omega) (by omega) (by omega)))
            · intro x33 hx33 kx33 lx33
              refine And.intro ⟨by omega, by omega⟩ (And.intro (fun c34 => ?_) (fun c34 => ?_))
              · refine ⟨zk_X3_behindType, zm_X3_behindType hg d (by omega), _, rfl, ⟨by omega, by omega⟩, ?_⟩
                intro x35 m36 qm36 kx35 lx35
                have z37 := zl0_t z31 qm36
                have : m36.1 1 ((4 : Nat) : Int) = m30.1 1 ((4 : Nat) : Int) ∨ m36.1 1 ((4 : Nat) : Int) = 0 := qm36.1.2.2.2.1
                refine And.intro ⟨by omega, by omega⟩ (And.intro (fun c38 => ?_) (fun c38 => ?_))
                · exact And.intro (zrtb (by omega)) (And.intro ⟨by omega, by omega⟩ (hQ _ _ z37 (by omega) (by omega) (by omega)))
                · exact And.intro (zrtb (by omega)) (And.intro ⟨by omega, by omega⟩ (hQ _ _ z37 (by omega) (by omega) (by omega)))
              · refine ⟨zk_X3_behindType, zm_X3_behindType hg d (by omega), _, rfl, ⟨by omega, by omega⟩, ?_⟩
                intro x39 m40 qm40 kx39 lx39
                have z41 := zl0_t z31 qm40
                have : m40.1 1 ((4 : Nat) : Int) = m30.1 1 ((4 : Nat) : Int) ∨ m40.1 1 ((4 : Nat) : Int) = 0 := qm40.1.2.2.2.1
                refine And.intro ⟨by omega, by omega⟩ (And.intro (fun c42 => ?_) (fun c42 => ?_))
                · exact And.intro (zrtb (by omega)) (And.intro ⟨by omega, by omega⟩ (hQ _ _ z41 (by omega) (by omega) (by omega)))
                · exact And.intro (zrtb (by omega)) (And.intro ⟨by omega, by omega⟩ (hQ _ _ z41 (by omega) (by omega) (by omega)))
          · refine ⟨zk_X3_fail, zm_X3_fail hg d (by omega), _, rfl, ⟨by omega, by omega⟩, ?_⟩
            intro x43 m44 qm44 kx43 lx43
            have z45 := zl0_t z20 qm44
            have : m44.1 1 ((4 : Nat) : Int) = m18.1 1 ((4 : Nat) : Int) ∨ m44.1 1 ((4 : Nat) : Int) = 0 := qm44.1.2.2.2.1
            exact And.intro (zrtb (by omega)) (And.intro ⟨by omega, by omega⟩ (hQ _ _ z45 (by omega) (by omega) (by omega)))
        · exact And.intro (zrtb (by omega)) (And.intro ⟨by omega, by omega⟩ (hQ _ _ z16 (by omega) (by omega) (by omega)))
      · refine ⟨zk_X3_behindType, zm_X3_behindType hg d (by omega), _, rfl, ⟨by omega, by omega⟩, ?_⟩
        intro x46 m47 qm47 kx46 lx46
        have z48 := zl0_t z10 qm47
        have : m47.1 1 ((4 : Nat) : Int) = m9.1 1 ((4 : Nat) : Int) ∨ m47.1 1 ((4 : Nat) : Int) = 0 := qm47.1.2.2.2.1
        refine And.intro ⟨by omega, by omega⟩ (And.intro (fun c49 => ?_) (fun c49 => ?_))
        · refine ⟨zk_X5_step, zm_X5_step hg d (by omega), rfl, ?_⟩
          intro m50 qm50 p51
          have z52 := zl0_t z48 qm50
          have : m50.1 1 ((4 : Nat) : Int) = m47.1 1 ((4 : Nat) : Int) ∨ m50.1 1 ((4 : Nat) : Int) = 0 := qm50.1.2.2.2.1
          intro x53 hx53 kx53 lx53
          refine And.intro ⟨⟨by omega, by omega⟩, ⟨by omega, by omega⟩⟩ (And.intro (fun c54 => ?_) (fun c54 => ?_))
          · refine ⟨zk_X5_step, zm_X5_step hg d (by omega), rfl, ?_⟩
            intro m55 qm55 p56
            have z57 := zl0_t z52 qm55
            have : m55.1 1 ((4 : Nat) : Int) = m50.1 1 ((4 : Nat) : Int) ∨ m55.1 1 ((4 : Nat) : Int) = 0 := qm55.1.2.2.2.1
            intro x58 hx58 kx58 lx58
            refine And.intro ⟨by omega, by omega⟩ ?_
            intro m59 em59
            have z60 := zl0_t z57 (zl0_u em59 (Or.inl (by decide)) (Or.inl ⟨by decide, by decide⟩))
            have : m59.1 1 ((4 : Nat) : Int) = m55.1 1 ((4 : Nat) : Int) := by rw [em59]; exact congrFun (zu_ne (show (1 : Nat) ≠ 50 by omega)) _
            refine ⟨(zk_X3_type 8), zm_X3_typeN hg 8 d (by omega), _, _, _, rfl, ⟨by omega, by omega⟩, ⟨by omega, by omega⟩, ⟨by omega, by omega⟩, (by omega), ?_⟩
            intro x61 m62 qm62 kx61 lx61
            have z63 := zl0_t z60 qm62
            have : m62.1 1 ((4 : Nat) : Int) = m59.1 1 ((4 : Nat) : Int) ∨ m62.1 1 ((4 : Nat) : Int) = 0 := qm62.1.2.2.2.1
            refine And.intro ⟨by omega, by omega⟩ (And.intro (fun c64 => ?_) (fun c64 => ?_))
            · exact And.intro (zrtb (by omega)) (And.intro ⟨by omega, by omega⟩ (hQ _ _ z63 (by omega) (by omega) (by omega)))
            · intro x65 hx65 kx65 lx65
              refine And.intro ⟨by omega, by omega⟩ (And.intro (fun c66 => ?_) (fun c66 => ?_))
              · refine ⟨zk_X3_behindType, zm_X3_behindType hg d (by omega), _, rfl, ⟨by omega, by omega⟩, ?_⟩
                intro x67 m68 qm68 kx67 lx67
                have z69 := zl0_t z63 qm68
                have : m68.1 1 ((4 : Nat) : Int) = m62.1 1 ((4 : Nat) : Int) ∨ m68.1 1 ((4 : Nat) : Int) = 0 := qm68.1.2.2.2.1
                refine And.intro ⟨by omega, by omega⟩ (And.intro (fun c70 => ?_) (fun c70 => ?_))
                · exact And.intro (zrtb (by omega)) (And.intro ⟨by omega, by omega⟩ (hQ _ _ z69 (by omega) (by omega) (by omega)))
                · exact And.intro (zrtb (by omega)) (And.intro ⟨by omega, by omega⟩ (hQ _ _ z69 (by omega) (by omega) (by omega)))
              · refine ⟨zk_X3_behindType, zm_X3_behindType hg d (by omega), _, rfl, ⟨by omega, by omega⟩, ?_⟩
                intro x71 m72 qm72 kx71 lx71
                have z73 := zl0_t z63 qm72
                have : m72.1 1 ((4 : Nat) : Int) = m62.1 1 ((4 : Nat) : Int) ∨ m72.1 1 ((4 : Nat) : Int) = 0 := qm72.1.2.2.2.1
                refine And.intro ⟨by omega, by omega⟩ (And.intro (fun c74 => ?_) (fun c74 => ?_))
                · exact And.intro (zrtb (by omega)) (And.intro ⟨by omega, by omega⟩ (hQ _ _ z73 (by omega) (by omega) (by omega)))
                · exact And.intro (zrtb (by omega)) (And.intro ⟨by omega, by omega⟩ (hQ _ _ z73 (by omega) (by omega) (by omega)))
          · refine ⟨zk_X3_fail, zm_X3_fail hg d (by omega), _, rfl, ⟨by omega, by omega⟩, ?_⟩
            intro x75 m76 qm76 kx75 lx75
            have z77 := zl0_t z52 qm76
            have : m76.1 1 ((4 : Nat) : Int) = m50.1 1 ((4 : Nat) : Int) ∨ m76.1 1 ((4 : Nat) : Int) = 0 := qm76.1.2.2.2.1
            exact And.intro (zrtb (by omega)) (And.intro ⟨by omega, by omega⟩ (hQ _ _ z77 (by omega) (by omega) (by omega)))
        · exact And.intro (zrtb (by omega)) (And.intro ⟨by omega, by omega⟩ (hQ _ _ z48 (by omega) (by omega) (by omega)))
def zk_X3_readPlace : zC := fun As μ Q => ∃ (a1 : Nat), As = [.inr (.inr (50, 50)), .inr (.inr (a1, 14))] ∧ (a1 = 14 ∨ a1 = 32) ∧ (∀ (v : Int) (μ' : zM), zl0 μ μ' → 0 ≤ v → v ≤ 1 → (μ'.1 1 ((4 : Nat) : Int) = 0) → Q (some (.inl v)) μ')
set_option maxHeartbeats 4000000 in
theorem zm_X3_readPlace {g : zΓ} (hg : zg g) (d : Nat) (hd : 29 ≤ d) : zOk g d 40 zk_X3_readPlace := by
  obtain ⟨d, rfl⟩ : ∃ d', d = d' + 1 := ⟨d - 1, by omega⟩
  refine zOk_straight hg (show mt_tab[40]? = some mt_X3_readPlace from rfl) [] 74 rfl fun As μ Q hC => ?_
  obtain ⟨a1, rfl, ha1, hQ⟩ := hC
  refine ⟨rfl, ?_⟩
  have z0 : zl0 μ μ := zl0_r μ
  refine ⟨_, zOk_tag (zm_X3_start hg d (by omega)), [.inr (.inr (50, 50)), .inr (.inr (a1, 14)), .inr (.inr (51, 200))], rfl, _, _, rfl, ha1, (Or.inr (Or.inr rfl)), ?_⟩
  intro m1 qm1 p2
  have z3 := zl0_t z0 qm1
  refine ⟨zk_X3_opening, zm_X3_opening hg d (by omega), rfl, ?_⟩
  intro x4 m5 qm5 kx4 lx4
  have z6 := zl0_t z3 qm5
  have : m5.1 1 ((4 : Nat) : Int) = m1.1 1 ((4 : Nat) : Int) ∨ m5.1 1 ((4 : Nat) : Int) = 0 := qm5.1.2.2.2.1
  refine And.intro ⟨by omega, by omega⟩ (And.intro (fun c7 => ?_) (fun c7 => ?_))
  · exact And.intro (zrtb (by omega)) (And.intro ⟨by omega, by omega⟩ (hQ _ _ z6 (by omega) (by omega) (by omega)))
  · refine ⟨(zk_X3_type 8), zm_X3_typeN hg 8 d (by omega), _, _, _, rfl, ⟨by omega, by omega⟩, ⟨by omega, by omega⟩, ⟨by omega, by omega⟩, (by omega), ?_⟩
    intro x8 m9 qm9 kx8 lx8
    have z10 := zl0_t z6 qm9
    have : m9.1 1 ((4 : Nat) : Int) = m5.1 1 ((4 : Nat) : Int) ∨ m9.1 1 ((4 : Nat) : Int) = 0 := qm9.1.2.2.2.1
    refine And.intro ⟨by omega, by omega⟩ (And.intro (fun c11 => ?_) (fun c11 => ?_))
    · exact And.intro (zrtb (by omega)) (And.intro ⟨by omega, by omega⟩ (hQ _ _ z10 (by omega) (by omega) (by omega)))
    · intro x12 hx12 kx12 lx12
      refine And.intro ⟨⟨by omega, by omega⟩, ⟨by omega, by omega⟩⟩ (And.intro (fun c13 => ?_) (fun c13 => ?_))
      · refine ⟨zk_X3_behindType, zm_X3_behindType hg d (by omega), _, rfl, ⟨by omega, by omega⟩, ?_⟩
        intro x14 m15 qm15 kx14 lx14
        have z16 := zl0_t z10 qm15
        have : m15.1 1 ((4 : Nat) : Int) = m9.1 1 ((4 : Nat) : Int) ∨ m15.1 1 ((4 : Nat) : Int) = 0 := qm15.1.2.2.2.1
        refine And.intro ⟨by omega, by omega⟩ (And.intro (fun c17 => ?_) (fun c17 => ?_))
        · refine ⟨zk_X5_step, zm_X5_step hg d (by omega), rfl, ?_⟩
          intro m18 qm18 p19
          have z20 := zl0_t z16 qm18
          have : m18.1 1 ((4 : Nat) : Int) = m15.1 1 ((4 : Nat) : Int) ∨ m18.1 1 ((4 : Nat) : Int) = 0 := qm18.1.2.2.2.1
          intro x21 hx21 kx21 lx21
          refine And.intro ⟨⟨by omega, by omega⟩, ⟨by omega, by omega⟩⟩ (And.intro (fun c22 => ?_) (fun c22 => ?_))
          · intro t23 et23 ht23
            intro j24 hj24
            refine And.intro ht23.1 ⟨zk_X4_findClass, zm_X4_findClass hg d (by omega), _, _, rfl, ht23.1, ?_⟩
            intro x25 kx25 lx25
            refine And.intro ⟨by omega, by omega⟩ ?_
            intro m26 em26
            have z27 := zl0_t z20 (zl0_u em26 (Or.inl (by decide)) (Or.inl ⟨by decide, by decide⟩))
            have : m26.1 1 ((4 : Nat) : Int) = m18.1 1 ((4 : Nat) : Int) := by rw [em26]; exact congrFun (zu_ne (show (1 : Nat) ≠ 50 by omega)) _
            intro x28 hx28 kx28 lx28
            refine And.intro ⟨by omega, by omega⟩ (And.intro (fun c29 => ?_) (fun c29 => ?_))
            · refine ⟨zk_X5_step, zm_X5_step hg d (by omega), rfl, ?_⟩
              intro m30 qm30 p31
              have z32 := zl0_t z27 qm30
              have : m30.1 1 ((4 : Nat) : Int) = m26.1 1 ((4 : Nat) : Int) ∨ m30.1 1 ((4 : Nat) : Int) = 0 := qm30.1.2.2.2.1
              intro x33 hx33 kx33 lx33
              refine And.intro ⟨by omega, by omega⟩ (And.intro (fun c34 => ?_) (fun c34 => ?_))
              · exact And.intro (zrtb (by omega)) (And.intro ⟨by omega, by omega⟩ (hQ _ _ z32 (by omega) (by omega) (by omega)))
              · refine ⟨zk_X3_fail, zm_X3_fail hg d (by omega), _, rfl, ⟨by omega, by omega⟩, ?_⟩
                intro x35 m36 qm36 kx35 lx35
                have z37 := zl0_t z32 qm36
                have : m36.1 1 ((4 : Nat) : Int) = m30.1 1 ((4 : Nat) : Int) ∨ m36.1 1 ((4 : Nat) : Int) = 0 := qm36.1.2.2.2.1
                refine And.intro ⟨by omega, by omega⟩ (And.intro (fun c38 => ?_) (fun c38 => ?_))
                · exact And.intro (zrtb (by omega)) (And.intro ⟨by omega, by omega⟩ (hQ _ _ z37 (by omega) (by omega) (by omega)))
                · exfalso; omega
            · refine ⟨zk_X3_fail, zm_X3_fail hg d (by omega), _, rfl, ⟨by omega, by omega⟩, ?_⟩
              intro x39 m40 qm40 kx39 lx39
              have z41 := zl0_t z27 qm40
              have : m40.1 1 ((4 : Nat) : Int) = m26.1 1 ((4 : Nat) : Int) ∨ m40.1 1 ((4 : Nat) : Int) = 0 := qm40.1.2.2.2.1
              exact And.intro (zrtb (by omega)) (And.intro ⟨by omega, by omega⟩ (hQ _ _ z41 (by omega) (by omega) (by omega)))
          · refine ⟨zk_X3_fail, zm_X3_fail hg d (by omega), _, rfl, ⟨by omega, by omega⟩, ?_⟩
            intro x42 m43 qm43 kx42 lx42
            have z44 := zl0_t z20 qm43
            have : m43.1 1 ((4 : Nat) : Int) = m18.1 1 ((4 : Nat) : Int) ∨ m43.1 1 ((4 : Nat) : Int) = 0 := qm43.1.2.2.2.1
            exact And.intro (zrtb (by omega)) (And.intro ⟨by omega, by omega⟩ (hQ _ _ z44 (by omega) (by omega) (by omega)))
        · exact And.intro (zrtb (by omega)) (And.intro ⟨by omega, by omega⟩ (hQ _ _ z16 (by omega) (by omega) (by omega)))
      · refine ⟨zk_X3_behindType, zm_X3_behindType hg d (by omega), _, rfl, ⟨by omega, by omega⟩, ?_⟩
        intro x45 m46 qm46 kx45 lx45
        have z47 := zl0_t z10 qm46
        have : m46.1 1 ((4 : Nat) : Int) = m9.1 1 ((4 : Nat) : Int) ∨ m46.1 1 ((4 : Nat) : Int) = 0 := qm46.1.2.2.2.1
        refine And.intro ⟨by omega, by omega⟩ (And.intro (fun c48 => ?_) (fun c48 => ?_))
        · refine ⟨zk_X5_step, zm_X5_step hg d (by omega), rfl, ?_⟩
          intro m49 qm49 p50
          have z51 := zl0_t z47 qm49
          have : m49.1 1 ((4 : Nat) : Int) = m46.1 1 ((4 : Nat) : Int) ∨ m49.1 1 ((4 : Nat) : Int) = 0 := qm49.1.2.2.2.1
          intro x52 hx52 kx52 lx52
          refine And.intro ⟨⟨by omega, by omega⟩, ⟨by omega, by omega⟩⟩ (And.intro (fun c53 => ?_) (fun c53 => ?_))
          · intro t54 et54 ht54
            intro j55 hj55
            refine And.intro ht54.1 ⟨zk_X4_findClass, zm_X4_findClass hg d (by omega), _, _, rfl, ht54.1, ?_⟩
            intro x56 kx56 lx56
            refine And.intro ⟨by omega, by omega⟩ ?_
            intro m57 em57
            have z58 := zl0_t z51 (zl0_u em57 (Or.inl (by decide)) (Or.inl ⟨by decide, by decide⟩))
            have : m57.1 1 ((4 : Nat) : Int) = m49.1 1 ((4 : Nat) : Int) := by rw [em57]; exact congrFun (zu_ne (show (1 : Nat) ≠ 50 by omega)) _
            intro x59 hx59 kx59 lx59
            refine And.intro ⟨by omega, by omega⟩ (And.intro (fun c60 => ?_) (fun c60 => ?_))
            · refine ⟨zk_X5_step, zm_X5_step hg d (by omega), rfl, ?_⟩
              intro m61 qm61 p62
              have z63 := zl0_t z58 qm61
              have : m61.1 1 ((4 : Nat) : Int) = m57.1 1 ((4 : Nat) : Int) ∨ m61.1 1 ((4 : Nat) : Int) = 0 := qm61.1.2.2.2.1
              intro x64 hx64 kx64 lx64
              refine And.intro ⟨by omega, by omega⟩ (And.intro (fun c65 => ?_) (fun c65 => ?_))
              · exact And.intro (zrtb (by omega)) (And.intro ⟨by omega, by omega⟩ (hQ _ _ z63 (by omega) (by omega) (by omega)))
              · refine ⟨zk_X3_fail, zm_X3_fail hg d (by omega), _, rfl, ⟨by omega, by omega⟩, ?_⟩
                intro x66 m67 qm67 kx66 lx66
                have z68 := zl0_t z63 qm67
                have : m67.1 1 ((4 : Nat) : Int) = m61.1 1 ((4 : Nat) : Int) ∨ m67.1 1 ((4 : Nat) : Int) = 0 := qm67.1.2.2.2.1
                refine And.intro ⟨by omega, by omega⟩ (And.intro (fun c69 => ?_) (fun c69 => ?_))
                · exact And.intro (zrtb (by omega)) (And.intro ⟨by omega, by omega⟩ (hQ _ _ z68 (by omega) (by omega) (by omega)))
                · exfalso; omega
            · refine ⟨zk_X3_fail, zm_X3_fail hg d (by omega), _, rfl, ⟨by omega, by omega⟩, ?_⟩
              intro x70 m71 qm71 kx70 lx70
              have z72 := zl0_t z58 qm71
              have : m71.1 1 ((4 : Nat) : Int) = m57.1 1 ((4 : Nat) : Int) ∨ m71.1 1 ((4 : Nat) : Int) = 0 := qm71.1.2.2.2.1
              exact And.intro (zrtb (by omega)) (And.intro ⟨by omega, by omega⟩ (hQ _ _ z72 (by omega) (by omega) (by omega)))
          · refine ⟨zk_X3_fail, zm_X3_fail hg d (by omega), _, rfl, ⟨by omega, by omega⟩, ?_⟩
            intro x73 m74 qm74 kx73 lx73
            have z75 := zl0_t z51 qm74
            have : m74.1 1 ((4 : Nat) : Int) = m49.1 1 ((4 : Nat) : Int) ∨ m74.1 1 ((4 : Nat) : Int) = 0 := qm74.1.2.2.2.1
            exact And.intro (zrtb (by omega)) (And.intro ⟨by omega, by omega⟩ (hQ _ _ z75 (by omega) (by omega) (by omega)))
        · exact And.intro (zrtb (by omega)) (And.intro ⟨by omega, by omega⟩ (hQ _ _ z47 (by omega) (by omega) (by omega)))
