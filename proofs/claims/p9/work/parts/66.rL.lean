/-! ### write -/
def zk_X9_write : zC := fun As μ Q => ∃ (a1 : Int), As = [.inr (.inr (66, 66)), .inl a1] ∧ (0 ≤ a1 ∧ a1 ≤ 19999) ∧ (∀ x : Int, 0 ≤ x → x < zTop μ → zNd μ x) ∧ (a1 < zTop μ) ∧ (∀ (μ' : zM), zfx [96, 99, 106] [56] μ μ' → Q none μ')
set_option maxHeartbeats 2000000 in
theorem zm_X9_write {g : zΓ} (hg : zg g) (d : Nat) (hd : 4 ≤ d) : zOk g d 177 zk_X9_write := by
  obtain ⟨d, rfl⟩ : ∃ d', d = d' + 1 := ⟨d - 1, by omega⟩
  refine zOk_loop hg (show mt_tab[177]? = some mt_X9_write from rfl) ([(23, [0, 2])], []) 106 rfl fun As μ Q hC => ?_
  obtain ⟨a1, rfl, ha1, hp0, hp1, hQ⟩ := hC
  have z0 : zfx [96, 99, 106] [56] μ μ := zfx_x μ
  refine ⟨rfl, fun pc vs μ' n => ∃ (v2 : Int), vs = [.inr (.inr (66, 66)), .inl v2] ∧ zfx [96, 99, 106] [56] μ μ' ∧ (0 ≤ v2 ∧ v2 ≤ 20000) ∧ (zWi μ μ' a1 v2) ∧ n = (zws μ' (Int.toNat v2)), ?_, ?_, trivial⟩
  · refine And.intro ⟨by omega, by omega⟩ ?_
    intro m1 em1
    have z2 := zfx_f z0 em1 rfl
    refine And.intro ⟨by omega, by omega⟩ (And.intro ⟨by omega, by omega⟩ ?_)
    intro m3 em3
    have z4 := zfx_r z2 em3 rfl (by decide)
    refine And.intro ⟨by omega, by omega⟩ (And.intro ⟨by omega, by omega⟩ ?_)
    intro m5 em5
    have z6 := zfx_r z4 em5 rfl (by decide)
    refine Exists.intro (zws m5 (Int.toNat 1)) ?_
    exact ⟨_, rfl, z6, ⟨by omega, by omega⟩, (fun j a b => by rw [show j = 0 by omega, em5, zu_ne (by decide), em3, zu_at, zu_at]; exact ⟨⟨by omega, hp1, by omega⟩, by omega, (hp0 a1 (by omega) hp1).1.1⟩), rfl⟩
  · intro vs m0 n hI
    clear z0
    obtain ⟨v2, rfl, z0, hv2, i0, rfl⟩ := hI
    refine And.intro ⟨by omega, by omega⟩ (And.intro (fun c7 => ?_) (fun c7 => ?_))
    · exact And.intro rfl (hQ _ z0)
    · intro x8 hx8 kx8 lx8
      refine And.intro ⟨⟨by omega, by omega⟩, ⟨by omega, by omega⟩⟩ (And.intro (fun c9 => ?_) (fun c9 => ?_))
      · exact And.intro rfl (hQ _ z0)
      · refine And.intro ⟨by omega, by omega⟩ ?_
        intro x10 hx10 kx10 lx10
        have HL := i0 (v2 - 1) (by omega) (by omega)
        rw [← hx10] at HL
        have ND := hp0 x10 HL.1.1 HL.1.2.1
        refine And.intro ⟨by omega, by omega⟩ ?_
        intro x11 hx11 kx11 lx11
        rw [← hx11] at HL
        refine And.intro ⟨by omega, by omega⟩ (And.intro (fun c12 => ?_) (fun c12 => ?_))
        · refine And.intro ⟨by omega, by omega⟩ ?_
          intro x13 hx13 kx13 lx13
          rw [show m0.1 69 = μ.1 69 from z0.1 69 (by decide) rfl] at hx13
          refine And.intro ⟨⟨by omega, by omega⟩, ⟨by omega, by omega⟩⟩ (And.intro (fun c14 => ?_) (fun c14 => ?_))
          · refine And.intro ⟨by omega, by omega⟩ ?_
            intro x15 hx15 kx15 lx15
            rw [show m0.1 67 = μ.1 67 from z0.1 67 (by decide) rfl] at hx15
            refine And.intro ⟨by omega, by omega⟩ (And.intro (fun c16 => ?_) (fun c16 => ?_))
            · have P0 := ND.2.1 x11 (by omega) (by omega)
              refine And.intro ⟨by omega, by omega⟩ (And.intro ⟨by omega, by omega⟩ ?_)
              intro m17 em17
              have z18 := zfx_r z0 em17 rfl (by decide)
              refine And.intro ⟨by omega, by omega⟩ ?_
              intro x19 hx19 kx19 lx19
              rw [show m17.1 70 = μ.1 70 from z18.1 70 (by decide) rfl] at hx19
              refine And.intro ⟨by omega, by omega⟩ (And.intro ⟨by omega, by omega⟩ ?_)
              intro m20 em20
              have z21 := zfx_r z18 em20 rfl (by decide)
              refine And.intro ⟨by omega, by omega⟩ (And.intro ⟨by omega, by omega⟩ ?_)
              intro m22 em22
              have z23 := zfx_r z21 em22 rfl (by decide)
              have R := zW_push hp0 i0 (by omega) hx10 hx11 (by omega) (by rw [hx19]) rfl rfl em17 (by omega) em20 em22
              refine Exists.intro (zws m22 (Int.toNat (v2 + 1))) (And.intro R.2.1 ?_)
              exact ⟨_, rfl, z23, ⟨by omega, by omega⟩, R.1, rfl⟩
            · refine And.intro ⟨by omega, by omega⟩ (And.intro (fun c24 => ?_) (fun c24 => ?_))
              · refine ⟨zk_X9_sign, zm_X9_sign hg d (by omega), _, rfl, ⟨by omega, by omega⟩, ?_⟩
                intro m25 qm25
                have z26 := zfx_t z0 qm25 rfl rfl
                have P0 := ND.2.1 x11 (by omega) (by omega)
                refine And.intro ⟨by omega, by omega⟩ (And.intro ⟨by omega, by omega⟩ ?_)
                intro m27 em27
                have z28 := zfx_r z26 em27 rfl (by decide)
                refine And.intro ⟨by omega, by omega⟩ ?_
                intro x29 hx29 kx29 lx29
                rw [show m27.1 70 = μ.1 70 from z28.1 70 (by decide) rfl] at hx29
                refine And.intro ⟨by omega, by omega⟩ (And.intro ⟨by omega, by omega⟩ ?_)
                intro m30 em30
                have z31 := zfx_r z28 em30 rfl (by decide)
                refine And.intro ⟨by omega, by omega⟩ (And.intro ⟨by omega, by omega⟩ ?_)
                intro m32 em32
                have z33 := zfx_r z31 em32 rfl (by decide)
                have R := zW_push hp0 i0 (by omega) hx10 hx11 (by omega) (by rw [hx29]) (by rw [qm25.1 106 (by decide) rfl]) (by rw [qm25.1 99 (by decide) rfl]) em27 (by omega) em30 em32
                refine Exists.intro (zws m32 (Int.toNat (v2 + 1))) (And.intro R.2.1 ?_)
                exact ⟨_, rfl, z33, ⟨by omega, by omega⟩, R.1, rfl⟩
              · refine ⟨zk_X9_sign, zm_X9_sign hg d (by omega), _, rfl, ⟨by omega, by omega⟩, ?_⟩
                intro m34 qm34
                have z35 := zfx_t z0 qm34 rfl rfl
                have P0 := ND.2.1 x11 (by omega) (by omega)
                refine And.intro ⟨by omega, by omega⟩ (And.intro ⟨by omega, by omega⟩ ?_)
                intro m36 em36
                have z37 := zfx_r z35 em36 rfl (by decide)
                refine And.intro ⟨by omega, by omega⟩ ?_
                intro x38 hx38 kx38 lx38
                rw [show m36.1 70 = μ.1 70 from z37.1 70 (by decide) rfl] at hx38
                refine And.intro ⟨by omega, by omega⟩ (And.intro ⟨by omega, by omega⟩ ?_)
                intro m39 em39
                have z40 := zfx_r z37 em39 rfl (by decide)
                refine And.intro ⟨by omega, by omega⟩ (And.intro ⟨by omega, by omega⟩ ?_)
                intro m41 em41
                have z42 := zfx_r z40 em41 rfl (by decide)
                have R := zW_push hp0 i0 (by omega) hx10 hx11 (by omega) (by rw [hx38]) (by rw [qm34.1 106 (by decide) rfl]) (by rw [qm34.1 99 (by decide) rfl]) em36 (by omega) em39 em41
                refine Exists.intro (zws m41 (Int.toNat (v2 + 1))) (And.intro R.2.1 ?_)
                exact ⟨_, rfl, z42, ⟨by omega, by omega⟩, R.1, rfl⟩
          · refine And.intro ⟨by omega, by omega⟩ ?_
            intro x43 hx43 kx43 lx43
            rw [show m0.1 67 = μ.1 67 from z0.1 67 (by decide) rfl] at hx43
            refine And.intro ⟨by omega, by omega⟩ (And.intro (fun c44 => ?_) (fun c44 => ?_))
            · refine Exists.intro (zws m0 (Int.toNat (v2 + (-1)))) (And.intro (zW_pop i0 (by omega) (by rw [← hx10]; exact ND.1.2) rfl rfl).2 ?_)
              exact ⟨_, rfl, z0, ⟨by omega, by omega⟩, (zW_pop i0 (by omega) (by rw [← hx10]; exact ND.1.2) rfl rfl).1, rfl⟩
            · refine And.intro ⟨by omega, by omega⟩ (And.intro (fun c45 => ?_) (fun c45 => ?_))
              · refine Exists.intro (zws m0 (Int.toNat (v2 + (-1)))) (And.intro (zW_pop i0 (by omega) (by rw [← hx10]; exact ND.1.2) rfl rfl).2 ?_)
                exact ⟨_, rfl, z0, ⟨by omega, by omega⟩, (zW_pop i0 (by omega) (by rw [← hx10]; exact ND.1.2) rfl rfl).1, rfl⟩
              · refine ⟨zk_X9_sign, zm_X9_sign hg d (by omega), _, rfl, ⟨by omega, by omega⟩, ?_⟩
                intro m46 qm46
                have z47 := zfx_t z0 qm46 rfl rfl
                refine Exists.intro (zws m46 (Int.toNat (v2 + (-1)))) (And.intro (zW_pop i0 (by omega) (by rw [← hx10]; exact ND.1.2) (by rw [qm46.1 106 (by decide) rfl]) (by rw [qm46.1 99 (by decide) rfl])).2 ?_)
                exact ⟨_, rfl, z47, ⟨by omega, by omega⟩, (zW_pop i0 (by omega) (by rw [← hx10]; exact ND.1.2) (by rw [qm46.1 106 (by decide) rfl]) (by rw [qm46.1 99 (by decide) rfl])).1, rfl⟩
        · refine ⟨zk_X9_head, zm_X9_head hg d (by omega), _, rfl, ⟨by omega, by omega⟩, (fun h => by rw [show m0.1 68 = μ.1 68 from z0.1 68 (by decide) rfl]; exact ND.2.2.1 (by rw [← show m0.1 67 = μ.1 67 from z0.1 67 (by decide) rfl]; exact h)), (fun h => by rw [show m0.1 68 = μ.1 68 from z0.1 68 (by decide) rfl]; exact ND.2.2.2.1 (by rw [← show m0.1 67 = μ.1 67 from z0.1 67 (by decide) rfl]; exact h)), ?_⟩
          intro m48 qm48
          have z49 := zfx_t z0 qm48 rfl rfl
          refine And.intro ⟨by omega, by omega⟩ ?_
          intro x50 hx50 kx50 lx50
          rw [show m48.1 69 = μ.1 69 from z49.1 69 (by decide) rfl] at hx50
          refine And.intro ⟨⟨by omega, by omega⟩, ⟨by omega, by omega⟩⟩ (And.intro (fun c51 => ?_) (fun c51 => ?_))
          · refine And.intro ⟨by omega, by omega⟩ ?_
            intro x52 hx52 kx52 lx52
            rw [show m48.1 67 = μ.1 67 from z49.1 67 (by decide) rfl] at hx52
            refine And.intro ⟨by omega, by omega⟩ (And.intro (fun c53 => ?_) (fun c53 => ?_))
            · have P0 := ND.2.1 x11 (by omega) (by omega)
              refine And.intro ⟨by omega, by omega⟩ (And.intro ⟨by omega, by omega⟩ ?_)
              intro m54 em54
              have z55 := zfx_r z49 em54 rfl (by decide)
              refine And.intro ⟨by omega, by omega⟩ ?_
              intro x56 hx56 kx56 lx56
              rw [show m54.1 70 = μ.1 70 from z55.1 70 (by decide) rfl] at hx56
              refine And.intro ⟨by omega, by omega⟩ (And.intro ⟨by omega, by omega⟩ ?_)
              intro m57 em57
              have z58 := zfx_r z55 em57 rfl (by decide)
              refine And.intro ⟨by omega, by omega⟩ (And.intro ⟨by omega, by omega⟩ ?_)
              intro m59 em59
              have z60 := zfx_r z58 em59 rfl (by decide)
              have R := zW_push hp0 i0 (by omega) hx10 hx11 (by omega) (by rw [hx56]) (by rw [qm48.1 106 (by decide) rfl]) (by rw [qm48.1 99 (by decide) rfl]) em54 (by omega) em57 em59
              refine Exists.intro (zws m59 (Int.toNat (v2 + 1))) (And.intro R.2.1 ?_)
              exact ⟨_, rfl, z60, ⟨by omega, by omega⟩, R.1, rfl⟩
            · refine And.intro ⟨by omega, by omega⟩ (And.intro (fun c61 => ?_) (fun c61 => ?_))
              · exfalso; omega
              · refine ⟨zk_X9_sign, zm_X9_sign hg d (by omega), _, rfl, ⟨by omega, by omega⟩, ?_⟩
                intro m62 qm62
                have z63 := zfx_t z49 qm62 rfl rfl
                have P0 := ND.2.1 x11 (by omega) (by omega)
                refine And.intro ⟨by omega, by omega⟩ (And.intro ⟨by omega, by omega⟩ ?_)
                intro m64 em64
                have z65 := zfx_r z63 em64 rfl (by decide)
                refine And.intro ⟨by omega, by omega⟩ ?_
                intro x66 hx66 kx66 lx66
                rw [show m64.1 70 = μ.1 70 from z65.1 70 (by decide) rfl] at hx66
                refine And.intro ⟨by omega, by omega⟩ (And.intro ⟨by omega, by omega⟩ ?_)
                intro m67 em67
                have z68 := zfx_r z65 em67 rfl (by decide)
                refine And.intro ⟨by omega, by omega⟩ (And.intro ⟨by omega, by omega⟩ ?_)
                intro m69 em69
                have z70 := zfx_r z68 em69 rfl (by decide)
                have R := zW_push hp0 i0 (by omega) hx10 hx11 (by omega) (by rw [hx66]) (by rw [qm62.1 106 (by decide) rfl, qm48.1 106 (by decide) rfl]) (by rw [qm62.1 99 (by decide) rfl, qm48.1 99 (by decide) rfl]) em64 (by omega) em67 em69
                refine Exists.intro (zws m69 (Int.toNat (v2 + 1))) (And.intro R.2.1 ?_)
                exact ⟨_, rfl, z70, ⟨by omega, by omega⟩, R.1, rfl⟩
          · refine And.intro ⟨by omega, by omega⟩ ?_
            intro x71 hx71 kx71 lx71
            rw [show m48.1 67 = μ.1 67 from z49.1 67 (by decide) rfl] at hx71
            refine And.intro ⟨by omega, by omega⟩ (And.intro (fun c72 => ?_) (fun c72 => ?_))
            · refine Exists.intro (zws m48 (Int.toNat (v2 + (-1)))) (And.intro (zW_pop i0 (by omega) (by rw [← hx10]; exact ND.1.2) (by rw [qm48.1 106 (by decide) rfl]) (by rw [qm48.1 99 (by decide) rfl])).2 ?_)
              exact ⟨_, rfl, z49, ⟨by omega, by omega⟩, (zW_pop i0 (by omega) (by rw [← hx10]; exact ND.1.2) (by rw [qm48.1 106 (by decide) rfl]) (by rw [qm48.1 99 (by decide) rfl])).1, rfl⟩
            · refine And.intro ⟨by omega, by omega⟩ (And.intro (fun c73 => ?_) (fun c73 => ?_))
              · refine Exists.intro (zws m48 (Int.toNat (v2 + (-1)))) (And.intro (zW_pop i0 (by omega) (by rw [← hx10]; exact ND.1.2) (by rw [qm48.1 106 (by decide) rfl]) (by rw [qm48.1 99 (by decide) rfl])).2 ?_)
                exact ⟨_, rfl, z49, ⟨by omega, by omega⟩, (zW_pop i0 (by omega) (by rw [← hx10]; exact ND.1.2) (by rw [qm48.1 106 (by decide) rfl]) (by rw [qm48.1 99 (by decide) rfl])).1, rfl⟩
              · exfalso; omega
