def gk_X9_aboveOf : zC := fun As μ Q => ∃ (a1 : Int) (a2 : Int) (C : Int) (Pn : Int) (tt : Int) (K : Int) (B : yB) (cs : List (List Int)), As = [.inr (.inr (66, 66)), .inl a1, .inl a2] ∧ (0 ≤ a1 ∧ a1 ≤ 19999) ∧ (0 ≤ a2 ∧ a2 ≤ 20) ∧ (zQS μ C Pn tt K) ∧ (zCt μ a1) ∧ (μ.1 68 a1 ≠ a2 ∧ 0 ≤ μ.1 80 (21 * μ.1 68 a1 + a2)) ∧ (μ.1 66 ((48 : Nat) : Int) + 300 ≤ 6000) ∧ ((cs.length : Int) = μ.1 69 a1 ∧ ∀ j : Nat, j < cs.length → rEf μ (μ.1 70 (4 * a1 + j)) (cs.getD j [])) ∧ (rE μ (μ.1 80 (21 * μ.1 68 a1 + a2)) (B.2 2 (μ.1 68 a1) a2).flatten ∧ yG B (μ.1 68 a1) (B.2 2 (μ.1 68 a1) a2).flatten ∧ μ.1 76 (μ.1 68 a1) = B.1 2 (μ.1 68 a1) ∧ μ.1 77 (μ.1 68 a1) = B.1 3 (μ.1 68 a1)) ∧ (∀ (v : Int) (μ' : zM), zfx [67, 68, 69, 70, 71, 72, 73, 74, 97, 98, 99] [8, 48, 60] μ μ' → (-2) ≤ v → v ≤ 19999 → (zQS μ' C Pn tt K) → (zQx μ μ') → (zCt μ' v ∧ μ'.1 68 v = a2) → (rEf μ' v (ysub (B.1 2 (μ.1 68 a1)) cs (B.2 2 (μ.1 68 a1) a2).flatten)) → Q (some (.inl v)) μ')
set_option maxHeartbeats 4000000 in
theorem gm_X9_aboveOf {g : zΓ} (hg : zg g) (d : Nat) (hd : 5 ≤ d) : zOk g d 165 gk_X9_aboveOf := by
  obtain ⟨d, rfl⟩ : ∃ d', d = d' + 1 := ⟨d - 1, by omega⟩
  refine zOk_straight hg (show mt_tab[165]? = some mt_X9_aboveOf from rfl) [] 61 rfl fun As μ Q hC => ?_
  obtain ⟨a1, a2, C, Pn, tt, K, B, cs, rfl, ha1, ha2, hp0, hp1, hA1, hA2, hA3, hA4, hQ⟩ := hC
  have HZ := hp0
  have hp2 := hp1
  have hp3 := zQS_r HZ
  replace hp1 := HZ.2.1
  replace hp0 := HZ.1
  refine ⟨rfl, ?_⟩
  have z0 : zfx [67, 68, 69, 70, 71, 72, 73, 74, 97, 98, 99] [8, 48, 60] μ μ := zfx_x μ
  refine And.intro ⟨by omega, by omega⟩ ?_
  intro x1 hx1 kx1 lx1
  refine And.intro ⟨⟨by omega, by omega⟩, ⟨by omega, by omega⟩⟩ (And.intro (fun c2 => ?_) (fun c2 => ?_))
  · have HC := (hp0.2.2.2.2.1 a1 hp2.1.1 hp2.1.2).2.1 hp2.2.1
    have HB := hp0.2.1.1
    rw [← hx1] at HC
    refine And.intro ⟨by omega, by omega⟩ ?_
    intro x3 hx3 kx3 lx3
    refine And.intro ⟨by omega, by omega⟩ (And.intro (fun c4 => ?_) (fun c4 => ?_))
    · have HT := zTb_ab hp0.2.1 (c := x1) (d := a2) (by omega) (by omega) (by omega) (by omega) hx3 (by omega)
      have HS := zsz1 hp0.1.2.1 _ x3 rfl (by omega) (by have h1 := HT.1.1.2; have h2 := hp0.2.2.1; omega)
      intro x5 hx5 kx5 lx5
      refine And.intro ⟨by omega, by omega⟩ ?_
      intro x6 hx6 kx6 lx6
      refine And.intro ⟨⟨by omega, by omega⟩, ⟨by omega, by omega⟩⟩ (And.intro (fun c7 => ?_) (fun c7 => ?_))
      · intro x8 hx8 kx8 lx8
        refine And.intro ⟨by omega, by omega⟩ ?_
        intro x9 hx9 kx9 lx9
        refine And.intro ⟨by omega, by omega⟩ ?_
        intro m10 em10
        have z11 := zfx_f z0 em10 rfl
        have QI12 := zQI_fr (m' := m10) hp0 (fun j a b => by rw [em10, zu_ne (by omega)]) (fun j a b => by rw [em10, zu_ne (by omega)]) (fun j a b => by rw [em10, zu_ne (by omega)]) (by rw [em10, zu_ne (by decide)]) (by rw [em10]; exact zu_nk (by decide)) (by rw [em10]; exact zu_nk (by decide)) (by rw [em10]; exact zu_nk (by decide))
        have HT1 := zTs_fr (m' := m10) HT.1 (by rw [em10, zu_ne (by decide)])
        have HW1 := zCt_fr (m' := m10) hp2 (fun j a b => by rw [em10, zu_ne (by omega)]) (by rw [em10]; exact zu_nk (by decide))
        have E60 : m10.1 66 ((60 : Nat) : Int) = μ.1 66 ((60 : Nat) : Int) := (by rw [em10]; exact zu_nk (by decide))
        have E45 : m10.1 66 ((45 : Nat) : Int) = μ.1 66 ((45 : Nat) : Int) := (by rw [em10]; exact zu_nk (by decide))
        have E8 : zTop m10 = zTop μ := by show m10.1 66 ((8 : Nat) : Int) = μ.1 66 ((8 : Nat) : Int); rw [em10]; exact zu_nk (by decide)
        have HM : zTop m10 ≤ 13000 := by rw [E8]; exact zQI_top hp0 hp1 hp3.1.2 hp3.2.1.2
        refine And.intro ⟨by omega, by omega⟩ ?_
        intro x13 hx13 kx13 lx13
        refine And.intro ⟨by omega, by omega⟩ ?_
        intro x14 hx14 kx14 lx14
        have K := zQ_pre QI12 HM HT1 HW1 (c := x1) (n := x14) (by rw [em10, zu_ne (by decide)]; omega) hx14
        refine ⟨zk_X9_substitute, zm_X9_substitute hg d (by omega), _, _, _, _, _, _, _, rfl, ⟨by omega, by omega⟩, ⟨by omega, by omega⟩, ⟨by omega, by omega⟩, ⟨by omega, by omega⟩, K.1, K.2.1, rfl, ⟨by omega, by omega⟩, K.2.2.1, K.2.2.2.1, (K.2.2.2.2.1 _ _), K.2.2.2.2.2.1, ?_⟩
        intro x15 m16 qm16 kx15 lx15 p17 p18 p19 p20
        have z21 := zfx_t z11 qm16 rfl rfl
        have R := zQ_sub QI12 HM HT1 HW1 K.2.2.2.2.2.2.2 p17 rfl p19 p20 (fun j a b => qm16.1 j (by omega) (zanyF (by simp <;> omega))) (qm16.2.1 45 rfl)
        have CL := zQ_cls QI12 HT1 HW1 K.2.2.2.2.2.2.2 p17 p18.1 (by rw [em10, zu_ne (by decide)]; exact HT.2.1) (by rw [em10, zu_ne (by decide), zu_ne (by decide), zu_ne (by decide)]; exact HT.2.2.2)
        have R6 : rEf m16 x15 (ysub (B.1 2 x1) cs (B.2 2 x1 a2).flatten) := by
          rw [← hx1] at hA4
          have ND1 := QI12.1.2.1
          have c10 : ∀ j : Nat, j ≠ 66 → m10.1 j = μ.1 j := fun j hj => by rw [em10, zu_ne hj]
          obtain ⟨k, E0⟩ := hA4.1
          rw [← hx3] at E0
          have E1 : rC m10 k x3 (B.2 2 x1 a2).flatten := by
            have q := rC_old (zOld_same (fun j a b => c10 j (by omega))) (hp0.1.2.1) k x3 _ HT.1.1.1 (by have h1 := HT.1.1.2; have h2 := hp0.2.2.1; omega) E0
            exact q
          have T1 : x3 < zTop m10 := by rw [E8]; have h1 := HT.1.1.2; have h2 := hp0.2.2.1; omega
          have HP : ∀ y : Int, (fun y => y ∈ zsb m10 20000 x3) y → m10.1 67 y = 1 → 0 ≤ m10.1 68 y - x13 ∧ m10.1 68 y - x13 < x14 := fun y hy ky => by
            have w := zsb_hd 20000 k x3 _ E1 y hy ky
            have g := hA4.2.1 _ w.1 (by omega) (by omega)
            rw [hx13, hx14, c10 76 (by decide), c10 77 (by decide), hA4.2.2.1, hA4.2.2.2]
            omega
          have SR := zSJ_SR p17 ND1 HP ⟨HT.1.1.1, T1⟩ p18.1
          rw [← p18.2] at SR
          have ND16 := R.1.1.2.1
          have W16 : rLo m16 0 (zTop m16) := fun y y0 y1 i i0 i1 => ⟨((ND16 y y0 y1).2.1 i i0 i1).1, by have := ((ND16 y y0 y1).2.1 i i0 i1).2; omega⟩
          have H1 : ∀ y : Int, 0 ≤ y → y < zTop m16 → m16.1 67 y = 1 → m16.1 69 y = 0 := fun y y0 y1 q => ((R.1.2.2.2.2.1 y y0 y1).2.2.1 q).2
          have OO := R.2.1
          have E2 : rC m16 k x3 (B.2 2 x1 a2).flatten := rC_old OO ND1 k x3 _ HT.1.1.1 T1 E1
          have n14 : x14 = (cs.length : Int) := by have k8 := K.2.2.2.2.2.2.2; rw [c10 69 (by decide)] at k8; omega
          have A1 : ∀ j : Nat, j < cs.length → rEf m16 (m16.1 70 (4 * a1 + j)) (cs.getD j []) := fun j hj => by
            have nd := hp0.1.2.1 a1 hp2.1.1 hp2.1.2
            have n1 := nd.1.2
            have n2 := nd.2.1 j (by omega) (by have := hA3.1; omega)
            have o1 := OO a1 hp2.1.1 (by rw [E8]; exact hp2.1.2)
            rw [o1.2.2.2.2 j (by omega) (by have := hA3.1; omega), c10 70 (by decide)]
            refine rEf_old OO ND1 n2.1 (by rw [E8]; omega) (rEf_c (fun q a b => c10 q (by omega)) (hA3.2 j hj))
          have q := rEf_sub W16 H1 n14 A1 k x3 x15 _ HT.1.1.1 (by have := R.2.2.1; omega) E2 SR
          rw [show x13 = B.1 2 x1 by rw [hx13, c10 76 (by decide)]; exact hA4.2.2.1] at q
          exact q
        have X := zQx_sub (z := μ.1 71 x3) ⟨R.2.1, R.2.2.1, by have := R.2.2.2; rw [em10, zu_ne (by decide)] at this; rw [em10]; exact this⟩ em10 (by omega) (by omega) (fun j a b => qm16.1 j (by omega) (zanyF (by simp <;> omega))) (qm16.2.1 45 rfl) (qm16.2.1 48 rfl) p19
        exact And.intro trivial (And.intro ⟨by omega, by omega⟩ (hQ _ _ z21 (by omega) (by omega) (zQS_x HZ R.1 X (by rw [qm16.2.1 45 rfl, E45]; omega) (by rw [qm16.2.1 48 rfl, em10, zu_at]; omega)) X (by rw [p18.2]; exact ⟨CL.1, by rw [CL.2, em10, zu_ne (by decide)]; exact HT.2.2.1⟩) (by rw [← hx1]; exact R6)))
      · exfalso; have T3 := HT.1.2; omega
    · exfalso; rw [← hx1] at hA1; rw [← hx3] at hA1; omega
  · exfalso; omega
