/-! ### bind -/
def zk_X9_bind : zC := fun As μ Q => ∃ (a1 : Int) (a2 : Int) (a3 : Int) (a4 : Int) (a5 : Int) (C : Int) (Pn : Int) (tt : Int) (K : Int), As = [.inr (.inr (66, 66)), .inl a1, .inl a2, .inl a3, .inl a4, .inl a5] ∧ (0 ≤ a1 ∧ a1 ≤ 299) ∧ (0 ≤ a2 ∧ a2 ≤ 19999) ∧ (0 ≤ a3 ∧ a3 ≤ 20) ∧ (0 ≤ a4 ∧ a4 ≤ 3) ∧ (0 ≤ a5 ∧ a5 ≤ 19999) ∧ (zQS μ C Pn tt K) ∧ (zCt μ a5 ∧ μ.1 68 a5 = a3) ∧ (a1 < μ.1 66 ((45 : Nat) : Int) ∧ μ.1 89 a1 = 0) ∧ (a2 < zTop μ) ∧ (a3 < C ∧ a4 < μ.1 77 a3) ∧ (∀ (v : Int) (μ' : zM), zfx [67, 68, 69, 70, 71, 72, 73, 74, 88, 89, 90, 97, 98, 99] [8, 48, 60] μ μ' → 0 ≤ v → v ≤ 1 → (zQI μ' C Pn tt) → (zQy μ μ' a1) → (μ'.1 66 ((48 : Nat) : Int) ≤ 6000) → Q (some (.inl v)) μ')
set_option maxHeartbeats 2000000 in
theorem zm_X9_bind {g : zΓ} (hg : zg g) (d : Nat) (hd : 5 ≤ d) : zOk g d 164 zk_X9_bind := by
  obtain ⟨d, rfl⟩ : ∃ d', d = d' + 1 := ⟨d - 1, by omega⟩
  refine zOk_loop hg (show mt_tab[164]? = some mt_X9_bind from rfl) ([(71, [0, 1, 3, 5, 6, 7])], []) 143 rfl fun As μ Q hC => ?_
  obtain ⟨a1, a2, a3, a4, a5, C, Pn, tt, K, rfl, ha1, ha2, ha3, ha4, ha5, hp0, hp1, hp2, hp3, hp4, hQ⟩ := hC
  have HTC := hp0.1.2.1.2.1 a3 (by omega) hp4.1
  have HBR := hp0.1.2.1.1
  have HQR := zQS_r hp0
  have z0 : zfx [67, 68, 69, 70, 71, 72, 73, 74, 88, 89, 90, 97, 98, 99] [8, 48, 60] μ μ := zfx_x μ
  refine ⟨rfl, fun pc vs μ' n => ∃ (v1 : Int) (v3 : Int) (v5 : Int) (v6 : Int) (v7 : Int), vs = [.inr (.inr (66, 66)), .inl v1, .inl v3, .inl v5, .inl v6, .inl v7] ∧ zfx [67, 68, 69, 70, 71, 72, 73, 74, 88, 89, 90, 97, 98, 99] [8, 48, 60] μ μ' ∧ (0 ≤ v1 ∧ v1 ≤ 299) ∧ (0 ≤ v3 ∧ v3 ≤ 20) ∧ (0 ≤ v5 ∧ v5 ≤ 19999) ∧ (0 ≤ v6 ∧ v6 ≤ 79) ∧ (0 ≤ v7 ∧ v7 ≤ 2) ∧ (v1 = a1 ∧ v3 = a3 ∧ v5 = a5 ∧ v6 = μ.1 76 a3 + a4) ∧ (zQI μ' C Pn tt) ∧ (zQy μ μ' a1) ∧ (μ'.1 66 ((48 : Nat) : Int) ≤ 6000) ∧ (μ'.1 89 a1 ≤ 1 + v7) ∧ (v6 < Pn ∧ 0 ≤ v7) ∧ n = (Int.toNat (2147483648 - v7)), ?_, ?_, trivial⟩
  · refine And.intro ⟨by omega, by omega⟩ ?_
    intro x1 hx1 kx1 lx1
    refine And.intro ⟨⟨by omega, by omega⟩, ⟨by omega, by omega⟩⟩ (And.intro (fun c2 => ?_) (fun c2 => ?_))
    · refine And.intro ⟨by omega, by omega⟩ ?_
      intro x3 hx3 kx3 lx3
      refine And.intro ⟨⟨by omega, by omega⟩, ⟨by omega, by omega⟩⟩ (And.intro (fun c4 => ?_) (fun c4 => ?_))
      · refine And.intro ⟨by omega, by omega⟩ ?_
        intro x5 hx5 kx5 lx5
        refine Exists.intro (Int.toNat (2147483648 - 0)) ?_
        exact ⟨_, _, _, _, _, rfl, z0, ⟨by omega, by omega⟩, ⟨by omega, by omega⟩, ⟨by omega, by omega⟩, ⟨by omega, by omega⟩, ⟨by omega, by omega⟩, ⟨rfl, rfl, rfl, by omega⟩, hp0.1, (zQy_r μ a1), (by omega), (by omega), ⟨by omega, by omega⟩, rfl⟩
      · refine And.intro ⟨by omega, by omega⟩ ?_
        intro x6 hx6 kx6 lx6
        refine And.intro ⟨by omega, by omega⟩ (And.intro ⟨by omega, by omega⟩ ?_)
        intro m7 em7
        have z8 := zfx_r z0 em7 rfl (by decide)
        have QC := zQI_90 hp0.1 em7 (fun _ => by rw [hx6]; exact zQI_wild hp0.1 ⟨by omega, by exact hp3⟩ (Or.inr (by omega)))
        have YC := zQy_w (i := 0) (zQy_r μ a1) em7 (Or.inr ⟨Or.inr rfl, rfl⟩)
        refine And.intro ⟨by omega, by omega⟩ ?_
        intro x9 hx9 kx9 lx9
        rw [show m7.1 76 = μ.1 76 from z8.1 76 (by decide) rfl] at hx9
        refine Exists.intro (Int.toNat (2147483648 - 0)) ?_
        exact ⟨_, _, _, _, _, rfl, z8, ⟨by omega, by omega⟩, ⟨by omega, by omega⟩, ⟨by omega, by omega⟩, ⟨by omega, by omega⟩, ⟨by omega, by omega⟩, ⟨rfl, rfl, rfl, by omega⟩, QC, YC, (by rw [em7, zu_ne (by decide)]; omega), (by rw [em7, zu_ne (by decide)]; omega), ⟨by omega, by omega⟩, rfl⟩
    · refine And.intro ⟨by omega, by omega⟩ ?_
      intro x10 hx10 kx10 lx10
      refine And.intro ⟨by omega, by omega⟩ (And.intro ⟨by omega, by omega⟩ ?_)
      intro m11 em11
      have z12 := zfx_r z0 em11 rfl (by decide)
      have QA := zQI_88 (v := a1) (i := 0) hp0.1 em11 (by omega) ⟨by omega, by omega⟩ (Or.inl (by omega))
      have YA := zQy_w (i := 0) (zQy_r μ a1) em11 (Or.inl ⟨rfl, by omega, by omega, by omega⟩)
      refine And.intro ⟨by omega, by omega⟩ (And.intro ⟨by omega, by omega⟩ ?_)
      intro m13 em13
      have z14 := zfx_r z12 em13 rfl (by decide)
      have TA : zTy m11 x10 := by rw [hx10]; exact zTy_same (zQI_wild hp0.1 ⟨by omega, hp3⟩ (Or.inl (by omega))) (by rw [em11, zu_ne (by decide)]) (by rw [em11, zu_ne (by decide)])
      have QB := zQI_89 QA em13 ⟨by omega, by omega⟩ (fun i a b => by rw [show 3 * a1 + i = (3 * a1) by omega, em11, zu_at, ← em11]; exact TA)
      have YB := zQy_w (i := 0) YA em13 (Or.inr ⟨Or.inl rfl, rfl⟩)
      refine And.intro ⟨by omega, by omega⟩ ?_
      intro x15 hx15 kx15 lx15
      refine And.intro ⟨⟨by omega, by omega⟩, ⟨by omega, by omega⟩⟩ (And.intro (fun c16 => ?_) (fun c16 => ?_))
      · refine And.intro ⟨by omega, by omega⟩ ?_
        intro x17 hx17 kx17 lx17
        rw [show m13.1 76 = μ.1 76 from z14.1 76 (by decide) rfl] at hx17
        refine Exists.intro (Int.toNat (2147483648 - 0)) ?_
        exact ⟨_, _, _, _, _, rfl, z14, ⟨by omega, by omega⟩, ⟨by omega, by omega⟩, ⟨by omega, by omega⟩, ⟨by omega, by omega⟩, ⟨by omega, by omega⟩, ⟨rfl, rfl, rfl, by omega⟩, QB, YB, (by rw [em13, zu_ne (by decide), em11, zu_ne (by decide)]; omega), (by rw [em13, zu_at]; omega), ⟨by omega, by omega⟩, rfl⟩
      · refine And.intro ⟨by omega, by omega⟩ ?_
        intro x18 hx18 kx18 lx18
        refine And.intro ⟨by omega, by omega⟩ (And.intro ⟨by omega, by omega⟩ ?_)
        intro m19 em19
        have z20 := zfx_r z14 em19 rfl (by decide)
        have QC := zQI_90 QB em19 (fun _ => by rw [hx18]; exact zQI_wild QB ⟨by omega, by rw [show zTop m13 = zTop μ from congrFun (show m13.1 66 = μ.1 66 by rw [em13, zu_ne (by decide), em11, zu_ne (by decide)]) _]; exact hp3⟩ (Or.inr (by omega)))
        have YC := zQy_w (i := 0) YB em19 (Or.inr ⟨Or.inr rfl, rfl⟩)
        refine And.intro ⟨by omega, by omega⟩ ?_
        intro x21 hx21 kx21 lx21
        rw [show m19.1 76 = μ.1 76 from z20.1 76 (by decide) rfl] at hx21
        refine Exists.intro (Int.toNat (2147483648 - 0)) ?_
        exact ⟨_, _, _, _, _, rfl, z20, ⟨by omega, by omega⟩, ⟨by omega, by omega⟩, ⟨by omega, by omega⟩, ⟨by omega, by omega⟩, ⟨by omega, by omega⟩, ⟨rfl, rfl, rfl, by omega⟩, QC, YC, (by rw [em19, zu_ne (by decide), em13, zu_ne (by decide), em11, zu_ne (by decide)]; omega), (by rw [em19, zu_ne (by decide), em13, zu_at]; omega), ⟨by omega, by omega⟩, rfl⟩
  · intro vs m0 n hI
    clear z0
    obtain ⟨v1, v3, v5, v6, v7, rfl, z0, hv1, hv3, hv5, hv6, hv7, i0, i1, i2, i3, i4, i5, rfl⟩ := hI
    obtain ⟨j1, j3, j5, j6⟩ := i0
    subst j1 j3 j5
    have NF := (i1.2.2.2.2.2.1 v1 (by omega) (by have := i2.2.2.1.1; omega)).1
    have AN := (zQI_any i1).1.1.1
    refine And.intro ⟨by omega, by omega⟩ ?_
    intro x22 hx22 kx22 lx22
    refine And.intro ⟨⟨by omega, by omega⟩, ⟨by omega, by omega⟩⟩ (And.intro (fun c23 => ?_) (fun c23 => ?_))
    · refine And.intro ⟨by omega, by omega⟩ ?_
      intro x24 hx24 kx24 lx24
      refine And.intro ⟨by omega, by omega⟩ (And.intro (fun c25 => ?_) (fun c25 => ?_))
      · exact And.intro (zrtb (by omega)) (And.intro ⟨by omega, by omega⟩ (hQ _ _ z0 (by omega) (by omega) i1 i2 i3))
      · refine And.intro ⟨by omega, by omega⟩ ?_
        intro x26 hx26 kx26 lx26
        refine And.intro ⟨by omega, by omega⟩ (And.intro ⟨by omega, by omega⟩ ?_)
        intro m27 em27
        have z28 := zfx_r z0 em27 rfl (by decide)
        refine And.intro ⟨by omega, by omega⟩ (And.intro ⟨by omega, by omega⟩ ?_)
        intro m29 em29
        have z30 := zfx_r z28 em29 rfl (by decide)
        have QE := zQI_88 (v := v1) (i := 0) i1 em27 (by omega) ⟨by omega, by omega⟩ (Or.inl (by omega))
        have YE := zQy_w (i := 0) i2 em27 (Or.inl ⟨rfl, by omega, by omega, by omega⟩)
        have TA : zTy m27 x26 := by rw [hx26]; exact zTy_same (zQI_any i1).1 (by rw [em27, zu_ne (by decide)]) (by rw [em27, zu_ne (by decide)])
        have QF := zQI_89 QE em29 ⟨by omega, by omega⟩ (fun i a b => by rw [show 3 * v1 + i = (3 * v1) by omega, em27, zu_at, ← em27]; exact TA)
        have YF := zQy_w (i := 0) YE em29 (Or.inr ⟨Or.inl rfl, rfl⟩)
        exact And.intro (zrtb (by omega)) (And.intro ⟨by omega, by omega⟩ (hQ _ _ z30 (by omega) (by omega) QF YF (by rw [em29, zu_ne (by decide), em27, zu_ne (by decide)]; exact i3)))
    · refine And.intro ⟨by omega, by omega⟩ ?_
      intro x31 hx31 kx31 lx31
      have HT := i1.2.1.2.2.2.1 v6 v7 (by omega) (by omega) (by omega) (by omega)
      rw [show 2 * v6 + v7 = ((2 * v6) + v7) by omega, ← hx31] at HT
      intro x32 hx32 kx32 lx32
      refine And.intro ⟨by omega, by omega⟩ ?_
      intro x33 hx33 kx33 lx33
      refine And.intro ⟨⟨by omega, by omega⟩, ⟨by omega, by omega⟩⟩ (And.intro (fun c34 => ?_) (fun c34 => ?_))
      · intro x35 hx35 kx35 lx35
        refine And.intro ⟨by omega, by omega⟩ ?_
        intro x36 hx36 kx36 lx36
        refine And.intro ⟨by omega, by omega⟩ ?_
        intro m37 em37
        have z38 := zfx_f z0 em37 rfl
        refine And.intro ⟨by omega, by omega⟩ ?_
        intro x39 hx39 kx39 lx39
        rw [em37, zu_ne (by decide)] at hx39
        refine And.intro ⟨by omega, by omega⟩ ?_
        intro x40 hx40 kx40 lx40
        rw [show m37.1 76 = μ.1 76 from z38.1 76 (by decide) rfl] at hx40
        refine And.intro ⟨by omega, by omega⟩ ?_
        intro x41 hx41 kx41 lx41
        rw [show m37.1 77 = μ.1 77 from z38.1 77 (by decide) rfl] at hx41
        have HW : zCt m0 v5 := zCt_old hp1.1 hp0.1.1.2.1 i2.1 i2.2.1
        have HM : zTop m0 ≤ 13000 := by have h1 := zQS_top hp0; have h2 := i2.2.2.2.2.1; have h3 := hp0.2.2.2.1; have h4 := zQS_r hp0; have h5 := hp0.2.1; have h6 := i1.2.1.1; omega
        have Q1 := zQI_fr (m' := m37) i1 (fun j a b => by rw [em37, zu_ne (by omega)]) (fun j a b => by rw [em37, zu_ne (by omega)]) (fun j a b => by rw [em37, zu_ne (by omega)]) (by rw [em37, zu_ne (by decide)]) (by rw [em37]; exact zu_nk (by decide)) (by rw [em37]; exact zu_nk (by decide)) (by rw [em37]; exact zu_nk (by decide))
        have HT1 := zTs_fr (m' := m37) HT.1 (by rw [em37, zu_ne (by decide)])
        have HW1 := zCt_fr (m' := m37) HW (fun j a b => by rw [em37, zu_ne (by omega)]) (by rw [em37]; exact zu_nk (by decide))
        have E8 : zTop m37 = zTop m0 := by show m37.1 66 ((8 : Nat) : Int) = m0.1 66 ((8 : Nat) : Int); rw [em37]; exact zu_nk (by decide)
        have E60 : m37.1 66 ((60 : Nat) : Int) = m0.1 66 ((60 : Nat) : Int) := (by rw [em37]; exact zu_nk (by decide))
        have S60 : 0 ≤ m0.1 66 ((60 : Nat) : Int) ∧ m0.1 66 ((60 : Nat) : Int) ≤ 2000000000 := by have h2 := i2; have h4 := hp0.2.2.2.2; unfold zQy at h2; omega
        have K0 : v3 = m0.1 68 v5 := by rw [(i2.1 v5 hp1.1.1.1 hp1.1.1.2).2.1]; omega
        have K := zQ_pre Q1 (by omega) HT1 HW1 (c := v3) (n := x41) (by rw [em37, zu_ne (by decide)]; exact K0) (by rw [hx41, z38.1 77 (by decide) rfl])
        refine ⟨zk_X9_substitute, zm_X9_substitute hg d (by omega), _, _, _, _, _, _, _, rfl, ⟨by omega, by omega⟩, ⟨by omega, by omega⟩, ⟨by omega, by omega⟩, ⟨by omega, by omega⟩, K.1, K.2.1, rfl, ⟨by omega, by omega⟩, K.2.2.1, K.2.2.2.1, (K.2.2.2.2.1 _ _), K.2.2.2.2.2.1, ?_⟩
        intro x42 m43 qm43 kx42 lx42 p44 p45 p46 p47
        have z48 := zfx_t z38 qm43 rfl rfl
        refine And.intro ⟨by omega, by omega⟩ (And.intro ⟨by omega, by omega⟩ ?_)
        intro m49 em49
        have z50 := zfx_r z48 em49 rfl (by decide)
        refine And.intro ⟨by omega, by omega⟩ ?_
        intro x51 hx51 kx51 lx51
        rw [em49, zu_ne (by decide), qm43.1 89 (by decide) rfl, em37, zu_ne (by decide)] at hx51
        refine And.intro ⟨by omega, by omega⟩ (And.intro ⟨by omega, by omega⟩ ?_)
        intro m52 em52
        have z53 := zfx_r z50 em52 rfl (by decide)
        have R := zQ_bd (i := x39) i1 HM HT.1 (by omega) HW (by rw [K.2.2.2.2.2.2.2, em37, zu_ne (by decide)]) ⟨by omega, by have := i2.2.2.1.1; omega⟩ hx39 (by omega) em37 (by omega) p44 rfl p46 p47 (fun j a b => qm43.1 j (by omega) (zanyF (by simp <;> omega))) (qm43.2.1 45 rfl) (qm43.2.1 48 rfl) p45.1 p45.2 em49 (by omega) em52 (by omega)
        have R48 : m52.1 66 ((48 : Nat) : Int) ≤ 6000 := by rw [em52, zu_ne (by decide), em49, zu_ne (by decide), qm43.2.1 48 rfl, em37, zu_at]; omega
        refine Exists.intro (Int.toNat (2147483648 - (v7 + 1))) (And.intro (by omega) ?_)
        exact ⟨_, _, _, _, _, rfl, z53, ⟨by omega, by omega⟩, ⟨by omega, by omega⟩, ⟨by omega, by omega⟩, ⟨by omega, by omega⟩, ⟨by omega, by omega⟩, ⟨rfl, rfl, rfl, by omega⟩, R.1, (zQy_t i2 R.2.1), R48, (by rw [R.2.2]; omega), ⟨by omega, by omega⟩, rfl⟩
      · exact And.intro (zrtb (by omega)) (And.intro ⟨by omega, by omega⟩ (hQ _ _ z0 (by omega) (by omega) i1 i2 i3))
