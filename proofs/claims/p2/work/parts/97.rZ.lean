/-! ### read -/
def zk_X9_read : zC := fun As μ Q => ∃ (K : Int), As = [.inr (.inr (66, 66))] ∧ (zRI μ K) ∧ (K + 1010000 ≤ 1999990000) ∧ (∀ (v : Int) (μ' : zM), zfx [67, 68, 69, 70, 71, 72, 73, 74, 76, 77, 78, 79, 80, 82, 83, 84, 86, 87, 97, 98, 99, 100, 101, 102, 103, 104, 105, 106] [7, 8, 20, 21, 22, 23, 24, 25, 26, 27, 29, 30, 31, 32, 33, 34, 35, 36, 37, 38, 41, 45, 46, 47, 48, 54, 60, 68] μ μ' → (-2147483648) ≤ v → v ≤ 2147483647 → (zRI μ' (K + 1000000)) → (μ'.1 66 ((29 : Nat) : Int) = 0) → Q (some (.inl v)) μ')
set_option maxHeartbeats 800000 in
theorem zm_X9_read {g : zΓ} (hg : zg g) (d : Nat) (hd : 8 ≤ d) : zOk g d 149 zk_X9_read := by
  obtain ⟨d, rfl⟩ : ∃ d', d = d' + 1 := ⟨d - 1, by omega⟩
  refine zOk_loop hg (show mt_tab[149]? = some mt_X9_read from rfl) ([(72, [0, 1, 2]), (118, [0, 1, 2, 3])], []) 109 rfl fun As μ Q hC => ?_
  obtain ⟨K, rfl, hp0, hp1, hQ⟩ := hC
  have z0 : zfx [67, 68, 69, 70, 71, 72, 73, 74, 76, 77, 78, 79, 80, 82, 83, 84, 86, 87, 97, 98, 99, 100, 101, 102, 103, 104, 105, 106] [7, 8, 20, 21, 22, 23, 24, 25, 26, 27, 29, 30, 31, 32, 33, 34, 35, 36, 37, 38, 41, 45, 46, 47, 48, 54, 60, 68] μ μ := zfx_x μ
  refine ⟨rfl, fun pc vs μ' n => (pc = 72 → ∃ (v1 : Int) (v2 : Int), vs = [.inr (.inr (66, 66)), .inl v1, .inl v2] ∧ zfx [67, 68, 69, 70, 71, 72, 73, 74, 76, 77, 78, 79, 80, 82, 83, 84, 86, 87, 97, 98, 99, 100, 101, 102, 103, 104, 105, 106] [7, 8, 20, 21, 22, 23, 24, 25, 26, 27, 29, 30, 31, 32, 33, 34, 35, 36, 37, 38, 41, 45, 46, 47, 48, 54, 60, 68] μ μ' ∧ (0 ≤ v1 ∧ v1 ≤ 20000) ∧ (0 ≤ v2 ∧ v2 ≤ 21) ∧ (v1 = zTop μ) ∧ (zRr μ μ' v2) ∧ n = (Int.toNat (2147483648 - v2 + 4294967296))) ∧ (pc = 118 → ∃ (v1 : Int) (v2 : Int) (v3 : Int), vs = [.inr (.inr (66, 66)), .inl v1, .inl v2, .inl v3] ∧ zfx [67, 68, 69, 70, 71, 72, 73, 74, 76, 77, 78, 79, 80, 82, 83, 84, 86, 87, 97, 98, 99, 100, 101, 102, 103, 104, 105, 106] [7, 8, 20, 21, 22, 23, 24, 25, 26, 27, 29, 30, 31, 32, 33, 34, 35, 36, 37, 38, 41, 45, 46, 47, 48, 54, 60, 68] μ μ' ∧ (0 ≤ v1 ∧ v1 ≤ 20000) ∧ (0 ≤ v2 ∧ v2 ≤ 1) ∧ (0 ≤ v3 ∧ v3 ≤ 1) ∧ (v1 = zTop μ) ∧ (0 ≤ μ'.1 66 ((33 : Nat) : Int) ∧ 0 ≤ μ'.1 66 ((34 : Nat) : Int) ∧ μ'.1 66 ((33 : Nat) : Int) + μ'.1 66 ((34 : Nat) : Int) ≤ μ'.1 66 ((31 : Nat) : Int) ∧ μ'.1 66 ((31 : Nat) : Int) ≤ μ'.1 66 ((30 : Nat) : Int) ∧ μ'.1 66 ((30 : Nat) : Int) ≤ 800) ∧ (zND μ' (zTop μ) ∧ zOld μ μ' (zTop μ)) ∧ (zOt μ μ') ∧ (∃ n : Int, (1 ≤ n ∧ n ≤ 22) ∧ (v2 = 1 → zDS μ' (zTop μ) n) ∧ μ.1 66 ((60 : Nat) : Int) ≤ μ'.1 66 ((60 : Nat) : Int) ∧ μ'.1 66 ((60 : Nat) : Int) ≤ μ.1 66 ((60 : Nat) : Int) + 200 * n) ∧ (∀ x : Int, 0 ≤ x → x < 20000 → μ'.1 98 x ≤ μ'.1 66 ((60 : Nat) : Int)) ∧ (μ'.1 105 = μ.1 105 ∧ ∀ k : Nat, k = 20 ∨ k = 21 ∨ k = 23 ∨ k = 45 ∨ k = 48 ∨ k = 68 → μ'.1 66 ((k : Nat) : Int) = μ.1 66 ((k : Nat) : Int)) ∧ (μ'.1 66 ((29 : Nat) : Int) = 0) ∧ n = ((if v2 = 0 then 0 else Int.toNat (zrm μ' + 1)))), ?_, ?_, ?_, trivial⟩
  · refine And.intro ⟨by omega, by omega⟩ ?_
    intro m1 em1
    have z2 := zfx_f z0 em1 rfl
    intro x3 hx3 kx3 lx3
    have HV : x3 = zTop μ := by rw [hx3, em1, zu_nk (by decide)]; rfl
    refine And.intro ⟨by omega, by omega⟩ ?_
    intro m4 em4
    have z5 := zfx_f z2 em4 rfl
    refine And.intro ⟨by omega, by omega⟩ ?_
    intro m6 em6
    have z7 := zfx_f z5 em6 rfl
    refine And.intro ⟨by omega, by omega⟩ ?_
    intro m8 em8
    have z9 := zfx_f z7 em8 rfl
    refine And.intro ⟨by omega, by omega⟩ ?_
    intro m10 em10
    have z11 := zfx_f z9 em10 rfl
    refine And.intro ⟨by omega, by omega⟩ ?_
    refine And.intro ⟨by omega, by omega⟩ (And.intro ⟨by omega, by omega⟩ ?_)
    intro m12 em12
    have z13 := zfx_r z11 em12 rfl (by decide)
    refine And.intro ⟨by omega, by omega⟩ (And.intro ⟨by omega, by omega⟩ ?_)
    intro m14 em14
    have z15 := zfx_r z13 em14 rfl (by decide)
    refine And.intro ⟨by omega, by omega⟩ (And.intro ⟨by omega, by omega⟩ ?_)
    intro m16 em16
    have z17 := zfx_r z15 em16 rfl (by decide)
    refine ⟨zk_X9_clearHeads, zm_X9_clearHeads hg d (by omega), rfl, ?_⟩
    intro m18 qm18 p19
    have z20 := zfx_t z17 qm18 rfl rfl
    have Z0 := zRr_0 em1 em4 em6 em8 em10 em12 em14 em16 (fun j a b => qm18.1 j a (zanyF (fun r hr => by rw [List.mem_singleton] at hr; rw [hr]; exact b))) (fun k => qm18.2.1 k rfl) p19
    refine Exists.intro (Int.toNat (2147483648 - 0 + 4294967296)) ?_
    exact ⟨(fun _ => ⟨_, _, rfl, z20, ⟨by omega, by omega⟩, ⟨by omega, by omega⟩, (by omega), Z0, rfl⟩), (fun h => absurd h (by decide))⟩
  · intro vs m0 n hI
    replace hI := hI.1 rfl
    clear z0
    obtain ⟨v1, v2, rfl, z0, hv1, hv2, i0, i1, rfl⟩ := hI
    refine And.intro ⟨⟨by omega, by omega⟩, ⟨by omega, by omega⟩⟩ (And.intro (fun c21 => ?_) (fun c21 => ?_))
    · have ZR : zRr μ m0 21 := by have h := i1; rw [show v2 = 21 by omega] at h; exact h
      have T0 : zTop m0 = zTop μ := ZR.2.1 8 (by decide) (by decide) (by decide) (by decide) (by decide)
      refine ⟨zk_X9_make, zm_X9_make hg d (by omega), _, _, _, _, rfl, ⟨by omega, by omega⟩, ⟨by omega, by omega⟩, ⟨by omega, by omega⟩, (show zND m0 (zTop μ) from zND_t.2 (by rw [T0]; exact zNDt_0 (by have := hp0.1.1.1.1; omega) (fun x a b => zNd_same (fun j c d => ZR.1 j (by omega) (by omega) (by omega) (by omega) (by omega) (by omega)) (hp0.1.1.1.2.1 x a b)) ZR.2.2.2.2.1)), (show zTop m0 ≤ 19999 by have := zQS_top hp0.1; omega), ⟨fun _ => by omega, fun h => absurd h (by decide)⟩, (fun i a b => by omega), ?_⟩
      intro x22 m23 qm23 kx22 lx22 p24 p25 p26 p27
      have z28 := zfx_t z0 qm23 rfl rfl
      refine And.intro ⟨by omega, by omega⟩ (And.intro ⟨by omega, by omega⟩ ?_)
      intro m29 em29
      have z30 := zfx_r z28 em29 rfl (by decide)
      refine ⟨zk_X9_begin2, zm_X9_begin2 hg d (by omega), rfl, ?_⟩
      intro m31 qm31 p32 p33
      have z34 := zfx_t z30 qm31 rfl rfl
      have DS := zDS_0 hp0 ZR (zMd_of p24 p25 p26 p27) (fun j a => qm23.1 j (by omega) (zanyF (by simp <;> omega))) (fun k hk => qm23.2.1 k (zanyF (fun r hr => by rw [List.mem_singleton] at hr; rw [hr]; exact hk))) em29 rfl (fun j hj => qm31.1 j hj rfl) (fun k hk => by rcases hk with h | h | h | h | h | h <;> subst h <;> exact qm31.2.1 _ rfl) p33.1
      have CF : ∀ k : Nat, k = 20 ∨ k = 21 ∨ k = 23 ∨ k = 45 ∨ k = 48 ∨ k = 60 ∨ k = 68 → m31.1 66 ((k : Nat) : Int) = μ.1 66 ((k : Nat) : Int) := fun k hk => by rcases hk with h | h | h | h | h | h | h <;> subst h <;> exact (qm31.2.1 _ rfl).trans (by rw [em29, zu_ne (by decide), qm23.2.1 _ rfl]; exact ZR.2.1 _ (by decide) (by decide) (by decide) (by decide) (by decide))
      have C105 : m31.1 105 = μ.1 105 := by rw [qm31.1 105 (by decide) rfl, em29, zu_ne (by decide), qm23.1 105 (by decide) rfl]; exact ZR.1 105 (by decide) (by decide) (by decide) (by decide) (by decide) (by decide)
      refine Exists.intro ((if 1 = 0 then 0 else Int.toNat (zrm m31 + 1))) (And.intro (by rw [if_neg (by decide)]; have h1 := zrm_b p32; omega) ?_)
      exact ⟨(fun h => absurd h (by decide)), (fun _ => ⟨_, _, _, rfl, z34, ⟨by omega, by omega⟩, ⟨by omega, by omega⟩, ⟨by omega, by omega⟩, (by omega), p32, ⟨DS.1.2.1.1, DS.2.1⟩, DS.2.2, ⟨1, ⟨by omega, by omega⟩, fun _ => DS.1, by rw [CF 60 (by decide)]; omega⟩, DS.1.2.2.2.2.2.1, ⟨C105, fun k hk => CF k (by omega)⟩, p33.2, rfl⟩)⟩
    · refine And.intro ⟨by omega, by omega⟩ (And.intro ⟨by omega, by omega⟩ ?_)
      intro m35 em35
      have z36 := zfx_r z0 em35 rfl (by decide)
      refine Exists.intro (Int.toNat (2147483648 - (v2 + 1) + 4294967296)) (And.intro (by omega) ?_)
      exact ⟨(fun _ => ⟨_, _, rfl, z36, ⟨by omega, by omega⟩, ⟨by omega, by omega⟩, (by omega), (zRr_s i1 (by omega) em35 (by omega)), rfl⟩), (fun h => absurd h (by decide))⟩
  · intro vs m0 n hI
    replace hI := hI.2 rfl
    clear z0
    obtain ⟨v1, v2, v3, rfl, z0, hv1, hv2, hv3, i0, i1, i2, i3, i4, i5, i6, i7, rfl⟩ := hI
    obtain ⟨n, n1, n2, n3⟩ := i4
    refine And.intro ⟨by omega, by omega⟩ (And.intro (fun c37 => ?_) (fun c37 => ?_))
    · intro x38 hx38 kx38 lx38
      refine And.intro ⟨by omega, by omega⟩ ?_
      intro m39 em39
      have z40 := zfx_f z0 em39 rfl
      have C1 : ∀ j : Nat, j ≠ 66 → m39.1 j = m0.1 j := fun j hj => by rw [em39, zu_ne hj]
      have G1 : ∀ k : Nat, k ≠ 37 → m39.1 66 ((k : Nat) : Int) = m0.1 66 ((k : Nat) : Int) := fun k hk => by rw [em39, zu_nk (by omega)]
      have R60 := hp0.1.2.2.2
      have R68 := hp0.2.2
      have TMX := zQS_top hp0.1
      have TL := i2.1.1
      have V1 : 1 ≤ v1 := by have h1 := hp0.1.1.2.1.1; have h2 := hp0.1.1.2.2.1; omega
      refine And.intro ⟨by omega, by omega⟩ (And.intro (fun c41 => ?_) (fun c41 => ?_))
      · exfalso; omega
      · refine ⟨zk_X9_chainAgain, zm_X9_chainAgain hg d (by omega), _, _, rfl, ⟨by omega, by omega⟩, ⟨by omega, by omega⟩, (by omega), (fun x a b => zNd_same (fun j c d => C1 j (by omega)) (i2.1.2.1 x a (by omega))), ?_⟩
        intro m42 qm42 p43 p44
        have z45 := zfx_t z40 qm42 rfl rfl
        intro x46 hx46 kx46 lx46
        exact And.intro trivial (And.intro ⟨by omega, by omega⟩ (hQ _ _ z45 (by omega) (by omega) (zRI_ot hp0 p43 (by rw [p44]; exact i0) (zOld_t i2.2 (zOld_same (fun j a b => by rw [qm42.1 j (by omega) (zanyF (by simp <;> omega)), C1 j (by omega)])) (Int.le_refl _)) (zOt_fr i3 (by rw [qm42.1 76 (by decide) rfl, C1 76 (by decide)]) (by rw [qm42.1 77 (by decide) rfl, C1 77 (by decide)]) (by rw [qm42.1 78 (by decide) rfl, C1 78 (by decide)]) (by rw [qm42.1 79 (by decide) rfl, C1 79 (by decide)]) (by rw [qm42.1 80 (by decide) rfl, C1 80 (by decide)]) (by rw [qm42.1 83 (by decide) rfl, C1 83 (by decide)]) (by rw [qm42.1 84 (by decide) rfl, C1 84 (by decide)])) (fun j a b => z45.1 j (by omega) (zanyF (by simp <;> omega))) (by rw [qm42.1 105 (by decide) rfl, C1 105 (by decide)]; exact i6.1) (fun k hk => by rcases hk with h | h | h | h | h | h <;> subst h <;> exact (qm42.2.1 _ rfl).trans ((G1 _ (by decide)).trans (i6.2 _ (by decide)))) (by rw [qm42.2.1 60 rfl, G1 60 (by decide)]; omega) (by rw [qm42.2.1 60 rfl, G1 60 (by decide), qm42.1 98 (by decide) rfl, C1 98 (by decide)]; exact i5) (by omega) (by omega)) (by rw [qm42.2.1 29 rfl, G1 29 (by decide)]; exact i7)))
    · refine And.intro ⟨by omega, by omega⟩ (And.intro (fun c47 => ?_) (fun c47 => ?_))
      · have N2 := n2 (by omega)
        have N21 := N2.1
        have R60 := hp0.1.2.2.2
        have Z00 : 0 ≤ zrm m0 := zrm_0 (by have := i1; omega)
        refine ⟨zk_X9_readDecl, zm_X9_readDecl hg d (by omega), _, _, rfl, i1, N2, (by omega), ?_⟩
        intro x48 m49 qm49 kx48 lx48 p50 p51 p52 p53 p54 p55 p56
        have z57 := zfx_t z0 qm49 rfl rfl
        have ZZ : 0 ≤ zrm m49 := zrm_0 (by have := p50; omega)
        refine Exists.intro ((if x48 = 0 then 0 else Int.toNat (zrm m49 + 1))) (And.intro (by rw [if_neg (show ¬ v2 = 0 by omega)]; split; omega; (have h1 := (p55 (by omega)).2; omega)) ?_)
        exact ⟨(fun h => absurd h (by decide)), (fun _ => ⟨_, _, _, rfl, z57, ⟨by omega, by omega⟩, ⟨by omega, by omega⟩, ⟨by omega, by omega⟩, (by omega), p50, ⟨p52.1, zOld_t i2.2 p52.2.1 i2.1.1.2⟩, (zOt_t i3 p56), ⟨n + 1, ⟨by omega, by omega⟩, fun h => (p55 h).1, by have h1 := p53; omega⟩, p54, ⟨by rw [qm49.1 105 (by decide) rfl]; exact i6.1, fun k hk => by rcases hk with h | h | h | h | h | h <;> subst h <;> exact (qm49.2.1 _ rfl).trans (i6.2 _ (by decide))⟩, (by rw [qm49.2.1 29 rfl]; exact i7), rfl⟩)⟩
      · intro x58 hx58 kx58 lx58
        refine And.intro ⟨⟨by omega, by omega⟩, ⟨by omega, by omega⟩⟩ (And.intro (fun c59 => ?_) (fun c59 => ?_))
        · intro x60 hx60 kx60 lx60
          refine And.intro ⟨by omega, by omega⟩ ?_
          intro m61 em61
          have z62 := zfx_f z0 em61 rfl
          have C1 : ∀ j : Nat, j ≠ 66 → m61.1 j = m0.1 j := fun j hj => by rw [em61, zu_ne hj]
          have G1 : ∀ k : Nat, k ≠ 37 → m61.1 66 ((k : Nat) : Int) = m0.1 66 ((k : Nat) : Int) := fun k hk => by rw [em61, zu_nk (by omega)]
          have R60 := hp0.1.2.2.2
          have R68 := hp0.2.2
          have TMX := zQS_top hp0.1
          have TL := i2.1.1
          have V1 : 1 ≤ v1 := by have h1 := hp0.1.1.2.1.1; have h2 := hp0.1.1.2.2.1; omega
          refine And.intro ⟨by omega, by omega⟩ (And.intro (fun c63 => ?_) (fun c63 => ?_))
          · refine ⟨zk_X9_commit, zm_X9_commit hg d (by omega), _, _, (K + 1000000), rfl, ⟨by omega, by omega⟩, (by rw [i0]; exact zDS_fr (n2 (by omega)) (fun j a b => C1 j (by omega)) (C1 98 (by decide)) (fun k hk => G1 k (by omega))), V1, (by rw [G1 60 (by decide), G1 68 (by decide), C1 105 (by decide), i6.1, i6.2 68 (by decide)]; exact ⟨by omega, hp0.2.1, by omega, by omega⟩), (by rw [G1 60 (by decide), G1 68 (by decide), i6.2 68 (by decide)]; exact ⟨by omega, by omega, by omega⟩), ?_⟩
            intro m64 qm64 p65
            have z66 := zfx_t z62 qm64 rfl rfl
            intro x67 hx67 kx67 lx67
            exact And.intro trivial (And.intro ⟨by omega, by omega⟩ (hQ _ _ z66 (by omega) (by omega) p65 (by rw [qm64.2.1 29 rfl, G1 29 (by decide)]; exact i7)))
          · refine ⟨zk_X9_chainAgain, zm_X9_chainAgain hg d (by omega), _, _, rfl, ⟨by omega, by omega⟩, ⟨by omega, by omega⟩, (by omega), (fun x a b => zNd_same (fun j c d => C1 j (by omega)) (i2.1.2.1 x a (by omega))), ?_⟩
            intro m68 qm68 p69 p70
            have z71 := zfx_t z62 qm68 rfl rfl
            intro x72 hx72 kx72 lx72
            exact And.intro trivial (And.intro ⟨by omega, by omega⟩ (hQ _ _ z71 (by omega) (by omega) (zRI_ot hp0 p69 (by rw [p70]; exact i0) (zOld_t i2.2 (zOld_same (fun j a b => by rw [qm68.1 j (by omega) (zanyF (by simp <;> omega)), C1 j (by omega)])) (Int.le_refl _)) (zOt_fr i3 (by rw [qm68.1 76 (by decide) rfl, C1 76 (by decide)]) (by rw [qm68.1 77 (by decide) rfl, C1 77 (by decide)]) (by rw [qm68.1 78 (by decide) rfl, C1 78 (by decide)]) (by rw [qm68.1 79 (by decide) rfl, C1 79 (by decide)]) (by rw [qm68.1 80 (by decide) rfl, C1 80 (by decide)]) (by rw [qm68.1 83 (by decide) rfl, C1 83 (by decide)]) (by rw [qm68.1 84 (by decide) rfl, C1 84 (by decide)])) (fun j a b => z71.1 j (by omega) (zanyF (by simp <;> omega))) (by rw [qm68.1 105 (by decide) rfl, C1 105 (by decide)]; exact i6.1) (fun k hk => by rcases hk with h | h | h | h | h | h <;> subst h <;> exact (qm68.2.1 _ rfl).trans ((G1 _ (by decide)).trans (i6.2 _ (by decide)))) (by rw [qm68.2.1 60 rfl, G1 60 (by decide)]; omega) (by rw [qm68.2.1 60 rfl, G1 60 (by decide), qm68.1 98 (by decide) rfl, C1 98 (by decide)]; exact i5) (by omega) (by omega)) (by rw [qm68.2.1 29 rfl, G1 29 (by decide)]; exact i7)))
        · have N2 := n2 (by omega)
          have N21 := N2.1
          have R60 := hp0.1.2.2.2
          have Z00 : 0 ≤ zrm m0 := zrm_0 (by have := i1; omega)
          refine ⟨zk_X9_readDecl, zm_X9_readDecl hg d (by omega), _, _, rfl, i1, N2, (by omega), ?_⟩
          intro x73 m74 qm74 kx73 lx73 p75 p76 p77 p78 p79 p80 p81
          have z82 := zfx_t z0 qm74 rfl rfl
          have ZZ : 0 ≤ zrm m74 := zrm_0 (by have := p75; omega)
          refine Exists.intro ((if x73 = 0 then 0 else Int.toNat (zrm m74 + 1))) (And.intro (by rw [if_neg (show ¬ v2 = 0 by omega)]; split; omega; (have h1 := (p80 (by omega)).2; omega)) ?_)
          exact ⟨(fun h => absurd h (by decide)), (fun _ => ⟨_, _, _, rfl, z82, ⟨by omega, by omega⟩, ⟨by omega, by omega⟩, ⟨by omega, by omega⟩, (by omega), p75, ⟨p77.1, zOld_t i2.2 p77.2.1 i2.1.1.2⟩, (zOt_t i3 p81), ⟨n + 1, ⟨by omega, by omega⟩, fun h => (p80 h).1, by have h1 := p78; omega⟩, p79, ⟨by rw [qm74.1 105 (by decide) rfl]; exact i6.1, fun k hk => by rcases hk with h | h | h | h | h | h <;> subst h <;> exact (qm74.2.1 _ rfl).trans (i6.2 _ (by decide))⟩, (by rw [qm74.2.1 29 rfl]; exact i7), rfl⟩)⟩
