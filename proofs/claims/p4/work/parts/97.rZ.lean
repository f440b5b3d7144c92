/-! ### read -/
def zk_X9_read : zC := fun As μ Q => ∃ (K : Int), As = [.inr (.inr (66, 66))] ∧ (zRI μ K) ∧ (K + 1010000 ≤ 1999990000) ∧ (∀ (v : Int) (μ' : zM), zfx [67, 68, 69, 70, 71, 72, 73, 74, 76, 77, 78, 79, 80, 82, 83, 84, 86, 87, 97, 98, 99, 100, 101, 102, 103, 104, 105, 106, 3000075, 3000081] [7, 8, 20, 21, 22, 23, 24, 25, 26, 27, 29, 30, 31, 32, 33, 34, 35, 36, 37, 38, 41, 45, 46, 47, 48, 54, 60, 68] μ μ' → (-2147483648) ≤ v → v ≤ 2147483647 → (zRI μ' (K + 1000000)) → (μ'.1 66 ((29 : Nat) : Int) = 0) → Q (some (.inl v)) μ')
set_option maxHeartbeats 2000000 in
theorem zm_X9_read {g : zΓ} (hg : zg g) (d : Nat) (hd : 8 ≤ d) : zOk g d 149 zk_X9_read := by
  obtain ⟨d, rfl⟩ : ∃ d', d = d' + 1 := ⟨d - 1, by omega⟩
  refine zOk_loop hg (show mt_tab[149]? = some mt_X9_read from rfl) ([(72, [0, 1, 2]), (118, [0, 1, 2, 3])], []) 109 rfl fun As μ Q hC => ?_
  obtain ⟨K, rfl, hp0, hp1, hQ⟩ := hC
  have z0 : zfx [67, 68, 69, 70, 71, 72, 73, 74, 76, 77, 78, 79, 80, 82, 83, 84, 86, 87, 97, 98, 99, 100, 101, 102, 103, 104, 105, 106, 3000075, 3000081] [7, 8, 20, 21, 22, 23, 24, 25, 26, 27, 29, 30, 31, 32, 33, 34, 35, 36, 37, 38, 41, 45, 46, 47, 48, 54, 60, 68] μ μ := zfx_x μ
  refine ⟨rfl, fun pc vs μ' n => (pc = 72 → ∃ (v1 : Int) (v2 : Int), vs = [.inr (.inr (66, 66)), .inl v1, .inl v2] ∧ zfx [67, 68, 69, 70, 71, 72, 73, 74, 76, 77, 78, 79, 80, 82, 83, 84, 86, 87, 97, 98, 99, 100, 101, 102, 103, 104, 105, 106, 3000075, 3000081] [7, 8, 20, 21, 22, 23, 24, 25, 26, 27, 29, 30, 31, 32, 33, 34, 35, 36, 37, 38, 41, 45, 46, 47, 48, 54, 60, 68] μ μ' ∧ (0 ≤ v1 ∧ v1 ≤ 20000) ∧ (0 ≤ v2 ∧ v2 ≤ 21) ∧ (v1 = zTop μ) ∧ (zRr μ μ' v2) ∧ n = (Int.toNat (2147483648 - v2 + 4294967296))) ∧ (pc = 118 → ∃ (v1 : Int) (v2 : Int) (v3 : Int), vs = [.inr (.inr (66, 66)), .inl v1, .inl v2, .inl v3] ∧ zfx [67, 68, 69, 70, 71, 72, 73, 74, 76, 77, 78, 79, 80, 82, 83, 84, 86, 87, 97, 98, 99, 100, 101, 102, 103, 104, 105, 106, 3000075, 3000081] [7, 8, 20, 21, 22, 23, 24, 25, 26, 27, 29, 30, 31, 32, 33, 34, 35, 36, 37, 38, 41, 45, 46, 47, 48, 54, 60, 68] μ μ' ∧ (0 ≤ v1 ∧ v1 ≤ 20000) ∧ (0 ≤ v2 ∧ v2 ≤ 1) ∧ (0 ≤ v3 ∧ v3 ≤ 1) ∧ (v1 = zTop μ) ∧ (0 ≤ μ'.1 66 ((33 : Nat) : Int) ∧ 0 ≤ μ'.1 66 ((34 : Nat) : Int) ∧ μ'.1 66 ((33 : Nat) : Int) + μ'.1 66 ((34 : Nat) : Int) ≤ μ'.1 66 ((31 : Nat) : Int) ∧ μ'.1 66 ((31 : Nat) : Int) ≤ μ'.1 66 ((30 : Nat) : Int) ∧ μ'.1 66 ((30 : Nat) : Int) ≤ 800) ∧ (zND μ' (zTop μ) ∧ zOld μ μ' (zTop μ)) ∧ (zOt μ μ') ∧ (∃ n : Int, (1 ≤ n ∧ n ≤ 22) ∧ (v2 = 1 → zDS μ' (zTop μ) n) ∧ μ.1 66 ((60 : Nat) : Int) ≤ μ'.1 66 ((60 : Nat) : Int) ∧ μ'.1 66 ((60 : Nat) : Int) ≤ μ.1 66 ((60 : Nat) : Int) + 200 * n) ∧ (∀ x : Int, 0 ≤ x → x < 20000 → μ'.1 98 x ≤ μ'.1 66 ((60 : Nat) : Int)) ∧ (μ'.1 105 = μ.1 105 ∧ ∀ k : Nat, k = 20 ∨ k = 21 ∨ k = 23 ∨ k = 45 ∨ k = 48 ∨ k = 68 → μ'.1 66 ((k : Nat) : Int) = μ.1 66 ((k : Nat) : Int)) ∧ (μ'.1 66 ((29 : Nat) : Int) = 0) ∧ n = ((if v2 = 0 then 0 else Int.toNat (zrm μ' + 1)))), ?_, ?_, ?_, trivial⟩
  · refine And.intro ⟨by omega, by omega⟩ ?_
    intro m1 em1
    have z2 := zfx_f z0 em1 rfl
    intro x3 hx3 kx3 lx3
    have HV : x3 = zTop μ := by rw [hx3, em1, zu_nk (by decide)]; rfl
    refine And.intro ⟨by omega, by omega⟩ ?_
    intro m4 em4
    have z5 := zfx_f z2 em4 rfl
    refine And.intro ⟨by omega, by omega⟩ ?_
    intro m6 em6
    have z7 := zfx_f z5 em6 rfl
    refine And.intro ⟨by omega, by omega⟩ ?_
    intro m8 em8
    have z9 := zfx_f z7 em8 rfl
    refine And.intro ⟨by omega, by omega⟩ ?_
    intro m10 em10
    have z11 := zfx_f z9 em10 rfl
    refine And.intro ⟨by omega, by omega⟩ ?_
    intro m12 em12
    have z13 := zfx_r z11 em12 rfl (by decide)
    refine And.intro ⟨by omega, by omega⟩ (And.intro ⟨by omega, by omega⟩ ?_)
    intro m14 em14
    have z15 := zfx_r z13 em14 rfl (by decide)
    refine And.intro ⟨by omega, by omega⟩ (And.intro ⟨by omega, by omega⟩ ?_)
    intro m16 em16
    have z17 := zfx_r z15 em16 rfl (by decide)
    refine And.intro ⟨by omega, by omega⟩ (And.intro ⟨by omega, by omega⟩ ?_)
    intro m18 em18
    have z19 := zfx_r z17 em18 rfl (by decide)
    refine ⟨zk_X9_clearHeads, zm_X9_clearHeads hg d (by omega), rfl, ?_⟩
    intro m20 qm20 p21
    have z22 := zfx_t z19 qm20 rfl rfl
    have Z0 := zRr_0 em1 em4 em6 em8 em10 em12 em14 em16 em18 (fun j a b => qm20.1 j a (zanyF (fun r hr => by rw [List.mem_singleton] at hr; rw [hr]; exact b))) (fun k => qm20.2.1 k rfl) p21
    refine Exists.intro (Int.toNat (2147483648 - 0 + 4294967296)) ?_
    exact ⟨(fun _ => ⟨_, _, rfl, z22, ⟨by omega, by omega⟩, ⟨by omega, by omega⟩, (by omega), Z0, rfl⟩), (fun h => absurd h (by decide))⟩
  · intro vs m0 n hI
    replace hI := hI.1 rfl
    clear z0
    obtain ⟨v1, v2, rfl, z0, hv1, hv2, i0, i1, rfl⟩ := hI
    refine And.intro ⟨⟨by omega, by omega⟩, ⟨by omega, by omega⟩⟩ (And.intro (fun c23 => ?_) (fun c23 => ?_))
    · have ZR : zRr μ m0 21 := by have h := i1; rw [show v2 = 21 by omega] at h; exact h
      have T0 : zTop m0 = zTop μ := ZR.2.1 8 (by decide) (by decide) (by decide) (by decide) (by decide)
      refine ⟨zk_X9_make, zm_X9_make hg d (by omega), _, _, _, _, rfl, ⟨by omega, by omega⟩, ⟨by omega, by omega⟩, ⟨by omega, by omega⟩, (show zND m0 (zTop μ) from zND_t.2 (by rw [T0]; exact zNDt_0 (by have := hp0.1.1.1.1; omega) (fun x a b => zNd_same (fun j c d => ZR.1 j (by omega) (by omega) (by omega) (by omega) (by omega) (by omega) (by omega)) (hp0.1.1.1.2.1 x a b)) ZR.2.2.2.2.1)), (show zTop m0 ≤ 19999 by have := zQS_top hp0.1; omega), ⟨fun _ => by omega, fun h => absurd h (by decide)⟩, (fun i a b => by omega), ?_⟩
      intro x24 m25 qm25 kx24 lx24 p26 p27 p28 p29
      have z30 := zfx_t z0 qm25 rfl rfl
      refine And.intro ⟨by omega, by omega⟩ (And.intro ⟨by omega, by omega⟩ ?_)
      intro m31 em31
      have z32 := zfx_r z30 em31 rfl (by decide)
      refine ⟨zk_X9_begin2, zm_X9_begin2 hg d (by omega), rfl, ?_⟩
      intro m33 qm33 p34 p35
      have z36 := zfx_t z32 qm33 rfl rfl
      have DS := zDS_0 hp0 ZR (zMd_of p26 p27 p28 p29) (fun j a => qm25.1 j (by omega) (zanyF (by simp <;> omega))) (fun k hk => qm25.2.1 k (zanyF (fun r hr => by rw [List.mem_singleton] at hr; rw [hr]; exact hk))) em31 rfl (fun j hj => qm33.1 j hj rfl) (fun k hk => by rcases hk with h | h | h | h | h | h <;> subst h <;> exact qm33.2.1 _ rfl) p35.1
      have CF : ∀ k : Nat, k = 20 ∨ k = 21 ∨ k = 23 ∨ k = 45 ∨ k = 48 ∨ k = 60 ∨ k = 68 → m33.1 66 ((k : Nat) : Int) = μ.1 66 ((k : Nat) : Int) := fun k hk => by rcases hk with h | h | h | h | h | h | h <;> subst h <;> exact (qm33.2.1 _ rfl).trans (by rw [em31, zu_ne (by decide), qm25.2.1 _ rfl]; exact ZR.2.1 _ (by decide) (by decide) (by decide) (by decide) (by decide))
      have C105 : m33.1 105 = μ.1 105 := by rw [qm33.1 105 (by decide) rfl, em31, zu_ne (by decide), qm25.1 105 (by decide) rfl]; exact ZR.1 105 (by decide) (by decide) (by decide) (by decide) (by decide) (by decide) (by decide)
      refine Exists.intro ((if 1 = 0 then 0 else Int.toNat (zrm m33 + 1))) (And.intro (by rw [if_neg (by decide)]; have h1 := zrm_b p34; omega) ?_)
      exact ⟨(fun h => absurd h (by decide)), (fun _ => ⟨_, _, _, rfl, z36, ⟨by omega, by omega⟩, ⟨by omega, by omega⟩, ⟨by omega, by omega⟩, (by omega), p34, ⟨DS.1.2.1.1, DS.2.1⟩, DS.2.2, ⟨1, ⟨by omega, by omega⟩, fun _ => DS.1, by rw [CF 60 (by decide)]; omega⟩, DS.1.2.2.2.2.2.1, ⟨C105, fun k hk => CF k (by omega)⟩, p35.2, rfl⟩)⟩
    · refine And.intro ⟨by omega, by omega⟩ (And.intro ⟨by omega, by omega⟩ ?_)
      intro m37 em37
      have z38 := zfx_r z0 em37 rfl (by decide)
      refine Exists.intro (Int.toNat (2147483648 - (v2 + 1) + 4294967296)) (And.intro (by omega) ?_)
      exact ⟨(fun _ => ⟨_, _, rfl, z38, ⟨by omega, by omega⟩, ⟨by omega, by omega⟩, (by omega), (zRr_s i1 (by omega) em37 (by omega)), rfl⟩), (fun h => absurd h (by decide))⟩
  · intro vs m0 n hI
    replace hI := hI.2 rfl
    clear z0
    obtain ⟨v1, v2, v3, rfl, z0, hv1, hv2, hv3, i0, i1, i2, i3, i4, i5, i6, i7, rfl⟩ := hI
    obtain ⟨n, n1, n2, n3⟩ := i4
    refine And.intro ⟨by omega, by omega⟩ (And.intro (fun c39 => ?_) (fun c39 => ?_))
    · intro x40 hx40 kx40 lx40
      refine And.intro ⟨by omega, by omega⟩ ?_
      intro m41 em41
      have z42 := zfx_f z0 em41 rfl
      have C1 : ∀ j : Nat, j ≠ 66 → m41.1 j = m0.1 j := fun j hj => by rw [em41, zu_ne hj]
      have G1 : ∀ k : Nat, k ≠ 37 → m41.1 66 ((k : Nat) : Int) = m0.1 66 ((k : Nat) : Int) := fun k hk => by rw [em41, zu_nk (by omega)]
      have R60 := hp0.1.2.2.2
      have R68 := hp0.2.2
      have TMX := zQS_top hp0.1
      have TL := i2.1.1
      have V1 : 1 ≤ v1 := by have h1 := hp0.1.1.2.1.1; have h2 := hp0.1.1.2.2.1; omega
      refine And.intro ⟨by omega, by omega⟩ (And.intro (fun c43 => ?_) (fun c43 => ?_))
      · exfalso; omega
      · refine ⟨zk_X9_chainAgain, zm_X9_chainAgain hg d (by omega), _, _, rfl, ⟨by omega, by omega⟩, ⟨by omega, by omega⟩, (by omega), (fun x a b => zNd_same (fun j c d => C1 j (by omega)) (i2.1.2.1 x a (by omega))), ?_⟩
        intro m44 qm44 p45 p46
        have z47 := zfx_t z42 qm44 rfl rfl
        intro x48 hx48 kx48 lx48
        exact And.intro trivial (And.intro ⟨by omega, by omega⟩ (hQ _ _ z47 (by omega) (by omega) (zRI_ot hp0 p45 (by rw [p46]; exact i0) (zOld_t i2.2 (zOld_same (fun j a b => by rw [qm44.1 j (by omega) (zanyF (by simp <;> omega)), C1 j (by omega)])) (Int.le_refl _)) (zOt_fr i3 (by rw [qm44.1 76 (by decide) rfl, C1 76 (by decide)]) (by rw [qm44.1 77 (by decide) rfl, C1 77 (by decide)]) (by rw [qm44.1 78 (by decide) rfl, C1 78 (by decide)]) (by rw [qm44.1 79 (by decide) rfl, C1 79 (by decide)]) (by rw [qm44.1 80 (by decide) rfl, C1 80 (by decide)]) (by rw [qm44.1 83 (by decide) rfl, C1 83 (by decide)]) (by rw [qm44.1 84 (by decide) rfl, C1 84 (by decide)])) (fun j a b => z47.1 j (by omega) (zanyF (by simp <;> omega))) (by rw [qm44.1 105 (by decide) rfl, C1 105 (by decide)]; exact i6.1) (fun k hk => by rcases hk with h | h | h | h | h | h <;> subst h <;> exact (qm44.2.1 _ rfl).trans ((G1 _ (by decide)).trans (i6.2 _ (by decide)))) (by rw [qm44.2.1 60 rfl, G1 60 (by decide)]; omega) (by rw [qm44.2.1 60 rfl, G1 60 (by decide), qm44.1 98 (by decide) rfl, C1 98 (by decide)]; exact i5) (by omega) (by omega)) (by rw [qm44.2.1 29 rfl, G1 29 (by decide)]; exact i7)))
    · refine And.intro ⟨by omega, by omega⟩ (And.intro (fun c49 => ?_) (fun c49 => ?_))
      · have N2 := n2 (by omega)
        have N21 := N2.1
        have R60 := hp0.1.2.2.2
        have Z00 : 0 ≤ zrm m0 := zrm_0 (by have := i1; omega)
        refine ⟨zk_X9_readDecl, zm_X9_readDecl hg d (by omega), _, _, rfl, i1, N2, (by omega), ?_⟩
        intro x50 m51 qm51 kx50 lx50 p52 p53 p54 p55 p56 p57 p58
        have z59 := zfx_t z0 qm51 rfl rfl
        have ZZ : 0 ≤ zrm m51 := zrm_0 (by have := p52; omega)
        refine Exists.intro ((if x50 = 0 then 0 else Int.toNat (zrm m51 + 1))) (And.intro (by rw [if_neg (show ¬ v2 = 0 by omega)]; split; omega; (have h1 := (p57 (by omega)).2; omega)) ?_)
        exact ⟨(fun h => absurd h (by decide)), (fun _ => ⟨_, _, _, rfl, z59, ⟨by omega, by omega⟩, ⟨by omega, by omega⟩, ⟨by omega, by omega⟩, (by omega), p52, ⟨p54.1, zOld_t i2.2 p54.2.1 i2.1.1.2⟩, (zOt_t i3 p58), ⟨n + 1, ⟨by omega, by omega⟩, fun h => (p57 h).1, by have h1 := p55; omega⟩, p56, ⟨by rw [qm51.1 105 (by decide) rfl]; exact i6.1, fun k hk => by rcases hk with h | h | h | h | h | h <;> subst h <;> exact (qm51.2.1 _ rfl).trans (i6.2 _ (by decide))⟩, (by rw [qm51.2.1 29 rfl]; exact i7), rfl⟩)⟩
      · intro x60 hx60 kx60 lx60
        refine And.intro ⟨⟨by omega, by omega⟩, ⟨by omega, by omega⟩⟩ (And.intro (fun c61 => ?_) (fun c61 => ?_))
        · intro x62 hx62 kx62 lx62
          refine And.intro ⟨by omega, by omega⟩ ?_
          intro m63 em63
          have z64 := zfx_f z0 em63 rfl
          have C1 : ∀ j : Nat, j ≠ 66 → m63.1 j = m0.1 j := fun j hj => by rw [em63, zu_ne hj]
          have G1 : ∀ k : Nat, k ≠ 37 → m63.1 66 ((k : Nat) : Int) = m0.1 66 ((k : Nat) : Int) := fun k hk => by rw [em63, zu_nk (by omega)]
          have R60 := hp0.1.2.2.2
          have R68 := hp0.2.2
          have TMX := zQS_top hp0.1
          have TL := i2.1.1
          have V1 : 1 ≤ v1 := by have h1 := hp0.1.1.2.1.1; have h2 := hp0.1.1.2.2.1; omega
          refine And.intro ⟨by omega, by omega⟩ (And.intro (fun c65 => ?_) (fun c65 => ?_))
          · refine ⟨zk_X9_commit, zm_X9_commit hg d (by omega), _, _, (K + 1000000), rfl, ⟨by omega, by omega⟩, (by rw [i0]; exact zDS_fr (n2 (by omega)) (fun j a b => C1 j (by omega)) (C1 98 (by decide)) (fun k hk => G1 k (by omega))), V1, (by rw [G1 60 (by decide), G1 68 (by decide), C1 105 (by decide), i6.1, i6.2 68 (by decide)]; exact ⟨by omega, hp0.2.1, by omega, by omega⟩), (by rw [G1 60 (by decide), G1 68 (by decide), i6.2 68 (by decide)]; exact ⟨by omega, by omega, by omega⟩), ?_⟩
            intro m66 qm66 p67
            have z68 := zfx_t z64 qm66 rfl rfl
            intro x69 hx69 kx69 lx69
            exact And.intro trivial (And.intro ⟨by omega, by omega⟩ (hQ _ _ z68 (by omega) (by omega) p67 (by rw [qm66.2.1 29 rfl, G1 29 (by decide)]; exact i7)))
          · refine ⟨zk_X9_chainAgain, zm_X9_chainAgain hg d (by omega), _, _, rfl, ⟨by omega, by omega⟩, ⟨by omega, by omega⟩, (by omega), (fun x a b => zNd_same (fun j c d => C1 j (by omega)) (i2.1.2.1 x a (by omega))), ?_⟩
            intro m70 qm70 p71 p72
            have z73 := zfx_t z64 qm70 rfl rfl
            intro x74 hx74 kx74 lx74
            exact And.intro trivial (And.intro ⟨by omega, by omega⟩ (hQ _ _ z73 (by omega) (by omega) (zRI_ot hp0 p71 (by rw [p72]; exact i0) (zOld_t i2.2 (zOld_same (fun j a b => by rw [qm70.1 j (by omega) (zanyF (by simp <;> omega)), C1 j (by omega)])) (Int.le_refl _)) (zOt_fr i3 (by rw [qm70.1 76 (by decide) rfl, C1 76 (by decide)]) (by rw [qm70.1 77 (by decide) rfl, C1 77 (by decide)]) (by rw [qm70.1 78 (by decide) rfl, C1 78 (by decide)]) (by rw [qm70.1 79 (by decide) rfl, C1 79 (by decide)]) (by rw [qm70.1 80 (by decide) rfl, C1 80 (by decide)]) (by rw [qm70.1 83 (by decide) rfl, C1 83 (by decide)]) (by rw [qm70.1 84 (by decide) rfl, C1 84 (by decide)])) (fun j a b => z73.1 j (by omega) (zanyF (by simp <;> omega))) (by rw [qm70.1 105 (by decide) rfl, C1 105 (by decide)]; exact i6.1) (fun k hk => by rcases hk with h | h | h | h | h | h <;> subst h <;> exact (qm70.2.1 _ rfl).trans ((G1 _ (by decide)).trans (i6.2 _ (by decide)))) (by rw [qm70.2.1 60 rfl, G1 60 (by decide)]; omega) (by rw [qm70.2.1 60 rfl, G1 60 (by decide), qm70.1 98 (by decide) rfl, C1 98 (by decide)]; exact i5) (by omega) (by omega)) (by rw [qm70.2.1 29 rfl, G1 29 (by decide)]; exact i7)))
        · have N2 := n2 (by omega)
          have N21 := N2.1
          have R60 := hp0.1.2.2.2
          have Z00 : 0 ≤ zrm m0 := zrm_0 (by have := i1; omega)
          refine ⟨zk_X9_readDecl, zm_X9_readDecl hg d (by omega), _, _, rfl, i1, N2, (by omega), ?_⟩
          intro x75 m76 qm76 kx75 lx75 p77 p78 p79 p80 p81 p82 p83
          have z84 := zfx_t z0 qm76 rfl rfl
          have ZZ : 0 ≤ zrm m76 := zrm_0 (by have := p77; omega)
          refine Exists.intro ((if x75 = 0 then 0 else Int.toNat (zrm m76 + 1))) (And.intro (by rw [if_neg (show ¬ v2 = 0 by omega)]; split; omega; (have h1 := (p82 (by omega)).2; omega)) ?_)
          exact ⟨(fun h => absurd h (by decide)), (fun _ => ⟨_, _, _, rfl, z84, ⟨by omega, by omega⟩, ⟨by omega, by omega⟩, ⟨by omega, by omega⟩, (by omega), p77, ⟨p79.1, zOld_t i2.2 p79.2.1 i2.1.1.2⟩, (zOt_t i3 p83), ⟨n + 1, ⟨by omega, by omega⟩, fun h => (p82 h).1, by have h1 := p80; omega⟩, p81, ⟨by rw [qm76.1 105 (by decide) rfl]; exact i6.1, fun k hk => by rcases hk with h | h | h | h | h | h <;> subst h <;> exact (qm76.2.1 _ rfl).trans (i6.2 _ (by decide))⟩, (by rw [qm76.2.1 29 rfl]; exact i7), rfl⟩)⟩
