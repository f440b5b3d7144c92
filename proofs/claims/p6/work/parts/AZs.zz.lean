def yk_X9_read : zC := fun As μ Q => ∃ (K : Int), As = [.inr (.inr (66, 66))] ∧ (zRI μ K) ∧ (K + 1010000 ≤ 1999990000) ∧ (∀ (v : Int) (μ' : zM), zfx [67, 68, 69, 70, 71, 72, 73, 74, 76, 77, 78, 79, 80, 82, 83, 84, 86, 87, 97, 98, 99, 100, 101, 102, 103, 104, 105, 106, 3000075, 3000081] [7, 8, 20, 21, 22, 23, 24, 25, 26, 27, 29, 30, 31, 32, 33, 34, 35, 36, 37, 38, 41, 45, 46, 47, 48, 54, 60, 68] μ μ' → (-2147483648) ≤ v → v ≤ 2147483647 → (zRI μ' (K + 1000000)) → (μ'.1 66 ((29 : Nat) : Int) = 0) → ((∃ p B, yR ((μ.1 85, μ.1 66 ((29 : Nat) : Int)) : yT) (0, 0, 0, [], yB0) (21, p, 0, [], B) ∧ v = B.1 0 0 ∧ rSg μ' B) ∨ (∃ p x B, yR ((μ.1 85, μ.1 66 ((29 : Nat) : Int)) : yT) (0, 0, 0, [], yB0) (20, p, x, [], B) ∧ v = -10 - p ∧ (μ'.1 66 ((20 : Nat) : Int) = μ.1 66 ((20 : Nat) : Int) ∧ ∀ q : Int, q < 441 → μ'.1 80 q = μ.1 80 q))) → Q (some (.inl v)) μ')
set_option maxHeartbeats 4000000 in
theorem ym_X9_read {g : zΓ} (hg : zg g) (d : Nat) (hd : 8 ≤ d) : zOk g d 149 yk_X9_read := by
  obtain ⟨d, rfl⟩ : ∃ d', d = d' + 1 := ⟨d - 1, by omega⟩
  refine zOk_loop hg (show mt_tab[149]? = some mt_X9_read from rfl) ([(72, [0, 1, 2]), (118, [0, 1, 2, 3])], []) 109 rfl fun As μ Q hC => ?_
  obtain ⟨K, rfl, hp0, hp1, hQ⟩ := hC
  have z0 : zfx [67, 68, 69, 70, 71, 72, 73, 74, 76, 77, 78, 79, 80, 82, 83, 84, 86, 87, 97, 98, 99, 100, 101, 102, 103, 104, 105, 106, 3000075, 3000081] [7, 8, 20, 21, 22, 23, 24, 25, 26, 27, 29, 30, 31, 32, 33, 34, 35, 36, 37, 38, 41, 45, 46, 47, 48, 54, 60, 68] μ μ := zfx_x μ
  refine ⟨rfl, fun pc vs μ' n => (pc = 72 → ∃ (v1 : Int) (v2 : Int), vs = [.inr (.inr (66, 66)), .inl v1, .inl v2] ∧ zfx [67, 68, 69, 70, 71, 72, 73, 74, 76, 77, 78, 79, 80, 82, 83, 84, 86, 87, 97, 98, 99, 100, 101, 102, 103, 104, 105, 106, 3000075, 3000081] [7, 8, 20, 21, 22, 23, 24, 25, 26, 27, 29, 30, 31, 32, 33, 34, 35, 36, 37, 38, 41, 45, 46, 47, 48, 54, 60, 68] μ μ' ∧ (0 ≤ v1 ∧ v1 ≤ 20000) ∧ (0 ≤ v2 ∧ v2 ≤ 21) ∧ (v1 = zTop μ) ∧ (zRr μ μ' v2) ∧ (μ'.1 3000075 21 = 4288121) ∧ n = (Int.toNat (2147483648 - v2 + 4294967296))) ∧ (pc = 118 → ∃ (v1 : Int) (v2 : Int) (v3 : Int), vs = [.inr (.inr (66, 66)), .inl v1, .inl v2, .inl v3] ∧ zfx [67, 68, 69, 70, 71, 72, 73, 74, 76, 77, 78, 79, 80, 82, 83, 84, 86, 87, 97, 98, 99, 100, 101, 102, 103, 104, 105, 106, 3000075, 3000081] [7, 8, 20, 21, 22, 23, 24, 25, 26, 27, 29, 30, 31, 32, 33, 34, 35, 36, 37, 38, 41, 45, 46, 47, 48, 54, 60, 68] μ μ' ∧ (0 ≤ v1 ∧ v1 ≤ 20000) ∧ (0 ≤ v2 ∧ v2 ≤ 1) ∧ (0 ≤ v3 ∧ v3 ≤ 1) ∧ (v1 = zTop μ) ∧ (0 ≤ μ'.1 66 ((33 : Nat) : Int) ∧ 0 ≤ μ'.1 66 ((34 : Nat) : Int) ∧ μ'.1 66 ((33 : Nat) : Int) + μ'.1 66 ((34 : Nat) : Int) ≤ μ'.1 66 ((31 : Nat) : Int) ∧ μ'.1 66 ((31 : Nat) : Int) ≤ μ'.1 66 ((30 : Nat) : Int) ∧ μ'.1 66 ((30 : Nat) : Int) ≤ 800) ∧ (zND μ' (zTop μ) ∧ zOld μ μ' (zTop μ)) ∧ (zOt μ μ') ∧ (∃ n : Int, (1 ≤ n ∧ n ≤ 22) ∧ (v2 = 1 → zDS μ' (zTop μ) n) ∧ μ.1 66 ((60 : Nat) : Int) ≤ μ'.1 66 ((60 : Nat) : Int) ∧ μ'.1 66 ((60 : Nat) : Int) ≤ μ.1 66 ((60 : Nat) : Int) + 200 * n) ∧ (∀ x : Int, 0 ≤ x → x < 20000 → μ'.1 98 x ≤ μ'.1 66 ((60 : Nat) : Int)) ∧ (μ'.1 105 = μ.1 105 ∧ ∀ k : Nat, k = 20 ∨ k = 21 ∨ k = 23 ∨ k = 45 ∨ k = 48 ∨ k = 68 → μ'.1 66 ((k : Nat) : Int) = μ.1 66 ((k : Nat) : Int)) ∧ (μ'.1 66 ((29 : Nat) : Int) = 0) ∧ ((v2 = 1 ∧ ∃ pq Bq, ((v3 = 1 ∧ yR ((μ.1 85, μ.1 66 ((29 : Nat) : Int)) : yT) (0, 0, 0, [], yB0) (0, pq, 0, [], Bq)) ∨ (v3 = 0 ∧ yR ((μ.1 85, μ.1 66 ((29 : Nat) : Int)) : yT) (0, 0, 0, [], yB0) (9, pq, 0, [], Bq))) ∧ rLx μ' ((μ.1 85, μ.1 66 ((29 : Nat) : Int)) : yT) pq ∧ rNu μ' Bq ∧ rAb μ' Bq (Bq.1 0 0) (zTop μ)) ∨ (v2 = 0 ∧ rFa ((μ.1 85, μ.1 66 ((29 : Nat) : Int)) : yT) (0, 0, 0, [], yB0) μ')) ∧ n = ((if v2 = 0 then 0 else Int.toNat (zrm μ' + 1)))), ?_, ?_, ?_, trivial⟩
  · refine And.intro ⟨by omega, by omega⟩ ?_
    intro m1 em1
    have z2 := zfx_f z0 em1 rfl
    intro x3 hx3 kx3 lx3
    have HV : x3 = zTop μ := by rw [hx3, em1, zu_nk (by decide)]; rfl
    refine And.intro ⟨by omega, by omega⟩ ?_
    intro m4 em4
    have z5 := zfx_f z2 em4 rfl
    refine And.intro ⟨by omega, by omega⟩ ?_
    intro m6 em6
    have z7 := zfx_f z5 em6 rfl
    refine And.intro ⟨by omega, by omega⟩ ?_
    intro m8 em8
    have z9 := zfx_f z7 em8 rfl
    refine And.intro ⟨by omega, by omega⟩ ?_
    intro m10 em10
    have z11 := zfx_f z9 em10 rfl
    refine And.intro ⟨by omega, by omega⟩ ?_
    intro m12 em12
    have z13 := zfx_r z11 em12 rfl (by decide)
    refine And.intro ⟨by omega, by omega⟩ (And.intro ⟨by omega, by omega⟩ ?_)
    intro m14 em14
    have z15 := zfx_r z13 em14 rfl (by decide)
    refine And.intro ⟨by omega, by omega⟩ (And.intro ⟨by omega, by omega⟩ ?_)
    intro m16 em16
    have z17 := zfx_r z15 em16 rfl (by decide)
    refine And.intro ⟨by omega, by omega⟩ (And.intro ⟨by omega, by omega⟩ ?_)
    intro m18 em18
    have z19 := zfx_r z17 em18 rfl (by decide)
    refine ⟨zk_X9_clearHeads, zm_X9_clearHeads hg d (by omega), rfl, ?_⟩
    intro m20 qm20 p21
    have z22 := zfx_t z19 qm20 rfl rfl
    have Z0 := zRr_0 em1 em4 em6 em8 em10 em12 em14 em16 em18 (fun j a b => qm20.1 j a (zanyF (fun r hr => by rw [List.mem_singleton] at hr; rw [hr]; exact b))) (fun k => qm20.2.1 k rfl) p21
    have H75 : m20.1 3000075 21 = 4288121 := by rw [qm20.1 3000075 (by decide) rfl, em18, zu_ne (by decide), em16, zu_ne (by decide), em14, zu_ne (by decide), em12, zu_at]; rfl
    refine Exists.intro (Int.toNat (2147483648 - 0 + 4294967296)) ?_
    exact ⟨(fun _ => ⟨_, _, rfl, z22, ⟨by omega, by omega⟩, ⟨by omega, by omega⟩, (by omega), Z0, H75, rfl⟩), (fun h => absurd h (by decide))⟩
  · intro vs m0 n hI
    replace hI := hI.1 rfl
    clear z0
    obtain ⟨v1, v2, rfl, z0, hv1, hv2, i0, i1, i2, rfl⟩ := hI
    refine And.intro ⟨⟨by omega, by omega⟩, ⟨by omega, by omega⟩⟩ (And.intro (fun c23 => ?_) (fun c23 => ?_))
    · have ZR : zRr μ m0 21 := by have h := i1; rw [show v2 = 21 by omega] at h; exact h
      have T0 : zTop m0 = zTop μ := ZR.2.1 8 (by decide) (by decide) (by decide) (by decide) (by decide)
      refine ⟨zk_X9_make, zm_X9_make hg d (by omega), _, _, _, _, rfl, ⟨by omega, by omega⟩, ⟨by omega, by omega⟩, ⟨by omega, by omega⟩, (show zND m0 (zTop μ) from zND_t.2 (by rw [T0]; exact zNDt_0 (by have := hp0.1.1.1.1; omega) (fun x a b => zNd_same (fun j c d => ZR.1 j (by omega) (by omega) (by omega) (by omega) (by omega) (by omega) (by omega)) (hp0.1.1.1.2.1 x a b)) ZR.2.2.2.2.1)), (show zTop m0 ≤ 19999 by have := zQS_top hp0.1; omega), ⟨fun _ => by omega, fun h => absurd h (by decide)⟩, (fun i a b => by omega), ?_⟩
      intro x24 m25 qm25 kx24 lx24 p26 p27 p28 p29
      have z30 := zfx_t z0 qm25 rfl rfl
      refine And.intro ⟨by omega, by omega⟩ (And.intro ⟨by omega, by omega⟩ ?_)
      intro m31 em31
      have z32 := zfx_r z30 em31 rfl (by decide)
      refine ⟨yk_X9_begin, ym_X9_begin hg d (by omega), rfl, ?_⟩
      intro m33 qm33 p34 p35 p36
      have z37 := zfx_t z32 qm33 rfl rfl
      have DS := zDS_0 hp0 ZR (zMd_of p26 p27 p28 p29) (fun j a => qm25.1 j (by omega) (zanyF (by simp <;> omega))) (fun k hk => qm25.2.1 k (zanyF (fun r hr => by rw [List.mem_singleton] at hr; rw [hr]; exact hk))) em31 rfl (fun j hj => qm33.1 j hj rfl) (fun k hk => by rcases hk with h | h | h | h | h | h <;> subst h <;> exact qm33.2.1 _ rfl) p35.1
      have CF : ∀ k : Nat, k = 20 ∨ k = 21 ∨ k = 23 ∨ k = 45 ∨ k = 48 ∨ k = 60 ∨ k = 68 → m33.1 66 ((k : Nat) : Int) = μ.1 66 ((k : Nat) : Int) := fun k hk => by rcases hk with h | h | h | h | h | h | h <;> subst h <;> exact (qm33.2.1 _ rfl).trans (by rw [em31, zu_ne (by decide), qm25.2.1 _ rfl]; exact ZR.2.1 _ (by decide) (by decide) (by decide) (by decide) (by decide))
      have C105 : m33.1 105 = μ.1 105 := by rw [qm33.1 105 (by decide) rfl, em31, zu_ne (by decide), qm25.1 105 (by decide) rfl]; exact ZR.1 105 (by decide) (by decide) (by decide) (by decide) (by decide) (by decide) (by decide)
      have M85 : m31.1 85 = μ.1 85 := by rw [em31, zu_ne (by decide), qm25.1 85 (by decide) rfl]; exact ZR.1 85 (by decide) (by decide) (by decide) (by decide) (by decide) (by decide) (by decide)
      have M29 : m31.1 66 ((29 : Nat) : Int) = μ.1 66 ((29 : Nat) : Int) := by rw [em31, zu_ne (by decide), qm25.2.1 29 rfl]; exact ZR.2.1 29 (by decide) (by decide) (by decide) (by decide) (by decide)
      have LB := p36.1
      rw [M85, M29] at LB
      have RB := rRd_0 DS.1 p35.1 p36.2 (by rw [qm33.1 3000075 (by decide) rfl, em31, zu_ne (by decide), qm25.1 3000075 (by decide) rfl]; exact i2)
      refine Exists.intro ((if 1 = 0 then 0 else Int.toNat (zrm m33 + 1))) (And.intro (by rw [if_neg (by decide)]; have h1 := zrm_b p34; omega) ?_)
      exact ⟨(fun h => absurd h (by decide)), (fun _ => ⟨_, _, _, rfl, z37, ⟨by omega, by omega⟩, ⟨by omega, by omega⟩, ⟨by omega, by omega⟩, (by omega), p34, ⟨DS.1.2.1.1, DS.2.1⟩, DS.2.2, ⟨1, ⟨by omega, by omega⟩, fun _ => DS.1, by rw [CF 60 (by decide)]; omega⟩, DS.1.2.2.2.2.2.1, ⟨C105, fun k hk => CF k (by omega)⟩, p35.2, (Or.inl ⟨rfl, 0, yB0, Or.inl ⟨rfl, yR_r _ _⟩, LB, RB.1, RB.2⟩), rfl⟩)⟩
    · refine And.intro ⟨by omega, by omega⟩ (And.intro ⟨by omega, by omega⟩ ?_)
      intro m38 em38
      have z39 := zfx_r z0 em38 rfl (by decide)
      refine Exists.intro (Int.toNat (2147483648 - (v2 + 1) + 4294967296)) (And.intro (by omega) ?_)
      exact ⟨(fun _ => ⟨_, _, rfl, z39, ⟨by omega, by omega⟩, ⟨by omega, by omega⟩, (by omega), (zRr_s i1 (by omega) em38 (by omega)), (by rw [em38, zu_ne (by decide)]; exact i2), rfl⟩), (fun h => absurd h (by decide))⟩
  · intro vs m0 n hI
    replace hI := hI.2 rfl
    clear z0
    obtain ⟨v1, v2, v3, rfl, z0, hv1, hv2, hv3, i0, i1, i2, i3, i4, i5, i6, i7, i8, rfl⟩ := hI
    obtain ⟨n, n1, n2, n3⟩ := i4
    refine And.intro ⟨by omega, by omega⟩ (And.intro (fun c40 => ?_) (fun c40 => ?_))
    · intro x41 hx41 kx41 lx41
      refine And.intro ⟨by omega, by omega⟩ ?_
      intro m42 em42
      have z43 := zfx_f z0 em42 rfl
      have C1 : ∀ j : Nat, j ≠ 66 → m42.1 j = m0.1 j := fun j hj => by rw [em42, zu_ne hj]
      have G1 : ∀ k : Nat, k ≠ 37 → m42.1 66 ((k : Nat) : Int) = m0.1 66 ((k : Nat) : Int) := fun k hk => by rw [em42, zu_nk (by omega)]
      have R60 := hp0.1.2.2.2
      have R68 := hp0.2.2
      have TMX := zQS_top hp0.1
      have TL := i2.1.1
      have V1 : 1 ≤ v1 := by have h1 := hp0.1.1.2.1.1; have h2 := hp0.1.1.2.2.1; omega
      refine And.intro ⟨by omega, by omega⟩ (And.intro (fun c44 => ?_) (fun c44 => ?_))
      · exfalso; omega
      · refine ⟨zk_X9_chainAgain, zm_X9_chainAgain hg d (by omega), _, _, rfl, ⟨by omega, by omega⟩, ⟨by omega, by omega⟩, (by omega), (fun x a b => zNd_same (fun j c d => C1 j (by omega)) (i2.1.2.1 x a (by omega))), ?_⟩
        intro m45 qm45 p46 p47
        have z48 := zfx_t z43 qm45 rfl rfl
        intro x49 hx49 kx49 lx49
        exact And.intro trivial (And.intro ⟨by omega, by omega⟩ (hQ _ _ z48 (by omega) (by omega) (zRI_ot hp0 p46 (by rw [p47]; exact i0) (zOld_t i2.2 (zOld_same (fun j a b => by rw [qm45.1 j (by omega) (zanyF (by simp <;> omega)), C1 j (by omega)])) (Int.le_refl _)) (zOt_fr i3 (by rw [qm45.1 76 (by decide) rfl, C1 76 (by decide)]) (by rw [qm45.1 77 (by decide) rfl, C1 77 (by decide)]) (by rw [qm45.1 78 (by decide) rfl, C1 78 (by decide)]) (by rw [qm45.1 79 (by decide) rfl, C1 79 (by decide)]) (by rw [qm45.1 80 (by decide) rfl, C1 80 (by decide)]) (by rw [qm45.1 83 (by decide) rfl, C1 83 (by decide)]) (by rw [qm45.1 84 (by decide) rfl, C1 84 (by decide)])) (fun j a b => z48.1 j (by omega) (zanyF (by simp <;> omega))) (by rw [qm45.1 105 (by decide) rfl, C1 105 (by decide)]; exact i6.1) (fun k hk => by rcases hk with h | h | h | h | h | h <;> subst h <;> exact (qm45.2.1 _ rfl).trans ((G1 _ (by decide)).trans (i6.2 _ (by decide)))) (by rw [qm45.2.1 60 rfl, G1 60 (by decide)]; omega) (by rw [qm45.2.1 60 rfl, G1 60 (by decide), qm45.1 98 (by decide) rfl, C1 98 (by decide)]; exact i5) (by omega) (by omega)) (by rw [qm45.2.1 29 rfl, G1 29 (by decide)]; exact i7) (Or.inr (by rcases i8 with h0 | h0; (exfalso; have h1 := h0.1; omega); (obtain ⟨pp, xx, BB, r1, r2, r3⟩ := h0.2; exact ⟨pp, xx, BB, r1, by have h1 : x49 = pp := (by rw [hx49, qm45.2.1 36 rfl, G1 36 (by decide)]; exact r3); omega, ⟨by rw [qm45.2.1 20 rfl, G1 20 (by decide)]; exact i6.2 20 (by decide), fun j hj => by rw [qm45.1 80 (by decide) rfl, C1 80 (by decide)]; exact rOt80 i3 j hj⟩⟩)))))
    · refine And.intro ⟨by omega, by omega⟩ (And.intro (fun c50 => ?_) (fun c50 => ?_))
      · have N2 := n2 (by omega)
        have N21 := N2.1
        have R60 := hp0.1.2.2.2
        have Z00 : 0 ≤ zrm m0 := zrm_0 (by have := i1; omega)
        obtain ⟨pq, Bq, RC, LQ, NQ, AQ⟩ : ∃ pq Bq, ((v3 = 1 ∧ yR ((μ.1 85, μ.1 66 ((29 : Nat) : Int)) : yT) (0, 0, 0, [], yB0) (0, pq, 0, [], Bq)) ∨ (v3 = 0 ∧ yR ((μ.1 85, μ.1 66 ((29 : Nat) : Int)) : yT) (0, 0, 0, [], yB0) (9, pq, 0, [], Bq))) ∧ rLx m0 ((μ.1 85, μ.1 66 ((29 : Nat) : Int)) : yT) pq ∧ rNu m0 Bq ∧ rAb m0 Bq (Bq.1 0 0) (zTop μ) := by rcases i8 with h0 | h0; exact h0.2; (exfalso; have h1 := h0.1; omega)
        have R0 : yR ((μ.1 85, μ.1 66 ((29 : Nat) : Int)) : yT) (0, 0, 0, [], yB0) (0, pq, 0, [], Bq) := by rcases RC with h0 | h0; exact h0.2; (exfalso; have h1 := h0.1; omega)
        have NN : Bq.1 0 0 = n := NQ.1.2.2.1.symm.trans N2.1.2.2.1
        rw [NN] at AQ
        refine ⟨yk_X9_readDecl, ym_X9_readDecl hg d (by omega), _, _, _, _, _, rfl, i1, N2, (by omega), LQ, NQ, (yInv_R yInv_00 R0), AQ, ?_⟩
        intro x51 m52 qm52 kx51 lx51 p53 p54 p55 p56 p57 p58 p59 p60
        have z61 := zfx_t z0 qm52 rfl rfl
        have ZZ : 0 ≤ zrm m52 := zrm_0 (by have := p53; omega)
        refine Exists.intro ((if x51 = 0 then 0 else Int.toNat (zrm m52 + 1))) (And.intro (by rw [if_neg (show ¬ v2 = 0 by omega)]; split; omega; (have h1 := (p58 (by omega)).2; omega)) ?_)
        exact ⟨(fun h => absurd h (by decide)), (fun _ => ⟨_, _, _, rfl, z61, ⟨by omega, by omega⟩, ⟨by omega, by omega⟩, ⟨by omega, by omega⟩, (by omega), p53, ⟨p55.1, zOld_t i2.2 p55.2.1 i2.1.1.2⟩, (zOt_t i3 p59), ⟨n + 1, ⟨by omega, by omega⟩, fun h => (p58 h).1, by have h1 := p56; omega⟩, p57, ⟨by rw [qm52.1 105 (by decide) rfl]; exact i6.1, fun k hk => by rcases hk with h | h | h | h | h | h <;> subst h <;> exact (qm52.2.1 _ rfl).trans (i6.2 _ (by decide))⟩, (by rw [qm52.2.1 29 rfl]; exact i7), (by rcases p60 with h0 | h0; exact Or.inr ⟨h0.1, rFa_t R0 h0.2⟩; (obtain ⟨h1, p8, B8, R8, L8, N8, A8⟩ := h0; exact Or.inl ⟨h1, p8, B8, Or.inr ⟨rfl, yR_t R0 R8⟩, L8, N8, by rw [N8.1.2.2.1.symm.trans (p58 h1).1.1.2.2.1]; exact A8⟩)), rfl⟩)⟩
      · intro x62 hx62 kx62 lx62
        refine And.intro ⟨⟨by omega, by omega⟩, ⟨by omega, by omega⟩⟩ (And.intro (fun c63 => ?_) (fun c63 => ?_))
        · intro x64 hx64 kx64 lx64
          refine And.intro ⟨by omega, by omega⟩ ?_
          intro m65 em65
          have z66 := zfx_f z0 em65 rfl
          have C1 : ∀ j : Nat, j ≠ 66 → m65.1 j = m0.1 j := fun j hj => by rw [em65, zu_ne hj]
          have G1 : ∀ k : Nat, k ≠ 37 → m65.1 66 ((k : Nat) : Int) = m0.1 66 ((k : Nat) : Int) := fun k hk => by rw [em65, zu_nk (by omega)]
          have R60 := hp0.1.2.2.2
          have R68 := hp0.2.2
          have TMX := zQS_top hp0.1
          have TL := i2.1.1
          have V1 : 1 ≤ v1 := by have h1 := hp0.1.1.2.1.1; have h2 := hp0.1.1.2.2.1; omega
          refine And.intro ⟨by omega, by omega⟩ (And.intro (fun c67 => ?_) (fun c67 => ?_))
          · refine ⟨yk_X9_commit, ym_X9_commit hg d (by omega), _, _, (K + 1000000), rfl, ⟨by omega, by omega⟩, (by rw [i0]; exact zDS_fr (n2 (by omega)) (fun j a b => C1 j (by omega)) (C1 98 (by decide)) (fun k hk => G1 k (by omega))), V1, (by rw [G1 60 (by decide), G1 68 (by decide), C1 105 (by decide), i6.1, i6.2 68 (by decide)]; exact ⟨by omega, hp0.2.1, by omega, by omega⟩), (by rw [G1 60 (by decide), G1 68 (by decide), i6.2 68 (by decide)]; exact ⟨by omega, by omega, by omega⟩), ?_⟩
            intro m68 qm68 p69 p70 p71
            have z72 := zfx_t z66 qm68 rfl rfl
            intro x73 hx73 kx73 lx73
            exact And.intro trivial (And.intro ⟨by omega, by omega⟩ (hQ _ _ z72 (by omega) (by omega) p69 (by rw [qm68.2.1 29 rfl, G1 29 (by decide)]; exact i7) (Or.inl (by rcases i8 with h0 | h0; (obtain ⟨pq, Bq, RC, LQ, NQ, AQ⟩ := h0.2; rcases RC with h1 | h1; (exfalso; have h2 := h1.1; omega); exact ⟨pq, Bq, yR_s h1.2 (ym9_a ((rKd_w (rkd LQ hx62.symm)).2.mp (by omega))), by rw [hx73, p70, G1 26 (by decide)]; exact NQ.1.2.2.1, rSg_c (n2 (by omega)) NQ AQ (by rw [p70, G1 26 (by decide)]) (fun c d a b e f => by rw [← rXa_f (C1 80 (by decide))]; exact p71 c d a b e f)⟩); (exfalso; have h1 := h0.1; omega)))))
          · refine ⟨zk_X9_chainAgain, zm_X9_chainAgain hg d (by omega), _, _, rfl, ⟨by omega, by omega⟩, ⟨by omega, by omega⟩, (by omega), (fun x a b => zNd_same (fun j c d => C1 j (by omega)) (i2.1.2.1 x a (by omega))), ?_⟩
            intro m74 qm74 p75 p76
            have z77 := zfx_t z66 qm74 rfl rfl
            intro x78 hx78 kx78 lx78
            exact And.intro trivial (And.intro ⟨by omega, by omega⟩ (hQ _ _ z77 (by omega) (by omega) (zRI_ot hp0 p75 (by rw [p76]; exact i0) (zOld_t i2.2 (zOld_same (fun j a b => by rw [qm74.1 j (by omega) (zanyF (by simp <;> omega)), C1 j (by omega)])) (Int.le_refl _)) (zOt_fr i3 (by rw [qm74.1 76 (by decide) rfl, C1 76 (by decide)]) (by rw [qm74.1 77 (by decide) rfl, C1 77 (by decide)]) (by rw [qm74.1 78 (by decide) rfl, C1 78 (by decide)]) (by rw [qm74.1 79 (by decide) rfl, C1 79 (by decide)]) (by rw [qm74.1 80 (by decide) rfl, C1 80 (by decide)]) (by rw [qm74.1 83 (by decide) rfl, C1 83 (by decide)]) (by rw [qm74.1 84 (by decide) rfl, C1 84 (by decide)])) (fun j a b => z77.1 j (by omega) (zanyF (by simp <;> omega))) (by rw [qm74.1 105 (by decide) rfl, C1 105 (by decide)]; exact i6.1) (fun k hk => by rcases hk with h | h | h | h | h | h <;> subst h <;> exact (qm74.2.1 _ rfl).trans ((G1 _ (by decide)).trans (i6.2 _ (by decide)))) (by rw [qm74.2.1 60 rfl, G1 60 (by decide)]; omega) (by rw [qm74.2.1 60 rfl, G1 60 (by decide), qm74.1 98 (by decide) rfl, C1 98 (by decide)]; exact i5) (by omega) (by omega)) (by rw [qm74.2.1 29 rfl, G1 29 (by decide)]; exact i7) (Or.inr (by rcases i8 with h0 | h0; (exfalso; have h1 := h0.1; omega); (obtain ⟨pp, xx, BB, r1, r2, r3⟩ := h0.2; exact ⟨pp, xx, BB, r1, by have h1 : x78 = pp := (by rw [hx78, qm74.2.1 36 rfl, G1 36 (by decide)]; exact r3); omega, ⟨by rw [qm74.2.1 20 rfl, G1 20 (by decide)]; exact i6.2 20 (by decide), fun j hj => by rw [qm74.1 80 (by decide) rfl, C1 80 (by decide)]; exact rOt80 i3 j hj⟩⟩)))))
        · have N2 := n2 (by omega)
          have N21 := N2.1
          have R60 := hp0.1.2.2.2
          have Z00 : 0 ≤ zrm m0 := zrm_0 (by have := i1; omega)
          obtain ⟨pq, Bq, RC, LQ, NQ, AQ⟩ : ∃ pq Bq, ((v3 = 1 ∧ yR ((μ.1 85, μ.1 66 ((29 : Nat) : Int)) : yT) (0, 0, 0, [], yB0) (0, pq, 0, [], Bq)) ∨ (v3 = 0 ∧ yR ((μ.1 85, μ.1 66 ((29 : Nat) : Int)) : yT) (0, 0, 0, [], yB0) (9, pq, 0, [], Bq))) ∧ rLx m0 ((μ.1 85, μ.1 66 ((29 : Nat) : Int)) : yT) pq ∧ rNu m0 Bq ∧ rAb m0 Bq (Bq.1 0 0) (zTop μ) := by rcases i8 with h0 | h0; exact h0.2; (exfalso; have h1 := h0.1; omega)
          have R0 : yR ((μ.1 85, μ.1 66 ((29 : Nat) : Int)) : yT) (0, 0, 0, [], yB0) (0, pq, 0, [], Bq) := by rcases RC with h0 | h0; exact h0.2; exact yR_s h0.2 (ym9_b (fun h1 => by have h2 := (rKd_w (rkd LQ hx62.symm)).2.mpr h1; omega))
          have NN : Bq.1 0 0 = n := NQ.1.2.2.1.symm.trans N2.1.2.2.1
          rw [NN] at AQ
          refine ⟨yk_X9_readDecl, ym_X9_readDecl hg d (by omega), _, _, _, _, _, rfl, i1, N2, (by omega), LQ, NQ, (yInv_R yInv_00 R0), AQ, ?_⟩
          intro x79 m80 qm80 kx79 lx79 p81 p82 p83 p84 p85 p86 p87 p88
          have z89 := zfx_t z0 qm80 rfl rfl
          have ZZ : 0 ≤ zrm m80 := zrm_0 (by have := p81; omega)
          refine Exists.intro ((if x79 = 0 then 0 else Int.toNat (zrm m80 + 1))) (And.intro (by rw [if_neg (show ¬ v2 = 0 by omega)]; split; omega; (have h1 := (p86 (by omega)).2; omega)) ?_)
          exact ⟨(fun h => absurd h (by decide)), (fun _ => ⟨_, _, _, rfl, z89, ⟨by omega, by omega⟩, ⟨by omega, by omega⟩, ⟨by omega, by omega⟩, (by omega), p81, ⟨p83.1, zOld_t i2.2 p83.2.1 i2.1.1.2⟩, (zOt_t i3 p87), ⟨n + 1, ⟨by omega, by omega⟩, fun h => (p86 h).1, by have h1 := p84; omega⟩, p85, ⟨by rw [qm80.1 105 (by decide) rfl]; exact i6.1, fun k hk => by rcases hk with h | h | h | h | h | h <;> subst h <;> exact (qm80.2.1 _ rfl).trans (i6.2 _ (by decide))⟩, (by rw [qm80.2.1 29 rfl]; exact i7), (by rcases p88 with h0 | h0; exact Or.inr ⟨h0.1, rFa_t R0 h0.2⟩; (obtain ⟨h1, p8, B8, R8, L8, N8, A8⟩ := h0; exact Or.inl ⟨h1, p8, B8, Or.inr ⟨rfl, yR_t R0 R8⟩, L8, N8, by rw [N8.1.2.2.1.symm.trans (p86 h1).1.1.2.2.1]; exact A8⟩)), rfl⟩)⟩
