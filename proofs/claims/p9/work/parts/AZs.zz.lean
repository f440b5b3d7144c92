def rTb (μ : zM) (B : yB) : Prop := rSg μ B ∧ ∀ k : Int, 0 ≤ k → k < B.1 0 0 → μ.1 3000075 k = B.1 1 k ∧ μ.1 76 k = B.1 2 k ∧ μ.1 77 k = B.1 3 k ∧ μ.1 79 k = B.1 4 k
def rKp (μ μ' : zM) : Prop := μ'.1 66 ((20 : Nat) : Int) = μ.1 66 ((20 : Nat) : Int) ∧ (∀ q : Int, q < 441 → μ'.1 80 q = μ.1 80 q) ∧ ∀ q : Int, q < 21 → μ'.1 3000075 q = μ.1 3000075 q ∧ μ'.1 76 q = μ.1 76 q ∧ μ'.1 77 q = μ.1 77 q ∧ μ'.1 79 q = μ.1 79 q
theorem rKp_mk {μ m : zM} (h20 : m.1 66 ((20 : Nat) : Int) = μ.1 66 ((20 : Nat) : Int)) (hO : zOt μ m) (hN : zOn μ m) : rKp μ m := ⟨h20, rOt80 hO, fun q hq => ⟨hN.1 q hq, hO.1 q hq⟩⟩
theorem rTb_c {m0 m m1 : zM} {B : yB} {n : Int} (hN : rNu m0 B) (hn : m0.1 66 ((26 : Nat) : Int) = n) (c : ∀ j : Nat, j ≠ 66 → m.1 j = m0.1 j) (h : (∀ c : Int, 0 ≤ c → c < n → m1.1 76 c = m.1 76 (21 + c) ∧ m1.1 77 c = m.1 77 (21 + c) ∧ m1.1 79 c = m.1 79 (21 + c)) ∧ rNm m m1 n ∧ rPm m m1 (m.1 66 ((27 : Nat) : Int))) : ∀ k : Int, 0 ≤ k → k < B.1 0 0 → m1.1 3000075 k = B.1 1 k ∧ m1.1 76 k = B.1 2 k ∧ m1.1 77 k = B.1 3 k ∧ m1.1 79 k = B.1 4 k := fun k a b => by
  have e := hN.1.2.2.1
  have q := hN.2.1 k a b
  have r := h.1 k a (by omega)
  have s := h.2.1.1 k a (by omega)
  rw [c 76 (by decide), c 77 (by decide), c 79 (by decide)] at r
  rw [c 3000075 (by decide)] at s
  exact ⟨s.trans q.1, r.1.trans q.2.1, r.2.1.trans q.2.2.1, r.2.2.trans q.2.2.2⟩
theorem rTq_c {m0 m m1 : zM} {B : yB} {n : Int} (hN : rNu m0 B) (hn : m0.1 66 ((26 : Nat) : Int) = n) (c : ∀ j : Nat, j ≠ 66 → m.1 j = m0.1 j) (h : (∀ c : Int, 0 ≤ c → c < n → m1.1 76 c = m.1 76 (21 + c) ∧ m1.1 77 c = m.1 77 (21 + c) ∧ m1.1 79 c = m.1 79 (21 + c)) ∧ rNm m m1 n ∧ rPm m m1 (m.1 66 ((27 : Nat) : Int))) (h20 : m1.1 66 ((20 : Nat) : Int) = m0.1 66 ((26 : Nat) : Int)) (h21 : m1.1 66 ((21 : Nat) : Int) = m.1 66 ((27 : Nat) : Int)) (h27 : m.1 66 ((27 : Nat) : Int) = m0.1 66 ((27 : Nat) : Int)) : rTq m1 B := by
  refine ⟨⟨h20.trans hN.1.2.2.1, (h21.trans h27).trans hN.1.2.2.2.1⟩, rTb_c hN hn c h, fun p a b => ?_⟩
  have s := h.2.2.1 p a (by rw [h27, hN.1.2.2.2.1]; exact b)
  rw [s.1, c 3000081 (by decide)]
  exact (hN.2.2 p a b).1
def yk_X9_read : zC := fun As μ Q => ∃ (K : Int), As = [.inr (.inr (66, 66))] ∧ (zRI μ K) ∧ (K + 1010000 ≤ 1999990000) ∧ (∀ (v : Int) (μ' : zM), zfx [67, 68, 69, 70, 71, 72, 73, 74, 76, 77, 78, 79, 80, 82, 83, 84, 86, 87, 97, 98, 99, 100, 101, 102, 103, 104, 105, 106, 3000075, 3000081] [7, 8, 20, 21, 22, 23, 24, 25, 26, 27, 29, 30, 31, 32, 33, 34, 35, 36, 37, 38, 41, 45, 46, 47, 48, 54, 60, 68] μ μ' → (-2147483648) ≤ v → v ≤ 2147483647 → (zRI μ' (K + 1000000)) → (μ'.1 66 ((29 : Nat) : Int) = 0) → ((∃ p B, yR ((μ.1 85, μ.1 66 ((29 : Nat) : Int)) : yT) (0, 0, 0, [], yB0) (21, p, 0, [], B) ∧ v = B.1 0 0 ∧ (rTb μ' B ∧ rTq μ' B) ∧ μ'.1 66 ((37 : Nat) : Int) = 0 ∧ (rPc μ' B (zTop μ') ∧ zUq μ' 0 ∧ rWf μ' B ∧ yGd B ∧ μ'.1 66 ((23 : Nat) : Int) = zTop μ')) ∨ (∃ p x B, yR ((μ.1 85, μ.1 66 ((29 : Nat) : Int)) : yT) (0, 0, 0, [], yB0) (20, p, x, [], B) ∧ v = -10 - p ∧ (rKp μ μ' ∧ μ'.1 66 ((21 : Nat) : Int) = μ.1 66 ((21 : Nat) : Int) ∧ ∀ q : Int, q < 80 → μ'.1 3000081 q = μ.1 3000081 q) ∧ μ'.1 66 ((37 : Nat) : Int) = x ∧ (μ'.1 86 = μ.1 86 ∧ μ'.1 87 = μ.1 87) ∧ (zOt μ μ' ∧ zOld μ μ' (zTop μ) ∧ μ'.1 66 ((23 : Nat) : Int) = μ.1 66 ((23 : Nat) : Int)))) → Q (some (.inl v)) μ')
set_option maxHeartbeats 4000000 in
theorem ym_X9_read {g : zΓ} (hg : zg g) (d : Nat) (hd : 8 ≤ d) : zOk g d 149 yk_X9_read := by
  obtain ⟨d, rfl⟩ : ∃ d', d = d' + 1 := ⟨d - 1, by omega⟩
  refine zOk_loop hg (show mt_tab[149]? = some mt_X9_read from rfl) ([(72, [0, 1, 2]), (118, [0, 1, 2, 3])], []) 109 rfl fun As μ Q hC => ?_
  obtain ⟨K, rfl, hp0, hp1, hQ⟩ := hC
  have z0 : zfx [67, 68, 69, 70, 71, 72, 73, 74, 76, 77, 78, 79, 80, 82, 83, 84, 86, 87, 97, 98, 99, 100, 101, 102, 103, 104, 105, 106, 3000075, 3000081] [7, 8, 20, 21, 22, 23, 24, 25, 26, 27, 29, 30, 31, 32, 33, 34, 35, 36, 37, 38, 41, 45, 46, 47, 48, 54, 60, 68] μ μ := zfx_x μ
  refine ⟨rfl, fun pc vs μ' n => (pc = 72 → ∃ (v1 : Int) (v2 : Int), vs = [.inr (.inr (66, 66)), .inl v1, .inl v2] ∧ zfx [67, 68, 69, 70, 71, 72, 73, 74, 76, 77, 78, 79, 80, 82, 83, 84, 86, 87, 97, 98, 99, 100, 101, 102, 103, 104, 105, 106, 3000075, 3000081] [7, 8, 20, 21, 22, 23, 24, 25, 26, 27, 29, 30, 31, 32, 33, 34, 35, 36, 37, 38, 41, 45, 46, 47, 48, 54, 60, 68] μ μ' ∧ (0 ≤ v1 ∧ v1 ≤ 20000) ∧ (0 ≤ v2 ∧ v2 ≤ 21) ∧ (v1 = zTop μ) ∧ (zRr μ μ' v2) ∧ (μ'.1 3000075 21 = 4288121) ∧ (zOn μ μ') ∧ (μ'.1 86 = μ.1 86 ∧ μ'.1 87 = μ.1 87) ∧ n = (Int.toNat (2147483648 - v2 + 4294967296))) ∧ (pc = 118 → ∃ (v1 : Int) (v2 : Int) (v3 : Int), vs = [.inr (.inr (66, 66)), .inl v1, .inl v2, .inl v3] ∧ zfx [67, 68, 69, 70, 71, 72, 73, 74, 76, 77, 78, 79, 80, 82, 83, 84, 86, 87, 97, 98, 99, 100, 101, 102, 103, 104, 105, 106, 3000075, 3000081] [7, 8, 20, 21, 22, 23, 24, 25, 26, 27, 29, 30, 31, 32, 33, 34, 35, 36, 37, 38, 41, 45, 46, 47, 48, 54, 60, 68] μ μ' ∧ (0 ≤ v1 ∧ v1 ≤ 20000) ∧ (0 ≤ v2 ∧ v2 ≤ 1) ∧ (0 ≤ v3 ∧ v3 ≤ 1) ∧ (v1 = zTop μ) ∧ (0 ≤ μ'.1 66 ((33 : Nat) : Int) ∧ 0 ≤ μ'.1 66 ((34 : Nat) : Int) ∧ μ'.1 66 ((33 : Nat) : Int) + μ'.1 66 ((34 : Nat) : Int) ≤ μ'.1 66 ((31 : Nat) : Int) ∧ μ'.1 66 ((31 : Nat) : Int) ≤ μ'.1 66 ((30 : Nat) : Int) ∧ μ'.1 66 ((30 : Nat) : Int) ≤ 800) ∧ (zND μ' (zTop μ) ∧ zOld μ μ' (zTop μ)) ∧ (zOt μ μ') ∧ (∃ n : Int, (1 ≤ n ∧ n ≤ 22) ∧ (v2 = 1 → zDS μ' (zTop μ) n) ∧ μ.1 66 ((60 : Nat) : Int) ≤ μ'.1 66 ((60 : Nat) : Int) ∧ μ'.1 66 ((60 : Nat) : Int) ≤ μ.1 66 ((60 : Nat) : Int) + 200 * n) ∧ (∀ x : Int, 0 ≤ x → x < 20000 → μ'.1 98 x ≤ μ'.1 66 ((60 : Nat) : Int)) ∧ (μ'.1 105 = μ.1 105 ∧ ∀ k : Nat, k = 20 ∨ k = 21 ∨ k = 23 ∨ k = 45 ∨ k = 48 ∨ k = 68 → μ'.1 66 ((k : Nat) : Int) = μ.1 66 ((k : Nat) : Int)) ∧ (μ'.1 66 ((29 : Nat) : Int) = 0) ∧ ((v2 = 1 ∧ ∃ pq Bq, ((v3 = 1 ∧ yR ((μ.1 85, μ.1 66 ((29 : Nat) : Int)) : yT) (0, 0, 0, [], yB0) (0, pq, 0, [], Bq)) ∨ (v3 = 0 ∧ yR ((μ.1 85, μ.1 66 ((29 : Nat) : Int)) : yT) (0, 0, 0, [], yB0) (9, pq, 0, [], Bq))) ∧ rLx μ' ((μ.1 85, μ.1 66 ((29 : Nat) : Int)) : yT) pq ∧ rNu μ' Bq ∧ rAb μ' Bq (Bq.1 0 0) (zTop μ) ∧ rTd μ' Bq) ∨ (v2 = 0 ∧ rFa ((μ.1 85, μ.1 66 ((29 : Nat) : Int)) : yT) (0, 0, 0, [], yB0) μ')) ∧ (zOn μ μ') ∧ (μ'.1 86 = μ.1 86 ∧ μ'.1 87 = μ.1 87) ∧ n = ((if v2 = 0 then 0 else Int.toNat (zrm μ' + 1)))), ?_, ?_, ?_, trivial⟩
  · refine And.intro ⟨by omega, by omega⟩ ?_
    intro m1 em1
    have z2 := zfx_f z0 em1 rfl
    have on3 := zOn_w (zOn_r μ) em1 ⟨fun h => absurd h (by decide), fun h => absurd h (by decide), fun h => absurd h (by decide)⟩
    have w84 : m1.1 86 = μ.1 86 ∧ m1.1 87 = μ.1 87 := by rw [em1, zu_ne (by decide), zu_ne (by decide)]; exact ⟨rfl, rfl⟩
    intro x5 hx5 kx5 lx5
    have HV : x5 = zTop μ := by rw [hx5, em1, zu_nk (by decide)]; rfl
    refine And.intro ⟨by omega, by omega⟩ ?_
    intro m6 em6
    have z7 := zfx_f z2 em6 rfl
    have on8 := zOn_w on3 em6 ⟨fun h => absurd h (by decide), fun h => absurd h (by decide), fun h => absurd h (by decide)⟩
    have w89 : m6.1 86 = μ.1 86 ∧ m6.1 87 = μ.1 87 := by rw [em6, zu_ne (by decide), zu_ne (by decide)]; exact w84
    refine And.intro ⟨by omega, by omega⟩ ?_
    intro m10 em10
    have z11 := zfx_f z7 em10 rfl
    have on12 := zOn_w on8 em10 ⟨fun h => absurd h (by decide), fun h => absurd h (by decide), fun h => absurd h (by decide)⟩
    have w813 : m10.1 86 = μ.1 86 ∧ m10.1 87 = μ.1 87 := by rw [em10, zu_ne (by decide), zu_ne (by decide)]; exact w89
    refine And.intro ⟨by omega, by omega⟩ ?_
    intro m14 em14
    have z15 := zfx_f z11 em14 rfl
    have on16 := zOn_w on12 em14 ⟨fun h => absurd h (by decide), fun h => absurd h (by decide), fun h => absurd h (by decide)⟩
    have w817 : m14.1 86 = μ.1 86 ∧ m14.1 87 = μ.1 87 := by rw [em14, zu_ne (by decide), zu_ne (by decide)]; exact w813
    refine And.intro ⟨by omega, by omega⟩ ?_
    intro m18 em18
    have z19 := zfx_f z15 em18 rfl
    have on20 := zOn_w on16 em18 ⟨fun h => absurd h (by decide), fun h => absurd h (by decide), fun h => absurd h (by decide)⟩
    have w821 : m18.1 86 = μ.1 86 ∧ m18.1 87 = μ.1 87 := by rw [em18, zu_ne (by decide), zu_ne (by decide)]; exact w817
    refine And.intro ⟨by omega, by omega⟩ ?_
    intro m22 em22
    have z23 := zfx_r z19 em22 rfl (by decide)
    have on24 := zOn_w on20 em22 ⟨fun _ => by omega, fun h => absurd h (by decide), fun h => absurd h (by decide)⟩
    have w825 : m22.1 86 = μ.1 86 ∧ m22.1 87 = μ.1 87 := by rw [em22, zu_ne (by decide), zu_ne (by decide)]; exact w821
    refine And.intro ⟨by omega, by omega⟩ (And.intro ⟨by omega, by omega⟩ ?_)
    intro m26 em26
    have z27 := zfx_r z23 em26 rfl (by decide)
    have on28 := zOn_w on24 em26 ⟨fun h => absurd h (by decide), fun h => absurd h (by decide), fun h => absurd h (by decide)⟩
    have w829 : m26.1 86 = μ.1 86 ∧ m26.1 87 = μ.1 87 := by rw [em26, zu_ne (by decide), zu_ne (by decide)]; exact w825
    refine And.intro ⟨by omega, by omega⟩ (And.intro ⟨by omega, by omega⟩ ?_)
    intro m30 em30
    have z31 := zfx_r z27 em30 rfl (by decide)
    have on32 := zOn_w on28 em30 ⟨fun h => absurd h (by decide), fun h => absurd h (by decide), fun h => absurd h (by decide)⟩
    have w833 : m30.1 86 = μ.1 86 ∧ m30.1 87 = μ.1 87 := by rw [em30, zu_ne (by decide), zu_ne (by decide)]; exact w829
    refine And.intro ⟨by omega, by omega⟩ (And.intro ⟨by omega, by omega⟩ ?_)
    intro m34 em34
    have z35 := zfx_r z31 em34 rfl (by decide)
    have on36 := zOn_w on32 em34 ⟨fun h => absurd h (by decide), fun h => absurd h (by decide), fun h => absurd h (by decide)⟩
    have w837 : m34.1 86 = μ.1 86 ∧ m34.1 87 = μ.1 87 := by rw [em34, zu_ne (by decide), zu_ne (by decide)]; exact w833
    refine ⟨zk_X9_clearHeads, zm_X9_clearHeads hg d (by omega), rfl, ?_⟩
    intro m38 qm38 p39
    have z40 := zfx_t z35 qm38 rfl rfl
    have on41 := zOn_fr on36 (qm38.1 3000075 (by decide) rfl) (qm38.1 3000081 (by decide) rfl) (qm38.1 82 (by decide) rfl)
    have w842 : m38.1 86 = μ.1 86 ∧ m38.1 87 = μ.1 87 := ⟨(qm38.1 86 (by decide) rfl).trans w837.1, (qm38.1 87 (by decide) rfl).trans w837.2⟩
    have Z0 := zRr_0 em1 em6 em10 em14 em18 em22 em26 em30 em34 (fun j a b => qm38.1 j a (zanyF (fun r hr => by rw [List.mem_singleton] at hr; rw [hr]; exact b))) (fun k => qm38.2.1 k rfl) p39
    have H75 : m38.1 3000075 21 = 4288121 := by rw [qm38.1 3000075 (by decide) rfl, em34, zu_ne (by decide), em30, zu_ne (by decide), em26, zu_ne (by decide), em22, zu_at]; rfl
    refine Exists.intro (Int.toNat (2147483648 - 0 + 4294967296)) ?_
    exact ⟨(fun _ => ⟨_, _, rfl, z40, ⟨by omega, by omega⟩, ⟨by omega, by omega⟩, (by omega), Z0, H75, on41, w842, rfl⟩), (fun h => absurd h (by decide))⟩
  · intro vs m0 n hI
    replace hI := hI.1 rfl
    clear z0
    obtain ⟨v1, v2, rfl, z0, hv1, hv2, i0, i1, i2, i3, i4, rfl⟩ := hI
    refine And.intro ⟨⟨by omega, by omega⟩, ⟨by omega, by omega⟩⟩ (And.intro (fun c43 => ?_) (fun c43 => ?_))
    · have ZR : zRr μ m0 21 := by have h := i1; rw [show v2 = 21 by omega] at h; exact h
      have T0 : zTop m0 = zTop μ := ZR.2.1 8 (by decide) (by decide) (by decide) (by decide) (by decide)
      refine ⟨zk_X9_make, zm_X9_make hg d (by omega), _, _, _, _, rfl, ⟨by omega, by omega⟩, ⟨by omega, by omega⟩, ⟨by omega, by omega⟩, (show zND m0 (zTop μ) from zND_t.2 (by rw [T0]; exact zNDt_0 (by have := hp0.1.1.1.1; omega) (fun x a b => zNd_same (fun j c d => ZR.1 j (by omega) (by omega) (by omega) (by omega) (by omega) (by omega) (by omega)) (hp0.1.1.1.2.1 x a b)) ZR.2.2.2.2.1)), (show zTop m0 ≤ 19999 by have := zQS_top hp0.1; omega), ⟨fun _ => by omega, fun h => absurd h (by decide)⟩, (fun i a b => by omega), ?_⟩
      intro x44 m45 qm45 kx44 lx44 p46 p47 p48 p49
      have z50 := zfx_t z0 qm45 rfl rfl
      have on51 := zOn_fr i3 (qm45.1 3000075 (by decide) rfl) (qm45.1 3000081 (by decide) rfl) (qm45.1 82 (by decide) rfl)
      have w852 : m45.1 86 = μ.1 86 ∧ m45.1 87 = μ.1 87 := ⟨(qm45.1 86 (by decide) rfl).trans i4.1, (qm45.1 87 (by decide) rfl).trans i4.2⟩
      refine And.intro ⟨by omega, by omega⟩ (And.intro ⟨by omega, by omega⟩ ?_)
      intro m53 em53
      have z54 := zfx_r z50 em53 rfl (by decide)
      have on55 := zOn_w on51 em53 ⟨fun h => absurd h (by decide), fun h => absurd h (by decide), fun h => absurd h (by decide)⟩
      have w856 : m53.1 86 = μ.1 86 ∧ m53.1 87 = μ.1 87 := by rw [em53, zu_ne (by decide), zu_ne (by decide)]; exact w852
      refine ⟨yk_X9_begin, ym_X9_begin hg d (by omega), rfl, ?_⟩
      intro m57 qm57 p58 p59 p60
      have z61 := zfx_t z54 qm57 rfl rfl
      have on62 := zOn_fr on55 (qm57.1 3000075 (by decide) rfl) (qm57.1 3000081 (by decide) rfl) (qm57.1 82 (by decide) rfl)
      have w863 : m57.1 86 = μ.1 86 ∧ m57.1 87 = μ.1 87 := ⟨(qm57.1 86 (by decide) rfl).trans w856.1, (qm57.1 87 (by decide) rfl).trans w856.2⟩
      have DS := zDS_0 hp0 ZR (zMd_of p46 p47 p48 p49) (fun j a => qm45.1 j (by omega) (zanyF (by simp <;> omega))) (fun k hk => qm45.2.1 k (zanyF (fun r hr => by rw [List.mem_singleton] at hr; rw [hr]; exact hk))) em53 rfl (fun j hj => qm57.1 j hj rfl) (fun k hk => by rcases hk with h | h | h | h | h | h <;> subst h <;> exact qm57.2.1 _ rfl) p59.1
      have CF : ∀ k : Nat, k = 20 ∨ k = 21 ∨ k = 23 ∨ k = 45 ∨ k = 48 ∨ k = 60 ∨ k = 68 → m57.1 66 ((k : Nat) : Int) = μ.1 66 ((k : Nat) : Int) := fun k hk => by rcases hk with h | h | h | h | h | h | h <;> subst h <;> exact (qm57.2.1 _ rfl).trans (by rw [em53, zu_ne (by decide), qm45.2.1 _ rfl]; exact ZR.2.1 _ (by decide) (by decide) (by decide) (by decide) (by decide))
      have C105 : m57.1 105 = μ.1 105 := by rw [qm57.1 105 (by decide) rfl, em53, zu_ne (by decide), qm45.1 105 (by decide) rfl]; exact ZR.1 105 (by decide) (by decide) (by decide) (by decide) (by decide) (by decide) (by decide)
      have M85 : m53.1 85 = μ.1 85 := by rw [em53, zu_ne (by decide), qm45.1 85 (by decide) rfl]; exact ZR.1 85 (by decide) (by decide) (by decide) (by decide) (by decide) (by decide) (by decide)
      have M29 : m53.1 66 ((29 : Nat) : Int) = μ.1 66 ((29 : Nat) : Int) := by rw [em53, zu_ne (by decide), qm45.2.1 29 rfl]; exact ZR.2.1 29 (by decide) (by decide) (by decide) (by decide) (by decide)
      have LB := p60.1
      rw [M85, M29] at LB
      have RB := rRd_0 DS.1 p59.1 p60.2 (by rw [qm57.1 3000075 (by decide) rfl, em53, zu_ne (by decide), qm45.1 3000075 (by decide) rfl]; exact i2)
      refine Exists.intro ((if 1 = 0 then 0 else Int.toNat (zrm m57 + 1))) (And.intro (by rw [if_neg (by decide)]; have h1 := zrm_b p58; omega) ?_)
      exact ⟨(fun h => absurd h (by decide)), (fun _ => ⟨_, _, _, rfl, z61, ⟨by omega, by omega⟩, ⟨by omega, by omega⟩, ⟨by omega, by omega⟩, (by omega), p58, ⟨DS.1.2.1.1, DS.2.1⟩, DS.2.2, ⟨1, ⟨by omega, by omega⟩, fun _ => DS.1, by rw [CF 60 (by decide)]; omega⟩, DS.1.2.2.2.2.2.1, ⟨C105, fun k hk => CF k (by omega)⟩, p59.2, (Or.inl ⟨rfl, 0, yB0, Or.inl ⟨rfl, yR_r _ _⟩, LB, RB.1, RB.2, rTd_0⟩), on62, w863, rfl⟩)⟩
    · refine And.intro ⟨by omega, by omega⟩ (And.intro ⟨by omega, by omega⟩ ?_)
      intro m64 em64
      have z65 := zfx_r z0 em64 rfl (by decide)
      have on66 := zOn_w i3 em64 ⟨fun h => absurd h (by decide), fun h => absurd h (by decide), fun h => absurd h (by decide)⟩
      have w867 : m64.1 86 = μ.1 86 ∧ m64.1 87 = μ.1 87 := by rw [em64, zu_ne (by decide), zu_ne (by decide)]; exact i4
      refine Exists.intro (Int.toNat (2147483648 - (v2 + 1) + 4294967296)) (And.intro (by omega) ?_)
      exact ⟨(fun _ => ⟨_, _, rfl, z65, ⟨by omega, by omega⟩, ⟨by omega, by omega⟩, (by omega), (zRr_s i1 (by omega) em64 (by omega)), (by rw [em64, zu_ne (by decide)]; exact i2), on66, w867, rfl⟩), (fun h => absurd h (by decide))⟩
  · intro vs m0 n hI
    replace hI := hI.2 rfl
    clear z0
    obtain ⟨v1, v2, v3, rfl, z0, hv1, hv2, hv3, i0, i1, i2, i3, i4, i5, i6, i7, i8, i9, i10, rfl⟩ := hI
    obtain ⟨n, n1, n2, n3⟩ := i4
    refine And.intro ⟨by omega, by omega⟩ (And.intro (fun c68 => ?_) (fun c68 => ?_))
    · intro x69 hx69 kx69 lx69
      refine And.intro ⟨by omega, by omega⟩ ?_
      intro m70 em70
      have z71 := zfx_f z0 em70 rfl
      have on72 := zOn_w i9 em70 ⟨fun h => absurd h (by decide), fun h => absurd h (by decide), fun h => absurd h (by decide)⟩
      have w873 : m70.1 86 = μ.1 86 ∧ m70.1 87 = μ.1 87 := by rw [em70, zu_ne (by decide), zu_ne (by decide)]; exact i10
      have C1 : ∀ j : Nat, j ≠ 66 → m70.1 j = m0.1 j := fun j hj => by rw [em70, zu_ne hj]
      have G1 : ∀ k : Nat, k ≠ 37 → m70.1 66 ((k : Nat) : Int) = m0.1 66 ((k : Nat) : Int) := fun k hk => by rw [em70, zu_nk (by omega)]
      have R60 := hp0.1.2.2.2
      have R68 := hp0.2.2
      have TMX := zQS_top hp0.1
      have TL := i2.1.1
      have V1 : 1 ≤ v1 := by have h1 := hp0.1.1.2.1.1; have h2 := hp0.1.1.2.2.1; omega
      refine And.intro ⟨by omega, by omega⟩ (And.intro (fun c74 => ?_) (fun c74 => ?_))
      · exfalso; omega
      · refine ⟨zk_X9_chainAgain, zm_X9_chainAgain hg d (by omega), _, _, rfl, ⟨by omega, by omega⟩, ⟨by omega, by omega⟩, (by omega), (fun x a b => zNd_same (fun j c d => C1 j (by omega)) (i2.1.2.1 x a (by omega))), ?_⟩
        intro m75 qm75 p76 p77
        have z78 := zfx_t z71 qm75 rfl rfl
        have on79 := zOn_fr on72 (qm75.1 3000075 (by decide) rfl) (qm75.1 3000081 (by decide) rfl) (qm75.1 82 (by decide) rfl)
        have w880 : m75.1 86 = μ.1 86 ∧ m75.1 87 = μ.1 87 := ⟨(qm75.1 86 (by decide) rfl).trans w873.1, (qm75.1 87 (by decide) rfl).trans w873.2⟩
        intro x81 hx81 kx81 lx81
        exact And.intro trivial (And.intro ⟨by omega, by omega⟩ (hQ _ _ z78 (by omega) (by omega) (zRI_ot hp0 p76 (by rw [p77]; exact i0) (zOld_t i2.2 (zOld_same (fun j a b => by rw [qm75.1 j (by omega) (zanyF (by simp <;> omega)), C1 j (by omega)])) (Int.le_refl _)) (zOt_fr i3 (by rw [qm75.1 76 (by decide) rfl, C1 76 (by decide)]) (by rw [qm75.1 77 (by decide) rfl, C1 77 (by decide)]) (by rw [qm75.1 78 (by decide) rfl, C1 78 (by decide)]) (by rw [qm75.1 79 (by decide) rfl, C1 79 (by decide)]) (by rw [qm75.1 80 (by decide) rfl, C1 80 (by decide)]) (by rw [qm75.1 83 (by decide) rfl, C1 83 (by decide)]) (by rw [qm75.1 84 (by decide) rfl, C1 84 (by decide)])) (fun j a b => z78.1 j (by omega) (zanyF (by simp <;> omega))) (by rw [qm75.1 105 (by decide) rfl, C1 105 (by decide)]; exact i6.1) (fun k hk => by rcases hk with h | h | h | h | h | h <;> subst h <;> exact (qm75.2.1 _ rfl).trans ((G1 _ (by decide)).trans (i6.2 _ (by decide)))) (by rw [qm75.2.1 60 rfl, G1 60 (by decide)]; omega) (by rw [qm75.2.1 60 rfl, G1 60 (by decide), qm75.1 98 (by decide) rfl, C1 98 (by decide)]; exact i5) (by omega) (by omega)) (by rw [qm75.2.1 29 rfl, G1 29 (by decide)]; exact i7) (Or.inr (by rcases i8 with h0 | h0; (exfalso; have h1 := h0.1; omega); (obtain ⟨pp, xx, BB, r1, r2, r3⟩ := h0.2; exact ⟨pp, xx, BB, r1, by have h1 : x81 = pp := (by rw [hx81, qm75.2.1 36 rfl, G1 36 (by decide)]; exact r3); omega, ⟨rKp_mk (qm75.2.1 20 rfl |>.trans ((G1 20 (by decide)).trans (i6.2 20 (by decide)))) (zOt_fr i3 (by rw [qm75.1 76 (by decide) rfl, C1 76 (by decide)]) (by rw [qm75.1 77 (by decide) rfl, C1 77 (by decide)]) (by rw [qm75.1 78 (by decide) rfl, C1 78 (by decide)]) (by rw [qm75.1 79 (by decide) rfl, C1 79 (by decide)]) (by rw [qm75.1 80 (by decide) rfl, C1 80 (by decide)]) (by rw [qm75.1 83 (by decide) rfl, C1 83 (by decide)]) (by rw [qm75.1 84 (by decide) rfl, C1 84 (by decide)])) on79, qm75.2.1 21 rfl |>.trans ((G1 21 (by decide)).trans (i6.2 21 (by decide))), on79.2.1⟩, by rw [qm75.2.1 37 rfl, em70, zu_at, hx69]; exact r2, w880, ⟨(zOt_fr i3 (by rw [qm75.1 76 (by decide) rfl, C1 76 (by decide)]) (by rw [qm75.1 77 (by decide) rfl, C1 77 (by decide)]) (by rw [qm75.1 78 (by decide) rfl, C1 78 (by decide)]) (by rw [qm75.1 79 (by decide) rfl, C1 79 (by decide)]) (by rw [qm75.1 80 (by decide) rfl, C1 80 (by decide)]) (by rw [qm75.1 83 (by decide) rfl, C1 83 (by decide)]) (by rw [qm75.1 84 (by decide) rfl, C1 84 (by decide)])), (zOld_t i2.2 (zOld_same (fun j a b => by rw [qm75.1 j (by omega) (zanyF (by simp <;> omega)), C1 j (by omega)])) (Int.le_refl _)), (qm75.2.1 23 rfl |>.trans ((G1 23 (by decide)).trans (i6.2 23 (by decide))))⟩⟩)))))
    · refine And.intro ⟨by omega, by omega⟩ (And.intro (fun c82 => ?_) (fun c82 => ?_))
      · have N2 := n2 (by omega)
        have N21 := N2.1
        have R60 := hp0.1.2.2.2
        have Z00 : 0 ≤ zrm m0 := zrm_0 (by have := i1; omega)
        obtain ⟨pq, Bq, RC, LQ, NQ, AQ, TQ⟩ : ∃ pq Bq, ((v3 = 1 ∧ yR ((μ.1 85, μ.1 66 ((29 : Nat) : Int)) : yT) (0, 0, 0, [], yB0) (0, pq, 0, [], Bq)) ∨ (v3 = 0 ∧ yR ((μ.1 85, μ.1 66 ((29 : Nat) : Int)) : yT) (0, 0, 0, [], yB0) (9, pq, 0, [], Bq))) ∧ rLx m0 ((μ.1 85, μ.1 66 ((29 : Nat) : Int)) : yT) pq ∧ rNu m0 Bq ∧ rAb m0 Bq (Bq.1 0 0) (zTop μ) ∧ rTd m0 Bq := by rcases i8 with h0 | h0; exact h0.2; (exfalso; have h1 := h0.1; omega)
        have R0 : yR ((μ.1 85, μ.1 66 ((29 : Nat) : Int)) : yT) (0, 0, 0, [], yB0) (0, pq, 0, [], Bq) := by rcases RC with h0 | h0; exact h0.2; (exfalso; have h1 := h0.1; omega)
        have NN : Bq.1 0 0 = n := NQ.1.2.2.1.symm.trans N2.1.2.2.1
        rw [NN] at AQ
        refine ⟨yk_X9_readDecl, ym_X9_readDecl hg d (by omega), _, _, _, _, _, rfl, i1, N2, (by omega), LQ, NQ, (yInv_R yInv_00 R0), AQ, TQ, ?_⟩
        intro x83 m84 qm84 kx83 lx83 p85 p86 p87 p88 p89 p90 p91 p92 p93
        have z94 := zfx_t z0 qm84 rfl rfl
        have on95 := zOn_t i9 p93
        have w896 : m84.1 86 = μ.1 86 ∧ m84.1 87 = μ.1 87 := ⟨(qm84.1 86 (by decide) rfl).trans i10.1, (qm84.1 87 (by decide) rfl).trans i10.2⟩
        have ZZ : 0 ≤ zrm m84 := zrm_0 (by have := p85; omega)
        refine Exists.intro ((if x83 = 0 then 0 else Int.toNat (zrm m84 + 1))) (And.intro (by rw [if_neg (show ¬ v2 = 0 by omega)]; split; omega; (have h1 := (p90 (by omega)).2; omega)) ?_)
        exact ⟨(fun h => absurd h (by decide)), (fun _ => ⟨_, _, _, rfl, z94, ⟨by omega, by omega⟩, ⟨by omega, by omega⟩, ⟨by omega, by omega⟩, (by omega), p85, ⟨p87.1, zOld_t i2.2 p87.2.1 i2.1.1.2⟩, (zOt_t i3 p91), ⟨n + 1, ⟨by omega, by omega⟩, fun h => (p90 h).1, by have h1 := p88; omega⟩, p89, ⟨by rw [qm84.1 105 (by decide) rfl]; exact i6.1, fun k hk => by rcases hk with h | h | h | h | h | h <;> subst h <;> exact (qm84.2.1 _ rfl).trans (i6.2 _ (by decide))⟩, (by rw [qm84.2.1 29 rfl]; exact i7), (by rcases p92 with h0 | h0; exact Or.inr ⟨h0.1, rFa_t R0 h0.2⟩; (obtain ⟨h1, p8, B8, R8, L8, N8, A8, T8⟩ := h0; exact Or.inl ⟨h1, p8, B8, Or.inr ⟨rfl, yR_t R0 R8⟩, L8, N8, by rw [N8.1.2.2.1.symm.trans (p90 h1).1.1.2.2.1]; exact A8, T8⟩)), on95, w896, rfl⟩)⟩
      · intro x97 hx97 kx97 lx97
        refine And.intro ⟨⟨by omega, by omega⟩, ⟨by omega, by omega⟩⟩ (And.intro (fun c98 => ?_) (fun c98 => ?_))
        · intro x99 hx99 kx99 lx99
          refine And.intro ⟨by omega, by omega⟩ ?_
          intro m100 em100
          have z101 := zfx_f z0 em100 rfl
          have on102 := zOn_w i9 em100 ⟨fun h => absurd h (by decide), fun h => absurd h (by decide), fun h => absurd h (by decide)⟩
          have w8103 : m100.1 86 = μ.1 86 ∧ m100.1 87 = μ.1 87 := by rw [em100, zu_ne (by decide), zu_ne (by decide)]; exact i10
          have C1 : ∀ j : Nat, j ≠ 66 → m100.1 j = m0.1 j := fun j hj => by rw [em100, zu_ne hj]
          have G1 : ∀ k : Nat, k ≠ 37 → m100.1 66 ((k : Nat) : Int) = m0.1 66 ((k : Nat) : Int) := fun k hk => by rw [em100, zu_nk (by omega)]
          have R60 := hp0.1.2.2.2
          have R68 := hp0.2.2
          have TMX := zQS_top hp0.1
          have TL := i2.1.1
          have V1 : 1 ≤ v1 := by have h1 := hp0.1.1.2.1.1; have h2 := hp0.1.1.2.2.1; omega
          refine And.intro ⟨by omega, by omega⟩ (And.intro (fun c104 => ?_) (fun c104 => ?_))
          · refine ⟨yk_X9_commit, ym_X9_commit hg d (by omega), _, _, (K + 1000000), rfl, ⟨by omega, by omega⟩, (by rw [i0]; exact zDS_fr (n2 (by omega)) (fun j a b => C1 j (by omega)) (C1 98 (by decide)) (fun k hk => G1 k (by omega))), V1, (by rw [G1 60 (by decide), G1 68 (by decide), C1 105 (by decide), i6.1, i6.2 68 (by decide)]; exact ⟨by omega, hp0.2.1, by omega, by omega⟩), (by rw [G1 60 (by decide), G1 68 (by decide), i6.2 68 (by decide)]; exact ⟨by omega, by omega, by omega⟩), ?_⟩
            intro m105 qm105 p106 p107 p108 p109 p110 p111 p112
            have z113 := zfx_t z101 qm105 rfl rfl
            intro x114 hx114 kx114 lx114
            exact And.intro trivial (And.intro ⟨by omega, by omega⟩ (hQ _ _ z113 (by omega) (by omega) p106 (by rw [qm105.2.1 29 rfl, G1 29 (by decide)]; exact i7) (Or.inl (by rcases i8 with h0 | h0; (obtain ⟨pq, Bq, RC, LQ, NQ, AQ, TQ⟩ := h0.2; rcases RC with h1 | h1; (exfalso; have h2 := h1.1; omega); have I9 : yI0 Bq := (by rcases yInv_R yInv_00 h1.2 with q | q; exact absurd (show (9 : Nat) = 20 from q) (by decide); exact q.1); have ND := n2 (by omega); have MV0 : zMv m100 m105 (zTop μ) n (m100.1 66 ((27 : Nat) : Int)) := (by rw [← i0]; exact p111); have MV := zMv_c MV0 C1 (show zTop m100 = zTop m0 from G1 8 (by decide)); have PC := rPc_mk ND NQ AQ TQ C1 (show zTop m100 = zTop m0 from G1 8 (by decide)) MV0 (G1 27 (by decide)); have UQ := zUq_cp ND.2.1.2.1 MV.2.1 (fun x a b => (ND.2.1.1.2.1 x (by have h9 := ND.2.1.1.1.1; omega) b).1.1) MV.1.1; have Q9 := rTq_c NQ ND.1.2.2.1 C1 p109 (by rw [p107, G1 26 (by decide)]) p110 (G1 27 (by decide)); exact ⟨pq, Bq, yR_s h1.2 (ym9_a ((rKd_w (rkd LQ hx97.symm)).2.mp (by omega))), by rw [hx114, p107, G1 26 (by decide)]; exact NQ.1.2.2.1, ⟨⟨rSg_c (n2 (by omega)) NQ AQ (by rw [p107, G1 26 (by decide)]) (fun c d a b e f => by rw [← rXa_f (C1 80 (by decide))]; exact p108 c d a b e f), rTb_c NQ (n2 (by omega)).1.2.2.1 C1 p109⟩, rTq_c NQ (n2 (by omega)).1.2.2.1 C1 p109 (by rw [p107, G1 26 (by decide)]) p110 (G1 27 (by decide))⟩, by rw [qm105.2.1 37 rfl, em100, zu_at, hx99]; exact NQ.1.2.2.2.2.2, PC, UQ, rWf_mk p112 Q9 PC UQ p106 I9, rGd_mk Q9 PC p106 I9, MV.1.2.trans MV.1.1.symm⟩); (exfalso; have h1 := h0.1; omega)))))
          · refine ⟨zk_X9_chainAgain, zm_X9_chainAgain hg d (by omega), _, _, rfl, ⟨by omega, by omega⟩, ⟨by omega, by omega⟩, (by omega), (fun x a b => zNd_same (fun j c d => C1 j (by omega)) (i2.1.2.1 x a (by omega))), ?_⟩
            intro m115 qm115 p116 p117
            have z118 := zfx_t z101 qm115 rfl rfl
            have on119 := zOn_fr on102 (qm115.1 3000075 (by decide) rfl) (qm115.1 3000081 (by decide) rfl) (qm115.1 82 (by decide) rfl)
            have w8120 : m115.1 86 = μ.1 86 ∧ m115.1 87 = μ.1 87 := ⟨(qm115.1 86 (by decide) rfl).trans w8103.1, (qm115.1 87 (by decide) rfl).trans w8103.2⟩
            intro x121 hx121 kx121 lx121
            exact And.intro trivial (And.intro ⟨by omega, by omega⟩ (hQ _ _ z118 (by omega) (by omega) (zRI_ot hp0 p116 (by rw [p117]; exact i0) (zOld_t i2.2 (zOld_same (fun j a b => by rw [qm115.1 j (by omega) (zanyF (by simp <;> omega)), C1 j (by omega)])) (Int.le_refl _)) (zOt_fr i3 (by rw [qm115.1 76 (by decide) rfl, C1 76 (by decide)]) (by rw [qm115.1 77 (by decide) rfl, C1 77 (by decide)]) (by rw [qm115.1 78 (by decide) rfl, C1 78 (by decide)]) (by rw [qm115.1 79 (by decide) rfl, C1 79 (by decide)]) (by rw [qm115.1 80 (by decide) rfl, C1 80 (by decide)]) (by rw [qm115.1 83 (by decide) rfl, C1 83 (by decide)]) (by rw [qm115.1 84 (by decide) rfl, C1 84 (by decide)])) (fun j a b => z118.1 j (by omega) (zanyF (by simp <;> omega))) (by rw [qm115.1 105 (by decide) rfl, C1 105 (by decide)]; exact i6.1) (fun k hk => by rcases hk with h | h | h | h | h | h <;> subst h <;> exact (qm115.2.1 _ rfl).trans ((G1 _ (by decide)).trans (i6.2 _ (by decide)))) (by rw [qm115.2.1 60 rfl, G1 60 (by decide)]; omega) (by rw [qm115.2.1 60 rfl, G1 60 (by decide), qm115.1 98 (by decide) rfl, C1 98 (by decide)]; exact i5) (by omega) (by omega)) (by rw [qm115.2.1 29 rfl, G1 29 (by decide)]; exact i7) (Or.inr (by rcases i8 with h0 | h0; (exfalso; have h1 := h0.1; omega); (obtain ⟨pp, xx, BB, r1, r2, r3⟩ := h0.2; exact ⟨pp, xx, BB, r1, by have h1 : x121 = pp := (by rw [hx121, qm115.2.1 36 rfl, G1 36 (by decide)]; exact r3); omega, ⟨rKp_mk (qm115.2.1 20 rfl |>.trans ((G1 20 (by decide)).trans (i6.2 20 (by decide)))) (zOt_fr i3 (by rw [qm115.1 76 (by decide) rfl, C1 76 (by decide)]) (by rw [qm115.1 77 (by decide) rfl, C1 77 (by decide)]) (by rw [qm115.1 78 (by decide) rfl, C1 78 (by decide)]) (by rw [qm115.1 79 (by decide) rfl, C1 79 (by decide)]) (by rw [qm115.1 80 (by decide) rfl, C1 80 (by decide)]) (by rw [qm115.1 83 (by decide) rfl, C1 83 (by decide)]) (by rw [qm115.1 84 (by decide) rfl, C1 84 (by decide)])) on119, qm115.2.1 21 rfl |>.trans ((G1 21 (by decide)).trans (i6.2 21 (by decide))), on119.2.1⟩, by rw [qm115.2.1 37 rfl, em100, zu_at, hx99]; exact r2, w8120, ⟨(zOt_fr i3 (by rw [qm115.1 76 (by decide) rfl, C1 76 (by decide)]) (by rw [qm115.1 77 (by decide) rfl, C1 77 (by decide)]) (by rw [qm115.1 78 (by decide) rfl, C1 78 (by decide)]) (by rw [qm115.1 79 (by decide) rfl, C1 79 (by decide)]) (by rw [qm115.1 80 (by decide) rfl, C1 80 (by decide)]) (by rw [qm115.1 83 (by decide) rfl, C1 83 (by decide)]) (by rw [qm115.1 84 (by decide) rfl, C1 84 (by decide)])), (zOld_t i2.2 (zOld_same (fun j a b => by rw [qm115.1 j (by omega) (zanyF (by simp <;> omega)), C1 j (by omega)])) (Int.le_refl _)), (qm115.2.1 23 rfl |>.trans ((G1 23 (by decide)).trans (i6.2 23 (by decide))))⟩⟩)))))
        · have N2 := n2 (by omega)
          have N21 := N2.1
          have R60 := hp0.1.2.2.2
          have Z00 : 0 ≤ zrm m0 := zrm_0 (by have := i1; omega)
          obtain ⟨pq, Bq, RC, LQ, NQ, AQ, TQ⟩ : ∃ pq Bq, ((v3 = 1 ∧ yR ((μ.1 85, μ.1 66 ((29 : Nat) : Int)) : yT) (0, 0, 0, [], yB0) (0, pq, 0, [], Bq)) ∨ (v3 = 0 ∧ yR ((μ.1 85, μ.1 66 ((29 : Nat) : Int)) : yT) (0, 0, 0, [], yB0) (9, pq, 0, [], Bq))) ∧ rLx m0 ((μ.1 85, μ.1 66 ((29 : Nat) : Int)) : yT) pq ∧ rNu m0 Bq ∧ rAb m0 Bq (Bq.1 0 0) (zTop μ) ∧ rTd m0 Bq := by rcases i8 with h0 | h0; exact h0.2; (exfalso; have h1 := h0.1; omega)
          have R0 : yR ((μ.1 85, μ.1 66 ((29 : Nat) : Int)) : yT) (0, 0, 0, [], yB0) (0, pq, 0, [], Bq) := by rcases RC with h0 | h0; exact h0.2; exact yR_s h0.2 (ym9_b (fun h1 => by have h2 := (rKd_w (rkd LQ hx97.symm)).2.mpr h1; omega))
          have NN : Bq.1 0 0 = n := NQ.1.2.2.1.symm.trans N2.1.2.2.1
          rw [NN] at AQ
          refine ⟨yk_X9_readDecl, ym_X9_readDecl hg d (by omega), _, _, _, _, _, rfl, i1, N2, (by omega), LQ, NQ, (yInv_R yInv_00 R0), AQ, TQ, ?_⟩
          intro x122 m123 qm123 kx122 lx122 p124 p125 p126 p127 p128 p129 p130 p131 p132
          have z133 := zfx_t z0 qm123 rfl rfl
          have on134 := zOn_t i9 p132
          have w8135 : m123.1 86 = μ.1 86 ∧ m123.1 87 = μ.1 87 := ⟨(qm123.1 86 (by decide) rfl).trans i10.1, (qm123.1 87 (by decide) rfl).trans i10.2⟩
          have ZZ : 0 ≤ zrm m123 := zrm_0 (by have := p124; omega)
          refine Exists.intro ((if x122 = 0 then 0 else Int.toNat (zrm m123 + 1))) (And.intro (by rw [if_neg (show ¬ v2 = 0 by omega)]; split; omega; (have h1 := (p129 (by omega)).2; omega)) ?_)
          exact ⟨(fun h => absurd h (by decide)), (fun _ => ⟨_, _, _, rfl, z133, ⟨by omega, by omega⟩, ⟨by omega, by omega⟩, ⟨by omega, by omega⟩, (by omega), p124, ⟨p126.1, zOld_t i2.2 p126.2.1 i2.1.1.2⟩, (zOt_t i3 p130), ⟨n + 1, ⟨by omega, by omega⟩, fun h => (p129 h).1, by have h1 := p127; omega⟩, p128, ⟨by rw [qm123.1 105 (by decide) rfl]; exact i6.1, fun k hk => by rcases hk with h | h | h | h | h | h <;> subst h <;> exact (qm123.2.1 _ rfl).trans (i6.2 _ (by decide))⟩, (by rw [qm123.2.1 29 rfl]; exact i7), (by rcases p131 with h0 | h0; exact Or.inr ⟨h0.1, rFa_t R0 h0.2⟩; (obtain ⟨h1, p8, B8, R8, L8, N8, A8, T8⟩ := h0; exact Or.inl ⟨h1, p8, B8, Or.inr ⟨rfl, yR_t R0 R8⟩, L8, N8, by rw [N8.1.2.2.1.symm.trans (p129 h1).1.1.2.2.1]; exact A8, T8⟩)), on134, w8135, rfl⟩)⟩
