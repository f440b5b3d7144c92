def rTb (μ : zM) (B : yB) : Prop := rSg μ B ∧ ∀ k : Int, 0 ≤ k → k < B.1 0 0 → μ.1 3000075 k = B.1 1 k ∧ μ.1 76 k = B.1 2 k ∧ μ.1 77 k = B.1 3 k ∧ μ.1 79 k = B.1 4 k
def rKp (μ μ' : zM) : Prop := μ'.1 66 ((20 : Nat) : Int) = μ.1 66 ((20 : Nat) : Int) ∧ (∀ q : Int, q < 441 → μ'.1 80 q = μ.1 80 q) ∧ ∀ q : Int, q < 21 → μ'.1 3000075 q = μ.1 3000075 q ∧ μ'.1 76 q = μ.1 76 q ∧ μ'.1 77 q = μ.1 77 q ∧ μ'.1 79 q = μ.1 79 q
theorem rKp_mk {μ m : zM} (h20 : m.1 66 ((20 : Nat) : Int) = μ.1 66 ((20 : Nat) : Int)) (hO : zOt μ m) (hN : zOn μ m) : rKp μ m := ⟨h20, rOt80 hO, fun q hq => ⟨hN.1 q hq, hO.1 q hq⟩⟩
theorem rTb_c {m0 m m1 : zM} {B : yB} {n : Int} (hN : rNu m0 B) (hn : m0.1 66 ((26 : Nat) : Int) = n) (c : ∀ j : Nat, j ≠ 66 → m.1 j = m0.1 j) (h : (∀ c : Int, 0 ≤ c → c < n → m1.1 76 c = m.1 76 (21 + c) ∧ m1.1 77 c = m.1 77 (21 + c) ∧ m1.1 79 c = m.1 79 (21 + c)) ∧ rNm m m1 n ∧ rPm m m1 (m.1 66 ((27 : Nat) : Int))) : ∀ k : Int, 0 ≤ k → k < B.1 0 0 → m1.1 3000075 k = B.1 1 k ∧ m1.1 76 k = B.1 2 k ∧ m1.1 77 k = B.1 3 k ∧ m1.1 79 k = B.1 4 k := fun k a b => by
  have e := hN.1.2.2.1
  have q := hN.2.1 k a b
  have r := h.1 k a (by omega)
  have s := h.2.1.1 k a (by omega)
  rw [c 76 (by decide), c 77 (by decide), c 79 (by decide)] at r
  rw [c 3000075 (by decide)] at s
  exact ⟨s.trans q.1, r.1.trans q.2.1, r.2.1.trans q.2.2.1, r.2.2.trans q.2.2.2⟩
/-- the table between calls, its numbers -/
def rTq (μ : zM) (B : yB) : Prop := (μ.1 66 ((20 : Nat) : Int) = B.1 0 0 ∧ μ.1 66 ((21 : Nat) : Int) = B.1 0 1) ∧ (∀ k : Int, 0 ≤ k → k < B.1 0 0 → μ.1 3000075 k = B.1 1 k ∧ μ.1 76 k = B.1 2 k ∧ μ.1 77 k = B.1 3 k ∧ μ.1 79 k = B.1 4 k) ∧ ∀ p : Int, 0 ≤ p → p < B.1 0 1 → μ.1 3000081 p = B.1 5 p
theorem rTq_c {m0 m m1 : zM} {B : yB} {n : Int} (hN : rNu m0 B) (hn : m0.1 66 ((26 : Nat) : Int) = n) (c : ∀ j : Nat, j ≠ 66 → m.1 j = m0.1 j) (h : (∀ c : Int, 0 ≤ c → c < n → m1.1 76 c = m.1 76 (21 + c) ∧ m1.1 77 c = m.1 77 (21 + c) ∧ m1.1 79 c = m.1 79 (21 + c)) ∧ rNm m m1 n ∧ rPm m m1 (m.1 66 ((27 : Nat) : Int))) (h20 : m1.1 66 ((20 : Nat) : Int) = m0.1 66 ((26 : Nat) : Int)) (h21 : m1.1 66 ((21 : Nat) : Int) = m.1 66 ((27 : Nat) : Int)) (h27 : m.1 66 ((27 : Nat) : Int) = m0.1 66 ((27 : Nat) : Int)) : rTq m1 B := by
  refine ⟨⟨h20.trans hN.1.2.2.1, (h21.trans h27).trans hN.1.2.2.2.1⟩, rTb_c hN hn c h, fun p a b => ?_⟩
  have s := h.2.2.1 p a (by rw [h27, hN.1.2.2.2.1]; exact b)
  rw [s.1, c 3000081 (by decide)]
  exact (hN.2.2 p a b).1
def yk_X9_read : zC := fun As μ Q => ∃ (K : Int), As = [.inr (.inr (66, 66))] ∧ (zRI μ K) ∧ (K + 1010000 ≤ 1999990000) ∧ (∀ (v : Int) (μ' : zM), zfx [67, 68, 69, 70, 71, 72, 73, 74, 76, 77, 78, 79, 80, 82, 83, 84, 86, 87, 97, 98, 99, 100, 101, 102, 103, 104, 105, 106, 3000075, 3000081] [7, 8, 20, 21, 22, 23, 24, 25, 26, 27, 29, 30, 31, 32, 33, 34, 35, 36, 37, 38, 41, 45, 46, 47, 48, 54, 60, 68] μ μ' → (-2147483648) ≤ v → v ≤ 2147483647 → (zRI μ' (K + 1000000)) → (μ'.1 66 ((29 : Nat) : Int) = 0) → ((∃ p B, yR ((μ.1 85, μ.1 66 ((29 : Nat) : Int)) : yT) (0, 0, 0, [], yB0) (21, p, 0, [], B) ∧ v = B.1 0 0 ∧ (rTb μ' B ∧ rTq μ' B) ∧ μ'.1 66 ((37 : Nat) : Int) = 0) ∨ (∃ p x B, yR ((μ.1 85, μ.1 66 ((29 : Nat) : Int)) : yT) (0, 0, 0, [], yB0) (20, p, x, [], B) ∧ v = -10 - p ∧ (rKp μ μ' ∧ μ'.1 66 ((21 : Nat) : Int) = μ.1 66 ((21 : Nat) : Int) ∧ ∀ q : Int, q < 80 → μ'.1 3000081 q = μ.1 3000081 q) ∧ μ'.1 66 ((37 : Nat) : Int) = x)) → Q (some (.inl v)) μ')
set_option maxHeartbeats 4000000 in
theorem ym_X9_read {g : zΓ} (hg : zg g) (d : Nat) (hd : 8 ≤ d) : zOk g d 149 yk_X9_read := by
  obtain ⟨d, rfl⟩ : ∃ d', d = d' + 1 := ⟨d - 1, by omega⟩
  refine zOk_loop hg (show mt_tab[149]? = some mt_X9_read from rfl) ([(72, [0, 1, 2]), (118, [0, 1, 2, 3])], []) 109 rfl fun As μ Q hC => ?_
  obtain ⟨K, rfl, hp0, hp1, hQ⟩ := hC
  have z0 : zfx [67, 68, 69, 70, 71, 72, 73, 74, 76, 77, 78, 79, 80, 82, 83, 84, 86, 87, 97, 98, 99, 100, 101, 102, 103, 104, 105, 106, 3000075, 3000081] [7, 8, 20, 21, 22, 23, 24, 25, 26, 27, 29, 30, 31, 32, 33, 34, 35, 36, 37, 38, 41, 45, 46, 47, 48, 54, 60, 68] μ μ := zfx_x μ
  refine ⟨rfl, fun pc vs μ' n => (pc = 72 → ∃ (v1 : Int) (v2 : Int), vs = [.inr (.inr (66, 66)), .inl v1, .inl v2] ∧ zfx [67, 68, 69, 70, 71, 72, 73, 74, 76, 77, 78, 79, 80, 82, 83, 84, 86, 87, 97, 98, 99, 100, 101, 102, 103, 104, 105, 106, 3000075, 3000081] [7, 8, 20, 21, 22, 23, 24, 25, 26, 27, 29, 30, 31, 32, 33, 34, 35, 36, 37, 38, 41, 45, 46, 47, 48, 54, 60, 68] μ μ' ∧ (0 ≤ v1 ∧ v1 ≤ 20000) ∧ (0 ≤ v2 ∧ v2 ≤ 21) ∧ (v1 = zTop μ) ∧ (zRr μ μ' v2) ∧ (μ'.1 3000075 21 = 4288121) ∧ (zOn μ μ') ∧ n = (Int.toNat (2147483648 - v2 + 4294967296))) ∧ (pc = 118 → ∃ (v1 : Int) (v2 : Int) (v3 : Int), vs = [.inr (.inr (66, 66)), .inl v1, .inl v2, .inl v3] ∧ zfx [67, 68, 69, 70, 71, 72, 73, 74, 76, 77, 78, 79, 80, 82, 83, 84, 86, 87, 97, 98, 99, 100, 101, 102, 103, 104, 105, 106, 3000075, 3000081] [7, 8, 20, 21, 22, 23, 24, 25, 26, 27, 29, 30, 31, 32, 33, 34, 35, 36, 37, 38, 41, 45, 46, 47, 48, 54, 60, 68] μ μ' ∧ (0 ≤ v1 ∧ v1 ≤ 20000) ∧ (0 ≤ v2 ∧ v2 ≤ 1) ∧ (0 ≤ v3 ∧ v3 ≤ 1) ∧ (v1 = zTop μ) ∧ (0 ≤ μ'.1 66 ((33 : Nat) : Int) ∧ 0 ≤ μ'.1 66 ((34 : Nat) : Int) ∧ μ'.1 66 ((33 : Nat) : Int) + μ'.1 66 ((34 : Nat) : Int) ≤ μ'.1 66 ((31 : Nat) : Int) ∧ μ'.1 66 ((31 : Nat) : Int) ≤ μ'.1 66 ((30 : Nat) : Int) ∧ μ'.1 66 ((30 : Nat) : Int) ≤ 800) ∧ (zND μ' (zTop μ) ∧ zOld μ μ' (zTop μ)) ∧ (zOt μ μ') ∧ (∃ n : Int, (1 ≤ n ∧ n ≤ 22) ∧ (v2 = 1 → zDS μ' (zTop μ) n) ∧ μ.1 66 ((60 : Nat) : Int) ≤ μ'.1 66 ((60 : Nat) : Int) ∧ μ'.1 66 ((60 : Nat) : Int) ≤ μ.1 66 ((60 : Nat) : Int) + 200 * n) ∧ (∀ x : Int, 0 ≤ x → x < 20000 → μ'.1 98 x ≤ μ'.1 66 ((60 : Nat) : Int)) ∧ (μ'.1 105 = μ.1 105 ∧ ∀ k : Nat, k = 20 ∨ k = 21 ∨ k = 23 ∨ k = 45 ∨ k = 48 ∨ k = 68 → μ'.1 66 ((k : Nat) : Int) = μ.1 66 ((k : Nat) : Int)) ∧ (μ'.1 66 ((29 : Nat) : Int) = 0) ∧ ((v2 = 1 ∧ ∃ pq Bq, ((v3 = 1 ∧ yR ((μ.1 85, μ.1 66 ((29 : Nat) : Int)) : yT) (0, 0, 0, [], yB0) (0, pq, 0, [], Bq)) ∨ (v3 = 0 ∧ yR ((μ.1 85, μ.1 66 ((29 : Nat) : Int)) : yT) (0, 0, 0, [], yB0) (9, pq, 0, [], Bq))) ∧ rLx μ' ((μ.1 85, μ.1 66 ((29 : Nat) : Int)) : yT) pq ∧ rNu μ' Bq ∧ rAb μ' Bq (Bq.1 0 0) (zTop μ)) ∨ (v2 = 0 ∧ rFa ((μ.1 85, μ.1 66 ((29 : Nat) : Int)) : yT) (0, 0, 0, [], yB0) μ')) ∧ (zOn μ μ') ∧ n = ((if v2 = 0 then 0 else Int.toNat (zrm μ' + 1)))), ?_, ?_, ?_, trivial⟩
  · refine And.intro ⟨by omega, by omega⟩ ?_
    intro m1 em1
    have z2 := zfx_f z0 em1 rfl
    have on3 := zOn_w (zOn_r μ) em1 ⟨fun h => absurd h (by decide), fun h => absurd h (by decide), fun h => absurd h (by decide)⟩
    intro x4 hx4 kx4 lx4
    have HV : x4 = zTop μ := by rw [hx4, em1, zu_nk (by decide)]; rfl
    refine And.intro ⟨by omega, by omega⟩ ?_
    intro m5 em5
    have z6 := zfx_f z2 em5 rfl
    have on7 := zOn_w on3 em5 ⟨fun h => absurd h (by decide), fun h => absurd h (by decide), fun h => absurd h (by decide)⟩
    refine And.intro ⟨by omega, by omega⟩ ?_
    intro m8 em8
    have z9 := zfx_f z6 em8 rfl
    have on10 := zOn_w on7 em8 ⟨fun h => absurd h (by decide), fun h => absurd h (by decide), fun h => absurd h (by decide)⟩
    refine And.intro ⟨by omega, by omega⟩ ?_
    intro m11 em11
    have z12 := zfx_f z9 em11 rfl
    have on13 := zOn_w on10 em11 ⟨fun h => absurd h (by decide), fun h => absurd h (by decide), fun h => absurd h (by decide)⟩
    refine And.intro ⟨by omega, by omega⟩ ?_
    intro m14 em14
    have z15 := zfx_f z12 em14 rfl
    have on16 := zOn_w on13 em14 ⟨fun h => absurd h (by decide), fun h => absurd h (by decide), fun h => absurd h (by decide)⟩
    refine And.intro ⟨by omega, by omega⟩ ?_
    intro m17 em17
    have z18 := zfx_r z15 em17 rfl (by decide)
    have on19 := zOn_w on16 em17 ⟨fun _ => by omega, fun h => absurd h (by decide), fun h => absurd h (by decide)⟩
    refine And.intro ⟨by omega, by omega⟩ (And.intro ⟨by omega, by omega⟩ ?_)
    intro m20 em20
    have z21 := zfx_r z18 em20 rfl (by decide)
    have on22 := zOn_w on19 em20 ⟨fun h => absurd h (by decide), fun h => absurd h (by decide), fun h => absurd h (by decide)⟩
    refine And.intro ⟨by omega, by omega⟩ (And.intro ⟨by omega, by omega⟩ ?_)
    intro m23 em23
    have z24 := zfx_r z21 em23 rfl (by decide)
    have on25 := zOn_w on22 em23 ⟨fun h => absurd h (by decide), fun h => absurd h (by decide), fun h => absurd h (by decide)⟩
    refine And.intro ⟨by omega, by omega⟩ (And.intro ⟨by omega, by omega⟩ ?_)
    intro m26 em26
    have z27 := zfx_r z24 em26 rfl (by decide)
    have on28 := zOn_w on25 em26 ⟨fun h => absurd h (by decide), fun h => absurd h (by decide), fun h => absurd h (by decide)⟩
    refine ⟨zk_X9_clearHeads, zm_X9_clearHeads hg d (by omega), rfl, ?_⟩
    intro m29 qm29 p30
    have z31 := zfx_t z27 qm29 rfl rfl
    have on32 := zOn_fr on28 (qm29.1 3000075 (by decide) rfl) (qm29.1 3000081 (by decide) rfl) (qm29.1 82 (by decide) rfl)
    have Z0 := zRr_0 em1 em5 em8 em11 em14 em17 em20 em23 em26 (fun j a b => qm29.1 j a (zanyF (fun r hr => by rw [List.mem_singleton] at hr; rw [hr]; exact b))) (fun k => qm29.2.1 k rfl) p30
    have H75 : m29.1 3000075 21 = 4288121 := by rw [qm29.1 3000075 (by decide) rfl, em26, zu_ne (by decide), em23, zu_ne (by decide), em20, zu_ne (by decide), em17, zu_at]; rfl
    refine Exists.intro (Int.toNat (2147483648 - 0 + 4294967296)) ?_
    exact ⟨(fun _ => ⟨_, _, rfl, z31, ⟨by omega, by omega⟩, ⟨by omega, by omega⟩, (by omega), Z0, H75, on32, rfl⟩), (fun h => absurd h (by decide))⟩
  · intro vs m0 n hI
    replace hI := hI.1 rfl
    clear z0
    obtain ⟨v1, v2, rfl, z0, hv1, hv2, i0, i1, i2, i3, rfl⟩ := hI
    refine And.intro ⟨⟨by omega, by omega⟩, ⟨by omega, by omega⟩⟩ (And.intro (fun c33 => ?_) (fun c33 => ?_))
    · have ZR : zRr μ m0 21 := by have h := i1; rw [show v2 = 21 by omega] at h; exact h
      have T0 : zTop m0 = zTop μ := ZR.2.1 8 (by decide) (by decide) (by decide) (by decide) (by decide)
      refine ⟨zk_X9_make, zm_X9_make hg d (by omega), _, _, _, _, rfl, ⟨by omega, by omega⟩, ⟨by omega, by omega⟩, ⟨by omega, by omega⟩, (show zND m0 (zTop μ) from zND_t.2 (by rw [T0]; exact zNDt_0 (by have := hp0.1.1.1.1; omega) (fun x a b => zNd_same (fun j c d => ZR.1 j (by omega) (by omega) (by omega) (by omega) (by omega) (by omega) (by omega)) (hp0.1.1.1.2.1 x a b)) ZR.2.2.2.2.1)), (show zTop m0 ≤ 19999 by have := zQS_top hp0.1; omega), ⟨fun _ => by omega, fun h => absurd h (by decide)⟩, (fun i a b => by omega), ?_⟩
      intro x34 m35 qm35 kx34 lx34 p36 p37 p38 p39
      have z40 := zfx_t z0 qm35 rfl rfl
      have on41 := zOn_fr i3 (qm35.1 3000075 (by decide) rfl) (qm35.1 3000081 (by decide) rfl) (qm35.1 82 (by decide) rfl)
      refine And.intro ⟨by omega, by omega⟩ (And.intro ⟨by omega, by omega⟩ ?_)
      intro m42 em42
      have z43 := zfx_r z40 em42 rfl (by decide)
      have on44 := zOn_w on41 em42 ⟨fun h => absurd h (by decide), fun h => absurd h (by decide), fun h => absurd h (by decide)⟩
      refine ⟨yk_X9_begin, ym_X9_begin hg d (by omega), rfl, ?_⟩
      intro m45 qm45 p46 p47 p48
      have z49 := zfx_t z43 qm45 rfl rfl
      have on50 := zOn_fr on44 (qm45.1 3000075 (by decide) rfl) (qm45.1 3000081 (by decide) rfl) (qm45.1 82 (by decide) rfl)
      have DS := zDS_0 hp0 ZR (zMd_of p36 p37 p38 p39) (fun j a => qm35.1 j (by omega) (zanyF (by simp <;> omega))) (fun k hk => qm35.2.1 k (zanyF (fun r hr => by rw [List.mem_singleton] at hr; rw [hr]; exact hk))) em42 rfl (fun j hj => qm45.1 j hj rfl) (fun k hk => by rcases hk with h | h | h | h | h | h <;> subst h <;> exact qm45.2.1 _ rfl) p47.1
      have CF : ∀ k : Nat, k = 20 ∨ k = 21 ∨ k = 23 ∨ k = 45 ∨ k = 48 ∨ k = 60 ∨ k = 68 → m45.1 66 ((k : Nat) : Int) = μ.1 66 ((k : Nat) : Int) := fun k hk => by rcases hk with h | h | h | h | h | h | h <;> subst h <;> exact (qm45.2.1 _ rfl).trans (by rw [em42, zu_ne (by decide), qm35.2.1 _ rfl]; exact ZR.2.1 _ (by decide) (by decide) (by decide) (by decide) (by decide))
      have C105 : m45.1 105 = μ.1 105 := by rw [qm45.1 105 (by decide) rfl, em42, zu_ne (by decide), qm35.1 105 (by decide) rfl]; exact ZR.1 105 (by decide) (by decide) (by decide) (by decide) (by decide) (by decide) (by decide)
      have M85 : m42.1 85 = μ.1 85 := by rw [em42, zu_ne (by decide), qm35.1 85 (by decide) rfl]; exact ZR.1 85 (by decide) (by decide) (by decide) (by decide) (by decide) (by decide) (by decide)
      have M29 : m42.1 66 ((29 : Nat) : Int) = μ.1 66 ((29 : Nat) : Int) := by rw [em42, zu_ne (by decide), qm35.2.1 29 rfl]; exact ZR.2.1 29 (by decide) (by decide) (by decide) (by decide) (by decide)
      have LB := p48.1
      rw [M85, M29] at LB
      have RB := rRd_0 DS.1 p47.1 p48.2 (by rw [qm45.1 3000075 (by decide) rfl, em42, zu_ne (by decide), qm35.1 3000075 (by decide) rfl]; exact i2)
      refine Exists.intro ((if 1 = 0 then 0 else Int.toNat (zrm m45 + 1))) (And.intro (by rw [if_neg (by decide)]; have h1 := zrm_b p46; omega) ?_)
      exact ⟨(fun h => absurd h (by decide)), (fun _ => ⟨_, _, _, rfl, z49, ⟨by omega, by omega⟩, ⟨by omega, by omega⟩, ⟨by omega, by omega⟩, (by omega), p46, ⟨DS.1.2.1.1, DS.2.1⟩, DS.2.2, ⟨1, ⟨by omega, by omega⟩, fun _ => DS.1, by rw [CF 60 (by decide)]; omega⟩, DS.1.2.2.2.2.2.1, ⟨C105, fun k hk => CF k (by omega)⟩, p47.2, (Or.inl ⟨rfl, 0, yB0, Or.inl ⟨rfl, yR_r _ _⟩, LB, RB.1, RB.2⟩), on50, rfl⟩)⟩
    · refine And.intro ⟨by omega, by omega⟩ (And.intro ⟨by omega, by omega⟩ ?_)
      intro m51 em51
      have z52 := zfx_r z0 em51 rfl (by decide)
      have on53 := zOn_w i3 em51 ⟨fun h => absurd h (by decide), fun h => absurd h (by decide), fun h => absurd h (by decide)⟩
      refine Exists.intro (Int.toNat (2147483648 - (v2 + 1) + 4294967296)) (And.intro (by omega) ?_)
      exact ⟨(fun _ => ⟨_, _, rfl, z52, ⟨by omega, by omega⟩, ⟨by omega, by omega⟩, (by omega), (zRr_s i1 (by omega) em51 (by omega)), (by rw [em51, zu_ne (by decide)]; exact i2), on53, rfl⟩), (fun h => absurd h (by decide))⟩
  · intro vs m0 n hI
    replace hI := hI.2 rfl
    clear z0
    obtain ⟨v1, v2, v3, rfl, z0, hv1, hv2, hv3, i0, i1, i2, i3, i4, i5, i6, i7, i8, i9, rfl⟩ := hI
    obtain ⟨n, n1, n2, n3⟩ := i4
    refine And.intro ⟨by omega, by omega⟩ (And.intro (fun c54 => ?_) (fun c54 => ?_))
    · intro x55 hx55 kx55 lx55
      refine And.intro ⟨by omega, by omega⟩ ?_
      intro m56 em56
      have z57 := zfx_f z0 em56 rfl
      have on58 := zOn_w i9 em56 ⟨fun h => absurd h (by decide), fun h => absurd h (by decide), fun h => absurd h (by decide)⟩
      have C1 : ∀ j : Nat, j ≠ 66 → m56.1 j = m0.1 j := fun j hj => by rw [em56, zu_ne hj]
      have G1 : ∀ k : Nat, k ≠ 37 → m56.1 66 ((k : Nat) : Int) = m0.1 66 ((k : Nat) : Int) := fun k hk => by rw [em56, zu_nk (by omega)]
      have R60 := hp0.1.2.2.2
      have R68 := hp0.2.2
      have TMX := zQS_top hp0.1
      have TL := i2.1.1
      have V1 : 1 ≤ v1 := by have h1 := hp0.1.1.2.1.1; have h2 := hp0.1.1.2.2.1; omega
      refine And.intro ⟨by omega, by omega⟩ (And.intro (fun c59 => ?_) (fun c59 => ?_))
      · exfalso; omega
      · refine ⟨zk_X9_chainAgain, zm_X9_chainAgain hg d (by omega), _, _, rfl, ⟨by omega, by omega⟩, ⟨by omega, by omega⟩, (by omega), (fun x a b => zNd_same (fun j c d => C1 j (by omega)) (i2.1.2.1 x a (by omega))), ?_⟩
        intro m60 qm60 p61 p62
        have z63 := zfx_t z57 qm60 rfl rfl
        have on64 := zOn_fr on58 (qm60.1 3000075 (by decide) rfl) (qm60.1 3000081 (by decide) rfl) (qm60.1 82 (by decide) rfl)
        intro x65 hx65 kx65 lx65
        exact And.intro trivial (And.intro ⟨by omega, by omega⟩ (hQ _ _ z63 (by omega) (by omega) (zRI_ot hp0 p61 (by rw [p62]; exact i0) (zOld_t i2.2 (zOld_same (fun j a b => by rw [qm60.1 j (by omega) (zanyF (by simp <;> omega)), C1 j (by omega)])) (Int.le_refl _)) (zOt_fr i3 (by rw [qm60.1 76 (by decide) rfl, C1 76 (by decide)]) (by rw [qm60.1 77 (by decide) rfl, C1 77 (by decide)]) (by rw [qm60.1 78 (by decide) rfl, C1 78 (by decide)]) (by rw [qm60.1 79 (by decide) rfl, C1 79 (by decide)]) (by rw [qm60.1 80 (by decide) rfl, C1 80 (by decide)]) (by rw [qm60.1 83 (by decide) rfl, C1 83 (by decide)]) (by rw [qm60.1 84 (by decide) rfl, C1 84 (by decide)])) (fun j a b => z63.1 j (by omega) (zanyF (by simp <;> omega))) (by rw [qm60.1 105 (by decide) rfl, C1 105 (by decide)]; exact i6.1) (fun k hk => by rcases hk with h | h | h | h | h | h <;> subst h <;> exact (qm60.2.1 _ rfl).trans ((G1 _ (by decide)).trans (i6.2 _ (by decide)))) (by rw [qm60.2.1 60 rfl, G1 60 (by decide)]; omega) (by rw [qm60.2.1 60 rfl, G1 60 (by decide), qm60.1 98 (by decide) rfl, C1 98 (by decide)]; exact i5) (by omega) (by omega)) (by rw [qm60.2.1 29 rfl, G1 29 (by decide)]; exact i7) (Or.inr (by rcases i8 with h0 | h0; (exfalso; have h1 := h0.1; omega); (obtain ⟨pp, xx, BB, r1, r2, r3⟩ := h0.2; exact ⟨pp, xx, BB, r1, by have h1 : x65 = pp := (by rw [hx65, qm60.2.1 36 rfl, G1 36 (by decide)]; exact r3); omega, ⟨rKp_mk (qm60.2.1 20 rfl |>.trans ((G1 20 (by decide)).trans (i6.2 20 (by decide)))) (zOt_fr i3 (by rw [qm60.1 76 (by decide) rfl, C1 76 (by decide)]) (by rw [qm60.1 77 (by decide) rfl, C1 77 (by decide)]) (by rw [qm60.1 78 (by decide) rfl, C1 78 (by decide)]) (by rw [qm60.1 79 (by decide) rfl, C1 79 (by decide)]) (by rw [qm60.1 80 (by decide) rfl, C1 80 (by decide)]) (by rw [qm60.1 83 (by decide) rfl, C1 83 (by decide)]) (by rw [qm60.1 84 (by decide) rfl, C1 84 (by decide)])) on64, qm60.2.1 21 rfl |>.trans ((G1 21 (by decide)).trans (i6.2 21 (by decide))), on64.2.1⟩, by rw [qm60.2.1 37 rfl, em56, zu_at, hx55]; exact r2⟩)))))
    · refine And.intro ⟨by omega, by omega⟩ (And.intro (fun c66 => ?_) (fun c66 => ?_))
      · have N2 := n2 (by omega)
        have N21 := N2.1
        have R60 := hp0.1.2.2.2
        have Z00 : 0 ≤ zrm m0 := zrm_0 (by have := i1; omega)
        obtain ⟨pq, Bq, RC, LQ, NQ, AQ⟩ : ∃ pq Bq, ((v3 = 1 ∧ yR ((μ.1 85, μ.1 66 ((29 : Nat) : Int)) : yT) (0, 0, 0, [], yB0) (0, pq, 0, [], Bq)) ∨ (v3 = 0 ∧ yR ((μ.1 85, μ.1 66 ((29 : Nat) : Int)) : yT) (0, 0, 0, [], yB0) (9, pq, 0, [], Bq))) ∧ rLx m0 ((μ.1 85, μ.1 66 ((29 : Nat) : Int)) : yT) pq ∧ rNu m0 Bq ∧ rAb m0 Bq (Bq.1 0 0) (zTop μ) := by rcases i8 with h0 | h0; exact h0.2; (exfalso; have h1 := h0.1; omega)
        have R0 : yR ((μ.1 85, μ.1 66 ((29 : Nat) : Int)) : yT) (0, 0, 0, [], yB0) (0, pq, 0, [], Bq) := by rcases RC with h0 | h0; exact h0.2; (exfalso; have h1 := h0.1; omega)
        have NN : Bq.1 0 0 = n := NQ.1.2.2.1.symm.trans N2.1.2.2.1
        rw [NN] at AQ
        refine ⟨yk_X9_readDecl, ym_X9_readDecl hg d (by omega), _, _, _, _, _, rfl, i1, N2, (by omega), LQ, NQ, (yInv_R yInv_00 R0), AQ, ?_⟩
        intro x67 m68 qm68 kx67 lx67 p69 p70 p71 p72 p73 p74 p75 p76 p77
        have z78 := zfx_t z0 qm68 rfl rfl
        have on79 := zOn_t i9 p77
        have ZZ : 0 ≤ zrm m68 := zrm_0 (by have := p69; omega)
        refine Exists.intro ((if x67 = 0 then 0 else Int.toNat (zrm m68 + 1))) (And.intro (by rw [if_neg (show ¬ v2 = 0 by omega)]; split; omega; (have h1 := (p74 (by omega)).2; omega)) ?_)
        exact ⟨(fun h => absurd h (by decide)), (fun _ => ⟨_, _, _, rfl, z78, ⟨by omega, by omega⟩, ⟨by omega, by omega⟩, ⟨by omega, by omega⟩, (by omega), p69, ⟨p71.1, zOld_t i2.2 p71.2.1 i2.1.1.2⟩, (zOt_t i3 p75), ⟨n + 1, ⟨by omega, by omega⟩, fun h => (p74 h).1, by have h1 := p72; omega⟩, p73, ⟨by rw [qm68.1 105 (by decide) rfl]; exact i6.1, fun k hk => by rcases hk with h | h | h | h | h | h <;> subst h <;> exact (qm68.2.1 _ rfl).trans (i6.2 _ (by decide))⟩, (by rw [qm68.2.1 29 rfl]; exact i7), (by rcases p76 with h0 | h0; exact Or.inr ⟨h0.1, rFa_t R0 h0.2⟩; (obtain ⟨h1, p8, B8, R8, L8, N8, A8⟩ := h0; exact Or.inl ⟨h1, p8, B8, Or.inr ⟨rfl, yR_t R0 R8⟩, L8, N8, by rw [N8.1.2.2.1.symm.trans (p74 h1).1.1.2.2.1]; exact A8⟩)), on79, rfl⟩)⟩
      · intro x80 hx80 kx80 lx80
        refine And.intro ⟨⟨by omega, by omega⟩, ⟨by omega, by omega⟩⟩ (And.intro (fun c81 => ?_) (fun c81 => ?_))
        · intro x82 hx82 kx82 lx82
          refine And.intro ⟨by omega, by omega⟩ ?_
          intro m83 em83
          have z84 := zfx_f z0 em83 rfl
          have on85 := zOn_w i9 em83 ⟨fun h => absurd h (by decide), fun h => absurd h (by decide), fun h => absurd h (by decide)⟩
          have C1 : ∀ j : Nat, j ≠ 66 → m83.1 j = m0.1 j := fun j hj => by rw [em83, zu_ne hj]
          have G1 : ∀ k : Nat, k ≠ 37 → m83.1 66 ((k : Nat) : Int) = m0.1 66 ((k : Nat) : Int) := fun k hk => by rw [em83, zu_nk (by omega)]
          have R60 := hp0.1.2.2.2
          have R68 := hp0.2.2
          have TMX := zQS_top hp0.1
          have TL := i2.1.1
          have V1 : 1 ≤ v1 := by have h1 := hp0.1.1.2.1.1; have h2 := hp0.1.1.2.2.1; omega
          refine And.intro ⟨by omega, by omega⟩ (And.intro (fun c86 => ?_) (fun c86 => ?_))
          · refine ⟨yk_X9_commit, ym_X9_commit hg d (by omega), _, _, (K + 1000000), rfl, ⟨by omega, by omega⟩, (by rw [i0]; exact zDS_fr (n2 (by omega)) (fun j a b => C1 j (by omega)) (C1 98 (by decide)) (fun k hk => G1 k (by omega))), V1, (by rw [G1 60 (by decide), G1 68 (by decide), C1 105 (by decide), i6.1, i6.2 68 (by decide)]; exact ⟨by omega, hp0.2.1, by omega, by omega⟩), (by rw [G1 60 (by decide), G1 68 (by decide), i6.2 68 (by decide)]; exact ⟨by omega, by omega, by omega⟩), ?_⟩
            intro m87 qm87 p88 p89 p90 p91 p92
            have z93 := zfx_t z84 qm87 rfl rfl
            intro x94 hx94 kx94 lx94
            exact And.intro trivial (And.intro ⟨by omega, by omega⟩ (hQ _ _ z93 (by omega) (by omega) p88 (by rw [qm87.2.1 29 rfl, G1 29 (by decide)]; exact i7) (Or.inl (by rcases i8 with h0 | h0; (obtain ⟨pq, Bq, RC, LQ, NQ, AQ⟩ := h0.2; rcases RC with h1 | h1; (exfalso; have h2 := h1.1; omega); exact ⟨pq, Bq, yR_s h1.2 (ym9_a ((rKd_w (rkd LQ hx80.symm)).2.mp (by omega))), by rw [hx94, p89, G1 26 (by decide)]; exact NQ.1.2.2.1, ⟨⟨rSg_c (n2 (by omega)) NQ AQ (by rw [p89, G1 26 (by decide)]) (fun c d a b e f => by rw [← rXa_f (C1 80 (by decide))]; exact p90 c d a b e f), rTb_c NQ (n2 (by omega)).1.2.2.1 C1 p91⟩, rTq_c NQ (n2 (by omega)).1.2.2.1 C1 p91 (by rw [p89, G1 26 (by decide)]) p92 (G1 27 (by decide))⟩, by rw [qm87.2.1 37 rfl, em83, zu_at, hx82]; exact NQ.1.2.2.2.2.2⟩); (exfalso; have h1 := h0.1; omega)))))
          · refine ⟨zk_X9_chainAgain, zm_X9_chainAgain hg d (by omega), _, _, rfl, ⟨by omega, by omega⟩, ⟨by omega, by omega⟩, (by omega), (fun x a b => zNd_same (fun j c d => C1 j (by omega)) (i2.1.2.1 x a (by omega))), ?_⟩
            intro m95 qm95 p96 p97
            have z98 := zfx_t z84 qm95 rfl rfl
            have on99 := zOn_fr on85 (qm95.1 3000075 (by decide) rfl) (qm95.1 3000081 (by decide) rfl) (qm95.1 82 (by decide) rfl)
            intro x100 hx100 kx100 lx100
            exact And.intro trivial (And.intro ⟨by omega, by omega⟩ (hQ _ _ z98 (by omega) (by omega) (zRI_ot hp0 p96 (by rw [p97]; exact i0) (zOld_t i2.2 (zOld_same (fun j a b => by rw [qm95.1 j (by omega) (zanyF (by simp <;> omega)), C1 j (by omega)])) (Int.le_refl _)) (zOt_fr i3 (by rw [qm95.1 76 (by decide) rfl, C1 76 (by decide)]) (by rw [qm95.1 77 (by decide) rfl, C1 77 (by decide)]) (by rw [qm95.1 78 (by decide) rfl, C1 78 (by decide)]) (by rw [qm95.1 79 (by decide) rfl, C1 79 (by decide)]) (by rw [qm95.1 80 (by decide) rfl, C1 80 (by decide)]) (by rw [qm95.1 83 (by decide) rfl, C1 83 (by decide)]) (by rw [qm95.1 84 (by decide) rfl, C1 84 (by decide)])) (fun j a b => z98.1 j (by omega) (zanyF (by simp <;> omega))) (by rw [qm95.1 105 (by decide) rfl, C1 105 (by decide)]; exact i6.1) (fun k hk => by rcases hk with h | h | h | h | h | h <;> subst h <;> exact (qm95.2.1 _ rfl).trans ((G1 _ (by decide)).trans (i6.2 _ (by decide)))) (by rw [qm95.2.1 60 rfl, G1 60 (by decide)]; omega) (by rw [qm95.2.1 60 rfl, G1 60 (by decide), qm95.1 98 (by decide) rfl, C1 98 (by decide)]; exact i5) (by omega) (by omega)) (by rw [qm95.2.1 29 rfl, G1 29 (by decide)]; exact i7) (Or.inr (by rcases i8 with h0 | h0; (exfalso; have h1 := h0.1; omega); (obtain ⟨pp, xx, BB, r1, r2, r3⟩ := h0.2; exact ⟨pp, xx, BB, r1, by have h1 : x100 = pp := (by rw [hx100, qm95.2.1 36 rfl, G1 36 (by decide)]; exact r3); omega, ⟨rKp_mk (qm95.2.1 20 rfl |>.trans ((G1 20 (by decide)).trans (i6.2 20 (by decide)))) (zOt_fr i3 (by rw [qm95.1 76 (by decide) rfl, C1 76 (by decide)]) (by rw [qm95.1 77 (by decide) rfl, C1 77 (by decide)]) (by rw [qm95.1 78 (by decide) rfl, C1 78 (by decide)]) (by rw [qm95.1 79 (by decide) rfl, C1 79 (by decide)]) (by rw [qm95.1 80 (by decide) rfl, C1 80 (by decide)]) (by rw [qm95.1 83 (by decide) rfl, C1 83 (by decide)]) (by rw [qm95.1 84 (by decide) rfl, C1 84 (by decide)])) on99, qm95.2.1 21 rfl |>.trans ((G1 21 (by decide)).trans (i6.2 21 (by decide))), on99.2.1⟩, by rw [qm95.2.1 37 rfl, em83, zu_at, hx82]; exact r2⟩)))))
        · have N2 := n2 (by omega)
          have N21 := N2.1
          have R60 := hp0.1.2.2.2
          have Z00 : 0 ≤ zrm m0 := zrm_0 (by have := i1; omega)
          obtain ⟨pq, Bq, RC, LQ, NQ, AQ⟩ : ∃ pq Bq, ((v3 = 1 ∧ yR ((μ.1 85, μ.1 66 ((29 : Nat) : Int)) : yT) (0, 0, 0, [], yB0) (0, pq, 0, [], Bq)) ∨ (v3 = 0 ∧ yR ((μ.1 85, μ.1 66 ((29 : Nat) : Int)) : yT) (0, 0, 0, [], yB0) (9, pq, 0, [], Bq))) ∧ rLx m0 ((μ.1 85, μ.1 66 ((29 : Nat) : Int)) : yT) pq ∧ rNu m0 Bq ∧ rAb m0 Bq (Bq.1 0 0) (zTop μ) := by rcases i8 with h0 | h0; exact h0.2; (exfalso; have h1 := h0.1; omega)
          have R0 : yR ((μ.1 85, μ.1 66 ((29 : Nat) : Int)) : yT) (0, 0, 0, [], yB0) (0, pq, 0, [], Bq) := by rcases RC with h0 | h0; exact h0.2; exact yR_s h0.2 (ym9_b (fun h1 => by have h2 := (rKd_w (rkd LQ hx80.symm)).2.mpr h1; omega))
          have NN : Bq.1 0 0 = n := NQ.1.2.2.1.symm.trans N2.1.2.2.1
          rw [NN] at AQ
          refine ⟨yk_X9_readDecl, ym_X9_readDecl hg d (by omega), _, _, _, _, _, rfl, i1, N2, (by omega), LQ, NQ, (yInv_R yInv_00 R0), AQ, ?_⟩
          intro x101 m102 qm102 kx101 lx101 p103 p104 p105 p106 p107 p108 p109 p110 p111
          have z112 := zfx_t z0 qm102 rfl rfl
          have on113 := zOn_t i9 p111
          have ZZ : 0 ≤ zrm m102 := zrm_0 (by have := p103; omega)
          refine Exists.intro ((if x101 = 0 then 0 else Int.toNat (zrm m102 + 1))) (And.intro (by rw [if_neg (show ¬ v2 = 0 by omega)]; split; omega; (have h1 := (p108 (by omega)).2; omega)) ?_)
          exact ⟨(fun h => absurd h (by decide)), (fun _ => ⟨_, _, _, rfl, z112, ⟨by omega, by omega⟩, ⟨by omega, by omega⟩, ⟨by omega, by omega⟩, (by omega), p103, ⟨p105.1, zOld_t i2.2 p105.2.1 i2.1.1.2⟩, (zOt_t i3 p109), ⟨n + 1, ⟨by omega, by omega⟩, fun h => (p108 h).1, by have h1 := p106; omega⟩, p107, ⟨by rw [qm102.1 105 (by decide) rfl]; exact i6.1, fun k hk => by rcases hk with h | h | h | h | h | h <;> subst h <;> exact (qm102.2.1 _ rfl).trans (i6.2 _ (by decide))⟩, (by rw [qm102.2.1 29 rfl]; exact i7), (by rcases p110 with h0 | h0; exact Or.inr ⟨h0.1, rFa_t R0 h0.2⟩; (obtain ⟨h1, p8, B8, R8, L8, N8, A8⟩ := h0; exact Or.inl ⟨h1, p8, B8, Or.inr ⟨rfl, yR_t R0 R8⟩, L8, N8, by rw [N8.1.2.2.1.symm.trans (p108 h1).1.1.2.2.1]; exact A8⟩)), on113, rfl⟩)⟩
