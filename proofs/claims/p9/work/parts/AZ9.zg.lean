/-! ### the reference stands at a token -/
def rLx (μ : zM) (T : yT) (p : Int) : Prop := (μ.1 85 = T.1 ∧ μ.1 66 ((30 : Nat) : Int) = T.2) ∧ (0 ≤ p ∧ p ≤ T.2 ∧ T.2 ≤ 800) ∧ μ.1 66 ((32 : Nat) : Int) = rtk (ykd T p) ∧ μ.1 66 ((33 : Nat) : Int) = ypl T p ∧ μ.1 66 ((34 : Nat) : Int) = ysz T p ∧ μ.1 66 ((31 : Nat) : Int) = ynx T p
theorem rLx_T {μ : zM} {T : yT} {p : Int} (h : rLx μ T p) : ((μ.1 85, μ.1 66 ((30 : Nat) : Int)) : yT) = T := by rw [h.1.1, h.1.2]
theorem rsz {T : yT} {p : Int} (h : 0 ≤ p ∧ p ≤ T.2) : 0 ≤ ysz T p := by
  unfold ysz
  split
  · omega
  · split
    · have := yru_ge yNb T (ypl T p + 1); omega
    · omega
/-- behind pass -/
theorem rLx_p {μ μ' : zM} {T : yT} {p : Int} (h : rLx μ T p) (h85 : μ'.1 85 = μ.1 85) (h30 : μ'.1 66 ((30 : Nat) : Int) = μ.1 66 ((30 : Nat) : Int)) (hl : μ'.1 66 ((32 : Nat) : Int) = rtk (ykd ((μ.1 85, μ.1 66 ((30 : Nat) : Int)) : yT) (μ.1 66 ((31 : Nat) : Int))) ∧ μ'.1 66 ((33 : Nat) : Int) = ypl ((μ.1 85, μ.1 66 ((30 : Nat) : Int)) : yT) (μ.1 66 ((31 : Nat) : Int)) ∧ μ'.1 66 ((34 : Nat) : Int) = ysz ((μ.1 85, μ.1 66 ((30 : Nat) : Int)) : yT) (μ.1 66 ((31 : Nat) : Int)) ∧ μ'.1 66 ((31 : Nat) : Int) = ynx ((μ.1 85, μ.1 66 ((30 : Nat) : Int)) : yT) (μ.1 66 ((31 : Nat) : Int))) : rLx μ' T (ynx T p) := by
  have e := rLx_T h
  rw [e, h.2.2.2.2.2] at hl
  have a := (yPo_l (T := T) (p := p) ⟨h.2.1.1, h.2.1.2.1⟩).2
  exact ⟨⟨h85.trans h.1.1, h30.trans h.1.2⟩, ⟨a.1, a.2, h.2.1.2.2⟩, hl⟩
theorem rLx_f {μ μ' : zM} {T : yT} {p : Int} (h : rLx μ T p) (h85 : μ'.1 85 = μ.1 85) (h6 : ∀ k : Nat, 30 ≤ k → k ≤ 34 → μ'.1 66 ((k : Nat) : Int) = μ.1 66 ((k : Nat) : Int)) : rLx μ' T p := by
  unfold rLx
  rw [h85, h6 30 (by decide) (by decide), h6 31 (by decide) (by decide), h6 32 (by decide) (by decide), h6 33 (by decide) (by decide), h6 34 (by decide) (by decide)]
  exact h
/-- kinds of tokens -/
theorem ykd_r (T : yT) (p : Int) : (0 ≤ ykd T p ∧ ykd T p ≤ 5) ∨ (38 ≤ ykd T p ∧ ykd T p ≤ 94) := by
  unfold ykd
  split
  · omega
  split
  · split
    · omega
    split
    · omega
    split
    · omega
    split
    · omega
    omega
  · split
    · rename_i h
      unfold ySg at h
      simp only [Bool.or_eq_true, decide_eq_true_eq] at h
      omega
    · omega
theorem rtk_v {k t : Int} (h : t = rtk k) (hr : (0 ≤ k ∧ k ≤ 5) ∨ (38 ≤ k ∧ k ≤ 94)) : (t = 256 ∧ k = 0) ∨ (t = 261 ∧ k = 1) ∨ (t = 257 ∧ k = 2) ∨ (t = 258 ∧ k = 3) ∨ (t = 259 ∧ k = 4) ∨ (t = 260 ∧ k = 5) ∨ (t = k ∧ 38 ≤ k ∧ k ≤ 94) := by
  unfold rtk at h
  split at h
  · omega
  split at h
  · omega
  split at h
  · omega
  split at h
  · omega
  split at h
  · omega
  split at h
  · omega
  omega
theorem rLx_k {μ : zM} {T : yT} {p : Int} (h : rLx μ T p) : (μ.1 66 ((32 : Nat) : Int) = 256 ∧ ykd T p = 0) ∨ (μ.1 66 ((32 : Nat) : Int) = 261 ∧ ykd T p = 1) ∨ (μ.1 66 ((32 : Nat) : Int) = 257 ∧ ykd T p = 2) ∨ (μ.1 66 ((32 : Nat) : Int) = 258 ∧ ykd T p = 3) ∨ (μ.1 66 ((32 : Nat) : Int) = 259 ∧ ykd T p = 4) ∨ (μ.1 66 ((32 : Nat) : Int) = 260 ∧ ykd T p = 5) ∨ (μ.1 66 ((32 : Nat) : Int) = ykd T p ∧ 38 ≤ ykd T p ∧ ykd T p ≤ 94) := rtk_v h.2.2.1 (ykd_r T p)
theorem ysz_2 {T : yT} {p : Int} (h : ykd T p = 2) : ysz T p ≤ 8 := by
  unfold ykd at h
  split at h
  · omega
  split at h
  · split at h
    · omega
    · omega
  · split at h
    · rename_i h2
      unfold ySg at h2
      simp only [Bool.or_eq_true, decide_eq_true_eq] at h2
      omega
    · omega
theorem rLx_n {μ : zM} {T : yT} {p : Int} {v : Int64} (h : rLx μ T p) (hk : ykd T p = 2) (hv : v = yv ((μ.1 85, μ.1 66 ((30 : Nat) : Int)) : yT) (μ.1 66 ((33 : Nat) : Int)) (μ.1 66 ((34 : Nat) : Int)).toNat) : v = ynm T p := by
  rw [rLx_T h, h.2.2.2.1, h.2.2.2.2.1] at hv
  unfold ynm
  rw [if_pos (ysz_2 hk)]
  exact hv
/-- a sign behind the token -/
theorem rLx_b {μ : zM} {T : yT} {p : Int} (h : rLx μ T p) : (ypl ((μ.1 85, μ.1 66 ((30 : Nat) : Int)) : yT) (μ.1 66 ((31 : Nat) : Int)) < μ.1 66 ((30 : Nat) : Int) ∧ μ.1 85 (ypl ((μ.1 85, μ.1 66 ((30 : Nat) : Int)) : yT) (μ.1 66 ((31 : Nat) : Int))) = 61) ↔ ykd T (ynx T p) = 61 := by
  rw [rLx_T h, h.2.2.2.2.2, h.1.2, h.1.1]
  constructor
  · intro ⟨h1, h2⟩
    unfold ykd
    rw [if_neg (by omega), h2, if_neg (by decide), if_pos (by decide)]
  · intro hk
    unfold ykd at hk
    split at hk
    · omega
    · rename_i h1
      split at hk
      · split at hk
        · omega
        split at hk
        · omega
        split at hk
        · omega
        split at hk <;> omega
      · split at hk
        · exact ⟨by omega, hk⟩
        · omega
/-- what stands behind a TYPE -/
def rmay (t d r : Int) : Prop := if 0 < d then t = 44 ∨ t = 62 else if r = 0 then t = 38 ∨ t = 44 ∨ t = 58 ∨ t = 59 else if r = 1 then t = 44 ∨ t = 59 else if r = 2 then t = 60 else if r = 3 then t = 256 else t = 260
theorem rmay_y {μ : zM} {T : yT} {p r : Int} {B : yB} {d : Nat} (h : rLx μ T p) (hr : r = B.1 0 4) (h4 : 0 ≤ r ∧ r ≤ 4) : rmay (μ.1 66 ((32 : Nat) : Int)) d r ↔ ymay B d (ykd T p) = true := by
  have k := rLx_k h
  unfold rmay ymay
  rw [← hr]
  by_cases q : d = 0
  · subst q
    rw [if_neg (by decide), if_pos rfl]
    by_cases r0 : r = 0
    · rw [if_pos r0, if_pos r0]; simp only [Bool.or_eq_true, decide_eq_true_eq]; omega
    · rw [if_neg r0, if_neg r0]
      by_cases r1 : r = 1
      · rw [if_pos r1, if_pos r1]; simp only [Bool.or_eq_true, decide_eq_true_eq]; omega
      · rw [if_neg r1, if_neg r1]
        by_cases r2 : r = 2
        · rw [if_pos r2, if_pos r2]; simp only [decide_eq_true_eq]; omega
        · rw [if_neg r2, if_neg r2]
          by_cases r3 : r = 3
          · rw [if_pos r3, if_pos r3]; simp only [decide_eq_true_eq]; omega
          · rw [if_neg r3, if_neg r3]; simp only [decide_eq_true_eq]; omega
  · rw [if_pos (by omega), if_neg q]; simp only [Bool.or_eq_true, decide_eq_true_eq]; omega
def yk_X9_name : zC := fun As μ Q => As = [.inr (.inr (66, 66))] ∧ (0 ≤ μ.1 66 ((33 : Nat) : Int) ∧ 0 ≤ μ.1 66 ((34 : Nat) : Int) ∧ μ.1 66 ((33 : Nat) : Int) + μ.1 66 ((34 : Nat) : Int) ≤ μ.1 66 ((31 : Nat) : Int) ∧ μ.1 66 ((31 : Nat) : Int) ≤ μ.1 66 ((30 : Nat) : Int) ∧ μ.1 66 ((30 : Nat) : Int) ≤ 800) ∧ (∀ (v : Int64), (v = yv ((μ.1 85, μ.1 66 ((30 : Nat) : Int)) : yT) (μ.1 66 ((33 : Nat) : Int)) (μ.1 66 ((34 : Nat) : Int)).toNat) → Q (some (.inr (.inl v))) μ)
set_option maxHeartbeats 4000000 in
theorem ym_X9_name {g : zΓ} (hg : zg g) (d : Nat) (hd : 2 ≤ d) : zOk g d 135 yk_X9_name := by
  obtain ⟨d, rfl⟩ : ∃ d', d = d' + 1 := ⟨d - 1, by omega⟩
  refine zOk_straight hg (show mt_tab[135]? = some mt_X9_name from rfl) [] 12 rfl fun As μ Q hC => ?_
  obtain ⟨rfl, hp0, hQ⟩ := hC
  refine ⟨rfl, ?_⟩
  intro x1 hx1 kx1 lx1
  intro x2 hx2 kx2 lx2
  refine ⟨yk_X9_nameAt, ym_X9_nameAt hg d (by omega), _, _, rfl, ⟨by omega, by omega⟩, ⟨by omega, by omega⟩, (by omega), ?_⟩
  intro j3 p4
  exact And.intro rfl (hQ _ (by rw [← hx1, ← hx2]; exact p4))
def yk_X9_isBefore : zC := fun As μ Q => ∃ (a1 : Int), As = [.inr (.inr (66, 66)), .inl a1] ∧ ((-2147483648) ≤ a1 ∧ a1 ≤ 2147483647) ∧ (∀ (v : Int), 0 ≤ v → v ≤ 1 → ((v = 1 ∧ (ypl ((μ.1 85, μ.1 66 ((30 : Nat) : Int)) : yT) (μ.1 66 ((31 : Nat) : Int)) < μ.1 66 ((30 : Nat) : Int) ∧ μ.1 85 (ypl ((μ.1 85, μ.1 66 ((30 : Nat) : Int)) : yT) (μ.1 66 ((31 : Nat) : Int))) = a1)) ∨ (v = 0 ∧ ¬ (ypl ((μ.1 85, μ.1 66 ((30 : Nat) : Int)) : yT) (μ.1 66 ((31 : Nat) : Int)) < μ.1 66 ((30 : Nat) : Int) ∧ μ.1 85 (ypl ((μ.1 85, μ.1 66 ((30 : Nat) : Int)) : yT) (μ.1 66 ((31 : Nat) : Int))) = a1))) → Q (some (.inl v)) μ)
set_option maxHeartbeats 4000000 in
theorem ym_X9_isBefore {g : zΓ} (hg : zg g) (d : Nat) (hd : 1 ≤ d) : zOk g d 132 yk_X9_isBefore := by
  obtain ⟨d, rfl⟩ : ∃ d', d = d' + 1 := ⟨d - 1, by omega⟩
  refine zOk_loop hg (show mt_tab[132]? = some mt_X9_isBefore from rfl) ([(5, [0, 1, 2])], []) 40 rfl fun As μ Q hC => ?_
  obtain ⟨a1, rfl, ha1, hQ⟩ := hC
  refine ⟨rfl, fun pc vs μ' n => ∃ (v1 : Int) (v2 : Int), vs = [.inr (.inr (66, 66)), .inl v1, .inl v2] ∧ μ' = μ ∧ ((-2147483648) ≤ v1 ∧ v1 ≤ 2147483647) ∧ (0 ≤ v2 ∧ v2 ≤ 801) ∧ (v1 = a1) ∧ (ypl ((μ.1 85, μ.1 66 ((30 : Nat) : Int)) : yT) (μ.1 66 ((31 : Nat) : Int)) = ypl ((μ.1 85, μ.1 66 ((30 : Nat) : Int)) : yT) v2) ∧ n = (Int.toNat (2147483648 - v2)), ?_, ?_, trivial⟩
  · intro x1 hx1 kx1 lx1
    refine Exists.intro (Int.toNat (2147483648 - x1)) ?_
    exact ⟨_, _, rfl, rfl, ⟨by omega, by omega⟩, ⟨by omega, by omega⟩, (by omega), (by rw [hx1]), rfl⟩
  · intro vs m0 n hI
    obtain ⟨v1, v2, rfl, em0, hv1, hv2, i0, i1, rfl⟩ := hI
    replace em0 := em0.symm
    subst em0
    intro x2 hx2 kx2 lx2
    refine And.intro ⟨⟨by omega, by omega⟩, ⟨by omega, by omega⟩⟩ (And.intro (fun c3 => ?_) (fun c3 => ?_))
    · have J1 : ypl ((μ.1 85, μ.1 66 ((30 : Nat) : Int)) : yT) (μ.1 66 ((31 : Nat) : Int)) = v2 := i1.trans (rpl_e (by show μ.1 66 ((30 : Nat) : Int) ≤ v2; omega))
      intro x4 hx4 kx4 lx4
      refine And.intro ⟨⟨by omega, by omega⟩, ⟨by omega, by omega⟩⟩ (And.intro (fun c5 => ?_) (fun c5 => ?_))
      · exact And.intro (zrtb (by omega)) (And.intro ⟨by omega, by omega⟩ (hQ _ (by omega) (by omega) (by rw [J1]; first | exact Or.inl ⟨rfl, by omega, by omega⟩ | exact Or.inr ⟨rfl, fun h0 => by have h1 := h0.1; have h2 := h0.2; omega⟩)))
      · refine And.intro ⟨by omega, by omega⟩ ?_
        intro x6 hx6 kx6 lx6
        refine And.intro ⟨⟨by omega, by omega⟩, ⟨by omega, by omega⟩⟩ (And.intro (fun c7 => ?_) (fun c7 => ?_))
        · exact And.intro (zrtb (by omega)) (And.intro ⟨by omega, by omega⟩ (hQ _ (by omega) (by omega) (by rw [J1]; first | exact Or.inl ⟨rfl, by omega, by omega⟩ | exact Or.inr ⟨rfl, fun h0 => by have h1 := h0.1; have h2 := h0.2; omega⟩)))
        · exact And.intro (zrtb (by omega)) (And.intro ⟨by omega, by omega⟩ (hQ _ (by omega) (by omega) (by rw [J1]; first | exact Or.inl ⟨rfl, by omega, by omega⟩ | exact Or.inr ⟨rfl, fun h0 => by have h1 := h0.1; have h2 := h0.2; omega⟩)))
    · refine And.intro ⟨by omega, by omega⟩ ?_
      intro x8 hx8 kx8 lx8
      refine And.intro ⟨⟨by omega, by omega⟩, ⟨by omega, by omega⟩⟩ (And.intro (fun c9 => ?_) (fun c9 => ?_))
      · have Lx8 : x8 = μ.1 85 v2 := hx8
        have HB := rpl_b (T := ((μ.1 85, μ.1 66 ((30 : Nat) : Int)) : yT)) (i := v2) (by show v2 < μ.1 66 ((30 : Nat) : Int); omega) (by show μ.1 85 v2 = 32 ∨ μ.1 85 v2 = 10; omega)
        refine Exists.intro (Int.toNat (2147483648 - (v2 + 1))) (And.intro (by omega) ?_)
        exact ⟨_, _, rfl, rfl, ⟨by omega, by omega⟩, ⟨by omega, by omega⟩, (by omega), (i1.trans HB), rfl⟩
      · have nc9 : yNe x8 32 := c9
        clear c9
        refine And.intro ⟨by omega, by omega⟩ ?_
        intro x10 hx10 kx10 lx10
        refine And.intro ⟨⟨by omega, by omega⟩, ⟨by omega, by omega⟩⟩ (And.intro (fun c11 => ?_) (fun c11 => ?_))
        · have nc11 : yNe x10 10 := c11
          clear c11
          have J1 : ypl ((μ.1 85, μ.1 66 ((30 : Nat) : Int)) : yT) (μ.1 66 ((31 : Nat) : Int)) = v2 := i1.trans (rpl_nb (fun h0 => h0.elim (fun e => nc9 (by rw [hx8]; exact e)) (fun e => nc11 (by rw [hx10]; exact e))))
          intro x12 hx12 kx12 lx12
          refine And.intro ⟨⟨by omega, by omega⟩, ⟨by omega, by omega⟩⟩ (And.intro (fun c13 => ?_) (fun c13 => ?_))
          · exact And.intro (zrtb (by omega)) (And.intro ⟨by omega, by omega⟩ (hQ _ (by omega) (by omega) (by rw [J1]; first | exact Or.inl ⟨rfl, by omega, by omega⟩ | exact Or.inr ⟨rfl, fun h0 => by have h1 := h0.1; have h2 := h0.2; omega⟩)))
          · refine And.intro ⟨by omega, by omega⟩ ?_
            intro x14 hx14 kx14 lx14
            refine And.intro ⟨⟨by omega, by omega⟩, ⟨by omega, by omega⟩⟩ (And.intro (fun c15 => ?_) (fun c15 => ?_))
            · exact And.intro (zrtb (by omega)) (And.intro ⟨by omega, by omega⟩ (hQ _ (by omega) (by omega) (by rw [J1]; first | exact Or.inl ⟨rfl, by omega, by omega⟩ | exact Or.inr ⟨rfl, fun h0 => by have h1 := h0.1; have h2 := h0.2; omega⟩)))
            · exact And.intro (zrtb (by omega)) (And.intro ⟨by omega, by omega⟩ (hQ _ (by omega) (by omega) (by rw [J1]; first | exact Or.inl ⟨rfl, by omega, by omega⟩ | exact Or.inr ⟨rfl, fun h0 => by have h1 := h0.1; have h2 := h0.2; omega⟩)))
        · have Lx8 : x8 = μ.1 85 v2 := hx8
          have Lx10 : x10 = μ.1 85 v2 := hx10
          have HB := rpl_b (T := ((μ.1 85, μ.1 66 ((30 : Nat) : Int)) : yT)) (i := v2) (by show v2 < μ.1 66 ((30 : Nat) : Int); omega) (by show μ.1 85 v2 = 32 ∨ μ.1 85 v2 = 10; omega)
          refine Exists.intro (Int.toNat (2147483648 - (v2 + 1))) (And.intro (by omega) ?_)
          exact ⟨_, _, rfl, rfl, ⟨by omega, by omega⟩, ⟨by omega, by omega⟩, (by omega), (i1.trans HB), rfl⟩
def yk_X9_fail : zC := fun As μ Q => ∃ (a1 : Int), As = [.inr (.inr (66, 66)), .inl a1] ∧ (1 ≤ a1 ∧ a1 ≤ 8) ∧ (∀ (v : Int) (μ' : zM), zfx [] [35, 36] μ μ' → 0 ≤ v → v ≤ 0 → (μ.1 66 ((35 : Nat) : Int) = 0 → μ'.1 66 ((35 : Nat) : Int) = (if μ.1 66 ((32 : Nat) : Int) = 261 then 1 else a1) ∧ μ'.1 66 ((36 : Nat) : Int) = μ.1 66 ((33 : Nat) : Int)) → Q (some (.inl v)) μ')
set_option maxHeartbeats 4000000 in
theorem ym_X9_fail {g : zΓ} (hg : zg g) (d : Nat) (hd : 1 ≤ d) : zOk g d 133 yk_X9_fail := by
  obtain ⟨d, rfl⟩ : ∃ d', d = d' + 1 := ⟨d - 1, by omega⟩
  refine zOk_straight hg (show mt_tab[133]? = some mt_X9_fail from rfl) [] 23 rfl fun As μ Q hC => ?_
  obtain ⟨a1, rfl, ha1, hQ⟩ := hC
  obtain ⟨g1, wg1⟩ : ∃ z : Int, μ.1 66 ((32 : Nat) : Int) = z := ⟨_, rfl⟩
  obtain ⟨g2, wg2⟩ : ∃ z : Int, μ.1 66 ((33 : Nat) : Int) = z := ⟨_, rfl⟩
  obtain ⟨g3, wg3⟩ : ∃ z : Int, μ.1 66 ((35 : Nat) : Int) = z := ⟨_, rfl⟩
  refine ⟨rfl, ?_⟩
  have z0 : zfx [] [35, 36] μ μ := zfx_x μ
  intro x4 hx4 kx4 lx4
  rw [wg3] at hx4
  refine And.intro ⟨by omega, by omega⟩ (And.intro (fun c5 => ?_) (fun c5 => ?_))
  · exact And.intro (zrtb (by omega)) (And.intro ⟨by omega, by omega⟩ (hQ _ _ z0 (by omega) (by omega) (fun h0 => by exfalso; omega)))
  · intro x6 hx6 kx6 lx6
    rw [wg1] at hx6
    refine And.intro ⟨⟨by omega, by omega⟩, ⟨by omega, by omega⟩⟩ (And.intro (fun c7 => ?_) (fun c7 => ?_))
    · refine And.intro ⟨by omega, by omega⟩ ?_
      intro m8 em8
      have z9 := zfx_f z0 em8 rfl
      have w10 : m8.1 66 ((32 : Nat) : Int) = g1 := by rw [em8]; exact (zu_nk (by decide)).trans wg1
      have w11 : m8.1 66 ((33 : Nat) : Int) = g2 := by rw [em8]; exact (zu_nk (by decide)).trans wg2
      have w12 : m8.1 66 ((35 : Nat) : Int) = a1 := by rw [em8]; exact zu_at
      intro x13 hx13 kx13 lx13
      rw [w11] at hx13
      refine And.intro ⟨by omega, by omega⟩ ?_
      intro m14 em14
      have z15 := zfx_f z9 em14 rfl
      have w16 : m14.1 66 ((32 : Nat) : Int) = g1 := by rw [em14]; exact (zu_nk (by decide)).trans w10
      have w17 : m14.1 66 ((33 : Nat) : Int) = g2 := by rw [em14]; exact (zu_nk (by decide)).trans w11
      have w18 : m14.1 66 ((35 : Nat) : Int) = a1 := by rw [em14]; exact (zu_nk (by decide)).trans w12
      clear w10 w11 w12
      exact And.intro (zrtb (by omega)) (And.intro ⟨by omega, by omega⟩ (hQ _ _ z15 (by omega) (by omega) (fun _ => ⟨by rw [w18, wg1]; first | rw [if_pos (by omega)] | rw [if_neg (by omega)], by rw [em14, zu_at, wg2]; omega⟩)))
    · refine And.intro ⟨by omega, by omega⟩ ?_
      intro m19 em19
      have z20 := zfx_f z0 em19 rfl
      have w21 : m19.1 66 ((32 : Nat) : Int) = g1 := by rw [em19]; exact (zu_nk (by decide)).trans wg1
      have w22 : m19.1 66 ((33 : Nat) : Int) = g2 := by rw [em19]; exact (zu_nk (by decide)).trans wg2
      have w23 : m19.1 66 ((35 : Nat) : Int) = 1 := by rw [em19]; exact zu_at
      intro x24 hx24 kx24 lx24
      rw [w22] at hx24
      refine And.intro ⟨by omega, by omega⟩ ?_
      intro m25 em25
      have z26 := zfx_f z20 em25 rfl
      have w27 : m25.1 66 ((32 : Nat) : Int) = g1 := by rw [em25]; exact (zu_nk (by decide)).trans w21
      have w28 : m25.1 66 ((33 : Nat) : Int) = g2 := by rw [em25]; exact (zu_nk (by decide)).trans w22
      have w29 : m25.1 66 ((35 : Nat) : Int) = 1 := by rw [em25]; exact (zu_nk (by decide)).trans w23
      clear w21 w22 w23
      exact And.intro (zrtb (by omega)) (And.intro ⟨by omega, by omega⟩ (hQ _ _ z26 (by omega) (by omega) (fun _ => ⟨by rw [w29, wg1]; first | rw [if_pos (by omega)] | rw [if_neg (by omega)], by rw [em25, zu_at, wg2]; omega⟩)))
def yk_X9_findClass : zC := fun As μ Q => ∃ (a1 : Int64), As = [.inr (.inr (66, 66)), .inr (.inl a1)] ∧ (∀ (v : Int), (-1) ≤ v → v ≤ 20 → (v = -1 ∨ v < μ.1 66 ((26 : Nat) : Int)) → (v = yfd (fun k : Int => μ.1 3000075 (μ.1 66 ((24 : Nat) : Int) + k)) a1.toInt 0 (μ.1 66 ((26 : Nat) : Int))) → Q (some (.inl v)) μ)
set_option maxHeartbeats 4000000 in
theorem ym_X9_findClass {g : zΓ} (hg : zg g) (d : Nat) (hd : 1 ≤ d) : zOk g d 136 yk_X9_findClass := by
  obtain ⟨d, rfl⟩ : ∃ d', d = d' + 1 := ⟨d - 1, by omega⟩
  refine zOk_loop hg (show mt_tab[136]? = some mt_X9_findClass from rfl) ([(2, [0, 1, 3])], []) 31 rfl fun As μ Q hC => ?_
  obtain ⟨a1, rfl, hQ⟩ := hC
  obtain ⟨g1, wg1⟩ : ∃ z : Int, μ.1 66 ((26 : Nat) : Int) = z := ⟨_, rfl⟩
  refine ⟨rfl, fun pc vs μ' n => ∃ (v1 : Int64) (v3 : Int), vs = [.inr (.inr (66, 66)), .inr (.inl v1), .inl v3] ∧ μ' = μ ∧ (0 ≤ v3 ∧ v3 ≤ 21) ∧ (v1 = a1) ∧ (yfd (fun k : Int => μ.1 3000075 (μ.1 66 ((24 : Nat) : Int) + k)) a1.toInt 0 (μ.1 66 ((26 : Nat) : Int)) = yfd (fun k : Int => μ.1 3000075 (μ.1 66 ((24 : Nat) : Int) + k)) a1.toInt v3 (μ.1 66 ((26 : Nat) : Int))) ∧ n = (Int.toNat (2147483648 - v3)), ?_, ?_, trivial⟩
  · refine Exists.intro (Int.toNat (2147483648 - 0)) ?_
    exact ⟨_, _, rfl, rfl, ⟨by omega, by omega⟩, rfl, rfl, rfl⟩
  · intro vs m0 n hI
    obtain ⟨v1, v3, rfl, em0, hv3, i0, i1, rfl⟩ := hI
    replace em0 := em0.symm
    subst em0
    intro x2 hx2 kx2 lx2
    rw [wg1] at hx2
    refine And.intro ⟨⟨by omega, by omega⟩, ⟨by omega, by omega⟩⟩ (And.intro (fun c3 => ?_) (fun c3 => ?_))
    · intro x4 hx4 kx4 lx4
      rw [wg1] at hx4
      refine And.intro ⟨⟨by omega, by omega⟩, ⟨by omega, by omega⟩⟩ (And.intro (fun c5 => ?_) (fun c5 => ?_))
      · exact And.intro trivial (And.intro ⟨by omega, by omega⟩ (hQ _ (by omega) (by omega) (by (try rw [wg1]) <;> omega) (by rw [i1, yfd_no (by omega)])))
      · exfalso; omega
    · intro x6 hx6 kx6 lx6
      refine And.intro ⟨by omega, by omega⟩ ?_
      intro x7 hx7
      intro x8 hx8 kx8 lx8
      have JE : x7.toInt = (fun k : Int => μ.1 3000075 (μ.1 66 ((24 : Nat) : Int) + k)) v3 := by show _ = μ.1 3000075 (_ + v3); rw [hx7, ← hx6]
      refine And.intro ⟨by omega, by omega⟩ (And.intro (fun c9 => ?_) (fun c9 => ?_))
      · have bc9 := ylc0 hx8 c9
        intro x10 hx10 kx10 lx10
        rw [wg1] at hx10
        refine And.intro ⟨⟨by omega, by omega⟩, ⟨by omega, by omega⟩⟩ (And.intro (fun c11 => ?_) (fun c11 => ?_))
        · exfalso; omega
        · exact And.intro trivial (And.intro ⟨by omega, by omega⟩ (hQ _ (by omega) (by omega) (by (try rw [wg1]) <;> omega) (by rw [i1, yfd_at (f := (fun k : Int => μ.1 3000075 (μ.1 66 ((24 : Nat) : Int) + k))) (by omega) (JE.symm.trans (by rw [bc9, i0]))])))
      · have bc9 := ylcn hx8 c9
        clear c9
        have GO := yfd_go (f := (fun k : Int => μ.1 3000075 (μ.1 66 ((24 : Nat) : Int) + k))) (x := a1.toInt) (lo := v3) (hi := (μ.1 66 ((26 : Nat) : Int))) (by omega) (fun h0 => bc9 (by rw [i0]; exact Int64.toInt_inj.mp (JE.trans h0)))
        refine Exists.intro (Int.toNat (2147483648 - (v3 + 1))) (And.intro (by (try rw [wg1]) <;> omega) ?_)
        exact ⟨_, _, rfl, rfl, ⟨by omega, by omega⟩, i0, (i1.trans GO), rfl⟩
def yk_X9_findParam : zC := fun As μ Q => ∃ (a1 : Int) (a2 : Int64), As = [.inr (.inr (66, 66)), .inl a1, .inr (.inl a2)] ∧ ((-1) ≤ a1 ∧ a1 ≤ 20) ∧ (∀ (v : Int), (-1) ≤ v → v ≤ 79 → (v = -1 ∨ (0 ≤ a1 ∧ μ.1 76 (μ.1 66 ((24 : Nat) : Int) + a1) ≤ v ∧ v < μ.1 76 (μ.1 66 ((24 : Nat) : Int) + a1) + μ.1 77 (μ.1 66 ((24 : Nat) : Int) + a1))) → (v = if a1 < 0 then -1 else yfd (fun k : Int => μ.1 3000081 (μ.1 66 ((25 : Nat) : Int) + k)) a2.toInt (μ.1 76 (μ.1 66 ((24 : Nat) : Int) + a1)) (μ.1 76 (μ.1 66 ((24 : Nat) : Int) + a1) + μ.1 77 (μ.1 66 ((24 : Nat) : Int) + a1))) → Q (some (.inl v)) μ)
set_option maxHeartbeats 4000000 in
theorem ym_X9_findParam {g : zΓ} (hg : zg g) (d : Nat) (hd : 1 ≤ d) : zOk g d 137 yk_X9_findParam := by
  obtain ⟨d, rfl⟩ : ∃ d', d = d' + 1 := ⟨d - 1, by omega⟩
  refine zOk_loop hg (show mt_tab[137]? = some mt_X9_findParam from rfl) ([(9, [0, 1, 2, 4])], []) 61 rfl fun As μ Q hC => ?_
  obtain ⟨a1, a2, rfl, ha1, hQ⟩ := hC
  refine ⟨rfl, fun pc vs μ' n => ∃ (v1 : Int) (v2 : Int64) (v4 : Int), vs = [.inr (.inr (66, 66)), .inl v1, .inr (.inl v2), .inl v4] ∧ μ' = μ ∧ (0 ≤ v1 ∧ v1 ≤ 20) ∧ (0 ≤ v4 ∧ v4 ≤ 4) ∧ (v1 = a1) ∧ (v2 = a2) ∧ (yfd (fun k : Int => μ.1 3000081 (μ.1 66 ((25 : Nat) : Int) + k)) a2.toInt (μ.1 76 (μ.1 66 ((24 : Nat) : Int) + a1)) (μ.1 76 (μ.1 66 ((24 : Nat) : Int) + a1) + μ.1 77 (μ.1 66 ((24 : Nat) : Int) + a1)) = yfd (fun k : Int => μ.1 3000081 (μ.1 66 ((25 : Nat) : Int) + k)) a2.toInt ((μ.1 76 (μ.1 66 ((24 : Nat) : Int) + a1)) + v4) (μ.1 76 (μ.1 66 ((24 : Nat) : Int) + a1) + μ.1 77 (μ.1 66 ((24 : Nat) : Int) + a1))) ∧ n = (Int.toNat (2147483648 - v4)), ?_, ?_, trivial⟩
  · refine And.intro ⟨by omega, by omega⟩ (And.intro (fun c1 => ?_) (fun c1 => ?_))
    · refine Exists.intro (Int.toNat (2147483648 - 0)) ?_
      exact ⟨_, _, _, rfl, rfl, ⟨by omega, by omega⟩, ⟨by omega, by omega⟩, (by omega), rfl, (by rw [Int.add_zero]), rfl⟩
    · exact And.intro trivial (And.intro ⟨by omega, by omega⟩ (hQ _ (by omega) (by omega) (Or.inl (by omega)) (by rw [if_pos (by omega)])))
  · intro vs m0 n hI
    obtain ⟨v1, v2, v4, rfl, em0, hv1, hv4, i0, i1, i2, rfl⟩ := hI
    replace em0 := em0.symm
    subst em0
    intro x2 hx2 kx2 lx2
    refine And.intro ⟨by omega, by omega⟩ ?_
    intro x3 hx3 kx3 lx3
    have N1 : x3 = μ.1 77 (μ.1 66 ((24 : Nat) : Int) + a1) := by rw [hx3, hx2, i0]
    refine And.intro ⟨⟨by omega, by omega⟩, ⟨by omega, by omega⟩⟩ (And.intro (fun c4 => ?_) (fun c4 => ?_))
    · intro x5 hx5 kx5 lx5
      refine And.intro ⟨by omega, by omega⟩ ?_
      intro x6 hx6 kx6 lx6
      have N2 : x6 = μ.1 77 (μ.1 66 ((24 : Nat) : Int) + a1) := by rw [hx6, hx5, i0]
      refine And.intro ⟨⟨by omega, by omega⟩, ⟨by omega, by omega⟩⟩ (And.intro (fun c7 => ?_) (fun c7 => ?_))
      · exact And.intro trivial (And.intro ⟨by omega, by omega⟩ (hQ _ (by omega) (by omega) (Or.inl (by omega)) (by rw [if_neg (by omega), i2, yfd_no (by omega)])))
      · exfalso; omega
    · intro x8 hx8 kx8 lx8
      intro x9 hx9 kx9 lx9
      refine And.intro ⟨by omega, by omega⟩ ?_
      intro x10 hx10 kx10 lx10
      have F1 : x10 = μ.1 76 (μ.1 66 ((24 : Nat) : Int) + a1) := by rw [hx10, hx9, i0]
      refine And.intro ⟨by omega, by omega⟩ ?_
      intro x11 hx11
      intro x12 hx12 kx12 lx12
      have JE : x11.toInt = (fun k : Int => μ.1 3000081 (μ.1 66 ((25 : Nat) : Int) + k)) ((μ.1 76 (μ.1 66 ((24 : Nat) : Int) + a1)) + v4) := by show _ = μ.1 3000081 (_ + (_ + v4)); rw [hx11, show x8 + x10 + v4 = x8 + (x10 + v4) by omega, F1, hx8]
      refine And.intro ⟨by omega, by omega⟩ (And.intro (fun c13 => ?_) (fun c13 => ?_))
      · have bc13 := ylc0 hx12 c13
        intro x14 hx14 kx14 lx14
        refine And.intro ⟨by omega, by omega⟩ ?_
        intro x15 hx15 kx15 lx15
        have N2 : x15 = μ.1 77 (μ.1 66 ((24 : Nat) : Int) + a1) := by rw [hx15, hx14, i0]
        refine And.intro ⟨⟨by omega, by omega⟩, ⟨by omega, by omega⟩⟩ (And.intro (fun c16 => ?_) (fun c16 => ?_))
        · exfalso; omega
        · intro x17 hx17 kx17 lx17
          refine And.intro ⟨by omega, by omega⟩ ?_
          intro x18 hx18 kx18 lx18
          have F2 : x18 = μ.1 76 (μ.1 66 ((24 : Nat) : Int) + a1) := by rw [hx18, hx17, i0]
          exact And.intro trivial (And.intro ⟨by omega, by omega⟩ (hQ _ (by omega) (by omega) (Or.inr (by omega)) (by rw [if_neg (by omega), i2, yfd_at (f := (fun k : Int => μ.1 3000081 (μ.1 66 ((25 : Nat) : Int) + k))) (by omega) (JE.symm.trans (by rw [bc13, i1]))]; omega)))
      · have bc13 := ylcn hx12 c13
        clear c13
        have GO := yfd_go (f := (fun k : Int => μ.1 3000081 (μ.1 66 ((25 : Nat) : Int) + k))) (x := a2.toInt) (lo := (μ.1 76 (μ.1 66 ((24 : Nat) : Int) + a1)) + v4) (hi := (μ.1 76 (μ.1 66 ((24 : Nat) : Int) + a1) + μ.1 77 (μ.1 66 ((24 : Nat) : Int) + a1))) (by omega) (fun h0 => bc13 (by rw [i1]; exact Int64.toInt_inj.mp (JE.trans h0)))
        refine Exists.intro (Int.toNat (2147483648 - (v4 + 1))) (And.intro (by omega) ?_)
        exact ⟨_, _, _, rfl, rfl, ⟨by omega, by omega⟩, ⟨by omega, by omega⟩, (by omega), i1, (by rw [i2, GO, Int.add_assoc]), rfl⟩
def yk_X9_mayStandBehind : zC := fun As μ Q => ∃ (a1 : Int) (a2 : Int), As = [.inr (.inr (66, 66)), .inl a1, .inl a2] ∧ ((-2147483648) ≤ a1 ∧ a1 ≤ 2147483647) ∧ ((-2147483648) ≤ a2 ∧ a2 ≤ 2147483647) ∧ (∀ (v : Int), 0 ≤ v → v ≤ 1 → ((v = 1 ∧ (rmay (μ.1 66 ((32 : Nat) : Int)) a1 a2)) ∨ (v = 0 ∧ ¬ (rmay (μ.1 66 ((32 : Nat) : Int)) a1 a2))) → Q (some (.inl v)) μ)
set_option maxHeartbeats 4000000 in
theorem ym_X9_mayStandBehind {g : zΓ} (hg : zg g) (d : Nat) (hd : 1 ≤ d) : zOk g d 138 yk_X9_mayStandBehind := by
  obtain ⟨d, rfl⟩ : ∃ d', d = d' + 1 := ⟨d - 1, by omega⟩
  refine zOk_straight hg (show mt_tab[138]? = some mt_X9_mayStandBehind from rfl) [] 77 rfl fun As μ Q hC => ?_
  obtain ⟨a1, a2, rfl, ha1, ha2, hQ⟩ := hC
  refine ⟨rfl, ?_⟩
  refine And.intro ⟨by omega, by omega⟩ (And.intro (fun c1 => ?_) (fun c1 => ?_))
  · refine And.intro ⟨by omega, by omega⟩ (And.intro (fun c2 => ?_) (And.intro (fun c2 => ?_) (And.intro (fun c2 => ?_) (And.intro (fun c2 => ?_) (And.intro (fun c2 => ?_) trivial)))))
    · intro x3 hx3 kx3 lx3
      refine And.intro ⟨⟨by omega, by omega⟩, ⟨by omega, by omega⟩⟩ (And.intro (fun c4 => ?_) (fun c4 => ?_))
      · exact And.intro (zrtb (by omega)) (And.intro ⟨by omega, by omega⟩ (hQ _ (by omega) (by omega) (by unfold rmay; first | (rw [if_pos (by omega)]; first | exact Or.inl ⟨rfl, by omega⟩ | exact Or.inr ⟨rfl, by omega⟩) | (rw [if_neg (by omega), if_pos (by omega)]; first | exact Or.inl ⟨rfl, by omega⟩ | exact Or.inr ⟨rfl, by omega⟩) | (rw [if_neg (by omega), if_neg (by omega), if_pos (by omega)]; first | exact Or.inl ⟨rfl, by omega⟩ | exact Or.inr ⟨rfl, by omega⟩) | (rw [if_neg (by omega), if_neg (by omega), if_neg (by omega), if_pos (by omega)]; first | exact Or.inl ⟨rfl, by omega⟩ | exact Or.inr ⟨rfl, by omega⟩) | (rw [if_neg (by omega), if_neg (by omega), if_neg (by omega), if_neg (by omega), if_pos (by omega)]; first | exact Or.inl ⟨rfl, by omega⟩ | exact Or.inr ⟨rfl, by omega⟩) | (rw [if_neg (by omega), if_neg (by omega), if_neg (by omega), if_neg (by omega), if_neg (by omega)]; first | exact Or.inl ⟨rfl, by omega⟩ | exact Or.inr ⟨rfl, by omega⟩))))
      · exact And.intro (zrtb (by omega)) (And.intro ⟨by omega, by omega⟩ (hQ _ (by omega) (by omega) (by unfold rmay; first | (rw [if_pos (by omega)]; first | exact Or.inl ⟨rfl, by omega⟩ | exact Or.inr ⟨rfl, by omega⟩) | (rw [if_neg (by omega), if_pos (by omega)]; first | exact Or.inl ⟨rfl, by omega⟩ | exact Or.inr ⟨rfl, by omega⟩) | (rw [if_neg (by omega), if_neg (by omega), if_pos (by omega)]; first | exact Or.inl ⟨rfl, by omega⟩ | exact Or.inr ⟨rfl, by omega⟩) | (rw [if_neg (by omega), if_neg (by omega), if_neg (by omega), if_pos (by omega)]; first | exact Or.inl ⟨rfl, by omega⟩ | exact Or.inr ⟨rfl, by omega⟩) | (rw [if_neg (by omega), if_neg (by omega), if_neg (by omega), if_neg (by omega), if_pos (by omega)]; first | exact Or.inl ⟨rfl, by omega⟩ | exact Or.inr ⟨rfl, by omega⟩) | (rw [if_neg (by omega), if_neg (by omega), if_neg (by omega), if_neg (by omega), if_neg (by omega)]; first | exact Or.inl ⟨rfl, by omega⟩ | exact Or.inr ⟨rfl, by omega⟩))))
    · intro x5 hx5 kx5 lx5
      refine And.intro ⟨⟨by omega, by omega⟩, ⟨by omega, by omega⟩⟩ (And.intro (fun c6 => ?_) (fun c6 => ?_))
      · exact And.intro (zrtb (by omega)) (And.intro ⟨by omega, by omega⟩ (hQ _ (by omega) (by omega) (by unfold rmay; first | (rw [if_pos (by omega)]; first | exact Or.inl ⟨rfl, by omega⟩ | exact Or.inr ⟨rfl, by omega⟩) | (rw [if_neg (by omega), if_pos (by omega)]; first | exact Or.inl ⟨rfl, by omega⟩ | exact Or.inr ⟨rfl, by omega⟩) | (rw [if_neg (by omega), if_neg (by omega), if_pos (by omega)]; first | exact Or.inl ⟨rfl, by omega⟩ | exact Or.inr ⟨rfl, by omega⟩) | (rw [if_neg (by omega), if_neg (by omega), if_neg (by omega), if_pos (by omega)]; first | exact Or.inl ⟨rfl, by omega⟩ | exact Or.inr ⟨rfl, by omega⟩) | (rw [if_neg (by omega), if_neg (by omega), if_neg (by omega), if_neg (by omega), if_pos (by omega)]; first | exact Or.inl ⟨rfl, by omega⟩ | exact Or.inr ⟨rfl, by omega⟩) | (rw [if_neg (by omega), if_neg (by omega), if_neg (by omega), if_neg (by omega), if_neg (by omega)]; first | exact Or.inl ⟨rfl, by omega⟩ | exact Or.inr ⟨rfl, by omega⟩))))
      · intro x7 hx7 kx7 lx7
        refine And.intro ⟨⟨by omega, by omega⟩, ⟨by omega, by omega⟩⟩ (And.intro (fun c8 => ?_) (fun c8 => ?_))
        · exact And.intro (zrtb (by omega)) (And.intro ⟨by omega, by omega⟩ (hQ _ (by omega) (by omega) (by unfold rmay; first | (rw [if_pos (by omega)]; first | exact Or.inl ⟨rfl, by omega⟩ | exact Or.inr ⟨rfl, by omega⟩) | (rw [if_neg (by omega), if_pos (by omega)]; first | exact Or.inl ⟨rfl, by omega⟩ | exact Or.inr ⟨rfl, by omega⟩) | (rw [if_neg (by omega), if_neg (by omega), if_pos (by omega)]; first | exact Or.inl ⟨rfl, by omega⟩ | exact Or.inr ⟨rfl, by omega⟩) | (rw [if_neg (by omega), if_neg (by omega), if_neg (by omega), if_pos (by omega)]; first | exact Or.inl ⟨rfl, by omega⟩ | exact Or.inr ⟨rfl, by omega⟩) | (rw [if_neg (by omega), if_neg (by omega), if_neg (by omega), if_neg (by omega), if_pos (by omega)]; first | exact Or.inl ⟨rfl, by omega⟩ | exact Or.inr ⟨rfl, by omega⟩) | (rw [if_neg (by omega), if_neg (by omega), if_neg (by omega), if_neg (by omega), if_neg (by omega)]; first | exact Or.inl ⟨rfl, by omega⟩ | exact Or.inr ⟨rfl, by omega⟩))))
        · intro x9 hx9 kx9 lx9
          refine And.intro ⟨⟨by omega, by omega⟩, ⟨by omega, by omega⟩⟩ (And.intro (fun c10 => ?_) (fun c10 => ?_))
          · exact And.intro (zrtb (by omega)) (And.intro ⟨by omega, by omega⟩ (hQ _ (by omega) (by omega) (by unfold rmay; first | (rw [if_pos (by omega)]; first | exact Or.inl ⟨rfl, by omega⟩ | exact Or.inr ⟨rfl, by omega⟩) | (rw [if_neg (by omega), if_pos (by omega)]; first | exact Or.inl ⟨rfl, by omega⟩ | exact Or.inr ⟨rfl, by omega⟩) | (rw [if_neg (by omega), if_neg (by omega), if_pos (by omega)]; first | exact Or.inl ⟨rfl, by omega⟩ | exact Or.inr ⟨rfl, by omega⟩) | (rw [if_neg (by omega), if_neg (by omega), if_neg (by omega), if_pos (by omega)]; first | exact Or.inl ⟨rfl, by omega⟩ | exact Or.inr ⟨rfl, by omega⟩) | (rw [if_neg (by omega), if_neg (by omega), if_neg (by omega), if_neg (by omega), if_pos (by omega)]; first | exact Or.inl ⟨rfl, by omega⟩ | exact Or.inr ⟨rfl, by omega⟩) | (rw [if_neg (by omega), if_neg (by omega), if_neg (by omega), if_neg (by omega), if_neg (by omega)]; first | exact Or.inl ⟨rfl, by omega⟩ | exact Or.inr ⟨rfl, by omega⟩))))
          · intro x11 hx11 kx11 lx11
            refine And.intro ⟨⟨by omega, by omega⟩, ⟨by omega, by omega⟩⟩ (And.intro (fun c12 => ?_) (fun c12 => ?_))
            · exact And.intro (zrtb (by omega)) (And.intro ⟨by omega, by omega⟩ (hQ _ (by omega) (by omega) (by unfold rmay; first | (rw [if_pos (by omega)]; first | exact Or.inl ⟨rfl, by omega⟩ | exact Or.inr ⟨rfl, by omega⟩) | (rw [if_neg (by omega), if_pos (by omega)]; first | exact Or.inl ⟨rfl, by omega⟩ | exact Or.inr ⟨rfl, by omega⟩) | (rw [if_neg (by omega), if_neg (by omega), if_pos (by omega)]; first | exact Or.inl ⟨rfl, by omega⟩ | exact Or.inr ⟨rfl, by omega⟩) | (rw [if_neg (by omega), if_neg (by omega), if_neg (by omega), if_pos (by omega)]; first | exact Or.inl ⟨rfl, by omega⟩ | exact Or.inr ⟨rfl, by omega⟩) | (rw [if_neg (by omega), if_neg (by omega), if_neg (by omega), if_neg (by omega), if_pos (by omega)]; first | exact Or.inl ⟨rfl, by omega⟩ | exact Or.inr ⟨rfl, by omega⟩) | (rw [if_neg (by omega), if_neg (by omega), if_neg (by omega), if_neg (by omega), if_neg (by omega)]; first | exact Or.inl ⟨rfl, by omega⟩ | exact Or.inr ⟨rfl, by omega⟩))))
            · exact And.intro (zrtb (by omega)) (And.intro ⟨by omega, by omega⟩ (hQ _ (by omega) (by omega) (by unfold rmay; first | (rw [if_pos (by omega)]; first | exact Or.inl ⟨rfl, by omega⟩ | exact Or.inr ⟨rfl, by omega⟩) | (rw [if_neg (by omega), if_pos (by omega)]; first | exact Or.inl ⟨rfl, by omega⟩ | exact Or.inr ⟨rfl, by omega⟩) | (rw [if_neg (by omega), if_neg (by omega), if_pos (by omega)]; first | exact Or.inl ⟨rfl, by omega⟩ | exact Or.inr ⟨rfl, by omega⟩) | (rw [if_neg (by omega), if_neg (by omega), if_neg (by omega), if_pos (by omega)]; first | exact Or.inl ⟨rfl, by omega⟩ | exact Or.inr ⟨rfl, by omega⟩) | (rw [if_neg (by omega), if_neg (by omega), if_neg (by omega), if_neg (by omega), if_pos (by omega)]; first | exact Or.inl ⟨rfl, by omega⟩ | exact Or.inr ⟨rfl, by omega⟩) | (rw [if_neg (by omega), if_neg (by omega), if_neg (by omega), if_neg (by omega), if_neg (by omega)]; first | exact Or.inl ⟨rfl, by omega⟩ | exact Or.inr ⟨rfl, by omega⟩))))
    · intro x13 hx13 kx13 lx13
      refine And.intro ⟨⟨by omega, by omega⟩, ⟨by omega, by omega⟩⟩ (And.intro (fun c14 => ?_) (fun c14 => ?_))
      · exact And.intro (zrtb (by omega)) (And.intro ⟨by omega, by omega⟩ (hQ _ (by omega) (by omega) (by unfold rmay; first | (rw [if_pos (by omega)]; first | exact Or.inl ⟨rfl, by omega⟩ | exact Or.inr ⟨rfl, by omega⟩) | (rw [if_neg (by omega), if_pos (by omega)]; first | exact Or.inl ⟨rfl, by omega⟩ | exact Or.inr ⟨rfl, by omega⟩) | (rw [if_neg (by omega), if_neg (by omega), if_pos (by omega)]; first | exact Or.inl ⟨rfl, by omega⟩ | exact Or.inr ⟨rfl, by omega⟩) | (rw [if_neg (by omega), if_neg (by omega), if_neg (by omega), if_pos (by omega)]; first | exact Or.inl ⟨rfl, by omega⟩ | exact Or.inr ⟨rfl, by omega⟩) | (rw [if_neg (by omega), if_neg (by omega), if_neg (by omega), if_neg (by omega), if_pos (by omega)]; first | exact Or.inl ⟨rfl, by omega⟩ | exact Or.inr ⟨rfl, by omega⟩) | (rw [if_neg (by omega), if_neg (by omega), if_neg (by omega), if_neg (by omega), if_neg (by omega)]; first | exact Or.inl ⟨rfl, by omega⟩ | exact Or.inr ⟨rfl, by omega⟩))))
      · intro x15 hx15 kx15 lx15
        refine And.intro ⟨⟨by omega, by omega⟩, ⟨by omega, by omega⟩⟩ (And.intro (fun c16 => ?_) (fun c16 => ?_))
        · exact And.intro (zrtb (by omega)) (And.intro ⟨by omega, by omega⟩ (hQ _ (by omega) (by omega) (by unfold rmay; first | (rw [if_pos (by omega)]; first | exact Or.inl ⟨rfl, by omega⟩ | exact Or.inr ⟨rfl, by omega⟩) | (rw [if_neg (by omega), if_pos (by omega)]; first | exact Or.inl ⟨rfl, by omega⟩ | exact Or.inr ⟨rfl, by omega⟩) | (rw [if_neg (by omega), if_neg (by omega), if_pos (by omega)]; first | exact Or.inl ⟨rfl, by omega⟩ | exact Or.inr ⟨rfl, by omega⟩) | (rw [if_neg (by omega), if_neg (by omega), if_neg (by omega), if_pos (by omega)]; first | exact Or.inl ⟨rfl, by omega⟩ | exact Or.inr ⟨rfl, by omega⟩) | (rw [if_neg (by omega), if_neg (by omega), if_neg (by omega), if_neg (by omega), if_pos (by omega)]; first | exact Or.inl ⟨rfl, by omega⟩ | exact Or.inr ⟨rfl, by omega⟩) | (rw [if_neg (by omega), if_neg (by omega), if_neg (by omega), if_neg (by omega), if_neg (by omega)]; first | exact Or.inl ⟨rfl, by omega⟩ | exact Or.inr ⟨rfl, by omega⟩))))
        · exact And.intro (zrtb (by omega)) (And.intro ⟨by omega, by omega⟩ (hQ _ (by omega) (by omega) (by unfold rmay; first | (rw [if_pos (by omega)]; first | exact Or.inl ⟨rfl, by omega⟩ | exact Or.inr ⟨rfl, by omega⟩) | (rw [if_neg (by omega), if_pos (by omega)]; first | exact Or.inl ⟨rfl, by omega⟩ | exact Or.inr ⟨rfl, by omega⟩) | (rw [if_neg (by omega), if_neg (by omega), if_pos (by omega)]; first | exact Or.inl ⟨rfl, by omega⟩ | exact Or.inr ⟨rfl, by omega⟩) | (rw [if_neg (by omega), if_neg (by omega), if_neg (by omega), if_pos (by omega)]; first | exact Or.inl ⟨rfl, by omega⟩ | exact Or.inr ⟨rfl, by omega⟩) | (rw [if_neg (by omega), if_neg (by omega), if_neg (by omega), if_neg (by omega), if_pos (by omega)]; first | exact Or.inl ⟨rfl, by omega⟩ | exact Or.inr ⟨rfl, by omega⟩) | (rw [if_neg (by omega), if_neg (by omega), if_neg (by omega), if_neg (by omega), if_neg (by omega)]; first | exact Or.inl ⟨rfl, by omega⟩ | exact Or.inr ⟨rfl, by omega⟩))))
    · intro x17 hx17 kx17 lx17
      refine And.intro ⟨⟨by omega, by omega⟩, ⟨by omega, by omega⟩⟩ (And.intro (fun c18 => ?_) (fun c18 => ?_))
      · exact And.intro (zrtb (by omega)) (And.intro ⟨by omega, by omega⟩ (hQ _ (by omega) (by omega) (by unfold rmay; first | (rw [if_pos (by omega)]; first | exact Or.inl ⟨rfl, by omega⟩ | exact Or.inr ⟨rfl, by omega⟩) | (rw [if_neg (by omega), if_pos (by omega)]; first | exact Or.inl ⟨rfl, by omega⟩ | exact Or.inr ⟨rfl, by omega⟩) | (rw [if_neg (by omega), if_neg (by omega), if_pos (by omega)]; first | exact Or.inl ⟨rfl, by omega⟩ | exact Or.inr ⟨rfl, by omega⟩) | (rw [if_neg (by omega), if_neg (by omega), if_neg (by omega), if_pos (by omega)]; first | exact Or.inl ⟨rfl, by omega⟩ | exact Or.inr ⟨rfl, by omega⟩) | (rw [if_neg (by omega), if_neg (by omega), if_neg (by omega), if_neg (by omega), if_pos (by omega)]; first | exact Or.inl ⟨rfl, by omega⟩ | exact Or.inr ⟨rfl, by omega⟩) | (rw [if_neg (by omega), if_neg (by omega), if_neg (by omega), if_neg (by omega), if_neg (by omega)]; first | exact Or.inl ⟨rfl, by omega⟩ | exact Or.inr ⟨rfl, by omega⟩))))
      · exact And.intro (zrtb (by omega)) (And.intro ⟨by omega, by omega⟩ (hQ _ (by omega) (by omega) (by unfold rmay; first | (rw [if_pos (by omega)]; first | exact Or.inl ⟨rfl, by omega⟩ | exact Or.inr ⟨rfl, by omega⟩) | (rw [if_neg (by omega), if_pos (by omega)]; first | exact Or.inl ⟨rfl, by omega⟩ | exact Or.inr ⟨rfl, by omega⟩) | (rw [if_neg (by omega), if_neg (by omega), if_pos (by omega)]; first | exact Or.inl ⟨rfl, by omega⟩ | exact Or.inr ⟨rfl, by omega⟩) | (rw [if_neg (by omega), if_neg (by omega), if_neg (by omega), if_pos (by omega)]; first | exact Or.inl ⟨rfl, by omega⟩ | exact Or.inr ⟨rfl, by omega⟩) | (rw [if_neg (by omega), if_neg (by omega), if_neg (by omega), if_neg (by omega), if_pos (by omega)]; first | exact Or.inl ⟨rfl, by omega⟩ | exact Or.inr ⟨rfl, by omega⟩) | (rw [if_neg (by omega), if_neg (by omega), if_neg (by omega), if_neg (by omega), if_neg (by omega)]; first | exact Or.inl ⟨rfl, by omega⟩ | exact Or.inr ⟨rfl, by omega⟩))))
    · intro x19 hx19 kx19 lx19
      refine And.intro ⟨⟨by omega, by omega⟩, ⟨by omega, by omega⟩⟩ (And.intro (fun c20 => ?_) (fun c20 => ?_))
      · exact And.intro (zrtb (by omega)) (And.intro ⟨by omega, by omega⟩ (hQ _ (by omega) (by omega) (by unfold rmay; first | (rw [if_pos (by omega)]; first | exact Or.inl ⟨rfl, by omega⟩ | exact Or.inr ⟨rfl, by omega⟩) | (rw [if_neg (by omega), if_pos (by omega)]; first | exact Or.inl ⟨rfl, by omega⟩ | exact Or.inr ⟨rfl, by omega⟩) | (rw [if_neg (by omega), if_neg (by omega), if_pos (by omega)]; first | exact Or.inl ⟨rfl, by omega⟩ | exact Or.inr ⟨rfl, by omega⟩) | (rw [if_neg (by omega), if_neg (by omega), if_neg (by omega), if_pos (by omega)]; first | exact Or.inl ⟨rfl, by omega⟩ | exact Or.inr ⟨rfl, by omega⟩) | (rw [if_neg (by omega), if_neg (by omega), if_neg (by omega), if_neg (by omega), if_pos (by omega)]; first | exact Or.inl ⟨rfl, by omega⟩ | exact Or.inr ⟨rfl, by omega⟩) | (rw [if_neg (by omega), if_neg (by omega), if_neg (by omega), if_neg (by omega), if_neg (by omega)]; first | exact Or.inl ⟨rfl, by omega⟩ | exact Or.inr ⟨rfl, by omega⟩))))
      · exact And.intro (zrtb (by omega)) (And.intro ⟨by omega, by omega⟩ (hQ _ (by omega) (by omega) (by unfold rmay; first | (rw [if_pos (by omega)]; first | exact Or.inl ⟨rfl, by omega⟩ | exact Or.inr ⟨rfl, by omega⟩) | (rw [if_neg (by omega), if_pos (by omega)]; first | exact Or.inl ⟨rfl, by omega⟩ | exact Or.inr ⟨rfl, by omega⟩) | (rw [if_neg (by omega), if_neg (by omega), if_pos (by omega)]; first | exact Or.inl ⟨rfl, by omega⟩ | exact Or.inr ⟨rfl, by omega⟩) | (rw [if_neg (by omega), if_neg (by omega), if_neg (by omega), if_pos (by omega)]; first | exact Or.inl ⟨rfl, by omega⟩ | exact Or.inr ⟨rfl, by omega⟩) | (rw [if_neg (by omega), if_neg (by omega), if_neg (by omega), if_neg (by omega), if_pos (by omega)]; first | exact Or.inl ⟨rfl, by omega⟩ | exact Or.inr ⟨rfl, by omega⟩) | (rw [if_neg (by omega), if_neg (by omega), if_neg (by omega), if_neg (by omega), if_neg (by omega)]; first | exact Or.inl ⟨rfl, by omega⟩ | exact Or.inr ⟨rfl, by omega⟩))))
  · intro x21 hx21 kx21 lx21
    refine And.intro ⟨⟨by omega, by omega⟩, ⟨by omega, by omega⟩⟩ (And.intro (fun c22 => ?_) (fun c22 => ?_))
    · exact And.intro (zrtb (by omega)) (And.intro ⟨by omega, by omega⟩ (hQ _ (by omega) (by omega) (by unfold rmay; first | (rw [if_pos (by omega)]; first | exact Or.inl ⟨rfl, by omega⟩ | exact Or.inr ⟨rfl, by omega⟩) | (rw [if_neg (by omega), if_pos (by omega)]; first | exact Or.inl ⟨rfl, by omega⟩ | exact Or.inr ⟨rfl, by omega⟩) | (rw [if_neg (by omega), if_neg (by omega), if_pos (by omega)]; first | exact Or.inl ⟨rfl, by omega⟩ | exact Or.inr ⟨rfl, by omega⟩) | (rw [if_neg (by omega), if_neg (by omega), if_neg (by omega), if_pos (by omega)]; first | exact Or.inl ⟨rfl, by omega⟩ | exact Or.inr ⟨rfl, by omega⟩) | (rw [if_neg (by omega), if_neg (by omega), if_neg (by omega), if_neg (by omega), if_pos (by omega)]; first | exact Or.inl ⟨rfl, by omega⟩ | exact Or.inr ⟨rfl, by omega⟩) | (rw [if_neg (by omega), if_neg (by omega), if_neg (by omega), if_neg (by omega), if_neg (by omega)]; first | exact Or.inl ⟨rfl, by omega⟩ | exact Or.inr ⟨rfl, by omega⟩))))
    · intro x23 hx23 kx23 lx23
      refine And.intro ⟨⟨by omega, by omega⟩, ⟨by omega, by omega⟩⟩ (And.intro (fun c24 => ?_) (fun c24 => ?_))
      · exact And.intro (zrtb (by omega)) (And.intro ⟨by omega, by omega⟩ (hQ _ (by omega) (by omega) (by unfold rmay; first | (rw [if_pos (by omega)]; first | exact Or.inl ⟨rfl, by omega⟩ | exact Or.inr ⟨rfl, by omega⟩) | (rw [if_neg (by omega), if_pos (by omega)]; first | exact Or.inl ⟨rfl, by omega⟩ | exact Or.inr ⟨rfl, by omega⟩) | (rw [if_neg (by omega), if_neg (by omega), if_pos (by omega)]; first | exact Or.inl ⟨rfl, by omega⟩ | exact Or.inr ⟨rfl, by omega⟩) | (rw [if_neg (by omega), if_neg (by omega), if_neg (by omega), if_pos (by omega)]; first | exact Or.inl ⟨rfl, by omega⟩ | exact Or.inr ⟨rfl, by omega⟩) | (rw [if_neg (by omega), if_neg (by omega), if_neg (by omega), if_neg (by omega), if_pos (by omega)]; first | exact Or.inl ⟨rfl, by omega⟩ | exact Or.inr ⟨rfl, by omega⟩) | (rw [if_neg (by omega), if_neg (by omega), if_neg (by omega), if_neg (by omega), if_neg (by omega)]; first | exact Or.inl ⟨rfl, by omega⟩ | exact Or.inr ⟨rfl, by omega⟩))))
      · exact And.intro (zrtb (by omega)) (And.intro ⟨by omega, by omega⟩ (hQ _ (by omega) (by omega) (by unfold rmay; first | (rw [if_pos (by omega)]; first | exact Or.inl ⟨rfl, by omega⟩ | exact Or.inr ⟨rfl, by omega⟩) | (rw [if_neg (by omega), if_pos (by omega)]; first | exact Or.inl ⟨rfl, by omega⟩ | exact Or.inr ⟨rfl, by omega⟩) | (rw [if_neg (by omega), if_neg (by omega), if_pos (by omega)]; first | exact Or.inl ⟨rfl, by omega⟩ | exact Or.inr ⟨rfl, by omega⟩) | (rw [if_neg (by omega), if_neg (by omega), if_neg (by omega), if_pos (by omega)]; first | exact Or.inl ⟨rfl, by omega⟩ | exact Or.inr ⟨rfl, by omega⟩) | (rw [if_neg (by omega), if_neg (by omega), if_neg (by omega), if_neg (by omega), if_pos (by omega)]; first | exact Or.inl ⟨rfl, by omega⟩ | exact Or.inr ⟨rfl, by omega⟩) | (rw [if_neg (by omega), if_neg (by omega), if_neg (by omega), if_neg (by omega), if_neg (by omega)]; first | exact Or.inl ⟨rfl, by omega⟩ | exact Or.inr ⟨rfl, by omega⟩))))
