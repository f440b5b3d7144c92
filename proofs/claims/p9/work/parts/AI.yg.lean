/-! ### the tape is cut into tokens -/
/-- where the k-th token is looked for -/
def yP (T : yT) : Nat → Int
  | 0 => 0
  | k + 1 => ynx T (yP T k)
theorem ysz_c {T : yT} {i j : Int} (h : ypl T i = ypl T j) : ysz T i = ysz T j := by unfold ysz; rw [h]
theorem ynm_c {T : yT} {i j : Int} (h : ypl T i = ypl T j) : ynm T i = ynm T j := by unfold ynm; rw [ysz_c h, h]
theorem ykd_c {T : yT} {i j : Int} (h : ypl T i = ypl T j) : ykd T i = ykd T j := by unfold ykd; rw [ysz_c h, ynm_c h, h]
theorem ykd_n {T : yT} {i : Int} (h : ¬ T.2 ≤ ypl T i) : ykd T i = ykn (T.1 (ypl T i)) (ysz T i) (ynm T i) := by unfold ykd ykn; rw [if_neg h]
theorem ySg_p {b : Int} (h : ySg b = true) : 38 ≤ b ∧ b ≤ 94 := by
  unfold ySg at h
  simp only [Bool.or_eq_true, decide_eq_true_eq] at h
  omega
theorem ykn_p (b sz : Int) (nm : Int64) : ykn b sz nm ≠ 0 := by
  unfold ykn
  split
  · split
    · decide
    · split
      · decide
      · split
        · decide
        · split <;> decide
  · split
    · rename_i h
      have := ySg_p h
      omega
    · decide
theorem ypl_nb {T : yT} {i : Int} (h : ¬ (T.1 i = 32 ∨ T.1 i = 10)) : ypl T i = i := yru_st (fun q => h (by have := q.2; unfold yBl at this; simpa using this))
theorem ypl_b {T : yT} {i : Int} (hi : i < T.2) (h : T.1 i = 32 ∨ T.1 i = 10) : ypl T i = ypl T (i + 1) := yru_go hi (by unfold yBl; simpa using h)
theorem ypl_e {T : yT} {i : Int} (h : T.2 ≤ i) : ypl T i = i := yru_st (fun q => by have := q.1; omega)
def yTs (T : yT) (μ : zM) (m : Nat) : Prop := ∀ k : Nat, k < m → (μ.1 3 k = ykd T (yP T k) ∧ μ.1 4 k = ypl T (yP T k) ∧ μ.1 3000005 k = (ynm T (yP T k)).toInt) ∧ ykd T (yP T k) ≠ 0
def yCI (T : yT) (μ μ' : zM) (c i : Int) : Prop := (∀ j : Nat, j ≠ 3 → j ≠ 4 → j ≠ 3000005 → μ'.1 j = μ.1 j) ∧ (0 ≤ c ∧ c ≤ i ∧ i ≤ T.2) ∧ ypl T i = ypl T (yP T c.toNat) ∧ yTs T μ' c.toNat
theorem yCI_0 (T : yT) (μ : zM) (h : 0 ≤ T.2) : yCI T μ μ 0 0 := ⟨fun _ _ _ _ => rfl, ⟨by omega, by omega, h⟩, rfl, fun k hk => by exact absurd hk (by simp)⟩
theorem yCI_b {T : yT} {μ m0 : zM} {c i : Int} (h : yCI T μ m0 c i) (hi : i < T.2) (hb : T.1 i = 32 ∨ T.1 i = 10) : yCI T μ m0 c (i + 1) := ⟨h.1, ⟨h.2.1.1, by have := h.2.1.2.1; omega, by omega⟩, (ypl_b hi hb).symm.trans h.2.2.1, h.2.2.2⟩
theorem ysz_1 {T : yT} {i x s : Int} (hp : ypl T i = i) (hi : i < T.2) (hx : x = if i < T.2 ∧ yLet (T.1 i) = true then yru yNb T (i + 1) - i else 0) (h1 : 1 ≤ s) (h2 : x ≤ s) (h3 : s = 1 ∨ s = x) : s = ysz T i ∧ i + s ≤ T.2 := by
  unfold ysz
  rw [hp, if_neg (by omega)]
  by_cases q : yLet (T.1 i) = true
  · rw [if_pos ⟨hi, q⟩] at hx
    rw [if_pos q]
    have g1 := yru_ge yNb T (i + 1)
    have g2 := yru_le (p := yNb) (T := T) (i := i + 1) (by omega)
    omega
  · rw [if_neg (fun c => q c.2)] at hx
    rw [if_neg q]
    omega
theorem yCI_s {T : yT} {μ m0 m1 m2 m3 : zM} {c i b sz y : Int} {nm nm' : Int64} (h : yCI T μ m0 c i) (hi : i < T.2) (hb : b = T.1 i) (nb1 : ¬ b = 32) (nb2 : ¬ b = 10) (hsz : sz = ysz T i ∧ i + sz ≤ T.2) (h1 : 1 ≤ sz) (e1 : m1 = zu m0 4 c i) (hn : nm = ynm T i) (e2 : m2 = zu m1 3000005 c nm.toInt) (hn' : nm'.toInt = m2.1 3000005 c) (hy : y = ykn b sz nm') (e3 : m3 = zu m2 3 c y) : yCI T μ m3 (c + 1) (i + sz) := by
  have hp : ypl T i = i := ypl_nb (by rw [← hb]; omega)
  obtain ⟨a1, ⟨a3, a4, a5⟩, a6, a7⟩ := h
  obtain ⟨k, rfl⟩ : ∃ k : Nat, c = k := ⟨c.toNat, by omega⟩
  rw [show ((k : Int)).toNat = k by omega] at a6 a7
  have hm : nm' = nm := by
    apply Int64.toInt_inj.mp
    rw [hn', e2, zu_at]
  subst hm
  have hpk : ypl T (yP T k) = i := by rw [← a6, hp]
  refine ⟨fun j j1 j2 j3 => by rw [e3, zu_ne j1, e2, zu_ne j3, e1, zu_ne j2]; exact a1 j j1 j2 j3, ⟨by omega, by omega, hsz.2⟩, ?_, ?_⟩
  · rw [show (((k : Int) + 1)).toNat = k + 1 by omega]
    congr 1
    show i + sz = ynx T (yP T k)
    unfold ynx
    rw [hpk, ← ysz_c (hp.trans hpk.symm), hsz.1]
  · rw [show (((k : Int) + 1)).toNat = k + 1 by omega]
    intro q hq
    by_cases e : q = k
    · subst e
      have hk : ykd T (yP T q) = ykn b sz nm' := by
        rw [← ykd_c (hp.trans hpk.symm), ykd_n (by rw [hp]; omega), hp, ← hb, ← hsz.1, ← hn]
      refine ⟨⟨?_, ?_, ?_⟩, ?_⟩
      · rw [hk, e3, zu_at, hy]
      · rw [e3, zu_ne (by decide), e2, zu_ne (by decide), e1, zu_at, hpk]
      · rw [e3, zu_ne (by decide), e2, zu_at, hn, ynm_c (hp.trans hpk.symm)]
      · rw [hk]; exact ykn_p _ _ _
    · have := a7 q (by omega)
      rw [e3, zu_nk (by omega), zu_ne (by decide), zu_ne (by decide), e2, zu_ne (by decide), zu_ne (by decide), zu_nk (by omega), e1, zu_ne (by decide), zu_nk (by omega), zu_ne (by decide)]
      exact this
/-- the class stands at the token that is looked for at p -/
def yRT (T : yT) (μ : zM) (p : Int) : Prop := ∃ m k : Nat, (m ≤ 800 ∧ k ≤ m) ∧ yTs T μ m ∧ (ykd T (yP T m) = 0 ∧ μ.1 3 m = 0 ∧ μ.1 4 m = ypl T (yP T m) ∧ μ.1 3000005 m = (ynm T (yP T m)).toInt) ∧ (p = yP T k ∧ μ.1 1 ((5 : Nat) : Int) = k) ∧ μ.1 1 ((6 : Nat) : Int) = ykd T p ∧ μ.1 1 ((7 : Nat) : Int) = ypl T p ∧ μ.1 5000001 ((8 : Nat) : Int) = (ynm T p).toInt
theorem yRT_at {T : yT} {μ : zM} {m k : Nat} (h : yTs T μ m) (he : ykd T (yP T m) = 0 ∧ μ.1 3 m = 0 ∧ μ.1 4 m = ypl T (yP T m) ∧ μ.1 3000005 m = (ynm T (yP T m)).toInt) (hk : k ≤ m) : μ.1 3 k = ykd T (yP T k) ∧ μ.1 4 k = ypl T (yP T k) ∧ μ.1 3000005 k = (ynm T (yP T k)).toInt := by
  by_cases q : k = m
  · subst q; exact ⟨he.2.1.trans he.1.symm, he.2.2⟩
  · exact (h k (by omega)).1
def ystM (μ : zM) : zM := zu (zu (zu (zu μ 1 ((5 : Nat) : Int) (μ.1 1 ((5 : Nat) : Int) + 1)) 1 ((6 : Nat) : Int) (μ.1 3 (μ.1 1 ((5 : Nat) : Int) + 1))) 1 ((7 : Nat) : Int) (μ.1 4 (μ.1 1 ((5 : Nat) : Int) + 1))) 5000001 ((8 : Nat) : Int) (μ.1 3000005 (μ.1 1 ((5 : Nat) : Int) + 1))
theorem ystM_ne (μ : zM) (j : Nat) (h1 : j ≠ 1) (h2 : j ≠ 5000001) : (ystM μ).1 j = μ.1 j := by unfold ystM; rw [zu_ne h2, zu_ne h1, zu_ne h1, zu_ne h1]
theorem yRT_st {T : yT} {μ : zM} {m k : Nat} (hm : m ≤ 800) (hk : k ≤ m) (h : yTs T μ m) (he : ykd T (yP T m) = 0 ∧ μ.1 3 m = 0 ∧ μ.1 4 m = ypl T (yP T m) ∧ μ.1 3000005 m = (ynm T (yP T m)).toInt) (hc : μ.1 1 ((5 : Nat) : Int) + 1 = k) : yRT T (ystM μ) (yP T k) := by
  have ha := yRT_at h he hk
  refine ⟨m, k, ⟨hm, hk⟩, fun q hq => ?_, ?_, ⟨rfl, ?_⟩, ?_, ?_, ?_⟩
  · rw [ystM_ne _ 3 (by decide) (by decide), ystM_ne _ 4 (by decide) (by decide), ystM_ne _ 3000005 (by decide) (by decide)]
    exact h q hq
  · rw [ystM_ne _ 3 (by decide) (by decide), ystM_ne _ 4 (by decide) (by decide), ystM_ne _ 3000005 (by decide) (by decide)]
    exact he
  · unfold ystM; rw [zu_ne (by decide), zu_nk (by decide), zu_nk (by decide), zu_at]; exact hc
  · unfold ystM; rw [zu_ne (by decide), zu_nk (by decide), zu_at, hc]; exact ha.1
  · unfold ystM; rw [zu_ne (by decide), zu_at, hc]; exact ha.2.1
  · unfold ystM; rw [zu_at, hc]; exact ha.2.2
theorem yRT_s {T : yT} {μ : zM} {p : Int} (h : yRT T μ p) (hp : ykd T p ≠ 0) : yRT T (ystM μ) (ynx T p) ∧ μ.1 1 ((5 : Nat) : Int) + 1 ≤ 800 := by
  obtain ⟨m, k, ⟨h1, h2⟩, h3, h4, ⟨h5, h6⟩, h7⟩ := h
  have hk : k ≠ m := fun q => hp (by rw [h5, q]; exact h4.1)
  rw [h5]
  exact ⟨yRT_st (k := k + 1) h1 (by omega) h3 h4 (by omega), by omega⟩
/-- what stands behind the token at hand -/
theorem yRT_n {T : yT} {μ : zM} {p : Int} (h : yRT T μ p) (hp : ykd T p ≠ 0) : (0 ≤ μ.1 1 ((5 : Nat) : Int) ∧ μ.1 1 ((5 : Nat) : Int) ≤ 799) ∧ μ.1 3 (μ.1 1 ((5 : Nat) : Int) + 1) = ykd T (ynx T p) := by
  obtain ⟨m, k, ⟨h1, h2⟩, h3, h4, ⟨h5, h6⟩, h7⟩ := h
  have hk : k ≠ m := fun q => hp (by rw [h5, q]; exact h4.1)
  refine ⟨⟨by omega, by omega⟩, ?_⟩
  have := (yRT_at (k := k + 1) h3 h4 (by omega)).1
  rw [h6, h5]
  exact this
theorem yRT_fr {T : yT} {μ μ' : zM} {p : Int} (h : yRT T μ p) (h1 : μ'.1 1 = μ.1 1) (h3 : μ'.1 3 = μ.1 3) (h4 : μ'.1 4 = μ.1 4) (h5 : μ'.1 3000005 = μ.1 3000005) (h6 : μ'.1 5000001 = μ.1 5000001) : yRT T μ' p := by
  unfold yRT yTs at *
  rw [h1, h3, h4, h5, h6]
  exact h
/-- all is cut -/
theorem yCI_e {T : yT} {μ m0 m1 m2 m3 m4 m5 m6 : zM} {c i l : Int} (h : yCI T μ m0 c i) (hi : T.2 ≤ i) (hl : T.2 ≤ 800) (hlx : l = T.2) (e1 : m1 = zu m0 4 c l) (e2 : m2 = zu m1 3000005 c (0 : Int64).toInt) (e3 : m3 = zu m2 3 c 0) (e4 : m4 = zu m3 1 ((4 : Nat) : Int) 0) (e5 : m5 = zu m4 1 ((5 : Nat) : Int) (-1)) (e6 : m6 = zu m5 1 ((6 : Nat) : Int) 1) : yRT T (ystM m6) 0 ∧ (∀ j : Nat, j ≠ 1 → j ≠ 3 → j ≠ 4 → j ≠ 3000005 → j ≠ 5000001 → (ystM m6).1 j = μ.1 j) ∧ (ystM m6).1 1 ((4 : Nat) : Int) = 0 := by
  obtain ⟨a1, ⟨a3, a4, a5⟩, a6, a7⟩ := h
  obtain ⟨k, rfl⟩ : ∃ k : Nat, c = k := ⟨c.toNat, by omega⟩
  rw [show ((k : Int)).toNat = k by omega] at a6 a7
  have hp : ypl T (yP T k) = T.2 := by rw [← a6, ypl_e hi]; omega
  have hz : ysz T (yP T k) = 0 := by unfold ysz; rw [hp, if_pos (Int.le_refl _)]
  have n3 : m6.1 3 = m3.1 3 := by rw [e6, zu_ne (by decide), e5, zu_ne (by decide), e4, zu_ne (by decide)]
  have n4 : m6.1 4 = m1.1 4 := by rw [e6, zu_ne (by decide), e5, zu_ne (by decide), e4, zu_ne (by decide), e3, zu_ne (by decide), e2, zu_ne (by decide)]
  have n5 : m6.1 3000005 = m2.1 3000005 := by rw [e6, zu_ne (by decide), e5, zu_ne (by decide), e4, zu_ne (by decide), e3, zu_ne (by decide)]
  refine ⟨?_, fun j j1 j2 j3 j4 j5 => ?_, ?_⟩
  rotate_left
  · rw [ystM_ne _ j j1 j5, e6, zu_ne j1, e5, zu_ne j1, e4, zu_ne j1, e3, zu_ne j2, e2, zu_ne j4, e1, zu_ne j3]
    exact a1 j j2 j3 j4
  · unfold ystM
    rw [zu_ne (by decide), zu_nk (by decide), zu_nk (by decide), zu_nk (by decide), e6, zu_nk (by decide), e5, zu_nk (by decide), e4, zu_at]
  refine yRT_st (m := k) (k := 0) (by omega) (by omega) (fun q hq => ?_) ⟨?_, ?_, ?_, ?_⟩ ?_
  · rw [n3, n4, n5, e3, zu_nk (by omega), e2, zu_ne (by decide), e1, zu_ne (by decide), zu_nk (by omega), zu_nk (by omega), zu_ne (by decide)]
    exact a7 q hq
  · unfold ykd; rw [hp, if_pos (Int.le_refl _)]
  · rw [n3, e3, zu_at]
  · rw [n4, e1, zu_at, hp, hlx]
  · rw [n5, e2, zu_at]
    unfold ynm
    rw [hz, if_pos (by decide)]
    rfl
  · rw [e6, zu_nk (by decide), e5, zu_at]; rfl
