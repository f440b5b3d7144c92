/-! ### the reference: what tokens are -/
def yNe (a b : Int) : Prop := a ≠ b
theorem yNb_iff (x : Int) : yNb x = true ↔ yLet x = true ∨ (48 ≤ x ∧ x ≤ 57) := by simp [yNb]
theorem yvR {T : yT} {j i x : Int} {v : Int64} (h : v = yv T j (i - j).toNat) (hi : j ≤ i) (hx : x = T.1 i) : (v <<< ((Int32.ofInt 8).toInt64 &&& 63)) ||| (Int32.ofInt x).toInt64 = yv T j (i + 1 - j).toNat := by
  obtain ⟨k, hk⟩ : ∃ k : Nat, (i - j).toNat = k := ⟨_, rfl⟩
  rw [show (i + 1 - j).toNat = k + 1 by omega]
  rw [hk] at h
  show _ = (yv T j k <<< _) ||| (Int32.ofInt (T.1 (j + k))).toInt64
  rw [h, hx, show j + (k : Int) = i by omega]
/-- a token's number in the reference -/
def rtk (k : Int) : Int := if k = 0 then 256 else if k = 1 then 261 else if k = 2 then 257 else if k = 3 then 258 else if k = 4 then 259 else if k = 5 then 260 else k
theorem ynm_e {T : yT} {p a s : Int} (h : ypl T p = a) (hs : ysz T p = s) (h8 : s ≤ 8) : ynm T p = yv T a s.toNat := by unfold ynm; rw [hs, if_pos h8, h]
theorem rpa_e {T : yT} {p a t q z n : Int} (h : ypl T p = a) (he : T.2 ≤ a) (ht : t = 256) (hq : q = a) (hz : z = 0) (hn : n = a) : t = rtk (ykd T p) ∧ q = ypl T p ∧ z = ysz T p ∧ n = ynx T p := by
  have e1 : ykd T p = 0 := by unfold ykd; rw [h, if_pos he]
  have e2 : ysz T p = 0 := by unfold ysz; rw [h, if_pos he]
  refine ⟨by rw [e1, ht]; rfl, by rw [h]; exact hq, by rw [e2]; exact hz, ?_⟩
  unfold ynx
  rw [h, e2]
  omega
theorem rpa_s {T : yT} {p a t q z n : Int} (h : ypl T p = a) (he : a < T.2) (hl : ¬ yLet (T.1 a) = true) (ht : (t = T.1 a ∧ ySg (T.1 a) = true) ∨ (t = 261 ∧ ¬ ySg (T.1 a) = true)) (hq : q = a) (hz : z = 1) (hn : n = a + 1) : t = rtk (ykd T p) ∧ q = ypl T p ∧ z = ysz T p ∧ n = ynx T p := by
  have e2 : ysz T p = 1 := by unfold ysz; rw [h, if_neg (by omega), if_neg hl]
  refine ⟨?_, by rw [h]; exact hq, by rw [e2]; exact hz, ?_⟩
  · unfold ykd
    rw [h, if_neg (by omega), if_neg hl]
    rcases ht with ⟨h1, h2⟩ | ⟨h1, h2⟩
    · rw [if_pos h2, h1]
      have h3 := h2
      unfold ySg at h3
      simp only [Bool.or_eq_true, decide_eq_true_eq] at h3
      unfold rtk
      rw [if_neg (by omega), if_neg (by omega), if_neg (by omega), if_neg (by omega), if_neg (by omega), if_neg (by omega)]
    · rw [if_neg h2, h1]; rfl
  · unfold ynx
    rw [h, e2]
    omega
theorem rpa_l {T : yT} {p a s t q z n : Int} {nm : Int64} (h : ypl T p = a) (he : a < T.2) (hl : yLet (T.1 a) = true) (hs : yru yNb T (a + 1) = a + s) (hn : s ≤ 8 → nm = yv T a s.toNat) (ht : (t = 261 ∧ 8 < s) ∨ (s ≤ 8 ∧ ((t = 258 ∧ nm = 26990) ∨ (t = 259 ∧ nm ≠ 26990 ∧ nm = 2003399784) ∨ (t = 260 ∧ nm ≠ 26990 ∧ nm ≠ 2003399784 ∧ nm = 418263299685) ∨ (t = 257 ∧ nm ≠ 26990 ∧ nm ≠ 2003399784 ∧ nm ≠ 418263299685)))) (hq : q = a) (hz : z = s) (hnx : n = a + s) : t = rtk (ykd T p) ∧ q = ypl T p ∧ z = ysz T p ∧ n = ynx T p := by
  have e2 : ysz T p = s := by unfold ysz; rw [h, if_neg (by omega), if_pos hl, hs]; omega
  refine ⟨?_, by rw [h]; exact hq, by rw [e2]; exact hz, ?_⟩
  · unfold ykd
    rw [e2, h, if_neg (by omega), if_pos hl]
    rcases ht with ⟨h1, h2⟩ | ⟨h0, ht⟩
    · rw [if_pos h2, h1]; rfl
    · rw [if_neg (by omega), ynm_e h e2 h0, ← hn h0]
      rcases ht with ⟨h1, h2⟩ | ⟨h1, h2, h3⟩ | ⟨h1, h2, h3, h4⟩ | ⟨h1, h2, h3, h4⟩
      · rw [if_pos h2, h1]; rfl
      · rw [if_neg h2, if_pos h3, h1]; rfl
      · rw [if_neg h2, if_neg h3, if_pos h4, h1]; rfl
      · rw [if_neg h2, if_neg h3, if_neg h4, h1]; rfl
  · unfold ynx
    rw [h, e2]
    omega
theorem rpl_e {T : yT} {i : Int} (h : T.2 ≤ i) : ypl T i = i := yru_st (fun q => by have := q.1; omega)
theorem rpl_nb {T : yT} {i : Int} (h : ¬ (T.1 i = 32 ∨ T.1 i = 10)) : ypl T i = i := yru_st (fun q => h (by have := q.2; unfold yBl at this; simpa using this))
theorem rpl_b {T : yT} {i : Int} (hi : i < T.2) (h : T.1 i = 32 ∨ T.1 i = 10) : ypl T i = ypl T (i + 1) := yru_go hi (by unfold yBl; simpa using h)
def yk_X9_isLetter : zC := fun As μ Q => ∃ (a1 : Int), As = [.inl a1] ∧ ((-2147483648) ≤ a1 ∧ a1 ≤ 2147483647) ∧ (∀ (v : Int), 0 ≤ v → v ≤ 1 → ((v = 1 → zlet a1) ∧ (zlet a1 → v = 1)) → ((v = 1 ∧ (yLet a1 = true)) ∨ (v = 0 ∧ ¬ (yLet a1 = true))) → Q (some (.inl v)) μ)
set_option maxHeartbeats 4000000 in
theorem ym_X9_isLetter {g : zΓ} (hg : zg g) (d : Nat) (hd : 1 ≤ d) : zOk g d 127 yk_X9_isLetter := by
  obtain ⟨d, rfl⟩ : ∃ d', d = d' + 1 := ⟨d - 1, by omega⟩
  refine zOk_straight hg (show mt_tab[127]? = some mt_X9_isLetter from rfl) [] 21 rfl fun As μ Q hC => ?_
  obtain ⟨a1, rfl, ha1, hQ⟩ := hC
  refine ⟨rfl, ?_⟩
  refine And.intro ⟨⟨by omega, by omega⟩, ⟨by omega, by omega⟩⟩ (And.intro (fun c1 => ?_) (fun c1 => ?_))
  · refine And.intro ⟨⟨by omega, by omega⟩, ⟨by omega, by omega⟩⟩ (And.intro (fun c2 => ?_) (fun c2 => ?_))
    · exact And.intro (zrtb (by omega)) (And.intro ⟨by omega, by omega⟩ (hQ _ (by omega) (by omega) ⟨fun h => by unfold zlet; omega, fun h => by unfold zlet at h; omega⟩ (by first | exact Or.inl ⟨rfl, by simp [yLet]; omega⟩ | exact Or.inr ⟨rfl, by simp [yLet]; omega⟩)))
    · refine And.intro ⟨⟨by omega, by omega⟩, ⟨by omega, by omega⟩⟩ (And.intro (fun c3 => ?_) (fun c3 => ?_))
      · exact And.intro (zrtb (by omega)) (And.intro ⟨by omega, by omega⟩ (hQ _ (by omega) (by omega) ⟨fun h => by unfold zlet; omega, fun h => by unfold zlet at h; omega⟩ (by first | exact Or.inl ⟨rfl, by simp [yLet]; omega⟩ | exact Or.inr ⟨rfl, by simp [yLet]; omega⟩)))
      · exact And.intro (zrtb (by omega)) (And.intro ⟨by omega, by omega⟩ (hQ _ (by omega) (by omega) ⟨fun h => by unfold zlet; omega, fun h => by unfold zlet at h; omega⟩ (by first | exact Or.inl ⟨rfl, by simp [yLet]; omega⟩ | exact Or.inr ⟨rfl, by simp [yLet]; omega⟩)))
  · refine And.intro ⟨⟨by omega, by omega⟩, ⟨by omega, by omega⟩⟩ (And.intro (fun c4 => ?_) (fun c4 => ?_))
    · exact And.intro (zrtb (by omega)) (And.intro ⟨by omega, by omega⟩ (hQ _ (by omega) (by omega) ⟨fun h => by unfold zlet; omega, fun h => by unfold zlet at h; omega⟩ (by first | exact Or.inl ⟨rfl, by simp [yLet]; omega⟩ | exact Or.inr ⟨rfl, by simp [yLet]; omega⟩)))
    · refine And.intro ⟨⟨by omega, by omega⟩, ⟨by omega, by omega⟩⟩ (And.intro (fun c5 => ?_) (fun c5 => ?_))
      · exfalso; omega
      · refine And.intro ⟨⟨by omega, by omega⟩, ⟨by omega, by omega⟩⟩ (And.intro (fun c6 => ?_) (fun c6 => ?_))
        · exact And.intro (zrtb (by omega)) (And.intro ⟨by omega, by omega⟩ (hQ _ (by omega) (by omega) ⟨fun h => by unfold zlet; omega, fun h => by unfold zlet at h; omega⟩ (by first | exact Or.inl ⟨rfl, by simp [yLet]; omega⟩ | exact Or.inr ⟨rfl, by simp [yLet]; omega⟩)))
        · exfalso; omega
def yk_X9_isSign : zC := fun As μ Q => ∃ (a1 : Int), As = [.inl a1] ∧ ((-2147483648) ≤ a1 ∧ a1 ≤ 2147483647) ∧ (∀ (v : Int), 0 ≤ v → v ≤ 1 → ((v = 1 ∧ (ySg a1 = true)) ∨ (v = 0 ∧ ¬ (ySg a1 = true))) → Q (some (.inl v)) μ)
set_option maxHeartbeats 4000000 in
theorem ym_X9_isSign {g : zΓ} (hg : zg g) (d : Nat) (hd : 1 ≤ d) : zOk g d 129 yk_X9_isSign := by
  obtain ⟨d, rfl⟩ : ∃ d', d = d' + 1 := ⟨d - 1, by omega⟩
  refine zOk_straight hg (show mt_tab[129]? = some mt_X9_isSign from rfl) [] 36 rfl fun As μ Q hC => ?_
  obtain ⟨a1, rfl, ha1, hQ⟩ := hC
  refine ⟨rfl, ?_⟩
  refine And.intro ⟨⟨by omega, by omega⟩, ⟨by omega, by omega⟩⟩ (And.intro (fun c1 => ?_) (fun c1 => ?_))
  · exact And.intro (zrtb (by omega)) (And.intro ⟨by omega, by omega⟩ (hQ _ (by omega) (by omega) (by first | exact Or.inl ⟨rfl, by unfold ySg; simp only [Bool.or_eq_true, decide_eq_true_eq]; omega⟩ | exact Or.inr ⟨rfl, by unfold ySg; simp only [Bool.or_eq_true, decide_eq_true_eq]; omega⟩)))
  · refine And.intro ⟨⟨by omega, by omega⟩, ⟨by omega, by omega⟩⟩ (And.intro (fun c2 => ?_) (fun c2 => ?_))
    · exact And.intro (zrtb (by omega)) (And.intro ⟨by omega, by omega⟩ (hQ _ (by omega) (by omega) (by first | exact Or.inl ⟨rfl, by unfold ySg; simp only [Bool.or_eq_true, decide_eq_true_eq]; omega⟩ | exact Or.inr ⟨rfl, by unfold ySg; simp only [Bool.or_eq_true, decide_eq_true_eq]; omega⟩)))
    · refine And.intro ⟨⟨by omega, by omega⟩, ⟨by omega, by omega⟩⟩ (And.intro (fun c3 => ?_) (fun c3 => ?_))
      · exact And.intro (zrtb (by omega)) (And.intro ⟨by omega, by omega⟩ (hQ _ (by omega) (by omega) (by first | exact Or.inl ⟨rfl, by unfold ySg; simp only [Bool.or_eq_true, decide_eq_true_eq]; omega⟩ | exact Or.inr ⟨rfl, by unfold ySg; simp only [Bool.or_eq_true, decide_eq_true_eq]; omega⟩)))
      · refine And.intro ⟨⟨by omega, by omega⟩, ⟨by omega, by omega⟩⟩ (And.intro (fun c4 => ?_) (fun c4 => ?_))
        · exact And.intro (zrtb (by omega)) (And.intro ⟨by omega, by omega⟩ (hQ _ (by omega) (by omega) (by first | exact Or.inl ⟨rfl, by unfold ySg; simp only [Bool.or_eq_true, decide_eq_true_eq]; omega⟩ | exact Or.inr ⟨rfl, by unfold ySg; simp only [Bool.or_eq_true, decide_eq_true_eq]; omega⟩)))
        · refine And.intro ⟨⟨by omega, by omega⟩, ⟨by omega, by omega⟩⟩ (And.intro (fun c5 => ?_) (fun c5 => ?_))
          · exact And.intro (zrtb (by omega)) (And.intro ⟨by omega, by omega⟩ (hQ _ (by omega) (by omega) (by first | exact Or.inl ⟨rfl, by unfold ySg; simp only [Bool.or_eq_true, decide_eq_true_eq]; omega⟩ | exact Or.inr ⟨rfl, by unfold ySg; simp only [Bool.or_eq_true, decide_eq_true_eq]; omega⟩)))
          · refine And.intro ⟨⟨by omega, by omega⟩, ⟨by omega, by omega⟩⟩ (And.intro (fun c6 => ?_) (fun c6 => ?_))
            · exact And.intro (zrtb (by omega)) (And.intro ⟨by omega, by omega⟩ (hQ _ (by omega) (by omega) (by first | exact Or.inl ⟨rfl, by unfold ySg; simp only [Bool.or_eq_true, decide_eq_true_eq]; omega⟩ | exact Or.inr ⟨rfl, by unfold ySg; simp only [Bool.or_eq_true, decide_eq_true_eq]; omega⟩)))
            · refine And.intro ⟨⟨by omega, by omega⟩, ⟨by omega, by omega⟩⟩ (And.intro (fun c7 => ?_) (fun c7 => ?_))
              · exact And.intro (zrtb (by omega)) (And.intro ⟨by omega, by omega⟩ (hQ _ (by omega) (by omega) (by first | exact Or.inl ⟨rfl, by unfold ySg; simp only [Bool.or_eq_true, decide_eq_true_eq]; omega⟩ | exact Or.inr ⟨rfl, by unfold ySg; simp only [Bool.or_eq_true, decide_eq_true_eq]; omega⟩)))
              · refine And.intro ⟨⟨by omega, by omega⟩, ⟨by omega, by omega⟩⟩ (And.intro (fun c8 => ?_) (fun c8 => ?_))
                · exact And.intro (zrtb (by omega)) (And.intro ⟨by omega, by omega⟩ (hQ _ (by omega) (by omega) (by first | exact Or.inl ⟨rfl, by unfold ySg; simp only [Bool.or_eq_true, decide_eq_true_eq]; omega⟩ | exact Or.inr ⟨rfl, by unfold ySg; simp only [Bool.or_eq_true, decide_eq_true_eq]; omega⟩)))
                · refine And.intro ⟨⟨by omega, by omega⟩, ⟨by omega, by omega⟩⟩ (And.intro (fun c9 => ?_) (fun c9 => ?_))
                  · exact And.intro (zrtb (by omega)) (And.intro ⟨by omega, by omega⟩ (hQ _ (by omega) (by omega) (by first | exact Or.inl ⟨rfl, by unfold ySg; simp only [Bool.or_eq_true, decide_eq_true_eq]; omega⟩ | exact Or.inr ⟨rfl, by unfold ySg; simp only [Bool.or_eq_true, decide_eq_true_eq]; omega⟩)))
                  · exact And.intro (zrtb (by omega)) (And.intro ⟨by omega, by omega⟩ (hQ _ (by omega) (by omega) (by first | exact Or.inl ⟨rfl, by unfold ySg; simp only [Bool.or_eq_true, decide_eq_true_eq]; omega⟩ | exact Or.inr ⟨rfl, by unfold ySg; simp only [Bool.or_eq_true, decide_eq_true_eq]; omega⟩)))
def yk_X9_isPart : zC := fun As μ Q => ∃ (a1 : Int), As = [.inr (.inr (66, 66)), .inl a1] ∧ (0 ≤ a1 ∧ a1 ≤ 801) ∧ (∀ (v : Int), 0 ≤ v → v ≤ 1 → (a1 < μ.1 66 ((30 : Nat) : Int) → zlet (μ.1 85 a1) → v = 1) → (v = 0 ∨ a1 < μ.1 66 ((30 : Nat) : Int)) → ((v = 1 ∧ (a1 < μ.1 66 ((30 : Nat) : Int) ∧ yNb (μ.1 85 a1) = true)) ∨ (v = 0 ∧ ¬ (a1 < μ.1 66 ((30 : Nat) : Int) ∧ yNb (μ.1 85 a1) = true))) → Q (some (.inl v)) μ)
set_option maxHeartbeats 4000000 in
theorem ym_X9_isPart {g : zΓ} (hg : zg g) (d : Nat) (hd : 2 ≤ d) : zOk g d 128 yk_X9_isPart := by
  obtain ⟨d, rfl⟩ : ∃ d', d = d' + 1 := ⟨d - 1, by omega⟩
  refine zOk_straight hg (show mt_tab[128]? = some mt_X9_isPart from rfl) [] 31 rfl fun As μ Q hC => ?_
  obtain ⟨a1, rfl, ha1, hQ⟩ := hC
  refine ⟨rfl, ?_⟩
  intro x1 hx1 kx1 lx1
  refine And.intro ⟨⟨by omega, by omega⟩, ⟨by omega, by omega⟩⟩ (And.intro (fun c2 => ?_) (fun c2 => ?_))
  · exact And.intro (zrtb (by omega)) (And.intro ⟨by omega, by omega⟩ (hQ _ (by omega) (by omega) (fun h1 h2 => by first | omega | (have hh := p5.2 (by rw [hx3]; exact h2); omega)) (by omega) (Or.inr ⟨rfl, fun h0 => by have h1 := h0.1; omega⟩)))
  · refine And.intro ⟨by omega, by omega⟩ ?_
    intro x3 hx3 kx3 lx3
    refine ⟨yk_X9_isLetter, ym_X9_isLetter hg d (by omega), _, rfl, ⟨by omega, by omega⟩, ?_⟩
    intro x4 kx4 lx4 p5 p6
    refine And.intro ⟨by omega, by omega⟩ (And.intro (fun c7 => ?_) (fun c7 => ?_))
    · have bc7 := yp1 p6 c7
      exact And.intro (zrtb (by omega)) (And.intro ⟨by omega, by omega⟩ (hQ _ (by omega) (by omega) (fun h1 h2 => by first | omega | (have hh := p5.2 (by rw [hx3]; exact h2); omega)) (by omega) (by have hN := yNb_iff (μ.1 85 a1); first | exact Or.inl ⟨rfl, by omega, hN.mpr (Or.inr (by omega))⟩ | exact Or.inl ⟨rfl, by omega, hN.mpr (Or.inl (by rw [← hx3]; exact bc7))⟩ | exact Or.inr ⟨rfl, fun h0 => by rcases hN.mp h0.2 with h1 | h1; exact bc7 (by rw [hx3]; exact h1); omega⟩)))
    · have bc7 := yp0 p6 c7
      refine And.intro ⟨by omega, by omega⟩ ?_
      intro x8 hx8 kx8 lx8
      refine And.intro ⟨⟨by omega, by omega⟩, ⟨by omega, by omega⟩⟩ (And.intro (fun c9 => ?_) (fun c9 => ?_))
      · exact And.intro (zrtb (by omega)) (And.intro ⟨by omega, by omega⟩ (hQ _ (by omega) (by omega) (fun h1 h2 => by first | omega | (have hh := p5.2 (by rw [hx3]; exact h2); omega)) (by omega) (by have hN := yNb_iff (μ.1 85 a1); first | exact Or.inl ⟨rfl, by omega, hN.mpr (Or.inr (by omega))⟩ | exact Or.inl ⟨rfl, by omega, hN.mpr (Or.inl (by rw [← hx3]; exact bc7))⟩ | exact Or.inr ⟨rfl, fun h0 => by rcases hN.mp h0.2 with h1 | h1; exact bc7 (by rw [hx3]; exact h1); omega⟩)))
      · refine And.intro ⟨by omega, by omega⟩ ?_
        intro x10 hx10 kx10 lx10
        refine And.intro ⟨⟨by omega, by omega⟩, ⟨by omega, by omega⟩⟩ (And.intro (fun c11 => ?_) (fun c11 => ?_))
        · exact And.intro (zrtb (by omega)) (And.intro ⟨by omega, by omega⟩ (hQ _ (by omega) (by omega) (fun h1 h2 => by first | omega | (have hh := p5.2 (by rw [hx3]; exact h2); omega)) (by omega) (by have hN := yNb_iff (μ.1 85 a1); first | exact Or.inl ⟨rfl, by omega, hN.mpr (Or.inr (by omega))⟩ | exact Or.inl ⟨rfl, by omega, hN.mpr (Or.inl (by rw [← hx3]; exact bc7))⟩ | exact Or.inr ⟨rfl, fun h0 => by rcases hN.mp h0.2 with h1 | h1; exact bc7 (by rw [hx3]; exact h1); omega⟩)))
        · exact And.intro (zrtb (by omega)) (And.intro ⟨by omega, by omega⟩ (hQ _ (by omega) (by omega) (fun h1 h2 => by first | omega | (have hh := p5.2 (by rw [hx3]; exact h2); omega)) (by omega) (by have hN := yNb_iff (μ.1 85 a1); first | exact Or.inl ⟨rfl, by omega, hN.mpr (Or.inr (by omega))⟩ | exact Or.inl ⟨rfl, by omega, hN.mpr (Or.inl (by rw [← hx3]; exact bc7))⟩ | exact Or.inr ⟨rfl, fun h0 => by rcases hN.mp h0.2 with h1 | h1; exact bc7 (by rw [hx3]; exact h1); omega⟩)))
def yk_X9_nameAt : zC := fun As μ Q => ∃ (a1 : Int) (a2 : Int), As = [.inr (.inr (66, 66)), .inl a1, .inl a2] ∧ (0 ≤ a1 ∧ a1 ≤ 800) ∧ (0 ≤ a2 ∧ a2 ≤ 800) ∧ (a1 + a2 ≤ 800) ∧ (∀ (v : Int64), (v = yv ((μ.1 85, μ.1 66 ((30 : Nat) : Int)) : yT) a1 a2.toNat) → Q (some (.inr (.inl v))) μ)
set_option maxHeartbeats 4000000 in
theorem ym_X9_nameAt {g : zΓ} (hg : zg g) (d : Nat) (hd : 1 ≤ d) : zOk g d 130 yk_X9_nameAt := by
  obtain ⟨d, rfl⟩ : ∃ d', d = d' + 1 := ⟨d - 1, by omega⟩
  refine zOk_loop hg (show mt_tab[130]? = some mt_X9_nameAt from rfl) ([(5, [0, 1, 2, 3, 5])], []) 28 rfl fun As μ Q hC => ?_
  obtain ⟨a1, a2, rfl, ha1, ha2, hp0, hQ⟩ := hC
  refine ⟨rfl, fun pc vs μ' n => ∃ (v1 : Int) (v2 : Int) (v3 : Int64) (v5 : Int), vs = [.inr (.inr (66, 66)), .inl v1, .inl v2, .inr (.inl v3), .inl v5] ∧ μ' = μ ∧ (0 ≤ v1 ∧ v1 ≤ 800) ∧ (0 ≤ v2 ∧ v2 ≤ 800) ∧ (0 ≤ v5 ∧ v5 ≤ 801) ∧ (v1 + v2 ≤ 800) ∧ (v1 = a1 ∧ v2 = a2 ∧ v5 ≤ a2) ∧ (0 ≤ v5 ∧ v3 = yv ((μ.1 85, μ.1 66 ((30 : Nat) : Int)) : yT) a1 v5.toNat) ∧ n = (Int.toNat (2147483648 - v5)), ?_, ?_, trivial⟩
  · refine Exists.intro (Int.toNat (2147483648 - 0)) ?_
    exact ⟨_, _, _, _, rfl, rfl, ⟨by omega, by omega⟩, ⟨by omega, by omega⟩, ⟨by omega, by omega⟩, (by omega), (by omega), ⟨by omega, rfl⟩, rfl⟩
  · intro vs m0 n hI
    obtain ⟨v1, v2, v3, v5, rfl, em0, hv1, hv2, hv5, i0, i1, i2, rfl⟩ := hI
    replace em0 := em0.symm
    subst em0
    refine And.intro ⟨⟨by omega, by omega⟩, ⟨by omega, by omega⟩⟩ (And.intro (fun c1 => ?_) (fun c1 => ?_))
    · exact And.intro rfl (hQ _ (by have h0 := i2.2; rw [show v5 = a2 by omega] at h0; exact h0))
    · refine And.intro ⟨by omega, by omega⟩ ?_
      intro x2 hx2 kx2 lx2
      refine Exists.intro (Int.toNat (2147483648 - (v5 + 1))) (And.intro (by omega) ?_)
      exact ⟨_, _, _, _, rfl, rfl, ⟨by omega, by omega⟩, ⟨by omega, by omega⟩, ⟨by omega, by omega⟩, (by omega), (by omega), ⟨by omega, by have h0 := yvR (T := ((μ.1 85, μ.1 66 ((30 : Nat) : Int)) : yT)) (j := a1) (i := a1 + v5) (x := x2) (v := v3) (by rw [show a1 + v5 - a1 = v5 by omega]; exact i2.2) (by omega) (by rw [hx2, show v1 + v5 = a1 + v5 by omega]); rw [show a1 + v5 + 1 - a1 = v5 + 1 by omega] at h0; exact h0⟩, rfl⟩
def yk_X9_pass : zC := fun As μ Q => As = [.inr (.inr (66, 66))] ∧ (0 ≤ μ.1 66 ((31 : Nat) : Int) ∧ μ.1 66 ((31 : Nat) : Int) ≤ μ.1 66 ((30 : Nat) : Int) ∧ μ.1 66 ((30 : Nat) : Int) ≤ 800) ∧ (∀ (μ' : zM), zfx [] [31, 32, 33, 34] μ μ' → (0 ≤ μ'.1 66 ((33 : Nat) : Int) ∧ 0 ≤ μ'.1 66 ((34 : Nat) : Int) ∧ μ'.1 66 ((33 : Nat) : Int) + μ'.1 66 ((34 : Nat) : Int) ≤ μ'.1 66 ((31 : Nat) : Int) ∧ μ'.1 66 ((31 : Nat) : Int) ≤ μ'.1 66 ((30 : Nat) : Int) ∧ μ'.1 66 ((30 : Nat) : Int) ≤ 800) → (μ'.1 66 ((30 : Nat) : Int) = μ.1 66 ((30 : Nat) : Int)) → (μ'.1 66 ((32 : Nat) : Int) = 256 ∨ μ.1 66 ((31 : Nat) : Int) < μ'.1 66 ((31 : Nat) : Int)) → (μ.1 66 ((31 : Nat) : Int) ≤ μ'.1 66 ((31 : Nat) : Int)) → (μ'.1 66 ((32 : Nat) : Int) = rtk (ykd ((μ.1 85, μ.1 66 ((30 : Nat) : Int)) : yT) (μ.1 66 ((31 : Nat) : Int))) ∧ μ'.1 66 ((33 : Nat) : Int) = ypl ((μ.1 85, μ.1 66 ((30 : Nat) : Int)) : yT) (μ.1 66 ((31 : Nat) : Int)) ∧ μ'.1 66 ((34 : Nat) : Int) = ysz ((μ.1 85, μ.1 66 ((30 : Nat) : Int)) : yT) (μ.1 66 ((31 : Nat) : Int)) ∧ μ'.1 66 ((31 : Nat) : Int) = ynx ((μ.1 85, μ.1 66 ((30 : Nat) : Int)) : yT) (μ.1 66 ((31 : Nat) : Int))) → Q none μ')
set_option maxHeartbeats 4000000 in
theorem ym_X9_pass {g : zΓ} (hg : zg g) (d : Nat) (hd : 3 ≤ d) : zOk g d 131 yk_X9_pass := by
  obtain ⟨d, rfl⟩ : ∃ d', d = d' + 1 := ⟨d - 1, by omega⟩
  refine zOk_loop hg (show mt_tab[131]? = some mt_X9_pass from rfl) ([(0, [0]), (52, [0]), (101, [0]), (246, [0])], []) 131 rfl fun As μ Q hC => ?_
  obtain ⟨rfl, hp0, hQ⟩ := hC
  obtain ⟨g1, wg1⟩ : ∃ z : Int, μ.1 66 ((31 : Nat) : Int) = z := ⟨_, rfl⟩
  obtain ⟨g2, wg2⟩ : ∃ z : Int, μ.1 66 ((30 : Nat) : Int) = z := ⟨_, rfl⟩
  obtain ⟨g3, wg3⟩ : ∃ z : Int, μ.1 66 ((33 : Nat) : Int) = z := ⟨_, rfl⟩
  obtain ⟨g4, wg4⟩ : ∃ z : Int, μ.1 66 ((34 : Nat) : Int) = z := ⟨_, rfl⟩
  obtain ⟨g5, wg5⟩ : ∃ z : Int, μ.1 66 ((32 : Nat) : Int) = z := ⟨_, rfl⟩
  try rw [wg1] at hp0
  try rw [wg2] at hp0
  try rw [wg3] at hp0
  try rw [wg4] at hp0
  try rw [wg5] at hp0
  have z0 : zfx [] [31, 32, 33, 34] μ μ := zfx_x μ
  refine ⟨rfl, fun pc vs μ' n => (pc = 0 → vs = [.inr (.inr (66, 66))] ∧ zfx [] [31, 32, 33, 34] μ μ' ∧ (0 ≤ μ'.1 66 ((31 : Nat) : Int) ∧ μ'.1 66 ((31 : Nat) : Int) ≤ μ'.1 66 ((30 : Nat) : Int) ∧ μ'.1 66 ((30 : Nat) : Int) ≤ 800 ∧ μ.1 66 ((31 : Nat) : Int) ≤ μ'.1 66 ((31 : Nat) : Int)) ∧ (μ'.1 66 ((30 : Nat) : Int) = μ.1 66 ((30 : Nat) : Int)) ∧ (ypl ((μ.1 85, μ.1 66 ((30 : Nat) : Int)) : yT) (μ.1 66 ((31 : Nat) : Int)) = ypl ((μ.1 85, μ.1 66 ((30 : Nat) : Int)) : yT) (μ'.1 66 ((31 : Nat) : Int))) ∧ n = (Int.toNat (μ'.1 66 ((30 : Nat) : Int) - μ'.1 66 ((31 : Nat) : Int) + 3000000))) ∧ (pc = 52 → vs = [.inr (.inr (66, 66))] ∧ zfx [] [31, 32, 33, 34] μ μ' ∧ (0 ≤ μ'.1 66 ((31 : Nat) : Int) ∧ μ'.1 66 ((31 : Nat) : Int) ≤ μ'.1 66 ((30 : Nat) : Int) ∧ μ'.1 66 ((30 : Nat) : Int) ≤ 800 ∧ μ.1 66 ((31 : Nat) : Int) ≤ μ'.1 66 ((31 : Nat) : Int)) ∧ (μ'.1 66 ((30 : Nat) : Int) = μ.1 66 ((30 : Nat) : Int)) ∧ (ypl ((μ.1 85, μ.1 66 ((30 : Nat) : Int)) : yT) (μ.1 66 ((31 : Nat) : Int)) = μ'.1 66 ((31 : Nat) : Int)) ∧ n = (Int.toNat (2000000))) ∧ (pc = 101 → vs = [.inr (.inr (66, 66))] ∧ zfx [] [31, 32, 33, 34] μ μ' ∧ (0 ≤ μ'.1 66 ((31 : Nat) : Int) ∧ μ'.1 66 ((31 : Nat) : Int) ≤ μ'.1 66 ((30 : Nat) : Int) ∧ μ'.1 66 ((30 : Nat) : Int) ≤ 800 ∧ μ.1 66 ((31 : Nat) : Int) ≤ μ'.1 66 ((31 : Nat) : Int)) ∧ (μ'.1 66 ((30 : Nat) : Int) = μ.1 66 ((30 : Nat) : Int)) ∧ (0 ≤ μ'.1 66 ((34 : Nat) : Int) ∧ μ'.1 66 ((31 : Nat) : Int) < μ'.1 66 ((30 : Nat) : Int) ∧ μ'.1 66 ((31 : Nat) : Int) + μ'.1 66 ((34 : Nat) : Int) ≤ μ'.1 66 ((30 : Nat) : Int) ∧ μ'.1 66 ((33 : Nat) : Int) = μ'.1 66 ((31 : Nat) : Int)) ∧ (ypl ((μ.1 85, μ.1 66 ((30 : Nat) : Int)) : yT) (μ.1 66 ((31 : Nat) : Int)) = μ'.1 66 ((31 : Nat) : Int) ∧ yLet (μ.1 85 (μ'.1 66 ((31 : Nat) : Int))) = true ∧ yru yNb ((μ.1 85, μ.1 66 ((30 : Nat) : Int)) : yT) (μ'.1 66 ((31 : Nat) : Int)) = yru yNb ((μ.1 85, μ.1 66 ((30 : Nat) : Int)) : yT) (μ'.1 66 ((31 : Nat) : Int) + μ'.1 66 ((34 : Nat) : Int))) ∧ n = (Int.toNat (μ'.1 66 ((30 : Nat) : Int) - μ'.1 66 ((34 : Nat) : Int) + 10))) ∧ (pc = 246 → vs = [.inr (.inr (66, 66))] ∧ zfx [] [31, 32, 33, 34] μ μ' ∧ (0 ≤ μ'.1 66 ((31 : Nat) : Int) ∧ μ'.1 66 ((31 : Nat) : Int) ≤ μ'.1 66 ((30 : Nat) : Int) ∧ μ'.1 66 ((30 : Nat) : Int) ≤ 800 ∧ μ.1 66 ((31 : Nat) : Int) ≤ μ'.1 66 ((31 : Nat) : Int)) ∧ (μ'.1 66 ((30 : Nat) : Int) = μ.1 66 ((30 : Nat) : Int)) ∧ (μ'.1 66 ((32 : Nat) : Int) = rtk (ykd ((μ.1 85, μ.1 66 ((30 : Nat) : Int)) : yT) (μ.1 66 ((31 : Nat) : Int))) ∧ μ'.1 66 ((33 : Nat) : Int) = ypl ((μ.1 85, μ.1 66 ((30 : Nat) : Int)) : yT) (μ.1 66 ((31 : Nat) : Int)) ∧ μ'.1 66 ((34 : Nat) : Int) = ysz ((μ.1 85, μ.1 66 ((30 : Nat) : Int)) : yT) (μ.1 66 ((31 : Nat) : Int)) ∧ ypl ((μ.1 85, μ.1 66 ((30 : Nat) : Int)) : yT) (μ.1 66 ((31 : Nat) : Int)) = μ'.1 66 ((31 : Nat) : Int)) ∧ (1 ≤ μ'.1 66 ((34 : Nat) : Int) ∧ μ'.1 66 ((31 : Nat) : Int) + μ'.1 66 ((34 : Nat) : Int) ≤ μ'.1 66 ((30 : Nat) : Int) ∧ μ'.1 66 ((33 : Nat) : Int) = μ'.1 66 ((31 : Nat) : Int)) ∧ n = (Int.toNat (5))), ?_, ?_, ?_, ?_, ?_, trivial⟩
  · refine Exists.intro (Int.toNat (μ.1 66 ((30 : Nat) : Int) - μ.1 66 ((31 : Nat) : Int) + 3000000)) ?_
    exact ⟨(fun _ => ⟨rfl, z0, (by (try rw [wg1]) <;> (try rw [wg2]) <;> (try rw [wg3]) <;> (try rw [wg4]) <;> (try rw [wg5]) <;> omega), (by (try rw [wg1]) <;> (try rw [wg2]) <;> (try rw [wg3]) <;> (try rw [wg4]) <;> (try rw [wg5]) <;> omega), rfl, rfl⟩), (fun h => absurd h (by decide)), (fun h => absurd h (by decide)), (fun h => absurd h (by decide))⟩
  · intro vs m0 n hI
    replace hI := hI.1 rfl
    clear z0
    obtain ⟨rfl, z0, i0, i1, i2, rfl⟩ := hI
    obtain ⟨g6, wg6⟩ : ∃ z : Int, m0.1 66 ((31 : Nat) : Int) = z := ⟨_, rfl⟩
    obtain ⟨g7, wg7⟩ : ∃ z : Int, m0.1 66 ((30 : Nat) : Int) = z := ⟨_, rfl⟩
    obtain ⟨g8, wg8⟩ : ∃ z : Int, m0.1 66 ((33 : Nat) : Int) = z := ⟨_, rfl⟩
    obtain ⟨g9, wg9⟩ : ∃ z : Int, m0.1 66 ((34 : Nat) : Int) = z := ⟨_, rfl⟩
    obtain ⟨g10, wg10⟩ : ∃ z : Int, m0.1 66 ((32 : Nat) : Int) = z := ⟨_, rfl⟩
    try rw [wg6] at i0
    try rw [wg7] at i0
    try rw [wg8] at i0
    try rw [wg9] at i0
    try rw [wg10] at i0
    try rw [wg1] at i0
    try rw [wg2] at i0
    try rw [wg3] at i0
    try rw [wg4] at i0
    try rw [wg5] at i0
    try rw [wg6] at i1
    try rw [wg7] at i1
    try rw [wg8] at i1
    try rw [wg9] at i1
    try rw [wg10] at i1
    try rw [wg1] at i1
    try rw [wg2] at i1
    try rw [wg3] at i1
    try rw [wg4] at i1
    try rw [wg5] at i1
    try rw [wg6] at i2
    try rw [wg7] at i2
    try rw [wg8] at i2
    try rw [wg9] at i2
    try rw [wg10] at i2
    try rw [wg1] at i2
    try rw [wg2] at i2
    try rw [wg3] at i2
    try rw [wg4] at i2
    try rw [wg5] at i2
    have M85 : m0.1 85 = μ.1 85 := z0.1 85 (by decide) rfl
    intro x11 hx11 kx11 lx11
    rw [wg6] at hx11
    intro x12 hx12 kx12 lx12
    rw [wg7] at hx12
    refine And.intro ⟨⟨by omega, by omega⟩, ⟨by omega, by omega⟩⟩ (And.intro (fun c13 => ?_) (fun c13 => ?_))
    · refine Exists.intro (Int.toNat (2000000)) (And.intro (by (try rw [wg6]) <;> (try rw [wg7]) <;> (try rw [wg8]) <;> (try rw [wg9]) <;> (try rw [wg10]) <;> (try rw [wg1]) <;> (try rw [wg2]) <;> (try rw [wg3]) <;> (try rw [wg4]) <;> (try rw [wg5]) <;> omega) ?_)
      exact ⟨(fun h => absurd h (by decide)), (fun _ => ⟨rfl, z0, (by (try rw [wg6]) <;> (try rw [wg7]) <;> (try rw [wg8]) <;> (try rw [wg9]) <;> (try rw [wg10]) <;> (try rw [wg1]) <;> (try rw [wg2]) <;> (try rw [wg3]) <;> (try rw [wg4]) <;> (try rw [wg5]) <;> omega), (by (try rw [wg6]) <;> (try rw [wg7]) <;> (try rw [wg8]) <;> (try rw [wg9]) <;> (try rw [wg10]) <;> (try rw [wg1]) <;> (try rw [wg2]) <;> (try rw [wg3]) <;> (try rw [wg4]) <;> (try rw [wg5]) <;> omega), (by rw [wg2, wg1, wg6]; exact i2.trans (rpl_e (by show g2 ≤ g6; omega))), rfl⟩), (fun h => absurd h (by decide)), (fun h => absurd h (by decide))⟩
    · intro x14 hx14 kx14 lx14
      rw [wg6] at hx14
      refine And.intro ⟨by omega, by omega⟩ ?_
      intro x15 hx15 kx15 lx15
      refine And.intro ⟨⟨by omega, by omega⟩, ⟨by omega, by omega⟩⟩ (And.intro (fun c16 => ?_) (fun c16 => ?_))
      · have Lx15 : x15 = μ.1 85 g6 := by rw [hx15, show x14 = g6 by omega, M85]
        have HB := rpl_b (T := ((μ.1 85, g2) : yT)) (i := g6) (by show g6 < g2; omega) (by show μ.1 85 g6 = 32 ∨ μ.1 85 g6 = 10; omega)
        intro x17 hx17 kx17 lx17
        rw [wg6] at hx17
        refine And.intro ⟨by omega, by omega⟩ ?_
        intro m18 em18
        have z19 := zfx_f z0 em18 rfl
        have w20 : m18.1 66 ((31 : Nat) : Int) = (x17 + 1) := by rw [em18]; exact zu_at
        have w21 : m18.1 66 ((30 : Nat) : Int) = g7 := by rw [em18]; exact (zu_nk (by decide)).trans wg7
        have w22 : m18.1 66 ((33 : Nat) : Int) = g8 := by rw [em18]; exact (zu_nk (by decide)).trans wg8
        have w23 : m18.1 66 ((34 : Nat) : Int) = g9 := by rw [em18]; exact (zu_nk (by decide)).trans wg9
        have w24 : m18.1 66 ((32 : Nat) : Int) = g10 := by rw [em18]; exact (zu_nk (by decide)).trans wg10
        refine Exists.intro (Int.toNat (m18.1 66 ((30 : Nat) : Int) - m18.1 66 ((31 : Nat) : Int) + 3000000)) (And.intro (by (try rw [w20]) <;> (try rw [w21]) <;> (try rw [w22]) <;> (try rw [w23]) <;> (try rw [w24]) <;> (try rw [wg6]) <;> (try rw [wg7]) <;> (try rw [wg8]) <;> (try rw [wg9]) <;> (try rw [wg10]) <;> (try rw [wg1]) <;> (try rw [wg2]) <;> (try rw [wg3]) <;> (try rw [wg4]) <;> (try rw [wg5]) <;> omega) ?_)
        exact ⟨(fun _ => ⟨rfl, z19, (by (try rw [w20]) <;> (try rw [w21]) <;> (try rw [w22]) <;> (try rw [w23]) <;> (try rw [w24]) <;> (try rw [wg6]) <;> (try rw [wg7]) <;> (try rw [wg8]) <;> (try rw [wg9]) <;> (try rw [wg10]) <;> (try rw [wg1]) <;> (try rw [wg2]) <;> (try rw [wg3]) <;> (try rw [wg4]) <;> (try rw [wg5]) <;> omega), (by (try rw [w20]) <;> (try rw [w21]) <;> (try rw [w22]) <;> (try rw [w23]) <;> (try rw [w24]) <;> (try rw [wg6]) <;> (try rw [wg7]) <;> (try rw [wg8]) <;> (try rw [wg9]) <;> (try rw [wg10]) <;> (try rw [wg1]) <;> (try rw [wg2]) <;> (try rw [wg3]) <;> (try rw [wg4]) <;> (try rw [wg5]) <;> omega), (by rw [wg2, wg1, w20]; exact i2.trans (HB.trans (by rw [show (x17 + 1) = g6 + 1 by omega]))), rfl⟩), (fun h => absurd h (by decide)), (fun h => absurd h (by decide)), (fun h => absurd h (by decide))⟩
      · have nc16 : yNe x15 32 := c16
        clear c16
        intro x25 hx25 kx25 lx25
        rw [wg6] at hx25
        refine And.intro ⟨by omega, by omega⟩ ?_
        intro x26 hx26 kx26 lx26
        refine And.intro ⟨⟨by omega, by omega⟩, ⟨by omega, by omega⟩⟩ (And.intro (fun c27 => ?_) (fun c27 => ?_))
        · have nc27 : yNe x26 10 := c27
          clear c27
          refine Exists.intro (Int.toNat (2000000)) (And.intro (by (try rw [wg6]) <;> (try rw [wg7]) <;> (try rw [wg8]) <;> (try rw [wg9]) <;> (try rw [wg10]) <;> (try rw [wg1]) <;> (try rw [wg2]) <;> (try rw [wg3]) <;> (try rw [wg4]) <;> (try rw [wg5]) <;> omega) ?_)
          exact ⟨(fun h => absurd h (by decide)), (fun _ => ⟨rfl, z0, (by (try rw [wg6]) <;> (try rw [wg7]) <;> (try rw [wg8]) <;> (try rw [wg9]) <;> (try rw [wg10]) <;> (try rw [wg1]) <;> (try rw [wg2]) <;> (try rw [wg3]) <;> (try rw [wg4]) <;> (try rw [wg5]) <;> omega), (by (try rw [wg6]) <;> (try rw [wg7]) <;> (try rw [wg8]) <;> (try rw [wg9]) <;> (try rw [wg10]) <;> (try rw [wg1]) <;> (try rw [wg2]) <;> (try rw [wg3]) <;> (try rw [wg4]) <;> (try rw [wg5]) <;> omega), (by rw [wg2, wg1, wg6]; exact i2.trans (rpl_nb (fun h0 => h0.elim (fun e => nc16 (by rw [hx15, show x14 = g6 by omega, M85]; exact e)) (fun e => nc27 (by rw [hx26, show x25 = g6 by omega, M85]; exact e))))), rfl⟩), (fun h => absurd h (by decide)), (fun h => absurd h (by decide))⟩
        · have Lx15 : x15 = μ.1 85 g6 := by rw [hx15, show x14 = g6 by omega, M85]
          have Lx26 : x26 = μ.1 85 g6 := by rw [hx26, show x25 = g6 by omega, M85]
          have HB := rpl_b (T := ((μ.1 85, g2) : yT)) (i := g6) (by show g6 < g2; omega) (by show μ.1 85 g6 = 32 ∨ μ.1 85 g6 = 10; omega)
          intro x28 hx28 kx28 lx28
          rw [wg6] at hx28
          refine And.intro ⟨by omega, by omega⟩ ?_
          intro m29 em29
          have z30 := zfx_f z0 em29 rfl
          have w31 : m29.1 66 ((31 : Nat) : Int) = (x28 + 1) := by rw [em29]; exact zu_at
          have w32 : m29.1 66 ((30 : Nat) : Int) = g7 := by rw [em29]; exact (zu_nk (by decide)).trans wg7
          have w33 : m29.1 66 ((33 : Nat) : Int) = g8 := by rw [em29]; exact (zu_nk (by decide)).trans wg8
          have w34 : m29.1 66 ((34 : Nat) : Int) = g9 := by rw [em29]; exact (zu_nk (by decide)).trans wg9
          have w35 : m29.1 66 ((32 : Nat) : Int) = g10 := by rw [em29]; exact (zu_nk (by decide)).trans wg10
          refine Exists.intro (Int.toNat (m29.1 66 ((30 : Nat) : Int) - m29.1 66 ((31 : Nat) : Int) + 3000000)) (And.intro (by (try rw [w31]) <;> (try rw [w32]) <;> (try rw [w33]) <;> (try rw [w34]) <;> (try rw [w35]) <;> (try rw [wg6]) <;> (try rw [wg7]) <;> (try rw [wg8]) <;> (try rw [wg9]) <;> (try rw [wg10]) <;> (try rw [wg1]) <;> (try rw [wg2]) <;> (try rw [wg3]) <;> (try rw [wg4]) <;> (try rw [wg5]) <;> omega) ?_)
          exact ⟨(fun _ => ⟨rfl, z30, (by (try rw [w31]) <;> (try rw [w32]) <;> (try rw [w33]) <;> (try rw [w34]) <;> (try rw [w35]) <;> (try rw [wg6]) <;> (try rw [wg7]) <;> (try rw [wg8]) <;> (try rw [wg9]) <;> (try rw [wg10]) <;> (try rw [wg1]) <;> (try rw [wg2]) <;> (try rw [wg3]) <;> (try rw [wg4]) <;> (try rw [wg5]) <;> omega), (by (try rw [w31]) <;> (try rw [w32]) <;> (try rw [w33]) <;> (try rw [w34]) <;> (try rw [w35]) <;> (try rw [wg6]) <;> (try rw [wg7]) <;> (try rw [wg8]) <;> (try rw [wg9]) <;> (try rw [wg10]) <;> (try rw [wg1]) <;> (try rw [wg2]) <;> (try rw [wg3]) <;> (try rw [wg4]) <;> (try rw [wg5]) <;> omega), (by rw [wg2, wg1, w31]; exact i2.trans (HB.trans (by rw [show (x28 + 1) = g6 + 1 by omega]))), rfl⟩), (fun h => absurd h (by decide)), (fun h => absurd h (by decide)), (fun h => absurd h (by decide))⟩
  · intro vs m0 n hI
    replace hI := hI.2.1 rfl
    clear z0
    obtain ⟨rfl, z0, i0, i1, i2, rfl⟩ := hI
    obtain ⟨g36, wg36⟩ : ∃ z : Int, m0.1 66 ((31 : Nat) : Int) = z := ⟨_, rfl⟩
    obtain ⟨g37, wg37⟩ : ∃ z : Int, m0.1 66 ((30 : Nat) : Int) = z := ⟨_, rfl⟩
    obtain ⟨g38, wg38⟩ : ∃ z : Int, m0.1 66 ((33 : Nat) : Int) = z := ⟨_, rfl⟩
    obtain ⟨g39, wg39⟩ : ∃ z : Int, m0.1 66 ((34 : Nat) : Int) = z := ⟨_, rfl⟩
    obtain ⟨g40, wg40⟩ : ∃ z : Int, m0.1 66 ((32 : Nat) : Int) = z := ⟨_, rfl⟩
    try rw [wg36] at i0
    try rw [wg37] at i0
    try rw [wg38] at i0
    try rw [wg39] at i0
    try rw [wg40] at i0
    try rw [wg1] at i0
    try rw [wg2] at i0
    try rw [wg3] at i0
    try rw [wg4] at i0
    try rw [wg5] at i0
    try rw [wg36] at i1
    try rw [wg37] at i1
    try rw [wg38] at i1
    try rw [wg39] at i1
    try rw [wg40] at i1
    try rw [wg1] at i1
    try rw [wg2] at i1
    try rw [wg3] at i1
    try rw [wg4] at i1
    try rw [wg5] at i1
    try rw [wg36] at i2
    try rw [wg37] at i2
    try rw [wg38] at i2
    try rw [wg39] at i2
    try rw [wg40] at i2
    try rw [wg1] at i2
    try rw [wg2] at i2
    try rw [wg3] at i2
    try rw [wg4] at i2
    try rw [wg5] at i2
    have M85 : m0.1 85 = μ.1 85 := z0.1 85 (by decide) rfl
    intro x41 hx41 kx41 lx41
    rw [wg36] at hx41
    refine And.intro ⟨by omega, by omega⟩ ?_
    intro m42 em42
    have z43 := zfx_f z0 em42 rfl
    have w44 : m42.1 66 ((31 : Nat) : Int) = g36 := by rw [em42]; exact (zu_nk (by decide)).trans wg36
    have w45 : m42.1 66 ((30 : Nat) : Int) = g37 := by rw [em42]; exact (zu_nk (by decide)).trans wg37
    have w46 : m42.1 66 ((33 : Nat) : Int) = x41 := by rw [em42]; exact zu_at
    have w47 : m42.1 66 ((34 : Nat) : Int) = g39 := by rw [em42]; exact (zu_nk (by decide)).trans wg39
    have w48 : m42.1 66 ((32 : Nat) : Int) = g40 := by rw [em42]; exact (zu_nk (by decide)).trans wg40
    refine And.intro ⟨by omega, by omega⟩ ?_
    intro m49 em49
    have z50 := zfx_f z43 em49 rfl
    have w51 : m49.1 66 ((31 : Nat) : Int) = g36 := by rw [em49]; exact (zu_nk (by decide)).trans w44
    have w52 : m49.1 66 ((30 : Nat) : Int) = g37 := by rw [em49]; exact (zu_nk (by decide)).trans w45
    have w53 : m49.1 66 ((33 : Nat) : Int) = x41 := by rw [em49]; exact (zu_nk (by decide)).trans w46
    have w54 : m49.1 66 ((34 : Nat) : Int) = 0 := by rw [em49]; exact zu_at
    have w55 : m49.1 66 ((32 : Nat) : Int) = g40 := by rw [em49]; exact (zu_nk (by decide)).trans w48
    clear w44 w45 w46 w47 w48
    intro x56 hx56 kx56 lx56
    rw [w51] at hx56
    intro x57 hx57 kx57 lx57
    rw [w52] at hx57
    refine And.intro ⟨⟨by omega, by omega⟩, ⟨by omega, by omega⟩⟩ (And.intro (fun c58 => ?_) (fun c58 => ?_))
    · intro x59 hx59 kx59 lx59
      rw [w51] at hx59
      refine And.intro ⟨by omega, by omega⟩ ?_
      intro x60 hx60 kx60 lx60
      have LX : x60 = μ.1 85 g36 := by rw [hx60, show x59 = g36 by omega, show m49.1 85 = μ.1 85 from z50.1 85 (by decide) rfl]
      refine ⟨yk_X9_isLetter, ym_X9_isLetter hg d (by omega), _, rfl, ⟨by omega, by omega⟩, ?_⟩
      intro x61 kx61 lx61 p62 p63
      try rw [w51] at p62
      try rw [w52] at p62
      try rw [w53] at p62
      try rw [w54] at p62
      try rw [w55] at p62
      try rw [wg1] at p62
      try rw [wg2] at p62
      try rw [wg3] at p62
      try rw [wg4] at p62
      try rw [wg5] at p62
      try rw [w51] at p63
      try rw [w52] at p63
      try rw [w53] at p63
      try rw [w54] at p63
      try rw [w55] at p63
      try rw [wg1] at p63
      try rw [wg2] at p63
      try rw [wg3] at p63
      try rw [wg4] at p63
      try rw [wg5] at p63
      refine And.intro ⟨by omega, by omega⟩ (And.intro (fun c64 => ?_) (fun c64 => ?_))
      · have bc64 := yp0 p63 c64
        have NL : ¬ yLet (μ.1 85 g36) = true := by rw [← LX]; exact bc64
        refine And.intro ⟨by omega, by omega⟩ ?_
        intro m65 em65
        have z66 := zfx_f z50 em65 rfl
        have w67 : m65.1 66 ((31 : Nat) : Int) = g36 := by rw [em65]; exact (zu_nk (by decide)).trans w51
        have w68 : m65.1 66 ((30 : Nat) : Int) = g37 := by rw [em65]; exact (zu_nk (by decide)).trans w52
        have w69 : m65.1 66 ((33 : Nat) : Int) = x41 := by rw [em65]; exact (zu_nk (by decide)).trans w53
        have w70 : m65.1 66 ((34 : Nat) : Int) = 1 := by rw [em65]; exact zu_at
        have w71 : m65.1 66 ((32 : Nat) : Int) = g40 := by rw [em65]; exact (zu_nk (by decide)).trans w55
        clear w51 w52 w53 w54 w55
        refine ⟨yk_X9_isSign, ym_X9_isSign hg d (by omega), _, rfl, ⟨by omega, by omega⟩, ?_⟩
        intro x72 kx72 lx72 p73
        try rw [w67] at p73
        try rw [w68] at p73
        try rw [w69] at p73
        try rw [w70] at p73
        try rw [w71] at p73
        try rw [wg1] at p73
        try rw [wg2] at p73
        try rw [wg3] at p73
        try rw [wg4] at p73
        try rw [wg5] at p73
        refine And.intro ⟨by omega, by omega⟩ (And.intro (fun c74 => ?_) (fun c74 => ?_))
        · have bc74 := yp0 p73 c74
          refine And.intro ⟨by omega, by omega⟩ ?_
          intro m75 em75
          have z76 := zfx_f z66 em75 rfl
          have w77 : m75.1 66 ((31 : Nat) : Int) = g36 := by rw [em75]; exact (zu_nk (by decide)).trans w67
          have w78 : m75.1 66 ((30 : Nat) : Int) = g37 := by rw [em75]; exact (zu_nk (by decide)).trans w68
          have w79 : m75.1 66 ((33 : Nat) : Int) = x41 := by rw [em75]; exact (zu_nk (by decide)).trans w69
          have w80 : m75.1 66 ((34 : Nat) : Int) = 1 := by rw [em75]; exact (zu_nk (by decide)).trans w70
          have w81 : m75.1 66 ((32 : Nat) : Int) = 261 := by rw [em75]; exact zu_at
          clear w67 w68 w69 w70 w71
          refine Exists.intro (Int.toNat (5)) (And.intro (by (try rw [w77]) <;> (try rw [w78]) <;> (try rw [w79]) <;> (try rw [w80]) <;> (try rw [w81]) <;> (try rw [wg36]) <;> (try rw [wg37]) <;> (try rw [wg38]) <;> (try rw [wg39]) <;> (try rw [wg40]) <;> (try rw [wg1]) <;> (try rw [wg2]) <;> (try rw [wg3]) <;> (try rw [wg4]) <;> (try rw [wg5]) <;> omega) ?_)
          exact ⟨(fun h => absurd h (by decide)), (fun h => absurd h (by decide)), (fun h => absurd h (by decide)), (fun _ => ⟨rfl, z76, (by (try rw [w77]) <;> (try rw [w78]) <;> (try rw [w79]) <;> (try rw [w80]) <;> (try rw [w81]) <;> (try rw [wg36]) <;> (try rw [wg37]) <;> (try rw [wg38]) <;> (try rw [wg39]) <;> (try rw [wg40]) <;> (try rw [wg1]) <;> (try rw [wg2]) <;> (try rw [wg3]) <;> (try rw [wg4]) <;> (try rw [wg5]) <;> omega), (by (try rw [w77]) <;> (try rw [w78]) <;> (try rw [w79]) <;> (try rw [w80]) <;> (try rw [w81]) <;> (try rw [wg36]) <;> (try rw [wg37]) <;> (try rw [wg38]) <;> (try rw [wg39]) <;> (try rw [wg40]) <;> (try rw [wg1]) <;> (try rw [wg2]) <;> (try rw [wg3]) <;> (try rw [wg4]) <;> (try rw [wg5]) <;> omega), (by rw [w81, w79, w80, w77, wg2, wg1]; exact (fun h0 => ⟨h0.1, h0.2.1, h0.2.2.1, i2⟩) (rpa_s i2 (by show g36 < g2; omega) NL (Or.inr ⟨rfl, by show ¬ ySg (μ.1 85 g36) = true; rw [← LX]; exact bc74⟩) (by omega) (by omega) rfl)), (by (try rw [w77]) <;> (try rw [w78]) <;> (try rw [w79]) <;> (try rw [w80]) <;> (try rw [w81]) <;> (try rw [wg36]) <;> (try rw [wg37]) <;> (try rw [wg38]) <;> (try rw [wg39]) <;> (try rw [wg40]) <;> (try rw [wg1]) <;> (try rw [wg2]) <;> (try rw [wg3]) <;> (try rw [wg4]) <;> (try rw [wg5]) <;> omega), rfl⟩)⟩
        · have bc74 := yp1 p73 c74
          refine And.intro ⟨by omega, by omega⟩ ?_
          intro m82 em82
          have z83 := zfx_f z66 em82 rfl
          have w84 : m82.1 66 ((31 : Nat) : Int) = g36 := by rw [em82]; exact (zu_nk (by decide)).trans w67
          have w85 : m82.1 66 ((30 : Nat) : Int) = g37 := by rw [em82]; exact (zu_nk (by decide)).trans w68
          have w86 : m82.1 66 ((33 : Nat) : Int) = x41 := by rw [em82]; exact (zu_nk (by decide)).trans w69
          have w87 : m82.1 66 ((34 : Nat) : Int) = 1 := by rw [em82]; exact (zu_nk (by decide)).trans w70
          have w88 : m82.1 66 ((32 : Nat) : Int) = x60 := by rw [em82]; exact zu_at
          clear w67 w68 w69 w70 w71
          refine Exists.intro (Int.toNat (5)) (And.intro (by (try rw [w84]) <;> (try rw [w85]) <;> (try rw [w86]) <;> (try rw [w87]) <;> (try rw [w88]) <;> (try rw [wg36]) <;> (try rw [wg37]) <;> (try rw [wg38]) <;> (try rw [wg39]) <;> (try rw [wg40]) <;> (try rw [wg1]) <;> (try rw [wg2]) <;> (try rw [wg3]) <;> (try rw [wg4]) <;> (try rw [wg5]) <;> omega) ?_)
          exact ⟨(fun h => absurd h (by decide)), (fun h => absurd h (by decide)), (fun h => absurd h (by decide)), (fun _ => ⟨rfl, z83, (by (try rw [w84]) <;> (try rw [w85]) <;> (try rw [w86]) <;> (try rw [w87]) <;> (try rw [w88]) <;> (try rw [wg36]) <;> (try rw [wg37]) <;> (try rw [wg38]) <;> (try rw [wg39]) <;> (try rw [wg40]) <;> (try rw [wg1]) <;> (try rw [wg2]) <;> (try rw [wg3]) <;> (try rw [wg4]) <;> (try rw [wg5]) <;> omega), (by (try rw [w84]) <;> (try rw [w85]) <;> (try rw [w86]) <;> (try rw [w87]) <;> (try rw [w88]) <;> (try rw [wg36]) <;> (try rw [wg37]) <;> (try rw [wg38]) <;> (try rw [wg39]) <;> (try rw [wg40]) <;> (try rw [wg1]) <;> (try rw [wg2]) <;> (try rw [wg3]) <;> (try rw [wg4]) <;> (try rw [wg5]) <;> omega), (by rw [w88, w86, w87, w84, wg2, wg1]; exact (fun h0 => ⟨h0.1, h0.2.1, h0.2.2.1, i2⟩) (rpa_s i2 (by show g36 < g2; omega) NL (Or.inl ⟨LX, by show ySg (μ.1 85 g36) = true; rw [← LX]; exact bc74⟩) (by omega) (by omega) rfl)), (by (try rw [w84]) <;> (try rw [w85]) <;> (try rw [w86]) <;> (try rw [w87]) <;> (try rw [w88]) <;> (try rw [wg36]) <;> (try rw [wg37]) <;> (try rw [wg38]) <;> (try rw [wg39]) <;> (try rw [wg40]) <;> (try rw [wg1]) <;> (try rw [wg2]) <;> (try rw [wg3]) <;> (try rw [wg4]) <;> (try rw [wg5]) <;> omega), rfl⟩)⟩
      · have bc64 := yp1 p63 c64
        refine Exists.intro (Int.toNat (m49.1 66 ((30 : Nat) : Int) - m49.1 66 ((34 : Nat) : Int) + 10)) (And.intro (by (try rw [w51]) <;> (try rw [w52]) <;> (try rw [w53]) <;> (try rw [w54]) <;> (try rw [w55]) <;> (try rw [wg36]) <;> (try rw [wg37]) <;> (try rw [wg38]) <;> (try rw [wg39]) <;> (try rw [wg40]) <;> (try rw [wg1]) <;> (try rw [wg2]) <;> (try rw [wg3]) <;> (try rw [wg4]) <;> (try rw [wg5]) <;> omega) ?_)
        exact ⟨(fun h => absurd h (by decide)), (fun h => absurd h (by decide)), (fun _ => ⟨rfl, z50, (by (try rw [w51]) <;> (try rw [w52]) <;> (try rw [w53]) <;> (try rw [w54]) <;> (try rw [w55]) <;> (try rw [wg36]) <;> (try rw [wg37]) <;> (try rw [wg38]) <;> (try rw [wg39]) <;> (try rw [wg40]) <;> (try rw [wg1]) <;> (try rw [wg2]) <;> (try rw [wg3]) <;> (try rw [wg4]) <;> (try rw [wg5]) <;> omega), (by (try rw [w51]) <;> (try rw [w52]) <;> (try rw [w53]) <;> (try rw [w54]) <;> (try rw [w55]) <;> (try rw [wg36]) <;> (try rw [wg37]) <;> (try rw [wg38]) <;> (try rw [wg39]) <;> (try rw [wg40]) <;> (try rw [wg1]) <;> (try rw [wg2]) <;> (try rw [wg3]) <;> (try rw [wg4]) <;> (try rw [wg5]) <;> omega), (by (try rw [w51]) <;> (try rw [w52]) <;> (try rw [w53]) <;> (try rw [w54]) <;> (try rw [w55]) <;> (try rw [wg36]) <;> (try rw [wg37]) <;> (try rw [wg38]) <;> (try rw [wg39]) <;> (try rw [wg40]) <;> (try rw [wg1]) <;> (try rw [wg2]) <;> (try rw [wg3]) <;> (try rw [wg4]) <;> (try rw [wg5]) <;> omega), (by rw [wg2, wg1, w51, w54]; exact ⟨i2, by rw [← LX]; exact bc64, by rw [show g36 + 0 = g36 by omega]⟩), rfl⟩), (fun h => absurd h (by decide))⟩
    · refine And.intro ⟨by omega, by omega⟩ ?_
      intro m89 em89
      have z90 := zfx_f z50 em89 rfl
      have w91 : m89.1 66 ((31 : Nat) : Int) = g36 := by rw [em89]; exact (zu_nk (by decide)).trans w51
      have w92 : m89.1 66 ((30 : Nat) : Int) = g37 := by rw [em89]; exact (zu_nk (by decide)).trans w52
      have w93 : m89.1 66 ((33 : Nat) : Int) = x41 := by rw [em89]; exact (zu_nk (by decide)).trans w53
      have w94 : m89.1 66 ((34 : Nat) : Int) = 0 := by rw [em89]; exact (zu_nk (by decide)).trans w54
      have w95 : m89.1 66 ((32 : Nat) : Int) = 256 := by rw [em89]; exact zu_at
      clear w51 w52 w53 w54 w55
      exact And.intro rfl (hQ _ z90 (by (try rw [w91]) <;> (try rw [w92]) <;> (try rw [w93]) <;> (try rw [w94]) <;> (try rw [w95]) <;> (try rw [wg36]) <;> (try rw [wg37]) <;> (try rw [wg38]) <;> (try rw [wg39]) <;> (try rw [wg40]) <;> (try rw [wg1]) <;> (try rw [wg2]) <;> (try rw [wg3]) <;> (try rw [wg4]) <;> (try rw [wg5]) <;> omega) (by (try rw [w91]) <;> (try rw [w92]) <;> (try rw [w93]) <;> (try rw [w94]) <;> (try rw [w95]) <;> (try rw [wg36]) <;> (try rw [wg37]) <;> (try rw [wg38]) <;> (try rw [wg39]) <;> (try rw [wg40]) <;> (try rw [wg1]) <;> (try rw [wg2]) <;> (try rw [wg3]) <;> (try rw [wg4]) <;> (try rw [wg5]) <;> omega) (by (try rw [w91]) <;> (try rw [w92]) <;> (try rw [w93]) <;> (try rw [w94]) <;> (try rw [w95]) <;> (try rw [wg36]) <;> (try rw [wg37]) <;> (try rw [wg38]) <;> (try rw [wg39]) <;> (try rw [wg40]) <;> (try rw [wg1]) <;> (try rw [wg2]) <;> (try rw [wg3]) <;> (try rw [wg4]) <;> (try rw [wg5]) <;> omega) (by (try rw [w91]) <;> (try rw [w92]) <;> (try rw [w93]) <;> (try rw [w94]) <;> (try rw [w95]) <;> (try rw [wg36]) <;> (try rw [wg37]) <;> (try rw [wg38]) <;> (try rw [wg39]) <;> (try rw [wg40]) <;> (try rw [wg1]) <;> (try rw [wg2]) <;> (try rw [wg3]) <;> (try rw [wg4]) <;> (try rw [wg5]) <;> omega) (by rw [w95, w93, w94, w91, wg2, wg1]; exact rpa_e i2 (by show g2 ≤ g36; omega) (by omega) (by omega) (by omega) (by omega)))
  · intro vs m0 n hI
    replace hI := hI.2.2.1 rfl
    clear z0
    obtain ⟨rfl, z0, i0, i1, i2, i3, rfl⟩ := hI
    obtain ⟨g96, wg96⟩ : ∃ z : Int, m0.1 66 ((31 : Nat) : Int) = z := ⟨_, rfl⟩
    obtain ⟨g97, wg97⟩ : ∃ z : Int, m0.1 66 ((30 : Nat) : Int) = z := ⟨_, rfl⟩
    obtain ⟨g98, wg98⟩ : ∃ z : Int, m0.1 66 ((33 : Nat) : Int) = z := ⟨_, rfl⟩
    obtain ⟨g99, wg99⟩ : ∃ z : Int, m0.1 66 ((34 : Nat) : Int) = z := ⟨_, rfl⟩
    obtain ⟨g100, wg100⟩ : ∃ z : Int, m0.1 66 ((32 : Nat) : Int) = z := ⟨_, rfl⟩
    try rw [wg96] at i0
    try rw [wg97] at i0
    try rw [wg98] at i0
    try rw [wg99] at i0
    try rw [wg100] at i0
    try rw [wg1] at i0
    try rw [wg2] at i0
    try rw [wg3] at i0
    try rw [wg4] at i0
    try rw [wg5] at i0
    try rw [wg96] at i1
    try rw [wg97] at i1
    try rw [wg98] at i1
    try rw [wg99] at i1
    try rw [wg100] at i1
    try rw [wg1] at i1
    try rw [wg2] at i1
    try rw [wg3] at i1
    try rw [wg4] at i1
    try rw [wg5] at i1
    try rw [wg96] at i2
    try rw [wg97] at i2
    try rw [wg98] at i2
    try rw [wg99] at i2
    try rw [wg100] at i2
    try rw [wg1] at i2
    try rw [wg2] at i2
    try rw [wg3] at i2
    try rw [wg4] at i2
    try rw [wg5] at i2
    try rw [wg96] at i3
    try rw [wg97] at i3
    try rw [wg98] at i3
    try rw [wg99] at i3
    try rw [wg100] at i3
    try rw [wg1] at i3
    try rw [wg2] at i3
    try rw [wg3] at i3
    try rw [wg4] at i3
    try rw [wg5] at i3
    have M85 : m0.1 85 = μ.1 85 := z0.1 85 (by decide) rfl
    obtain ⟨J1, JL, JR⟩ := i3
    intro x101 hx101 kx101 lx101
    rw [wg96] at hx101
    intro x102 hx102 kx102 lx102
    rw [wg99] at hx102
    refine ⟨yk_X9_isPart, ym_X9_isPart hg d (by omega), _, rfl, ⟨by omega, by omega⟩, ?_⟩
    intro x103 kx103 lx103 p104 p105 p106
    try rw [wg96] at p104
    try rw [wg97] at p104
    try rw [wg98] at p104
    try rw [wg99] at p104
    try rw [wg100] at p104
    try rw [wg1] at p104
    try rw [wg2] at p104
    try rw [wg3] at p104
    try rw [wg4] at p104
    try rw [wg5] at p104
    try rw [wg96] at p105
    try rw [wg97] at p105
    try rw [wg98] at p105
    try rw [wg99] at p105
    try rw [wg100] at p105
    try rw [wg1] at p105
    try rw [wg2] at p105
    try rw [wg3] at p105
    try rw [wg4] at p105
    try rw [wg5] at p105
    try rw [wg96] at p106
    try rw [wg97] at p106
    try rw [wg98] at p106
    try rw [wg99] at p106
    try rw [wg100] at p106
    try rw [wg1] at p106
    try rw [wg2] at p106
    try rw [wg3] at p106
    try rw [wg4] at p106
    try rw [wg5] at p106
    refine And.intro ⟨by omega, by omega⟩ (And.intro (fun c107 => ?_) (fun c107 => ?_))
    · have bc107 := yp0 p106 c107
      have ST := yru_st (p := yNb) (T := ((μ.1 85, g2) : yT)) (i := g96 + g99) (fun h0 => bc107 ⟨by have h1 : g96 + g99 < g2 := h0.1; omega, by rw [M85, show (x101 + x102) = g96 + g99 by omega]; exact h0.2⟩)
      have S1 : yru yNb ((μ.1 85, g2) : yT) (g96 + 1) = g96 + g99 := (yru_go (p := yNb) (T := ((μ.1 85, g2) : yT)) (i := g96) (by show g96 < g2; omega) ((yNb_iff _).mpr (Or.inl JL))).symm.trans (JR.trans ST)
      have S2 := yru_ge yNb ((μ.1 85, g2) : yT) (g96 + 1)
      rw [S1] at S2
      intro x108 hx108 kx108 lx108
      rw [wg99] at hx108
      refine And.intro ⟨⟨by omega, by omega⟩, ⟨by omega, by omega⟩⟩ (And.intro (fun c109 => ?_) (fun c109 => ?_))
      · intro x110 hx110 kx110 lx110
        rw [wg96] at hx110
        intro x111 hx111 kx111 lx111
        rw [wg99] at hx111
        refine ⟨yk_X9_nameAt, ym_X9_nameAt hg d (by omega), _, _, rfl, ⟨by omega, by omega⟩, ⟨by omega, by omega⟩, (by (try rw [wg96]) <;> (try rw [wg97]) <;> (try rw [wg98]) <;> (try rw [wg99]) <;> (try rw [wg100]) <;> (try rw [wg1]) <;> (try rw [wg2]) <;> (try rw [wg3]) <;> (try rw [wg4]) <;> (try rw [wg5]) <;> omega), ?_⟩
        intro j112 p113
        try rw [wg96] at p113
        try rw [wg97] at p113
        try rw [wg98] at p113
        try rw [wg99] at p113
        try rw [wg100] at p113
        try rw [wg1] at p113
        try rw [wg2] at p113
        try rw [wg3] at p113
        try rw [wg4] at p113
        try rw [wg5] at p113
        have NM : j112 = yv ((μ.1 85, g2) : yT) g96 (g99).toNat := by have h0 := p113; rw [M85, show g97 = g2 by omega, show x110 = g96 by omega, show x111 = g99 by omega] at h0; exact h0
        intro x114 hx114 kx114 lx114
        rw [wg99] at hx114
        refine And.intro ⟨⟨by omega, by omega⟩, ⟨by omega, by omega⟩⟩ (And.intro (fun c115 => ?_) (fun c115 => ?_))
        · intro x116 hx116 kx116 lx116
          refine And.intro ⟨by omega, by omega⟩ (And.intro (fun c117 => ?_) (fun c117 => ?_))
          · have bc117 := ylcn hx116 c117
            clear c117
            intro x118 hx118 kx118 lx118
            refine And.intro ⟨by omega, by omega⟩ (And.intro (fun c119 => ?_) (fun c119 => ?_))
            · have bc119 := ylcn hx118 c119
              clear c119
              intro x120 hx120 kx120 lx120
              refine And.intro ⟨by omega, by omega⟩ (And.intro (fun c121 => ?_) (fun c121 => ?_))
              · have bc121 := ylcn hx120 c121
                clear c121
                refine And.intro ⟨by omega, by omega⟩ ?_
                intro m122 em122
                have z123 := zfx_f z0 em122 rfl
                have w124 : m122.1 66 ((31 : Nat) : Int) = g96 := by rw [em122]; exact (zu_nk (by decide)).trans wg96
                have w125 : m122.1 66 ((30 : Nat) : Int) = g97 := by rw [em122]; exact (zu_nk (by decide)).trans wg97
                have w126 : m122.1 66 ((33 : Nat) : Int) = g98 := by rw [em122]; exact (zu_nk (by decide)).trans wg98
                have w127 : m122.1 66 ((34 : Nat) : Int) = g99 := by rw [em122]; exact (zu_nk (by decide)).trans wg99
                have w128 : m122.1 66 ((32 : Nat) : Int) = 257 := by rw [em122]; exact zu_at
                refine Exists.intro (Int.toNat (5)) (And.intro (by (try rw [w124]) <;> (try rw [w125]) <;> (try rw [w126]) <;> (try rw [w127]) <;> (try rw [w128]) <;> (try rw [wg96]) <;> (try rw [wg97]) <;> (try rw [wg98]) <;> (try rw [wg99]) <;> (try rw [wg100]) <;> (try rw [wg1]) <;> (try rw [wg2]) <;> (try rw [wg3]) <;> (try rw [wg4]) <;> (try rw [wg5]) <;> omega) ?_)
                exact ⟨(fun h => absurd h (by decide)), (fun h => absurd h (by decide)), (fun h => absurd h (by decide)), (fun _ => ⟨rfl, z123, (by (try rw [w124]) <;> (try rw [w125]) <;> (try rw [w126]) <;> (try rw [w127]) <;> (try rw [w128]) <;> (try rw [wg96]) <;> (try rw [wg97]) <;> (try rw [wg98]) <;> (try rw [wg99]) <;> (try rw [wg100]) <;> (try rw [wg1]) <;> (try rw [wg2]) <;> (try rw [wg3]) <;> (try rw [wg4]) <;> (try rw [wg5]) <;> omega), (by (try rw [w124]) <;> (try rw [w125]) <;> (try rw [w126]) <;> (try rw [w127]) <;> (try rw [w128]) <;> (try rw [wg96]) <;> (try rw [wg97]) <;> (try rw [wg98]) <;> (try rw [wg99]) <;> (try rw [wg100]) <;> (try rw [wg1]) <;> (try rw [wg2]) <;> (try rw [wg3]) <;> (try rw [wg4]) <;> (try rw [wg5]) <;> omega), (by rw [w128, w126, w127, w124, wg2, wg1]; exact (fun h0 => ⟨h0.1, h0.2.1, h0.2.2.1, J1⟩) (rpa_l (nm := j112) J1 (by show g96 < g2; omega) JL S1 (fun _ => NM) (Or.inr ⟨by omega, Or.inr (Or.inr (Or.inr ⟨rfl, bc117, bc119, bc121⟩))⟩) (by omega) (by omega) rfl)), (by (try rw [w124]) <;> (try rw [w125]) <;> (try rw [w126]) <;> (try rw [w127]) <;> (try rw [w128]) <;> (try rw [wg96]) <;> (try rw [wg97]) <;> (try rw [wg98]) <;> (try rw [wg99]) <;> (try rw [wg100]) <;> (try rw [wg1]) <;> (try rw [wg2]) <;> (try rw [wg3]) <;> (try rw [wg4]) <;> (try rw [wg5]) <;> omega), rfl⟩)⟩
              · have bc121 := ylc0 hx120 c121
                refine And.intro ⟨by omega, by omega⟩ ?_
                intro m129 em129
                have z130 := zfx_f z0 em129 rfl
                have w131 : m129.1 66 ((31 : Nat) : Int) = g96 := by rw [em129]; exact (zu_nk (by decide)).trans wg96
                have w132 : m129.1 66 ((30 : Nat) : Int) = g97 := by rw [em129]; exact (zu_nk (by decide)).trans wg97
                have w133 : m129.1 66 ((33 : Nat) : Int) = g98 := by rw [em129]; exact (zu_nk (by decide)).trans wg98
                have w134 : m129.1 66 ((34 : Nat) : Int) = g99 := by rw [em129]; exact (zu_nk (by decide)).trans wg99
                have w135 : m129.1 66 ((32 : Nat) : Int) = 260 := by rw [em129]; exact zu_at
                refine Exists.intro (Int.toNat (5)) (And.intro (by (try rw [w131]) <;> (try rw [w132]) <;> (try rw [w133]) <;> (try rw [w134]) <;> (try rw [w135]) <;> (try rw [wg96]) <;> (try rw [wg97]) <;> (try rw [wg98]) <;> (try rw [wg99]) <;> (try rw [wg100]) <;> (try rw [wg1]) <;> (try rw [wg2]) <;> (try rw [wg3]) <;> (try rw [wg4]) <;> (try rw [wg5]) <;> omega) ?_)
                exact ⟨(fun h => absurd h (by decide)), (fun h => absurd h (by decide)), (fun h => absurd h (by decide)), (fun _ => ⟨rfl, z130, (by (try rw [w131]) <;> (try rw [w132]) <;> (try rw [w133]) <;> (try rw [w134]) <;> (try rw [w135]) <;> (try rw [wg96]) <;> (try rw [wg97]) <;> (try rw [wg98]) <;> (try rw [wg99]) <;> (try rw [wg100]) <;> (try rw [wg1]) <;> (try rw [wg2]) <;> (try rw [wg3]) <;> (try rw [wg4]) <;> (try rw [wg5]) <;> omega), (by (try rw [w131]) <;> (try rw [w132]) <;> (try rw [w133]) <;> (try rw [w134]) <;> (try rw [w135]) <;> (try rw [wg96]) <;> (try rw [wg97]) <;> (try rw [wg98]) <;> (try rw [wg99]) <;> (try rw [wg100]) <;> (try rw [wg1]) <;> (try rw [wg2]) <;> (try rw [wg3]) <;> (try rw [wg4]) <;> (try rw [wg5]) <;> omega), (by rw [w135, w133, w134, w131, wg2, wg1]; exact (fun h0 => ⟨h0.1, h0.2.1, h0.2.2.1, J1⟩) (rpa_l (nm := j112) J1 (by show g96 < g2; omega) JL S1 (fun _ => NM) (Or.inr ⟨by omega, Or.inr (Or.inr (Or.inl ⟨rfl, bc117, bc119, bc121⟩))⟩) (by omega) (by omega) rfl)), (by (try rw [w131]) <;> (try rw [w132]) <;> (try rw [w133]) <;> (try rw [w134]) <;> (try rw [w135]) <;> (try rw [wg96]) <;> (try rw [wg97]) <;> (try rw [wg98]) <;> (try rw [wg99]) <;> (try rw [wg100]) <;> (try rw [wg1]) <;> (try rw [wg2]) <;> (try rw [wg3]) <;> (try rw [wg4]) <;> (try rw [wg5]) <;> omega), rfl⟩)⟩
            · have bc119 := ylc0 hx118 c119
              refine And.intro ⟨by omega, by omega⟩ ?_
              intro m136 em136
              have z137 := zfx_f z0 em136 rfl
              have w138 : m136.1 66 ((31 : Nat) : Int) = g96 := by rw [em136]; exact (zu_nk (by decide)).trans wg96
              have w139 : m136.1 66 ((30 : Nat) : Int) = g97 := by rw [em136]; exact (zu_nk (by decide)).trans wg97
              have w140 : m136.1 66 ((33 : Nat) : Int) = g98 := by rw [em136]; exact (zu_nk (by decide)).trans wg98
              have w141 : m136.1 66 ((34 : Nat) : Int) = g99 := by rw [em136]; exact (zu_nk (by decide)).trans wg99
              have w142 : m136.1 66 ((32 : Nat) : Int) = 259 := by rw [em136]; exact zu_at
              refine Exists.intro (Int.toNat (5)) (And.intro (by (try rw [w138]) <;> (try rw [w139]) <;> (try rw [w140]) <;> (try rw [w141]) <;> (try rw [w142]) <;> (try rw [wg96]) <;> (try rw [wg97]) <;> (try rw [wg98]) <;> (try rw [wg99]) <;> (try rw [wg100]) <;> (try rw [wg1]) <;> (try rw [wg2]) <;> (try rw [wg3]) <;> (try rw [wg4]) <;> (try rw [wg5]) <;> omega) ?_)
              exact ⟨(fun h => absurd h (by decide)), (fun h => absurd h (by decide)), (fun h => absurd h (by decide)), (fun _ => ⟨rfl, z137, (by (try rw [w138]) <;> (try rw [w139]) <;> (try rw [w140]) <;> (try rw [w141]) <;> (try rw [w142]) <;> (try rw [wg96]) <;> (try rw [wg97]) <;> (try rw [wg98]) <;> (try rw [wg99]) <;> (try rw [wg100]) <;> (try rw [wg1]) <;> (try rw [wg2]) <;> (try rw [wg3]) <;> (try rw [wg4]) <;> (try rw [wg5]) <;> omega), (by (try rw [w138]) <;> (try rw [w139]) <;> (try rw [w140]) <;> (try rw [w141]) <;> (try rw [w142]) <;> (try rw [wg96]) <;> (try rw [wg97]) <;> (try rw [wg98]) <;> (try rw [wg99]) <;> (try rw [wg100]) <;> (try rw [wg1]) <;> (try rw [wg2]) <;> (try rw [wg3]) <;> (try rw [wg4]) <;> (try rw [wg5]) <;> omega), (by rw [w142, w140, w141, w138, wg2, wg1]; exact (fun h0 => ⟨h0.1, h0.2.1, h0.2.2.1, J1⟩) (rpa_l (nm := j112) J1 (by show g96 < g2; omega) JL S1 (fun _ => NM) (Or.inr ⟨by omega, Or.inr (Or.inl ⟨rfl, bc117, bc119⟩)⟩) (by omega) (by omega) rfl)), (by (try rw [w138]) <;> (try rw [w139]) <;> (try rw [w140]) <;> (try rw [w141]) <;> (try rw [w142]) <;> (try rw [wg96]) <;> (try rw [wg97]) <;> (try rw [wg98]) <;> (try rw [wg99]) <;> (try rw [wg100]) <;> (try rw [wg1]) <;> (try rw [wg2]) <;> (try rw [wg3]) <;> (try rw [wg4]) <;> (try rw [wg5]) <;> omega), rfl⟩)⟩
          · have bc117 := ylc0 hx116 c117
            refine And.intro ⟨by omega, by omega⟩ ?_
            intro m143 em143
            have z144 := zfx_f z0 em143 rfl
            have w145 : m143.1 66 ((31 : Nat) : Int) = g96 := by rw [em143]; exact (zu_nk (by decide)).trans wg96
            have w146 : m143.1 66 ((30 : Nat) : Int) = g97 := by rw [em143]; exact (zu_nk (by decide)).trans wg97
            have w147 : m143.1 66 ((33 : Nat) : Int) = g98 := by rw [em143]; exact (zu_nk (by decide)).trans wg98
            have w148 : m143.1 66 ((34 : Nat) : Int) = g99 := by rw [em143]; exact (zu_nk (by decide)).trans wg99
            have w149 : m143.1 66 ((32 : Nat) : Int) = 258 := by rw [em143]; exact zu_at
            refine Exists.intro (Int.toNat (5)) (And.intro (by (try rw [w145]) <;> (try rw [w146]) <;> (try rw [w147]) <;> (try rw [w148]) <;> (try rw [w149]) <;> (try rw [wg96]) <;> (try rw [wg97]) <;> (try rw [wg98]) <;> (try rw [wg99]) <;> (try rw [wg100]) <;> (try rw [wg1]) <;> (try rw [wg2]) <;> (try rw [wg3]) <;> (try rw [wg4]) <;> (try rw [wg5]) <;> omega) ?_)
            exact ⟨(fun h => absurd h (by decide)), (fun h => absurd h (by decide)), (fun h => absurd h (by decide)), (fun _ => ⟨rfl, z144, (by (try rw [w145]) <;> (try rw [w146]) <;> (try rw [w147]) <;> (try rw [w148]) <;> (try rw [w149]) <;> (try rw [wg96]) <;> (try rw [wg97]) <;> (try rw [wg98]) <;> (try rw [wg99]) <;> (try rw [wg100]) <;> (try rw [wg1]) <;> (try rw [wg2]) <;> (try rw [wg3]) <;> (try rw [wg4]) <;> (try rw [wg5]) <;> omega), (by (try rw [w145]) <;> (try rw [w146]) <;> (try rw [w147]) <;> (try rw [w148]) <;> (try rw [w149]) <;> (try rw [wg96]) <;> (try rw [wg97]) <;> (try rw [wg98]) <;> (try rw [wg99]) <;> (try rw [wg100]) <;> (try rw [wg1]) <;> (try rw [wg2]) <;> (try rw [wg3]) <;> (try rw [wg4]) <;> (try rw [wg5]) <;> omega), (by rw [w149, w147, w148, w145, wg2, wg1]; exact (fun h0 => ⟨h0.1, h0.2.1, h0.2.2.1, J1⟩) (rpa_l (nm := j112) J1 (by show g96 < g2; omega) JL S1 (fun _ => NM) (Or.inr ⟨by omega, Or.inl ⟨rfl, bc117⟩⟩) (by omega) (by omega) rfl)), (by (try rw [w145]) <;> (try rw [w146]) <;> (try rw [w147]) <;> (try rw [w148]) <;> (try rw [w149]) <;> (try rw [wg96]) <;> (try rw [wg97]) <;> (try rw [wg98]) <;> (try rw [wg99]) <;> (try rw [wg100]) <;> (try rw [wg1]) <;> (try rw [wg2]) <;> (try rw [wg3]) <;> (try rw [wg4]) <;> (try rw [wg5]) <;> omega), rfl⟩)⟩
        · exfalso; omega
      · intro x150 hx150 kx150 lx150
        rw [wg99] at hx150
        refine And.intro ⟨⟨by omega, by omega⟩, ⟨by omega, by omega⟩⟩ (And.intro (fun c151 => ?_) (fun c151 => ?_))
        · exfalso; omega
        · refine And.intro ⟨by omega, by omega⟩ ?_
          intro m152 em152
          have z153 := zfx_f z0 em152 rfl
          have w154 : m152.1 66 ((31 : Nat) : Int) = g96 := by rw [em152]; exact (zu_nk (by decide)).trans wg96
          have w155 : m152.1 66 ((30 : Nat) : Int) = g97 := by rw [em152]; exact (zu_nk (by decide)).trans wg97
          have w156 : m152.1 66 ((33 : Nat) : Int) = g98 := by rw [em152]; exact (zu_nk (by decide)).trans wg98
          have w157 : m152.1 66 ((34 : Nat) : Int) = g99 := by rw [em152]; exact (zu_nk (by decide)).trans wg99
          have w158 : m152.1 66 ((32 : Nat) : Int) = 261 := by rw [em152]; exact zu_at
          refine Exists.intro (Int.toNat (5)) (And.intro (by (try rw [w154]) <;> (try rw [w155]) <;> (try rw [w156]) <;> (try rw [w157]) <;> (try rw [w158]) <;> (try rw [wg96]) <;> (try rw [wg97]) <;> (try rw [wg98]) <;> (try rw [wg99]) <;> (try rw [wg100]) <;> (try rw [wg1]) <;> (try rw [wg2]) <;> (try rw [wg3]) <;> (try rw [wg4]) <;> (try rw [wg5]) <;> omega) ?_)
          exact ⟨(fun h => absurd h (by decide)), (fun h => absurd h (by decide)), (fun h => absurd h (by decide)), (fun _ => ⟨rfl, z153, (by (try rw [w154]) <;> (try rw [w155]) <;> (try rw [w156]) <;> (try rw [w157]) <;> (try rw [w158]) <;> (try rw [wg96]) <;> (try rw [wg97]) <;> (try rw [wg98]) <;> (try rw [wg99]) <;> (try rw [wg100]) <;> (try rw [wg1]) <;> (try rw [wg2]) <;> (try rw [wg3]) <;> (try rw [wg4]) <;> (try rw [wg5]) <;> omega), (by (try rw [w154]) <;> (try rw [w155]) <;> (try rw [w156]) <;> (try rw [w157]) <;> (try rw [w158]) <;> (try rw [wg96]) <;> (try rw [wg97]) <;> (try rw [wg98]) <;> (try rw [wg99]) <;> (try rw [wg100]) <;> (try rw [wg1]) <;> (try rw [wg2]) <;> (try rw [wg3]) <;> (try rw [wg4]) <;> (try rw [wg5]) <;> omega), (by rw [w158, w156, w157, w154, wg2, wg1]; exact (fun h0 => ⟨h0.1, h0.2.1, h0.2.2.1, J1⟩) (rpa_l (nm := 0) J1 (by show g96 < g2; omega) JL S1 (fun h0 => by omega) (Or.inl ⟨rfl, by omega⟩) (by omega) (by omega) rfl)), (by (try rw [w154]) <;> (try rw [w155]) <;> (try rw [w156]) <;> (try rw [w157]) <;> (try rw [w158]) <;> (try rw [wg96]) <;> (try rw [wg97]) <;> (try rw [wg98]) <;> (try rw [wg99]) <;> (try rw [wg100]) <;> (try rw [wg1]) <;> (try rw [wg2]) <;> (try rw [wg3]) <;> (try rw [wg4]) <;> (try rw [wg5]) <;> omega), rfl⟩)⟩
    · have bc107 := yp1 p106 c107
      have GO := yru_go (p := yNb) (T := ((μ.1 85, g2) : yT)) (i := g96 + g99) (by have h0 := bc107.1; show g96 + g99 < g2; omega) (by have h0 := bc107.2; rw [M85, show (x101 + x102) = g96 + g99 by omega] at h0; exact h0)
      have HB1 := bc107.1
      intro x159 hx159 kx159 lx159
      rw [wg99] at hx159
      refine And.intro ⟨by omega, by omega⟩ ?_
      intro m160 em160
      have z161 := zfx_f z0 em160 rfl
      have w162 : m160.1 66 ((31 : Nat) : Int) = g96 := by rw [em160]; exact (zu_nk (by decide)).trans wg96
      have w163 : m160.1 66 ((30 : Nat) : Int) = g97 := by rw [em160]; exact (zu_nk (by decide)).trans wg97
      have w164 : m160.1 66 ((33 : Nat) : Int) = g98 := by rw [em160]; exact (zu_nk (by decide)).trans wg98
      have w165 : m160.1 66 ((34 : Nat) : Int) = (x159 + 1) := by rw [em160]; exact zu_at
      have w166 : m160.1 66 ((32 : Nat) : Int) = g100 := by rw [em160]; exact (zu_nk (by decide)).trans wg100
      refine Exists.intro (Int.toNat (m160.1 66 ((30 : Nat) : Int) - m160.1 66 ((34 : Nat) : Int) + 10)) (And.intro (by (try rw [w162]) <;> (try rw [w163]) <;> (try rw [w164]) <;> (try rw [w165]) <;> (try rw [w166]) <;> (try rw [wg96]) <;> (try rw [wg97]) <;> (try rw [wg98]) <;> (try rw [wg99]) <;> (try rw [wg100]) <;> (try rw [wg1]) <;> (try rw [wg2]) <;> (try rw [wg3]) <;> (try rw [wg4]) <;> (try rw [wg5]) <;> omega) ?_)
      exact ⟨(fun h => absurd h (by decide)), (fun h => absurd h (by decide)), (fun _ => ⟨rfl, z161, (by (try rw [w162]) <;> (try rw [w163]) <;> (try rw [w164]) <;> (try rw [w165]) <;> (try rw [w166]) <;> (try rw [wg96]) <;> (try rw [wg97]) <;> (try rw [wg98]) <;> (try rw [wg99]) <;> (try rw [wg100]) <;> (try rw [wg1]) <;> (try rw [wg2]) <;> (try rw [wg3]) <;> (try rw [wg4]) <;> (try rw [wg5]) <;> omega), (by (try rw [w162]) <;> (try rw [w163]) <;> (try rw [w164]) <;> (try rw [w165]) <;> (try rw [w166]) <;> (try rw [wg96]) <;> (try rw [wg97]) <;> (try rw [wg98]) <;> (try rw [wg99]) <;> (try rw [wg100]) <;> (try rw [wg1]) <;> (try rw [wg2]) <;> (try rw [wg3]) <;> (try rw [wg4]) <;> (try rw [wg5]) <;> omega), (by (try rw [w162]) <;> (try rw [w163]) <;> (try rw [w164]) <;> (try rw [w165]) <;> (try rw [w166]) <;> (try rw [wg96]) <;> (try rw [wg97]) <;> (try rw [wg98]) <;> (try rw [wg99]) <;> (try rw [wg100]) <;> (try rw [wg1]) <;> (try rw [wg2]) <;> (try rw [wg3]) <;> (try rw [wg4]) <;> (try rw [wg5]) <;> omega), (by rw [wg2, wg1, w162, w165]; exact ⟨J1, JL, by rw [show g96 + (x159 + 1) = g96 + g99 + 1 by omega]; exact JR.trans GO⟩), rfl⟩), (fun h => absurd h (by decide))⟩
  · intro vs m0 n hI
    replace hI := hI.2.2.2 rfl
    clear z0
    obtain ⟨rfl, z0, i0, i1, i2, i3, rfl⟩ := hI
    obtain ⟨g167, wg167⟩ : ∃ z : Int, m0.1 66 ((31 : Nat) : Int) = z := ⟨_, rfl⟩
    obtain ⟨g168, wg168⟩ : ∃ z : Int, m0.1 66 ((30 : Nat) : Int) = z := ⟨_, rfl⟩
    obtain ⟨g169, wg169⟩ : ∃ z : Int, m0.1 66 ((33 : Nat) : Int) = z := ⟨_, rfl⟩
    obtain ⟨g170, wg170⟩ : ∃ z : Int, m0.1 66 ((34 : Nat) : Int) = z := ⟨_, rfl⟩
    obtain ⟨g171, wg171⟩ : ∃ z : Int, m0.1 66 ((32 : Nat) : Int) = z := ⟨_, rfl⟩
    try rw [wg167] at i0
    try rw [wg168] at i0
    try rw [wg169] at i0
    try rw [wg170] at i0
    try rw [wg171] at i0
    try rw [wg1] at i0
    try rw [wg2] at i0
    try rw [wg3] at i0
    try rw [wg4] at i0
    try rw [wg5] at i0
    try rw [wg167] at i1
    try rw [wg168] at i1
    try rw [wg169] at i1
    try rw [wg170] at i1
    try rw [wg171] at i1
    try rw [wg1] at i1
    try rw [wg2] at i1
    try rw [wg3] at i1
    try rw [wg4] at i1
    try rw [wg5] at i1
    try rw [wg167] at i2
    try rw [wg168] at i2
    try rw [wg169] at i2
    try rw [wg170] at i2
    try rw [wg171] at i2
    try rw [wg1] at i2
    try rw [wg2] at i2
    try rw [wg3] at i2
    try rw [wg4] at i2
    try rw [wg5] at i2
    try rw [wg167] at i3
    try rw [wg168] at i3
    try rw [wg169] at i3
    try rw [wg170] at i3
    try rw [wg171] at i3
    try rw [wg1] at i3
    try rw [wg2] at i3
    try rw [wg3] at i3
    try rw [wg4] at i3
    try rw [wg5] at i3
    have M85 : m0.1 85 = μ.1 85 := z0.1 85 (by decide) rfl
    have PL := i2.2.1
    have NX : ynx ((μ.1 85, g2) : yT) g1 = ypl ((μ.1 85, g2) : yT) g1 + ysz ((μ.1 85, g2) : yT) g1 := rfl
    intro x172 hx172 kx172 lx172
    rw [wg167] at hx172
    intro x173 hx173 kx173 lx173
    rw [wg170] at hx173
    refine And.intro ⟨by omega, by omega⟩ ?_
    intro m174 em174
    have z175 := zfx_f z0 em174 rfl
    have w176 : m174.1 66 ((31 : Nat) : Int) = (x172 + x173) := by rw [em174]; exact zu_at
    have w177 : m174.1 66 ((30 : Nat) : Int) = g168 := by rw [em174]; exact (zu_nk (by decide)).trans wg168
    have w178 : m174.1 66 ((33 : Nat) : Int) = g169 := by rw [em174]; exact (zu_nk (by decide)).trans wg169
    have w179 : m174.1 66 ((34 : Nat) : Int) = g170 := by rw [em174]; exact (zu_nk (by decide)).trans wg170
    have w180 : m174.1 66 ((32 : Nat) : Int) = g171 := by rw [em174]; exact (zu_nk (by decide)).trans wg171
    exact And.intro rfl (hQ _ z175 (by (try rw [w176]) <;> (try rw [w177]) <;> (try rw [w178]) <;> (try rw [w179]) <;> (try rw [w180]) <;> (try rw [wg167]) <;> (try rw [wg168]) <;> (try rw [wg169]) <;> (try rw [wg170]) <;> (try rw [wg171]) <;> (try rw [wg1]) <;> (try rw [wg2]) <;> (try rw [wg3]) <;> (try rw [wg4]) <;> (try rw [wg5]) <;> omega) (by (try rw [w176]) <;> (try rw [w177]) <;> (try rw [w178]) <;> (try rw [w179]) <;> (try rw [w180]) <;> (try rw [wg167]) <;> (try rw [wg168]) <;> (try rw [wg169]) <;> (try rw [wg170]) <;> (try rw [wg171]) <;> (try rw [wg1]) <;> (try rw [wg2]) <;> (try rw [wg3]) <;> (try rw [wg4]) <;> (try rw [wg5]) <;> omega) (by (try rw [w176]) <;> (try rw [w177]) <;> (try rw [w178]) <;> (try rw [w179]) <;> (try rw [w180]) <;> (try rw [wg167]) <;> (try rw [wg168]) <;> (try rw [wg169]) <;> (try rw [wg170]) <;> (try rw [wg171]) <;> (try rw [wg1]) <;> (try rw [wg2]) <;> (try rw [wg3]) <;> (try rw [wg4]) <;> (try rw [wg5]) <;> omega) (by (try rw [w176]) <;> (try rw [w177]) <;> (try rw [w178]) <;> (try rw [w179]) <;> (try rw [w180]) <;> (try rw [wg167]) <;> (try rw [wg168]) <;> (try rw [wg169]) <;> (try rw [wg170]) <;> (try rw [wg171]) <;> (try rw [wg1]) <;> (try rw [wg2]) <;> (try rw [wg3]) <;> (try rw [wg4]) <;> (try rw [wg5]) <;> omega) (by rw [w180, w178, w179, w176, wg2, wg1]; exact ⟨i2.1, i2.2.1, i2.2.2.1, by rw [NX, ← i2.2.1, ← i2.2.2.1]; omega⟩))
