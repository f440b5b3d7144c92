/-! ### places are within the text -/
theorem yPo_l {T : yT} {p : Int} (h : 0 ≤ p ∧ p ≤ T.2) : (0 ≤ ypl T p ∧ ypl T p ≤ T.2) ∧ 0 ≤ ynx T p ∧ ynx T p ≤ T.2 := by
  have h1 := yru_ge yBl T p
  have h2 := yru_le (p := yBl) h.2
  have e : ypl T p = yru yBl T p := rfl
  refine ⟨⟨by omega, by omega⟩, ?_⟩
  unfold ynx ysz
  split
  · omega
  · split
    · have h3 := yru_ge yNb T (ypl T p + 1)
      have h4 := yru_le (p := yNb) (T := T) (i := ypl T p + 1) (by omega)
      omega
    · omega
def yPo (T : yT) (s : yS) : Prop := 0 ≤ s.2.1 ∧ s.2.1 ≤ T.2
theorem yPo_f {T : yT} {p c : Int} {B : yB} (h : 0 ≤ p ∧ p ≤ T.2) : yPo T (yflt T B p c) := (yPo_l h).1
theorem yPo_s {T : yT} {s : yS} (h : yPo T s) : yPo T (yms T s) := by
  obtain ⟨c, p, x, fr, B⟩ := s
  have h : 0 ≤ p ∧ p ≤ T.2 := h
  have h1 := (yPo_l h).2
  have h2 := (yPo_l h1).2
  have h3 := (yPo_l h2).2
  unfold yms
  split
  · rename_i q; cases q; unfold ym0; split; (exact yPo_f h); split; (exact yPo_f h); split; (exact yPo_f h); exact h1
  · rename_i q; cases q; split <;> exact h
  · rename_i q; cases q; unfold ym2; dsimp only; split; (exact yPo_f h1); split; (exact yPo_f h1); split; (exact yPo_f h1); split; (exact h3); split; (exact h2); exact yPo_f h2
  · rename_i q; cases q; split <;> exact h
  · rename_i q; cases q; unfold ym4; dsimp only; split; (exact yPo_f h1); split; (exact yPo_f h1); split; (exact yPo_f h1); split; (exact yPo_f h2); exact h2
  · rename_i q; cases q; exact h1
  · rename_i q; cases q; split <;> exact h
  · rename_i q; cases q; exact h1
  · rename_i q; cases q; split; (exact yPo_f h); exact h
  · rename_i q; cases q; split <;> exact h
  · rename_i q; cases q; unfold ym10; dsimp only; split; (exact yPo_f h); split; (exact yPo_f h); split; (exact yPo_f h); split; (exact yPo_f h); split; (split; (exact yPo_f h1); exact h2); exact h1
  · rename_i q; cases q; unfold ym11; split; (split; (exact yPo_f h); split; (exact yPo_f h); dsimp only; split; (exact h2); split; (exact h2); exact h1); exact h
  · rename_i q; cases q; unfold ym12; split; (exact h); split; (exact yPo_f h); split; (exact yPo_f h); split; (exact h); exact h
  · rename_i q; cases q; split; (exact h1); split; (exact h1); exact yPo_f h
  · rename_i q; cases q; unfold ym14; split; (exact h); split; (dsimp only; split; (exact h); split; (exact h); exact h); split; (dsimp only; split; (exact h); exact h); exact h
  · rename_i q; cases q; unfold ym15; split; (exact h1); split; (exact h); dsimp only; split; (exact h); split; (exact yPo_f h); exact h
  · exact h
theorem yPo_R {T : yT} {s s' : yS} (h : yPo T s) (hr : yR T s s') : yPo T s' := by
  obtain ⟨k, rfl⟩ := hr
  induction k generalizing s with
  | zero => exact h
  | succ k ih => exact ih (yPo_s h)
theorem yPo_20 {T : yT} {c : Nat} {p x : Int} {fr : List yF} {B : yB} (h : 0 ≤ T.2 ∧ T.2 ≤ 800) (hr : yR T (0, 0, 0, [], yB0) (c, p, x, fr, B)) : 0 ≤ p ∧ p ≤ 800 := by
  have := yPo_R (T := T) (s := (0, 0, 0, [], yB0)) ⟨by decide, h.1⟩ hr
  have h1 : 0 ≤ p ∧ p ≤ T.2 := this
  omega
def yk_X8_read : zC := fun As μ Q => As = [.inr (.inr (0, 0))] ∧ (∀ i : Int, 0 ≤ i → i < μ.1 1 ((4 : Nat) : Int) → 0 ≤ μ.1 2 i ∧ μ.1 2 i ≤ 255) ∧ (0 ≤ μ.1 1 ((4 : Nat) : Int) ∧ μ.1 1 ((4 : Nat) : Int) ≤ 800) ∧ (μ.2 28 = 441 ∧ μ.2 46 = 441) ∧ (∀ t : Nat, (t = 14 ∨ t = 32) → ∃ c, yCo μ (Nat.add t 12) c ∧ 1024 ≤ μ.2 c) ∧ (zcq μ) ∧ (∀ (v : Int) (μ' : zM), zle μ μ' → (-2147483648) ≤ v → v ≤ 2147483647 → ((∃ p B, yR ((μ.1 2, μ.1 1 ((4 : Nat) : Int)) : yT) (0, 0, 0, [], yB0) (21, p, 0, [], B) ∧ v = B.1 0 0) ∨ (∃ p x B, yR ((μ.1 2, μ.1 1 ((4 : Nat) : Int)) : yT) (0, 0, 0, [], yB0) (20, p, x, [], B) ∧ v = -10 - p)) → (μ'.1 1 ((4 : Nat) : Int) = 0) → Q (some (.inl v)) μ')
set_option maxHeartbeats 4000000 in
theorem ym_X8_read {g : zΓ} (hg : zg g) (d : Nat) (hd : 32 ≤ d) : zOk g d 99 yk_X8_read := by
  obtain ⟨d, rfl⟩ : ∃ d', d = d' + 1 := ⟨d - 1, by omega⟩
  refine zOk_straight hg (show mt_tab[99]? = some mt_X8_read from rfl) [] 49 rfl fun As μ Q hC => ?_
  obtain ⟨rfl, hp0, hp1, hp2, hp3, hp4, hQ⟩ := hC
  refine ⟨rfl, ?_⟩
  have z0 : zle μ μ := zle_r μ
  intro t1 et1 ht1
  have HT : t1 = 14 ∨ t1 = 32 := ht1.1
  obtain ⟨c0, CC0⟩ := hp3 t1 HT
  refine ⟨yk_X3_readTable, ym_X3_readTable hg d (by omega), _, _, rfl, ht1.1, hp0, hp1, (by rcases HT with h0 | h0 <;> rw [h0]; exact hp2.1; exact hp2.2), CC0, (by omega), (zcq_t hp4 z0), ?_⟩
  intro x2 m3 qm3 kx2 lx2 p4 pL
  have z5 := zle_t z0 qm3
  have PR := p4
  intro x6 hx6 kx6 lx6
  refine And.intro ⟨by omega, by omega⟩ ?_
  intro m7 em7
  have z8 := zle_0 z5 (zl0_u em7 (Or.inl (by decide)) (Or.inl ⟨by decide, by decide⟩))
  have G2 : ∀ j : Nat, j ≠ 0 → m7.1 j = m3.1 j := fun j hj => by rw [em7, zu_ne hj]
  refine And.intro ⟨by omega, by omega⟩ (And.intro (fun c9 => ?_) (fun c9 => ?_))
  · obtain ⟨pf, Bf, RF, CF⟩ := (by rcases PR with h0 | h0; exact h0.2; (exfalso; omega) : ∃ p B, yR _ _ (21, p, 0, [], B) ∧ yRC _ m3 p B t1 (Nat.add t1 11))
    intro t10 et10 ht10
    intro t11 et11 ht11
    refine And.intro ⟨ht11.1, trivial⟩ ?_
    intro m12 em12
    have z13 := zle_0 z8 (zl0_u em12 (Or.inl (by decide)) (Or.inl ⟨by decide, by decide⟩))
    refine And.intro ⟨ht10.1, trivial⟩ ?_
    intro m14 em14
    have z15 := zle_0 z13 (zl0_u em14 (Or.inl (by decide)) (Or.inl ⟨by decide, by decide⟩))
    have SPE : t11 = t1 := by have h0 := et11; have h1 := (CF.2.2.2.2.1 rfl).2.1.2.2.2 rfl; rw [em7, zu_nk (by decide), h1] at h0; omega
    have G4 : ∀ j : Nat, j ≠ 0 → m14.1 j = m3.1 j := fun j hj => by rw [em14, zu_ne hj, em12, zu_ne hj]; exact G2 j hj
    have T4 : m14.1 0 ((3 : Nat) : Int) = (t1 : Int) := by rw [em14, zu_nk (by decide), em12, zu_at]; omega
    intro t16 et16 ht16
    refine ⟨xk_X7_measure, xm_X7_measure hg d (by omega), _, rfl, ht16.1, ?_⟩
    intro m17 qm17
    have z18 := zle_0 z15 qm17.1
    intro t19 et19 ht19
    refine ⟨xk_X0_startOver, xm_X0_startOver hg d (by omega), _, _, rfl, ht19.1, ⟨by omega, by omega⟩, ?_⟩
    intro m20 qm20
    have z21 := zle_0 z18 qm20.1
    intro t22 et22 ht22
    have T6 : t22 = t1 := by have h0 := et22; rw [qm20.2 0 (by decide), qm17.2 0 (by decide), T4] at h0; omega
    refine And.intro ht22.1 ?_
    intro x23 hx23 kx23 lx23
    have X6 : x23 = Bf.1 0 0 := by rw [hx23, T6, qm20.2 _ (by omega), qm17.2 _ (by omega), G4 _ (by omega)]; exact CF.2.2.1.1.1
    exact And.intro trivial (And.intro ⟨by omega, by omega⟩ (hQ _ _ z21 (by omega) (by omega) (Or.inl ⟨pf, Bf, RF, X6⟩) (by rw [qm20.2 1 (by decide), qm17.2 1 (by decide), G4 1 (by decide)]; exact pL)))
  · obtain ⟨pf, xf, Bf, RF, F8, F9⟩ := (by rcases PR with h0 | h0; (exfalso; omega); exact h0.2 : yFa _ _ m3)
    intro x24 hx24 kx24 lx24
    have PB := yPo_20 hp1 RF
    have X9 : x24 = pf := by rw [hx24, G2 50 (by decide)]; exact F9
    exact And.intro trivial (And.intro ⟨by omega, by omega⟩ (hQ _ _ z8 (by omega) (by omega) (Or.inr ⟨pf, xf, Bf, RF, by omega⟩) (by rw [G2 1 (by decide)]; exact pL)))
