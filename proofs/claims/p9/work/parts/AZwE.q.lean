def qk_X3_opening : zC := fun As μ Q => ∃ (τ : yT) (B : yB) (t : Nat), As = [.inr (.inr (50, 50))] ∧ (yRC τ μ 0 (yN (yN B 0 2 0) 0 3 (-1)) t 51 ∧ μ.1 50 ((10 : Nat) : Int) = 0) ∧ ((yN (yN B 0 2 0) 0 3 (-1)).1 0 3 = -1) ∧ (1 ≤ B.1 0 0) ∧ (∀ (v : Int) (μ' : zM), (∀ T : Nat, T = 51 → zfr T μ μ') → 0 ≤ v → v ≤ 1 → ((v = 1 ∧ ∃ o p, yqo τ B = .inl (o, p) ∧ (yRC τ μ' p (yN (yN B 0 2 0) 0 3 o) t 51 ∧ μ'.1 50 ((10 : Nat) : Int) = 0) ∧ o < B.1 0 0) ∨ (v = 0 ∧ ∃ x l, yqo τ B = .inr (x, l) ∧ μ'.1 50 ((8 : Nat) : Int) = x ∧ μ'.1 50 ((9 : Nat) : Int) = l)) → Q (some (.inl v)) μ')
set_option maxHeartbeats 4000000 in
theorem qm_X3_opening {g : zΓ} (hg : zg g) (d : Nat) (hd : 2 ≤ d) : zOk g d 41 qk_X3_opening := by
  obtain ⟨d, rfl⟩ : ∃ d', d = d' + 1 := ⟨d - 1, by omega⟩
  refine zOk_straight hg (show mt_tab[41]? = some mt_X3_opening from rfl) [] 56 rfl fun As μ Q hC => ?_
  obtain ⟨τ, B, t, rfl, hp0, hp1, hp2, hQ⟩ := hC
  have K0 := yTI_k hp0.1
  refine ⟨rfl, ?_⟩
  have z0 : zfr 51 μ μ := zfr_r 51 μ
  intro x1 hx1 kx1 lx1
  refine And.intro ⟨⟨by omega, by omega⟩, ⟨by omega, by omega⟩⟩ (And.intro (fun c2 => ?_) (fun c2 => ?_))
  · refine ⟨wk_X5_step, wm_X5_step hg d (by omega), rfl, ?_⟩
    intro m3 qm3 p4
    have z5 := zfr_t z0 (qm3 51)
    have H1 := yRC_st hp0.1 (by omega) p4
    have K1 := yTI_k H1.1
    have M1 : m3.1 50 = μ.1 50 := by rw [H1.2, ystM_ne _ _ (by decide) (by decide)]
    intro x6 hx6 kx6 lx6
    refine And.intro ⟨⟨by omega, by omega⟩, ⟨by omega, by omega⟩⟩ (And.intro (fun c7 => ?_) (fun c7 => ?_))
    · intro t8 et8 ht8
      have E1 : t8 = t := by have h0 := H1.1.2.1.2.1; omega
      intro j9 hj9
      refine And.intro ht8.1 ⟨yk_X4_findClass, ym_X4_findClass hg d (by omega), _, _, rfl, ht8.1, ?_⟩
      intro x10 kx10 lx10 p11
      have FC : x10 = yfc B (ynm τ (ynx τ 0)).toInt := by have h0 := p11; rw [E1, show j9.toInt = (ynm τ (ynx τ 0)).toInt from hj9.trans K1.2.2] at h0; rw [h0]; exact (yRC_fc H1.1 _).trans (by first | exact yfc_qn | exact yfc_qp)
      have FB := yfc_lt B (ynm τ (ynx τ 0)).toInt
      refine And.intro ⟨by omega, by omega⟩ ?_
      intro m12 em12
      have z13 := zfr_t z5 (zfr_u em12 (Or.inl (by decide)) (Or.inl ⟨by decide, by decide⟩))
      have O1 : yRC τ m12 (ynx τ 0) (yN (yN B 0 2 0) 0 3 x10) t 51 := by rw [em12, ← yN_33 (x := -1)]; exact yRC_ow H1.1
      have M2 : m12.1 50 ((10 : Nat) : Int) = 0 := by rw [em12, zu_nk (by decide), M1]; exact hp0.2
      intro x14 hx14 kx14 lx14
      have XO : x14 = x10 := by rw [hx14, em12, zu_at]
      refine And.intro ⟨by omega, by omega⟩ (And.intro (fun c15 => ?_) (fun c15 => ?_))
      · refine ⟨wk_X5_step, wm_X5_step hg d (by omega), rfl, ?_⟩
        intro m16 qm16 p17
        have z18 := zfr_t z13 (qm16 51)
        have H2 := yRC_st O1 (by omega) p17
        have K2 := yTI_k H2.1
        intro x19 hx19 kx19 lx19
        refine And.intro ⟨⟨by omega, by omega⟩, ⟨by omega, by omega⟩⟩ (And.intro (fun c20 => ?_) (fun c20 => ?_))
        · refine ⟨wk_X5_step, wm_X5_step hg d (by omega), rfl, ?_⟩
          intro m21 qm21 p22
          have z23 := zfr_t z18 (qm21 51)
          have H3 := yRC_st H2.1 (by omega) p22
          exact And.intro (zrtb (by omega)) (And.intro ⟨by omega, by omega⟩ (hQ _ _ (fun T hT => by rw [hT]; exact z23) (by omega) (by omega) (Or.inl ⟨rfl, x10, _, by rw [yqo_4 (by omega) (by omega) (by omega) (by omega), FC], ⟨H3.1, by rw [H3.2, ystM_ne _ _ (by decide) (by decide), H2.2, ystM_ne _ _ (by decide) (by decide)]; exact M2⟩, by omega⟩)))
        · refine ⟨wk_X3_fail, wm_X3_fail hg d (by omega), _, rfl, ⟨by omega, by omega⟩, ?_⟩
          intro x24 m25 qm25 kx24 lx24 p26
          have z27 := zfr_t z18 (qm25 51)
          exact And.intro (zrtb (by omega)) (And.intro ⟨by omega, by omega⟩ (hQ _ _ (fun T hT => by rw [hT]; exact z27) (by omega) (by omega) (Or.inr ⟨by omega, _, _, yqo_3 (by omega) (by omega) (by omega) (by omega), yfq_f H2.1 p26⟩)))
      · refine ⟨wk_X3_fail, wm_X3_fail hg d (by omega), _, rfl, ⟨by omega, by omega⟩, ?_⟩
        intro x28 m29 qm29 kx28 lx28 p30
        have z31 := zfr_t z13 (qm29 51)
        exact And.intro (zrtb (by omega)) (And.intro ⟨by omega, by omega⟩ (hQ _ _ (fun T hT => by rw [hT]; exact z31) (by omega) (by omega) (Or.inr ⟨by omega, _, _, yqo_2 (by omega) (by omega) (by omega), yfq_f O1 p30⟩)))
    · refine ⟨wk_X3_fail, wm_X3_fail hg d (by omega), _, rfl, ⟨by omega, by omega⟩, ?_⟩
      intro x32 m33 qm33 kx32 lx32 p34
      have z35 := zfr_t z5 (qm33 51)
      exact And.intro (zrtb (by omega)) (And.intro ⟨by omega, by omega⟩ (hQ _ _ (fun T hT => by rw [hT]; exact z35) (by omega) (by omega) (Or.inr ⟨by omega, _, _, yqo_1 (by omega) (by omega), yfq_f H1.1 p34⟩)))
  · exact And.intro (zrtb (by omega)) (And.intro ⟨by omega, by omega⟩ (hQ _ _ (fun T hT => by rw [hT]; exact z0) (by omega) (by omega) (Or.inl ⟨rfl, -1, 0, yqo_0 (by omega), hp0, by omega⟩)))
