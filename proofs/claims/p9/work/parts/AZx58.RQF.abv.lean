/-! ### above of the reference: the table's nodes stay -/
def hk_X9_above : zC := fun As μ Q => ∃ (K : Int) (B : yB), As = [.inr (.inr (66, 66))] ∧ (zRI μ K) ∧ (K + 6000 ≤ 1999990000) ∧ (rTq μ B) ∧ (yI0 B) ∧ (∀ (v : Int) (μ' : zM), zfx [67, 68, 69, 70, 71, 72, 73, 74, 88, 89, 90, 96, 97, 98, 99, 100, 101, 102, 103, 104, 106, 107] [7, 8, 24, 25, 26, 27, 29, 30, 31, 32, 33, 34, 35, 36, 37, 38, 45, 46, 47, 48, 54, 56, 60, 70, 71, 72] μ μ' → (-2147483648) ≤ v → v ≤ 2147483647 → (zRI μ' (K + 6000)) → (μ'.1 66 ((29 : Nat) : Int) = 0) → (zOld μ μ' (μ.1 66 ((23 : Nat) : Int))) → Q (some (.inl v)) μ')
set_option maxHeartbeats 4000000 in
theorem hm_X9_above {g : zΓ} (hg : zg g) (d : Nat) (hd : 8 ≤ d) : zOk g d 173 hk_X9_above := by
  obtain ⟨d, rfl⟩ : ∃ d', d = d' + 1 := ⟨d - 1, by omega⟩
  refine zOk_straight hg (show mt_tab[173]? = some mt_X9_above from rfl) [] 85 rfl fun As μ Q hC => ?_
  obtain ⟨K, B, rfl, hp0, hp1, hp2, hp3, hQ⟩ := hC
  refine ⟨rfl, ?_⟩
  have z0 : zfx [67, 68, 69, 70, 71, 72, 73, 74, 88, 89, 90, 96, 97, 98, 99, 100, 101, 102, 103, 104, 106, 107] [7, 8, 24, 25, 26, 27, 29, 30, 31, 32, 33, 34, 35, 36, 37, 38, 45, 46, 47, 48, 54, 56, 60, 70, 71, 72] μ μ := zfx_x μ
  refine And.intro ⟨by omega, by omega⟩ ?_
  intro m1 em1
  have z2 := zfx_f z0 em1 rfl
  have R1 := zRI_1 hp0 em1
  have TE : ((m1.1 85, m1.1 66 ((29 : Nat) : Int)) : yT) = ((μ.1 85, μ.1 66 ((29 : Nat) : Int)) : yT) := by rw [em1, zu_ne (by decide), zu_nk (by decide)]
  refine ⟨gk_X9_readTwice, gm_X9_readTwice hg d (by omega), _, _, _, _, B, rfl, R1.1, ⟨rfl, rfl, rfl⟩, hp1, (rTq_f hp2 (by rw [em1, zu_nk (by decide)]) (by rw [em1, zu_nk (by decide)]) (fun j hj => by rw [em1, zu_ne hj])), hp3, ?_⟩
  intro x3 m4 qm4 kx3 lx3 p5 p7 o4 p8
  have f23 : m1.1 66 ((23 : Nat) : Int) = μ.1 66 ((23 : Nat) : Int) := by rw [em1, zu_nk (by decide)]
  have t4 : μ.1 66 ((23 : Nat) : Int) ≤ zTop m4 := by have h3 := p5.1.2.2.1; rw [f23] at h3; exact h3
  have O4 : zOld μ m4 (μ.1 66 ((23 : Nat) : Int)) := zOld_t (zOld_same (fun j a b => by rw [em1, zu_ne (by omega)])) o4 (by rw [f23]; exact Int.le_refl _)
  have z9 := zfx_t z2 qm4 rfl rfl
  refine And.intro ⟨by omega, by omega⟩ (And.intro (fun c10 => ?_) (fun c10 => ?_))
  · have H0 := (by rcases p8 with h | h; exact h.2.1; (exfalso; have := h.1; omega) : m4.1 66 ((45 : Nat) : Int) = 0 ∧ m4.1 66 ((48 : Nat) : Int) = 0 ∧ zTy m4 (m4.1 66 ((71 : Nat) : Int)) ∧ 0 ≤ m4.1 66 ((72 : Nat) : Int) ∧ m4.1 66 ((72 : Nat) : Int) < m1.1 66 ((20 : Nat) : Int))
    have H : m4.1 66 ((45 : Nat) : Int) = 0 ∧ m4.1 66 ((45 : Nat) : Int) = 0 ∧ zTy m4 (m4.1 66 ((71 : Nat) : Int)) ∧ True := ⟨H0.1, H0.1, H0.2.2.1, trivial⟩
    have HC := H0.2.2.2
    have HB := p5.1.2.1.1
    have HL := H.2.2.1.1
    intro x11 hx11 kx11 lx11
    have TL : zTy m4 x11 := by rw [hx11]; exact H.2.2.1
    intro x12 hx12 kx12 lx12
    refine And.intro ⟨by omega, by omega⟩ (And.intro (fun c13 => ?_) (fun c13 => ?_))
    · intro x14 hx14 kx14 lx14
      refine ⟨zk_X9_isVariable2, zm_X9_isVariable2 hg d (by omega), _, rfl, ⟨by omega, by omega⟩, ?_⟩
      intro x15 kx15 lx15 p16 p17
      refine And.intro ⟨by omega, by omega⟩ (And.intro (fun c18 => ?_) (fun c18 => ?_))
      · have KL : m4.1 67 (m4.1 66 ((71 : Nat) : Int)) = 0 := by have h1 := H.2.2.1.2; rw [← hx14] at h1 ⊢; omega
        have V20 := (p5.1.1.2.1 _ H.2.2.1.1.1 H.2.2.1.1.2).2.2.1 KL
        intro x19 hx19 kx19 lx19
        refine And.intro ⟨by omega, by omega⟩ ?_
        intro x20 hx20 kx20 lx20
        intro x21 hx21 kx21 lx21
        refine And.intro ⟨⟨by omega, by omega⟩, ⟨by omega, by omega⟩⟩ (And.intro (fun c22 => ?_) (fun c22 => ?_))
        · have TW := TL
          refine ⟨zk_X9_write, zm_X9_write hg d (by omega), _, rfl, ⟨by omega, by omega⟩, p5.1.1.2.1, TW.1.2, ?_⟩
          intro m23 qm23
          have z24 := zfx_t z9 qm23 rfl rfl
          intro x25 hx25 kx25 lx25
          exact And.intro trivial (And.intro ⟨by omega, by omega⟩ (hQ _ _ z24 (by omega) (by omega) (zRI_of R1 (zQS_fr (m' := m23) p5 (fun j a b => qm23.1 j (by omega) (zanyF (by simp <;> omega))) (fun j a b => qm23.1 j (by omega) (zanyF (by simp <;> omega))) (fun j a b => qm23.1 j (by omega) (zanyF (by simp <;> omega))) (qm23.1 98 (by decide) rfl) (qm23.2.1 8 rfl) (qm23.2.1 45 rfl) (qm23.2.1 48 rfl) (qm23.2.1 60 rfl)) (by omega) (by rw [qm23.1 84 (by decide) rfl, qm4.1 84 (by decide) rfl]) (by rw [qm23.1 105 (by decide) rfl, qm4.1 105 (by decide) rfl]) (by rw [qm23.2.1 20 rfl, qm4.2.1 20 rfl]) (by rw [qm23.2.1 21 rfl, qm4.2.1 21 rfl]) (by rw [qm23.2.1 23 rfl, qm4.2.1 23 rfl]) (by rw [qm23.2.1 68 rfl, qm4.2.1 68 rfl])) (by rw [qm23.2.1 29 rfl]; exact p7) (zOld_t O4 (zOld_same (fun j a b => qm23.1 j (by omega) (zanyF (by simp <;> omega)))) (Int.le_refl _))))
        · intro x26 hx26 kx26 lx26
          refine And.intro ⟨by omega, by omega⟩ ?_
          intro x27 hx27 kx27 lx27
          rw [hx26] at hx27
          intro x28 hx28 kx28 lx28
          refine And.intro ⟨by omega, by omega⟩ ?_
          intro x29 hx29 kx29 lx29
          refine And.intro ⟨by omega, by omega⟩ (And.intro (fun c30 => ?_) (fun c30 => ?_))
          · intro x31 hx31 kx31 lx31
            refine ⟨zk_X9_captured, zm_X9_captured hg d (by omega), _, _, _, _, _, rfl, ⟨by omega, by omega⟩, p5, (by rw [hx31]; exact ⟨H.2.2.1.1.2, KL⟩), ?_⟩
            intro x32 m33 qm33 kx32 lx32 p34 p35 p36
            have z37 := zfx_t z9 qm33 rfl rfl
            refine And.intro ⟨by omega, by omega⟩ (And.intro (fun c38 => ?_) (fun c38 => ?_))
            · intro x39 hx39 kx39 lx39
              rw [qm33.2.1 72 rfl] at hx39
              refine ⟨zk_X9_aboveOf, zm_X9_aboveOf hg d (by omega), _, _, _, _, _, _, rfl, ⟨by omega, by omega⟩, ⟨by omega, by omega⟩, p34, (by rcases p36 with c | c <;> first | (exfalso; omega) | exact c.1), ?_⟩
              intro x40 m41 qm41 kx40 lx40 p42 p43 p44
              have z45 := zfx_t z37 qm41 rfl rfl
              have HQ : 0 ≤ x40 → zTy m41 x40 := fun h => by rcases p44 with c | c | c <;> first | (exfalso; omega) | exact ⟨c.1.1, by have := c.1.2.1; omega⟩
              refine And.intro ⟨by omega, by omega⟩ (And.intro (fun c46 => ?_) (fun c46 => ?_))
              · have TW := HQ (by omega)
                refine ⟨zk_X9_write, zm_X9_write hg d (by omega), _, rfl, ⟨by omega, by omega⟩, p42.1.1.2.1, TW.1.2, ?_⟩
                intro m47 qm47
                have z48 := zfx_t z45 qm47 rfl rfl
                intro x49 hx49 kx49 lx49
                exact And.intro trivial (And.intro ⟨by omega, by omega⟩ (hQ _ _ z48 (by omega) (by omega) (zRI_of R1 (zQS_fr (m' := m47) p42 (fun j a b => qm47.1 j (by omega) (zanyF (by simp <;> omega))) (fun j a b => qm47.1 j (by omega) (zanyF (by simp <;> omega))) (fun j a b => qm47.1 j (by omega) (zanyF (by simp <;> omega))) (qm47.1 98 (by decide) rfl) (qm47.2.1 8 rfl) (qm47.2.1 45 rfl) (qm47.2.1 48 rfl) (qm47.2.1 60 rfl)) (by omega) (by rw [qm47.1 84 (by decide) rfl, qm41.1 84 (by decide) rfl, qm33.1 84 (by decide) rfl, qm4.1 84 (by decide) rfl]) (by rw [qm47.1 105 (by decide) rfl, qm41.1 105 (by decide) rfl, qm33.1 105 (by decide) rfl, qm4.1 105 (by decide) rfl]) (by rw [qm47.2.1 20 rfl, qm41.2.1 20 rfl, qm33.2.1 20 rfl, qm4.2.1 20 rfl]) (by rw [qm47.2.1 21 rfl, qm41.2.1 21 rfl, qm33.2.1 21 rfl, qm4.2.1 21 rfl]) (by rw [qm47.2.1 23 rfl, qm41.2.1 23 rfl, qm33.2.1 23 rfl, qm4.2.1 23 rfl]) (by rw [qm47.2.1 68 rfl, qm41.2.1 68 rfl, qm33.2.1 68 rfl, qm4.2.1 68 rfl])) (by rw [qm47.2.1 29 rfl, qm41.2.1 29 rfl, qm33.2.1 29 rfl]; exact p7) (zOld_t (zOld_t (zOld_t O4 p35.1 t4) p43.1 (Int.le_trans t4 p35.2.1)) (zOld_same (fun j a b => qm47.1 j (by omega) (zanyF (by simp <;> omega)))) (Int.le_refl _))))
              · exact And.intro trivial (And.intro ⟨by omega, by omega⟩ (hQ _ _ z45 (by omega) (by omega) (zRI_of R1 p42 (by omega) (by rw [qm41.1 84 (by decide) rfl, qm33.1 84 (by decide) rfl, qm4.1 84 (by decide) rfl]) (by rw [qm41.1 105 (by decide) rfl, qm33.1 105 (by decide) rfl, qm4.1 105 (by decide) rfl]) (by rw [qm41.2.1 20 rfl, qm33.2.1 20 rfl, qm4.2.1 20 rfl]) (by rw [qm41.2.1 21 rfl, qm33.2.1 21 rfl, qm4.2.1 21 rfl]) (by rw [qm41.2.1 23 rfl, qm33.2.1 23 rfl, qm4.2.1 23 rfl]) (by rw [qm41.2.1 68 rfl, qm33.2.1 68 rfl, qm4.2.1 68 rfl])) (by rw [qm41.2.1 29 rfl, qm33.2.1 29 rfl]; exact p7) (zOld_t (zOld_t O4 p35.1 t4) p43.1 (Int.le_trans t4 p35.2.1))))
            · refine And.intro ⟨by omega, by omega⟩ (And.intro (fun c50 => ?_) (fun c50 => ?_))
              · exfalso; omega
              · exact And.intro trivial (And.intro ⟨by omega, by omega⟩ (hQ _ _ z37 (by omega) (by omega) (zRI_of R1 p34 (by omega) (by rw [qm33.1 84 (by decide) rfl, qm4.1 84 (by decide) rfl]) (by rw [qm33.1 105 (by decide) rfl, qm4.1 105 (by decide) rfl]) (by rw [qm33.2.1 20 rfl, qm4.2.1 20 rfl]) (by rw [qm33.2.1 21 rfl, qm4.2.1 21 rfl]) (by rw [qm33.2.1 23 rfl, qm4.2.1 23 rfl]) (by rw [qm33.2.1 68 rfl, qm4.2.1 68 rfl])) (by rw [qm33.2.1 29 rfl]; exact p7) (zOld_t O4 p35.1 t4)))
          · exact And.intro trivial (And.intro ⟨by omega, by omega⟩ (hQ _ _ z9 (by omega) (by omega) (zRI_of R1 p5 (by omega) (by rw [qm4.1 84 (by decide) rfl]) (by rw [qm4.1 105 (by decide) rfl]) (by rw [qm4.2.1 20 rfl]) (by rw [qm4.2.1 21 rfl]) (by rw [qm4.2.1 23 rfl]) (by rw [qm4.2.1 68 rfl])) p7 O4))
      · exact And.intro trivial (And.intro ⟨by omega, by omega⟩ (hQ _ _ z9 (by omega) (by omega) (zRI_of R1 p5 (by omega) (by rw [qm4.1 84 (by decide) rfl]) (by rw [qm4.1 105 (by decide) rfl]) (by rw [qm4.2.1 20 rfl]) (by rw [qm4.2.1 21 rfl]) (by rw [qm4.2.1 23 rfl]) (by rw [qm4.2.1 68 rfl])) p7 O4))
    · refine And.intro ⟨by omega, by omega⟩ ?_
      intro x51 hx51 kx51 lx51
      have TW : zTy m4 x51 := by rw [hx51]; exact (zQI_any p5.1).1
      have TW0 := TW.1
      refine ⟨zk_X9_write, zm_X9_write hg d (by omega), _, rfl, ⟨by omega, by omega⟩, p5.1.1.2.1, TW.1.2, ?_⟩
      intro m52 qm52
      have z53 := zfx_t z9 qm52 rfl rfl
      intro x54 hx54 kx54 lx54
      exact And.intro trivial (And.intro ⟨by omega, by omega⟩ (hQ _ _ z53 (by omega) (by omega) (zRI_of R1 (zQS_fr (m' := m52) p5 (fun j a b => qm52.1 j (by omega) (zanyF (by simp <;> omega))) (fun j a b => qm52.1 j (by omega) (zanyF (by simp <;> omega))) (fun j a b => qm52.1 j (by omega) (zanyF (by simp <;> omega))) (qm52.1 98 (by decide) rfl) (qm52.2.1 8 rfl) (qm52.2.1 45 rfl) (qm52.2.1 48 rfl) (qm52.2.1 60 rfl)) (by omega) (by rw [qm52.1 84 (by decide) rfl, qm4.1 84 (by decide) rfl]) (by rw [qm52.1 105 (by decide) rfl, qm4.1 105 (by decide) rfl]) (by rw [qm52.2.1 20 rfl, qm4.2.1 20 rfl]) (by rw [qm52.2.1 21 rfl, qm4.2.1 21 rfl]) (by rw [qm52.2.1 23 rfl, qm4.2.1 23 rfl]) (by rw [qm52.2.1 68 rfl, qm4.2.1 68 rfl])) (by rw [qm52.2.1 29 rfl]; exact p7) (zOld_t O4 (zOld_same (fun j a b => qm52.1 j (by omega) (zanyF (by simp <;> omega)))) (Int.le_refl _))))
  · intro x55 hx55 kx55 lx55
    exact And.intro trivial (And.intro ⟨by omega, by omega⟩ (hQ _ _ z9 (by omega) (by omega) (zRI_of R1 p5 (by omega) (by rw [qm4.1 84 (by decide) rfl]) (by rw [qm4.1 105 (by decide) rfl]) (by rw [qm4.2.1 20 rfl]) (by rw [qm4.2.1 21 rfl]) (by rw [qm4.2.1 23 rfl]) (by rw [qm4.2.1 68 rfl])) p7 O4))
