/-! ### above, as the reference answers -/
/-- what is ABOVE in the reference's table -/
def rAB (μ : zM) (B : yB) : Prop := rE μ (μ.1 80 0) [0] ∧ ∀ k d : Int, 0 ≤ k → k < B.1 0 0 → 1 ≤ d → d ≤ 20 → k ≠ d → (μ.1 80 (21 * k + d) < 0 ↔ B.2 2 k d = []) ∧ (B.2 2 k d ≠ [] → rE μ (μ.1 80 (21 * k + d)) (B.2 2 k d).flatten)
theorem rTq_c2 {μ m : zM} {B : yB} (h : rTq μ B) (h20 : m.1 66 ((20 : Nat) : Int) = μ.1 66 ((20 : Nat) : Int)) (h21 : m.1 66 ((21 : Nat) : Int) = μ.1 66 ((21 : Nat) : Int)) (hj : ∀ j : Nat, j = 3000075 ∨ j = 76 ∨ j = 77 ∨ j = 79 ∨ j = 3000081 → m.1 j = μ.1 j) : rTq m B := by
  refine ⟨⟨h20.trans h.1.1, h21.trans h.1.2⟩, fun k a b => ?_, fun p a b => ?_⟩
  · rw [hj 3000075 (by omega), hj 76 (by omega), hj 77 (by omega), hj 79 (by omega)]; exact h.2.1 k a b
  · rw [hj 3000081 (by omega)]; exact h.2.2 p a b
theorem rWk_mk {m : zM} {B : yB} {C Pn tt : Int} (q : zQI m C Pn tt) (hC : C = B.1 0 0) (hT : rTq m B) (hI : yI0 B) : rWk m B := by
  have i1 := hI.1
  refine ⟨⟨fun k a b => (hT.2.1 k a b).1, hT.2.2, by omega, by omega⟩, fun h a b => (hI.2 h a b).2.1, q.1.2.1, fun x h x0 x1 hh a b => ?_⟩
  have w := (q.2.2.2.2.1 x x0 x1).2.1
  have e : m.1 67 x = 0 ∧ m.1 68 x = h := by unfold rHf rHd at hh; omega
  rw [(w e.1).2, e.2]
  exact (hT.2.1 h a b).2.2.1
def gk_X9_above : zC := fun As μ Q => ∃ (K : Int) (B : yB), As = [.inr (.inr (66, 66))] ∧ (zRI μ K) ∧ (K + 6000 ≤ 1999990000) ∧ (rTq μ B) ∧ (yI0 B) ∧ rAB μ B ∧ aB B ∧ (∀ (v : Int) (μ' : zM), zfx [67, 68, 69, 70, 71, 72, 73, 74, 88, 89, 90, 96, 97, 98, 99, 100, 101, 102, 103, 104, 106, 107] [7, 8, 24, 25, 26, 27, 29, 30, 31, 32, 33, 34, 35, 36, 37, 38, 45, 46, 47, 48, 54, 56, 60, 70, 71, 72] μ μ' → (-2147483648) ≤ v → v ≤ 2147483647 → (zRI μ' (K + 6000)) → (μ'.1 66 ((29 : Nat) : Int) = 0) → (zOld μ μ' (μ.1 66 ((23 : Nat) : Int))) → (yAv ((μ.1 85, μ.1 66 ((29 : Nat) : Int)) : yT) B (μ'.1 66 ((37 : Nat) : Int)) v) → Q (some (.inl v)) μ')
set_option maxHeartbeats 4000000 in
theorem gm_X9_above {g : zΓ} (hg : zg g) (d : Nat) (hd : 8 ≤ d) : zOk g d 173 gk_X9_above := by
  obtain ⟨d, rfl⟩ : ∃ d', d = d' + 1 := ⟨d - 1, by omega⟩
  refine zOk_straight hg (show mt_tab[173]? = some mt_X9_above from rfl) [19] 85 rfl fun As μ Q hC => ?_
  obtain ⟨K, B, rfl, hp0, hp1, hp2, hp3, hAB, hB, hQ⟩ := hC
  refine ⟨rfl, ?_⟩
  have z0 : zfx [67, 68, 69, 70, 71, 72, 73, 74, 88, 89, 90, 96, 97, 98, 99, 100, 101, 102, 103, 104, 106, 107] [7, 8, 24, 25, 26, 27, 29, 30, 31, 32, 33, 34, 35, 36, 37, 38, 45, 46, 47, 48, 54, 56, 60, 70, 71, 72] μ μ := zfx_x μ
  refine And.intro ⟨by omega, by omega⟩ ?_
  intro m1 em1
  have z2 := zfx_f z0 em1 rfl
  have R1 := zRI_1 hp0 em1
  have TE : ((m1.1 85, m1.1 66 ((29 : Nat) : Int)) : yT) = ((μ.1 85, μ.1 66 ((29 : Nat) : Int)) : yT) := by rw [em1, zu_ne (by decide), zu_nk (by decide)]
  refine ⟨gk_X9_readTwice, gm_X9_readTwice hg d (by omega), _, _, _, _, B, rfl, R1.1, ⟨rfl, rfl, rfl⟩, hp1, (rTq_f hp2 (by rw [em1, zu_nk (by decide)]) (by rw [em1, zu_nk (by decide)]) (fun j hj => by rw [em1, zu_ne hj])), hp3, ?_⟩
  intro x3 m4 qm4 kx3 lx3 p5 p7 O4 p8
  have z9 := zfx_t z2 qm4 rfl rfl
  have f23 : m1.1 66 ((23 : Nat) : Int) = μ.1 66 ((23 : Nat) : Int) := by rw [em1, zu_nk (by decide)]
  have ND1 := R1.1.1.1.2.1
  have TT1 := R1.1.1.2.2.1
  have O1 : zOld μ m1 (μ.1 66 ((23 : Nat) : Int)) := zOld_same (fun j a b => by rw [em1, zu_ne (by omega)])
  have O4' : zOld μ m4 (μ.1 66 ((23 : Nat) : Int)) := by
    rw [f23] at O4
    exact zOld_t O1 O4 (Int.le_refl _)
  have NDt : ∀ x : Int, 0 ≤ x → x < μ.1 66 ((23 : Nat) : Int) → zNd μ x := fun x a b => hp0.1.1.1.2.1 x a (by have := hp0.1.1.2.2.1; omega)
  have Q4 : rTq m4 B := rTq_c2 hp2 (by rw [qm4.2.1 20 rfl, em1, zu_nk (by decide)]) (by rw [qm4.2.1 21 rfl, em1, zu_nk (by decide)]) (fun j hj => by rcases hj with h | h | h | h | h <;> subst h <;> rw [qm4.1 _ (by decide) rfl, em1, zu_ne (by decide)])
  have hI1 := hp3.1
  refine And.intro ⟨by omega, by omega⟩ (And.intro (fun c10 => ?_) (fun c10 => ?_))
  · obtain ⟨-, ⟨F45, F48, TY, HC⟩, QP, F37, o, k, L, PL, RE, RK⟩ := (by rcases p8 with h | h; exact h; (exfalso; have := h.1; omega) : x3 = 1 ∧ _ ∧ _ ∧ _)
    rw [TE] at QP PL
    have HB := p5.1.2.1.1
    have HL := TY.1
    have ho : -1 ≤ o ∧ o < B.1 0 0 := by
      obtain ⟨p, p1, n1, f, a1, -⟩ := PL
      exact yqo_o a1 (yqo_i a1 hp3.1.1.1)
    have PG := yPl_G PL hp3 ho
    have Lk : 0 ≤ k := by obtain ⟨p, p1, n1, f, -, -, -, -, a5⟩ := PL; exact a5
    have CC : m1.1 66 ((20 : Nat) : Int) = B.1 0 0 := by rw [em1, zu_nk (by decide)]; exact hp2.1.1
    have K4 : rWk m4 B := rWk_mk p5.1 CC Q4 hp3
    have h4 : ∀ x : Int, yar B x ≤ 4 := fun x => by
      unfold yar
      by_cases q : 0 ≤ x ∧ x < B.1 0 0
      · rw [if_pos q]; have := hp3.2 x q.1 q.2; omega
      · rw [if_neg q]; split <;> omega
    obtain ⟨kk, RE'⟩ := RE
    have RE : rE m4 (m4.1 66 ((71 : Nat) : Int)) L := ⟨kk, RE'⟩
    cases kk with
    | zero => exact RE'.elim
    | succ kk =>
    obtain ⟨hd, as, eL, eH0, eN, eP0⟩ := RE'
    have eH : rHf m4 (m4.1 66 ((71 : Nat) : Int)) hd := Or.inl eH0
    have eP : ∀ i : Nat, i < as.length → rEf m4 (m4.1 70 (4 * m4.1 66 ((71 : Nat) : Int) + i)) (as.getD i []) := fun i hi => rEf_of ⟨kk, eP0 i hi⟩
    have yw := yar_w (B := B) hp3.1.1.2
    have hAr := rAr_W (A := yar B) p5.1.2.2.2.2.1 ⟨fun v a b => by unfold yar; rw [if_pos ⟨a, by omega⟩]; exact ((Q4.2.1 v a (by omega)).2.2.1).symm, fun v a b => yar_n hp3.1.1.2 (by omega) (by omega) (by omega), yw.1, yw.2.1, yw.2.2⟩
    have as1 : ∀ a ∈ as, yone (yar B) a := rC_as (lo := 0) (T := zTop m4) (fun y y0 y1 i i0 i1 => ⟨((p5.1.1.2.1 y y0 y1).2.1 i i0 i1).1, by have := ((p5.1.1.2.1 y y0 y1).2.1 i i0 i1).2; omega⟩) hAr TY.1.1 TY.1.2 eN eP0
    have hdL : L.headD 0 = hd := by rw [eL]; rfl
    have vv : ∀ R l, aRes B L k R → R = some l → ∀ x ∈ l, yhv B x := fun R l a e => aRes_v a e hp3 hB.2.2.2.2.2 ⟨Lk, PG.2.2.2.1⟩ PG.2.2.2.2 h4
    intro x11 hx11 kx11 lx11
    have TL : zTy m4 x11 := by rw [hx11]; exact TY
    intro x12 hx12 kx12 lx12
    refine And.intro ⟨by omega, by omega⟩ (And.intro (fun c13 => ?_) (fun c13 => ?_))
    · intro x14 hx14 kx14 lx14
      refine ⟨zk_X9_isVariable2, zm_X9_isVariable2 hg d (by omega), _, rfl, ⟨by omega, by omega⟩, ?_⟩
      intro x15 kx15 lx15 p16 p17
      refine And.intro ⟨by omega, by omega⟩ (And.intro (fun c18 => ?_) (fun c18 => ?_))
      · have KL : m4.1 67 (m4.1 66 ((71 : Nat) : Int)) = 0 := by have h1 := TY.2; rw [← hx14] at h1 ⊢; omega
        have vh : m4.1 68 (m4.1 66 ((71 : Nat) : Int)) = hd := by unfold rHf rHd at eH; omega
        have hdc : 0 ≤ hd ∧ hd < B.1 0 0 := by have := PG.2.1; rw [hdL] at this; unfold rHf rHd at eH; omega
        have c80 : m4.1 80 = μ.1 80 := by rw [qm4.1 80 (by decide) rfl, em1, zu_ne (by decide)]
        have c76 : m4.1 76 = μ.1 76 := by rw [qm4.1 76 (by decide) rfl, em1, zu_ne (by decide)]
        have c77 : m4.1 77 = μ.1 77 := by rw [qm4.1 77 (by decide) rfl, em1, zu_ne (by decide)]
        have V20 := (p5.1.1.2.1 _ TY.1.1 TY.1.2).2.2.1 KL
        intro x19 hx19 kx19 lx19
        refine And.intro ⟨by omega, by omega⟩ ?_
        intro x20 hx20 kx20 lx20
        intro x21 hx21 kx21 lx21
        have X20 : x20 = hd := by rw [hx20, hx19]; exact vh
        have X21 : x21 = k := hx21.trans RK
        refine And.intro ⟨⟨by omega, by omega⟩, ⟨by omega, by omega⟩⟩ (And.intro (fun c22 => ?_) (fun c22 => ?_))
        · have TW := TL
          have A22 : aRes B L k (some L) := Or.inr (Or.inl ⟨by omega, by rw [hdL]; omega, rfl⟩)
          refine ⟨gk_X9_write, gm_X9_write hg d (by omega), x11, B, L, rfl, ⟨by omega, by omega⟩, K4, TW.1.2, by rw [hx11]; exact rEf_of RE, vv _ _ A22 rfl, ?_⟩
          intro m23 qm23 w23
          have z24 := zfx_t z9 qm23 rfl rfl
          intro x25 hx25 kx25 lx25
          exact And.intro trivial (And.intro ⟨by omega, by omega⟩ (hQ _ _ z24 (by omega) (by omega) (zRI_of R1 (zQS_fr (m' := m23) p5 (fun j a b => qm23.1 j (by omega) (zanyF (by simp <;> omega))) (fun j a b => qm23.1 j (by omega) (zanyF (by simp <;> omega))) (fun j a b => qm23.1 j (by omega) (zanyF (by simp <;> omega))) (qm23.1 98 (by decide) rfl) (qm23.2.1 8 rfl) (qm23.2.1 45 rfl) (qm23.2.1 48 rfl) (qm23.2.1 60 rfl)) (by omega) (by rw [qm23.1 84 (by decide) rfl, qm4.1 84 (by decide) rfl]) (by rw [qm23.1 105 (by decide) rfl, qm4.1 105 (by decide) rfl]) (by rw [qm23.2.1 20 rfl, qm4.2.1 20 rfl]) (by rw [qm23.2.1 21 rfl, qm4.2.1 21 rfl]) (by rw [qm23.2.1 23 rfl, qm4.2.1 23 rfl]) (by rw [qm23.2.1 68 rfl, qm4.2.1 68 rfl])) (by rw [qm23.2.1 29 rfl]; exact p7) (zOld_t O4' (zOld_same (fun j a b => qm23.1 j (by omega) (zanyF (by simp <;> omega)))) (Int.le_refl _)) (Or.inr ⟨by rw [qm23.2.1 37 rfl]; exact F37, QP, o, k, L, some L, PL, A22, by rw [hx25]; exact w23⟩)))
        · intro x26 hx26 kx26 lx26
          refine And.intro ⟨by omega, by omega⟩ ?_
          intro x27 hx27 kx27 lx27
          rw [hx26, vh] at hx27
          intro x28 hx28 kx28 lx28
          refine And.intro ⟨by omega, by omega⟩ ?_
          intro x29 hx29 kx29 lx29
          have X29 : x29 = μ.1 80 (21 * hd + k) := by rw [hx29, hx27, hx28, RK, c80]
          refine And.intro ⟨by omega, by omega⟩ (And.intro (fun c30 => ?_) (fun c30 => ?_))
          · intro x31 hx31 kx31 lx31
            refine ⟨gk_X9_captured, gm_X9_captured hg d (by omega), x31, _, _, _, _, as, rfl, ⟨by omega, by omega⟩, p5, (by rw [hx31]; exact ⟨TY.1.2, KL⟩), (by rw [hx31]; exact ⟨eN, eP⟩), ⟨by omega, by omega⟩, (fun p a b => by rw [qm4.1 84 (by decide) rfl]; exact R1.2.2.2.2 p a b), ?_⟩
            intro x32 m33 qm33 kx32 lx32 p34 p35 p36 r36 t36
            have z37 := zfx_t z9 qm33 rfl rfl
            refine And.intro ⟨by omega, by omega⟩ (And.intro (fun c38 => ?_) (fun c38 => ?_))
            · intro x39 hx39 kx39 lx39
              rw [qm33.2.1 72 rfl] at hx39
              have V33 : m33.1 68 x32 = hd := by rw [p36.2, hx31]; exact vh
              have O33 : zOld μ m33 (μ.1 66 ((23 : Nat) : Int)) := fun x a b => zOld_t O4' p35.1 (by have := p5.1.2.2.1; rw [f23] at this; exact this) x a b
              have E80 : m33.1 80 (21 * m33.1 68 x32 + x39) = μ.1 80 (21 * hd + k) := by rw [V33, qm33.1 80 (by decide) rfl, c80, show x39 = k by omega]
              have AR := hAB.2 hd k hdc.1 hdc.2 (by omega) (by omega) (by omega)
              have AT := zTb_ab (x := μ.1 80 (21 * hd + k)) hp0.1.1.2.1 (c := hd) (d := k) hdc.1 (by rw [hp2.1.1]; exact hdc.2) Lk (by omega) rfl (by omega)
              have NEQ : B.2 2 hd k ≠ [] := fun q => by have := AR.1.mpr q; omega
              refine ⟨gk_X9_aboveOf, gm_X9_aboveOf hg d (by omega), x32, x39, _, _, _, _, B, ycap 0 as, rfl, ⟨by omega, by omega⟩, ⟨by omega, by omega⟩, p34, p36.1, ⟨by rw [V33]; omega, by rw [E80]; omega⟩, (by omega), ⟨by rw [ycap_l]; exact r36.1, fun j hj => by rw [ycap_l] at hj; have q := r36.2 j hj; rw [F45] at q; exact q⟩, ⟨?_, ?_, ?_, ?_⟩, ?_⟩
              · rw [E80, V33, show x39 = k by omega]
                exact rE_old O33 NDt AT.1.1.1 AT.1.1.2 (AR.2 NEQ)
              · rw [V33, show x39 = k by omega]
                rcases hB.2.1 hd k with q | ⟨l, q1, -, -, q4⟩
                · exact absurd q NEQ
                · rw [q1]; simpa using q4
              · rw [V33, qm33.1 76 (by decide) rfl, c76]; exact (hp2.2.1 hd hdc.1 hdc.2).2.1
              · rw [V33, qm33.1 77 (by decide) rfl, c77]; exact (hp2.2.1 hd hdc.1 hdc.2).2.2.1
              intro x40 m41 qm41 kx40 lx40 p42 p43 p44 r44
              rw [V33, show x39 = k by omega] at r44
              have O41 : zOld μ m41 (μ.1 66 ((23 : Nat) : Int)) := fun x a b => zOld_t O33 p43.1 (by have := p34.1.2.2.1; rw [f23] at this; exact this) x a b
              have A40 : aRes B L k (some (ysub (B.1 2 hd) (ycap 0 as) (B.2 2 hd k).flatten)) := by
                refine Or.inr (Or.inr (Or.inr ⟨by omega, by rw [hdL]; omega, by rw [hdL]; exact hdc, by rw [hdL]; exact NEQ, as, by rw [hdL]; exact eL, ?_, ?_, by rw [hdL]⟩))
                · rw [hdL]; unfold yar; rw [if_pos hdc, eN]; exact K4.2.2.2 _ _ TY.1.1 TY.1.2 eH hdc.1 hdc.2
                · exact as1
              have K41 : rWk m41 B := rWk_mk p42.1 CC (rTq_c2 Q4 (by rw [qm41.2.1 20 rfl, qm33.2.1 20 rfl]) (by rw [qm41.2.1 21 rfl, qm33.2.1 21 rfl]) (fun j hj => by rcases hj with h | h | h | h | h <;> subst h <;> rw [qm41.1 _ (by decide) rfl, qm33.1 _ (by decide) rfl])) hp3
              have z45 := zfx_t z37 qm41 rfl rfl
              have HQ : 0 ≤ x40 → zTy m41 x40 := fun h => ⟨p44.1.1, by have := p44.1.2.1; omega⟩
              have X40 := p44.1.1
              refine And.intro ⟨by omega, by omega⟩ (And.intro (fun c46 => ?_) (fun c46 => ?_))
              · have TW := HQ (by omega)
                refine ⟨gk_X9_write, gm_X9_write hg d (by omega), x40, B, _, rfl, ⟨by omega, by omega⟩, K41, TW.1.2, r44, vv _ _ A40 rfl, ?_⟩
                intro m47 qm47 w47
                have z48 := zfx_t z45 qm47 rfl rfl
                intro x49 hx49 kx49 lx49
                exact And.intro trivial (And.intro ⟨by omega, by omega⟩ (hQ _ _ z48 (by omega) (by omega) (zRI_of R1 (zQS_fr (m' := m47) p42 (fun j a b => qm47.1 j (by omega) (zanyF (by simp <;> omega))) (fun j a b => qm47.1 j (by omega) (zanyF (by simp <;> omega))) (fun j a b => qm47.1 j (by omega) (zanyF (by simp <;> omega))) (qm47.1 98 (by decide) rfl) (qm47.2.1 8 rfl) (qm47.2.1 45 rfl) (qm47.2.1 48 rfl) (qm47.2.1 60 rfl)) (by omega) (by rw [qm47.1 84 (by decide) rfl, qm41.1 84 (by decide) rfl, qm33.1 84 (by decide) rfl, qm4.1 84 (by decide) rfl]) (by rw [qm47.1 105 (by decide) rfl, qm41.1 105 (by decide) rfl, qm33.1 105 (by decide) rfl, qm4.1 105 (by decide) rfl]) (by rw [qm47.2.1 20 rfl, qm41.2.1 20 rfl, qm33.2.1 20 rfl, qm4.2.1 20 rfl]) (by rw [qm47.2.1 21 rfl, qm41.2.1 21 rfl, qm33.2.1 21 rfl, qm4.2.1 21 rfl]) (by rw [qm47.2.1 23 rfl, qm41.2.1 23 rfl, qm33.2.1 23 rfl, qm4.2.1 23 rfl]) (by rw [qm47.2.1 68 rfl, qm41.2.1 68 rfl, qm33.2.1 68 rfl, qm4.2.1 68 rfl])) (by rw [qm47.2.1 29 rfl, qm41.2.1 29 rfl, qm33.2.1 29 rfl]; exact p7) (zOld_t O41 (zOld_same (fun j a b => qm47.1 j (by omega) (zanyF (by simp <;> omega)))) (Int.le_refl _)) (Or.inr ⟨by rw [qm47.2.1 37 rfl, qm41.2.1 37 rfl, qm33.2.1 37 rfl]; exact F37, QP, o, k, L, _, PL, A40, by rw [hx49]; exact w47⟩)))
              · exfalso; omega
            · refine And.intro ⟨by omega, by omega⟩ (And.intro (fun c50 => ?_) (fun c50 => ?_))
              · exfalso; have := p36.1.1; omega
              · exfalso; have := p36.1.1; omega
          · have NE : B.2 2 (L.headD 0) k = [] := by rw [hdL]; exact (hAB.2 hd k hdc.1 hdc.2 (by omega) (by omega) (by omega)).1.mp (by omega)
            exact And.intro trivial (And.intro ⟨by omega, by omega⟩ (hQ _ _ z9 (by omega) (by omega) (zRI_of R1 p5 (by omega) (by rw [qm4.1 84 (by decide) rfl]) (by rw [qm4.1 105 (by decide) rfl]) (by rw [qm4.2.1 20 rfl]) (by rw [qm4.2.1 21 rfl]) (by rw [qm4.2.1 23 rfl]) (by rw [qm4.2.1 68 rfl])) p7 O4' (Or.inr ⟨F37, QP, o, k, L, none, PL, Or.inr (Or.inr (Or.inl ⟨by omega, by rw [hdL]; omega, Or.inr NE, rfl⟩)), rfl⟩)))
      · have KV : m4.1 67 (m4.1 66 ((71 : Nat) : Int)) ≠ 0 := by rw [← hx14]; omega
        have T2 := TY.2
        have kb := PG.2.2.2.1
        have HH : 32 ≤ hd := by unfold rHd at eH0; omega
        exact And.intro trivial (And.intro ⟨by omega, by omega⟩ (hQ _ _ z9 (by omega) (by omega) (zRI_of R1 p5 (by omega) (by rw [qm4.1 84 (by decide) rfl]) (by rw [qm4.1 105 (by decide) rfl]) (by rw [qm4.2.1 20 rfl]) (by rw [qm4.2.1 21 rfl]) (by rw [qm4.2.1 23 rfl]) (by rw [qm4.2.1 68 rfl])) p7 O4' (Or.inr ⟨F37, QP, o, k, L, none, PL, Or.inr (Or.inr (Or.inl ⟨by omega, by rw [hdL]; omega, Or.inl (by rw [hdL]; omega), rfl⟩)), rfl⟩)))
    · refine And.intro ⟨by omega, by omega⟩ ?_
      intro x51 hx51 kx51 lx51
      have TW : zTy m4 x51 := by rw [hx51]; exact (zQI_any p5.1).1
      have TW0 := TW.1
      have A51 : aRes B L k (some [0]) := Or.inl ⟨by omega, rfl⟩
      have AN := hp0.1.1.2.1.2.2.2.2.1 0 0 (by omega) (by have := hp0.1.1.2.1.1; omega) (by omega) (by omega)
      have AN0 := hp0.1.1.2.1.2.2.2.2.2
      have AN1 : 0 ≤ μ.1 80 0 ∧ μ.1 80 0 < μ.1 66 ((23 : Nat) : Int) := ⟨AN0, by rcases AN with q | q; (exfalso; have q : μ.1 80 0 = -1 := q; omega); exact q.1.1.2⟩
      have E51 : rEf m4 x51 [0] := by
        rw [hx51, show m4.1 80 = μ.1 80 by rw [qm4.1 80 (by decide) rfl, em1, zu_ne (by decide)]]
        exact rEf_of (rE_old O4' NDt AN1.1 AN1.2 hAB.1)
      refine ⟨gk_X9_write, gm_X9_write hg d (by omega), x51, B, [0], rfl, ⟨by omega, by omega⟩, K4, TW.1.2, E51, vv _ _ A51 rfl, ?_⟩
      intro m52 qm52 w52
      have z53 := zfx_t z9 qm52 rfl rfl
      intro x54 hx54 kx54 lx54
      exact And.intro trivial (And.intro ⟨by omega, by omega⟩ (hQ _ _ z53 (by omega) (by omega) (zRI_of R1 (zQS_fr (m' := m52) p5 (fun j a b => qm52.1 j (by omega) (zanyF (by simp <;> omega))) (fun j a b => qm52.1 j (by omega) (zanyF (by simp <;> omega))) (fun j a b => qm52.1 j (by omega) (zanyF (by simp <;> omega))) (qm52.1 98 (by decide) rfl) (qm52.2.1 8 rfl) (qm52.2.1 45 rfl) (qm52.2.1 48 rfl) (qm52.2.1 60 rfl)) (by omega) (by rw [qm52.1 84 (by decide) rfl, qm4.1 84 (by decide) rfl]) (by rw [qm52.1 105 (by decide) rfl, qm4.1 105 (by decide) rfl]) (by rw [qm52.2.1 20 rfl, qm4.2.1 20 rfl]) (by rw [qm52.2.1 21 rfl, qm4.2.1 21 rfl]) (by rw [qm52.2.1 23 rfl, qm4.2.1 23 rfl]) (by rw [qm52.2.1 68 rfl, qm4.2.1 68 rfl])) (by rw [qm52.2.1 29 rfl]; exact p7) (zOld_t O4' (zOld_same (fun j a b => qm52.1 j (by omega) (zanyF (by simp <;> omega)))) (Int.le_refl _)) (Or.inr ⟨by rw [qm52.2.1 37 rfl]; exact F37, QP, o, k, L, some [0], PL, A51, by rw [hx54]; exact w52⟩)))
  · obtain ⟨-, x, l, QP, g37, g36, xn⟩ := (by rcases p8 with h | h; (exfalso; have := h.1; omega); exact h : x3 = 0 ∧ _)
    rw [TE] at QP
    intro x55 hx55 kx55 lx55
    rw [g36] at hx55
    intro x56 hx56 kx56 lx56
    have V : x56 = (Int32.ofInt (-10 - l)).toInt := by rw [hx56, hx55]
    exact And.intro trivial (And.intro ⟨by omega, by omega⟩ (hQ _ _ z9 (by omega) (by omega) (zRI_of R1 p5 (by omega) (by rw [qm4.1 84 (by decide) rfl]) (by rw [qm4.1 105 (by decide) rfl]) (by rw [qm4.2.1 20 rfl]) (by rw [qm4.2.1 21 rfl]) (by rw [qm4.2.1 23 rfl]) (by rw [qm4.2.1 68 rfl])) p7 O4' (Or.inl ⟨by rw [g37]; exact xn, l, by rw [g37]; exact QP, V⟩)))
