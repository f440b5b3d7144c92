/-! ### ask of the reference, by rows -/
def hk_X9_ask : zC := fun As μ Q => ∃ (a1 : Int) (K : Int) (B : yB), As = [.inr (.inr (66, 66)), .inl a1] ∧ ((-2147483648) ≤ a1 ∧ a1 ≤ 2147483647) ∧ (zRI μ K) ∧ (K + 6000 ≤ 1999990000) ∧ (rTq μ B) ∧ (yI0 B) ∧ (rUt μ (μ.1 66 ((23 : Nat) : Int)) ∧ rPc μ B (μ.1 66 ((23 : Nat) : Int)) ∧ aW B ∧ B.1 3 0 = 0) ∧ (∀ (v : Int) (μ' : zM), zfx [67, 68, 69, 70, 71, 72, 73, 74, 88, 89, 90, 91, 92, 93, 94, 95, 97, 98, 99, 100, 101, 102, 103, 104, 107] [7, 8, 24, 25, 26, 27, 29, 30, 31, 32, 33, 34, 35, 36, 37, 38, 45, 46, 47, 48, 54, 60, 70, 71, 72, 74, 75, 76] μ μ' → (-2147483648) ≤ v → v ≤ 2147483647 → (zRI μ' (K + 6000)) → ((0 ≤ a1 ∧ a1 ≤ 3000 → μ'.1 66 ((29 : Nat) : Int) = 0) ∧ (a1 < 0 ∨ 3000 < a1 → μ'.1 66 ((29 : Nat) : Int) = μ.1 66 ((29 : Nat) : Int))) → (zOld μ μ' (μ.1 66 ((23 : Nat) : Int))) → ((a1 < 0 ∨ 3000 < a1 → μ'.1 66 ((54 : Nat) : Int) = 1) ∧ (0 ≤ a1 ∧ a1 ≤ 3000 → μ'.1 66 ((54 : Nat) : Int) = 0 ∧ yAk ((μ.1 85, μ.1 66 ((29 : Nat) : Int)) : yT) B a1 (μ'.1 66 ((37 : Nat) : Int)) v)) → Q (some (.inl v)) μ')
set_option maxHeartbeats 4000000 in
theorem hm_X9_ask {g : zΓ} (hg : zg g) (d : Nat) (hd : 10 ≤ d) : zOk g d 172 hk_X9_ask := by
  obtain ⟨d, rfl⟩ : ∃ d', d = d' + 1 := ⟨d - 1, by omega⟩
  refine zOk_straight hg (show mt_tab[172]? = some mt_X9_ask from rfl) [] 37 rfl fun As μ Q hC => ?_
  obtain ⟨a1, K, B, rfl, ha1, hp0, hp1, hp2, hp3, ⟨hUt, hPc, hW, hN0⟩, hQ⟩ := hC
  have E00 := rE0_mk hp0 hp2 hN0 hp3
  obtain ⟨g1, wg1⟩ : ∃ z : Int, μ.1 66 ((54 : Nat) : Int) = z := ⟨_, rfl⟩
  refine ⟨rfl, ?_⟩
  have z0 : zfx [67, 68, 69, 70, 71, 72, 73, 74, 88, 89, 90, 91, 92, 93, 94, 95, 97, 98, 99, 100, 101, 102, 103, 104, 107] [7, 8, 24, 25, 26, 27, 29, 30, 31, 32, 33, 34, 35, 36, 37, 38, 45, 46, 47, 48, 54, 60, 70, 71, 72, 74, 75, 76] μ μ := zfx_x μ
  refine And.intro ⟨by omega, by omega⟩ (And.intro (fun c2 => ?_) (fun c2 => ?_))
  · refine And.intro ⟨by omega, by omega⟩ ?_
    intro m3 em3
    have z4 := zfx_f z0 em3 rfl
    have w5 : m3.1 66 ((54 : Nat) : Int) = 1 := by rw [em3]; exact zu_at
    have R1 := zRI_1 hp0 em3
    have TE : ((m3.1 85, m3.1 66 ((29 : Nat) : Int)) : yT) = ((μ.1 85, μ.1 66 ((29 : Nat) : Int)) : yT) := by rw [em3, zu_ne (by decide), zu_nk (by decide)]
    intro x6 hx6 kx6 lx6
    rw [w5] at hx6
    refine And.intro ⟨by omega, by omega⟩ (And.intro (fun c7 => ?_) (fun c7 => ?_))
    · exfalso; omega
    · exact And.intro trivial (And.intro ⟨by omega, by omega⟩ (hQ _ _ z4 (by omega) (by omega) (zRI_K R1 (by omega) (by omega)) ⟨fun h => by exfalso; omega, fun _ => by rw [em3]; exact zu_nk (by decide)⟩ (zOld_same (fun j a b => by rw [em3, zu_ne (by omega)])) ⟨fun _ => w5, fun h => by exfalso; omega⟩))
  · refine And.intro ⟨⟨by omega, by omega⟩, ⟨by omega, by omega⟩⟩ (And.intro (fun c8 => ?_) (fun c8 => ?_))
    · refine And.intro ⟨by omega, by omega⟩ ?_
      intro m9 em9
      have z10 := zfx_f z0 em9 rfl
      have w11 : m9.1 66 ((54 : Nat) : Int) = 0 := by rw [em9]; exact zu_at
      have R1 := zRI_1 hp0 em9
      have TE : ((m9.1 85, m9.1 66 ((29 : Nat) : Int)) : yT) = ((μ.1 85, μ.1 66 ((29 : Nat) : Int)) : yT) := by rw [em9, zu_ne (by decide), zu_nk (by decide)]
      intro x12 hx12 kx12 lx12
      rw [w11] at hx12
      refine And.intro ⟨by omega, by omega⟩ (And.intro (fun c13 => ?_) (fun c13 => ?_))
      · have f23 : m9.1 66 ((23 : Nat) : Int) = μ.1 66 ((23 : Nat) : Int) := by rw [em9, zu_nk (by decide)]
        have nd9 : ∀ x : Int, 0 ≤ x → x < μ.1 66 ((23 : Nat) : Int) → zNd μ x := fun x a b => hp0.1.1.1.2.1 x a (by have := hp0.1.1.2.2.1; omega)
        refine ⟨hk_X9_readTwiceQ, hm_X9_readTwiceQ hg d (by omega), _, _, _, _, B, rfl, R1.1, ⟨rfl, rfl, rfl⟩, hp1, (rTq_f hp2 (by rw [em9, zu_nk (by decide)]) (by rw [em9, zu_nk (by decide)]) (fun j hj => by rw [em9, zu_ne hj])), hp3, (by rw [f23]; exact rUt_o hUt nd9 (zOld_same (fun j a b => by rw [em9, zu_ne (by omega)]))), ?_⟩
        intro x14 m15 qm15 kx14 lx14 p16 p18 p19 p17
        rw [TE] at p17
        have z20 := zfx_t z10 qm15 rfl rfl
        have O15 : zOld μ m15 (μ.1 66 ((23 : Nat) : Int)) := zOld_t (zOld_same (fun j a b => by rw [em9, zu_ne (by omega)])) p19 (by rw [em9, zu_nk (by decide)]; exact Int.le_refl _)
        have w21 : m15.1 66 ((54 : Nat) : Int) = 0 := (qm15.2.1 54 rfl).trans w11
        refine And.intro ⟨by omega, by omega⟩ (And.intro (fun c22 => ?_) (fun c22 => ?_))
        · obtain ⟨x, l, QF, F37, F36, xN⟩ := (by rcases p17 with h | h; (exfalso; have := h.1; omega); exact h.2 : ∃ x l, yQq ((μ.1 85, μ.1 66 ((29 : Nat) : Int)) : yT) B x l ∧ m15.1 66 ((37 : Nat) : Int) = x ∧ m15.1 66 ((36 : Nat) : Int) = l ∧ x ≠ 0)
          intro x23 hx23 kx23 lx23
          rw [F36] at hx23
          exact And.intro trivial (And.intro ⟨by omega, by omega⟩ (hQ _ _ z20 (by omega) (by omega) (zRI_of R1 p16 (by omega) (by rw [qm15.1 84 (by decide) rfl]) (by rw [qm15.1 105 (by decide) rfl]) (by rw [qm15.2.1 20 rfl]) (by rw [qm15.2.1 21 rfl]) (by rw [qm15.2.1 23 rfl]) (by rw [qm15.2.1 68 rfl])) ⟨fun _ => p18, fun h => by exfalso; omega⟩ O15 ⟨fun h => by exfalso; omega, fun _ => ⟨w21, Or.inl ⟨by rw [F37]; exact xN, l, by rw [F37]; exact QF, by rw [z_rt ⟨by omega, by omega⟩]; omega⟩⟩⟩))
        · obtain ⟨H, QG, F37, U15, o, L1, L2, QL, RE1, RE2⟩ := (by rcases p17 with h | h; exact h.2; (exfalso; have := h.1; omega) : (m15.1 66 ((45 : Nat) : Int) = 0 ∧ m15.1 66 ((46 : Nat) : Int) = 0 ∧ m15.1 66 ((48 : Nat) : Int) = 0 ∧ zTy m15 (m15.1 66 ((71 : Nat) : Int)) ∧ zTy m15 (m15.1 66 ((72 : Nat) : Int))) ∧ yQq ((μ.1 85, μ.1 66 ((29 : Nat) : Int)) : yT) B 0 0 ∧ m15.1 66 ((37 : Nat) : Int) = 0 ∧ zUq m15 0 ∧ ∃ (o : Int) (L1 L2 : List Int), yQl ((μ.1 85, μ.1 66 ((29 : Nat) : Int)) : yT) B o L1 L2 ∧ rE m15 (m15.1 66 ((71 : Nat) : Int)) L1 ∧ rE m15 (m15.1 66 ((72 : Nat) : Int)) L2)
          have c15 : ∀ j : Nat, 75 ≤ j → j ≤ 99 → m15.1 j = μ.1 j := fun j a b => by rw [qm15.1 j (by omega) (zanyF (by simp <;> omega)), em9, zu_ne (by omega)]
          have T15 : rQt m15 B (m9.1 66 ((20 : Nat) : Int)) (m9.1 66 ((21 : Nat) : Int)) (m9.1 66 ((23 : Nat) : Int)) := by
            have e20 : m9.1 66 ((20 : Nat) : Int) = μ.1 66 ((20 : Nat) : Int) := by rw [em9, zu_nk (by decide)]
            have e21 : m9.1 66 ((21 : Nat) : Int) = μ.1 66 ((21 : Nat) : Int) := by rw [em9, zu_nk (by decide)]
            rw [e20, e21, f23]
            have PC15 : rPc m15 B (m15.1 66 ((23 : Nat) : Int)) := rPc_ot hp0 hp2 hPc (zOt_c (fun j hj => c15 j (by omega) (by omega))) O15 (by rw [qm15.2.1 23 rfl]; exact f23)
            rw [show m15.1 66 ((23 : Nat) : Int) = μ.1 66 ((23 : Nat) : Int) by rw [qm15.2.1 23 rfl]; exact f23] at PC15
            refine ⟨hp2.1, fun k a b => ?_, PC15, ⟨by rw [c15 80 (by decide) (by decide)]; exact E00.1, by rw [c15 80 (by decide) (by decide)]; exact rE_old O15 nd9 E00.1.1 E00.1.2 E00.2⟩, hW, hp3⟩
            rw [c15 76 (by decide) (by decide), c15 77 (by decide) (by decide)]
            have q := hp2.2.1 k a (by rw [← hp2.1.1]; exact b)
            exact ⟨q.2.1, q.2.2.1⟩
          intro x24 hx24 kx24 lx24
          intro x25 hx25 kx25 lx25
          have TL : zTy m15 x24 := by rw [hx24]; exact H.2.2.2.1
          have TR : zTy m15 x25 := by rw [hx25]; exact H.2.2.2.2
          have TL0 := TL.1
          have TR0 := TR.1
          refine ⟨hk_X9_questions, hm_X9_questions hg d (by omega), _, _, _, _, _, _, _, B, L1, L2, rfl, ⟨by omega, by omega⟩, ⟨by omega, by omega⟩, ⟨by omega, by omega⟩, p16, H.2.1, TL, TR, ⟨T15, U15, ⟨⟨H.2.1.symm, H.2.2.1.symm, H.1.symm⟩, fun k hk => absurd hk (by simp)⟩⟩, ⟨by rw [hx24]; exact rEf_of RE1, by rw [hx25]; exact rEf_of RE2⟩, ?_⟩
          intro x26 m27 qm27 kx26 lx26 p28 p29 p29q
          have z30 := zfx_t z20 qm27 rfl rfl
          have w31 : m27.1 66 ((54 : Nat) : Int) = 0 := (qm27.2.1 54 rfl).trans w21
          exact And.intro trivial (And.intro ⟨by omega, by omega⟩ (hQ _ _ z30 (by omega) (by omega) (zRI_of R1 p28 (by omega) (by rw [qm27.1 84 (by decide) rfl, qm15.1 84 (by decide) rfl]) (by rw [qm27.1 105 (by decide) rfl, qm15.1 105 (by decide) rfl]) (by rw [qm27.2.1 20 rfl, qm15.2.1 20 rfl]) (by rw [qm27.2.1 21 rfl, qm15.2.1 21 rfl]) (by rw [qm27.2.1 23 rfl, qm15.2.1 23 rfl]) (by rw [qm27.2.1 68 rfl, qm15.2.1 68 rfl])) ⟨fun _ => by rw [qm27.2.1 29 rfl]; exact p18, fun h => by exfalso; omega⟩ (zOld_t O15 p29.1 (by have h3 := p16.1.2.2.1; rw [em9, zu_nk (by decide)] at h3; omega)) ⟨fun h => by exfalso; omega, fun _ => ⟨w31, Or.inr ⟨by rw [qm27.2.1 37 rfl]; exact F37, QG, o, L1, L2, QL, p29q⟩⟩⟩))
      · exfalso; omega
    · refine And.intro ⟨by omega, by omega⟩ ?_
      intro m32 em32
      have z33 := zfx_f z0 em32 rfl
      have w34 : m32.1 66 ((54 : Nat) : Int) = 1 := by rw [em32]; exact zu_at
      have R1 := zRI_1 hp0 em32
      have TE : ((m32.1 85, m32.1 66 ((29 : Nat) : Int)) : yT) = ((μ.1 85, μ.1 66 ((29 : Nat) : Int)) : yT) := by rw [em32, zu_ne (by decide), zu_nk (by decide)]
      intro x35 hx35 kx35 lx35
      rw [w34] at hx35
      refine And.intro ⟨by omega, by omega⟩ (And.intro (fun c36 => ?_) (fun c36 => ?_))
      · exfalso; omega
      · exact And.intro trivial (And.intro ⟨by omega, by omega⟩ (hQ _ _ z33 (by omega) (by omega) (zRI_K R1 (by omega) (by omega)) ⟨fun h => by exfalso; omega, fun _ => by rw [em32]; exact zu_nk (by decide)⟩ (zOld_same (fun j a b => by rw [em32, zu_ne (by omega)])) ⟨fun _ => w34, fun h => by exfalso; omega⟩))
