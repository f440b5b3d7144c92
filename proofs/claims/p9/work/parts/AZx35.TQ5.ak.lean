/-! ### ask, as the class answers -/
theorem qT_mem {A : Int → Int} {P : Int → Prop} : ∀ (k : Nat) (l : qR), qT A P k l → ∀ x ∈ l, P x
  | 0, _, h => h.elim
  | k + 1, _, ⟨h, as, e1, e2, e3, e4, e5⟩ => fun x hx => by
    rw [e1] at hx
    rcases List.mem_cons.mp hx with rfl | hx
    · exact e3
    · obtain ⟨a, ha, hx⟩ := List.mem_flatten.mp hx
      exact qT_mem k a (e4 a ha) x hx
theorem qZ_mem {A : Int → Int} {P : Int → Prop} {l : qR} (h : qZ A P l) : ∀ x ∈ l, P x := by
  obtain ⟨k, h⟩ := h
  exact qT_mem k l h
/-- what ask answers, with the FAULT it tells -/
def yAk (T : yT) (B : yB) (u x v : Int) : Prop := (x ≠ 0 ∧ ∃ l, yQq T B x l ∧ v = (Int32.ofInt (-10 - l)).toInt) ∨ (x = 0 ∧ yQq T B 0 0 ∧ ∃ (o : Int) (L1 L2 : List Int), yQl T B o L1 L2 ∧ v = (qB B u 40 (0, 0, []) L1 L2).2)
theorem yAk_one {T : yT} {B : yB} {u x x' v v' : Int} (a : yAk T B u x v) (b : yAk T B u x' v') : x = x' ∧ v = v' := by
  rcases a with ⟨a1, l, a2, a3⟩ | ⟨a1, a2, o, L1, L2, a3, a4⟩ <;> rcases b with ⟨b1, l', b2, b3⟩ | ⟨b1, b2, o', L1', L2', b3, b4⟩
  · have q := yQq_one a2 b2
    exact ⟨q.1, by rw [a3, b3, q.2]⟩
  · have q := yQq_one a2 b2
    exact absurd q.1 a1
  · have q := yQq_one a2 b2
    exact absurd q.1.symm b1
  · obtain ⟨-, e2, e3⟩ := yQl_one a3 b3
    exact ⟨by omega, by rw [a4, b4, e2, e3]⟩
def yQg (T : yT) (B : yB) : Prop := ∀ (o : Int) (L1 L2 : List Int), yQl T B o L1 L2 → (-1 ≤ o ∧ o < B.1 0 0) ∧ qY (yar B) (qH B o 0) L1 ∧ qY (yar B) (qH B o 0) L2
theorem zq0_Pq {a b : zM} (h : zfP a b) : zq0 a b := ⟨h.1, fun j hj => h.2.1 j (by omega)⟩
theorem zq0_Sq {a b : zM} (h : zl0 a b ∧ ∀ j : Nat, (j < 52 ∨ 66 ≤ j) → b.1 j = a.1 j) : zq0 a b := ⟨h.1, fun j hj => h.2 j (by omega)⟩
theorem aT_qq {μ m : zM} {t : Nat} {B : yB} (h : aT μ t B) (q : zqy μ m) : aT m t B := by
  obtain ⟨ht, h1, h2, h3, h4, h5, h6⟩ := h
  have f : ∀ j : Nat, zyj j → m.1 j = μ.1 j := q.2.2
  have ff : ∀ j : Nat, (t ≤ j ∧ j < t + 17) ∨ (3000000 + t ≤ j ∧ j < 3000000 + t + 17) → m.1 j = μ.1 j := fun j hj => f j (by unfold zyj; omega)
  have e12 : m.1 (Nat.add t 12) = μ.1 (Nat.add t 12) := ff _ (by simp only [Nat.add_eq]; omega)
  have e13 : m.1 (Nat.add t 13) = μ.1 (Nat.add t 13) := ff _ (by simp only [Nat.add_eq]; omega)
  have e14 : m.1 (Nat.add t 14) = μ.1 (Nat.add t 14) := ff _ (by simp only [Nat.add_eq]; omega)
  have ec : m.1 (μ.1 (Nat.add t 12) ((5 : Nat) : Int)).toNat = μ.1 (μ.1 (Nat.add t 12) ((5 : Nat) : Int)).toNat := f _ (by unfold yCC at h6; unfold zyj; omega)
  refine ⟨ht, yRB_g ht h1 ff, yRS_g ht h2 ff, fun k d a b c d' => ?_, by rw [e12]; exact h4, by rw [e12, q.1.2]; exact h5, by unfold yCC; rw [e12]; exact h6⟩
  have w := h3 k d a b c d'
  rw [e14, e13, e12]
  exact ⟨w.1, fun q => ⟨(w.2 q).1, (w.2 q).2.1, yRow_e (w.2 q).2.2 ec⟩⟩
def gt_X8_ask (As : List zV) (μ : zM) (Q : Option zV → zM → Prop) (T : Nat → zM → Prop) : Prop := ∃ (a1 : Int) (B : yB), As = [.inr (.inr (0, 0)), .inl a1] ∧ ((-2147483648) ≤ a1 ∧ a1 ≤ 2147483647) ∧ (∀ i : Int, 0 ≤ i → i < μ.1 1 ((4 : Nat) : Int) → 0 ≤ μ.1 2 i ∧ μ.1 2 i ≤ 255) ∧ (0 ≤ μ.1 1 ((4 : Nat) : Int) ∧ μ.1 1 ((4 : Nat) : Int) ≤ 800) ∧ (∀ t : Nat, (t : Int) = μ.1 0 ((3 : Nat) : Int) → aT μ t B) ∧ aB B ∧ aW B ∧ aSz μ ∧ yQg ((μ.1 2, μ.1 1 ((4 : Nat) : Int)) : yT) B ∧ (∀ (v : Int) (μ' : zM), zqy μ μ' → (-2147483648) ≤ v → v ≤ 2147483647 → (μ'.1 1 ((4 : Nat) : Int) = 0) → (0 ≤ a1 ∧ a1 ≤ 3000) → yAk ((μ.1 2, μ.1 1 ((4 : Nat) : Int)) : yT) B a1 (μ'.1 0 ((7 : Nat) : Int)) v → Q (some (.inl v)) μ') ∧ ((a1 < 0 ∨ 3000 < a1) → T 11 μ)
set_option maxHeartbeats 8000000 in
theorem gx_X8_ask {g : zΓ} (hg : zg g) (d : Nat) (hd : 132 ≤ d) {As : List zV} {μ : zM} {Q : Option zV → zM → Prop} {T : Nat → zM → Prop} {w : mW} (hw : zRep μ w) (hr : ∀ v ∈ As, zrf v) (hC : gt_X8_ask As μ Q T) : Nat.ble (zsum As) mt_X8_ask.2.2.1.1 = true ∧ zE g d mt_X8_ask none [] (fun _ _ _ => False) Q T (0, zlv (zargs 0 As), [], w) := by
  refine zx_line hg (show mt_tab[105]? = some mt_X8_ask from rfl) [57] 81 rfl hw hr ?_
  obtain ⟨a1, B, rfl, ha1, hp0, hp1, hpT, hB, hW, hS, hG, hQ, hT11⟩ := hC
  refine ⟨rfl, ?_⟩
  have z0 : zqy μ μ := zqy_r μ
  have hI := hB.1
  refine And.intro ⟨by omega, by omega⟩ (And.intro (fun c1 => ?_) (fun c1 => ?_))
  · exact hT11 (by omega)
  · refine And.intro ⟨⟨by omega, by omega⟩, ⟨by omega, by omega⟩⟩ (And.intro (fun c2 => ?_) (fun c2 => ?_))
    · intro t3 et3 ht3
      have T1 := hpT t3 et3
      refine ⟨gk_X3_readQuestion, gm_X3_readQuestion hg d (by omega), _, B, rfl, ht3.1, hp0, hp1, ⟨T1.2.1, T1.2.2.1⟩, hI, ?_⟩
      intro x4 m5 qm5 kx4 lx4 p6
      have L4 := qm5.2
      have z7 := zqy_t z0 (zqy_x qm5.1)
      intro x8 hx8 kx8 lx8
      refine And.intro ⟨by omega, by omega⟩ ?_
      intro m9 em9
      have z10 := zqy_t z7 (zqy_u em9 (Or.inl (by decide)) (Or.inl ⟨by decide, by decide⟩))
      have c9 : ∀ j : Nat, j ≠ 0 → m9.1 j = m5.1 j := fun j hj => by rw [em9, zu_ne hj]
      have f7 : m9.1 0 ((7 : Nat) : Int) = m5.1 50 ((8 : Nat) : Int) := by rw [em9, zu_at]; exact hx8
      have t7 : m9.1 0 ((3 : Nat) : Int) = t3 := by rw [z10.2.1.1]; exact et3.symm
      have L9 : m9.1 1 ((4 : Nat) : Int) = 0 := by rw [c9 1 (by decide)]; exact L4
      refine And.intro ⟨by omega, by omega⟩ (And.intro (fun c11 => ?_) (fun c11 => ?_))
      · obtain ⟨-, QP, F8, o, L1, L2, QL, TD⟩ := (by rcases p6 with h0 | h0; exact h0; (exfalso; have := h0.1; omega) : x4 = 1 ∧ _ ∧ _ ∧ _)
        obtain ⟨d3, ⟨d4, LL⟩, d5, d6, d7, d8⟩ := TD
        obtain ⟨ho, Y1, Y2⟩ := hG o L1 L2 QL
        have hcl := hI.1.1
        have fb := aFs_b hB ho
        have mem : ∀ L : List Int, qY (yar B) (qH B o 0) L → ∀ h ∈ L, 32 ≤ h → h < 112 → yar B h = 0 ∧ aFs B o ≤ h - 32 ∧ h - 32 < aFs B o + aNs B o := fun L hL h hm h1 h2 => by
          have q := qZ_mem hL.1 h hm
          unfold qH at q
          exact ⟨yar_n (by omega) (by omega) (by omega) (by omega), by omega, by omega⟩
        intro t12 et12 ht12
        have q12 : t12 = t3 := by rw [t7] at et12; omega
        subst q12
        intro x13 hx13 kx13 lx13
        have X13 : x13 = o := by rw [hx13, c9 50 (by decide)]; exact d5
        refine ⟨gk_X0_startOver, gm_X0_startOver hg d (by omega), t12, x13, B, rfl, aT_qq T1 z10, hB, by rw [X13]; exact ho, aSz_f hS z10.1.2, hW.2.2.2, ?_⟩
        intro m14 q14 ok14 f14 any14 ow14 n14 ob14 as14
        rw [X13] at ow14 ob14
        have z15 := zqy_t z10 (zqy_0 (zq0_Sq q14))
        have T14 : aT m14 t12 B := aT_f (aT_qq T1 z10) q14.2 q14.1.2
        have S14 : aSz m14 := aSz_f hS z15.1.2
        have c50 : m14.1 50 = m5.1 50 := by rw [q14.2 50 (by omega), c9 50 (by decide)]
        have c51 : m14.1 51 = m5.1 51 := by rw [q14.2 51 (by omega), c9 51 (by decide)]
        intro t16 et16 ht16
        have q16 : t16 = 51 := by rw [c50, d3] at et16; omega
        subst q16
        intro x17 hx17 kx17 lx17
        have X17 : x17 = (L1.length : Int) := by rw [hx17, c50]; exact d6
        have R1 : yRow m14 51 0 L1 := yRow_e d7 c51
        refine ⟨_, zOk_tag (gm_X0_nodeOf hg d (by omega)), [.inr (.inr (52, 52)), .inr (.inr (51, 1001)), .inl 0, .inl x17], rfl, 51, 0, x17, t12, yar B, L1, aFs B o, aNs B o, rfl, (zIa_200 ht16.1), ⟨by omega, by omega⟩, ⟨X17, by omega⟩, Or.inl (by decide), by rw [S14.2.2.2]; omega, S14.1.1, R1, qZ_y Y1.1, ok14, ⟨by omega, by omega⟩, ow14, mem L1 Y1, ?_⟩
        intro x18 m19 q19 ok19 d19 n19 e19
        have z20 := zqy_t z15 (zqy_0 (zq0_Pq q19))
        have S19 : aSz m19 := aSz_f S14 q19.1.2
        have T19 : aT m19 t12 B := aT_f T14 (fun j hj => q19.2.1 j (by omega)) q19.1.2
        have W14 := ok14.2.2.2.2
        have ow19 : aOw m19 (yar B) (aFs B o) (aNs B o) := aOw_f ow14 W14 d19 (by rw [q19.2.1 52 (by omega)]) (q19.2.1 56 (by omega))
        have c50' : m19.1 50 = m5.1 50 := by rw [q19.2.1 50 (by omega), c50]
        have c51' : m19.1 51 = m5.1 51 := by rw [q19.2.1 51 (by omega), c51]
        intro t21 et21 ht21
        have q21 : t21 = 51 := by rw [c50', d3] at et21; omega
        subst q21
        intro x22 hx22 kx22 lx22
        have X22 : x22 = (L1.length : Int) := by rw [hx22, c50']; exact d6
        intro x23 hx23 kx23 lx23
        have X23 : x23 = (L1.length : Int) + L2.length := by rw [hx23, c50']; exact d4
        intro x24 hx24 kx24 lx24
        have X24 : x24 = (L1.length : Int) := by rw [hx24, c50']; exact d6
        have R2 : yRow m19 51 x22 L2 := by rw [X22]; exact yRow_e d8 c51'
        refine ⟨_, zOk_tag (gm_X0_nodeOf hg d (by omega)), [.inr (.inr (52, 52)), .inr (.inr (51, 1001)), .inl x22, .inl (x23 - x24)], rfl, 51, x22, x23 - x24, t12, yar B, L2, aFs B o, aNs B o, rfl, (zIa_200 ht21.1), ⟨by omega, by omega⟩, ⟨by omega, by omega⟩, Or.inl (by decide), by rw [S19.2.2.2]; omega, S19.1.1, R2, qZ_y Y2.1, ok19, ⟨by omega, by omega⟩, ow19, mem L2 Y2, ?_⟩
        intro x25 m26 q26 ok26 d26 n26 e26
        have z27 := zqy_t z20 (zqy_0 (zq0_Pq q26))
        refine And.intro ⟨by omega, by omega⟩ ?_
        intro m28 em28
        have l28 : zl0 m26 m28 := zl0_u em28 (Or.inl (by decide)) (Or.inl ⟨by decide, by decide⟩)
        have z29 := zqy_t z27 (zqy_u em28 (Or.inl (by decide)) (Or.inl ⟨by decide, by decide⟩))
        obtain ⟨ok28, d28, n28⟩ := tOk_57 ok26 em28 (by omega)
        have W19 := ok19.2.2.2.2
        have W26 := ok26.2.2.2.2
        have D := tOd_t (tOd_t d19 d26) d28
        have E1 : tE m28 (yar B) x18 L1 := tE_old (tOd_t d26 d28) W19 e19
        have E2 : tE m28 (yar B) x25 L2 := tE_old d28 W26 e26
        have c28 : ∀ j : Nat, j ≠ 52 → (j < 59 ∨ 66 ≤ j) → m28.1 j = m14.1 j := fun j h1 h2 => by rw [em28, zu_ne h1, q26.2.1 j h2, q19.2.1 j h2]
        have c52 : ∀ i : Nat, i ≠ 10 → m28.1 52 ((i : Nat) : Int) = m14.1 52 ((i : Nat) : Int) := fun i hi => by rw [em28, zu_nk (by omega), q26.2.1 52 (by omega), q19.2.1 52 (by omega)]
        have q28 : cQ m28 t12 B o a1 (0, 0, []) := by
          refine ⟨⟨aT_f T14 (fun j hj => ?_) ?_, ?_, ok28, by rw [c52 7 (by decide)]; exact f14.1⟩, by rw [c52 9 (by decide)]; exact tE_old D W14 any14, ⟨aOw_f ow14 W14 D (c52 8 (by decide)) (c28 56 (by decide) (by decide)), fun i i0 i1 => ?_⟩, ?_, ⟨by rw [em28, zu_at], by rw [c52 11 (by decide)]; exact as14⟩, ⟨by rw [c52 14 (by decide)]; exact f14.2.2, by rw [c52 13 (by decide)]; exact f14.2.1⟩, fun k hk => absurd hk (by simp)⟩
          · exact c28 j (by omega) (by omega)
          · rw [l28.2, q26.1.2, q19.1.2]
          · exact aSz_f S14 (by rw [l28.2, q26.1.2, q19.1.2])
          · have b := ob14 i i0 i1
            have e57 : m28.1 57 = m14.1 57 := c28 57 (by decide) (by decide)
            exact ⟨fun b' b0 b1 => by rw [e57]; exact tE_old D W14 (b.1 b' b0 b1), fun y => by rw [e57]; exact tE_old D W14 (b.2.1 y), fun y => by rw [e57]; exact b.2.2 y⟩
          · unfold aCn
            rw [c52 13 (by decide), c52 14 (by decide), f14.2.1, f14.2.2, n28.1, n28.2]
            exact ⟨⟨by omega, by omega⟩, ⟨by omega, by omega⟩, by omega, by omega⟩
        have k18 := e19.1
        have k25 := e26.1
        refine ⟨(gk_X0_below 40), gm_X0_belowN hg 40 d (by omega), x18, x25, 1, t12, B, o, a1, (0, 0, []), L1, L2, rfl, ⟨by omega, by omega⟩, q28, ⟨hB, hW, ho, qVs_0 rfl⟩, E1, Y1, E2, Y2, ⟨by omega, by omega⟩, (by show (0 : Int) ≤ 0; omega), ?_⟩
        intro x30 m31 p31
        obtain ⟨z31, v31, -, b31⟩ := p31
        have z32 := zqy_t z29 (zqy_0 z31)
        have G0 : m31.1 0 = m9.1 0 := by rw [z31.2 0 (by decide), c28 0 (by decide) (by decide), q14.2 0 (by omega)]
        have G1 : m31.1 1 = m9.1 1 := by rw [z31.2 1 (by decide), c28 1 (by decide) (by decide), q14.2 1 (by omega)]
        exact And.intro trivial (And.intro ⟨by omega, by omega⟩ (hQ _ _ z32 (by omega) (by omega) (by rw [G1]; exact L9) (by omega) (Or.inr ⟨by rw [G0, f7]; exact F8, QP, o, L1, L2, QL, v31⟩)))
      · obtain ⟨-, x, l, QP, F8, F9, xn⟩ := (by rcases p6 with h0 | h0; (exfalso; have := h0.1; omega); exact h0 : x4 = 0 ∧ _)
        intro x33 hx33 kx33 lx33
        have X33 : x33 = l := by rw [hx33, c9 50 (by decide)]; exact F9
        intro x34 hx34 kx34 lx34
        have V : x34 = (Int32.ofInt (-10 - l)).toInt := by rw [hx34, X33]
        exact And.intro trivial (And.intro ⟨by omega, by omega⟩ (hQ _ _ z10 (by omega) (by omega) L9 (by omega) (Or.inl ⟨by rw [f7, F8]; exact xn, l, by rw [f7, F8]; exact QP, V⟩)))
    · exact hT11 (by omega)
