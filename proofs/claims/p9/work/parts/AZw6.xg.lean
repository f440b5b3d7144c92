def wk_X4_inheritAll : zC := fun As μ Q => ∃ (t : Nat) (a1 : Int) (a2 : Int) (τ : yT) (s0 : yS) (p : Int) (B : yB) (w : Int) (B1 : yB) (z : Bool) (as : List (List Int)), As = [.inr (.inr (t, 14)), .inl a1, .inl a2] ∧ (t = 14 ∨ t = 32) ∧ (0 ≤ a1 ∧ a1 ≤ 20) ∧ (0 ≤ a2 ∧ a2 ≤ 20) ∧ (yInv s0) ∧ (yIA τ s0 p B t w 0 a2 μ B1 z as) ∧ (a1 = B1.1 0 3) ∧ (zcq μ) ∧ (∀ (v : Int) (μ' : zM), (∀ T : Nat, (T = t ∨ T = t + 100) → zfR T μ μ') → 0 ≤ v → v ≤ 1 → ((v = 0 ∧ ∃ B', yR τ s0 (yflt τ B' p 8) ∧ yRT τ μ' p) ∨ (v = 1 ∧ ∃ d B' z', yIA τ s0 p B t w d a2 μ' B' z' as ∧ B'.1 0 0 ≤ d)) → Q (some (.inl v)) μ')
set_option maxHeartbeats 4000000 in
theorem wm_X4_inheritAll {g : zΓ} (hg : zg g) (d : Nat) (hd : 5 ≤ d) : zOk g d 69 wk_X4_inheritAll := by
  obtain ⟨d, rfl⟩ : ∃ d', d = d' + 1 := ⟨d - 1, by omega⟩
  refine zOk_loop hg (show mt_tab[69]? = some mt_X4_inheritAll from rfl) ([(12, [0, 1, 2, 3, 4])], []) 44 rfl fun As μ Q hC => ?_
  obtain ⟨t, a1, a2, τ, s0, p, B, w, B1, z, as, rfl, ht, ha1, ha2, hp0, hp1, hp2, hp3, hQ⟩ := hC
  have z0 : zfW t μ μ := zfW_r t μ
  refine ⟨rfl, fun pc vs μ' n => ∃ (v1 : Int) (v2 : Int) (v3 : Int) (v4 : Int), vs = [.inr (.inr (t, 14)), .inl v1, .inl v2, .inl v3, .inl v4] ∧ zfW t μ μ' ∧ (0 ≤ v1 ∧ v1 ≤ 20) ∧ (0 ≤ v2 ∧ v2 ≤ 20) ∧ (0 ≤ v3 ∧ v3 ≤ 80) ∧ (0 ≤ v4 ∧ v4 ≤ 22) ∧ (v1 = a1 ∧ v2 = a2 ∧ v3 = B1.1 2 a2 ∧ v4 ≤ B1.1 0 0) ∧ (∃ B' z', yIA τ s0 p B t w v4 a2 μ' B' z' as) ∧ n = (Int.toNat (2147483648 - v4)), ?_, ?_, trivial⟩
  · refine And.intro ht ?_
    refine ⟨zk_X8_at, zm_X8_at hg d (by omega), _, _, _, rfl, ⟨by omega, by omega⟩, ?_⟩
    refine And.intro (zfa (o := 2) (y2 := 16) ht rfl) ?_
    intro x1 kx1 lx1 fx1 gx1
    have hx1 : x1 = μ.1 (Nat.add t 2) a2 := (fx1 ⟨by omega, by omega⟩).1
    have ix1 := (fx1 ⟨by omega, by omega⟩).2
    have HB := yIA_B hp0 hp1
    have X1 : x1 = B1.1 2 a2 := by rw [hx1]; exact HB.2.2.2.1
    refine Exists.intro (Int.toNat (2147483648 - 0)) ?_
    exact ⟨_, _, _, _, rfl, z0, ⟨by omega, by omega⟩, ⟨by omega, by omega⟩, ⟨by omega, by omega⟩, ⟨by omega, by omega⟩, (by omega), ⟨B1, z, hp1⟩, rfl⟩
  · intro vs m0 n hI
    clear z0
    obtain ⟨v1, v2, v3, v4, rfl, z0, hv1, hv2, hv3, hv4, i0, i1, rfl⟩ := hI
    obtain ⟨B0, zb, IA⟩ := i1
    have HB := yIA_B hp0 IA
    have HE := IA.2.2.2.2.1.2.1
    obtain ⟨j1, j2, j3, j4⟩ := i0
    subst j1
    subst j2
    have EQ := IA.2.2.1
    have EQ1 := hp1.2.2.1
    have E2 : B0.1 2 = B1.1 2 := by rw [EQ.2.1 2 (by decide), EQ1.2.1 2 (by decide)]
    have E3 : B0.1 0 3 = B1.1 0 3 := by rw [EQ.1.2.2.2, EQ1.1.2.2.2]
    have E0 : B0.1 0 0 = B1.1 0 0 := by rw [EQ.1.1, EQ1.1.1]
    have HB3 := hp2
    refine And.intro ht ?_
    intro x2 hx2 kx2 lx2
    refine And.intro ⟨⟨by omega, by omega⟩, ⟨by omega, by omega⟩⟩ (And.intro (fun c3 => ?_) (fun c3 => ?_))
    · exact And.intro (zrtb (by omega)) (And.intro ⟨by omega, by omega⟩ (hQ _ _ z0 (by omega) (by omega) (Or.inr ⟨rfl, _, _, _, IA, by omega⟩)))
    · refine And.intro ht ⟨yk_X4_overLength, ym_X4_overLength hg d (by omega), _, _, _, rfl, ht, ⟨by omega, by omega⟩, ⟨by omega, by omega⟩, ?_⟩
      intro x4 kx4 lx4 p5
      have OL := yIA_l hp0 IA (d := v4) ⟨by omega, by omega⟩
      have X2 : x4 = m0.1 (Nat.add t 14) (v2 * 21 + v4) := p5
      rw [← X2] at OL
      refine And.intro ⟨by omega, by omega⟩ (And.intro (fun c6 => ?_) (fun c6 => ?_))
      · have IN := yIA_s IA (by omega) (OL.1 (by omega))
        refine Exists.intro (Int.toNat (2147483648 - (v4 + 1))) (And.intro (by omega) ?_)
        exact ⟨_, _, _, _, rfl, z0, ⟨by omega, by omega⟩, ⟨by omega, by omega⟩, ⟨by omega, by omega⟩, ⟨by omega, by omega⟩, (by omega), ⟨_, _, IN⟩, rfl⟩
      · obtain ⟨l, HL⟩ := OL.2 (by omega)
        obtain ⟨c, σ, P1, P2, P3, P4, P5, P6⟩ := yIA_pre IA.2.2.2.1 (yIA_I hp0 IA) HE ⟨by omega, by omega⟩ IA.2.2.2.2.1.2.2.1 HL
        refine And.intro ht ?_
        refine And.intro ht ?_
        refine And.intro (zfa (o := 12) (y2 := 26) ht rfl) ⟨wk_X1_inherit, wm_X1_inherit hg d (by omega), _, _, _, _, _, _, _, _, _, _, rfl, (zfa (o := 12) (y2 := 26) ht rfl), ⟨by omega, by omega⟩, ⟨by omega, by omega⟩, ⟨by omega, by omega⟩, (zfa (o := 11) (y2 := 25) ht rfl), P1, P2, P3, IA.2.2.2.2.2.2, P4, (by rw [show v3 = B0.1 2 v2 by rw [E2]; exact j3]; exact P5), (by rw [show v1 = B0.1 0 3 by rw [E3]; exact hp2]; exact P6), (zcq_t hp3 (z0 t (Or.inl rfl)).1), ?_⟩
        intro x7 m8 qm8 kx7 lx7 p9
        have z10 := zfW_t z0 (fun T hT => qm8 T (by first | exact hT | (simp only [Nat.add_eq]; omega)))
        have IF := yIA_f hp0 IA (d := v4) ⟨by omega, by omega⟩ HL (show _ = B0.1 0 3 * 21 + v4 by rw [E3, ← hp2]) (show v3 = B0.1 2 v2 by rw [E2]; exact j3) p9
        refine And.intro ⟨by omega, by omega⟩ (And.intro (fun c11 => ?_) (fun c11 => ?_))
        · obtain ⟨B9, z9, IN⟩ := (by rcases IF with h0 | h0; (exfalso; omega); exact h0.2 : ∃ B9 z9, yIA τ s0 p B t w (v4 + 1) v2 m8 B9 z9 as)
          refine Exists.intro (Int.toNat (2147483648 - (v4 + 1))) (And.intro (by omega) ?_)
          exact ⟨_, _, _, _, rfl, z10, ⟨by omega, by omega⟩, ⟨by omega, by omega⟩, ⟨by omega, by omega⟩, ⟨by omega, by omega⟩, (by omega), ⟨_, _, IN⟩, rfl⟩
        · exact And.intro (zrtb (by omega)) (And.intro ⟨by omega, by omega⟩ (hQ _ _ z10 (by omega) (by omega) (Or.inl ⟨rfl, by rcases IF with h0 | h0; exact ⟨_, h0.2⟩; (exfalso; omega)⟩)))
def wk_X4_closeClass : zC := fun As μ Q => ∃ (t : Nat) (a1 : Int) (τ : yT) (s0 : yS) (p : Int) (B : yB), As = [.inr (.inr (t, 14)), .inl a1] ∧ (t = 14 ∨ t = 32) ∧ (0 ≤ a1 ∧ a1 ≤ 20) ∧ (yInv s0) ∧ (yR τ s0 (8, p, 0, [], B) ∧ ykd τ p = 59) ∧ (yRC τ μ p B t (Nat.add t 11)) ∧ (a1 = B.1 0 3 ∧ μ.1 t ((14 : Nat) : Int) = B.1 0 2 ∧ μ.1 50 ((10 : Nat) : Int) = 0) ∧ (yCu B) ∧ (zcq μ) ∧ (∀ (v : Int) (μ' : zM), (∀ T : Nat, (T = t ∨ T = t + 100) → zfR T μ μ') → 0 ≤ v → v ≤ 1 → ((v = 0 ∧ ∃ B', yR τ s0 (yflt τ B' p 8) ∧ yRT τ μ' p) ∨ (v = 1 ∧ ∃ B', yR τ s0 (9, ynx τ p, 0, [], B') ∧ yRC τ μ' p B' t (Nat.add t 11) ∧ μ'.1 50 ((10 : Nat) : Int) = 0 ∧ B'.1 0 0 = B.1 0 0)) → Q (some (.inl v)) μ')
set_option maxHeartbeats 4000000 in
theorem wm_X4_closeClass {g : zΓ} (hg : zg g) (d : Nat) (hd : 6 ≤ d) : zOk g d 68 wk_X4_closeClass := by
  obtain ⟨d, rfl⟩ : ∃ d', d = d' + 1 := ⟨d - 1, by omega⟩
  refine zOk_loop hg (show mt_tab[68]? = some mt_X4_closeClass from rfl) ([(23, [0, 1, 2]), (73, [0, 1, 2, 4, 5, 6])], []) 82 rfl fun As μ Q hC => ?_
  obtain ⟨t, a1, τ, s0, p, B, rfl, ht, ha1, hp0, hp1, hp2, hp3, hp4, hp5, hQ⟩ := hC
  have CU := hp4
  unfold yCu at CU
  have RB := hp2.2.2.1
  have N0 := RB.1.2.2.1
  have HR := RB.2.1 (B.1 0 3) (by omega) (by omega)
  have HR2 := HR.2.1
  have CO := yRX_co hp2
  have HU := (hp2.2.2.2.2.1 rfl).2.1
  have HC := (yct_B (B.2 2)).2
  have z0 : zfW t μ μ := zfW_r t μ
  refine ⟨rfl, fun pc vs μ' n => (pc = 23 → ∃ (v1 : Int) (v2 : Int), vs = [.inr (.inr (t, 14)), .inl v1, .inl v2] ∧ zfW t μ μ' ∧ (0 ≤ v1 ∧ v1 ≤ 20) ∧ (0 ≤ v2 ∧ v2 ≤ 4) ∧ (v1 = a1) ∧ (∃ B' z', yCL τ s0 p B t v2 μ' B' z') ∧ n = (Int.toNat ((2147483648 - v2) * 8589934592 + 8589934591))) ∧ (pc = 73 → ∃ (v1 : Int) (v2 : Int) (v4 : Int) (v5 : Int) (v6 : Int), vs = [.inr (.inr (t, 14)), .inl v1, .inl v2, .inl v4, .inl v5, .inl v6] ∧ zfW t μ μ' ∧ (0 ≤ v1 ∧ v1 ≤ 20) ∧ (0 ≤ v2 ∧ v2 ≤ 4) ∧ (0 ≤ v4 ∧ v4 ≤ 20) ∧ (0 ≤ v5 ∧ v5 ≤ 301) ∧ (0 ≤ v6 ∧ v6 ≤ 4) ∧ (v1 = a1) ∧ (∃ B' z' as σ, yCM τ s0 p B t v2 v4 v5 v6 μ' B' z' as σ ∧ v2 < B'.1 4 (B'.1 0 3)) ∧ n = (Int.toNat ((2147483648 - v2) * 8589934592 + (2147483648 - v6)))), ?_, ?_, ?_, trivial⟩
  · refine And.intro ht ?_
    refine And.intro ht ?_
    refine ⟨zk_X8_at, zm_X8_at hg d (by omega), _, _, _, rfl, ⟨by omega, by omega⟩, ?_⟩
    refine And.intro (zfa (o := 2) (y2 := 16) ht rfl) ?_
    intro x1 kx1 lx1 fx1 gx1
    have hx1 : x1 = μ.1 (Nat.add t 2) a1 := (fx1 ⟨by omega, by omega⟩).1
    have ix1 := (fx1 ⟨by omega, by omega⟩).2
    have X1 : x1 = B.1 2 (B.1 0 3) := by rw [hx1, hp3.1]; exact HR.1.2.1
    refine And.intro ht ⟨yk_X4_arity, ym_X4_arity hg d (by omega), _, _, rfl, ht, ⟨by omega, by omega⟩, ?_⟩
    intro x2 kx2 lx2 p3
    have X2 : x2 = B.1 3 (B.1 0 3) := by have h0 := p3; rw [hp3.1, yRC_ar hp2] at h0; rw [h0]; unfold yar; rw [if_pos ⟨by omega, by omega⟩]
    refine And.intro (zfa (o := 12) (y2 := 26) ht rfl) ⟨wk_X1_addOwn, wm_X1_addOwn hg d (by omega), _, _, _, _, _, rfl, (zfa (o := 12) (y2 := 26) ht rfl), ⟨by omega, by omega⟩, ⟨by omega, by omega⟩, ⟨by omega, by omega⟩, CO, ⟨HU.2.2.1, HU.1, by omega⟩, (zcq_t hp5 (z0 t (Or.inl rfl)).1), ?_⟩
    intro m4 qm4 p5
    have z6 := zfW_t z0 (fun T hT => qm4 T (by first | exact hT | (simp only [Nat.add_eq]; omega)))
    have C0 := yCL_0 hp0 hp1.1 hp1.2 hp2 hp3.2 (by have h0 := p5; rw [hp3.1, X1, X2, yown_w] at h0; exact h0) rfl
    refine Exists.intro (Int.toNat ((2147483648 - 0) * 8589934592 + 8589934591)) ?_
    exact ⟨(fun _ => ⟨_, _, rfl, z6, ⟨by omega, by omega⟩, ⟨by omega, by omega⟩, (by omega), ⟨_, _, C0⟩, rfl⟩), (fun h => absurd h (by decide))⟩
  · intro vs m0 n hI
    replace hI := hI.1 rfl
    clear z0
    obtain ⟨v1, v2, rfl, z0, hv1, hv2, i0, i1, rfl⟩ := hI
    obtain ⟨B0, zb, CL⟩ := i1
    have HI := yCL_I hp0 CL
    have EQ := CL.2.2.1
    have HX := CL.2.2.2.1
    have HS := HX.2.2.1.2.1 (B0.1 0 3) (by rw [EQ.1.2.2.2]; omega) (by rw [EQ.1.2.2.2, EQ.1.1]; omega)
    have E3 := EQ.1.2.2.2
    refine And.intro ht ?_
    refine ⟨zk_X8_at, zm_X8_at hg d (by omega), _, _, _, rfl, ⟨by omega, by omega⟩, ?_⟩
    refine And.intro (zfa (o := 4) (y2 := 18) ht rfl) ?_
    intro x7 kx7 lx7 fx7 gx7
    have hx7 : x7 = m0.1 (Nat.add t 4) v1 := (fx7 ⟨by omega, by omega⟩).1
    have ix7 := (fx7 ⟨by omega, by omega⟩).2
    have X4 : x7 = B0.1 4 (B0.1 0 3) := by rw [hx7, show v1 = B0.1 0 3 by omega]; exact HS.1.2.2.2
    have S4 := HS.2.2
    refine And.intro ⟨⟨by omega, by omega⟩, ⟨by omega, by omega⟩⟩ (And.intro (fun c8 => ?_) (fun c8 => ?_))
    · have CO := yRX_co HX
      have HU := (HX.2.2.2.2.1 rfl).2.1
      have HC := (yct_B (yLf B0 zb)).2
      refine And.intro ht ?_
      refine And.intro (zfa (o := 12) (y2 := 26) ht rfl) ⟨wk_X1_addAny, wm_X1_addAny hg d (by omega), _, _, _, rfl, (zfa (o := 12) (y2 := 26) ht rfl), ⟨by omega, by omega⟩, CO, ⟨HU.2.2.1, HU.1, by omega⟩, (zcq_t hp5 (z0 t (Or.inl rfl)).1), ?_⟩
      intro m9 qm9 p10
      have z11 := zfW_t z0 (fun T hT => qm9 T (by first | exact hT | (simp only [Nat.add_eq]; omega)))
      have CE := yCL_e hp0 CL (by omega) (show _ = B0.1 0 3 * 21 + 0 by rw [show v1 = B0.1 0 3 by omega]) p10
      exact And.intro (zrtb (by omega)) (And.intro ⟨by omega, by omega⟩ (hQ _ _ z11 (by omega) (by omega) (Or.inr ⟨rfl, B0, CE.1, CE.2.1, CE.2.2, EQ.1.1⟩)))
    · refine And.intro ht ?_
      refine ⟨zk_X8_at, zm_X8_at hg d (by omega), _, _, _, rfl, ⟨by omega, by omega⟩, ?_⟩
      refine And.intro (zfa (o := 5) (y2 := 19) ht rfl) ?_
      intro x12 kx12 lx12 fx12 gx12
      have hx12 : x12 = m0.1 (Nat.add t 5) ((v1 * 4) + v2) := (fx12 ⟨by omega, by omega⟩).1
      have ix12 := (fx12 ⟨by omega, by omega⟩).2
      have X5 : x12 = m0.1 (Nat.add t 5) (B0.1 0 3 * 4 + v2) := by rw [hx12, show v1 = B0.1 0 3 by omega]
      obtain ⟨e0, as0, P0, P1, -⟩ := yCM_0 hp0 CL ⟨by omega, by omega⟩ rfl
      refine And.intro ht ?_
      refine ⟨zk_X8_at, zm_X8_at hg d (by omega), _, _, _, rfl, ⟨by omega, by omega⟩, ?_⟩
      refine And.intro (zfa (o := 11) (y2 := 25) ht rfl) ?_
      intro x13 kx13 lx13 fx13 gx13
      have hx13 : x13 = m0.1 (Nat.add t 11) x12 := (fx13 ⟨by omega, by omega⟩).1
      have ix13 := (fx13 ⟨by omega, by omega⟩).2
      have X6 : x13 = m0.1 (Nat.add t 11) (m0.1 (Nat.add t 5) (B0.1 0 3 * 4 + v2)) := by rw [hx13, X5]
      refine And.intro ht ?_
      refine And.intro (zfa (o := 12) (y2 := 26) ht rfl) ⟨wk_X1_startArgs, wm_X1_startArgs hg d (by omega), _, rfl, (zfa (o := 12) (y2 := 26) ht rfl), ?_⟩
      intro m14 qm14 p15
      have z16 := zfW_0 z0 (fun T hT => qm14 T (by first | exact hT | (simp only [Nat.add_eq]; omega)))
      obtain ⟨e1, as1, Q0, Q1, CM⟩ := yCM_0 hp0 CL ⟨by omega, by omega⟩ p15
      rw [← Q0, ← X6, ← X5] at CM
      have W1 := CM.2.1.2.1
      have N9 : B0.1 0 0 ≤ 21 := by rw [EQ.1.1]; omega
      refine Exists.intro (Int.toNat ((2147483648 - v2) * 8589934592 + (2147483648 - 0))) (And.intro (by omega) ?_)
      exact ⟨(fun h => absurd h (by decide)), (fun _ => ⟨_, _, _, _, _, rfl, z16, ⟨by omega, by omega⟩, ⟨by omega, by omega⟩, ⟨by omega, by omega⟩, ⟨by omega, by omega⟩, ⟨by omega, by omega⟩, (by omega), ⟨B0, zb, as1, _, CM, by omega⟩, rfl⟩)⟩
  · intro vs m0 n hI
    replace hI := hI.2 rfl
    clear z0
    obtain ⟨v1, v2, v4, v5, v6, rfl, z0, hv1, hv2, hv4, hv5, hv6, i0, i1, rfl⟩ := hI
    obtain ⟨B0, zb, as, σ, CM, V2⟩ := i1
    have EQ := CM.1.2.2.1
    have HX := CM.1.2.2.2.1
    have E3 := EQ.1.2.2.2
    have WE := CM.2.1.2.1
    have WA := CM.2.1.2.2.1
    have WJ := CM.2.2.2.1
    have WR := (HX.2.2.1.2.1 v4 WE.1 WE.2.1).2.1
    have WN := HX.2.2.1.1.2.2.1
    refine And.intro ht ⟨yk_X4_arity, ym_X4_arity hg d (by omega), _, _, rfl, ht, ⟨by omega, by omega⟩, ?_⟩
    intro x17 kx17 lx17 p18
    have X7 : x17 = (as.length : Int) := by have h0 := p18; rw [yRX_ar HX] at h0; rw [h0, WA]; unfold yar; rw [if_pos ⟨WE.1, WE.2.1⟩]
    refine And.intro ⟨⟨by omega, by omega⟩, ⟨by omega, by omega⟩⟩ (And.intro (fun c19 => ?_) (fun c19 => ?_))
    · have IA := yIA_0 CM V2 (by omega)
      refine And.intro ht ⟨wk_X4_inheritAll, wm_X4_inheritAll hg d (by omega), _, _, _, _, _, _, _, _, _, _, _, rfl, ht, ⟨by omega, by omega⟩, ⟨by omega, by omega⟩, hp0, IA, (by omega), (zcq_t hp5 (z0 t (Or.inl rfl)).1), ?_⟩
      intro x20 m21 qm21 kx20 lx20 p22
      have z23 := zfW_t z0 (fun T hT => qm21 T (by first | exact hT | (simp only [Nat.add_eq]; omega)))
      refine And.intro ⟨by omega, by omega⟩ (And.intro (fun c24 => ?_) (fun c24 => ?_))
      · obtain ⟨d9, B9, z9, I9, D9⟩ := (by rcases p22 with h0 | h0; (exfalso; omega); exact h0.2 : ∃ d B' z', yIA τ s0 p B t v2 d v4 m21 B' z' as ∧ B'.1 0 0 ≤ d)
        have C9 := yIA_1 I9 D9
        have V9 := I9.2.1.2.2
        have Q9 := yIA_B hp0 I9
        have R9 := (I9.2.2.2.1.2.2.1.2.1 (B9.1 0 3) (by omega) (by omega)).2.2
        refine Exists.intro (Int.toNat ((2147483648 - (v2 + 1)) * 8589934592 + 8589934591)) (And.intro (by omega) ?_)
        exact ⟨(fun _ => ⟨_, _, rfl, z23, ⟨by omega, by omega⟩, ⟨by omega, by omega⟩, (by omega), ⟨_, _, C9⟩, rfl⟩), (fun h => absurd h (by decide))⟩
      · exact And.intro (zrtb (by omega)) (And.intro ⟨by omega, by omega⟩ (hQ _ _ z23 (by omega) (by omega) (Or.inl ⟨rfl, by rcases p22 with h0 | h0; exact h0.2; (exfalso; omega)⟩)))
    · have CA := yCM_a CM (by omega)
      have CA2 := CA.2
      have W14 := CM.1.2.2.2.2
      have W02 := HX.2.1.2.2.2.2.2
      have E02 := EQ.1.2.2.1
      refine And.intro ht ⟨yk_X4_endOfPart, ym_X4_endOfPart hg d (by omega), _, _, _, _, rfl, ht, ⟨by omega, by omega⟩, CA.1.1, (by omega), (fun x => yRX_ar HX x), CA.1.2, ?_⟩
      intro x25 kx25 lx25 p26
      have X8 := p26
      refine And.intro ht ?_
      refine And.intro (zfa (o := 12) (y2 := 26) ht rfl) ⟨wk_X1_addArg, wm_X1_addArg hg d (by omega), _, _, _, rfl, (zfa (o := 12) (y2 := 26) ht rfl), ⟨by omega, by omega⟩, ⟨by omega, by omega⟩, ⟨by omega, by omega⟩, ?_⟩
      intro m27 qm27 p28
      have z29 := zfW_0 z0 (fun T hT => qm27 T (by first | exact hT | (simp only [Nat.add_eq]; omega)))
      have CN := yCM_n CM (by omega) (by omega) X8 rfl p28
      refine Exists.intro (Int.toNat ((2147483648 - v2) * 8589934592 + (2147483648 - (v6 + 1)))) (And.intro (by omega) ?_)
      exact ⟨(fun h => absurd h (by decide)), (fun _ => ⟨_, _, _, _, _, rfl, z29, ⟨by omega, by omega⟩, ⟨by omega, by omega⟩, ⟨by omega, by omega⟩, ⟨by omega, by omega⟩, ⟨by omega, by omega⟩, (by omega), ⟨_, _, _, _, CN, V2⟩, rfl⟩)⟩
