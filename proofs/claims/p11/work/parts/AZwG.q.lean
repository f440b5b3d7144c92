def qt_X8_ask (As : List zV) (μ : zM) (Q : Option zV → zM → Prop) (T : Nat → zM → Prop) : Prop := ∃ (a1 : Int) (B : yB), As = [.inr (.inr (0, 0)), .inl a1] ∧ ((-2147483648) ≤ a1 ∧ a1 ≤ 2147483647) ∧ (∀ i : Int, 0 ≤ i → i < μ.1 1 ((4 : Nat) : Int) → 0 ≤ μ.1 2 i ∧ μ.1 2 i ≤ 255) ∧ (0 ≤ μ.1 1 ((4 : Nat) : Int) ∧ μ.1 1 ((4 : Nat) : Int) ≤ 800) ∧ (∀ t : Nat, (t : Int) = μ.1 0 ((3 : Nat) : Int) → yRB μ t B ∧ yRS μ t 300 B) ∧ (∀ (v : Int) (μ' : zM), zqy μ μ' → (-2147483648) ≤ v → v ≤ 2147483647 → (μ'.1 1 ((4 : Nat) : Int) = 0) → (0 ≤ a1 ∧ a1 ≤ 3000) → (∃ x l, yQq ((μ.1 2, μ.1 1 ((4 : Nat) : Int)) : yT) B x l ∧ μ'.1 0 ((7 : Nat) : Int) = x) → Q (some (.inl v)) μ') ∧ ((a1 < 0 ∨ 3000 < a1) → T 11 μ)
set_option maxHeartbeats 4000000 in
theorem qx_X8_ask {g : zΓ} (hg : zg g) (d : Nat) (hd : 132 ≤ d) {As : List zV} {μ : zM} {Q : Option zV → zM → Prop} {T : Nat → zM → Prop} {w : mW} (hw : zRep μ w) (hr : ∀ v ∈ As, zrf v) (hC : qt_X8_ask As μ Q T) : Nat.ble (zsum As) mt_X8_ask.2.2.1.1 = true ∧ zE g d mt_X8_ask none [] (fun _ _ _ => False) Q T (0, zlv (zargs 0 As), [], w) := by
  refine zx_line hg (show mt_tab[105]? = some mt_X8_ask from rfl) [57] 81 rfl hw hr ?_
  obtain ⟨a1, B, rfl, ha1, hp0, hp1, hpB, hQ, hT11⟩ := hC
  refine ⟨rfl, ?_⟩
  have z0 : zqy μ μ := zqy_r μ
  refine And.intro ⟨by omega, by omega⟩ (And.intro (fun c1 => ?_) (fun c1 => ?_))
  · exact hT11 (by omega)
  · refine And.intro ⟨⟨by omega, by omega⟩, ⟨by omega, by omega⟩⟩ (And.intro (fun c2 => ?_) (fun c2 => ?_))
    · intro t3 et3 ht3
      refine ⟨qk_X3_readQuestion, qm_X3_readQuestion hg d (by omega), _, B, rfl, ht3.1, hp0, hp1, hpB t3 et3, ?_⟩
      intro x4 m5 qm5 kx4 lx4 p6
      obtain ⟨xF, lF, FQ, FE⟩ : ∃ x l, yQq ((μ.1 2, μ.1 1 ((4 : Nat) : Int)) : yT) B x l ∧ m5.1 50 ((8 : Nat) : Int) = x := by
        rcases p6 with h | h
        · exact ⟨0, 0, h.2.1, h.2.2⟩
        · obtain ⟨x, l, h1, h2, h3⟩ := h.2; exact ⟨x, l, h1, h2⟩
      have L4 := qm5.2
      have z7 := zqy_t z0 (zqy_x qm5.1)
      intro x8 hx8 kx8 lx8
      refine And.intro ⟨by omega, by omega⟩ ?_
      intro m9 em9
      have z10 := zqy_t z7 (zqy_u em9 (Or.inl (by decide)) (Or.inl ⟨by decide, by decide⟩))
      have : m9.1 1 ((4 : Nat) : Int) = m5.1 1 ((4 : Nat) : Int) := by rw [em9]; exact congrFun (zu_ne (show (1 : Nat) ≠ 0 by omega)) _
      refine And.intro ⟨by omega, by omega⟩ (And.intro (fun c11 => ?_) (fun c11 => ?_))
      · intro t12 et12 ht12
        intro x13 hx13 kx13 lx13
        refine ⟨xk_X0_startOver, xm_X0_startOver hg d (by omega), _, _, rfl, ht12.1, ⟨by omega, by omega⟩, ?_⟩
        intro m14 qm14
        have z15 := zqy_t z10 (zqy_0 qm14)
        have : m14.1 1 ((4 : Nat) : Int) = m9.1 1 ((4 : Nat) : Int) ∨ m14.1 1 ((4 : Nat) : Int) = 0 := qm14.1.1.2.2.2.1
        intro t16 et16 ht16
        intro x17 hx17 kx17 lx17
        refine ⟨_, zOk_tag (xm_X0_nodeOf hg d (by omega)), [.inr (.inr (52, 52)), .inr (.inr (t16, 1001)), .inl 0, .inl x17], rfl, _, _, _, rfl, (zIa_200 ht16.1), ⟨by omega, by omega⟩, ⟨by omega, by omega⟩, ?_⟩
        intro x18 m19 qm19 kx18 lx18
        have z20 := zqy_t z15 (zqy_0 qm19)
        have : m19.1 1 ((4 : Nat) : Int) = m14.1 1 ((4 : Nat) : Int) ∨ m19.1 1 ((4 : Nat) : Int) = 0 := qm19.1.1.2.2.2.1
        intro t21 et21 ht21
        intro x22 hx22 kx22 lx22
        intro x23 hx23 kx23 lx23
        intro x24 hx24 kx24 lx24
        refine ⟨_, zOk_tag (xm_X0_nodeOf hg d (by omega)), [.inr (.inr (52, 52)), .inr (.inr (t21, 1001)), .inl x22, .inl (x23 - x24)], rfl, _, _, _, rfl, (zIa_200 ht21.1), ⟨by omega, by omega⟩, ⟨by omega, by omega⟩, ?_⟩
        intro x25 m26 qm26 kx25 lx25
        have z27 := zqy_t z20 (zqy_0 qm26)
        have : m26.1 1 ((4 : Nat) : Int) = m19.1 1 ((4 : Nat) : Int) ∨ m26.1 1 ((4 : Nat) : Int) = 0 := qm26.1.1.2.2.2.1
        refine And.intro ⟨by omega, by omega⟩ ?_
        intro m28 em28
        have z29 := zqy_t z27 (zqy_u em28 (Or.inl (by decide)) (Or.inl ⟨by decide, by decide⟩))
        have : m28.1 1 ((4 : Nat) : Int) = m26.1 1 ((4 : Nat) : Int) := by rw [em28]; exact congrFun (zu_ne (show (1 : Nat) ≠ 52 by omega)) _
        refine ⟨(xk_X0_below 41), xm_X0_belowN hg 41 d (by omega), _, _, _, rfl, ⟨by omega, by omega⟩, ⟨by omega, by omega⟩, ⟨by omega, by omega⟩, (by omega), ?_⟩
        intro x30 m31 qm31 kx30 lx30
        have z32 := zqy_t z29 (zqy_0 qm31)
        have : m31.1 1 ((4 : Nat) : Int) = m28.1 1 ((4 : Nat) : Int) ∨ m31.1 1 ((4 : Nat) : Int) = 0 := qm31.1.1.2.2.2.1
        exact And.intro trivial (And.intro ⟨by omega, by omega⟩ (hQ _ _ z32 (by omega) (by omega) (by omega) (by omega) ⟨xF, lF, FQ, by rw [qm31.2 0 (by decide), em28, zu_ne (by decide), qm26.2 0 (by decide), qm19.2 0 (by decide), qm14.2 0 (by decide), em9, zu_at, hx8]; exact FE⟩))
      · intro x33 hx33 kx33 lx33
        intro x34 hx34 kx34 lx34
        exact And.intro trivial (And.intro ⟨by omega, by omega⟩ (hQ _ _ z10 (by omega) (by omega) (by omega) (by omega) ⟨xF, lF, FQ, by rw [em9, zu_at, hx8]; exact FE⟩))
    · exact hT11 (by omega)
