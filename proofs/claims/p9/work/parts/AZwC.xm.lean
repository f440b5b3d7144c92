/-! ### feed: the tables stay -/
def wk_X5_append : zC := fun As μ Q => ∃ (a1 : Int64) (a2 : Int), As = [.inr (.inr (1, 1)), .inr (.inl a1), .inl a2] ∧ (1 ≤ a2 ∧ a2 ≤ 8) ∧ (μ.1 1 ((4 : Nat) : Int) + a2 ≤ 800) ∧ (0 ≤ μ.1 1 ((4 : Nat) : Int)) ∧ (∀ (μ' : zM), zf0 μ μ' → (μ'.1 1 ((4 : Nat) : Int) = μ.1 1 ((4 : Nat) : Int) + a2) → (μ'.1 2 = rtp (μ.1 2) (μ.1 1 ((4 : Nat) : Int)) (μ.1 1 ((4 : Nat) : Int) + a2) (μ.1 1 ((4 : Nat) : Int) + a2 - 1) (cby a1)) → (∀ j : Nat, j ≠ 1 → j ≠ 2 → μ'.1 j = μ.1 j) → Q none μ')
set_option maxHeartbeats 4000000 in
theorem wm_X5_append {g : zΓ} (hg : zg g) (d : Nat) (hd : 2 ≤ d) : zOk g d 71 wk_X5_append := by
  obtain ⟨d, rfl⟩ : ∃ d', d = d' + 1 := ⟨d - 1, by omega⟩
  refine zOk_loop hg (show mt_tab[71]? = some mt_X5_append from rfl) ([(5, [0, 1, 4])], []) 33 rfl fun As μ Q hC => ?_
  obtain ⟨a1, a2, rfl, ha2, hp0, hp1, hQ⟩ := hC
  have z0 : zf0 μ μ := zf0_r μ
  refine ⟨rfl, fun pc vs μ' n => ∃ (v1 : Int64) (v4 : Int), vs = [.inr (.inr (1, 1)), .inr (.inl v1), .inl v4] ∧ zf0 μ μ' ∧ ((-1) ≤ v4 ∧ v4 ≤ 7) ∧ (μ'.1 1 ((4 : Nat) : Int) + v4 + 1 = μ.1 1 ((4 : Nat) : Int) + a2) ∧ (v1 = a1 ∧ v4 ≤ a2 - 1) ∧ (μ'.1 2 = rtp (μ.1 2) (μ.1 1 ((4 : Nat) : Int)) (μ'.1 1 ((4 : Nat) : Int)) (μ.1 1 ((4 : Nat) : Int) + a2 - 1) (cby a1)) ∧ (∀ j : Nat, j ≠ 1 → j ≠ 2 → μ'.1 j = μ.1 j) ∧ n = (Int.toNat (v4 + 1)), ?_, ?_, trivial⟩
  · refine Exists.intro (Int.toNat ((a2 - 1) + 1)) ?_
    exact ⟨_, _, rfl, z0, ⟨by omega, by omega⟩, (by omega), ⟨rfl, by omega⟩, rtp_0 _ _ _ _, (fun _ _ _ => rfl), rfl⟩
  · intro vs m0 n hI
    clear z0
    obtain ⟨v1, v4, rfl, z0, hv4, i0, i1, i2, i3, rfl⟩ := hI
    refine And.intro ⟨by omega, by omega⟩ (And.intro (fun c1 => ?_) (fun c1 => ?_))
    · exact And.intro rfl (hQ _ z0 (by omega) (by rw [i2, show m0.1 1 ((4 : Nat) : Int) = μ.1 1 ((4 : Nat) : Int) + a2 by omega]) i3)
    · intro x2 hx2 kx2 lx2
      intro x3 hx3 kx3 lx3
      intro x4 hx4 kx4 lx4
      refine ⟨yk_X8_set, ym_X8_set hg d (by omega), _, _, _, _, rfl, ⟨by omega, by omega⟩, ?_⟩
      refine And.intro ⟨by omega, by omega⟩ (And.intro ⟨by omega, by omega⟩ ?_)
      intro m5 qm5 em5
      have z6 := zf0_t z0 ⟨zle_lf qm5, by rw [em5]; rfl⟩
      have L5 : m5.1 1 ((4 : Nat) : Int) = m0.1 1 ((4 : Nat) : Int) := by rw [em5, zu_ne (by decide)]
      have B5 := rtp_s i2 em5 (by omega) (by rw [hx4, hx3, show μ.1 1 ((4 : Nat) : Int) + a2 - 1 - m0.1 1 ((4 : Nat) : Int) = v4 by omega, i1.1]; rfl) (by omega)
      intro x7 hx7 kx7 lx7
      refine And.intro ⟨by omega, by omega⟩ ?_
      intro m8 em8
      have z9 := zf0_t z6 (zf0_u em8 (Or.inl (by decide)) (Or.inl ⟨by decide, by decide⟩))
      have L8 : m8.1 1 ((4 : Nat) : Int) = (x7 + 1) := by rw [em8]; exact zu_at
      have B8 : m8.1 2 = m5.1 2 := by rw [em8, zu_ne (by decide)]
      refine Exists.intro (Int.toNat ((v4 + (-1)) + 1)) (And.intro (by omega) ?_)
      exact ⟨_, _, rfl, z9, ⟨by omega, by omega⟩, (by omega), ⟨i1.1, by omega⟩, (by rw [B8, L8, show x7 + 1 = m0.1 1 ((4 : Nat) : Int) + 1 by omega]; exact B5), (fun j a b => by rw [em8, zu_ne a, em5, zu_ne b]; exact i3 j a b), rfl⟩
def wt_X8_feed (As : List zV) (μ : zM) (Q : Option zV → zM → Prop) (T : Nat → zM → Prop) : Prop := ∃ (a1 : Int64) (a2 : Int), As = [.inr (.inr (0, 0)), .inr (.inl a1), .inl a2] ∧ ((-2147483648) ≤ a2 ∧ a2 ≤ 2147483647) ∧ (0 ≤ μ.1 1 ((4 : Nat) : Int)) ∧ (∀ (v : Int) (μ' : zM), zf0 μ μ' → (-2147483648) ≤ v → v ≤ 2147483647 → (μ'.1 1 ((4 : Nat) : Int) = μ.1 1 ((4 : Nat) : Int) + a2) → (1 ≤ a2 ∧ a2 ≤ 8 ∧ μ.1 1 ((4 : Nat) : Int) + a2 ≤ 800) → (μ'.1 2 = rtp (μ.1 2) (μ.1 1 ((4 : Nat) : Int)) (μ.1 1 ((4 : Nat) : Int) + a2) (μ.1 1 ((4 : Nat) : Int) + a2 - 1) (cby a1)) → (∀ j : Nat, j ≠ 1 → j ≠ 2 → μ'.1 j = μ.1 j) → Q (some (.inl v)) μ') ∧ ((a2 < 1 ∨ 8 < a2) → T 11 μ) ∧ ((1 ≤ a2 ∧ a2 ≤ 8 ∧ 800 < μ.1 1 ((4 : Nat) : Int) + a2) → T 36 μ)
set_option maxHeartbeats 4000000 in
theorem wx_X8_feed {g : zΓ} (hg : zg g) (d : Nat) (hd : 3 ≤ d) {As : List zV} {μ : zM} {Q : Option zV → zM → Prop} {T : Nat → zM → Prop} {w : mW} (hw : zRep μ w) (hr : ∀ v ∈ As, zrf v) (hC : wt_X8_feed As μ Q T) : Nat.ble (zsum As) mt_X8_feed.2.2.1.1 = true ∧ zE g d mt_X8_feed none [] (fun _ _ _ => False) Q T (0, zlv (zargs 0 As), [], w) := by
  refine zx_line hg (show mt_tab[98]? = some mt_X8_feed from rfl) [] 37 rfl hw hr ?_
  obtain ⟨a1, a2, rfl, ha2, h0, hQ, hT11, hT36⟩ := hC
  refine ⟨rfl, ?_⟩
  have z0 : zf0 μ μ := zf0_r μ
  refine And.intro ⟨⟨by omega, by omega⟩, ⟨by omega, by omega⟩⟩ (And.intro (fun c1 => ?_) (fun c1 => ?_))
  · exact hT11 (by omega)
  · refine And.intro ⟨⟨by omega, by omega⟩, ⟨by omega, by omega⟩⟩ (And.intro (fun c2 => ?_) (fun c2 => ?_))
    · intro x3 hx3 kx3 lx3
      refine And.intro ⟨⟨by omega, by omega⟩, ⟨by omega, by omega⟩⟩ (And.intro (fun c4 => ?_) (fun c4 => ?_))
      · refine ⟨wk_X5_append, wm_X5_append hg d (by omega), _, _, rfl, ⟨by omega, by omega⟩, (by omega), h0, ?_⟩
        intro m5 qm5 p6 p7 p8
        have z7 := zf0_t z0 qm5
        intro x8 hx8 kx8 lx8
        exact And.intro trivial (And.intro ⟨by omega, by omega⟩ (hQ _ _ z7 (by omega) (by omega) (by omega) (by omega) p7 p8))
      · exact hT36 (by omega)
    · exact hT11 (by omega)
