/-! ### the row of what is ABOVE: methods -/
def yk_X1_write : zC := fun As μ Q => ∃ (t : Nat) (a1 : Int) (c : Nat), As = [.inr (.inr (t, 26)), .inl a1] ∧ (t = 26 ∨ t = 44) ∧ ((-2147483648) ≤ a1 ∧ a1 ≤ 2147483647) ∧ (yCo μ t c) ∧ (μ.1 t ((6 : Nat) : Int) + 1 ≤ μ.2 c) ∧ (∀ (μ' : zM), zl0 μ μ' → (yAp μ μ' t c [a1]) → Q none μ')
set_option maxHeartbeats 4000000 in
theorem ym_X1_write {g : zΓ} (hg : zg g) (d : Nat) (hd : 1 ≤ d) : zOk g d 28 yk_X1_write := by
  obtain ⟨d, rfl⟩ : ∃ d', d = d' + 1 := ⟨d - 1, by omega⟩
  refine zOk_straight hg (show mt_tab[28]? = some mt_X1_write from rfl) [] 27 rfl fun As μ Q hC => ?_
  obtain ⟨t, a1, c, rfl, ht, ha1, hp0, hp1, hQ⟩ := hC
  refine ⟨rfl, ?_⟩
  have z0 : zl0 μ μ := zl0_r μ
  refine And.intro ht ?_
  intro x1 hx1 kx1 lx1
  refine And.intro ⟨by omega, by omega⟩ (And.intro (fun c2 => ?_) (fun c2 => ?_))
  · exfalso; omega
  · refine And.intro ht ?_
    intro x3 hx3 kx3 lx3
    refine And.intro ht ?_
    intro t4 et4 ht4
    have E1 : t4 = c := by have h0 := hp0.1.1; omega
    subst E1
    refine And.intro ht4.1 ?_
    intro x5 hx5 kx5 lx5
    refine And.intro ⟨⟨by omega, by omega⟩, ⟨by omega, by omega⟩⟩ (And.intro (fun c6 => ?_) (fun c6 => ?_))
    · exfalso; omega
    · refine And.intro ht ?_
      intro t7 et7 ht7
      have qt7 : t4 = t7 := by omega
      subst qt7
      refine And.intro ht ?_
      intro x8 hx8 kx8 lx8
      refine And.intro ht4.1 ?_
      refine And.intro ⟨by omega, by omega⟩ (And.intro ⟨by omega, by omega⟩ ?_)
      intro m9 em9
      have z10 := zl0_t z0 (zl0_d em9 ht4.1)
      have : m9.1 t ((6 : Nat) : Int) = μ.1 t ((6 : Nat) : Int) := by rw [em9]; exact congrFun (zu_ne (show (t : Nat) ≠ t4 by have := ht4.1.1; omega)) _
      refine And.intro ht ?_
      intro x11 hx11 kx11 lx11
      refine And.intro ht ?_
      refine And.intro ⟨by omega, by omega⟩ ?_
      intro m12 em12
      have z13 := zl0_t z10 (zl0_f em12 ht (by decide) (Or.inr (by decide)))
      have : m12.1 t ((6 : Nat) : Int) = (x11 + 1) := by rw [em12]; exact zu_at
      exact And.intro rfl (hQ _ z13 (yAp_1 hp0 (by omega) em9 (by omega) em12))
def yk_X1_startArgs : zC := fun As μ Q => ∃ (t : Nat), As = [.inr (.inr (t, 26))] ∧ (t = 26 ∨ t = 44) ∧ (∀ (μ' : zM), zl0 μ μ' → (μ' = zu μ t ((4 : Nat) : Int) 0) → Q none μ')
set_option maxHeartbeats 4000000 in
theorem ym_X1_startArgs {g : zΓ} (hg : zg g) (d : Nat) (hd : 1 ≤ d) : zOk g d 19 yk_X1_startArgs := by
  obtain ⟨d, rfl⟩ : ∃ d', d = d' + 1 := ⟨d - 1, by omega⟩
  refine zOk_straight hg (show mt_tab[19]? = some mt_X1_startArgs from rfl) [] 9 rfl fun As μ Q hC => ?_
  obtain ⟨t, rfl, ht, hQ⟩ := hC
  refine ⟨rfl, ?_⟩
  have z0 : zl0 μ μ := zl0_r μ
  refine And.intro ht ?_
  refine And.intro ⟨by omega, by omega⟩ ?_
  intro m1 em1
  have z2 := zl0_t z0 (zl0_f em1 ht (by decide) (Or.inr (by decide)))
  exact And.intro rfl (hQ _ z2 em1)
def yk_X1_addArg : zC := fun As μ Q => ∃ (t : Nat) (a1 : Int) (a2 : Int), As = [.inr (.inr (t, 26)), .inl a1, .inl a2] ∧ (t = 26 ∨ t = 44) ∧ (0 ≤ a1 ∧ a1 ≤ 300) ∧ (0 ≤ a2 ∧ a2 ≤ 300) ∧ (0 ≤ μ.1 t ((4 : Nat) : Int) ∧ μ.1 t ((4 : Nat) : Int) ≤ 3) ∧ (∀ (μ' : zM), zl0 μ μ' → (μ' = yarM μ t a1 a2) → Q none μ')
set_option maxHeartbeats 4000000 in
theorem ym_X1_addArg {g : zΓ} (hg : zg g) (d : Nat) (hd : 2 ≤ d) : zOk g d 20 yk_X1_addArg := by
  obtain ⟨d, rfl⟩ : ∃ d', d = d' + 1 := ⟨d - 1, by omega⟩
  refine zOk_straight hg (show mt_tab[20]? = some mt_X1_addArg from rfl) [] 24 rfl fun As μ Q hC => ?_
  obtain ⟨t, a1, a2, rfl, ht, ha1, ha2, hp0, hQ⟩ := hC
  refine ⟨rfl, ?_⟩
  have z0 : zl0 μ μ := zl0_r μ
  refine And.intro ht ?_
  refine And.intro ht ?_
  intro x1 hx1 kx1 lx1
  refine ⟨yk_X8_set, ym_X8_set hg d (by omega), _, _, _, _, rfl, ⟨by omega, by omega⟩, ?_⟩
  refine And.intro (zfa (o := 3) (y2 := 29) ht rfl) ?_
  refine And.intro ⟨by omega, by omega⟩ (And.intro ⟨by omega, by omega⟩ ?_)
  intro m2 qm2 em2
  have z3 := zl0_t z0 ⟨qm2, by rw [em2]; rfl⟩
  have : m2.1 t ((4 : Nat) : Int) = μ.1 t ((4 : Nat) : Int) := by rw [em2]; exact congrFun (zu_ne (show (t : Nat) ≠ (t + 3) by omega)) _
  refine And.intro ht ?_
  refine And.intro ht ?_
  intro x4 hx4 kx4 lx4
  refine ⟨yk_X8_set, ym_X8_set hg d (by omega), _, _, _, _, rfl, ⟨by omega, by omega⟩, ?_⟩
  refine And.intro (zfa (o := 4) (y2 := 30) ht rfl) ?_
  refine And.intro ⟨by omega, by omega⟩ (And.intro ⟨by omega, by omega⟩ ?_)
  intro m5 qm5 em5
  have z6 := zl0_t z3 ⟨qm5, by rw [em5]; rfl⟩
  have : m5.1 t ((4 : Nat) : Int) = m2.1 t ((4 : Nat) : Int) := by rw [em5]; exact congrFun (zu_ne (show (t : Nat) ≠ (t + 4) by omega)) _
  refine And.intro ht ?_
  intro x7 hx7 kx7 lx7
  refine And.intro ht ?_
  refine And.intro ⟨by omega, by omega⟩ ?_
  intro m8 em8
  have z9 := zl0_t z6 (zl0_f em8 ht (by decide) (Or.inr (by decide)))
  have : m8.1 t ((4 : Nat) : Int) = (x7 + 1) := by rw [em8]; exact zu_at
  exact And.intro rfl (hQ _ z9 (by unfold yarM; rw [em8, em5, em2, show x1 = μ.1 t ((4 : Nat) : Int) by omega, show x4 = μ.1 t ((4 : Nat) : Int) by omega, show x7 = μ.1 t ((4 : Nat) : Int) by omega]))
def yk_X1_writeArg : zC := fun As μ Q => ∃ (t : Nat) (a1 : Int) (a2 : Nat) (c : Nat) (l : List Int) (σ : Int), As = [.inr (.inr (t, 26)), .inl a1, .inr (.inr (a2, 25))] ∧ (t = 26 ∨ t = 44) ∧ (0 ≤ a1 ∧ a1 ≤ 3) ∧ (a2 = 25 ∨ a2 = 43) ∧ (yCo μ t c) ∧ (μ.1 t ((6 : Nat) : Int) + l.length ≤ μ.2 c) ∧ (μ.1 (Nat.add t 3) a1 = σ ∧ μ.1 (Nat.add t 4) a1 = (l.length : Int)) ∧ (yTo μ a2 σ 300 l) ∧ (∀ (μ' : zM), zl0 μ μ' → (yAp μ μ' t c l) → Q none μ')
set_option maxHeartbeats 4000000 in
theorem ym_X1_writeArg {g : zΓ} (hg : zg g) (d : Nat) (hd : 2 ≤ d) : zOk g d 25 yk_X1_writeArg := by
  obtain ⟨d, rfl⟩ : ∃ d', d = d' + 1 := ⟨d - 1, by omega⟩
  refine zOk_loop hg (show mt_tab[25]? = some mt_X1_writeArg from rfl) ([(24, [0, 2, 4, 5])], []) 30 rfl fun As μ Q hC => ?_
  obtain ⟨t, a1, a2, c, l, σ, rfl, ht, ha1, ha2, hp0, hp1, hp2, hp3, hQ⟩ := hC
  have z0 : zl0 μ μ := zl0_r μ
  refine ⟨rfl, fun pc vs μ' n => ∃ (v4 : Int) (v5 : Int), vs = [.inr (.inr (t, 26)), .inr (.inr (a2, 25)), .inl v4, .inl v5] ∧ zl0 μ μ' ∧ (0 ≤ v4 ∧ v4 ≤ 300) ∧ (0 ≤ v5 ∧ v5 ≤ 301) ∧ (v4 = σ + l.length ∧ σ ≤ v5 ∧ v5 ≤ v4) ∧ (yAp μ μ' t c (l.take (v5 - σ).toNat)) ∧ n = (Int.toNat (2147483648 - v5)), ?_, ?_, trivial⟩
  · refine And.intro ht ?_
    refine ⟨zk_X8_at, zm_X8_at hg d (by omega), _, _, _, rfl, ⟨by omega, by omega⟩, ?_⟩
    refine And.intro (zfa (o := 3) (y2 := 29) ht rfl) ?_
    intro x1 kx1 lx1 fx1 gx1
    have hx1 : x1 = μ.1 (Nat.add t 3) a1 := (fx1 ⟨by omega, by omega⟩).1
    have ix1 := (fx1 ⟨by omega, by omega⟩).2
    have A1 := hp2.1
    have A2 := hp3.1
    have A3 := hp3.2.1
    refine And.intro ht ?_
    refine ⟨zk_X8_at, zm_X8_at hg d (by omega), _, _, _, rfl, ⟨by omega, by omega⟩, ?_⟩
    refine And.intro (zfa (o := 4) (y2 := 30) ht rfl) ?_
    intro x2 kx2 lx2 fx2 gx2
    have hx2 : x2 = μ.1 (Nat.add t 4) a1 := (fx2 ⟨by omega, by omega⟩).1
    have ix2 := (fx2 ⟨by omega, by omega⟩).2
    refine Exists.intro (Int.toNat (2147483648 - x1)) ?_
    exact ⟨_, _, rfl, z0, ⟨by omega, by omega⟩, ⟨by omega, by omega⟩, (by omega), (by rw [show (x1 - σ).toNat = 0 by omega]; exact yAp_r μ t c), rfl⟩
  · intro vs m0 n hI
    clear z0
    obtain ⟨v4, v5, rfl, z0, hv4, hv5, i0, i1, rfl⟩ := hI
    refine And.intro ⟨⟨by omega, by omega⟩, ⟨by omega, by omega⟩⟩ (And.intro (fun c3 => ?_) (fun c3 => ?_))
    · exact And.intro rfl (hQ _ z0 (by have h0 := i1; rw [ytk_all (by omega)] at h0; exact h0))
    · refine ⟨zk_X8_at, zm_X8_at hg d (by omega), _, _, _, rfl, ⟨by omega, by omega⟩, ?_⟩
      refine And.intro ha2 ?_
      intro x4 kx4 lx4 fx4 gx4
      have hx4 : x4 = m0.1 a2 v5 := (fx4 ⟨by omega, by omega⟩).1
      have ix4 := (fx4 ⟨by omega, by omega⟩).2
      refine And.intro ht ⟨yk_X1_write, ym_X1_write hg d (by omega), _, _, _, rfl, ht, ⟨by omega, by omega⟩, (yAp_co i1 hp0), (by rw [i1.2.2.1, i1.2.2.2.2.2, List.length_take]; omega), ?_⟩
      intro m5 qm5 p6
      have z7 := zl0_t z0 qm5
      refine Exists.intro (Int.toNat (2147483648 - (v5 + 1))) (And.intro (by omega) ?_)
      exact ⟨_, _, rfl, z7, ⟨by omega, by omega⟩, ⟨by omega, by omega⟩, (by omega), (yAp_n i1 hp3 (by omega) (by omega) ⟨by omega, by have := hp0.1.2; omega⟩ hx4 p6), rfl⟩
def yk_X1_sizeWithArgs : zC := fun As μ Q => ∃ (t : Nat) (a1 : Int) (a2 : Int) (c : Nat) (l : List Int) (σ : Int) (as : List (List Int)) (q : Nat), As = [.inr (.inr (t, 26)), .inl a1, .inl a2] ∧ (t = 26 ∨ t = 44) ∧ (0 ≤ a1 ∧ a1 ≤ 440) ∧ (0 ≤ a2 ∧ a2 ≤ 80) ∧ (yCo μ t c) ∧ (μ.1 (Nat.add t 1) a1 = σ ∧ μ.1 (Nat.add t 2) a1 = (l.length : Int)) ∧ (yTo μ c σ (μ.2 c) l) ∧ (yAs μ t q as) ∧ (l.length ≤ 200 ∧ σ + l.length ≤ 88400) ∧ (yVl a2 as l) ∧ (∀ (v : Int), 0 ≤ v → v ≤ 60000 → (v = ((ysub a2 as l).length : Int)) → Q (some (.inl v)) μ)
set_option maxHeartbeats 4000000 in
theorem ym_X1_sizeWithArgs {g : zΓ} (hg : zg g) (d : Nat) (hd : 2 ≤ d) : zOk g d 24 yk_X1_sizeWithArgs := by
  obtain ⟨d, rfl⟩ : ∃ d', d = d' + 1 := ⟨d - 1, by omega⟩
  refine zOk_loop hg (show mt_tab[24]? = some mt_X1_sizeWithArgs from rfl) ([(31, [0, 2, 3, 4, 5])], []) 50 rfl fun As μ Q hC => ?_
  obtain ⟨t, a1, a2, c, l, σ, as, q, rfl, ht, ha1, ha2, hp0, hp1, hp2, hp3, hp4, hp5, hQ⟩ := hC
  refine ⟨rfl, fun pc vs μ' n => ∃ (v2 : Int) (v3 : Int) (v4 : Int) (v5 : Int), vs = [.inr (.inr (t, 26)), .inl v2, .inl v3, .inl v4, .inl v5] ∧ μ' = μ ∧ (0 ≤ v2 ∧ v2 ≤ 80) ∧ (0 ≤ v3 ∧ v3 ≤ 60000) ∧ (0 ≤ v4 ∧ v4 ≤ 88400) ∧ (0 ≤ v5 ∧ v5 ≤ 88401) ∧ (v4 = σ + l.length ∧ σ ≤ v5 ∧ v5 ≤ v4 ∧ v2 = a2) ∧ (v3 = ((ysub a2 as (l.take (v5 - σ).toNat)).length : Int)) ∧ n = (Int.toNat (2147483648 - v5)), ?_, ?_, trivial⟩
  · refine And.intro ht ?_
    refine ⟨zk_X8_at, zm_X8_at hg d (by omega), _, _, _, rfl, ⟨by omega, by omega⟩, ?_⟩
    refine And.intro (zfa (o := 1) (y2 := 27) ht rfl) ?_
    intro x1 kx1 lx1 fx1 gx1
    have hx1 : x1 = μ.1 (Nat.add t 1) a1 := (fx1 ⟨by omega, by omega⟩).1
    have ix1 := (fx1 ⟨by omega, by omega⟩).2
    have A1 := hp1.1
    have A2 := hp1.2
    have A3 := hp2.1
    have A4 := hp2.2.1
    have A5 := hp4.2
    refine And.intro ht ?_
    refine ⟨zk_X8_at, zm_X8_at hg d (by omega), _, _, _, rfl, ⟨by omega, by omega⟩, ?_⟩
    refine And.intro (zfa (o := 2) (y2 := 28) ht rfl) ?_
    intro x2 kx2 lx2 fx2 gx2
    have hx2 : x2 = μ.1 (Nat.add t 2) a1 := (fx2 ⟨by omega, by omega⟩).1
    have ix2 := (fx2 ⟨by omega, by omega⟩).2
    refine And.intro ht ?_
    refine ⟨zk_X8_at, zm_X8_at hg d (by omega), _, _, _, rfl, ⟨by omega, by omega⟩, ?_⟩
    refine And.intro (zfa (o := 1) (y2 := 27) ht rfl) ?_
    intro x3 kx3 lx3 fx3 gx3
    have hx3 : x3 = μ.1 (Nat.add t 1) a1 := (fx3 ⟨by omega, by omega⟩).1
    have ix3 := (fx3 ⟨by omega, by omega⟩).2
    refine Exists.intro (Int.toNat (2147483648 - x3)) ?_
    exact ⟨_, _, _, _, rfl, rfl, ⟨by omega, by omega⟩, ⟨by omega, by omega⟩, ⟨by omega, by omega⟩, ⟨by omega, by omega⟩, (by omega), (by rw [show (x3 - σ).toNat = 0 by omega]; rfl), rfl⟩
  · intro vs m0 n hI
    obtain ⟨v2, v3, v4, v5, rfl, em0, hv2, hv3, hv4, hv5, i0, i1, rfl⟩ := hI
    replace em0 := em0.symm
    subst em0
    refine And.intro ⟨⟨by omega, by omega⟩, ⟨by omega, by omega⟩⟩ (And.intro (fun c4 => ?_) (fun c4 => ?_))
    · exact And.intro trivial (And.intro ⟨by omega, by omega⟩ (hQ _ (by omega) (by omega) (by have h0 := i1; rw [ytk_all (by omega)] at h0; exact h0)))
    · refine And.intro ht ?_
      intro t5 et5 ht5
      have E1 : t5 = c := by have h0 := hp0.1.1; omega
      subst E1
      have A4 := hp2.2.1
      have A1 := hp2.1
      refine ⟨zk_X8_at, zm_X8_at hg d (by omega), _, _, _, rfl, ⟨by omega, by omega⟩, ?_⟩
      refine And.intro ht5.1 ?_
      intro n6 hn6 kn6 ln6
      intro x7 kx7 lx7 fx7 gx7
      have hx7 : x7 = μ.1 t5 v5 := (fx7 ⟨by omega, by omega⟩).1
      have ix7 := (fx7 ⟨by omega, by omega⟩).2
      have HX : x7 = l.getD (v5 - σ).toNat 0 := by rw [hx7]; exact yRow_v hp2.2.2 (by omega) (by omega)
      have HM : x7 ∈ l := by rw [HX]; exact ytk_m (by omega) (by omega)
      have SI := ysub_i (f := a2) (as := as) (l := l) (v := v5) (s := σ) (by omega) (by omega)
      rw [← HX] at SI
      refine ⟨yk_X8_isParameter, ym_X8_isParameter hg d (by omega), _, rfl, ⟨by omega, by omega⟩, ?_⟩
      intro x8 kx8 lx8 p9
      refine And.intro ⟨by omega, by omega⟩ (And.intro (fun c10 => ?_) (fun c10 => ?_))
      · have bc10 := yp0 p9 c10
        have SS : (ysub a2 as (l.take (v5 + 1 - σ).toNat)).length = (ysub a2 as (l.take (v5 - σ).toNat)).length + 1 := by rw [SI, List.length_append]; unfold ys1; rw [if_neg bc10]; rfl
        have SB := ysub_B (f := a2) (yAs_B hp3) (l.take (v5 + 1 - σ).toNat)
        rw [List.length_take] at SB
        refine Exists.intro (Int.toNat (2147483648 - (v5 + 1))) (And.intro (by omega) ?_)
        exact ⟨_, _, _, _, rfl, rfl, ⟨by omega, by omega⟩, ⟨by omega, by omega⟩, ⟨by omega, by omega⟩, ⟨by omega, by omega⟩, (by omega), (by omega), rfl⟩
      · have bc10 := yp1 p9 c10
        have HV := hp5 x7 HM (by omega) (by omega)
        have H4 := hp3.1
        have HL := yAs_l hp3 HV.1 HV.2
        refine And.intro ht ?_
        refine ⟨zk_X8_at, zm_X8_at hg d (by omega), _, _, _, rfl, ⟨by omega, by omega⟩, ?_⟩
        refine And.intro (zfa (o := 4) (y2 := 30) ht rfl) ?_
        intro x11 kx11 lx11 fx11 gx11
        have hx11 : x11 = μ.1 (Nat.add t 4) ((x7 - 32) - v2) := (fx11 ⟨by omega, by omega⟩).1
        have ix11 := (fx11 ⟨by omega, by omega⟩).2
        have SS : ((ysub a2 as (l.take (v5 + 1 - σ).toNat)).length : Int) = (ysub a2 as (l.take (v5 - σ).toNat)).length + x11 := by rw [SI, List.length_append]; unfold ys1; rw [if_pos bc10, hx11, show v2 = a2 by omega, HL.1]; omega
        have SB := ysub_B (f := a2) (yAs_B hp3) (l.take (v5 + 1 - σ).toNat)
        rw [List.length_take] at SB
        refine Exists.intro (Int.toNat (2147483648 - (v5 + 1))) (And.intro (by omega) ?_)
        exact ⟨_, _, _, _, rfl, rfl, ⟨by omega, by omega⟩, ⟨by omega, by omega⟩, ⟨by omega, by omega⟩, ⟨by omega, by omega⟩, (by omega), (by omega), rfl⟩
def yk_X1_isSame : zC := fun As μ Q => ∃ (t : Nat) (a1 : Int) (a2 : Int) (a3 : Int) (a4 : Int) (c : Nat) (l : List Int) (r : List Int), As = [.inr (.inr (t, 26)), .inl a1, .inl a2, .inl a3, .inl a4] ∧ (t = 26 ∨ t = 44) ∧ (0 ≤ a1 ∧ a1 ≤ 88400) ∧ (0 ≤ a2 ∧ a2 ≤ 200) ∧ (0 ≤ a3 ∧ a3 ≤ 88400) ∧ (0 ≤ a4 ∧ a4 ≤ 200) ∧ (yCo μ t c) ∧ (yTo μ c a1 (μ.2 c) l) ∧ (yTo μ c a3 (μ.2 c) r) ∧ (a2 = (l.length : Int)) ∧ (a4 = (r.length : Int)) ∧ (∀ (v : Int), 0 ≤ v → v ≤ 1 → ((v = 1 ∧ (l = r)) ∨ (v = 0 ∧ ¬ (l = r))) → Q (some (.inl v)) μ)
set_option maxHeartbeats 4000000 in
theorem ym_X1_isSame {g : zΓ} (hg : zg g) (d : Nat) (hd : 2 ≤ d) : zOk g d 26 yk_X1_isSame := by
  obtain ⟨d, rfl⟩ : ∃ d', d = d' + 1 := ⟨d - 1, by omega⟩
  refine zOk_loop hg (show mt_tab[26]? = some mt_X1_isSame from rfl) ([(11, [0, 1, 2, 3, 5])], []) 34 rfl fun As μ Q hC => ?_
  obtain ⟨t, a1, a2, a3, a4, c, l, r, rfl, ht, ha1, ha2, ha3, ha4, hp0, hp1, hp2, hp3, hp4, hQ⟩ := hC
  refine ⟨rfl, fun pc vs μ' n => ∃ (v1 : Int) (v2 : Int) (v3 : Int) (v5 : Int), vs = [.inr (.inr (t, 26)), .inl v1, .inl v2, .inl v3, .inl v5] ∧ μ' = μ ∧ (0 ≤ v1 ∧ v1 ≤ 88400) ∧ (0 ≤ v2 ∧ v2 ≤ 200) ∧ (0 ≤ v3 ∧ v3 ≤ 88400) ∧ (0 ≤ v5 ∧ v5 ≤ 201) ∧ (v1 = a1 ∧ v2 = a2 ∧ v3 = a3 ∧ a2 = a4 ∧ v5 ≤ a2) ∧ (l.take v5.toNat = r.take v5.toNat) ∧ n = (Int.toNat (2147483648 - v5)), ?_, ?_, trivial⟩
  · have A0 := hp1.1
    have A1 := hp1.2.1
    have A2 := hp2.1
    have A3 := hp2.2.1
    have A4 := hp3
    have A5 := hp4
    refine And.intro ⟨⟨by omega, by omega⟩, ⟨by omega, by omega⟩⟩ (And.intro (fun c1 => ?_) (fun c1 => ?_))
    · refine Exists.intro (Int.toNat (2147483648 - 0)) ?_
      exact ⟨_, _, _, _, rfl, rfl, ⟨by omega, by omega⟩, ⟨by omega, by omega⟩, ⟨by omega, by omega⟩, ⟨by omega, by omega⟩, (by omega), rfl, rfl⟩
    · exact And.intro (zrtb (by omega)) (And.intro ⟨by omega, by omega⟩ (hQ _ (by omega) (by omega) (Or.inr ⟨rfl, fun h0 => by rw [h0] at hp3; omega⟩)))
  · intro vs m0 n hI
    obtain ⟨v1, v2, v3, v5, rfl, em0, hv1, hv2, hv3, hv5, i0, i1, rfl⟩ := hI
    replace em0 := em0.symm
    subst em0
    refine And.intro ⟨⟨by omega, by omega⟩, ⟨by omega, by omega⟩⟩ (And.intro (fun c2 => ?_) (fun c2 => ?_))
    · exact And.intro (zrtb (by omega)) (And.intro ⟨by omega, by omega⟩ (hQ _ (by omega) (by omega) (Or.inl ⟨rfl, by have h0 := i1; rw [List.take_of_length_le (by omega), List.take_of_length_le (by omega)] at h0; exact h0⟩)))
    · refine And.intro ht ?_
      intro t3 et3 ht3
      have E21 : t3 = c := by have h0 := hp0.1.1; omega
      subst E21
      have A1 := hp1.2.1
      have A3 := hp2.2.1
      refine ⟨zk_X8_at, zm_X8_at hg d (by omega), _, _, _, rfl, ⟨by omega, by omega⟩, ?_⟩
      refine And.intro ht3.1 ?_
      intro n4 hn4 kn4 ln4
      intro x5 kx5 lx5 fx5 gx5
      have hx5 : x5 = μ.1 t3 (v1 + v5) := (fx5 ⟨by omega, by omega⟩).1
      have ix5 := (fx5 ⟨by omega, by omega⟩).2
      refine And.intro ht ?_
      intro t6 et6 ht6
      have qt6 : t3 = t6 := by omega
      subst qt6
      refine ⟨zk_X8_at, zm_X8_at hg d (by omega), _, _, _, rfl, ⟨by omega, by omega⟩, ?_⟩
      refine And.intro ht3.1 ?_
      intro n7 hn7 kn7 ln7
      intro x8 kx8 lx8 fx8 gx8
      have hx8 : x8 = μ.1 t3 (v3 + v5) := (fx8 ⟨by omega, by omega⟩).1
      have ix8 := (fx8 ⟨by omega, by omega⟩).2
      obtain ⟨j1, j2, j3, j4, j5⟩ := i0
      subst j1
      subst j3
      have X1 : x5 = l.getD (v1 + v5 - v1).toNat 0 := by rw [hx5]; exact yRow_v hp1.2.2 (by omega) (by omega)
      have X2 : x8 = r.getD (v3 + v5 - v3).toNat 0 := by rw [hx8]; exact yRow_v hp2.2.2 (by omega) (by omega)
      rw [show (v1 + v5 - v1).toNat = v5.toNat by omega] at X1
      rw [show (v3 + v5 - v3).toNat = v5.toNat by omega] at X2
      refine And.intro ⟨⟨by omega, by omega⟩, ⟨by omega, by omega⟩⟩ (And.intro (fun c9 => ?_) (fun c9 => ?_))
      · refine Exists.intro (Int.toNat (2147483648 - (v5 + 1))) (And.intro (by omega) ?_)
        exact ⟨_, _, _, _, rfl, rfl, ⟨by omega, by omega⟩, ⟨by omega, by omega⟩, ⟨by omega, by omega⟩, ⟨by omega, by omega⟩, (by omega), (by rw [show (v5 + 1).toNat = v5.toNat + 1 by omega, ytk (by omega), ytk (by omega), i1, ← X1, ← X2]; congr 2), rfl⟩
      · exact And.intro (zrtb (by omega)) (And.intro ⟨by omega, by omega⟩ (hQ _ (by omega) (by omega) (Or.inr ⟨rfl, fun h0 => by rw [h0] at X1; omega⟩)))
