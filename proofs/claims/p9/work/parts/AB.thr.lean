/-! ### calls that may throw -/
/-- a run that may end in a throw -/
theorem zx_line {g : zΓ} {d a : Nat} {M : mM} (hg : zg g) (ha : mt_tab[a]? = some M) (wl : List Nat) (fuel : Nat) (h0 : (match M.2.2.2.2.1 with | q :: _ => Nat.beq q.1 0 | [] => false) = true) {As : List zV} {μ : zM} {Q : Option zV → zM → Prop} {T : Nat → zM → Prop} {w : mW} (hw : zRep μ w) (hr : ∀ v ∈ As, zrf v)
    (key : Nat.ble (zsum As) M.2.2.1.1 = true ∧ zw (zOk g d) M ([], wl) (fun _ _ _ => False) Q T fuel false M.2.2.2.2.1 (zargs 0 As) [] μ) : Nat.ble (zsum As) M.2.2.1.1 = true ∧ zE g d M none [] (fun _ _ _ => False) Q T (0, zlv (zargs 0 As), [], w) := by
  refine ⟨key.1, ?_⟩
  obtain ⟨q, r, q1, q2⟩ := zw_ok (sc := none) (zg_go hg) (List.mem_of_getElem? (zg_at hg ha)) (fun _ _ q => q) fuel key.2 (List.suffix_refl _) hw ⟨zargs_rf hr, fun v hv => by cases hv⟩
  rw [q1] at h0
  have q3 : q.1 = 0 := Nat.eq_of_beq_eq_true h0
  rw [q3] at q2
  exact q2
def zt_X8_cls (As : List zV) (μ : zM) (Q : Option zV → zM → Prop) (T : Nat → zM → Prop) : Prop := ∃ (a1 : Int) (a2 : Int), As = [.inr (.inr (0, 0)), .inl a1, .inl a2] ∧ ((-2147483648) ≤ a1 ∧ a1 ≤ 2147483647) ∧ ((-2147483648) ≤ a2 ∧ a2 ≤ 2147483647) ∧ (∀ (v : Int64), Q (some (.inr (.inl v))) μ) ∧ (T 15 μ) ∧ (T 135 μ)
set_option maxHeartbeats 4000000 in
theorem zx_X8_cls {g : zΓ} (hg : zg g) (d : Nat) (hd : 3 ≤ d) {As : List zV} {μ : zM} {Q : Option zV → zM → Prop} {T : Nat → zM → Prop} {w : mW} (hw : zRep μ w) (hr : ∀ v ∈ As, zrf v) (hC : zt_X8_cls As μ Q T) : Nat.ble (zsum As) mt_X8_cls.2.2.1.1 = true ∧ zE g d mt_X8_cls none [] (fun _ _ _ => False) Q T (0, zlv (zargs 0 As), [], w) := by
  refine zx_line hg (show mt_tab[101]? = some mt_X8_cls from rfl) [] 63 rfl hw hr ?_
  obtain ⟨a1, a2, rfl, ha1, ha2, hQ, hT15, hT135⟩ := hC
  refine ⟨rfl, ?_⟩
  refine And.intro ⟨by omega, by omega⟩ (And.intro (fun c1 => ?_) (fun c1 => ?_))
  · exact hT15
  · intro t2 et2 ht2
    refine And.intro ht2.1 ?_
    intro x3 hx3 kx3 lx3
    refine And.intro ⟨⟨by omega, by omega⟩, ⟨by omega, by omega⟩⟩ (And.intro (fun c4 => ?_) (fun c4 => ?_))
    · refine And.intro ⟨by omega, by omega⟩ (And.intro (fun c5 => ?_) (And.intro (fun c5 => ?_) (And.intro (fun c5 => ?_) (And.intro (fun c5 => ?_) (And.intro (fun c5 => ?_) (And.intro (fun c5 => ?_) trivial))))))
      · exact hT135
      · intro t6 et6 ht6
        have qt6 : t2 = t6 := by omega
        subst qt6
        refine And.intro ht2.1 ⟨zk_X4_arity, zm_X4_arity hg d (by omega), _, _, rfl, ht2.1, ⟨by omega, by omega⟩, ?_⟩
        intro x7 kx7 lx7
        exact And.intro rfl (hQ _)
      · intro t8 et8 ht8
        have qt8 : t2 = t8 := by omega
        subst qt8
        refine And.intro ht2.1 ?_
        refine ⟨zk_X8_at, zm_X8_at hg d (by omega), _, _, _, rfl, ⟨by omega, by omega⟩, ?_⟩
        refine And.intro (zfa (o := 4) (y2 := 18) ht2.1 rfl) ?_
        intro x9 kx9 lx9 fx9 gx9
        exact And.intro rfl (hQ _)
      · intro t10 et10 ht10
        have qt10 : t2 = t10 := by omega
        subst qt10
        refine And.intro ht2.1 ⟨zk_X4_countOver, zm_X4_countOver hg d (by omega), _, _, rfl, ht2.1, ⟨by omega, by omega⟩, ?_⟩
        intro x11 kx11 lx11
        exact And.intro rfl (hQ _)
      · intro t12 et12 ht12
        have qt12 : t2 = t12 := by omega
        subst qt12
        refine And.intro ht2.1 ?_
        refine ⟨zk_X8_nameAt, zm_X8_nameAt hg d (by omega), _, _, _, rfl, ⟨by omega, by omega⟩, by decide, (zfa (o := 1) (y2 := 15) ht2.1 rfl), ?_⟩
        intro j13 hj13
        exact And.intro rfl (hQ _)
      · intro t14 et14 ht14
        have qt14 : t2 = t14 := by omega
        subst qt14
        refine And.intro ht2.1 ⟨zk_X4_arity, zm_X4_arity hg d (by omega), _, _, rfl, ht2.1, ⟨by omega, by omega⟩, ?_⟩
        intro x15 kx15 lx15
        refine And.intro ⟨by omega, by omega⟩ (And.intro (fun c16 => ?_) (fun c16 => ?_))
        · exact And.intro rfl (hQ _)
        · intro t17 et17 ht17
          have qt17 : t2 = t17 := by omega
          subst qt17
          refine And.intro ht2.1 ?_
          refine ⟨zk_X8_at, zm_X8_at hg d (by omega), _, _, _, rfl, ⟨by omega, by omega⟩, ?_⟩
          refine And.intro (zfa (o := 2) (y2 := 16) ht2.1 rfl) ?_
          intro x18 kx18 lx18 fx18 gx18
          exact And.intro rfl (hQ _)
    · exact hT15
def zt_X8_isAbove (As : List zV) (μ : zM) (Q : Option zV → zM → Prop) (T : Nat → zM → Prop) : Prop := ∃ (a1 : Int) (a2 : Int), As = [.inr (.inr (0, 0)), .inl a1, .inl a2] ∧ ((-2147483648) ≤ a1 ∧ a1 ≤ 2147483647) ∧ ((-2147483648) ≤ a2 ∧ a2 ≤ 2147483647) ∧ (∀ (v : Int), (-2147483648) ≤ v → v ≤ 2147483647 → Q (some (.inl v)) μ) ∧ (T 30 μ)
set_option maxHeartbeats 4000000 in
theorem zx_X8_isAbove {g : zΓ} (hg : zg g) (d : Nat) (hd : 2 ≤ d) {As : List zV} {μ : zM} {Q : Option zV → zM → Prop} {T : Nat → zM → Prop} {w : mW} (hw : zRep μ w) (hr : ∀ v ∈ As, zrf v) (hC : zt_X8_isAbove As μ Q T) : Nat.ble (zsum As) mt_X8_isAbove.2.2.1.1 = true ∧ zE g d mt_X8_isAbove none [] (fun _ _ _ => False) Q T (0, zlv (zargs 0 As), [], w) := by
  refine zx_line hg (show mt_tab[102]? = some mt_X8_isAbove from rfl) [] 34 rfl hw hr ?_
  obtain ⟨a1, a2, rfl, ha1, ha2, hQ, hT30⟩ := hC
  refine ⟨rfl, ?_⟩
  refine And.intro ⟨by omega, by omega⟩ (And.intro (fun c1 => ?_) (fun c1 => ?_))
  · exact hT30
  · intro t2 et2 ht2
    refine And.intro ht2.1 ?_
    intro x3 hx3 kx3 lx3
    refine And.intro ⟨⟨by omega, by omega⟩, ⟨by omega, by omega⟩⟩ (And.intro (fun c4 => ?_) (fun c4 => ?_))
    · exact hT30
    · refine And.intro ⟨by omega, by omega⟩ (And.intro (fun c5 => ?_) (fun c5 => ?_))
      · exact hT30
      · intro t6 et6 ht6
        have qt6 : t2 = t6 := by omega
        subst qt6
        refine And.intro ht2.1 ?_
        intro x7 hx7 kx7 lx7
        refine And.intro ⟨⟨by omega, by omega⟩, ⟨by omega, by omega⟩⟩ (And.intro (fun c8 => ?_) (fun c8 => ?_))
        · intro t9 et9 ht9
          have qt9 : t2 = t9 := by omega
          subst qt9
          refine And.intro ht2.1 ⟨zk_X4_overLength, zm_X4_overLength hg d (by omega), _, _, _, rfl, ht2.1, ⟨by omega, by omega⟩, ⟨by omega, by omega⟩, ?_⟩
          intro x10 kx10 lx10
          refine And.intro ⟨by omega, by omega⟩ (And.intro (fun c11 => ?_) (fun c11 => ?_))
          · exact And.intro trivial (And.intro ⟨by omega, by omega⟩ (hQ _ (by omega) (by omega)))
          · exact And.intro trivial (And.intro ⟨by omega, by omega⟩ (hQ _ (by omega) (by omega)))
        · exact hT30
def zt_X8_parameter (As : List zV) (μ : zM) (Q : Option zV → zM → Prop) (T : Nat → zM → Prop) : Prop := ∃ (a1 : Int) (a2 : Int), As = [.inr (.inr (0, 0)), .inl a1, .inl a2] ∧ ((-2147483648) ≤ a1 ∧ a1 ≤ 2147483647) ∧ ((-2147483648) ≤ a2 ∧ a2 ≤ 2147483647) ∧ (∀ (v : Int64), Q (some (.inr (.inl v))) μ) ∧ (T 15 μ) ∧ (T 107 μ)
set_option maxHeartbeats 4000000 in
theorem zx_X8_parameter {g : zΓ} (hg : zg g) (d : Nat) (hd : 1 ≤ d) {As : List zV} {μ : zM} {Q : Option zV → zM → Prop} {T : Nat → zM → Prop} {w : mW} (hw : zRep μ w) (hr : ∀ v ∈ As, zrf v) (hC : zt_X8_parameter As μ Q T) : Nat.ble (zsum As) mt_X8_parameter.2.2.1.1 = true ∧ zE g d mt_X8_parameter none [] (fun _ _ _ => False) Q T (0, zlv (zargs 0 As), [], w) := by
  refine zx_line hg (show mt_tab[103]? = some mt_X8_parameter from rfl) [] 51 rfl hw hr ?_
  obtain ⟨a1, a2, rfl, ha1, ha2, hQ, hT15, hT107⟩ := hC
  refine ⟨rfl, ?_⟩
  refine And.intro ⟨by omega, by omega⟩ (And.intro (fun c1 => ?_) (fun c1 => ?_))
  · exact hT15
  · intro t2 et2 ht2
    refine And.intro ht2.1 ?_
    intro x3 hx3 kx3 lx3
    refine And.intro ⟨⟨by omega, by omega⟩, ⟨by omega, by omega⟩⟩ (And.intro (fun c4 => ?_) (fun c4 => ?_))
    · refine And.intro ⟨by omega, by omega⟩ (And.intro (fun c5 => ?_) (And.intro (fun c5 => ?_) (And.intro (fun c5 => ?_) (And.intro (fun c5 => ?_) (And.intro (fun c5 => ?_) trivial)))))
      · exact hT107
      · intro t6 et6 ht6
        have qt6 : t2 = t6 := by omega
        subst qt6
        refine And.intro ht2.1 ?_
        refine ⟨zk_X8_at, zm_X8_at hg d (by omega), _, _, _, rfl, ⟨by omega, by omega⟩, ?_⟩
        refine And.intro (zfa (o := 7) (y2 := 21) ht2.1 rfl) ?_
        intro x7 kx7 lx7 fx7 gx7
        exact And.intro rfl (hQ _)
      · intro t8 et8 ht8
        have qt8 : t2 = t8 := by omega
        subst qt8
        refine And.intro ht2.1 ?_
        refine ⟨zk_X8_at, zm_X8_at hg d (by omega), _, _, _, rfl, ⟨by omega, by omega⟩, ?_⟩
        refine And.intro (zfa (o := 8) (y2 := 22) ht2.1 rfl) ?_
        intro x9 kx9 lx9 fx9 gx9
        exact And.intro rfl (hQ _)
      · intro t10 et10 ht10
        have qt10 : t2 = t10 := by omega
        subst qt10
        refine And.intro ht2.1 ?_
        refine ⟨zk_X8_nameAt, zm_X8_nameAt hg d (by omega), _, _, _, rfl, ⟨by omega, by omega⟩, by decide, (zfa (o := 6) (y2 := 20) ht2.1 rfl), ?_⟩
        intro j11 hj11
        exact And.intro rfl (hQ _)
      · refine ⟨zk_X8_at, zm_X8_at hg d (by omega), _, _, _, rfl, ⟨by omega, by omega⟩, ?_⟩
        intro x12 kx12 lx12 fx12 gx12
        exact And.intro rfl (hQ _)
    · exact hT15
def zt_X8_way (As : List zV) (μ : zM) (Q : Option zV → zM → Prop) (T : Nat → zM → Prop) : Prop := ∃ (a1 : Int) (a2 : Int), As = [.inr (.inr (0, 0)), .inl a1, .inl a2] ∧ ((-2147483648) ≤ a1 ∧ a1 ≤ 2147483647) ∧ ((-2147483648) ≤ a2 ∧ a2 ≤ 2147483647) ∧ (∀ (v : Int), (-2147483648) ≤ v → v ≤ 2147483647 → Q (some (.inl v)) μ) ∧ (T 30 μ)
set_option maxHeartbeats 4000000 in
theorem zx_X8_way {g : zΓ} (hg : zg g) (d : Nat) (hd : 1 ≤ d) {As : List zV} {μ : zM} {Q : Option zV → zM → Prop} {T : Nat → zM → Prop} {w : mW} (hw : zRep μ w) (hr : ∀ v ∈ As, zrf v) (hC : zt_X8_way As μ Q T) : Nat.ble (zsum As) mt_X8_way.2.2.1.1 = true ∧ zE g d mt_X8_way none [] (fun _ _ _ => False) Q T (0, zlv (zargs 0 As), [], w) := by
  refine zx_line hg (show mt_tab[104]? = some mt_X8_way from rfl) [] 34 rfl hw hr ?_
  obtain ⟨a1, a2, rfl, ha1, ha2, hQ, hT30⟩ := hC
  refine ⟨rfl, ?_⟩
  refine And.intro ⟨by omega, by omega⟩ (And.intro (fun c1 => ?_) (fun c1 => ?_))
  · exact hT30
  · intro t2 et2 ht2
    refine And.intro ht2.1 ?_
    intro x3 hx3 kx3 lx3
    refine And.intro ⟨⟨by omega, by omega⟩, ⟨by omega, by omega⟩⟩ (And.intro (fun c4 => ?_) (fun c4 => ?_))
    · exact hT30
    · refine And.intro ⟨by omega, by omega⟩ (And.intro (fun c5 => ?_) (fun c5 => ?_))
      · exact hT30
      · intro t6 et6 ht6
        have qt6 : t2 = t6 := by omega
        subst qt6
        refine And.intro ht2.1 ?_
        intro x7 hx7 kx7 lx7
        refine And.intro ⟨⟨by omega, by omega⟩, ⟨by omega, by omega⟩⟩ (And.intro (fun c8 => ?_) (fun c8 => ?_))
        · refine ⟨zk_X8_at, zm_X8_at hg d (by omega), _, _, _, rfl, ⟨by omega, by omega⟩, ?_⟩
          intro x9 kx9 lx9 fx9 gx9
          exact And.intro trivial (And.intro ⟨by omega, by omega⟩ (hQ _ (by omega) (by omega)))
        · exact hT30
def zt_X8_told (As : List zV) (μ : zM) (Q : Option zV → zM → Prop) (T : Nat → zM → Prop) : Prop := ∃ (a1 : Int), As = [.inr (.inr (0, 0)), .inl a1] ∧ ((-2147483648) ≤ a1 ∧ a1 ≤ 2147483647) ∧ (∀ (v : Int), (-2147483648) ≤ v → v ≤ 2147483647 → Q (some (.inl v)) μ) ∧ (T 144 μ)
set_option maxHeartbeats 4000000 in
theorem zx_X8_told {g : zΓ} (hg : zg g) (d : Nat) (hd : 0 ≤ d) {As : List zV} {μ : zM} {Q : Option zV → zM → Prop} {T : Nat → zM → Prop} {w : mW} (hw : zRep μ w) (hr : ∀ v ∈ As, zrf v) (hC : zt_X8_told As μ Q T) : Nat.ble (zsum As) mt_X8_told.2.2.1.1 = true ∧ zE g d mt_X8_told none [] (fun _ _ _ => False) Q T (0, zlv (zargs 0 As), [], w) := by
  refine zx_line hg (show mt_tab[106]? = some mt_X8_told from rfl) [] 56 rfl hw hr ?_
  obtain ⟨a1, rfl, ha1, hQ, hT144⟩ := hC
  refine ⟨rfl, ?_⟩
  refine And.intro ⟨by omega, by omega⟩ (And.intro (fun c1 => ?_) (And.intro (fun c1 => ?_) (And.intro (fun c1 => ?_) (And.intro (fun c1 => ?_) (And.intro (fun c1 => ?_) (And.intro (fun c1 => ?_) (And.intro (fun c1 => ?_) (And.intro (fun c1 => ?_) (And.intro (fun c1 => ?_) (And.intro (fun c1 => ?_) (And.intro (fun c1 => ?_) trivial)))))))))))
  · exact hT144
  · intro x2 hx2 kx2 lx2
    exact And.intro trivial (And.intro ⟨by omega, by omega⟩ (hQ _ (by omega) (by omega)))
  · intro x3 hx3 kx3 lx3
    exact And.intro trivial (And.intro ⟨by omega, by omega⟩ (hQ _ (by omega) (by omega)))
  · intro x4 hx4 kx4 lx4
    exact And.intro trivial (And.intro ⟨by omega, by omega⟩ (hQ _ (by omega) (by omega)))
  · intro x5 hx5 kx5 lx5
    exact And.intro trivial (And.intro ⟨by omega, by omega⟩ (hQ _ (by omega) (by omega)))
  · intro t6 et6 ht6
    refine And.intro ht6.1 ?_
    intro x7 hx7 kx7 lx7
    exact And.intro trivial (And.intro ⟨by omega, by omega⟩ (hQ _ (by omega) (by omega)))
  · intro t8 et8 ht8
    refine And.intro ht8.1 ?_
    intro x9 hx9 kx9 lx9
    exact And.intro trivial (And.intro ⟨by omega, by omega⟩ (hQ _ (by omega) (by omega)))
  · intro t10 et10 ht10
    refine And.intro ht10.1 ?_
    intro x11 hx11 kx11 lx11
    exact And.intro trivial (And.intro ⟨by omega, by omega⟩ (hQ _ (by omega) (by omega)))
  · intro x12 hx12 kx12 lx12
    exact And.intro trivial (And.intro ⟨by omega, by omega⟩ (hQ _ (by omega) (by omega)))
  · intro x13 hx13 kx13 lx13
    exact And.intro trivial (And.intro ⟨by omega, by omega⟩ (hQ _ (by omega) (by omega)))
  · intro x14 hx14 kx14 lx14
    refine And.intro ⟨by omega, by omega⟩ (And.intro (fun c15 => ?_) (fun c15 => ?_))
    · exact And.intro trivial (And.intro ⟨by omega, by omega⟩ (hQ _ (by omega) (by omega)))
    · exact And.intro trivial (And.intro ⟨by omega, by omega⟩ (hQ _ (by omega) (by omega)))
def zt_X8_written (As : List zV) (μ : zM) (Q : Option zV → zM → Prop) (T : Nat → zM → Prop) : Prop := ∃ (a1 : Int), As = [.inr (.inr (0, 0)), .inl a1] ∧ ((-2147483648) ≤ a1 ∧ a1 ≤ 2147483647) ∧ (∀ (v : Int), (-2147483648) ≤ v → v ≤ 2147483647 → Q (some (.inl v)) μ) ∧ (T 15 μ)
set_option maxHeartbeats 4000000 in
theorem zx_X8_written {g : zΓ} (hg : zg g) (d : Nat) (hd : 1 ≤ d) {As : List zV} {μ : zM} {Q : Option zV → zM → Prop} {T : Nat → zM → Prop} {w : mW} (hw : zRep μ w) (hr : ∀ v ∈ As, zrf v) (hC : zt_X8_written As μ Q T) : Nat.ble (zsum As) mt_X8_written.2.2.1.1 = true ∧ zE g d mt_X8_written none [] (fun _ _ _ => False) Q T (0, zlv (zargs 0 As), [], w) := by
  refine zx_line hg (show mt_tab[109]? = some mt_X8_written from rfl) [] 23 rfl hw hr ?_
  obtain ⟨a1, rfl, ha1, hQ, hT15⟩ := hC
  refine ⟨rfl, ?_⟩
  refine And.intro ⟨by omega, by omega⟩ (And.intro (fun c1 => ?_) (fun c1 => ?_))
  · exact hT15
  · intro x2 hx2 kx2 lx2
    refine And.intro ⟨⟨by omega, by omega⟩, ⟨by omega, by omega⟩⟩ (And.intro (fun c3 => ?_) (fun c3 => ?_))
    · refine ⟨zk_X8_at, zm_X8_at hg d (by omega), _, _, _, rfl, ⟨by omega, by omega⟩, ?_⟩
      intro x4 kx4 lx4 fx4 gx4
      exact And.intro trivial (And.intro ⟨by omega, by omega⟩ (hQ _ (by omega) (by omega)))
    · exact hT15
