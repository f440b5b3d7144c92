/-! ### a node's head and parts -/
def gk_X6_head : zC := fun As μ Q => ∃ (a1 : Int), As = [.inr (.inr (59, 59)), .inl a1] ∧ (0 ≤ a1 ∧ a1 < tn μ ∧ tn μ ≤ 7000) ∧ (∀ (v : Int), (-2147483648) ≤ v → v ≤ 2147483647 → v = μ.1 60 a1 → Q (some (.inl v)) μ)
set_option maxHeartbeats 4000000 in
theorem gm_X6_head {g : zΓ} (hg : zg g) (d : Nat) (hd : 2 ≤ d) : zOk g d 82 gk_X6_head := by
  obtain ⟨d, rfl⟩ : ∃ d', d = d' + 1 := ⟨d - 1, by omega⟩
  refine zOk_straight hg (show mt_tab[82]? = some mt_X6_head from rfl) [] 16 rfl fun As μ Q hC => ?_
  obtain ⟨a1, rfl, ha1, hQ⟩ := hC
  refine ⟨rfl, ?_⟩
  intro x1 hx1 kx1 lx1
  have X1 : x1 = tn μ := hx1
  refine And.intro ⟨⟨by omega, by omega⟩, ⟨by omega, by omega⟩⟩ (And.intro (fun c2 => ?_) (fun c2 => ?_))
  · exfalso; omega
  · refine ⟨zk_X8_at, zm_X8_at hg d (by omega), _, _, _, rfl, ⟨by omega, by omega⟩, ?_⟩
    intro x3 kx3 lx3 fx3 gx3
    exact And.intro trivial (And.intro ⟨by omega, by omega⟩ (hQ _ (by omega) (by omega) (fx3 ⟨by omega, by omega⟩).1))
def gk_X6_part : zC := fun As μ Q => ∃ (a1 : Int) (a2 : Int) (A : Int → Int), As = [.inr (.inr (59, 59)), .inl a1, .inl a2] ∧ (0 ≤ a1 ∧ a1 < tn μ) ∧ (0 ≤ a2 ∧ a2 < A (μ.1 60 a1)) ∧ tW μ A ∧ (∀ (v : Int), (0 ≤ v ∧ v < a1) → v = μ.1 63 (μ.1 61 a1 + a2) → Q (some (.inl v)) μ)
set_option maxHeartbeats 4000000 in
theorem gm_X6_part {g : zΓ} (hg : zg g) (d : Nat) (hd : 2 ≤ d) : zOk g d 83 gk_X6_part := by
  obtain ⟨d, rfl⟩ : ∃ d', d = d' + 1 := ⟨d - 1, by omega⟩
  refine zOk_straight hg (show mt_tab[83]? = some mt_X6_part from rfl) [] 35 rfl fun As μ Q hC => ?_
  obtain ⟨a1, a2, A, rfl, ha1, ha2, W, hQ⟩ := hC
  refine ⟨rfl, ?_⟩
  have n0 := W.1
  have p0 := W.2.1
  have w := W.2.2.1 a1 ha1.1 ha1.2
  have w1 := w.1
  have w2 := w.2 a2 ha2.1 ha2.2
  intro x1 hx1 kx1 lx1
  have X1 : x1 = tn μ := hx1
  refine And.intro ⟨⟨by omega, by omega⟩, ⟨by omega, by omega⟩⟩ (And.intro (fun c2 => ?_) (fun c2 => ?_))
  · exfalso; omega
  · refine ⟨zk_X8_at, zm_X8_at hg d (by omega), _, _, _, rfl, ⟨by omega, by omega⟩, ?_⟩
    intro x4 kx4 lx4 fx4 gx4
    have X4 : x4 = μ.1 61 a1 := (fx4 ⟨by omega, by omega⟩).1
    refine And.intro ⟨by omega, by omega⟩ (And.intro (fun c5 => ?_) (fun c5 => ?_))
    · exfalso; omega
    · refine And.intro ⟨by omega, by omega⟩ (And.intro (fun c6 => ?_) (fun c6 => ?_))
      · exfalso; omega
      · intro x8 hx8 kx8 lx8
        have X8 : x8 = tp μ := hx8
        refine And.intro ⟨⟨by omega, by omega⟩, ⟨by omega, by omega⟩⟩ (And.intro (fun c9 => ?_) (fun c9 => ?_))
        · exfalso; omega
        · refine ⟨zk_X8_at, zm_X8_at hg d (by omega), _, _, _, rfl, ⟨by omega, by omega⟩, ?_⟩
          intro x11 kx11 lx11 fx11 gx11
          have X11 : x11 = μ.1 63 (μ.1 61 a1 + a2) := by rw [(fx11 ⟨by omega, by omega⟩).1, X4]
          exact And.intro trivial (And.intro ⟨by omega, by omega⟩ (hQ _ ⟨by omega, by omega⟩ X11))
def gk_X6_partsOf : zC := fun As μ Q => ∃ (a1 : Int) (t : Nat) (A : Int → Int), As = [.inr (.inr (59, 59)), .inl a1] ∧ (0 ≤ a1 ∧ a1 < tn μ) ∧ tOk μ t A ∧ (∀ (v : Int), 0 ≤ v → v ≤ 4 → v = A (μ.1 60 a1) → Q (some (.inl v)) μ)
set_option maxHeartbeats 4000000 in
theorem gm_X6_partsOf {g : zΓ} (hg : zg g) (d : Nat) (hd : 3 ≤ d) : zOk g d 84 gk_X6_partsOf := by
  obtain ⟨d, rfl⟩ : ∃ d', d = d' + 1 := ⟨d - 1, by omega⟩
  refine zOk_straight hg (show mt_tab[84]? = some mt_X6_partsOf from rfl) [] 12 rfl fun As μ Q hC => ?_
  obtain ⟨a1, t, A, rfl, ha1, ok, hQ⟩ := hC
  refine ⟨rfl, ?_⟩
  have n0 := ok.2.2.2.2.1
  intro t1 et1 ht1
  have q1 : t1 = t := by have := ok.2.1; omega
  rw [q1]
  refine ⟨gk_X6_head, gm_X6_head hg d (by omega), _, rfl, ⟨by omega, by omega, by omega⟩, ?_⟩
  intro x2 kx2 lx2 hx2
  refine And.intro ok.1 ⟨yk_X4_arity, ym_X4_arity hg d (by omega), _, _, rfl, ok.1, ⟨by omega, by omega⟩, ?_⟩
  intro x3 kx3 lx3 hx3
  exact And.intro trivial (And.intro ⟨by omega, by omega⟩ (hQ _ (by omega) (by omega) (by rw [hx3, ok.2.2.1, ← hx2]; rfl)))
/-! ### the class's asker: small methods -/
/-- what questions leave alone -/
def zfK (μ μ' : zM) : Prop := zl0 μ μ' ∧ (∀ j : Nat, (j < 52 ∨ 66 ≤ j ∨ j = 56 ∨ j = 57) → μ'.1 j = μ.1 j) ∧ (∀ i : Int, i < ((13 : Nat) : Int) → μ'.1 52 i = μ.1 52 i) ∧ μ'.1 59 ((6 : Nat) : Int) = μ.1 59 ((6 : Nat) : Int)
theorem zfK_r (μ : zM) : zfK μ μ := ⟨zl0_r μ, fun _ _ => rfl, fun _ _ => rfl, rfl⟩
theorem zfK_t {a b c : zM} (h1 : zfK a b) (h2 : zfK b c) : zfK a c := ⟨zl0_t h1.1 h2.1, fun j hj => (h2.2.1 j hj).trans (h1.2.1 j hj), fun i hi => (h2.2.2.1 i hi).trans (h1.2.2.1 i hi), h2.2.2.2.trans h1.2.2.2⟩
theorem zfK_P {a b : zM} (h : zfP a b) : zfK a b := ⟨h.1, fun j hj => h.2.1 j (by omega), fun i _ => by rw [h.2.1 52 (by omega)], h.2.2⟩
theorem zfK_u {m m' : zM} {j : Nat} {k x : Int} (q : zl0 m m') (e : m' = zu m j k x) (hj : j = 53 ∨ j = 54 ∨ j = 55 ∨ j = 58 ∨ (j = 52 ∧ ((13 : Nat) : Int) ≤ k)) : zfK m m' := by
  refine ⟨q, fun i hi => by rw [e, zu_ne (by omega)], fun i hi => ?_, by rw [e, zu_ne (by omega)]⟩
  by_cases w : j = 52
  · subst w; rw [e, zu_nk (by omega)]
  · rw [e, zu_ne (Ne.symm w)]
def gk_X0_count : zC := fun As μ Q => ∃ (a1 : Int), As = [.inr (.inr (52, 52)), .inl a1] ∧ (0 ≤ a1 ∧ a1 ≤ 300) ∧ (0 ≤ μ.1 52 ((14 : Nat) : Int) ∧ μ.1 52 ((14 : Nat) : Int) ≤ 6000) ∧ (∀ (μ' : zM), μ.1 52 ((14 : Nat) : Int) + a1 ≤ 6000 → zl0 μ μ' → μ' = zu μ 52 ((14 : Nat) : Int) (μ.1 52 ((14 : Nat) : Int) + a1) → Q (some (.inl 1)) μ') ∧ (6000 < μ.1 52 ((14 : Nat) : Int) + a1 → Q (some (.inl 0)) μ)
set_option maxHeartbeats 4000000 in
theorem gm_X0_count {g : zΓ} (hg : zg g) (d : Nat) (hd : 1 ≤ d) : zOk g d 13 gk_X0_count := by
  obtain ⟨d, rfl⟩ : ∃ d', d = d' + 1 := ⟨d - 1, by omega⟩
  refine zOk_straight hg (show mt_tab[13]? = some mt_X0_count from rfl) [] 21 rfl fun As μ Q hC => ?_
  obtain ⟨a1, rfl, ha1, hc, hQ, hQ0⟩ := hC
  refine ⟨rfl, ?_⟩
  intro x1 hx1 kx1 lx1
  refine And.intro ⟨⟨by omega, by omega⟩, ⟨by omega, by omega⟩⟩ (And.intro (fun c3 => ?_) (fun c3 => ?_))
  · intro x4 hx4 kx4 lx4
    refine And.intro ⟨by omega, by omega⟩ ?_
    intro m6 em6
    exact And.intro (zrtb (by omega)) (And.intro ⟨by omega, by omega⟩ (hQ _ (by omega) (zl0_u em6 (Or.inl (by decide)) (Or.inl ⟨by decide, by decide⟩)) (by rw [em6, hx4])))
  · exact And.intro (zrtb (by omega)) (And.intro ⟨by omega, by omega⟩ (hQ0 (by omega)))
def aBd (μ : zM) (v x : Int) : zM := zu (zu μ 54 (v * 3 + μ.1 53 v) x) 53 v (μ.1 53 v + 1)
def gk_X0_addBound : zC := fun As μ Q => ∃ (a1 : Int) (a2 : Int), As = [.inr (.inr (52, 52)), .inl a1, .inl a2] ∧ (0 ≤ a1 ∧ a1 < 300) ∧ ((-2147483648) ≤ a2 ∧ a2 ≤ 2147483647) ∧ (0 ≤ μ.1 53 a1 ∧ μ.1 53 a1 ≤ 2) ∧ (∀ (μ' : zM), zl0 μ μ' → μ' = aBd μ a1 a2 → Q none μ')
set_option maxHeartbeats 4000000 in
theorem gm_X0_addBound {g : zΓ} (hg : zg g) (d : Nat) (hd : 2 ≤ d) : zOk g d 11 gk_X0_addBound := by
  obtain ⟨d, rfl⟩ : ∃ d', d = d' + 1 := ⟨d - 1, by omega⟩
  refine zOk_straight hg (show mt_tab[11]? = some mt_X0_addBound from rfl) [] 32 rfl fun As μ Q hC => ?_
  obtain ⟨a1, a2, rfl, ha1, ha2, hc, hQ⟩ := hC
  refine ⟨rfl, ?_⟩
  refine ⟨zk_X8_at, zm_X8_at hg d (by omega), _, _, _, rfl, ⟨by omega, by omega⟩, ?_⟩
  intro x1 kx1 lx1 fx1 gx1
  have X1 : x1 = μ.1 53 a1 := (fx1 ⟨by omega, by omega⟩).1
  refine And.intro ⟨by omega, by omega⟩ (And.intro (fun c2 => ?_) (fun c2 => ?_))
  · exfalso; omega
  · refine And.intro ⟨⟨by omega, by omega⟩, ⟨by omega, by omega⟩⟩ (And.intro (fun c3 => ?_) (fun c3 => ?_))
    · exfalso; omega
    · refine ⟨yk_X8_set, ym_X8_set hg d (by omega), _, _, _, _, rfl, ⟨by omega, by omega⟩, ?_⟩
      refine And.intro ⟨by omega, by omega⟩ (And.intro ⟨by omega, by omega⟩ ?_)
      intro m6 qm6 em6
      refine ⟨yk_X8_set, ym_X8_set hg d (by omega), _, _, _, _, rfl, ⟨by omega, by omega⟩, ?_⟩
      refine And.intro ⟨by omega, by omega⟩ (And.intro ⟨by omega, by omega⟩ ?_)
      intro m8 qm8 em8
      exact And.intro rfl (hQ _ (zl0_t ⟨qm6, by rw [em6]; rfl⟩ ⟨qm8, by rw [em8]; rfl⟩) (by unfold aBd; rw [em8, em6, X1]))
