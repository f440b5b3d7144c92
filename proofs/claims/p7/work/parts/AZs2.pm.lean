/-! ### parameter of the reference -/
def rkpa (μ : zM) (p w : Int) (v : Int64) : Prop := (w = 0 ∧ v = (Int32.ofInt (μ.1 82 p)).toInt64) ∨ (w = 1 ∧ v = (Int32.ofInt (μ.1 84 p)).toInt64) ∨ (w = 2 ∧ v.toInt = μ.1 3000081 p) ∨ (w = 3 ∧ ((v = Int64.ofInt 1 ∧ rOg μ (μ.1 66 ((21 : Nat) : Int)) p) ∨ (v = Int64.ofInt 0 ∧ ¬ rOg μ (μ.1 66 ((21 : Nat) : Int)) p)))
def yk_X9_parameter : zC := fun As μ Q => ∃ (a1 : Int) (a2 : Int), As = [.inr (.inr (66, 66)), .inl a1, .inl a2] ∧ ((-2147483648) ≤ a1 ∧ a1 ≤ 2147483647) ∧ ((-2147483648) ≤ a2 ∧ a2 ≤ 2147483647) ∧ (∀ (v : Int64) (μ' : zM), zfx [] [54] μ μ' → (((0 ≤ a1 ∧ a1 < μ.1 66 ((21 : Nat) : Int)) ∧ (0 ≤ a2 ∧ a2 ≤ 3) ∧ μ'.1 66 ((54 : Nat) : Int) = 0 ∧ rkpa μ a1 a2 v) ∨ (¬ (0 ≤ a1 ∧ a1 < μ.1 66 ((21 : Nat) : Int)) ∧ μ'.1 66 ((54 : Nat) : Int) = 1) ∨ ((0 ≤ a1 ∧ a1 < μ.1 66 ((21 : Nat) : Int)) ∧ ¬ (0 ≤ a2 ∧ a2 ≤ 3) ∧ μ'.1 66 ((54 : Nat) : Int) = 2)) → Q (some (.inr (.inl v))) μ')
set_option maxHeartbeats 4000000 in
theorem ym_X9_parameter {g : zΓ} (hg : zg g) (d : Nat) (hd : 2 ≤ d) : zOk g d 187 yk_X9_parameter := by
  obtain ⟨d, rfl⟩ : ∃ d', d = d' + 1 := ⟨d - 1, by omega⟩
  refine zOk_straight hg (show mt_tab[187]? = some mt_X9_parameter from rfl) [] 46 rfl fun As μ Q hC => ?_
  obtain ⟨a1, a2, rfl, ha1, ha2, hQ⟩ := hC
  refine ⟨rfl, ?_⟩
  have z0 : zfx [] [54] μ μ := zfx_x μ
  refine And.intro ⟨by omega, by omega⟩ ?_
  intro m1 em1
  have z2 := zfx_f z0 em1 rfl
  have E0 : m1.1 66 ((54 : Nat) : Int) = 0 := by rw [em1, zu_at]
  have C0 : m1.1 66 ((21 : Nat) : Int) = μ.1 66 ((21 : Nat) : Int) := by rw [em1, zu_nk (by decide)]
  refine ⟨yk_X9_isParam, ym_X9_isParam hg d (by omega), _, rfl, ⟨by omega, by omega⟩, ?_⟩
  intro x3 m4 qm4 kx3 lx3 p5 p6
  have MM : ∀ j : Nat, j ≠ 66 → m4.1 j = μ.1 j := fun j hj => by rw [qm4.1 j hj rfl, em1, zu_ne hj]
  have C4 : m4.1 66 ((21 : Nat) : Int) = μ.1 66 ((21 : Nat) : Int) := (qm4.2.1 21 rfl).trans C0
  have z6 := zfx_t z2 qm4 rfl rfl
  refine And.intro ⟨by omega, by omega⟩ (And.intro (fun c7 => ?_) (fun c7 => ?_))
  · have IN : (0 ≤ a1 ∧ a1 < μ.1 66 ((21 : Nat) : Int)) ∧ m4.1 66 ((54 : Nat) : Int) = 0 := by
      rcases p6 with w | w
      · exact ⟨⟨w.2.1.1, by have := w.2.1.2; omega⟩, w.2.2.trans E0⟩
      · exfalso; have := w.1; omega
    refine And.intro ⟨by omega, by omega⟩ (And.intro (fun c8 => ?_) (And.intro (fun c8 => ?_) (And.intro (fun c8 => ?_) (And.intro (fun c8 => ?_) (And.intro (fun c8 => ?_) trivial)))))
    · refine And.intro ⟨by omega, by omega⟩ ?_
      intro m9 em9
      have z10 := zfx_f z6 em9 rfl
      exact And.intro rfl (hQ _ _ z10 (Or.inr (Or.inr ⟨IN.1, by omega, by rw [em9, zu_at]⟩)))
    · refine And.intro ⟨by omega, by omega⟩ ?_
      intro x11 hx11 kx11 lx11
      exact And.intro rfl (hQ _ _ z6 (Or.inl ⟨IN.1, ⟨by omega, by omega⟩, IN.2, Or.inl ⟨by omega, by rw [hx11, MM 82 (by decide)]⟩⟩))
    · refine And.intro ⟨by omega, by omega⟩ ?_
      intro x12 hx12 kx12 lx12
      exact And.intro rfl (hQ _ _ z6 (Or.inl ⟨IN.1, ⟨by omega, by omega⟩, IN.2, Or.inr (Or.inl ⟨by omega, by rw [hx12, MM 84 (by decide)]⟩)⟩))
    · refine And.intro ⟨by omega, by omega⟩ ?_
      intro x13 hx13
      exact And.intro rfl (hQ _ _ z6 (Or.inl ⟨IN.1, ⟨by omega, by omega⟩, IN.2, Or.inr (Or.inr (Or.inl ⟨by omega, by rw [hx13, MM 3000081 (by decide)]⟩))⟩))
    · refine ⟨yk_X9_isOnGrowing, ym_X9_isOnGrowing hg d (by omega), _, rfl, ⟨by omega, by omega⟩, ?_⟩
      intro x14 kx14 lx14 p14
      have OE : rOg m4 (m4.1 66 ((21 : Nat) : Int)) a1 ↔ rOg μ (μ.1 66 ((21 : Nat) : Int)) a1 := by unfold rOg rOq; rw [C4, MM 86 (by decide), MM 87 (by decide)]
      rw [OE] at p14
      refine And.intro ⟨by omega, by omega⟩ (And.intro (fun c15 => ?_) (fun c15 => ?_))
      · exact And.intro rfl (hQ _ _ z6 (Or.inl ⟨IN.1, ⟨by omega, by omega⟩, IN.2, Or.inr (Or.inr (Or.inr ⟨by omega, Or.inr ⟨rfl, by rcases p14 with w | w; (exfalso; have := w.1; omega); exact w.2⟩⟩))⟩))
      · exact And.intro rfl (hQ _ _ z6 (Or.inl ⟨IN.1, ⟨by omega, by omega⟩, IN.2, Or.inr (Or.inr (Or.inr ⟨by omega, Or.inl ⟨rfl, by rcases p14 with w | w; exact w.2; (exfalso; have := w.1; omega)⟩⟩))⟩))
  · exact And.intro rfl (hQ _ _ z6 (Or.inr (Or.inl ⟨by rcases p6 with w | w; (exfalso; have := w.1; omega); (rw [← C0]; exact w.2.1), by rcases p6 with w | w; (exfalso; have := w.1; omega); exact w.2.2⟩)))
