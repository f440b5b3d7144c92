def zqx (μ μ' : zM) : Prop := zl0 μ μ' ∧ μ'.1 50 ((3 : Nat) : Int) = 51 ∧ ∀ j : Nat, zqj j → μ'.1 j = μ.1 j
/-! ### ask, above: the tables stay -/
def zyj (j : Nat) : Prop := (6 ≤ j ∧ j < 10) ∨ (14 ≤ j ∧ j < 50) ∨ (109 ≤ j ∧ j < 1000000) ∨ (3000014 ≤ j ∧ j < 3000050)
def zqy (μ μ' : zM) : Prop := zl0 μ μ' ∧ (μ'.1 0 ((3 : Nat) : Int) = μ.1 0 ((3 : Nat) : Int) ∧ μ'.1 0 ((4 : Nat) : Int) = μ.1 0 ((4 : Nat) : Int)) ∧ ∀ j : Nat, zyj j → μ'.1 j = μ.1 j
theorem zqy_r (μ : zM) : zqy μ μ := ⟨zl0_r μ, ⟨rfl, rfl⟩, fun _ _ => rfl⟩
theorem zqy_t {a b c : zM} (h1 : zqy a b) (h2 : zqy b c) : zqy a c := ⟨zl0_t h1.1 h2.1, ⟨h2.2.1.1.trans h1.2.1.1, h2.2.1.2.trans h1.2.1.2⟩, fun j hj => (h2.2.2 j hj).trans (h1.2.2 j hj)⟩
theorem zqy_x {a b : zM} (h : zqx a b) : zqy a b := ⟨h.1, by rw [h.2.2 0 (Or.inl rfl)]; exact ⟨rfl, rfl⟩, fun j hj => h.2.2 j (by unfold zyj at hj; unfold zqj; omega)⟩
theorem zqy_0 {a b : zM} (h : zq0 a b) : zqy a b := ⟨h.1, by rw [h.2 0 (by decide)]; exact ⟨rfl, rfl⟩, fun j hj => h.2 j (by unfold zyj at hj; omega)⟩
theorem zqy_u {μ μ' : zM} {t : Nat} {k x : Int} (he : μ' = zu μ t k x) (h1 : t < 66 ∨ (109 ≤ t ∧ t < 1000000) ∨ (3000000 ≤ t ∧ t < 3000066) ∨ (5000000 ≤ t ∧ t < 5000066)) (h2 : (t ≠ 26 ∧ t ≠ 44) ∨ k ≠ 5) (h3 : (t = 0 ∧ k ≠ ((3 : Nat) : Int) ∧ k ≠ ((4 : Nat) : Int)) ∨ (10 ≤ t ∧ t ≤ 13) ∨ (52 ≤ t ∧ t < 66) := by first | exact Or.inl ⟨by decide, by decide, by decide⟩ | exact Or.inr (by decide)) : zqy μ μ' := by
  refine ⟨zl0_u he h1 h2 (Or.inl (by omega)), ?_, fun j hj => ?_⟩
  · rcases h3 with h | h
    · rw [he, h.1, zu_nk (by omega), zu_nk (by omega)]; exact ⟨rfl, rfl⟩
    · rw [he, zu_ne (by omega)]; exact ⟨rfl, rfl⟩
  · unfold zyj at hj
    rw [he, zu_ne (by omega)]
