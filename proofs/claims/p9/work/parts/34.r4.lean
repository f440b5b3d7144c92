/-! ### nodes -/
def zk_X9_slotOf : zC := fun As μ Q => ∃ (a1 : Int) (a2 : Int) (a3 : Int), As = [.inr (.inr (66, 66)), .inl a1, .inl a2, .inl a3] ∧ (0 ≤ a1 ∧ a1 ≤ 5) ∧ (0 ≤ a2 ∧ a2 ≤ 299) ∧ (0 ≤ a3 ∧ a3 ≤ 4) ∧ (∀ (v : Int), 0 ≤ v → v ≤ 2047 → (v = zsl a1 a2 a3 (μ.1 74)) → Q (some (.inl v)) μ)
set_option maxHeartbeats 1000000 in
theorem zm_X9_slotOf {g : zΓ} (hg : zg g) (d : Nat) (hd : 1 ≤ d) : zOk g d 121 zk_X9_slotOf := by
  obtain ⟨d, rfl⟩ : ∃ d', d = d' + 1 := ⟨d - 1, by omega⟩
  refine zOk_loop hg (show mt_tab[121]? = some mt_X9_slotOf from rfl) ([(11, [0, 3, 4, 5])], [22, 30, 43]) 33 rfl fun As μ Q hC => ?_
  obtain ⟨a1, a2, a3, rfl, ha1, ha2, ha3, hQ⟩ := hC
  refine ⟨rfl, fun pc vs μ' n => ∃ (v3 : Int) (v4 : Int) (v5 : Int), vs = [.inr (.inr (66, 66)), .inl v3, .inl v4, .inl v5] ∧ μ' = μ ∧ (0 ≤ v3 ∧ v3 ≤ 4) ∧ ((-2147483648) ≤ v4 ∧ v4 ≤ 2147483647) ∧ (0 ≤ v5 ∧ v5 ≤ 4) ∧ (v4 = zsh (a1 * 31 + a2) (μ.1 74) v5.toNat) ∧ (v3 = a3 ∧ v5 ≤ v3) ∧ n = (Int.toNat (2147483648 - v5)), ?_, ?_, trivial⟩
  · refine Exists.intro (Int.toNat (2147483648 - 0)) ?_
    exact ⟨_, _, _, rfl, rfl, ⟨by omega, by omega⟩, ⟨by omega, by omega⟩, ⟨by omega, by omega⟩, rfl, (by omega), rfl⟩
  · intro vs m0 n hI
    obtain ⟨v3, v4, v5, rfl, rfl, hv3, hv4, hv5, i0, i1, rfl⟩ := hI
    refine And.intro ⟨⟨by omega, by omega⟩, ⟨by omega, by omega⟩⟩ (And.intro (fun c1 => ?_) (fun c1 => ?_))
    · intro x2 hx2 kx2 lx2
      intro x3 hx3 kx3 lx3
      have hus := zus (Int32.ofInt x2).toUInt32
      rw [← hx3] at hus
      exact And.intro trivial (And.intro ⟨by omega, by omega⟩ (hQ _ (by omega) (by omega) (by rw [hx3, hx2, i0, show v5 = a3 by omega]; rfl)))
    · intro x4 hx4 kx4 lx4
      refine And.intro ⟨by omega, by omega⟩ ?_
      intro x5 hx5 kx5 lx5
      intro x6 hx6 kx6 lx6
      refine Exists.intro (Int.toNat (2147483648 - (v5 + 1))) (And.intro (by omega) ?_)
      exact ⟨_, _, _, rfl, rfl, ⟨by omega, by omega⟩, ⟨by omega, by omega⟩, ⟨by omega, by omega⟩, (by have e : ((v5.toNat : Nat) : Int) = v5 := (by omega); rw [show (v5 + 1).toNat = v5.toNat + 1 by omega]; show x6 = zwi (zwi (zsh _ _ v5.toNat * 131) + m0.1 74 ((v5.toNat : Nat) : Int)); rw [← i0, e, ← hx5, hx6, hx4]; rfl), (by omega), rfl⟩
def zk_X9_isLike : zC := fun As μ Q => ∃ (a1 : Int) (a2 : Int) (a3 : Int) (a4 : Int), As = [.inr (.inr (66, 66)), .inl a1, .inl a2, .inl a3, .inl a4] ∧ (0 ≤ a1 ∧ a1 ≤ 19999) ∧ (0 ≤ a2 ∧ a2 ≤ 5) ∧ (0 ≤ a3 ∧ a3 ≤ 299) ∧ (0 ≤ a4 ∧ a4 ≤ 4) ∧ (∀ (v : Int), 0 ≤ v → v ≤ 1 → ((v = 1 → zlike μ a1 a2 a3 a4 (μ.1 74)) ∧ (zlike μ a1 a2 a3 a4 (μ.1 74) → v = 1)) → Q (some (.inl v)) μ)
set_option maxHeartbeats 1000000 in
theorem zm_X9_isLike {g : zΓ} (hg : zg g) (d : Nat) (hd : 1 ≤ d) : zOk g d 122 zk_X9_isLike := by
  obtain ⟨d, rfl⟩ : ∃ d', d = d' + 1 := ⟨d - 1, by omega⟩
  refine zOk_loop hg (show mt_tab[122]? = some mt_X9_isLike from rfl) ([(41, [0, 1, 4, 5, 6])], []) 55 rfl fun As μ Q hC => ?_
  obtain ⟨a1, a2, a3, a4, rfl, ha1, ha2, ha3, ha4, hQ⟩ := hC
  refine ⟨rfl, fun pc vs μ' n => ∃ (v1 : Int) (v4 : Int) (v5 : Int) (v6 : Int), vs = [.inr (.inr (66, 66)), .inl v1, .inl v4, .inl v5, .inl v6] ∧ μ' = μ ∧ (0 ≤ v1 ∧ v1 ≤ 19999) ∧ (0 ≤ v4 ∧ v4 ≤ 4) ∧ (0 ≤ v5 ∧ v5 ≤ 1) ∧ (0 ≤ v6 ∧ v6 ≤ 4) ∧ (v1 = a1 ∧ v4 = a4) ∧ (v5 = 1 → (μ.1 67 v1 = a2 ∧ μ.1 68 v1 = a3 ∧ μ.1 69 v1 = v4) ∧ ∀ i : Int, 0 ≤ i → i < v6 → μ.1 70 (4 * v1 + i) = μ.1 74 i) ∧ (zlike μ v1 a2 a3 v4 (μ.1 74) → v5 = 1) ∧ n = (Int.toNat (2147483648 - v6)), ?_, ?_, trivial⟩
  · refine And.intro ⟨by omega, by omega⟩ ?_
    intro x1 hx1 kx1 lx1
    refine And.intro ⟨⟨by omega, by omega⟩, ⟨by omega, by omega⟩⟩ (And.intro (fun c2 => ?_) (fun c2 => ?_))
    · refine Exists.intro (Int.toNat (2147483648 - 0)) ?_
      exact ⟨_, _, _, _, rfl, rfl, ⟨by omega, by omega⟩, ⟨by omega, by omega⟩, ⟨by omega, by omega⟩, ⟨by omega, by omega⟩, (by omega), (fun h => by first | (exfalso; omega) | exact ⟨⟨by omega, by omega, by omega⟩, fun i h1 h2 => by omega⟩ | exact ⟨(i1 (by omega)).1, fun i h1 h2 => by rcases (show i < v6 ∨ i = v6 by omega) with q | q <;> first | exact (i1 (by omega)).2 i h1 q | (rw [q]; omega)⟩), (fun h => by first | omega | (obtain ⟨h1, h2, h3, h4⟩ := h; omega) | (have hh := h.2.2.2 v6 (by omega) (by omega); omega)), rfl⟩
    · refine And.intro ⟨by omega, by omega⟩ ?_
      intro x3 hx3 kx3 lx3
      refine And.intro ⟨⟨by omega, by omega⟩, ⟨by omega, by omega⟩⟩ (And.intro (fun c4 => ?_) (fun c4 => ?_))
      · refine Exists.intro (Int.toNat (2147483648 - 0)) ?_
        exact ⟨_, _, _, _, rfl, rfl, ⟨by omega, by omega⟩, ⟨by omega, by omega⟩, ⟨by omega, by omega⟩, ⟨by omega, by omega⟩, (by omega), (fun h => by first | (exfalso; omega) | exact ⟨⟨by omega, by omega, by omega⟩, fun i h1 h2 => by omega⟩ | exact ⟨(i1 (by omega)).1, fun i h1 h2 => by rcases (show i < v6 ∨ i = v6 by omega) with q | q <;> first | exact (i1 (by omega)).2 i h1 q | (rw [q]; omega)⟩), (fun h => by first | omega | (obtain ⟨h1, h2, h3, h4⟩ := h; omega) | (have hh := h.2.2.2 v6 (by omega) (by omega); omega)), rfl⟩
      · refine And.intro ⟨by omega, by omega⟩ ?_
        intro x5 hx5 kx5 lx5
        refine And.intro ⟨⟨by omega, by omega⟩, ⟨by omega, by omega⟩⟩ (And.intro (fun c6 => ?_) (fun c6 => ?_))
        · refine Exists.intro (Int.toNat (2147483648 - 0)) ?_
          exact ⟨_, _, _, _, rfl, rfl, ⟨by omega, by omega⟩, ⟨by omega, by omega⟩, ⟨by omega, by omega⟩, ⟨by omega, by omega⟩, (by omega), (fun h => by first | (exfalso; omega) | exact ⟨⟨by omega, by omega, by omega⟩, fun i h1 h2 => by omega⟩ | exact ⟨(i1 (by omega)).1, fun i h1 h2 => by rcases (show i < v6 ∨ i = v6 by omega) with q | q <;> first | exact (i1 (by omega)).2 i h1 q | (rw [q]; omega)⟩), (fun h => by first | omega | (obtain ⟨h1, h2, h3, h4⟩ := h; omega) | (have hh := h.2.2.2 v6 (by omega) (by omega); omega)), rfl⟩
        · refine Exists.intro (Int.toNat (2147483648 - 0)) ?_
          exact ⟨_, _, _, _, rfl, rfl, ⟨by omega, by omega⟩, ⟨by omega, by omega⟩, ⟨by omega, by omega⟩, ⟨by omega, by omega⟩, (by omega), (fun h => by first | (exfalso; omega) | exact ⟨⟨by omega, by omega, by omega⟩, fun i h1 h2 => by omega⟩ | exact ⟨(i1 (by omega)).1, fun i h1 h2 => by rcases (show i < v6 ∨ i = v6 by omega) with q | q <;> first | exact (i1 (by omega)).2 i h1 q | (rw [q]; omega)⟩), (fun h => by first | omega | (obtain ⟨h1, h2, h3, h4⟩ := h; omega) | (have hh := h.2.2.2 v6 (by omega) (by omega); omega)), rfl⟩
  · intro vs m0 n hI
    obtain ⟨v1, v4, v5, v6, rfl, rfl, hv1, hv4, hv5, hv6, i0, i1, i2, rfl⟩ := hI
    obtain ⟨e1, e4⟩ := i0
    subst e1 e4
    refine And.intro ⟨⟨by omega, by omega⟩, ⟨by omega, by omega⟩⟩ (And.intro (fun c7 => ?_) (fun c7 => ?_))
    · exact And.intro (zrtb (by omega)) (And.intro ⟨by omega, by omega⟩ (hQ _ (by omega) (by omega) ⟨fun h => ⟨(i1 h).1.1, (i1 h).1.2.1, (i1 h).1.2.2, fun i h1 h2 => (i1 h).2 i h1 (by omega)⟩, i2⟩))
    · refine And.intro ⟨by omega, by omega⟩ (And.intro (fun c8 => ?_) (fun c8 => ?_))
      · exact And.intro (zrtb (by omega)) (And.intro ⟨by omega, by omega⟩ (hQ _ (by omega) (by omega) ⟨fun h => ⟨(i1 h).1.1, (i1 h).1.2.1, (i1 h).1.2.2, fun i h1 h2 => (i1 h).2 i h1 (by omega)⟩, i2⟩))
      · refine And.intro ⟨by omega, by omega⟩ ?_
        intro x9 hx9 kx9 lx9
        refine And.intro ⟨by omega, by omega⟩ ?_
        intro x10 hx10 kx10 lx10
        refine And.intro ⟨⟨by omega, by omega⟩, ⟨by omega, by omega⟩⟩ (And.intro (fun c11 => ?_) (fun c11 => ?_))
        · refine Exists.intro (Int.toNat (2147483648 - (v6 + 1))) (And.intro (by omega) ?_)
          exact ⟨_, _, _, _, rfl, rfl, ⟨by omega, by omega⟩, ⟨by omega, by omega⟩, ⟨by omega, by omega⟩, ⟨by omega, by omega⟩, (by omega), (fun h => by first | (exfalso; omega) | exact ⟨⟨by omega, by omega, by omega⟩, fun i h1 h2 => by omega⟩ | exact ⟨(i1 (by omega)).1, fun i h1 h2 => by rcases (show i < v6 ∨ i = v6 by omega) with q | q <;> first | exact (i1 (by omega)).2 i h1 q | (rw [q]; omega)⟩), (fun h => by first | omega | (obtain ⟨h1, h2, h3, h4⟩ := h; omega) | (have hh := h.2.2.2 v6 (by omega) (by omega); omega)), rfl⟩
        · refine Exists.intro (Int.toNat (2147483648 - (v6 + 1))) (And.intro (by omega) ?_)
          exact ⟨_, _, _, _, rfl, rfl, ⟨by omega, by omega⟩, ⟨by omega, by omega⟩, ⟨by omega, by omega⟩, ⟨by omega, by omega⟩, (by omega), (fun h => by first | (exfalso; omega) | exact ⟨⟨by omega, by omega, by omega⟩, fun i h1 h2 => by omega⟩ | exact ⟨(i1 (by omega)).1, fun i h1 h2 => by rcases (show i < v6 ∨ i = v6 by omega) with q | q <;> first | exact (i1 (by omega)).2 i h1 q | (rw [q]; omega)⟩), (fun h => by first | omega | (obtain ⟨h1, h2, h3, h4⟩ := h; omega) | (have hh := h.2.2.2 v6 (by omega) (by omega); omega)), rfl⟩
