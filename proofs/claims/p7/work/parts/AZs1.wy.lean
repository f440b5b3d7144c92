def yk_X9_isParam : zC := fun As μ Q => ∃ (a1 : Int), As = [.inr (.inr (66, 66)), .inl a1] ∧ ((-2147483648) ≤ a1 ∧ a1 ≤ 2147483647) ∧ (∀ (v : Int) (μ' : zM), zfx [] [54] μ μ' → 0 ≤ v → v ≤ 1 → (v = 0 ∨ (0 ≤ a1 ∧ a1 < μ.1 66 ((21 : Nat) : Int) ∧ a1 ≤ 79)) → ((v = 1 ∧ (0 ≤ a1 ∧ a1 < μ.1 66 ((21 : Nat) : Int)) ∧ μ'.1 66 ((54 : Nat) : Int) = μ.1 66 ((54 : Nat) : Int)) ∨ (v = 0 ∧ ¬ (0 ≤ a1 ∧ a1 < μ.1 66 ((21 : Nat) : Int)) ∧ μ'.1 66 ((54 : Nat) : Int) = 1)) → Q (some (.inl v)) μ')
set_option maxHeartbeats 4000000 in
theorem ym_X9_isParam {g : zΓ} (hg : zg g) (d : Nat) (hd : 1 ≤ d) : zOk g d 186 yk_X9_isParam := by
  obtain ⟨d, rfl⟩ : ∃ d', d = d' + 1 := ⟨d - 1, by omega⟩
  refine zOk_straight hg (show mt_tab[186]? = some mt_X9_isParam from rfl) [] 25 rfl fun As μ Q hC => ?_
  obtain ⟨a1, rfl, ha1, hQ⟩ := hC
  obtain ⟨g1, wg1⟩ : ∃ z : Int, μ.1 66 ((21 : Nat) : Int) = z := ⟨_, rfl⟩
  obtain ⟨g2, wg2⟩ : ∃ z : Int, μ.1 66 ((54 : Nat) : Int) = z := ⟨_, rfl⟩
  refine ⟨rfl, ?_⟩
  have z0 : zfx [] [54] μ μ := zfx_x μ
  refine And.intro ⟨by omega, by omega⟩ (And.intro (fun c3 => ?_) (fun c3 => ?_))
  · refine And.intro ⟨by omega, by omega⟩ (And.intro (fun c4 => ?_) (fun c4 => ?_))
    · refine And.intro ⟨by omega, by omega⟩ ?_
      intro m5 em5
      have z6 := zfx_f z0 em5 rfl
      have w7 : m5.1 66 ((21 : Nat) : Int) = g1 := by rw [em5]; exact (zu_nk (by decide)).trans wg1
      have w8 : m5.1 66 ((54 : Nat) : Int) = 1 := by rw [em5]; exact zu_at
      exact And.intro (zrtb (by omega)) (And.intro ⟨by omega, by omega⟩ (hQ _ _ z6 (by omega) (by omega) (by (try rw [w7]) <;> (try rw [w8]) <;> (try rw [wg1]) <;> (try rw [wg2]) <;> omega) (by rw [w8, wg1, wg2]; first | exact Or.inl ⟨rfl, by omega, by omega⟩ | exact Or.inr ⟨rfl, by omega, by omega⟩)))
    · exfalso; omega
  · intro x9 hx9 kx9 lx9
    rw [wg1] at hx9
    refine And.intro ⟨⟨by omega, by omega⟩, ⟨by omega, by omega⟩⟩ (And.intro (fun c10 => ?_) (fun c10 => ?_))
    · refine And.intro ⟨by omega, by omega⟩ (And.intro (fun c11 => ?_) (fun c11 => ?_))
      · refine And.intro ⟨by omega, by omega⟩ ?_
        intro m12 em12
        have z13 := zfx_f z0 em12 rfl
        have w14 : m12.1 66 ((21 : Nat) : Int) = g1 := by rw [em12]; exact (zu_nk (by decide)).trans wg1
        have w15 : m12.1 66 ((54 : Nat) : Int) = 1 := by rw [em12]; exact zu_at
        exact And.intro (zrtb (by omega)) (And.intro ⟨by omega, by omega⟩ (hQ _ _ z13 (by omega) (by omega) (by (try rw [w14]) <;> (try rw [w15]) <;> (try rw [wg1]) <;> (try rw [wg2]) <;> omega) (by rw [w15, wg1, wg2]; first | exact Or.inl ⟨rfl, by omega, by omega⟩ | exact Or.inr ⟨rfl, by omega, by omega⟩)))
      · exfalso; omega
    · refine And.intro ⟨by omega, by omega⟩ (And.intro (fun c16 => ?_) (fun c16 => ?_))
      · exfalso; omega
      · clear c16
        intro x17 hx17 kx17 lx17
        rw [wg2] at hx17
        refine And.intro ⟨by omega, by omega⟩ ?_
        intro m18 em18
        have z19 := zfx_f z0 em18 rfl
        have w20 : m18.1 66 ((21 : Nat) : Int) = g1 := by rw [em18]; exact (zu_nk (by decide)).trans wg1
        have w21 : m18.1 66 ((54 : Nat) : Int) = x17 := by rw [em18]; exact zu_at
        exact And.intro (zrtb (by omega)) (And.intro ⟨by omega, by omega⟩ (hQ _ _ z19 (by omega) (by omega) (by (try rw [w20]) <;> (try rw [w21]) <;> (try rw [wg1]) <;> (try rw [wg2]) <;> omega) (by rw [w21, wg1, wg2]; first | exact Or.inl ⟨rfl, by omega, by omega⟩ | exact Or.inr ⟨rfl, by omega, by omega⟩)))
