/-! ### a question is read -/
def zk_X9_forgetAsked2 : zC := fun As μ Q => As = [.inr (.inr (66, 66))] ∧ (∀ (μ' : zM), zfx [] [45, 46, 47, 48] μ μ' → (μ'.1 66 ((45 : Nat) : Int) = 0 ∧ μ'.1 66 ((46 : Nat) : Int) = 0 ∧ μ'.1 66 ((47 : Nat) : Int) = 0 ∧ μ'.1 66 ((48 : Nat) : Int) = 0) → Q none μ')
set_option maxHeartbeats 400000 in
theorem zm_X9_forgetAsked2 {g : zΓ} (hg : zg g) (d : Nat) (hd : 1 ≤ d) : zOk g d 119 zk_X9_forgetAsked2 := by
  obtain ⟨d, rfl⟩ : ∃ d', d = d' + 1 := ⟨d - 1, by omega⟩
  refine zOk_straight hg (show mt_tab[119]? = some mt_X9_forgetAsked from rfl) [] 18 rfl fun As μ Q hC => ?_
  obtain ⟨rfl, hQ⟩ := hC
  obtain ⟨g1, wg1⟩ : ∃ z : Int, μ.1 66 ((45 : Nat) : Int) = z := ⟨_, rfl⟩
  obtain ⟨g2, wg2⟩ : ∃ z : Int, μ.1 66 ((46 : Nat) : Int) = z := ⟨_, rfl⟩
  obtain ⟨g3, wg3⟩ : ∃ z : Int, μ.1 66 ((47 : Nat) : Int) = z := ⟨_, rfl⟩
  obtain ⟨g4, wg4⟩ : ∃ z : Int, μ.1 66 ((48 : Nat) : Int) = z := ⟨_, rfl⟩
  refine ⟨rfl, ?_⟩
  have z0 : zfx [] [45, 46, 47, 48] μ μ := zfx_x μ
  refine And.intro ⟨by omega, by omega⟩ ?_
  intro m5 em5
  have z6 := zfx_f z0 em5 rfl
  have w7 : m5.1 66 ((45 : Nat) : Int) = 0 := by rw [em5]; exact zu_at
  have w8 : m5.1 66 ((46 : Nat) : Int) = g2 := by rw [em5]; exact (zu_nk (by decide)).trans wg2
  have w9 : m5.1 66 ((47 : Nat) : Int) = g3 := by rw [em5]; exact (zu_nk (by decide)).trans wg3
  have w10 : m5.1 66 ((48 : Nat) : Int) = g4 := by rw [em5]; exact (zu_nk (by decide)).trans wg4
  refine And.intro ⟨by omega, by omega⟩ ?_
  intro m11 em11
  have z12 := zfx_f z6 em11 rfl
  have w13 : m11.1 66 ((45 : Nat) : Int) = 0 := by rw [em11]; exact (zu_nk (by decide)).trans w7
  have w14 : m11.1 66 ((46 : Nat) : Int) = 0 := by rw [em11]; exact zu_at
  have w15 : m11.1 66 ((47 : Nat) : Int) = g3 := by rw [em11]; exact (zu_nk (by decide)).trans w9
  have w16 : m11.1 66 ((48 : Nat) : Int) = g4 := by rw [em11]; exact (zu_nk (by decide)).trans w10
  clear w7 w8 w9 w10
  refine And.intro ⟨by omega, by omega⟩ ?_
  intro m17 em17
  have z18 := zfx_f z12 em17 rfl
  have w19 : m17.1 66 ((45 : Nat) : Int) = 0 := by rw [em17]; exact (zu_nk (by decide)).trans w13
  have w20 : m17.1 66 ((46 : Nat) : Int) = 0 := by rw [em17]; exact (zu_nk (by decide)).trans w14
  have w21 : m17.1 66 ((47 : Nat) : Int) = 0 := by rw [em17]; exact zu_at
  have w22 : m17.1 66 ((48 : Nat) : Int) = g4 := by rw [em17]; exact (zu_nk (by decide)).trans w16
  clear w13 w14 w15 w16
  refine And.intro ⟨by omega, by omega⟩ ?_
  intro m23 em23
  have z24 := zfx_f z18 em23 rfl
  have w25 : m23.1 66 ((45 : Nat) : Int) = 0 := by rw [em23]; exact (zu_nk (by decide)).trans w19
  have w26 : m23.1 66 ((46 : Nat) : Int) = 0 := by rw [em23]; exact (zu_nk (by decide)).trans w20
  have w27 : m23.1 66 ((47 : Nat) : Int) = 0 := by rw [em23]; exact (zu_nk (by decide)).trans w21
  have w28 : m23.1 66 ((48 : Nat) : Int) = 0 := by rw [em23]; exact zu_at
  clear w19 w20 w21 w22
  exact And.intro rfl (hQ _ z24 (by (try rw [w25]) <;> (try rw [w26]) <;> (try rw [w27]) <;> (try rw [w28]) <;> (try rw [wg1]) <;> (try rw [wg2]) <;> (try rw [wg3]) <;> (try rw [wg4]) <;> omega))
