def yk_X5_isLetter : zC := fun As μ Q => ∃ (a1 : Int), As = [.inl a1] ∧ ((-2147483648) ≤ a1 ∧ a1 ≤ 2147483647) ∧ (∀ (v : Int), 0 ≤ v → v ≤ 1 → ((v = 1 ∧ (yLet a1 = true)) ∨ (v = 0 ∧ ¬ (yLet a1 = true))) → Q (some (.inl v)) μ)
set_option maxHeartbeats 4000000 in
theorem ym_X5_isLetter {g : zΓ} (hg : zg g) (d : Nat) (hd : 1 ≤ d) : zOk g d 76 yk_X5_isLetter := by
  obtain ⟨d, rfl⟩ : ∃ d', d = d' + 1 := ⟨d - 1, by omega⟩
  refine zOk_straight hg (show mt_tab[76]? = some mt_X5_isLetter from rfl) [] 21 rfl fun As μ Q hC => ?_
  obtain ⟨a1, rfl, ha1, hQ⟩ := hC
  refine ⟨rfl, ?_⟩
  refine And.intro ⟨⟨by omega, by omega⟩, ⟨by omega, by omega⟩⟩ (And.intro (fun c1 => ?_) (fun c1 => ?_))
  · refine And.intro ⟨⟨by omega, by omega⟩, ⟨by omega, by omega⟩⟩ (And.intro (fun c2 => ?_) (fun c2 => ?_))
    · exact And.intro (zrtb (by omega)) (And.intro ⟨by omega, by omega⟩ (hQ _ (by omega) (by omega) (by first | exact Or.inl ⟨rfl, by simp [yLet]; omega⟩ | exact Or.inr ⟨rfl, by simp [yLet]; omega⟩)))
    · exfalso; omega
  · refine And.intro ⟨⟨by omega, by omega⟩, ⟨by omega, by omega⟩⟩ (And.intro (fun c3 => ?_) (fun c3 => ?_))
    · exact And.intro (zrtb (by omega)) (And.intro ⟨by omega, by omega⟩ (hQ _ (by omega) (by omega) (by first | exact Or.inl ⟨rfl, by simp [yLet]; omega⟩ | exact Or.inr ⟨rfl, by simp [yLet]; omega⟩)))
    · refine And.intro ⟨⟨by omega, by omega⟩, ⟨by omega, by omega⟩⟩ (And.intro (fun c4 => ?_) (fun c4 => ?_))
      · exact And.intro (zrtb (by omega)) (And.intro ⟨by omega, by omega⟩ (hQ _ (by omega) (by omega) (by first | exact Or.inl ⟨rfl, by simp [yLet]; omega⟩ | exact Or.inr ⟨rfl, by simp [yLet]; omega⟩)))
      · refine And.intro ⟨⟨by omega, by omega⟩, ⟨by omega, by omega⟩⟩ (And.intro (fun c5 => ?_) (fun c5 => ?_))
        · exact And.intro (zrtb (by omega)) (And.intro ⟨by omega, by omega⟩ (hQ _ (by omega) (by omega) (by first | exact Or.inl ⟨rfl, by simp [yLet]; omega⟩ | exact Or.inr ⟨rfl, by simp [yLet]; omega⟩)))
        · exact And.intro (zrtb (by omega)) (And.intro ⟨by omega, by omega⟩ (hQ _ (by omega) (by omega) (by first | exact Or.inl ⟨rfl, by simp [yLet]; omega⟩ | exact Or.inr ⟨rfl, by simp [yLet]; omega⟩)))
def yk_X5_isNameByte : zC := fun As μ Q => ∃ (a1 : Int), As = [.inl a1] ∧ ((-2147483648) ≤ a1 ∧ a1 ≤ 2147483647) ∧ (∀ (v : Int), 0 ≤ v → v ≤ 1 → ((v = 1 ∧ (yNb a1 = true)) ∨ (v = 0 ∧ ¬ (yNb a1 = true))) → Q (some (.inl v)) μ)
set_option maxHeartbeats 4000000 in
theorem ym_X5_isNameByte {g : zΓ} (hg : zg g) (d : Nat) (hd : 2 ≤ d) : zOk g d 77 yk_X5_isNameByte := by
  obtain ⟨d, rfl⟩ : ∃ d', d = d' + 1 := ⟨d - 1, by omega⟩
  refine zOk_straight hg (show mt_tab[77]? = some mt_X5_isNameByte from rfl) [] 18 rfl fun As μ Q hC => ?_
  obtain ⟨a1, rfl, ha1, hQ⟩ := hC
  refine ⟨rfl, ?_⟩
  refine ⟨yk_X5_isLetter, ym_X5_isLetter hg d (by omega), _, rfl, ⟨by omega, by omega⟩, ?_⟩
  intro x1 kx1 lx1 p2
  refine And.intro ⟨by omega, by omega⟩ (And.intro (fun c3 => ?_) (fun c3 => ?_))
  · have bc3 := yp1 p2 c3
    exact And.intro (zrtb (by omega)) (And.intro ⟨by omega, by omega⟩ (hQ _ (by omega) (by omega) (by first | exact Or.inl ⟨rfl, by simp_all [yNb]⟩ | exact Or.inr ⟨rfl, by simp_all [yNb] <;> omega⟩)))
  · have bc3 := yp0 p2 c3
    refine And.intro ⟨⟨by omega, by omega⟩, ⟨by omega, by omega⟩⟩ (And.intro (fun c4 => ?_) (fun c4 => ?_))
    · exact And.intro (zrtb (by omega)) (And.intro ⟨by omega, by omega⟩ (hQ _ (by omega) (by omega) (by first | exact Or.inl ⟨rfl, by simp_all [yNb]⟩ | exact Or.inr ⟨rfl, by simp_all [yNb] <;> omega⟩)))
    · refine And.intro ⟨⟨by omega, by omega⟩, ⟨by omega, by omega⟩⟩ (And.intro (fun c5 => ?_) (fun c5 => ?_))
      · exact And.intro (zrtb (by omega)) (And.intro ⟨by omega, by omega⟩ (hQ _ (by omega) (by omega) (by first | exact Or.inl ⟨rfl, by simp_all [yNb]⟩ | exact Or.inr ⟨rfl, by simp_all [yNb] <;> omega⟩)))
      · exact And.intro (zrtb (by omega)) (And.intro ⟨by omega, by omega⟩ (hQ _ (by omega) (by omega) (by first | exact Or.inl ⟨rfl, by simp_all [yNb]⟩ | exact Or.inr ⟨rfl, by simp_all [yNb] <;> omega⟩)))
def yk_X8_isParameter : zC := fun As μ Q => ∃ (a1 : Int), As = [.inl a1] ∧ ((-2147483648) ≤ a1 ∧ a1 ≤ 2147483647) ∧ (∀ (v : Int), 0 ≤ v → v ≤ 1 → ((v = 1 ∧ (32 ≤ a1 ∧ a1 < 112)) ∨ (v = 0 ∧ ¬ (32 ≤ a1 ∧ a1 < 112))) → Q (some (.inl v)) μ)
set_option maxHeartbeats 4000000 in
theorem ym_X8_isParameter {g : zΓ} (hg : zg g) (d : Nat) (hd : 1 ≤ d) : zOk g d 115 yk_X8_isParameter := by
  obtain ⟨d, rfl⟩ : ∃ d', d = d' + 1 := ⟨d - 1, by omega⟩
  refine zOk_straight hg (show mt_tab[115]? = some mt_X8_isParameter from rfl) [] 15 rfl fun As μ Q hC => ?_
  obtain ⟨a1, rfl, ha1, hQ⟩ := hC
  refine ⟨rfl, ?_⟩
  refine And.intro ⟨⟨by omega, by omega⟩, ⟨by omega, by omega⟩⟩ (And.intro (fun c1 => ?_) (fun c1 => ?_))
  · exact And.intro (zrtb (by omega)) (And.intro ⟨by omega, by omega⟩ (hQ _ (by omega) (by omega) (by first | exact Or.inl ⟨rfl, by omega⟩ | exact Or.inr ⟨rfl, by omega⟩)))
  · refine And.intro ⟨⟨by omega, by omega⟩, ⟨by omega, by omega⟩⟩ (And.intro (fun c2 => ?_) (fun c2 => ?_))
    · exact And.intro (zrtb (by omega)) (And.intro ⟨by omega, by omega⟩ (hQ _ (by omega) (by omega) (by first | exact Or.inl ⟨rfl, by omega⟩ | exact Or.inr ⟨rfl, by omega⟩)))
    · exact And.intro (zrtb (by omega)) (And.intro ⟨by omega, by omega⟩ (hQ _ (by omega) (by omega) (by first | exact Or.inl ⟨rfl, by omega⟩ | exact Or.inr ⟨rfl, by omega⟩)))
def yk_X3_isBehindBound : zC := fun As μ Q => ∃ (a1 : Int), As = [.inl a1] ∧ ((-2147483648) ≤ a1 ∧ a1 ≤ 2147483647) ∧ (∀ (v : Int), 0 ≤ v → v ≤ 1 → ((v = 1 ∧ (a1 = 38 ∨ a1 = 44 ∨ a1 = 58 ∨ a1 = 59)) ∨ (v = 0 ∧ ¬ (a1 = 38 ∨ a1 = 44 ∨ a1 = 58 ∨ a1 = 59))) → Q (some (.inl v)) μ)
set_option maxHeartbeats 4000000 in
theorem ym_X3_isBehindBound {g : zΓ} (hg : zg g) (d : Nat) (hd : 1 ≤ d) : zOk g d 45 yk_X3_isBehindBound := by
  obtain ⟨d, rfl⟩ : ∃ d', d = d' + 1 := ⟨d - 1, by omega⟩
  refine zOk_straight hg (show mt_tab[45]? = some mt_X3_isBehindBound from rfl) [] 21 rfl fun As μ Q hC => ?_
  obtain ⟨a1, rfl, ha1, hQ⟩ := hC
  refine ⟨rfl, ?_⟩
  refine And.intro ⟨⟨by omega, by omega⟩, ⟨by omega, by omega⟩⟩ (And.intro (fun c1 => ?_) (fun c1 => ?_))
  · exact And.intro (zrtb (by omega)) (And.intro ⟨by omega, by omega⟩ (hQ _ (by omega) (by omega) (by first | exact Or.inl ⟨rfl, by omega⟩ | exact Or.inr ⟨rfl, by omega⟩)))
  · refine And.intro ⟨⟨by omega, by omega⟩, ⟨by omega, by omega⟩⟩ (And.intro (fun c2 => ?_) (fun c2 => ?_))
    · exact And.intro (zrtb (by omega)) (And.intro ⟨by omega, by omega⟩ (hQ _ (by omega) (by omega) (by first | exact Or.inl ⟨rfl, by omega⟩ | exact Or.inr ⟨rfl, by omega⟩)))
    · refine And.intro ⟨⟨by omega, by omega⟩, ⟨by omega, by omega⟩⟩ (And.intro (fun c3 => ?_) (fun c3 => ?_))
      · exact And.intro (zrtb (by omega)) (And.intro ⟨by omega, by omega⟩ (hQ _ (by omega) (by omega) (by first | exact Or.inl ⟨rfl, by omega⟩ | exact Or.inr ⟨rfl, by omega⟩)))
      · refine And.intro ⟨⟨by omega, by omega⟩, ⟨by omega, by omega⟩⟩ (And.intro (fun c4 => ?_) (fun c4 => ?_))
        · exact And.intro (zrtb (by omega)) (And.intro ⟨by omega, by omega⟩ (hQ _ (by omega) (by omega) (by first | exact Or.inl ⟨rfl, by omega⟩ | exact Or.inr ⟨rfl, by omega⟩)))
        · exact And.intro (zrtb (by omega)) (And.intro ⟨by omega, by omega⟩ (hQ _ (by omega) (by omega) (by first | exact Or.inl ⟨rfl, by omega⟩ | exact Or.inr ⟨rfl, by omega⟩)))
def yk_X4_arity : zC := fun As μ Q => ∃ (t : Nat) (a1 : Int), As = [.inr (.inr (t, 14)), .inl a1] ∧ (t = 14 ∨ t = 32) ∧ ((-2147483648) ≤ a1 ∧ a1 ≤ 2147483647) ∧ (∀ (v : Int), 0 ≤ v → v ≤ 4 → (v = if 0 ≤ a1 ∧ a1 < μ.1 t ((12 : Nat) : Int) then μ.1 (Nat.add t 3) a1 else if a1 = 201 ∨ a1 = 202 then 1 else 0) → Q (some (.inl v)) μ)
set_option maxHeartbeats 4000000 in
theorem ym_X4_arity {g : zΓ} (hg : zg g) (d : Nat) (hd : 1 ≤ d) : zOk g d 63 yk_X4_arity := by
  obtain ⟨d, rfl⟩ : ∃ d', d = d' + 1 := ⟨d - 1, by omega⟩
  refine zOk_straight hg (show mt_tab[63]? = some mt_X4_arity from rfl) [] 29 rfl fun As μ Q hC => ?_
  obtain ⟨t, a1, rfl, ht, ha1, hQ⟩ := hC
  refine ⟨rfl, ?_⟩
  refine And.intro ⟨by omega, by omega⟩ (And.intro (fun c1 => ?_) (fun c1 => ?_))
  · refine And.intro ⟨⟨by omega, by omega⟩, ⟨by omega, by omega⟩⟩ (And.intro (fun c2 => ?_) (fun c2 => ?_))
    · exfalso; omega
    · refine And.intro ⟨⟨by omega, by omega⟩, ⟨by omega, by omega⟩⟩ (And.intro (fun c3 => ?_) (fun c3 => ?_))
      · exact And.intro trivial (And.intro ⟨by omega, by omega⟩ (hQ _ (by omega) (by omega) (by subst_vars; first | (rw [if_pos (by omega)]; done) | (rw [if_neg (by omega), if_pos (by omega)]; done) | (rw [if_neg (by omega), if_neg (by omega)]; done))))
      · exfalso; omega
  · refine And.intro ht ?_
    intro x4 hx4 kx4 lx4
    refine And.intro ⟨⟨by omega, by omega⟩, ⟨by omega, by omega⟩⟩ (And.intro (fun c5 => ?_) (fun c5 => ?_))
    · refine And.intro ⟨⟨by omega, by omega⟩, ⟨by omega, by omega⟩⟩ (And.intro (fun c6 => ?_) (fun c6 => ?_))
      · exact And.intro trivial (And.intro ⟨by omega, by omega⟩ (hQ _ (by omega) (by omega) (by subst_vars; first | (rw [if_pos (by omega)]; done) | (rw [if_neg (by omega), if_pos (by omega)]; done) | (rw [if_neg (by omega), if_neg (by omega)]; done))))
      · refine And.intro ⟨⟨by omega, by omega⟩, ⟨by omega, by omega⟩⟩ (And.intro (fun c7 => ?_) (fun c7 => ?_))
        · exact And.intro trivial (And.intro ⟨by omega, by omega⟩ (hQ _ (by omega) (by omega) (by subst_vars; first | (rw [if_pos (by omega)]; done) | (rw [if_neg (by omega), if_pos (by omega)]; done) | (rw [if_neg (by omega), if_neg (by omega)]; done))))
        · exact And.intro trivial (And.intro ⟨by omega, by omega⟩ (hQ _ (by omega) (by omega) (by subst_vars; first | (rw [if_pos (by omega)]; done) | (rw [if_neg (by omega), if_pos (by omega)]; done) | (rw [if_neg (by omega), if_neg (by omega)]; done))))
    · refine And.intro ⟨⟨by omega, by omega⟩, ⟨by omega, by omega⟩⟩ (And.intro (fun c8 => ?_) (fun c8 => ?_))
      · exfalso; omega
      · refine And.intro ht ?_
        refine And.intro (zfa (o := 3) (y2 := 17) ht rfl) ?_
        refine And.intro ⟨by omega, by omega⟩ ?_
        intro x9 hx9 kx9 lx9
        exact And.intro trivial (And.intro ⟨by omega, by omega⟩ (hQ _ (by omega) (by omega) (by subst_vars; first | (rw [if_pos (by omega)]; done) | (rw [if_neg (by omega), if_pos (by omega)]; done) | (rw [if_neg (by omega), if_neg (by omega)]; done))))
