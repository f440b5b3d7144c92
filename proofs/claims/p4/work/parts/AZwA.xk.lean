def yt_X8_isAbove (As : List zV) (μ : zM) (Q : Option zV → zM → Prop) (T : Nat → zM → Prop) : Prop := ∃ (a1 : Int) (a2 : Int), As = [.inr (.inr (0, 0)), .inl a1, .inl a2] ∧ ((-2147483648) ≤ a1 ∧ a1 ≤ 2147483647) ∧ ((-2147483648) ≤ a2 ∧ a2 ≤ 2147483647) ∧ (∀ (v : Int) (t : Nat), (t : Int) = μ.1 0 ((3 : Nat) : Int) → (t = 14 ∨ t = 32) → ((0 ≤ a1 ∧ a1 < μ.1 t ((12 : Nat) : Int)) ∧ (0 ≤ a2 ∧ a2 < μ.1 t ((12 : Nat) : Int))) → ((v = 1 ∧ 0 < μ.1 (Nat.add t 14) (a1 * 21 + a2)) ∨ (v = 0 ∧ ¬ 0 < μ.1 (Nat.add t 14) (a1 * 21 + a2))) → Q (some (.inl v)) μ) ∧ ((∀ t : Nat, (t : Int) = μ.1 0 ((3 : Nat) : Int) → ¬ ((0 ≤ a1 ∧ a1 < μ.1 t ((12 : Nat) : Int)) ∧ (0 ≤ a2 ∧ a2 < μ.1 t ((12 : Nat) : Int)))) → T 30 μ)
set_option maxHeartbeats 4000000 in
theorem yx_X8_isAbove {g : zΓ} (hg : zg g) (d : Nat) (hd : 2 ≤ d) {As : List zV} {μ : zM} {Q : Option zV → zM → Prop} {T : Nat → zM → Prop} {w : mW} (hw : zRep μ w) (hr : ∀ v ∈ As, zrf v) (hC : yt_X8_isAbove As μ Q T) : Nat.ble (zsum As) mt_X8_isAbove.2.2.1.1 = true ∧ zE g d mt_X8_isAbove none [] (fun _ _ _ => False) Q T (0, zlv (zargs 0 As), [], w) := by
  refine zx_line hg (show mt_tab[102]? = some mt_X8_isAbove from rfl) [] 34 rfl hw hr ?_
  obtain ⟨a1, a2, rfl, ha1, ha2, hQ, hT30⟩ := hC
  refine ⟨rfl, ?_⟩
  refine And.intro ⟨by omega, by omega⟩ (And.intro (fun c1 => ?_) (fun c1 => ?_))
  · exact hT30 (fun t et hI => by first | omega | (have ett : t = t2 := (by omega); subst ett; omega))
  · intro t2 et2 ht2
    refine And.intro ht2.1 ?_
    intro x3 hx3 kx3 lx3
    refine And.intro ⟨⟨by omega, by omega⟩, ⟨by omega, by omega⟩⟩ (And.intro (fun c4 => ?_) (fun c4 => ?_))
    · exact hT30 (fun t et hI => by first | omega | (have ett : t = t2 := (by omega); subst ett; omega))
    · refine And.intro ⟨by omega, by omega⟩ (And.intro (fun c5 => ?_) (fun c5 => ?_))
      · exact hT30 (fun t et hI => by first | omega | (have ett : t = t2 := (by omega); subst ett; omega))
      · intro t6 et6 ht6
        have qt6 : t2 = t6 := by omega
        subst qt6
        refine And.intro ht2.1 ?_
        intro x7 hx7 kx7 lx7
        refine And.intro ⟨⟨by omega, by omega⟩, ⟨by omega, by omega⟩⟩ (And.intro (fun c8 => ?_) (fun c8 => ?_))
        · intro t9 et9 ht9
          have qt9 : t2 = t9 := by omega
          subst qt9
          refine And.intro ht2.1 ⟨yk_X4_overLength, ym_X4_overLength hg d (by omega), _, _, _, rfl, ht2.1, ⟨by omega, by omega⟩, ⟨by omega, by omega⟩, ?_⟩
          intro x10 kx10 lx10 hx10
          refine And.intro ⟨by omega, by omega⟩ (And.intro (fun c11 => ?_) (fun c11 => ?_))
          · exact And.intro trivial (And.intro ⟨by omega, by omega⟩ (hQ _ t2 et2 ht2.1 (by omega) (by rw [← hx10]; first | exact Or.inl ⟨rfl, by omega⟩ | exact Or.inr ⟨rfl, by omega⟩)))
          · exact And.intro trivial (And.intro ⟨by omega, by omega⟩ (hQ _ t2 et2 ht2.1 (by omega) (by rw [← hx10]; first | exact Or.inl ⟨rfl, by omega⟩ | exact Or.inr ⟨rfl, by omega⟩)))
        · exact hT30 (fun t et hI => by first | omega | (have ett : t = t2 := (by omega); subst ett; omega))
def wk_X8_clear : zC := fun As μ Q => As = [.inr (.inr (0, 0))] ∧ (μ.2 28 = 441 ∧ μ.2 46 = 441) ∧ (∀ t : Nat, (t = 14 ∨ t = 32) → ∃ c, yCo μ (Nat.add t 12) c ∧ 1024 ≤ μ.2 c) ∧ (zcq μ) ∧ (∀ (μ' : zM), zle μ μ' → (μ'.1 1 ((4 : Nat) : Int) = 0) → (μ'.1 0 ((3 : Nat) : Int) = μ.1 0 ((3 : Nat) : Int) ∧ μ'.1 0 ((4 : Nat) : Int) = μ.1 0 ((4 : Nat) : Int)) → (∀ s : Nat, (s : Int) = μ.1 0 ((3 : Nat) : Int) → (s = 14 ∨ s = 32) ∧ yTab μ' s yB0) → (μ'.1 0 ((7 : Nat) : Int) = 0) → Q none μ')
set_option maxHeartbeats 4000000 in
theorem wm_X8_clear {g : zΓ} (hg : zg g) (d : Nat) (hd : 7 ≤ d) : zOk g d 110 wk_X8_clear := by
  obtain ⟨d, rfl⟩ : ∃ d', d = d' + 1 := ⟨d - 1, by omega⟩
  refine zOk_straight hg (show mt_tab[110]? = some mt_X8_clear from rfl) [] 31 rfl fun As μ Q hC => ?_
  obtain ⟨rfl, hp2, hp3, hp0, hQ⟩ := hC
  refine ⟨rfl, ?_⟩
  have z0 : zle μ μ := zle_r μ
  refine And.intro ⟨by omega, by omega⟩ ?_
  intro m1 em1
  have z2 := zle_0 z0 (zl0_u em1 (Or.inl (by decide)) (Or.inl ⟨by decide, by decide⟩))
  have : m1.1 1 ((4 : Nat) : Int) = 0 := by rw [em1]; exact zu_at
  refine And.intro ⟨by omega, by omega⟩ ?_
  intro m3 em3
  have z4 := zle_0 z2 (zl0_u em3 (Or.inl (by decide)) (Or.inl ⟨by decide, by decide⟩))
  have : m3.1 1 ((4 : Nat) : Int) = m1.1 1 ((4 : Nat) : Int) := by rw [em3]; exact congrFun (zu_ne (show (1 : Nat) ≠ 10 by omega)) _
  refine And.intro ⟨by omega, by omega⟩ ?_
  intro m5 em5
  have z6 := zle_0 z4 (zl0_u em5 (Or.inl (by decide)) (Or.inl ⟨by decide, by decide⟩))
  have : m5.1 1 ((4 : Nat) : Int) = m3.1 1 ((4 : Nat) : Int) := by rw [em5]; exact congrFun (zu_ne (show (1 : Nat) ≠ 0 by omega)) _
  intro t7 et7 ht7
  have HT : t7 = 14 ∨ t7 = 32 := ht7.1
  obtain ⟨c0, CC0⟩ := hp3 t7 HT
  have E5 : m5 = zu (zu (zu μ 1 ((4 : Nat) : Int) 0) 10 ((3 : Nat) : Int) 0) 0 ((7 : Nat) : Int) 0 := by rw [em5, em3, em1]
  have T2 : m5.2 = μ.2 := by rw [E5]; rfl
  have K5 : ∀ j : Nat, j ≠ 0 → j ≠ 1 → j ≠ 10 → m5.1 j = μ.1 j := fun j a b c => by rw [em5, zu_ne a, em3, zu_ne c, em1, zu_ne b]
  have Z5 : ∀ k : Int, (k = ((3 : Nat) : Int) ∨ k = ((4 : Nat) : Int)) → m5.1 0 k = μ.1 0 k := fun k hk => by rw [em5, zu_nk (by omega), em3, zu_ne (by decide), em1, zu_ne (by decide)]
  refine And.intro ht7.1 ⟨wk_X4_startOver, wm_X4_startOver hg d (by omega), _, _, rfl, ht7.1, (by rw [T2]; rcases HT with h0 | h0 <;> rw [h0]; exact hp2.1; exact hp2.2), ⟨⟨⟨by rw [K5 _ (by simp only [Nat.add_eq]; omega) (by simp only [Nat.add_eq]; omega) (by simp only [Nat.add_eq]; omega)]; exact CC0.1.1.1, CC0.1.1.2⟩, CC0.1.2⟩, by rw [T2]; exact CC0.2⟩, (zcq_t hp0 z6), ?_⟩
  intro m8 qm8 p8 f8
  have z9 := zle_t z6 qm8
  have : m8.1 1 ((4 : Nat) : Int) = m5.1 1 ((4 : Nat) : Int) ∨ m8.1 1 ((4 : Nat) : Int) = 0 := qm8.2.2.2.1
  intro t10 et10 ht10
  refine ⟨xk_X7_measure, xm_X7_measure hg d (by omega), _, rfl, ht10.1, ?_⟩
  intro m11 qm11
  have z12 := zle_0 z9 qm11.1
  have : m11.1 1 ((4 : Nat) : Int) = m8.1 1 ((4 : Nat) : Int) ∨ m11.1 1 ((4 : Nat) : Int) = 0 := qm11.1.1.2.2.2.1
  intro t13 et13 ht13
  refine ⟨xk_X0_startOver, xm_X0_startOver hg d (by omega), _, _, rfl, ht13.1, ⟨by omega, by omega⟩, ?_⟩
  intro m14 qm14
  have z15 := zle_0 z12 qm14.1
  have : m14.1 1 ((4 : Nat) : Int) = m11.1 1 ((4 : Nat) : Int) ∨ m14.1 1 ((4 : Nat) : Int) = 0 := qm14.1.1.2.2.2.1
  exact And.intro rfl (hQ _ z15 (by omega) ⟨by rw [qm14.2 0 (by decide), qm11.2 0 (by decide), p8.2 0 (by decide)]; exact Z5 _ (Or.inl rfl), by rw [qm14.2 0 (by decide), qm11.2 0 (by decide), p8.2 0 (by decide)]; exact Z5 _ (Or.inr rfl)⟩ (fun s hs => by have hs1 : s = t7 := (by have h0 := et7; rw [Z5 _ (Or.inl rfl)] at h0; omega); rw [hs1]; exact ⟨HT, yTab_fr (μ := m8) ⟨p8.1.1, fun k d a b c e => (p8.1.2.1 k d a b c e).1⟩ HT (fun j hj => by rw [qm14.2 j (by omega), qm11.2 j (by omega)])⟩) (by rw [qm14.2 0 (by decide), qm11.2 0 (by decide), p8.2 0 (by decide), E5, zu_at]))
