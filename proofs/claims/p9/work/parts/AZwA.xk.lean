theorem yI0_z : yI0 yB0 := ⟨⟨by decide, by decide, by decide⟩, fun k a b => by
  have hk : k = 0 := by have : k < 1 := b; omega
  subst hk
  decide⟩
def wk_X8_clear : zC := fun As μ Q => As = [.inr (.inr (0, 0))] ∧ (μ.2 28 = 441 ∧ μ.2 46 = 441) ∧ (∀ t : Nat, (t = 14 ∨ t = 32) → ∃ c, yCo μ (Nat.add t 12) c ∧ 1024 ≤ μ.2 c) ∧ (zcq μ) ∧ (∀ (μ' : zM), zle μ μ' → (μ'.1 1 ((4 : Nat) : Int) = 0) → (μ'.1 0 ((3 : Nat) : Int) = μ.1 0 ((3 : Nat) : Int) ∧ μ'.1 0 ((4 : Nat) : Int) = μ.1 0 ((4 : Nat) : Int)) → (∀ s : Nat, (s : Int) = μ.1 0 ((3 : Nat) : Int) → (s = 14 ∨ s = 32) ∧ yTab μ' s yB0 ∧ yCd μ' s yB0 ∧ zox s μ μ') → (μ'.1 0 ((7 : Nat) : Int) = 0) → (cWf μ' yB0) → Q none μ')
set_option maxHeartbeats 4000000 in
theorem wm_X8_clear {g : zΓ} (hg : zg g) (d : Nat) (hd : 7 ≤ d) : zOk g d 110 wk_X8_clear := by
  obtain ⟨d, rfl⟩ : ∃ d', d = d' + 1 := ⟨d - 1, by omega⟩
  refine zOk_straight hg (show mt_tab[110]? = some mt_X8_clear from rfl) [] 31 rfl fun As μ Q hC => ?_
  obtain ⟨rfl, hp2, hp3, hp0, hQ⟩ := hC
  refine ⟨rfl, ?_⟩
  have z0 : zle μ μ := zle_r μ
  refine And.intro ⟨by omega, by omega⟩ ?_
  intro m1 em1
  have z2 := zle_0 z0 (zl0_u em1 (Or.inl (by decide)) (Or.inl ⟨by decide, by decide⟩))
  have : m1.1 1 ((4 : Nat) : Int) = 0 := by rw [em1]; exact zu_at
  refine And.intro ⟨by omega, by omega⟩ ?_
  intro m3 em3
  have z4 := zle_0 z2 (zl0_u em3 (Or.inl (by decide)) (Or.inl ⟨by decide, by decide⟩))
  have : m3.1 1 ((4 : Nat) : Int) = m1.1 1 ((4 : Nat) : Int) := by rw [em3]; exact congrFun (zu_ne (show (1 : Nat) ≠ 10 by omega)) _
  refine And.intro ⟨by omega, by omega⟩ ?_
  intro m5 em5
  have z6 := zle_0 z4 (zl0_u em5 (Or.inl (by decide)) (Or.inl ⟨by decide, by decide⟩))
  have : m5.1 1 ((4 : Nat) : Int) = m3.1 1 ((4 : Nat) : Int) := by rw [em5]; exact congrFun (zu_ne (show (1 : Nat) ≠ 0 by omega)) _
  intro t7 et7 ht7
  have HT : t7 = 14 ∨ t7 = 32 := ht7.1
  obtain ⟨c0, CC0⟩ := hp3 t7 HT
  have E5 : m5 = zu (zu (zu μ 1 ((4 : Nat) : Int) 0) 10 ((3 : Nat) : Int) 0) 0 ((7 : Nat) : Int) 0 := by rw [em5, em3, em1]
  have T2 : m5.2 = μ.2 := by rw [E5]; rfl
  have K5 : ∀ j : Nat, j ≠ 0 → j ≠ 1 → j ≠ 10 → m5.1 j = μ.1 j := fun j a b c => by rw [em5, zu_ne a, em3, zu_ne c, em1, zu_ne b]
  have Z5 : ∀ k : Int, (k = ((3 : Nat) : Int) ∨ k = ((4 : Nat) : Int)) → m5.1 0 k = μ.1 0 k := fun k hk => by rw [em5, zu_nk (by omega), em3, zu_ne (by decide), em1, zu_ne (by decide)]
  refine And.intro ht7.1 ⟨wk_X4_startOver, wm_X4_startOver hg d (by omega), _, _, rfl, ht7.1, (by rw [T2]; rcases HT with h0 | h0 <;> rw [h0]; exact hp2.1; exact hp2.2), ⟨⟨⟨by rw [K5 _ (by simp only [Nat.add_eq]; omega) (by simp only [Nat.add_eq]; omega) (by simp only [Nat.add_eq]; omega)]; exact CC0.1.1.1, CC0.1.1.2⟩, CC0.1.2⟩, by rw [T2]; exact CC0.2⟩, (zcq_t hp0 z6), ?_⟩
  intro m8 qm8 p8 f8 l8 ox8
  have z9 := zle_t z6 qm8
  have : m8.1 1 ((4 : Nat) : Int) = m5.1 1 ((4 : Nat) : Int) ∨ m8.1 1 ((4 : Nat) : Int) = 0 := qm8.2.2.2.1
  intro t10 et10 ht10
  have T10 : t10 = t7 := by have h0 := et10; rw [p8.2 0 (by decide)] at h0; omega
  have ME : yMe m8 t10 yB0 := by
    rw [T10]
    exact ⟨p8.1.1, ⟨fun k i _ _ c d => absurd d (by show ¬ i < 0; omega), fun p i a b _ _ => absurd b (by show ¬ p < 0; omega)⟩, yCv_0, l8, ⟨by decide, by decide⟩, yI0_z⟩
  refine ⟨wk_X7_measure, wm_X7_measure hg d (by omega), _, _, rfl, ht10.1, ME, ?_⟩
  intro m11 qm11 w11
  have z12 := zle_0 z9 qm11.1
  have : m11.1 1 ((4 : Nat) : Int) = m8.1 1 ((4 : Nat) : Int) ∨ m11.1 1 ((4 : Nat) : Int) = 0 := qm11.1.1.2.2.2.1
  intro t13 et13 ht13
  refine ⟨xk_X0_startOver, xm_X0_startOver hg d (by omega), _, _, rfl, ht13.1, ⟨by omega, by omega⟩, ?_⟩
  intro m14 qm14
  have z15 := zle_0 z12 qm14.1
  have : m14.1 1 ((4 : Nat) : Int) = m11.1 1 ((4 : Nat) : Int) ∨ m14.1 1 ((4 : Nat) : Int) = 0 := qm14.1.1.2.2.2.1
  have FJ : ∀ j : Nat, (14 ≤ j ∧ j < 52) ∨ (109 ≤ j ∧ j < 1000000) → m14.1 j = m8.1 j := fun j hj => by rw [qm14.2 j (by omega), qm11.2 j (by omega)]
  have F2 : m14.2 = m8.2 := by rw [qm14.1.2, qm11.1.2]
  have O5 : zox t7 μ m5 := zox_c (fun j hj => K5 j (by omega) (by omega) (by omega)) T2 (fun s hs => by rw [K5 s (by omega) (by omega) (by omega)])
  exact And.intro rfl (hQ _ z15 (by omega) ⟨by rw [qm14.2 0 (by decide), qm11.2 0 (by decide), p8.2 0 (by decide)]; exact Z5 _ (Or.inl rfl), by rw [qm14.2 0 (by decide), qm11.2 0 (by decide), p8.2 0 (by decide)]; exact Z5 _ (Or.inr rfl)⟩ (fun s hs => by have hs1 : s = t7 := (by have h0 := et7; rw [Z5 _ (Or.inl rfl)] at h0; omega); rw [hs1]; exact ⟨HT, yTab_fr (μ := m8) ⟨p8.1.1, fun k d a b c e => (p8.1.2.1 k d a b c e).1⟩ HT (fun j hj => by rw [qm14.2 j (by omega), qm11.2 j (by omega)]), yCd_f (μ := m8) ⟨p8.1.2.1, p8.1.2.2.1.1, p8.1.2.2.1.2.2, p8.1.2.2.2⟩ HT FJ F2, zox_t (zox_t O5 ox8) (zox_c (fun j hj => FJ j (by omega)) F2 (fun s hs => by rw [FJ s (by omega)]))⟩) (by rw [qm14.2 0 (by decide), qm11.2 0 (by decide), p8.2 0 (by decide), E5, zu_at]) (cWf_f (w11 yGd_0) (qm14.2 7 (by decide))))
