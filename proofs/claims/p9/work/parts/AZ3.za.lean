def yk_X4_overLength : zC := fun As μ Q => ∃ (t : Nat) (a1 : Int) (a2 : Int), As = [.inr (.inr (t, 14)), .inl a1, .inl a2] ∧ (t = 14 ∨ t = 32) ∧ (0 ≤ a1 ∧ a1 ≤ 20) ∧ (0 ≤ a2 ∧ a2 ≤ 20) ∧ (∀ (v : Int), (-60200) ≤ v → v ≤ 200 → (v = μ.1 (Nat.add t 14) (a1 * 21 + a2)) → Q (some (.inl v)) μ)
set_option maxHeartbeats 4000000 in
theorem ym_X4_overLength {g : zΓ} (hg : zg g) (d : Nat) (hd : 2 ≤ d) : zOk g d 65 yk_X4_overLength := by
  obtain ⟨d, rfl⟩ : ∃ d', d = d' + 1 := ⟨d - 1, by omega⟩
  refine zOk_straight hg (show mt_tab[65]? = some mt_X4_overLength from rfl) [] 15 rfl fun As μ Q hC => ?_
  obtain ⟨t, a1, a2, rfl, ht, ha1, ha2, hQ⟩ := hC
  refine ⟨rfl, ?_⟩
  refine And.intro ht ?_
  refine And.intro (zfa (o := 12) (y2 := 26) ht rfl) ?_
  refine ⟨zk_X8_at, zm_X8_at hg d (by omega), _, _, _, rfl, ⟨by omega, by omega⟩, ?_⟩
  refine And.intro (zfa (o := 2) (y2 := 28) (zfa (o := 12) (y2 := 26) ht rfl) rfl) ?_
  intro x1 kx1 lx1 fx1 gx1
  have hx1 : x1 = μ.1 (Nat.add (Nat.add t 12) 2) ((a1 * 21) + a2) := (fx1 ⟨by omega, by omega⟩).1
  have ix1 := (fx1 ⟨by omega, by omega⟩).2
  exact And.intro trivial (And.intro ⟨by omega, by omega⟩ (hQ _ (by omega) (by omega) hx1))
