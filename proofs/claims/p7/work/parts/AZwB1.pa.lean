/-! ### parameter of the class -/
def ypa (μ : zM) (t : Nat) (p w : Int) (v : Int64) : Prop := (w = 0 ∧ v = (Int32.ofInt (μ.1 (Nat.add t 7) p)).toInt64) ∨ (w = 1 ∧ v = (Int32.ofInt (μ.1 (Nat.add t 8) p)).toInt64) ∨ (w = 2 ∧ v.toInt = μ.1 (Nat.add 3000000 (Nat.add t 6)) p) ∨ (w = 3 ∧ v = (Int32.ofInt (μ.1 9 p)).toInt64)
def yt_X8_parameter (As : List zV) (μ : zM) (Q : Option zV → zM → Prop) (T : Nat → zM → Prop) : Prop := ∃ (a1 : Int) (a2 : Int), As = [.inr (.inr (0, 0)), .inl a1, .inl a2] ∧ ((-2147483648) ≤ a1 ∧ a1 ≤ 2147483647) ∧ ((-2147483648) ≤ a2 ∧ a2 ≤ 2147483647) ∧ (∀ (v : Int64) (t : Nat), (t : Int) = μ.1 0 ((3 : Nat) : Int) → (t = 14 ∨ t = 32) → (0 ≤ a1 ∧ a1 < μ.1 t ((13 : Nat) : Int)) → (0 ≤ a2 ∧ a2 ≤ 3) → ypa μ t a1 a2 v → Q (some (.inr (.inl v))) μ) ∧ ((∀ t : Nat, (t : Int) = μ.1 0 ((3 : Nat) : Int) → ¬ (0 ≤ a1 ∧ a1 < μ.1 t ((13 : Nat) : Int))) → T 15 μ) ∧ ((∀ t : Nat, (t : Int) = μ.1 0 ((3 : Nat) : Int) → (0 ≤ a1 ∧ a1 < μ.1 t ((13 : Nat) : Int))) → ¬ (0 ≤ a2 ∧ a2 ≤ 3) → T 107 μ)
set_option maxHeartbeats 4000000 in
theorem yx_X8_parameter {g : zΓ} (hg : zg g) (d : Nat) (hd : 1 ≤ d) {As : List zV} {μ : zM} {Q : Option zV → zM → Prop} {T : Nat → zM → Prop} {w : mW} (hw : zRep μ w) (hr : ∀ v ∈ As, zrf v) (hC : yt_X8_parameter As μ Q T) : Nat.ble (zsum As) mt_X8_parameter.2.2.1.1 = true ∧ zE g d mt_X8_parameter none [] (fun _ _ _ => False) Q T (0, zlv (zargs 0 As), [], w) := by
  refine zx_line hg (show mt_tab[103]? = some mt_X8_parameter from rfl) [] 51 rfl hw hr ?_
  obtain ⟨a1, a2, rfl, ha1, ha2, hQ, hT15, hT107⟩ := hC
  refine ⟨rfl, ?_⟩
  refine And.intro ⟨by omega, by omega⟩ (And.intro (fun c1 => ?_) (fun c1 => ?_))
  · exact hT15 (fun t et hI => by first | omega | (have ett : t = t2 := (by omega); subst ett; omega))
  · intro t2 et2 ht2
    refine And.intro ht2.1 ?_
    intro x3 hx3 kx3 lx3
    refine And.intro ⟨⟨by omega, by omega⟩, ⟨by omega, by omega⟩⟩ (And.intro (fun c4 => ?_) (fun c4 => ?_))
    · refine And.intro ⟨by omega, by omega⟩ (And.intro (fun c5 => ?_) (And.intro (fun c5 => ?_) (And.intro (fun c5 => ?_) (And.intro (fun c5 => ?_) (And.intro (fun c5 => ?_) trivial)))))
      · exact hT107 (fun t et => by have ett : t = t2 := (by omega); subst ett; omega) (by omega)
      · intro t6 et6 ht6
        have qt6 : t2 = t6 := by omega
        subst qt6
        refine And.intro ht2.1 ?_
        refine ⟨zk_X8_at, zm_X8_at hg d (by omega), _, _, _, rfl, ⟨by omega, by omega⟩, ?_⟩
        refine And.intro (zfa (o := 7) (y2 := 21) ht2.1 rfl) ?_
        intro x7 kx7 lx7 fx7 gx7
        exact And.intro rfl (hQ _ t2 et2 ht2.1 ⟨by omega, by omega⟩ ⟨by omega, by omega⟩ (Or.inl ⟨by omega, by rw [(fx7 ⟨by omega, by omega⟩).1]⟩))
      · intro t8 et8 ht8
        have qt8 : t2 = t8 := by omega
        subst qt8
        refine And.intro ht2.1 ?_
        refine ⟨zk_X8_at, zm_X8_at hg d (by omega), _, _, _, rfl, ⟨by omega, by omega⟩, ?_⟩
        refine And.intro (zfa (o := 8) (y2 := 22) ht2.1 rfl) ?_
        intro x9 kx9 lx9 fx9 gx9
        exact And.intro rfl (hQ _ t2 et2 ht2.1 ⟨by omega, by omega⟩ ⟨by omega, by omega⟩ (Or.inr (Or.inl ⟨by omega, by rw [(fx9 ⟨by omega, by omega⟩).1]⟩)))
      · intro t10 et10 ht10
        have qt10 : t2 = t10 := by omega
        subst qt10
        refine And.intro ht2.1 ?_
        refine ⟨zk_X8_nameAt, zm_X8_nameAt hg d (by omega), _, _, _, rfl, ⟨by omega, by omega⟩, by decide, (zfa (o := 6) (y2 := 20) ht2.1 rfl), ?_⟩
        intro j11 hj11
        exact And.intro rfl (hQ _ t2 et2 ht2.1 ⟨by omega, by omega⟩ ⟨by omega, by omega⟩ (Or.inr (Or.inr (Or.inl ⟨by omega, hj11 (by omega) (by rw [if_neg (by decide)]; omega)⟩))))
      · refine ⟨zk_X8_at, zm_X8_at hg d (by omega), _, _, _, rfl, ⟨by omega, by omega⟩, ?_⟩
        intro x12 kx12 lx12 fx12 gx12
        exact And.intro rfl (hQ _ t2 et2 ht2.1 ⟨by omega, by omega⟩ ⟨by omega, by omega⟩ (Or.inr (Or.inr (Or.inr ⟨by omega, by rw [(fx12 ⟨by omega, by omega⟩).1]⟩))))
    · exact hT15 (fun t et hI => by first | omega | (have ett : t = t2 := (by omega); subst ett; omega))
