def yt_X8_way (As : List zV) (μ : zM) (Q : Option zV → zM → Prop) (T : Nat → zM → Prop) : Prop := ∃ (a1 : Int) (a2 : Int), As = [.inr (.inr (0, 0)), .inl a1, .inl a2] ∧ ((-2147483648) ≤ a1 ∧ a1 ≤ 2147483647) ∧ ((-2147483648) ≤ a2 ∧ a2 ≤ 2147483647) ∧ (∀ (v : Int) (t : Nat), (t : Int) = μ.1 0 ((3 : Nat) : Int) → (t = 14 ∨ t = 32) → ((0 ≤ a1 ∧ a1 < μ.1 t ((13 : Nat) : Int)) ∧ (0 ≤ a2 ∧ a2 < μ.1 t ((13 : Nat) : Int))) → v = μ.1 7 (a1 * 80 + a2) → Q (some (.inl v)) μ) ∧ ((∀ t : Nat, (t : Int) = μ.1 0 ((3 : Nat) : Int) → ¬ ((0 ≤ a1 ∧ a1 < μ.1 t ((13 : Nat) : Int)) ∧ (0 ≤ a2 ∧ a2 < μ.1 t ((13 : Nat) : Int)))) → T 30 μ)
set_option maxHeartbeats 4000000 in
theorem yx_X8_way {g : zΓ} (hg : zg g) (d : Nat) (hd : 1 ≤ d) {As : List zV} {μ : zM} {Q : Option zV → zM → Prop} {T : Nat → zM → Prop} {w : mW} (hw : zRep μ w) (hr : ∀ v ∈ As, zrf v) (hC : yt_X8_way As μ Q T) : Nat.ble (zsum As) mt_X8_way.2.2.1.1 = true ∧ zE g d mt_X8_way none [] (fun _ _ _ => False) Q T (0, zlv (zargs 0 As), [], w) := by
  refine zx_line hg (show mt_tab[104]? = some mt_X8_way from rfl) [] 34 rfl hw hr ?_
  obtain ⟨a1, a2, rfl, ha1, ha2, hQ, hT30⟩ := hC
  refine ⟨rfl, ?_⟩
  refine And.intro ⟨by omega, by omega⟩ (And.intro (fun c1 => ?_) (fun c1 => ?_))
  · exact hT30 (fun t et hI => by first | omega | (have ett : t = t2 := (by omega); subst ett; omega))
  · intro t2 et2 ht2
    refine And.intro ht2.1 ?_
    intro x3 hx3 kx3 lx3
    refine And.intro ⟨⟨by omega, by omega⟩, ⟨by omega, by omega⟩⟩ (And.intro (fun c4 => ?_) (fun c4 => ?_))
    · exact hT30 (fun t et hI => by first | omega | (have ett : t = t2 := (by omega); subst ett; omega))
    · refine And.intro ⟨by omega, by omega⟩ (And.intro (fun c5 => ?_) (fun c5 => ?_))
      · exact hT30 (fun t et hI => by first | omega | (have ett : t = t2 := (by omega); subst ett; omega))
      · intro t6 et6 ht6
        have qt6 : t2 = t6 := by omega
        subst qt6
        refine And.intro ht2.1 ?_
        intro x7 hx7 kx7 lx7
        refine And.intro ⟨⟨by omega, by omega⟩, ⟨by omega, by omega⟩⟩ (And.intro (fun c8 => ?_) (fun c8 => ?_))
        · refine ⟨zk_X8_at, zm_X8_at hg d (by omega), _, _, _, rfl, ⟨by omega, by omega⟩, ?_⟩
          intro x9 kx9 lx9 fx9 gx9
          exact And.intro trivial (And.intro ⟨by omega, by omega⟩ (hQ _ t2 et2 ht2.1 (by omega) (fx9 ⟨by omega, by omega⟩).1))
        · exact hT30 (fun t et hI => by first | omega | (have ett : t = t2 := (by omega); subst ett; omega))
