/-! ### the class makes a node -/
def tA (μ : zM) (t : Nat) (h : Int) : Int := if 0 ≤ h ∧ h < μ.1 t ((12 : Nat) : Int) then μ.1 (Nat.add t 3) h else if h = 201 ∨ h = 202 then 1 else 0
def zfT (μ μ' : zM) : Prop := zl0 μ μ' ∧ (∀ j : Nat, (j < 59 ∨ 65 ≤ j) → μ'.1 j = μ.1 j) ∧ μ'.1 59 ((6 : Nat) : Int) = μ.1 59 ((6 : Nat) : Int)
theorem zfT_r (μ : zM) : zfT μ μ := ⟨zl0_r μ, fun _ _ => rfl, rfl⟩
theorem tA_f {μ m : zM} {t : Nat} (ht : t = 14 ∨ t = 32) (f : ∀ j : Nat, (j < 59 ∨ 65 ≤ j) → m.1 j = μ.1 j) : tA m t = tA μ t := by
  funext h
  unfold tA
  rw [f t (by omega), f (Nat.add t 3) (by simp only [Nat.add_eq]; omega)]
def tPa (μ : zM) (a b n : Int) : Prop := ∀ i : Int, 0 ≤ i → i < n → μ.1 65 (a + i) = μ.1 63 (b + i)
def gk_X6_hasParts : zC := fun As μ Q => ∃ (a1 : Int) (a2 : Int) (a3 : Int), As = [.inr (.inr (59, 59)), .inl a1, .inl a2, .inl a3] ∧ (0 ≤ a1 ∧ a1 < 7000) ∧ (0 ≤ a2 ∧ a2 + a3 ≤ 300) ∧ (0 ≤ a3 ∧ a3 ≤ 4) ∧ (0 ≤ μ.1 61 a1 ∧ μ.1 61 a1 + a3 ≤ 7000) ∧ (∀ (v : Int), 0 ≤ v → v ≤ 1 → ((v = 1 ∧ tPa μ a2 (μ.1 61 a1) a3) ∨ (v = 0 ∧ ¬ tPa μ a2 (μ.1 61 a1) a3)) → Q (some (.inl v)) μ)
set_option maxHeartbeats 4000000 in
theorem gm_X6_hasParts {g : zΓ} (hg : zg g) (d : Nat) (hd : 1 ≤ d) : zOk g d 88 gk_X6_hasParts := by
  obtain ⟨d, rfl⟩ : ∃ d', d = d' + 1 := ⟨d - 1, by omega⟩
  refine zOk_loop hg (show mt_tab[88]? = some mt_X6_hasParts from rfl) ([(66, [0, 2, 3, 4, 5])], []) 61 rfl fun As μ Q hC => ?_
  obtain ⟨a1, a2, a3, rfl, ha1, ha2, ha3, h61, hQ⟩ := hC
  refine ⟨rfl, fun pc vs μ' n => ∃ (v5 : Int), vs = [.inr (.inr (59, 59)), .inl a2, .inl a3, .inl (μ.1 61 a1), .inl v5] ∧ μ' = μ ∧ (0 ≤ v5 ∧ v5 ≤ a3) ∧ tPa μ a2 (μ.1 61 a1) v5 ∧ n = (Int.toNat (2147483648 - v5)), ?_, ?_, trivial⟩
  · refine And.intro ⟨by omega, by omega⟩ (And.intro (fun c1 => ?_) (fun c1 => ?_))
    · exfalso; omega
    · refine And.intro ⟨⟨by omega, by omega⟩, ⟨by omega, by omega⟩⟩ (And.intro (fun c9 => ?_) (fun c9 => ?_))
      · exfalso; omega
      · refine And.intro ⟨by omega, by omega⟩ ?_
        intro x17 hx17 kx17 lx17
        refine And.intro ⟨by omega, by omega⟩ (And.intro (fun c18 => ?_) (fun c18 => ?_))
        · exfalso; omega
        · refine And.intro ⟨by omega, by omega⟩ (And.intro (fun c20 => ?_) (fun c20 => ?_))
          · exfalso; omega
          · refine And.intro ⟨⟨by omega, by omega⟩, ⟨by omega, by omega⟩⟩ (And.intro (fun c21 => ?_) (fun c21 => ?_))
            · exfalso; omega
            · refine And.intro ⟨⟨by omega, by omega⟩, ⟨by omega, by omega⟩⟩ (And.intro (fun c23 => ?_) (fun c23 => ?_))
              · refine Exists.intro (Int.toNat (2147483648 - 0)) ?_
                exact ⟨_, by rw [hx17], rfl, ⟨by omega, by omega⟩, (fun i a b => by exfalso; omega), rfl⟩
              · exfalso; omega
  · intro vs m0 n hI
    obtain ⟨v5, rfl, rfl, hv5, P, rfl⟩ := hI
    refine And.intro ⟨⟨by omega, by omega⟩, ⟨by omega, by omega⟩⟩ (And.intro (fun c25 => ?_) (fun c25 => ?_))
    · have e : v5 = a3 := by omega
      rw [e] at P
      exact And.intro (zrtb (by omega)) (And.intro ⟨by omega, by omega⟩ (hQ _ (by omega) (by omega) (Or.inl ⟨rfl, P⟩)))
    · refine And.intro ⟨by omega, by omega⟩ ?_
      intro x26 hx26 kx26 lx26
      refine And.intro ⟨by omega, by omega⟩ ?_
      intro x27 hx27 kx27 lx27
      refine And.intro ⟨⟨by omega, by omega⟩, ⟨by omega, by omega⟩⟩ (And.intro (fun c28 => ?_) (fun c28 => ?_))
      · refine Exists.intro (Int.toNat (2147483648 - (v5 + 1))) (And.intro (by omega) ?_)
        refine ⟨_, rfl, rfl, ⟨by omega, by omega⟩, (fun i a b => ?_), rfl⟩
        by_cases q : i = v5
        · rw [q, ← hx26, ← hx27]; exact c28
        · exact P i a (by omega)
      · exact And.intro (zrtb (by omega)) (And.intro ⟨by omega, by omega⟩ (hQ _ (by omega) (by omega) (Or.inr ⟨rfl, fun z => c28 (by rw [hx26, hx27]; exact z v5 (by omega) (by omega))⟩)))
