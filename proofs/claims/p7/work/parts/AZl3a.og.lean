/-! ### on a ROUND with a way that GROWS: the reference -/
def ogN (μ : zM) (a n v3 v4 : Int) : Prop := ∀ u v : Int, 0 ≤ u → 0 ≤ v → v < n → (u < v3 ∨ (u = v3 ∧ v < v4)) → ¬ rOq μ a u v
def ogI (μ : zM) (a n v2 v3 v4 : Int) : Prop := (v2 = 1 ∧ rOg μ n a) ∨ (v2 = 0 ∧ ogN μ a n v3 v4)
theorem ogI_0 {μ : zM} {a n : Int} : ogI μ a n 0 0 0 := Or.inr ⟨rfl, fun u v a b c d => by exfalso; omega⟩
theorem ogI_r {μ : zM} {a n v2 v3 : Int} (h : ogI μ a n v2 v3 0) (e : n ≤ v3 ∨ v2 ≠ 0) : (v2 = 1 ∧ rOg μ n a) ∨ (v2 = 0 ∧ ¬ rOg μ n a) := by
  rcases h with h | ⟨h1, h2⟩
  · exact Or.inl h
  · refine Or.inr ⟨h1, ?_⟩
    rintro ⟨u, v, hu, hv, q⟩
    exact h2 u v hu.1 hv.1 hv.2 (Or.inl (by omega)) q
theorem ogI_n {μ : zM} {a n v2 v3 v4 : Int} (h : ogI μ a n v2 v3 v4) (e : n ≤ v4 ∨ v2 ≠ 0) : ogI μ a n v2 (v3 + 1) 0 := by
  rcases h with h | ⟨h1, h2⟩
  · exact Or.inl h
  · exact Or.inr ⟨h1, fun u v a b c d => h2 u v a b c (by omega)⟩
theorem ogI_z {μ : zM} {a n v2 v3 v4 : Int} (h : ogI μ a n v2 v3 v4) (e : v2 = 0) : ogN μ a n v3 v4 := by
  rcases h with ⟨h1, -⟩ | ⟨h1, h2⟩
  · exfalso; omega
  · exact h2
theorem ogI_s {μ : zM} {a n w v3 v4 : Int} (h : ogN μ a n v3 v4) (h3 : 0 ≤ v3 ∧ v3 < n) (h4 : 0 ≤ v4 ∧ v4 < n) (hw : (w = 1 ∧ rOq μ a v3 v4) ∨ (w = 0 ∧ ¬ rOq μ a v3 v4)) : ogI μ a n w v3 (v4 + 1) := by
  rcases hw with ⟨w1, w2⟩ | ⟨w1, w2⟩
  · exact Or.inl ⟨w1, v3, v4, h3, h4, w2⟩
  · refine Or.inr ⟨w1, fun u v a b c d => ?_⟩
    by_cases q : u = v3 ∧ v = v4
    · rw [q.1, q.2]; exact w2
    · exact h u v a b c (by omega)
def yk_X9_isOnGrowing : zC := fun As μ Q => ∃ (a1 : Int), As = [.inr (.inr (66, 66)), .inl a1] ∧ (0 ≤ a1 ∧ a1 ≤ 79) ∧ (∀ (v : Int), 0 ≤ v → v ≤ 1 → ((v = 1 ∧ rOg μ (μ.1 66 ((21 : Nat) : Int)) a1) ∨ (v = 0 ∧ ¬ rOg μ (μ.1 66 ((21 : Nat) : Int)) a1)) → Q (some (.inl v)) μ)
set_option maxHeartbeats 4000000 in
theorem ym_X9_isOnGrowing {g : zΓ} (hg : zg g) (d : Nat) (hd : 1 ≤ d) : zOk g d 155 yk_X9_isOnGrowing := by
  obtain ⟨d, rfl⟩ : ∃ d', d = d' + 1 := ⟨d - 1, by omega⟩
  refine zOk_loop hg (show mt_tab[155]? = some mt_X9_isOnGrowing from rfl) ([(4, [0, 1, 2, 3]), (19, [0, 1, 2, 3, 4])], []) 79 rfl fun As μ Q hC => ?_
  obtain ⟨a1, rfl, ha1, hQ⟩ := hC
  refine ⟨rfl, fun pc vs μ' n => (pc = 4 → ∃ (v1 : Int) (v2 : Int) (v3 : Int), vs = [.inr (.inr (66, 66)), .inl v1, .inl v2, .inl v3] ∧ μ' = μ ∧ (0 ≤ v1 ∧ v1 ≤ 79) ∧ (0 ≤ v2 ∧ v2 ≤ 1) ∧ (0 ≤ v3 ∧ v3 ≤ 80) ∧ v1 = a1 ∧ ogI μ' a1 (μ'.1 66 ((21 : Nat) : Int)) v2 v3 0 ∧ n = (Int.toNat ((2147483648 - v3) * 4294967296 + 4294967295))) ∧ (pc = 19 → ∃ (v1 : Int) (v2 : Int) (v3 : Int) (v4 : Int), vs = [.inr (.inr (66, 66)), .inl v1, .inl v2, .inl v3, .inl v4] ∧ μ' = μ ∧ (0 ≤ v1 ∧ v1 ≤ 79) ∧ (0 ≤ v2 ∧ v2 ≤ 1) ∧ (0 ≤ v3 ∧ v3 ≤ 79) ∧ (0 ≤ v4 ∧ v4 ≤ 80) ∧ v1 = a1 ∧ v3 < (μ'.1 66 ((21 : Nat) : Int)) ∧ ogI μ' a1 (μ'.1 66 ((21 : Nat) : Int)) v2 v3 v4 ∧ n = (Int.toNat ((2147483648 - v3) * 4294967296 + (2147483648 - v4)))), ?_, ?_, ?_, trivial⟩
  · refine Exists.intro (Int.toNat ((2147483648 - 0) * 4294967296 + 4294967295)) ?_
    exact ⟨(fun _ => ⟨_, _, _, rfl, rfl, ⟨by omega, by omega⟩, ⟨by omega, by omega⟩, ⟨by omega, by omega⟩, rfl, ogI_0, rfl⟩), (fun h => absurd h (by decide))⟩
  · intro vs m0 n hI
    replace hI := hI.1 rfl
    obtain ⟨v1, v2, v3, rfl, rfl, hv1, hv2, hv3, h1, OG, rfl⟩ := hI
    subst h1
    intro x1 hx1 kx1 lx1
    refine And.intro ⟨⟨by omega, by omega⟩, ⟨by omega, by omega⟩⟩ (And.intro (fun c2 => ?_) (fun c2 => ?_))
    · exact And.intro (zrtb (by omega)) (And.intro ⟨by omega, by omega⟩ (hQ _ (by omega) (by omega) (ogI_r OG (Or.inl (by omega)))))
    · refine And.intro ⟨by omega, by omega⟩ (And.intro (fun c3 => ?_) (fun c3 => ?_))
      · exact And.intro (zrtb (by omega)) (And.intro ⟨by omega, by omega⟩ (hQ _ (by omega) (by omega) (ogI_r OG (Or.inr (by omega)))))
      · refine Exists.intro (Int.toNat ((2147483648 - v3) * 4294967296 + (2147483648 - 0))) (And.intro (by omega) ?_)
        exact ⟨(fun h => absurd h (by decide)), (fun _ => ⟨_, _, _, _, rfl, rfl, ⟨by omega, by omega⟩, ⟨by omega, by omega⟩, ⟨by omega, by omega⟩, ⟨by omega, by omega⟩, rfl, by omega, OG, rfl⟩)⟩
  · intro vs m0 n hI
    replace hI := hI.2 rfl
    obtain ⟨v1, v2, v3, v4, rfl, rfl, hv1, hv2, hv3, hv4, h1, h3, OG, rfl⟩ := hI
    subst h1
    intro x4 hx4 kx4 lx4
    refine And.intro ⟨⟨by omega, by omega⟩, ⟨by omega, by omega⟩⟩ (And.intro (fun c5 => ?_) (fun c5 => ?_))
    · refine Exists.intro (Int.toNat ((2147483648 - (v3 + 1)) * 4294967296 + 4294967295)) (And.intro (by omega) ?_)
      exact ⟨(fun _ => ⟨_, _, _, rfl, rfl, ⟨by omega, by omega⟩, ⟨by omega, by omega⟩, ⟨by omega, by omega⟩, rfl, (ogI_n OG (Or.inl (by omega))), rfl⟩), (fun h => absurd h (by decide))⟩
    · refine And.intro ⟨by omega, by omega⟩ (And.intro (fun c6 => ?_) (fun c6 => ?_))
      · refine Exists.intro (Int.toNat ((2147483648 - (v3 + 1)) * 4294967296 + 4294967295)) (And.intro (by omega) ?_)
        exact ⟨(fun _ => ⟨_, _, _, rfl, rfl, ⟨by omega, by omega⟩, ⟨by omega, by omega⟩, ⟨by omega, by omega⟩, rfl, (ogI_n OG (Or.inr (by omega))), rfl⟩), (fun h => absurd h (by decide))⟩
      · have hno := ogI_z OG (by omega)
        refine And.intro ⟨⟨by omega, by omega⟩, ⟨by omega, by omega⟩⟩ (And.intro (fun c7 => ?_) (fun c7 => ?_))
        · refine And.intro ⟨⟨by omega, by omega⟩, ⟨by omega, by omega⟩⟩ (And.intro (fun c8 => ?_) (fun c8 => ?_))
          · refine And.intro ⟨by omega, by omega⟩ ?_
            intro x9 hx9 kx9 lx9
            refine And.intro ⟨⟨by omega, by omega⟩, ⟨by omega, by omega⟩⟩ (And.intro (fun c10 => ?_) (fun c10 => ?_))
            · refine Exists.intro (Int.toNat ((2147483648 - v3) * 4294967296 + (2147483648 - (v4 + 1)))) (And.intro (by omega) ?_)
              exact ⟨(fun h => absurd h (by decide)), (fun _ => ⟨_, _, _, _, rfl, rfl, ⟨by omega, by omega⟩, ⟨by omega, by omega⟩, ⟨by omega, by omega⟩, ⟨by omega, by omega⟩, rfl, by omega, (ogI_s hno ⟨by omega, by omega⟩ ⟨by omega, by omega⟩ (by unfold rOq; first | exact Or.inl ⟨rfl, by omega⟩ | exact Or.inr ⟨rfl, by omega⟩)), rfl⟩)⟩
            · refine And.intro ⟨by omega, by omega⟩ (And.intro (fun c11 => ?_) (fun c11 => ?_))
              · exfalso; omega
              · refine And.intro ⟨by omega, by omega⟩ (And.intro (fun c12 => ?_) (fun c12 => ?_))
                · exfalso; omega
                · refine Exists.intro (Int.toNat ((2147483648 - v3) * 4294967296 + (2147483648 - (v4 + 1)))) (And.intro (by omega) ?_)
                  exact ⟨(fun h => absurd h (by decide)), (fun _ => ⟨_, _, _, _, rfl, rfl, ⟨by omega, by omega⟩, ⟨by omega, by omega⟩, ⟨by omega, by omega⟩, ⟨by omega, by omega⟩, rfl, by omega, (ogI_s hno ⟨by omega, by omega⟩ ⟨by omega, by omega⟩ (by unfold rOq; first | exact Or.inl ⟨rfl, by omega⟩ | exact Or.inr ⟨rfl, by omega⟩)), rfl⟩)⟩
          · refine And.intro ⟨by omega, by omega⟩ ?_
            intro x13 hx13 kx13 lx13
            refine And.intro ⟨by omega, by omega⟩ (And.intro (fun c14 => ?_) (fun c14 => ?_))
            · refine And.intro ⟨by omega, by omega⟩ ?_
              intro x15 hx15 kx15 lx15
              refine And.intro ⟨⟨by omega, by omega⟩, ⟨by omega, by omega⟩⟩ (And.intro (fun c16 => ?_) (fun c16 => ?_))
              · refine Exists.intro (Int.toNat ((2147483648 - v3) * 4294967296 + (2147483648 - (v4 + 1)))) (And.intro (by omega) ?_)
                exact ⟨(fun h => absurd h (by decide)), (fun _ => ⟨_, _, _, _, rfl, rfl, ⟨by omega, by omega⟩, ⟨by omega, by omega⟩, ⟨by omega, by omega⟩, ⟨by omega, by omega⟩, rfl, by omega, (ogI_s hno ⟨by omega, by omega⟩ ⟨by omega, by omega⟩ (by unfold rOq; first | exact Or.inl ⟨rfl, by omega⟩ | exact Or.inr ⟨rfl, by omega⟩)), rfl⟩)⟩
              · refine And.intro ⟨by omega, by omega⟩ (And.intro (fun c17 => ?_) (fun c17 => ?_))
                · exfalso; omega
                · refine And.intro ⟨by omega, by omega⟩ (And.intro (fun c18 => ?_) (fun c18 => ?_))
                  · refine Exists.intro (Int.toNat ((2147483648 - v3) * 4294967296 + (2147483648 - (v4 + 1)))) (And.intro (by omega) ?_)
                    exact ⟨(fun h => absurd h (by decide)), (fun _ => ⟨_, _, _, _, rfl, rfl, ⟨by omega, by omega⟩, ⟨by omega, by omega⟩, ⟨by omega, by omega⟩, ⟨by omega, by omega⟩, rfl, by omega, (ogI_s hno ⟨by omega, by omega⟩ ⟨by omega, by omega⟩ (by unfold rOq; first | exact Or.inl ⟨rfl, by omega⟩ | exact Or.inr ⟨rfl, by omega⟩)), rfl⟩)⟩
                  · exfalso; omega
            · refine And.intro ⟨by omega, by omega⟩ ?_
              intro x19 hx19 kx19 lx19
              refine And.intro ⟨⟨by omega, by omega⟩, ⟨by omega, by omega⟩⟩ (And.intro (fun c20 => ?_) (fun c20 => ?_))
              · refine Exists.intro (Int.toNat ((2147483648 - v3) * 4294967296 + (2147483648 - (v4 + 1)))) (And.intro (by omega) ?_)
                exact ⟨(fun h => absurd h (by decide)), (fun _ => ⟨_, _, _, _, rfl, rfl, ⟨by omega, by omega⟩, ⟨by omega, by omega⟩, ⟨by omega, by omega⟩, ⟨by omega, by omega⟩, rfl, by omega, (ogI_s hno ⟨by omega, by omega⟩ ⟨by omega, by omega⟩ (by unfold rOq; first | exact Or.inl ⟨rfl, by omega⟩ | exact Or.inr ⟨rfl, by omega⟩)), rfl⟩)⟩
              · refine And.intro ⟨by omega, by omega⟩ (And.intro (fun c21 => ?_) (fun c21 => ?_))
                · exfalso; omega
                · refine And.intro ⟨by omega, by omega⟩ (And.intro (fun c22 => ?_) (fun c22 => ?_))
                  · exfalso; omega
                  · refine Exists.intro (Int.toNat ((2147483648 - v3) * 4294967296 + (2147483648 - (v4 + 1)))) (And.intro (by omega) ?_)
                    exact ⟨(fun h => absurd h (by decide)), (fun _ => ⟨_, _, _, _, rfl, rfl, ⟨by omega, by omega⟩, ⟨by omega, by omega⟩, ⟨by omega, by omega⟩, ⟨by omega, by omega⟩, rfl, by omega, (ogI_s hno ⟨by omega, by omega⟩ ⟨by omega, by omega⟩ (by unfold rOq; first | exact Or.inl ⟨rfl, by omega⟩ | exact Or.inr ⟨rfl, by omega⟩)), rfl⟩)⟩
        · refine And.intro ⟨by omega, by omega⟩ ?_
          intro x23 hx23 kx23 lx23
          refine And.intro ⟨by omega, by omega⟩ (And.intro (fun c24 => ?_) (fun c24 => ?_))
          · refine And.intro ⟨⟨by omega, by omega⟩, ⟨by omega, by omega⟩⟩ (And.intro (fun c25 => ?_) (fun c25 => ?_))
            · refine And.intro ⟨by omega, by omega⟩ ?_
              intro x26 hx26 kx26 lx26
              refine And.intro ⟨⟨by omega, by omega⟩, ⟨by omega, by omega⟩⟩ (And.intro (fun c27 => ?_) (fun c27 => ?_))
              · refine Exists.intro (Int.toNat ((2147483648 - v3) * 4294967296 + (2147483648 - (v4 + 1)))) (And.intro (by omega) ?_)
                exact ⟨(fun h => absurd h (by decide)), (fun _ => ⟨_, _, _, _, rfl, rfl, ⟨by omega, by omega⟩, ⟨by omega, by omega⟩, ⟨by omega, by omega⟩, ⟨by omega, by omega⟩, rfl, by omega, (ogI_s hno ⟨by omega, by omega⟩ ⟨by omega, by omega⟩ (by unfold rOq; first | exact Or.inl ⟨rfl, by omega⟩ | exact Or.inr ⟨rfl, by omega⟩)), rfl⟩)⟩
              · refine And.intro ⟨by omega, by omega⟩ (And.intro (fun c28 => ?_) (fun c28 => ?_))
                · refine Exists.intro (Int.toNat ((2147483648 - v3) * 4294967296 + (2147483648 - (v4 + 1)))) (And.intro (by omega) ?_)
                  exact ⟨(fun h => absurd h (by decide)), (fun _ => ⟨_, _, _, _, rfl, rfl, ⟨by omega, by omega⟩, ⟨by omega, by omega⟩, ⟨by omega, by omega⟩, ⟨by omega, by omega⟩, rfl, by omega, (ogI_s hno ⟨by omega, by omega⟩ ⟨by omega, by omega⟩ (by unfold rOq; first | exact Or.inl ⟨rfl, by omega⟩ | exact Or.inr ⟨rfl, by omega⟩)), rfl⟩)⟩
                · exfalso; omega
            · refine And.intro ⟨by omega, by omega⟩ ?_
              intro x29 hx29 kx29 lx29
              refine And.intro ⟨by omega, by omega⟩ (And.intro (fun c30 => ?_) (fun c30 => ?_))
              · refine And.intro ⟨by omega, by omega⟩ ?_
                intro x31 hx31 kx31 lx31
                refine And.intro ⟨⟨by omega, by omega⟩, ⟨by omega, by omega⟩⟩ (And.intro (fun c32 => ?_) (fun c32 => ?_))
                · refine Exists.intro (Int.toNat ((2147483648 - v3) * 4294967296 + (2147483648 - (v4 + 1)))) (And.intro (by omega) ?_)
                  exact ⟨(fun h => absurd h (by decide)), (fun _ => ⟨_, _, _, _, rfl, rfl, ⟨by omega, by omega⟩, ⟨by omega, by omega⟩, ⟨by omega, by omega⟩, ⟨by omega, by omega⟩, rfl, by omega, (ogI_s hno ⟨by omega, by omega⟩ ⟨by omega, by omega⟩ (by unfold rOq; first | exact Or.inl ⟨rfl, by omega⟩ | exact Or.inr ⟨rfl, by omega⟩)), rfl⟩)⟩
                · refine And.intro ⟨by omega, by omega⟩ (And.intro (fun c33 => ?_) (fun c33 => ?_))
                  · refine Exists.intro (Int.toNat ((2147483648 - v3) * 4294967296 + (2147483648 - (v4 + 1)))) (And.intro (by omega) ?_)
                    exact ⟨(fun h => absurd h (by decide)), (fun _ => ⟨_, _, _, _, rfl, rfl, ⟨by omega, by omega⟩, ⟨by omega, by omega⟩, ⟨by omega, by omega⟩, ⟨by omega, by omega⟩, rfl, by omega, (ogI_s hno ⟨by omega, by omega⟩ ⟨by omega, by omega⟩ (by unfold rOq; first | exact Or.inl ⟨rfl, by omega⟩ | exact Or.inr ⟨rfl, by omega⟩)), rfl⟩)⟩
                  · exfalso; omega
              · refine And.intro ⟨by omega, by omega⟩ ?_
                intro x34 hx34 kx34 lx34
                refine And.intro ⟨⟨by omega, by omega⟩, ⟨by omega, by omega⟩⟩ (And.intro (fun c35 => ?_) (fun c35 => ?_))
                · refine Exists.intro (Int.toNat ((2147483648 - v3) * 4294967296 + (2147483648 - (v4 + 1)))) (And.intro (by omega) ?_)
                  exact ⟨(fun h => absurd h (by decide)), (fun _ => ⟨_, _, _, _, rfl, rfl, ⟨by omega, by omega⟩, ⟨by omega, by omega⟩, ⟨by omega, by omega⟩, ⟨by omega, by omega⟩, rfl, by omega, (ogI_s hno ⟨by omega, by omega⟩ ⟨by omega, by omega⟩ (by unfold rOq; first | exact Or.inl ⟨rfl, by omega⟩ | exact Or.inr ⟨rfl, by omega⟩)), rfl⟩)⟩
                · refine And.intro ⟨by omega, by omega⟩ (And.intro (fun c36 => ?_) (fun c36 => ?_))
                  · refine Exists.intro (Int.toNat ((2147483648 - v3) * 4294967296 + (2147483648 - (v4 + 1)))) (And.intro (by omega) ?_)
                    exact ⟨(fun h => absurd h (by decide)), (fun _ => ⟨_, _, _, _, rfl, rfl, ⟨by omega, by omega⟩, ⟨by omega, by omega⟩, ⟨by omega, by omega⟩, ⟨by omega, by omega⟩, rfl, by omega, (ogI_s hno ⟨by omega, by omega⟩ ⟨by omega, by omega⟩ (by unfold rOq; first | exact Or.inl ⟨rfl, by omega⟩ | exact Or.inr ⟨rfl, by omega⟩)), rfl⟩)⟩
                  · exfalso; omega
          · refine And.intro ⟨⟨by omega, by omega⟩, ⟨by omega, by omega⟩⟩ (And.intro (fun c37 => ?_) (fun c37 => ?_))
            · refine And.intro ⟨by omega, by omega⟩ ?_
              intro x38 hx38 kx38 lx38
              refine And.intro ⟨⟨by omega, by omega⟩, ⟨by omega, by omega⟩⟩ (And.intro (fun c39 => ?_) (fun c39 => ?_))
              · refine Exists.intro (Int.toNat ((2147483648 - v3) * 4294967296 + (2147483648 - (v4 + 1)))) (And.intro (by omega) ?_)
                exact ⟨(fun h => absurd h (by decide)), (fun _ => ⟨_, _, _, _, rfl, rfl, ⟨by omega, by omega⟩, ⟨by omega, by omega⟩, ⟨by omega, by omega⟩, ⟨by omega, by omega⟩, rfl, by omega, (ogI_s hno ⟨by omega, by omega⟩ ⟨by omega, by omega⟩ (by unfold rOq; first | exact Or.inl ⟨rfl, by omega⟩ | exact Or.inr ⟨rfl, by omega⟩)), rfl⟩)⟩
              · refine And.intro ⟨by omega, by omega⟩ (And.intro (fun c40 => ?_) (fun c40 => ?_))
                · exfalso; omega
                · refine And.intro ⟨by omega, by omega⟩ (And.intro (fun c41 => ?_) (fun c41 => ?_))
                  · exfalso; omega
                  · refine Exists.intro (Int.toNat ((2147483648 - v3) * 4294967296 + (2147483648 - (v4 + 1)))) (And.intro (by omega) ?_)
                    exact ⟨(fun h => absurd h (by decide)), (fun _ => ⟨_, _, _, _, rfl, rfl, ⟨by omega, by omega⟩, ⟨by omega, by omega⟩, ⟨by omega, by omega⟩, ⟨by omega, by omega⟩, rfl, by omega, (ogI_s hno ⟨by omega, by omega⟩ ⟨by omega, by omega⟩ (by unfold rOq; first | exact Or.inl ⟨rfl, by omega⟩ | exact Or.inr ⟨rfl, by omega⟩)), rfl⟩)⟩
            · refine And.intro ⟨by omega, by omega⟩ ?_
              intro x42 hx42 kx42 lx42
              refine And.intro ⟨by omega, by omega⟩ (And.intro (fun c43 => ?_) (fun c43 => ?_))
              · refine And.intro ⟨by omega, by omega⟩ ?_
                intro x44 hx44 kx44 lx44
                refine And.intro ⟨⟨by omega, by omega⟩, ⟨by omega, by omega⟩⟩ (And.intro (fun c45 => ?_) (fun c45 => ?_))
                · refine Exists.intro (Int.toNat ((2147483648 - v3) * 4294967296 + (2147483648 - (v4 + 1)))) (And.intro (by omega) ?_)
                  exact ⟨(fun h => absurd h (by decide)), (fun _ => ⟨_, _, _, _, rfl, rfl, ⟨by omega, by omega⟩, ⟨by omega, by omega⟩, ⟨by omega, by omega⟩, ⟨by omega, by omega⟩, rfl, by omega, (ogI_s hno ⟨by omega, by omega⟩ ⟨by omega, by omega⟩ (by unfold rOq; first | exact Or.inl ⟨rfl, by omega⟩ | exact Or.inr ⟨rfl, by omega⟩)), rfl⟩)⟩
                · refine And.intro ⟨by omega, by omega⟩ (And.intro (fun c46 => ?_) (fun c46 => ?_))
                  · exfalso; omega
                  · refine And.intro ⟨by omega, by omega⟩ (And.intro (fun c47 => ?_) (fun c47 => ?_))
                    · refine Exists.intro (Int.toNat ((2147483648 - v3) * 4294967296 + (2147483648 - (v4 + 1)))) (And.intro (by omega) ?_)
                      exact ⟨(fun h => absurd h (by decide)), (fun _ => ⟨_, _, _, _, rfl, rfl, ⟨by omega, by omega⟩, ⟨by omega, by omega⟩, ⟨by omega, by omega⟩, ⟨by omega, by omega⟩, rfl, by omega, (ogI_s hno ⟨by omega, by omega⟩ ⟨by omega, by omega⟩ (by unfold rOq; first | exact Or.inl ⟨rfl, by omega⟩ | exact Or.inr ⟨rfl, by omega⟩)), rfl⟩)⟩
                    · exfalso; omega
              · refine And.intro ⟨by omega, by omega⟩ ?_
                intro x48 hx48 kx48 lx48
                refine And.intro ⟨⟨by omega, by omega⟩, ⟨by omega, by omega⟩⟩ (And.intro (fun c49 => ?_) (fun c49 => ?_))
                · refine Exists.intro (Int.toNat ((2147483648 - v3) * 4294967296 + (2147483648 - (v4 + 1)))) (And.intro (by omega) ?_)
                  exact ⟨(fun h => absurd h (by decide)), (fun _ => ⟨_, _, _, _, rfl, rfl, ⟨by omega, by omega⟩, ⟨by omega, by omega⟩, ⟨by omega, by omega⟩, ⟨by omega, by omega⟩, rfl, by omega, (ogI_s hno ⟨by omega, by omega⟩ ⟨by omega, by omega⟩ (by unfold rOq; first | exact Or.inl ⟨rfl, by omega⟩ | exact Or.inr ⟨rfl, by omega⟩)), rfl⟩)⟩
                · refine And.intro ⟨by omega, by omega⟩ (And.intro (fun c50 => ?_) (fun c50 => ?_))
                  · exfalso; omega
                  · refine And.intro ⟨by omega, by omega⟩ (And.intro (fun c51 => ?_) (fun c51 => ?_))
                    · exfalso; omega
                    · refine Exists.intro (Int.toNat ((2147483648 - v3) * 4294967296 + (2147483648 - (v4 + 1)))) (And.intro (by omega) ?_)
                      exact ⟨(fun h => absurd h (by decide)), (fun _ => ⟨_, _, _, _, rfl, rfl, ⟨by omega, by omega⟩, ⟨by omega, by omega⟩, ⟨by omega, by omega⟩, ⟨by omega, by omega⟩, rfl, by omega, (ogI_s hno ⟨by omega, by omega⟩ ⟨by omega, by omega⟩ (by unfold rOq; first | exact Or.inl ⟨rfl, by omega⟩ | exact Or.inr ⟨rfl, by omega⟩)), rfl⟩)⟩
