/-! ### cls of the class -/
def ycn (p : Int → Bool) : Nat → Int
  | 0 => 0
  | n + 1 => ycn p n + (if p (n : Int) = true then 1 else 0)
theorem ycn_c {p q : Int → Bool} : ∀ n : Nat, (∀ i : Int, 0 ≤ i → i < n → p i = q i) → ycn p n = ycn q n
  | 0, _ => rfl
  | n + 1, h => by
    show ycn p n + _ = ycn q n + _
    rw [ycn_c n (fun i a b => h i a (by push_cast; omega)), h n (by omega) (by push_cast; omega)]
theorem ycn_s {p : Int → Bool} {v : Int} (h : 0 ≤ v) : ycn p (v + 1).toNat = ycn p v.toNat + (if p v = true then 1 else 0) := by
  rw [show (v + 1).toNat = v.toNat + 1 by omega]
  show ycn p v.toNat + (if p (v.toNat : Int) = true then 1 else 0) = _
  rw [show ((v.toNat : Nat) : Int) = v by omega]
def yovs (μ : zM) (t : Nat) (k : Int) : Int → Bool := fun d => decide (0 < μ.1 (Nat.add t 14) (k * 21 + d))
def yk_X4_countOver : zC := fun As μ Q => ∃ (t : Nat) (a1 : Int), As = [.inr (.inr (t, 14)), .inl a1] ∧ (t = 14 ∨ t = 32) ∧ (0 ≤ a1 ∧ a1 ≤ 20) ∧ (∀ (v : Int), (-2147483648) ≤ v → v ≤ 2147483647 → (v = ycn (yovs μ t a1) (μ.1 t ((12 : Nat) : Int)).toNat) → Q (some (.inl v)) μ)
set_option maxHeartbeats 4000000 in
theorem ym_X4_countOver {g : zΓ} (hg : zg g) (d : Nat) (hd : 3 ≤ d) : zOk g d 67 yk_X4_countOver := by
  obtain ⟨d, rfl⟩ : ∃ d', d = d' + 1 := ⟨d - 1, by omega⟩
  refine zOk_loop hg (show mt_tab[67]? = some mt_X4_countOver from rfl) ([(4, [0, 1, 2, 3])], []) 23 rfl fun As μ Q hC => ?_
  obtain ⟨t, a1, rfl, ht, ha1, hQ⟩ := hC
  refine ⟨rfl, fun pc vs μ' n => ∃ (v1 : Int) (v2 : Int) (v3 : Int), vs = [.inr (.inr (t, 14)), .inl v1, .inl v2, .inl v3] ∧ μ' = μ ∧ ((-2147483648) ≤ v1 ∧ v1 ≤ 2147483647) ∧ ((-2147483648) ≤ v2 ∧ v2 ≤ 2147483647) ∧ (0 ≤ v3 ∧ v3 ≤ 2147483647) ∧ (0 ≤ v2 ∧ v2 ≤ v3 ∧ v1 = a1 ∧ v3 ≤ 21) ∧ (v2 = ycn (yovs μ t a1) v3.toNat ∧ (v3 ≤ μ.1 t ((12 : Nat) : Int) ∨ v3 = 0)) ∧ n = (Int.toNat (2147483648 - v3)), ?_, ?_, trivial⟩
  · refine Exists.intro (Int.toNat (2147483648 - 0)) ?_
    exact ⟨_, _, _, rfl, rfl, ⟨by omega, by omega⟩, ⟨by omega, by omega⟩, ⟨by omega, by omega⟩, (by omega), ⟨rfl, Or.inr rfl⟩, rfl⟩
  · intro vs m0 n hI
    obtain ⟨v1, v2, v3, rfl, rfl, hv1, hv2, hv3, i0, i1, rfl⟩ := hI
    refine And.intro ht ?_
    intro x1 hx1 kx1 lx1
    refine And.intro ⟨⟨by omega, by omega⟩, ⟨by omega, by omega⟩⟩ (And.intro (fun c2 => ?_) (fun c2 => ?_))
    · exact And.intro trivial (And.intro ⟨by omega, by omega⟩ (hQ _ (by omega) (by omega) (by rw [i1.1, ← hx1]; rcases i1.2 with h | h; (rw [show v3 = x1 by omega]); (rw [show v3.toNat = x1.toNat by omega]))))
    · refine And.intro ht ⟨yk_X4_overLength, ym_X4_overLength hg d (by omega), _, _, _, rfl, ht, ⟨by omega, by omega⟩, ⟨by omega, by omega⟩, ?_⟩
      intro x3 kx3 lx3 hx3
      have CS := ycn_s (p := yovs m0 t a1) (v := v3) (by omega)
      have PX : (yovs m0 t a1 v3 = true) ↔ 0 < x3 := by unfold yovs; rw [decide_eq_true_eq, hx3, i0.2.2.1]
      refine And.intro ⟨by omega, by omega⟩ (And.intro (fun c4 => ?_) (fun c4 => ?_))
      · refine Exists.intro (Int.toNat (2147483648 - (v3 + 1))) (And.intro (by omega) ?_)
        exact ⟨_, _, _, rfl, rfl, ⟨by omega, by omega⟩, ⟨by omega, by omega⟩, ⟨by omega, by omega⟩, (by omega), ⟨by rw [CS, i1.1, if_neg (fun h => by have := PX.mp h; omega), Int.add_zero], Or.inl (by omega)⟩, rfl⟩
      · refine Exists.intro (Int.toNat (2147483648 - (v3 + 1))) (And.intro (by omega) ?_)
        exact ⟨_, _, _, rfl, rfl, ⟨by omega, by omega⟩, ⟨by omega, by omega⟩, ⟨by omega, by omega⟩, (by omega), ⟨by rw [CS, i1.1, if_pos (PX.mpr (by omega))], Or.inl (by omega)⟩, rfl⟩
def ycl (μ : zM) (t : Nat) (k w : Int) (v : Int64) : Prop := (w = 0 ∧ v = (Int32.ofInt (μ.1 (Nat.add t 3) k)).toInt64) ∨ (w = 1 ∧ v = (Int32.ofInt (μ.1 (Nat.add t 4) k)).toInt64) ∨ (w = 2 ∧ v = (Int32.ofInt (ycn (yovs μ t k) (μ.1 t ((12 : Nat) : Int)).toNat)).toInt64) ∨ (w = 3 ∧ v.toInt = μ.1 (Nat.add 3000000 (Nat.add t 1)) k) ∨ (w = 4 ∧ v = if 0 < μ.1 (Nat.add t 3) k then (Int32.ofInt (μ.1 (Nat.add t 2) k)).toInt64 else Int64.ofInt (-1))
def yt_X8_cls (As : List zV) (μ : zM) (Q : Option zV → zM → Prop) (T : Nat → zM → Prop) : Prop := ∃ (a1 : Int) (a2 : Int), As = [.inr (.inr (0, 0)), .inl a1, .inl a2] ∧ ((-2147483648) ≤ a1 ∧ a1 ≤ 2147483647) ∧ ((-2147483648) ≤ a2 ∧ a2 ≤ 2147483647) ∧ (∀ (v : Int64) (t : Nat), (t : Int) = μ.1 0 ((3 : Nat) : Int) → (t = 14 ∨ t = 32) → (0 ≤ a1 ∧ a1 < μ.1 t ((12 : Nat) : Int)) → (0 ≤ a2 ∧ a2 ≤ 4) → ycl μ t a1 a2 v → Q (some (.inr (.inl v))) μ) ∧ ((∀ t : Nat, (t : Int) = μ.1 0 ((3 : Nat) : Int) → ¬ (0 ≤ a1 ∧ a1 < μ.1 t ((12 : Nat) : Int))) → T 15 μ) ∧ ((∀ t : Nat, (t : Int) = μ.1 0 ((3 : Nat) : Int) → (0 ≤ a1 ∧ a1 < μ.1 t ((12 : Nat) : Int))) → ¬ (0 ≤ a2 ∧ a2 ≤ 4) → T 135 μ)
set_option maxHeartbeats 4000000 in
theorem yx_X8_cls {g : zΓ} (hg : zg g) (d : Nat) (hd : 3 ≤ d) {As : List zV} {μ : zM} {Q : Option zV → zM → Prop} {T : Nat → zM → Prop} {w : mW} (hw : zRep μ w) (hr : ∀ v ∈ As, zrf v) (hC : yt_X8_cls As μ Q T) : Nat.ble (zsum As) mt_X8_cls.2.2.1.1 = true ∧ zE g d mt_X8_cls none [] (fun _ _ _ => False) Q T (0, zlv (zargs 0 As), [], w) := by
  refine zx_line hg (show mt_tab[101]? = some mt_X8_cls from rfl) [] 63 rfl hw hr ?_
  obtain ⟨a1, a2, rfl, ha1, ha2, hQ, hT15, hT135⟩ := hC
  refine ⟨rfl, ?_⟩
  refine And.intro ⟨by omega, by omega⟩ (And.intro (fun c1 => ?_) (fun c1 => ?_))
  · exact hT15 (fun t et hI => by first | omega | (have ett : t = t2 := (by omega); subst ett; omega))
  · intro t2 et2 ht2
    refine And.intro ht2.1 ?_
    intro x3 hx3 kx3 lx3
    refine And.intro ⟨⟨by omega, by omega⟩, ⟨by omega, by omega⟩⟩ (And.intro (fun c4 => ?_) (fun c4 => ?_))
    · refine And.intro ⟨by omega, by omega⟩ (And.intro (fun c5 => ?_) (And.intro (fun c5 => ?_) (And.intro (fun c5 => ?_) (And.intro (fun c5 => ?_) (And.intro (fun c5 => ?_) (And.intro (fun c5 => ?_) trivial))))))
      · exact hT135 (fun t et => by have ett : t = t2 := (by omega); subst ett; omega) (by omega)
      · intro t6 et6 ht6
        have qt6 : t2 = t6 := by omega
        subst qt6
        refine And.intro ht2.1 ⟨yk_X4_arity, ym_X4_arity hg d (by omega), _, _, rfl, ht2.1, ⟨by omega, by omega⟩, ?_⟩
        intro x7 kx7 lx7 hx7
        rw [if_pos ⟨by omega, by omega⟩] at hx7
        exact And.intro rfl (hQ _ t2 et2 ht2.1 ⟨by omega, by omega⟩ ⟨by omega, by omega⟩ (Or.inl ⟨by omega, by rw [hx7]⟩))
      · intro t8 et8 ht8
        have qt8 : t2 = t8 := by omega
        subst qt8
        refine And.intro ht2.1 ?_
        refine ⟨zk_X8_at, zm_X8_at hg d (by omega), _, _, _, rfl, ⟨by omega, by omega⟩, ?_⟩
        refine And.intro (zfa (o := 4) (y2 := 18) ht2.1 rfl) ?_
        intro x9 kx9 lx9 fx9 gx9
        exact And.intro rfl (hQ _ t2 et2 ht2.1 ⟨by omega, by omega⟩ ⟨by omega, by omega⟩ (Or.inr (Or.inl ⟨by omega, by rw [(fx9 ⟨by omega, by omega⟩).1]⟩)))
      · intro t10 et10 ht10
        have qt10 : t2 = t10 := by omega
        subst qt10
        refine And.intro ht2.1 ⟨yk_X4_countOver, ym_X4_countOver hg d (by omega), _, _, rfl, ht2.1, ⟨by omega, by omega⟩, ?_⟩
        intro x11 kx11 lx11 hx11
        exact And.intro rfl (hQ _ t2 et2 ht2.1 ⟨by omega, by omega⟩ ⟨by omega, by omega⟩ (Or.inr (Or.inr (Or.inl ⟨by omega, by rw [hx11]⟩))))
      · intro t12 et12 ht12
        have qt12 : t2 = t12 := by omega
        subst qt12
        refine And.intro ht2.1 ?_
        refine ⟨zk_X8_nameAt, zm_X8_nameAt hg d (by omega), _, _, _, rfl, ⟨by omega, by omega⟩, by decide, (zfa (o := 1) (y2 := 15) ht2.1 rfl), ?_⟩
        intro j13 hj13
        exact And.intro rfl (hQ _ t2 et2 ht2.1 ⟨by omega, by omega⟩ ⟨by omega, by omega⟩ (Or.inr (Or.inr (Or.inr (Or.inl ⟨by omega, hj13 (by omega) (by rw [if_pos rfl]; omega)⟩)))))
      · intro t14 et14 ht14
        have qt14 : t2 = t14 := by omega
        subst qt14
        refine And.intro ht2.1 ⟨yk_X4_arity, ym_X4_arity hg d (by omega), _, _, rfl, ht2.1, ⟨by omega, by omega⟩, ?_⟩
        intro x15 kx15 lx15 hx15
        refine And.intro ⟨by omega, by omega⟩ (And.intro (fun c16 => ?_) (fun c16 => ?_))
        · rw [if_pos ⟨by omega, by omega⟩] at hx15
          exact And.intro rfl (hQ _ t2 et2 ht2.1 ⟨by omega, by omega⟩ ⟨by omega, by omega⟩ (Or.inr (Or.inr (Or.inr (Or.inr ⟨by omega, by rw [if_neg (by omega)]⟩)))))
        · intro t17 et17 ht17
          have qt17 : t2 = t17 := by omega
          subst qt17
          refine And.intro ht2.1 ?_
          refine ⟨zk_X8_at, zm_X8_at hg d (by omega), _, _, _, rfl, ⟨by omega, by omega⟩, ?_⟩
          refine And.intro (zfa (o := 2) (y2 := 16) ht2.1 rfl) ?_
          intro x18 kx18 lx18 fx18 gx18
          rw [if_pos ⟨by omega, by omega⟩] at hx15
          exact And.intro rfl (hQ _ t2 et2 ht2.1 ⟨by omega, by omega⟩ ⟨by omega, by omega⟩ (Or.inr (Or.inr (Or.inr (Or.inr ⟨by omega, by rw [if_pos (by omega), (fx18 ⟨by omega, by omega⟩).1]⟩)))))
    · exact hT15 (fun t et hI => by first | omega | (have ett : t = t2 := (by omega); subst ett; omega))
