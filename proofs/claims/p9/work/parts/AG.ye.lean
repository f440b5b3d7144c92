theorem zu_c {μ μ' : zM} {j : Nat} {k k' x x' : Int} (h : μ = μ') (hk : k = k') (hx : x = x') : zu μ j k x = zu μ' j k' x' := by rw [h, hk, hx]
/-- searches in the class's table, and what its small methods write -/
def yfpM (μ : zM) (t : Nat) (k x : Int) : Int := if 0 ≤ k ∧ k < μ.1 t ((12 : Nat) : Int) then yfd (μ.1 (Nat.add 3000000 (Nat.add t 6))) x (μ.1 (Nat.add t 2) k) (μ.1 (Nat.add t 2) k + μ.1 (Nat.add t 3) k) else -1
def yfcM (μ : zM) (t : Nat) (x : Int) : Int := yfd (μ.1 (Nat.add 3000000 (Nat.add t 1))) x 0 (μ.1 t ((12 : Nat) : Int))
def yhdM (μ : zM) (t : Nat) (k x : Int) : Int := if 0 ≤ yfpM μ t k x then 32 + yfpM μ t k x else yfcM μ t x
def yflM (μ : zM) (c : Int) : zM := zu (zu μ 50 ((8 : Nat) : Int) (if μ.1 1 ((6 : Nat) : Int) = 1 then 1 else c)) 50 ((9 : Nat) : Int) (μ.1 1 ((7 : Nat) : Int))
def yteM (μ : zM) (q : Nat) (h : Int) : zM := zu (zu μ q (μ.1 50 ((4 : Nat) : Int)) h) 50 ((4 : Nat) : Int) (μ.1 50 ((4 : Nat) : Int) + 1)
def yacM (μ : zM) (t : Nat) (x : Int) : zM := zu (zu (zu (zu (zu μ (Nat.add 3000000 (Nat.add t 1)) (μ.1 t ((12 : Nat) : Int)) x) (Nat.add t 2) (μ.1 t ((12 : Nat) : Int)) (μ.1 t ((13 : Nat) : Int))) (Nat.add t 3) (μ.1 t ((12 : Nat) : Int)) 0) (Nat.add t 4) (μ.1 t ((12 : Nat) : Int)) 0) t ((12 : Nat) : Int) (μ.1 t ((12 : Nat) : Int) + 1)
def yapM (μ : zM) (t : Nat) (k x : Int) : zM := zu (zu (zu (zu (zu μ (Nat.add 3000000 (Nat.add t 6)) (μ.1 t ((13 : Nat) : Int)) x) (Nat.add t 7) (μ.1 t ((13 : Nat) : Int)) k) (Nat.add t 8) (μ.1 t ((13 : Nat) : Int)) 0) (Nat.add t 3) k (μ.1 (Nat.add t 3) k + 1)) t ((13 : Nat) : Int) (μ.1 t ((13 : Nat) : Int) + 1)
def yabM (μ : zM) (t : Nat) (p a b : Int) : zM := zu (zu (zu μ (Nat.add t 9) (p * 2 + μ.1 (Nat.add t 8) p) a) (Nat.add t 10) (p * 2 + μ.1 (Nat.add t 8) p) b) (Nat.add t 8) p (μ.1 (Nat.add t 8) p + 1)
def yasM (μ : zM) (t : Nat) (k a : Int) : zM := zu (zu μ (Nat.add t 5) (k * 4 + μ.1 (Nat.add t 4) k) a) (Nat.add t 4) k (μ.1 (Nat.add t 4) k + 1)
def yk_X3_fail : zC := fun As μ Q => ∃ (a1 : Int), As = [.inr (.inr (50, 50)), .inl a1] ∧ ((-2147483648) ≤ a1 ∧ a1 ≤ 2147483647) ∧ (∀ (v : Int) (μ' : zM), zl0 μ μ' → 0 ≤ v → v ≤ 0 → (μ' = yflM μ a1) → Q (some (.inl v)) μ')
set_option maxHeartbeats 4000000 in
theorem ym_X3_fail {g : zΓ} (hg : zg g) (d : Nat) (hd : 1 ≤ d) : zOk g d 53 yk_X3_fail := by
  obtain ⟨d, rfl⟩ : ∃ d', d = d' + 1 := ⟨d - 1, by omega⟩
  refine zOk_straight hg (show mt_tab[53]? = some mt_X3_fail from rfl) [] 22 rfl fun As μ Q hC => ?_
  obtain ⟨a1, rfl, ha1, hQ⟩ := hC
  refine ⟨rfl, ?_⟩
  have z0 : zl0 μ μ := zl0_r μ
  intro x1 hx1 kx1 lx1
  refine And.intro ⟨⟨by omega, by omega⟩, ⟨by omega, by omega⟩⟩ (And.intro (fun c2 => ?_) (fun c2 => ?_))
  · refine And.intro ⟨by omega, by omega⟩ ?_
    intro m3 em3
    have z4 := zl0_t z0 (zl0_u em3 (Or.inl (by decide)) (Or.inl ⟨by decide, by decide⟩))
    intro x5 hx5 kx5 lx5
    refine And.intro ⟨by omega, by omega⟩ ?_
    intro m6 em6
    have z7 := zl0_t z4 (zl0_u em6 (Or.inl (by decide)) (Or.inl ⟨by decide, by decide⟩))
    exact And.intro (zrtb (by omega)) (And.intro ⟨by omega, by omega⟩ (hQ _ _ z7 (by omega) (by omega) (by subst_vars; simp_all [yflM, zu])))
  · refine And.intro ⟨by omega, by omega⟩ ?_
    intro m8 em8
    have z9 := zl0_t z0 (zl0_u em8 (Or.inl (by decide)) (Or.inl ⟨by decide, by decide⟩))
    intro x10 hx10 kx10 lx10
    refine And.intro ⟨by omega, by omega⟩ ?_
    intro m11 em11
    have z12 := zl0_t z9 (zl0_u em11 (Or.inl (by decide)) (Or.inl ⟨by decide, by decide⟩))
    exact And.intro (zrtb (by omega)) (And.intro ⟨by omega, by omega⟩ (hQ _ _ z12 (by omega) (by omega) (by subst_vars; simp_all [yflM, zu])))
def yk_X4_findParameter : zC := fun As μ Q => ∃ (t : Nat) (a1 : Int) (a2 : Int64), As = [.inr (.inr (t, 14)), .inl a1, .inr (.inl a2)] ∧ (t = 14 ∨ t = 32) ∧ ((-2147483648) ≤ a1 ∧ a1 ≤ 2147483647) ∧ (0 ≤ a1 ∧ a1 < μ.1 t ((12 : Nat) : Int) → 0 ≤ μ.1 (Nat.add t 2) a1 ∧ μ.1 (Nat.add t 2) a1 + μ.1 (Nat.add t 3) a1 ≤ 80) ∧ (∀ (v : Int), (-1) ≤ v → v ≤ 79 → (v = yfpM μ t a1 a2.toInt) → Q (some (.inl v)) μ)
set_option maxHeartbeats 4000000 in
theorem ym_X4_findParameter {g : zΓ} (hg : zg g) (d : Nat) (hd : 2 ≤ d) : zOk g d 61 yk_X4_findParameter := by
  obtain ⟨d, rfl⟩ : ∃ d', d = d' + 1 := ⟨d - 1, by omega⟩
  refine zOk_loop hg (show mt_tab[61]? = some mt_X4_findParameter from rfl) ([(43, [0, 2, 5, 6])], []) 46 rfl fun As μ Q hC => ?_
  obtain ⟨t, a1, a2, rfl, ht, ha1, hp0, hQ⟩ := hC
  refine ⟨rfl, fun pc vs μ' n => ∃ (v2 : Int64) (v5 : Int) (v6 : Int), vs = [.inr (.inr (t, 14)), .inr (.inl v2), .inl v5, .inl v6] ∧ μ' = μ ∧ (0 ≤ v5 ∧ v5 ≤ 80) ∧ (0 ≤ v6 ∧ v6 ≤ 80) ∧ (v2 = a2) ∧ ((0 ≤ a1 ∧ a1 < μ.1 t ((12 : Nat) : Int)) ∧ v5 = (μ.1 (Nat.add t 2) a1 + μ.1 (Nat.add t 3) a1)) ∧ (yfd (μ.1 (Nat.add 3000000 (Nat.add t 6))) a2.toInt (μ.1 (Nat.add t 2) a1) (μ.1 (Nat.add t 2) a1 + μ.1 (Nat.add t 3) a1) = yfd (μ.1 (Nat.add 3000000 (Nat.add t 6))) a2.toInt v6 ((μ.1 (Nat.add t 2) a1 + μ.1 (Nat.add t 3) a1))) ∧ n = (Int.toNat (2147483648 - v6)), ?_, ?_, trivial⟩
  · refine And.intro ⟨by omega, by omega⟩ (And.intro (fun c1 => ?_) (fun c1 => ?_))
    · exact And.intro trivial (And.intro ⟨by omega, by omega⟩ (hQ _ (by omega) (by omega) (by unfold yfpM; rw [if_neg (by omega)])))
    · refine And.intro ht ?_
      intro x2 hx2 kx2 lx2
      refine And.intro ⟨⟨by omega, by omega⟩, ⟨by omega, by omega⟩⟩ (And.intro (fun c3 => ?_) (fun c3 => ?_))
      · exact And.intro trivial (And.intro ⟨by omega, by omega⟩ (hQ _ (by omega) (by omega) (by unfold yfpM; rw [if_neg (by omega)])))
      · refine And.intro ⟨⟨by omega, by omega⟩, ⟨by omega, by omega⟩⟩ (And.intro (fun c4 => ?_) (fun c4 => ?_))
        · refine And.intro ht ?_
          refine And.intro (zfa (o := 2) (y2 := 16) ht rfl) ?_
          refine And.intro ⟨by omega, by omega⟩ ?_
          intro x5 hx5 kx5 lx5
          refine And.intro ht ?_
          refine And.intro (zfa (o := 3) (y2 := 17) ht rfl) ?_
          refine And.intro ⟨by omega, by omega⟩ ?_
          intro x6 hx6 kx6 lx6
          refine Exists.intro (Int.toNat (2147483648 - x5)) ?_
          exact ⟨_, _, _, rfl, rfl, ⟨by omega, by omega⟩, ⟨by omega, by omega⟩, rfl, ⟨by omega, by omega⟩, (by subst_vars; rfl), rfl⟩
        · exfalso; omega
  · intro vs m0 n hI
    obtain ⟨v2, v5, v6, rfl, em0, hv5, hv6, i0, i1, i2, rfl⟩ := hI
    replace em0 := em0.symm
    subst em0
    refine And.intro ⟨⟨by omega, by omega⟩, ⟨by omega, by omega⟩⟩ (And.intro (fun c7 => ?_) (fun c7 => ?_))
    · exact And.intro trivial (And.intro ⟨by omega, by omega⟩ (hQ _ (by omega) (by omega) (by unfold yfpM; rw [if_pos i1.1, i2]; exact (yfd_no (by omega)).symm)))
    · refine And.intro ht ?_
      refine ⟨zk_X8_nameAt, zm_X8_nameAt hg d (by omega), _, _, _, rfl, ⟨by omega, by omega⟩, by decide, (zfa (o := 6) (y2 := 20) ht rfl), ?_⟩
      intro j8 hj8
      replace hj8 := hj8 (by omega) (by show (_ : Int) < 80; omega)
      intro x9 hx9 kx9 lx9
      refine And.intro ⟨by omega, by omega⟩ (And.intro (fun c10 => ?_) (fun c10 => ?_))
      · have bc10 := ylcn hx9 c10
        refine Exists.intro (Int.toNat (2147483648 - (v6 + 1))) (And.intro (by omega) ?_)
        exact ⟨_, _, _, rfl, rfl, ⟨by omega, by omega⟩, ⟨by omega, by omega⟩, i0, i1, (i2.trans (yfd_go (by omega) (fun q => by have e := (by assumption : Int64.toInt _ = _); rw [q] at e; exact (by assumption : ¬ _) (i0 ▸ Int64.toInt_inj.mp e)))), rfl⟩
      · have bc10 := ylc0 hx9 c10
        exact And.intro trivial (And.intro ⟨by omega, by omega⟩ (hQ _ (by omega) (by omega) (by unfold yfpM; rw [if_pos i1.1, i2]; exact (yfd_at (by omega) (hj8.symm.trans (congrArg Int64.toInt (bc10.trans i0)))).symm)))
def yk_X4_headOf : zC := fun As μ Q => ∃ (t : Nat) (a1 : Int) (a2 : Int64), As = [.inr (.inr (t, 14)), .inl a1, .inr (.inl a2)] ∧ (t = 14 ∨ t = 32) ∧ ((-2147483648) ≤ a1 ∧ a1 ≤ 2147483647) ∧ (0 ≤ a1 ∧ a1 < μ.1 t ((12 : Nat) : Int) → 0 ≤ μ.1 (Nat.add t 2) a1 ∧ μ.1 (Nat.add t 2) a1 + μ.1 (Nat.add t 3) a1 ≤ 80) ∧ (∀ (v : Int), (-1) ≤ v → v ≤ 111 → (v = yhdM μ t a1 a2.toInt) → Q (some (.inl v)) μ)
set_option maxHeartbeats 4000000 in
theorem ym_X4_headOf {g : zΓ} (hg : zg g) (d : Nat) (hd : 3 ≤ d) : zOk g d 62 yk_X4_headOf := by
  obtain ⟨d, rfl⟩ : ∃ d', d = d' + 1 := ⟨d - 1, by omega⟩
  refine zOk_straight hg (show mt_tab[62]? = some mt_X4_headOf from rfl) [] 20 rfl fun As μ Q hC => ?_
  obtain ⟨t, a1, a2, rfl, ht, ha1, hp0, hQ⟩ := hC
  refine ⟨rfl, ?_⟩
  refine And.intro ht ⟨yk_X4_findParameter, ym_X4_findParameter hg d (by omega), _, _, _, rfl, ht, ⟨by omega, by omega⟩, (by omega), ?_⟩
  intro x1 kx1 lx1 p2
  refine And.intro ⟨by omega, by omega⟩ (And.intro (fun c3 => ?_) (fun c3 => ?_))
  · refine And.intro ht ⟨yk_X4_findClass, ym_X4_findClass hg d (by omega), _, _, rfl, ht, ?_⟩
    intro x4 kx4 lx4 p5
    exact And.intro trivial (And.intro ⟨by omega, by omega⟩ (hQ _ (by omega) (by omega) (by unfold yhdM; subst_vars; first | (rw [if_pos (by omega)]; done) | (rw [if_neg (by omega)]; rfl))))
  · exact And.intro trivial (And.intro ⟨by omega, by omega⟩ (hQ _ (by omega) (by omega) (by unfold yhdM; subst_vars; first | (rw [if_pos (by omega)]; done) | (rw [if_neg (by omega)]; rfl))))
def yk_X3_tell : zC := fun As μ Q => ∃ (a1 : Int), As = [.inr (.inr (50, 50)), .inl a1] ∧ ((-2147483648) ≤ a1 ∧ a1 ≤ 2147483647) ∧ (μ.1 50 ((4 : Nat) : Int) ≤ 299) ∧ (∀ (μ' : zM), zl0 μ μ' → (μ' = yteM μ (μ.1 50 ((3 : Nat) : Int)).toNat a1) → Q none μ')
set_option maxHeartbeats 4000000 in
theorem ym_X3_tell {g : zΓ} (hg : zg g) (d : Nat) (hd : 2 ≤ d) : zOk g d 52 yk_X3_tell := by
  obtain ⟨d, rfl⟩ : ∃ d', d = d' + 1 := ⟨d - 1, by omega⟩
  refine zOk_straight hg (show mt_tab[52]? = some mt_X3_tell from rfl) [] 18 rfl fun As μ Q hC => ?_
  obtain ⟨a1, rfl, ha1, hp0, hQ⟩ := hC
  refine ⟨rfl, ?_⟩
  have z0 : zl0 μ μ := zl0_r μ
  intro t1 et1 ht1
  intro x2 hx2 kx2 lx2
  refine ⟨yk_X8_set, ym_X8_set hg d (by omega), _, _, _, _, rfl, ⟨by omega, by omega⟩, ?_⟩
  refine And.intro ht1.1 ?_
  refine And.intro ⟨by omega, by omega⟩ (And.intro ⟨by omega, by omega⟩ ?_)
  intro m3 qm3 em3
  have z4 := zl0_t z0 ⟨qm3, by rw [em3]; rfl⟩
  have : m3.1 50 ((4 : Nat) : Int) = μ.1 50 ((4 : Nat) : Int) := by rw [em3]; exact congrFun (zu_ne (show (50 : Nat) ≠ t1 by have : t1 = 25 ∨ t1 = 43 ∨ t1 = 51 := ht1.1; omega)) _
  intro x5 hx5 kx5 lx5
  refine And.intro ⟨by omega, by omega⟩ ?_
  intro m6 em6
  have z7 := zl0_t z4 (zl0_u em6 (Or.inl (by decide)) (Or.inl ⟨by decide, by decide⟩))
  have : m6.1 50 ((4 : Nat) : Int) = (x5 + 1) := by rw [em6]; exact zu_at
  exact And.intro rfl (hQ _ z7 (by rw [show (μ.1 50 ((3 : Nat) : Int)).toNat = t1 by omega]; rcases (show t1 = 25 ∨ t1 = 43 ∨ t1 = 51 from ht1.1) with rfl | rfl | rfl <;> subst_vars <;> simp_all [yteM, zu]))
def yk_X3_behindType : zC := fun As μ Q => ∃ (a1 : Int), As = [.inr (.inr (50, 50)), .inl a1] ∧ (0 ≤ a1 ∧ a1 ≤ 1) ∧ (∀ (v : Int) (μ' : zM), zl0 μ μ' → 0 ≤ v → v ≤ 1 → ((v = 1 ∧ (a1 = 1 ∧ μ.1 50 ((10 : Nat) : Int) = 0) ∧ μ' = μ) ∨ (v = 0 ∧ ((a1 = 0 ∧ μ' = yflM μ 2) ∨ (a1 = 1 ∧ μ.1 50 ((10 : Nat) : Int) = 1 ∧ μ' = yflM μ 5)))) → Q (some (.inl v)) μ')
set_option maxHeartbeats 4000000 in
theorem ym_X3_behindType {g : zΓ} (hg : zg g) (d : Nat) (hd : 2 ≤ d) : zOk g d 51 yk_X3_behindType := by
  obtain ⟨d, rfl⟩ : ∃ d', d = d' + 1 := ⟨d - 1, by omega⟩
  refine zOk_straight hg (show mt_tab[51]? = some mt_X3_behindType from rfl) [] 22 rfl fun As μ Q hC => ?_
  obtain ⟨a1, rfl, ha1, hQ⟩ := hC
  refine ⟨rfl, ?_⟩
  have z0 : zl0 μ μ := zl0_r μ
  refine And.intro ⟨by omega, by omega⟩ (And.intro (fun c1 => ?_) (fun c1 => ?_))
  · intro x2 hx2 kx2 lx2
    refine And.intro ⟨by omega, by omega⟩ (And.intro (fun c3 => ?_) (fun c3 => ?_))
    · exact And.intro (zrtb (by omega)) (And.intro ⟨by omega, by omega⟩ (hQ _ _ z0 (by omega) (by omega) (by first | exact Or.inl ⟨by omega, ⟨by omega, by omega⟩, rfl⟩ | exact Or.inr ⟨by omega, Or.inl ⟨by omega, by assumption⟩⟩ | exact Or.inr ⟨by omega, Or.inr ⟨by omega, by omega, by assumption⟩⟩)))
    · refine ⟨yk_X3_fail, ym_X3_fail hg d (by omega), _, rfl, ⟨by omega, by omega⟩, ?_⟩
      intro x4 m5 qm5 kx4 lx4 p6
      have z7 := zl0_t z0 qm5
      refine And.intro ⟨by omega, by omega⟩ (And.intro (fun c8 => ?_) (fun c8 => ?_))
      · exact And.intro (zrtb (by omega)) (And.intro ⟨by omega, by omega⟩ (hQ _ _ z7 (by omega) (by omega) (by first | exact Or.inl ⟨by omega, ⟨by omega, by omega⟩, rfl⟩ | exact Or.inr ⟨by omega, Or.inl ⟨by omega, by assumption⟩⟩ | exact Or.inr ⟨by omega, Or.inr ⟨by omega, by omega, by assumption⟩⟩)))
      · exfalso; omega
  · refine ⟨yk_X3_fail, ym_X3_fail hg d (by omega), _, rfl, ⟨by omega, by omega⟩, ?_⟩
    intro x9 m10 qm10 kx9 lx9 p11
    have z12 := zl0_t z0 qm10
    exact And.intro (zrtb (by omega)) (And.intro ⟨by omega, by omega⟩ (hQ _ _ z12 (by omega) (by omega) (by first | exact Or.inl ⟨by omega, ⟨by omega, by omega⟩, rfl⟩ | exact Or.inr ⟨by omega, Or.inl ⟨by omega, by assumption⟩⟩ | exact Or.inr ⟨by omega, Or.inr ⟨by omega, by omega, by assumption⟩⟩)))
def yk_X4_addClass : zC := fun As μ Q => ∃ (t : Nat) (a1 : Int64), As = [.inr (.inr (t, 14)), .inr (.inl a1)] ∧ (t = 14 ∨ t = 32) ∧ (μ.1 t ((12 : Nat) : Int) ≤ 20) ∧ (∀ (v : Int) (μ' : zM), zl0 μ μ' → 0 ≤ v → v ≤ 21 → (v = μ.1 t ((12 : Nat) : Int)) → (μ' = yacM μ t a1.toInt) → Q (some (.inl v)) μ')
set_option maxHeartbeats 4000000 in
theorem ym_X4_addClass {g : zΓ} (hg : zg g) (d : Nat) (hd : 1 ≤ d) : zOk g d 56 yk_X4_addClass := by
  obtain ⟨d, rfl⟩ : ∃ d', d = d' + 1 := ⟨d - 1, by omega⟩
  refine zOk_straight hg (show mt_tab[56]? = some mt_X4_addClass from rfl) [] 40 rfl fun As μ Q hC => ?_
  obtain ⟨t, a1, rfl, ht, hp0, hQ⟩ := hC
  refine ⟨rfl, ?_⟩
  have z0 : zl0 μ μ := zl0_r μ
  refine And.intro ht ?_
  intro x1 hx1 kx1 lx1
  refine And.intro ⟨⟨by omega, by omega⟩, ⟨by omega, by omega⟩⟩ (And.intro (fun c2 => ?_) (fun c2 => ?_))
  · exact And.intro trivial (And.intro ⟨by omega, by omega⟩ (hQ _ _ z0 (by omega) (by omega) (by omega) (by exfalso; omega)))
  · refine And.intro ht ?_
    refine And.intro (zfa (o := 1) (y2 := 15) ht rfl) ?_
    refine And.intro ⟨by omega, by omega⟩ ?_
    intro m3 em3
    have z4 := zl0_t z0 (zl0_u em3 (by have hq := (zfa (o := 1) (y2 := 15) ht rfl); simp only [Nat.add_eq] at *; omega) (Or.inl ⟨(by have hq := (zfa (o := 1) (y2 := 15) ht rfl); simp only [Nat.add_eq] at *; omega), (by have hq := (zfa (o := 1) (y2 := 15) ht rfl); simp only [Nat.add_eq] at *; omega)⟩) (Or.inl (by have hq := (zfa (o := 1) (y2 := 15) ht rfl); simp only [Nat.add_eq] at *; omega)))
    have : m3.1 t ((12 : Nat) : Int) = μ.1 t ((12 : Nat) : Int) := by rw [em3]; exact congrFun (zu_ne (show (t : Nat) ≠ Nat.add 3000000 (Nat.add t 1) from (by have hq := (zfa (o := 1) (y2 := 15) ht rfl); simp only [Nat.add_eq] at *; omega))) _
    have : m3.1 t ((13 : Nat) : Int) = μ.1 t ((13 : Nat) : Int) := by rw [em3]; exact congrFun (zu_ne (show (t : Nat) ≠ Nat.add 3000000 (Nat.add t 1) from (by have hq := (zfa (o := 1) (y2 := 15) ht rfl); simp only [Nat.add_eq] at *; omega))) _
    refine And.intro ht ?_
    refine And.intro ht ?_
    intro x5 hx5 kx5 lx5
    refine And.intro (zfa (o := 2) (y2 := 16) ht rfl) ?_
    refine And.intro ⟨by omega, by omega⟩ (And.intro ⟨by omega, by omega⟩ ?_)
    intro m6 em6
    have z7 := zl0_t z4 (zl0_f em6 (zfa (o := 2) (y2 := 16) ht rfl) (by decide) (Or.inl (by decide)))
    have : m6.1 t ((12 : Nat) : Int) = m3.1 t ((12 : Nat) : Int) := by rw [em6]; exact congrFun (zu_ne (show (t : Nat) ≠ (t + 2) by omega)) _
    have : m6.1 t ((13 : Nat) : Int) = m3.1 t ((13 : Nat) : Int) := by rw [em6]; exact congrFun (zu_ne (show (t : Nat) ≠ (t + 2) by omega)) _
    refine And.intro ht ?_
    refine And.intro (zfa (o := 3) (y2 := 17) ht rfl) ?_
    refine And.intro ⟨by omega, by omega⟩ (And.intro ⟨by omega, by omega⟩ ?_)
    intro m8 em8
    have z9 := zl0_t z7 (zl0_f em8 (zfa (o := 3) (y2 := 17) ht rfl) (by decide) (Or.inl (by decide)))
    have : m8.1 t ((12 : Nat) : Int) = m6.1 t ((12 : Nat) : Int) := by rw [em8]; exact congrFun (zu_ne (show (t : Nat) ≠ (t + 3) by omega)) _
    have : m8.1 t ((13 : Nat) : Int) = m6.1 t ((13 : Nat) : Int) := by rw [em8]; exact congrFun (zu_ne (show (t : Nat) ≠ (t + 3) by omega)) _
    refine And.intro ht ?_
    refine And.intro (zfa (o := 4) (y2 := 18) ht rfl) ?_
    refine And.intro ⟨by omega, by omega⟩ (And.intro ⟨by omega, by omega⟩ ?_)
    intro m10 em10
    have z11 := zl0_t z9 (zl0_f em10 (zfa (o := 4) (y2 := 18) ht rfl) (by decide) (Or.inl (by decide)))
    have : m10.1 t ((12 : Nat) : Int) = m8.1 t ((12 : Nat) : Int) := by rw [em10]; exact congrFun (zu_ne (show (t : Nat) ≠ (t + 4) by omega)) _
    have : m10.1 t ((13 : Nat) : Int) = m8.1 t ((13 : Nat) : Int) := by rw [em10]; exact congrFun (zu_ne (show (t : Nat) ≠ (t + 4) by omega)) _
    refine And.intro ht ?_
    intro x12 hx12 kx12 lx12
    refine And.intro ht ?_
    refine And.intro ⟨by omega, by omega⟩ ?_
    intro m13 em13
    have z14 := zl0_t z11 (zl0_f em13 ht (by decide) (Or.inl (by decide)))
    have : m13.1 t ((12 : Nat) : Int) = (x12 + 1) := by rw [em13]; exact zu_at
    have : m13.1 t ((13 : Nat) : Int) = m10.1 t ((13 : Nat) : Int) := by rw [em13]; exact zu_nk (by decide)
    exact And.intro trivial (And.intro ⟨by omega, by omega⟩ (hQ _ _ z14 (by omega) (by omega) (by omega) (em13.trans (zu_c (em10.trans (zu_c (em8.trans (zu_c (em6.trans (zu_c (em3.trans (zu_c rfl (by first | rfl | omega) (by first | rfl | omega))) (by first | rfl | omega) (by first | rfl | omega))) (by first | rfl | omega) (by first | rfl | omega))) (by first | rfl | omega) (by first | rfl | omega))) (by first | rfl | omega) (by first | rfl | omega)))))
def yk_X4_addParameter : zC := fun As μ Q => ∃ (t : Nat) (a1 : Int) (a2 : Int64), As = [.inr (.inr (t, 14)), .inl a1, .inr (.inl a2)] ∧ (t = 14 ∨ t = 32) ∧ ((-2147483648) ≤ a1 ∧ a1 ≤ 2147483647) ∧ (0 ≤ a1 ∧ a1 ≤ 20) ∧ (μ.1 t ((13 : Nat) : Int) ≤ 79) ∧ (μ.1 (Nat.add t 3) a1 ≤ 3) ∧ (∀ (μ' : zM), zl0 μ μ' → (μ' = yapM μ t a1 a2.toInt) → Q none μ')
set_option maxHeartbeats 4000000 in
theorem ym_X4_addParameter {g : zΓ} (hg : zg g) (d : Nat) (hd : 1 ≤ d) : zOk g d 57 yk_X4_addParameter := by
  obtain ⟨d, rfl⟩ : ∃ d', d = d' + 1 := ⟨d - 1, by omega⟩
  refine zOk_straight hg (show mt_tab[57]? = some mt_X4_addParameter from rfl) [] 46 rfl fun As μ Q hC => ?_
  obtain ⟨t, a1, a2, rfl, ht, ha1, hp0, hp1, hp2, hQ⟩ := hC
  refine ⟨rfl, ?_⟩
  have z0 : zl0 μ μ := zl0_r μ
  refine And.intro ht ?_
  intro x1 hx1 kx1 lx1
  refine And.intro ⟨⟨by omega, by omega⟩, ⟨by omega, by omega⟩⟩ (And.intro (fun c2 => ?_) (fun c2 => ?_))
  · exact And.intro rfl (hQ _ z0 (by exfalso; omega))
  · refine And.intro ⟨by omega, by omega⟩ (And.intro (fun c3 => ?_) (fun c3 => ?_))
    · exact And.intro rfl (hQ _ z0 (by exfalso; omega))
    · refine And.intro ⟨⟨by omega, by omega⟩, ⟨by omega, by omega⟩⟩ (And.intro (fun c4 => ?_) (fun c4 => ?_))
      · exact And.intro rfl (hQ _ z0 (by exfalso; omega))
      · refine And.intro ht ?_
        refine And.intro (zfa (o := 6) (y2 := 20) ht rfl) ?_
        refine And.intro ⟨by omega, by omega⟩ ?_
        intro m5 em5
        have z6 := zl0_t z0 (zl0_u em5 (by have hq := (zfa (o := 6) (y2 := 20) ht rfl); simp only [Nat.add_eq] at *; omega) (Or.inl ⟨(by have hq := (zfa (o := 6) (y2 := 20) ht rfl); simp only [Nat.add_eq] at *; omega), (by have hq := (zfa (o := 6) (y2 := 20) ht rfl); simp only [Nat.add_eq] at *; omega)⟩) (Or.inl (by have hq := (zfa (o := 6) (y2 := 20) ht rfl); simp only [Nat.add_eq] at *; omega)))
        have : m5.1 t ((13 : Nat) : Int) = μ.1 t ((13 : Nat) : Int) := by rw [em5]; exact congrFun (zu_ne (show (t : Nat) ≠ Nat.add 3000000 (Nat.add t 6) from (by have hq := (zfa (o := 6) (y2 := 20) ht rfl); simp only [Nat.add_eq] at *; omega))) _
        have : m5.1 (Nat.add t 3) a1 = μ.1 (Nat.add t 3) a1 := by rw [em5]; exact congrFun (zu_ne (show ((Nat.add t 3) : Nat) ≠ Nat.add 3000000 (Nat.add t 6) from (by have hq := (zfa (o := 6) (y2 := 20) ht rfl); simp only [Nat.add_eq] at *; omega))) _
        refine And.intro ht ?_
        refine And.intro (zfa (o := 7) (y2 := 21) ht rfl) ?_
        refine And.intro ⟨by omega, by omega⟩ (And.intro ⟨by omega, by omega⟩ ?_)
        intro m7 em7
        have z8 := zl0_t z6 (zl0_f em7 (zfa (o := 7) (y2 := 21) ht rfl) (by decide) (Or.inl (by decide)))
        have : m7.1 t ((13 : Nat) : Int) = m5.1 t ((13 : Nat) : Int) := by rw [em7]; exact congrFun (zu_ne (show (t : Nat) ≠ (t + 7) by omega)) _
        have : m7.1 (Nat.add t 3) a1 = m5.1 (Nat.add t 3) a1 := by rw [em7]; exact congrFun (zu_ne (show ((t + 3) : Nat) ≠ (t + 7) by omega)) _
        refine And.intro ht ?_
        refine And.intro (zfa (o := 8) (y2 := 22) ht rfl) ?_
        refine And.intro ⟨by omega, by omega⟩ (And.intro ⟨by omega, by omega⟩ ?_)
        intro m9 em9
        have z10 := zl0_t z8 (zl0_f em9 (zfa (o := 8) (y2 := 22) ht rfl) (by decide) (Or.inl (by decide)))
        have : m9.1 t ((13 : Nat) : Int) = m7.1 t ((13 : Nat) : Int) := by rw [em9]; exact congrFun (zu_ne (show (t : Nat) ≠ (t + 8) by omega)) _
        have : m9.1 (Nat.add t 3) a1 = m7.1 (Nat.add t 3) a1 := by rw [em9]; exact congrFun (zu_ne (show ((t + 3) : Nat) ≠ (t + 8) by omega)) _
        refine And.intro ht ?_
        refine And.intro (zfa (o := 3) (y2 := 17) ht rfl) ?_
        refine And.intro ⟨by omega, by omega⟩ ?_
        intro x11 hx11 kx11 lx11
        refine And.intro (zfa (o := 3) (y2 := 17) ht rfl) ?_
        refine And.intro ⟨by omega, by omega⟩ (And.intro ⟨by omega, by omega⟩ ?_)
        intro m12 em12
        have z13 := zl0_t z10 (zl0_f em12 (zfa (o := 3) (y2 := 17) ht rfl) (by decide) (Or.inl (by decide)))
        have : m12.1 t ((13 : Nat) : Int) = m9.1 t ((13 : Nat) : Int) := by rw [em12]; exact congrFun (zu_ne (show (t : Nat) ≠ (t + 3) by omega)) _
        have : m12.1 (Nat.add t 3) a1 = (x11 + 1) := by rw [em12]; exact zu_at
        refine And.intro ht ?_
        intro x14 hx14 kx14 lx14
        refine And.intro ht ?_
        refine And.intro ⟨by omega, by omega⟩ ?_
        intro m15 em15
        have z16 := zl0_t z13 (zl0_f em15 ht (by decide) (Or.inl (by decide)))
        have : m15.1 t ((13 : Nat) : Int) = (x14 + 1) := by rw [em15]; exact zu_at
        have : m15.1 (Nat.add t 3) a1 = m12.1 (Nat.add t 3) a1 := by rw [em15]; exact congrFun (zu_ne (show ((t + 3) : Nat) ≠ t by omega)) _
        exact And.intro rfl (hQ _ z16 (em15.trans (zu_c (em12.trans (zu_c (em9.trans (zu_c (em7.trans (zu_c (em5.trans (zu_c rfl (by first | rfl | omega) (by first | rfl | omega))) (by first | rfl | omega) (by first | rfl | omega))) (by first | rfl | omega) (by first | rfl | omega))) (by first | rfl | omega) (by first | rfl | omega))) (by first | rfl | omega) (by first | rfl | omega))))
def yk_X4_addBound : zC := fun As μ Q => ∃ (t : Nat) (a1 : Int) (a2 : Int) (a3 : Int), As = [.inr (.inr (t, 14)), .inl a1, .inl a2, .inl a3] ∧ (t = 14 ∨ t = 32) ∧ ((-2147483648) ≤ a1 ∧ a1 ≤ 2147483647) ∧ (0 ≤ a2 ∧ a2 ≤ 300) ∧ ((-300) ≤ a3 ∧ a3 ≤ 300) ∧ (0 ≤ a1 ∧ a1 ≤ 79) ∧ (0 ≤ μ.1 (Nat.add t 8) a1 ∧ μ.1 (Nat.add t 8) a1 ≤ 1) ∧ (∀ (μ' : zM), zl0 μ μ' → (μ' = yabM μ t a1 a2 a3) → Q none μ')
set_option maxHeartbeats 4000000 in
theorem ym_X4_addBound {g : zΓ} (hg : zg g) (d : Nat) (hd : 2 ≤ d) : zOk g d 58 yk_X4_addBound := by
  obtain ⟨d, rfl⟩ : ∃ d', d = d' + 1 := ⟨d - 1, by omega⟩
  refine zOk_straight hg (show mt_tab[58]? = some mt_X4_addBound from rfl) [] 41 rfl fun As μ Q hC => ?_
  obtain ⟨t, a1, a2, a3, rfl, ht, ha1, ha2, ha3, hp0, hp1, hQ⟩ := hC
  refine ⟨rfl, ?_⟩
  have z0 : zl0 μ μ := zl0_r μ
  refine And.intro ht ?_
  refine ⟨zk_X8_at, zm_X8_at hg d (by omega), _, _, _, rfl, ⟨by omega, by omega⟩, ?_⟩
  refine And.intro (zfa (o := 8) (y2 := 22) ht rfl) ?_
  intro x1 kx1 lx1 fx1 gx1
  have hx1 : x1 = μ.1 (Nat.add t 8) a1 := (fx1 ⟨by omega, by omega⟩).1
  have ix1 := (fx1 ⟨by omega, by omega⟩).2
  refine And.intro ⟨by omega, by omega⟩ (And.intro (fun c2 => ?_) (fun c2 => ?_))
  · exact And.intro rfl (hQ _ z0 (by exfalso; omega))
  · refine And.intro ⟨⟨by omega, by omega⟩, ⟨by omega, by omega⟩⟩ (And.intro (fun c3 => ?_) (fun c3 => ?_))
    · exact And.intro rfl (hQ _ z0 (by exfalso; omega))
    · refine And.intro ht ?_
      refine ⟨yk_X8_set, ym_X8_set hg d (by omega), _, _, _, _, rfl, ⟨by omega, by omega⟩, ?_⟩
      refine And.intro (zfa (o := 9) (y2 := 23) ht rfl) ?_
      refine And.intro ⟨by omega, by omega⟩ (And.intro ⟨by omega, by omega⟩ ?_)
      intro m4 qm4 em4
      have z5 := zl0_t z0 ⟨qm4, by rw [em4]; rfl⟩
      refine And.intro ht ?_
      refine ⟨yk_X8_set, ym_X8_set hg d (by omega), _, _, _, _, rfl, ⟨by omega, by omega⟩, ?_⟩
      refine And.intro (zfa (o := 10) (y2 := 24) ht rfl) ?_
      refine And.intro ⟨by omega, by omega⟩ (And.intro ⟨by omega, by omega⟩ ?_)
      intro m6 qm6 em6
      have z7 := zl0_t z5 ⟨qm6, by rw [em6]; rfl⟩
      refine And.intro ht ?_
      refine ⟨yk_X8_set, ym_X8_set hg d (by omega), _, _, _, _, rfl, ⟨by omega, by omega⟩, ?_⟩
      refine And.intro (zfa (o := 8) (y2 := 22) ht rfl) ?_
      refine And.intro ⟨by omega, by omega⟩ (And.intro ⟨by omega, by omega⟩ ?_)
      intro m8 qm8 em8
      have z9 := zl0_t z7 ⟨qm8, by rw [em8]; rfl⟩
      exact And.intro rfl (hQ _ z9 (em8.trans (zu_c (em6.trans (zu_c (em4.trans (zu_c rfl (by first | rfl | omega) (by first | rfl | omega))) (by first | rfl | omega) (by first | rfl | omega))) (by first | rfl | omega) (by first | rfl | omega))))
def yk_X4_addSuper : zC := fun As μ Q => ∃ (t : Nat) (a1 : Int) (a2 : Int), As = [.inr (.inr (t, 14)), .inl a1, .inl a2] ∧ (t = 14 ∨ t = 32) ∧ ((-2147483648) ≤ a1 ∧ a1 ≤ 2147483647) ∧ (0 ≤ a2 ∧ a2 ≤ 300) ∧ (0 ≤ a1 ∧ a1 ≤ 20) ∧ (0 ≤ μ.1 (Nat.add t 4) a1 ∧ μ.1 (Nat.add t 4) a1 ≤ 3) ∧ (∀ (μ' : zM), zl0 μ μ' → (μ' = yasM μ t a1 a2) → Q none μ')
set_option maxHeartbeats 4000000 in
theorem ym_X4_addSuper {g : zΓ} (hg : zg g) (d : Nat) (hd : 2 ≤ d) : zOk g d 59 yk_X4_addSuper := by
  obtain ⟨d, rfl⟩ : ∃ d', d = d' + 1 := ⟨d - 1, by omega⟩
  refine zOk_straight hg (show mt_tab[59]? = some mt_X4_addSuper from rfl) [] 32 rfl fun As μ Q hC => ?_
  obtain ⟨t, a1, a2, rfl, ht, ha1, ha2, hp0, hp1, hQ⟩ := hC
  refine ⟨rfl, ?_⟩
  have z0 : zl0 μ μ := zl0_r μ
  refine And.intro ht ?_
  refine ⟨zk_X8_at, zm_X8_at hg d (by omega), _, _, _, rfl, ⟨by omega, by omega⟩, ?_⟩
  refine And.intro (zfa (o := 4) (y2 := 18) ht rfl) ?_
  intro x1 kx1 lx1 fx1 gx1
  have hx1 : x1 = μ.1 (Nat.add t 4) a1 := (fx1 ⟨by omega, by omega⟩).1
  have ix1 := (fx1 ⟨by omega, by omega⟩).2
  refine And.intro ⟨by omega, by omega⟩ (And.intro (fun c2 => ?_) (fun c2 => ?_))
  · exact And.intro rfl (hQ _ z0 (by exfalso; omega))
  · refine And.intro ⟨⟨by omega, by omega⟩, ⟨by omega, by omega⟩⟩ (And.intro (fun c3 => ?_) (fun c3 => ?_))
    · exact And.intro rfl (hQ _ z0 (by exfalso; omega))
    · refine And.intro ht ?_
      refine ⟨yk_X8_set, ym_X8_set hg d (by omega), _, _, _, _, rfl, ⟨by omega, by omega⟩, ?_⟩
      refine And.intro (zfa (o := 5) (y2 := 19) ht rfl) ?_
      refine And.intro ⟨by omega, by omega⟩ (And.intro ⟨by omega, by omega⟩ ?_)
      intro m4 qm4 em4
      have z5 := zl0_t z0 ⟨qm4, by rw [em4]; rfl⟩
      refine And.intro ht ?_
      refine ⟨yk_X8_set, ym_X8_set hg d (by omega), _, _, _, _, rfl, ⟨by omega, by omega⟩, ?_⟩
      refine And.intro (zfa (o := 4) (y2 := 18) ht rfl) ?_
      refine And.intro ⟨by omega, by omega⟩ (And.intro ⟨by omega, by omega⟩ ?_)
      intro m6 qm6 em6
      have z7 := zl0_t z5 ⟨qm6, by rw [em6]; rfl⟩
      exact And.intro rfl (hQ _ z7 (em6.trans (zu_c (em4.trans (zu_c rfl (by first | rfl | omega) (by first | rfl | omega))) (by first | rfl | omega) (by first | rfl | omega))))
