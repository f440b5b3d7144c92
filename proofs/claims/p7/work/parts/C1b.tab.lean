/-! ### the PARAMETERS alike -/
def lyj (j : Nat) : Prop := j = 9 ∨ (14 ≤ j ∧ j < 50) ∨ (3000014 ≤ j ∧ j < 3000050)
def lY (μ μ' : zM) : Prop := (μ'.1 0 ((3 : Nat) : Int) = μ.1 0 ((3 : Nat) : Int) ∧ μ'.1 0 ((4 : Nat) : Int) = μ.1 0 ((4 : Nat) : Int)) ∧ ∀ j : Nat, lyj j → μ'.1 j = μ.1 j
theorem lY_r (μ : zM) : lY μ μ := ⟨⟨rfl, rfl⟩, fun _ _ => rfl⟩
theorem lY_t {a b c : zM} (h1 : lY a b) (h2 : lY b c) : lY a c := ⟨⟨h2.1.1.trans h1.1.1, h2.1.2.trans h1.1.2⟩, fun j hj => (h2.2 j hj).trans (h1.2 j hj)⟩
theorem lY_o {μ μ' : zM} {v : Int} (h : lY μ μ') : lY μ (zu μ' 3000108 0 v) := by
  refine ⟨?_, fun j hj => ?_⟩
  · rw [zu_ne (by decide)]; exact h.1
  · unfold lyj at hj
    rw [zu_ne (by omega)]
    exact h.2 j hj
theorem lY_d {μ : zM} {n : Nat} : lY μ (zdd μ n) := ⟨by rw [zdd_n (by decide)]; exact ⟨rfl, rfl⟩, fun j hj => by unfold lyj at hj; exact zdd_n (by omega)⟩
theorem lY_q {μ μ' : zM} (h : zqy μ μ') : lY μ μ' := ⟨h.2.1, fun j hj => h.2.2 j (by unfold lyj at hj; unfold zyj; omega)⟩
theorem lY_0 {μ μ' : zM} (h : zq0 μ μ') : lY μ μ' := lY_q (zqy_0 h)
theorem lY_f {μ μ' : zM} (h : ∀ j : Nat, j < 66 ∨ (3000000 ≤ j ∧ j < 3000066) → μ'.1 j = μ.1 j) : lY μ μ' := ⟨by rw [h 0 (by omega)]; exact ⟨rfl, rfl⟩, fun j hj => h j (by unfold lyj at hj; omega)⟩
theorem rOg_f {m m' : zM} {n p : Int} (e86 : m'.1 86 = m.1 86) (e87 : m'.1 87 = m.1 87) : rOg m' n p ↔ rOg m n p := by unfold rOg rOq; rw [e86, e87]
/-- what the reference has of PARAMETERS stays -/
def rKq (μ μ' : zM) : Prop := μ'.1 66 ((21 : Nat) : Int) = μ.1 66 ((21 : Nat) : Int) ∧ (∀ q : Int, q < 80 → μ'.1 82 q = μ.1 82 q ∧ μ'.1 84 q = μ.1 84 q ∧ μ'.1 3000081 q = μ.1 3000081 q) ∧ μ'.1 86 = μ.1 86 ∧ μ'.1 87 = μ.1 87
theorem rKq_z {μ μ' : zM} (h21 : μ'.1 66 ((21 : Nat) : Int) = μ.1 66 ((21 : Nat) : Int)) (a : μ'.1 82 = μ.1 82) (b : μ'.1 84 = μ.1 84) (c : μ'.1 3000081 = μ.1 3000081) (d : μ'.1 86 = μ.1 86) (e : μ'.1 87 = μ.1 87) : rKq μ μ' := ⟨h21, fun q _ => by rw [a, b, c]; exact ⟨rfl, rfl, rfl⟩, d, e⟩
theorem rKq_t {a b c : zM} (h1 : rKq a b) (h2 : rKq b c) : rKq a c := ⟨h2.1.trans h1.1, fun q h => ⟨(h2.2.1 q h).1.trans (h1.2.1 q h).1, (h2.2.1 q h).2.1.trans (h1.2.1 q h).2.1, (h2.2.1 q h).2.2.trans (h1.2.1 q h).2.2⟩, h2.2.2.1.trans h1.2.2.1, h2.2.2.2.trans h1.2.2.2⟩
theorem rKq_K {μ μ' : zM} (h : lK μ μ') : rKq μ μ' := rKq_z (by rw [h.1 66 (by decide) (by decide)]) (h.1 82 (by decide) (by decide)) (h.1 84 (by decide) (by decide)) (h.2.2.2 81 (by decide) (by decide)) (h.1 86 (by decide) (by decide)) (h.1 87 (by decide) (by decide))
def lP (μ : zM) (t : Nat) : Prop := ∀ p : Int, 0 ≤ p → p < μ.1 66 ((21 : Nat) : Int) → (μ.1 (Nat.add t 7) p = μ.1 82 p ∧ μ.1 (Nat.add t 8) p = μ.1 84 p ∧ μ.1 (Nat.add 3000000 (Nat.add t 6)) p = μ.1 3000081 p) ∧ ((μ.1 9 p = 1 ∧ rOg μ (μ.1 66 ((21 : Nat) : Int)) p) ∨ (μ.1 9 p = 0 ∧ ¬ rOg μ (μ.1 66 ((21 : Nat) : Int)) p))
def lB (μ : zM) : Prop := ∃ (t s : Nat), ((t : Int) = μ.1 0 ((3 : Nat) : Int) ∧ (s : Int) = μ.1 0 ((4 : Nat) : Int) ∧ ((t = 14 ∧ s = 32) ∨ (t = 32 ∧ s = 14))) ∧ (μ.1 t ((13 : Nat) : Int) = μ.1 66 ((21 : Nat) : Int) ∧ 0 ≤ μ.1 66 ((21 : Nat) : Int) ∧ μ.1 66 ((21 : Nat) : Int) ≤ 80) ∧ lP μ t
theorem lP_k {μ μ' : zM} {t : Nat} (h : lP μ t) (hb : μ.1 66 ((21 : Nat) : Int) ≤ 80) (e7 : μ'.1 (Nat.add t 7) = μ.1 (Nat.add t 7)) (e8 : μ'.1 (Nat.add t 8) = μ.1 (Nat.add t 8)) (e6 : μ'.1 (Nat.add 3000000 (Nat.add t 6)) = μ.1 (Nat.add 3000000 (Nat.add t 6))) (e9 : μ'.1 9 = μ.1 9) (r : rKq μ μ') : lP μ' t := fun p a b => by
  rw [r.1] at b
  have k := r.2.1 p (by omega)
  have w := h p a b
  rw [e7, e8, e6, e9, k.1, k.2.1, k.2.2, r.1, rOg_f r.2.2.1 r.2.2.2]
  exact w
theorem lB_k {μ μ' : zM} (h : lB μ) (hY : lY μ μ') (hR : rKq μ μ') : lB μ' := by
  obtain ⟨t, s, ⟨e1, e2, e3⟩, e4, e5⟩ := h
  refine ⟨t, s, ⟨e1.trans hY.1.1.symm, e2.trans hY.1.2.symm, e3⟩, ?_, lP_k e5 e4.2.2 (hY.2 _ (by unfold lyj; simp only [Nat.add_eq]; omega)) (hY.2 _ (by unfold lyj; simp only [Nat.add_eq]; omega)) (hY.2 _ (by unfold lyj; simp only [Nat.add_eq]; omega)) (hY.2 9 (Or.inl rfl)) hR⟩
  rw [hR.1, hY.2 t (by unfold lyj; omega)]
  exact e4
theorem lW_e {m m' : zM} {B : yB} (h : cWe m B) (h' : rWf m' B) : ∀ p q : Int, 0 ≤ p → p < 80 → 0 ≤ q → q < 80 → m.1 7 (p * 80 + q) = m'.1 86 (80 * p + q) := fun p q a b c d => yWn_1 (h p q a b c d) (h' p q a b c d)
theorem lO_e {m m' : zM} {B : yB} {n p : Int} (hn : n ≤ 80) (h : cWe m B) (h' : rWf m' B) (ho : cOn m n) (hr : rRc m' n) (p0 : 0 ≤ p) (p1 : p < n) : (m.1 9 p = 1 ∧ rOg m' n p) ∨ (m.1 9 p = 0 ∧ ¬ rOg m' n p) := by
  have cast : ((n.toNat : Nat) : Int) = n := by omega
  have w := ho p p0 p1
  have e := (w.1.trans ((wG_eq p0 (by rw [cast]; exact p1)).trans (wGr_c (w' := rWv m') (fun a b a0 a1 b0 b1 => lW_e h h' a b a0 (by omega) b0 (by omega)) p0 (by rw [cast]; exact p1)))).trans (rOg_r hr ⟨p0, p1⟩).symm
  rcases w.2 with q | q
  · exact Or.inr ⟨q, fun z => by have := e.mpr z; omega⟩
  · exact Or.inl ⟨q, e.mp q⟩
theorem lB_rd {μ μ1 μ2 : zM} {T T' : yT} {v v' : Int} (h : lB μ) (hq : yTq T T') (h0 : 0 ≤ T.2) (f12 : ∀ j : Nat, j < 66 ∨ (3000000 ≤ j ∧ j < 3000066) → μ2.1 j = μ1.1 j) (f01 : rKq μ μ1)
    (a : ((∃ p B, yR T (0, 0, 0, [], yB0) (21, p, 0, [], B) ∧ v = B.1 0 0 ∧ μ1.1 0 ((7 : Nat) : Int) = 0 ∧ (μ1.1 0 ((3 : Nat) : Int) = μ.1 0 ((4 : Nat) : Int) ∧ μ1.1 0 ((4 : Nat) : Int) = μ.1 0 ((3 : Nat) : Int)) ∧ ∀ s : Nat, (s : Int) = μ.1 0 ((4 : Nat) : Int) → (s = 14 ∨ s = 32) ∧ yTab μ1 s B ∧ yRS μ1 s 300 B ∧ (yGd B → cWf μ1 B)) ∨ (∃ p x B, yR T (0, 0, 0, [], yB0) (20, p, x, [], B) ∧ v = -10 - p ∧ μ1.1 0 ((7 : Nat) : Int) = x ∧ (μ1.1 0 ((3 : Nat) : Int) = μ.1 0 ((3 : Nat) : Int) ∧ μ1.1 0 ((4 : Nat) : Int) = μ.1 0 ((4 : Nat) : Int)) ∧ (∀ s : Nat, (s : Int) = μ.1 0 ((4 : Nat) : Int) → ∀ j : Nat, j ≠ 0 → zob s j → μ1.1 j = μ.1 j) ∧ (μ1.1 7 = μ.1 7 ∧ μ1.1 9 = μ.1 9))))
    (b : ((∃ p B, yR T' (0, 0, 0, [], yB0) (21, p, 0, [], B) ∧ v' = B.1 0 0 ∧ (rTb μ2 B ∧ rTq μ2 B) ∧ μ2.1 66 ((37 : Nat) : Int) = 0 ∧ (rPc μ2 B (zTop μ2) ∧ zUq μ2 0 ∧ rWf μ2 B ∧ yGd B) ∧ (rPa μ2 B ∧ rRc μ2 (B.1 0 1))) ∨ (∃ p x B, yR T' (0, 0, 0, [], yB0) (20, p, x, [], B) ∧ v' = -10 - p ∧ (rKp μ1 μ2 ∧ μ2.1 66 ((21 : Nat) : Int) = μ1.1 66 ((21 : Nat) : Int) ∧ ∀ q : Int, q < 80 → μ2.1 3000081 q = μ1.1 3000081 q) ∧ μ2.1 66 ((37 : Nat) : Int) = x ∧ (μ2.1 86 = μ1.1 86 ∧ μ2.1 87 = μ1.1 87) ∧ ∀ q : Int, q < 80 → μ2.1 82 q = μ1.1 82 q ∧ μ2.1 84 q = μ1.1 84 q))) : lB μ2 := by
  obtain ⟨t, s, ⟨e1, e2, e3⟩, e4, e5⟩ := h
  have hs : yPo T (0, 0, 0, [], yB0) := ⟨by decide, h0⟩
  rcases a with ⟨p, B, r, -, -, ⟨c1, c2⟩, c3⟩ | ⟨p, x, B, r, -, -, ⟨c1, c2⟩, c3, c4⟩ <;> rcases b with ⟨p', B', r', -, d3, -, d4⟩ | ⟨p', x', B', r', -, d3, -, d4⟩ <;> have q := yR_one (yR_q hq hs r) r' rfl rfl
  · cases q
    have i0 : yI0 B := by
      rcases yInv_R yInv_00 r' with w | w
      · exact absurd (show (21 : Nat) = 20 from w) (by decide)
      · exact w.1
    have g := c3 s e2
    have n2 := d3.2.1.2
    have n3 := i0.1
    refine ⟨s, t, ⟨by rw [f12 0 (by omega), c1]; exact e2, by rw [f12 0 (by omega), c2]; exact e1, by omega⟩, ?_, fun p a b => ?_⟩
    · have r1 := g.2.1.1.1.2.1
      rw [f12 s (by omega), r1, n2]
      exact ⟨rfl, by omega, by omega⟩
    · rw [n2] at b ⊢
      have k1 := (g.2.1.1.2.2 p a b).1
      have w := g.2.2.2 d4.1.2.2.2
      rw [f12 (Nat.add s 7) (by simp only [Nat.add_eq]; omega), f12 (Nat.add s 8) (by simp only [Nat.add_eq]; omega), f12 (Nat.add 3000000 (Nat.add s 6)) (by simp only [Nat.add_eq]; omega), f12 9 (by omega), k1.1, k1.2.1, k1.2.2, d4.2.1 p a b, (d4.1.1.2.2.2 p a b).1, d3.2.2.2 p a b]
      exact ⟨⟨rfl, rfl, rfl⟩, lO_e (by omega) w.1 d4.1.2.2.1 w.2 d4.2.2 a b⟩
  · exact absurd (congrArg Prod.fst q) (by simp)
  · exact absurd (congrArg Prod.fst q) (by simp)
  · have k2 : rKq μ1 μ2 := ⟨d3.2.1, fun q hq => ⟨(d4.2 q hq).1, (d4.2 q hq).2, d3.2.2 q hq⟩, d4.1.1, d4.1.2⟩
    have kk := rKq_t f01 k2
    refine ⟨t, s, ⟨by rw [f12 0 (by omega), c1]; exact e1, by rw [f12 0 (by omega), c2]; exact e2, e3⟩, ?_, lP_k e5 e4.2.2 (by rw [f12 _ (by simp only [Nat.add_eq]; omega)]; exact c3 s e2 _ (by simp only [Nat.add_eq]; omega) (by unfold zob; simp only [Nat.add_eq]; omega)) (by rw [f12 _ (by simp only [Nat.add_eq]; omega)]; exact c3 s e2 _ (by simp only [Nat.add_eq]; omega) (by unfold zob; simp only [Nat.add_eq]; omega)) (by rw [f12 _ (by simp only [Nat.add_eq]; omega)]; exact c3 s e2 _ (by simp only [Nat.add_eq]; omega) (by unfold zob; simp only [Nat.add_eq]; omega)) (by rw [f12 9 (by omega)]; exact c4.2) kk⟩
    rw [kk.1, f12 t (by omega), c3 s e2 t (by omega) (by unfold zob; omega)]
    exact e4
theorem lB_cl {μ μ1 μ2 : zM} (h : lB μ) (f12 : ∀ j : Nat, j < 66 ∨ (3000000 ≤ j ∧ j < 3000066) → μ2.1 j = μ1.1 j) (c : μ1.1 0 ((3 : Nat) : Int) = μ.1 0 ((3 : Nat) : Int) ∧ μ1.1 0 ((4 : Nat) : Int) = μ.1 0 ((4 : Nat) : Int)) (c3 : ∀ s : Nat, (s : Int) = μ.1 0 ((3 : Nat) : Int) → (s = 14 ∨ s = 32) ∧ yTab μ1 s yB0) (h21 : μ2.1 66 ((21 : Nat) : Int) = 0) : lB μ2 := by
  obtain ⟨t, s, ⟨e1, e2, e3⟩, e4, e5⟩ := h
  refine ⟨t, s, ⟨by rw [f12 0 (by omega), c.1]; exact e1, by rw [f12 0 (by omega), c.2]; exact e2, e3⟩, ?_, fun p a b => by exfalso; omega⟩
  have r1 := (c3 t e1).2.1.1.2.1
  rw [f12 t (by omega), r1, h21]
  exact ⟨rfl, by decide, by decide⟩
/-- parameter: the same of both -/
theorem lB_pa {μ μ1 : zM} {a1 : Int} (h : lB μ) (f : rKq μ μ1) : ∃ t : Nat, (t : Int) = μ.1 0 ((3 : Nat) : Int) ∧ ((0 ≤ a1 ∧ a1 < μ.1 t ((13 : Nat) : Int)) ↔ (0 ≤ a1 ∧ a1 < μ1.1 66 ((21 : Nat) : Int))) ∧ ((0 ≤ a1 ∧ a1 < μ.1 t ((13 : Nat) : Int)) → ∀ (a2 : Int) (u v : Int64), ypa μ t a1 a2 u → rkpa μ1 a1 a2 v → u = v) := by
  obtain ⟨t, s, ⟨e1, e2, e3⟩, e4, e5⟩ := h
  refine ⟨t, e1, by rw [f.1, e4.1], fun hI a2 u v hu hv => ?_⟩
  rw [e4.1] at hI
  have w := e5 a1 hI.1 hI.2
  have k := f.2.1 a1 (by omega)
  unfold ypa at hu
  unfold rkpa at hv
  rw [w.1.1, w.1.2.1, w.1.2.2] at hu
  rw [k.1, k.2.1, k.2.2, f.1, rOg_f f.2.2.1 f.2.2.2] at hv
  rcases hu with ⟨x, y⟩ | ⟨x, y⟩ | ⟨x, y⟩ | ⟨x, y⟩ <;> rcases hv with ⟨x', y'⟩ | ⟨x', y'⟩ | ⟨x', y'⟩ | ⟨x', y'⟩ <;> first | (exfalso; omega) | skip
  · rw [y, y']
  · rw [y, y']
  · exact Int64.toInt_inj.mp (y.trans y'.symm)
  · rcases w.2 with ⟨q1, q2⟩ | ⟨q1, q2⟩ <;> rcases y' with ⟨z1, z2⟩ | ⟨z1, z2⟩
    · rw [y, z1, q1]; rfl
    · exact absurd q2 z2
    · exact absurd z2 q2
    · rw [y, z1, q1]; rfl
