/-! ### the ways alike -/
def lyj (j : Nat) : Prop := j = 7 ∨ (14 ≤ j ∧ j < 50) ∨ (3000014 ≤ j ∧ j < 3000050)
def lY (μ μ' : zM) : Prop := (μ'.1 0 ((3 : Nat) : Int) = μ.1 0 ((3 : Nat) : Int) ∧ μ'.1 0 ((4 : Nat) : Int) = μ.1 0 ((4 : Nat) : Int)) ∧ ∀ j : Nat, lyj j → μ'.1 j = μ.1 j
theorem lY_r (μ : zM) : lY μ μ := ⟨⟨rfl, rfl⟩, fun _ _ => rfl⟩
theorem lY_t {a b c : zM} (h1 : lY a b) (h2 : lY b c) : lY a c := ⟨⟨h2.1.1.trans h1.1.1, h2.1.2.trans h1.1.2⟩, fun j hj => (h2.2 j hj).trans (h1.2 j hj)⟩
theorem lY_o {μ μ' : zM} {v : Int} (h : lY μ μ') : lY μ (zu μ' 3000108 0 v) := by
  refine ⟨?_, fun j hj => ?_⟩
  · rw [zu_ne (by decide)]; exact h.1
  · unfold lyj at hj
    rw [zu_ne (by omega)]
    exact h.2 j hj
theorem lY_d {μ : zM} {n : Nat} : lY μ (zdd μ n) := ⟨by rw [zdd_n (by decide)]; exact ⟨rfl, rfl⟩, fun j hj => by unfold lyj at hj; exact zdd_n (by omega)⟩
theorem lY_q {μ μ' : zM} (h : zqy μ μ') : lY μ μ' := ⟨h.2.1, fun j hj => h.2.2 j (by unfold lyj at hj; unfold zyj; omega)⟩
theorem lY_0 {μ μ' : zM} (h : zq0 μ μ') : lY μ μ' := lY_q (zqy_0 h)
theorem lY_f {μ μ' : zM} (h : ∀ j : Nat, j < 66 ∨ (3000000 ≤ j ∧ j < 3000066) → μ'.1 j = μ.1 j) : lY μ μ' := ⟨by rw [h 0 (by omega)]; exact ⟨rfl, rfl⟩, fun j hj => h j (by unfold lyj at hj; omega)⟩
def lB (μ : zM) : Prop := ∃ (t s : Nat), ((t : Int) = μ.1 0 ((3 : Nat) : Int) ∧ (s : Int) = μ.1 0 ((4 : Nat) : Int) ∧ ((t = 14 ∧ s = 32) ∨ (t = 32 ∧ s = 14))) ∧ (μ.1 t ((13 : Nat) : Int) = μ.1 66 ((21 : Nat) : Int) ∧ 0 ≤ μ.1 66 ((21 : Nat) : Int) ∧ μ.1 66 ((21 : Nat) : Int) ≤ 80) ∧ ∀ p q : Int, 0 ≤ p → p < 80 → 0 ≤ q → q < 80 → μ.1 7 (p * 80 + q) = μ.1 86 (80 * p + q)
theorem lB_k {μ μ' : zM} (h : lB μ) (hY : lY μ μ') (h21 : μ'.1 66 ((21 : Nat) : Int) = μ.1 66 ((21 : Nat) : Int)) (h86 : μ'.1 86 = μ.1 86) : lB μ' := by
  obtain ⟨t, s, ⟨e1, e2, e3⟩, e4, e5⟩ := h
  refine ⟨t, s, ⟨e1.trans hY.1.1.symm, e2.trans hY.1.2.symm, e3⟩, ?_, ?_⟩
  · rw [h21, hY.2 t (by unfold lyj; omega)]; exact e4
  · rw [h86, hY.2 7 (Or.inl rfl)]; exact e5
theorem lW_e {m m' : zM} {B : yB} (h : cWf m B) (h' : rWf m' B) : ∀ p q : Int, 0 ≤ p → p < 80 → 0 ≤ q → q < 80 → m.1 7 (p * 80 + q) = m'.1 86 (80 * p + q) := fun p q a b c d => yWn_1 (h p q a b c d) (h' p q a b c d)
theorem yWs_0 {p q : Int} {g : Prop} : ¬ yWs yB0 p q g := by
  rintro (⟨k, i, a, b, c, d, -⟩ | ⟨r, i, a, b, c, d, -⟩)
  · have d : i < 0 := d; omega
  · have b : r < 0 := b; omega
theorem rWf_0 {m : zM} (h : ∀ w : Int, 0 ≤ w → w < 6400 → m.1 86 w = 0 ∧ m.1 87 w = 0) : rWf m yB0 := fun p q a b c d => by
  rw [(h _ (by omega) (by omega)).1]
  exact ⟨⟨fun z => by omega, fun z => absurd z yWs_0⟩, ⟨fun z => by omega, fun z => absurd z yWs_0⟩, by decide, by decide⟩
theorem lB_rd {μ μ1 μ2 : zM} {T T' : yT} {v v' : Int} (h : lB μ) (hq : yTq T T') (h0 : 0 ≤ T.2) (f12 : ∀ j : Nat, j < 66 ∨ (3000000 ≤ j ∧ j < 3000066) → μ2.1 j = μ1.1 j) (f01 : μ1.1 66 = μ.1 66 ∧ μ1.1 86 = μ.1 86)
    (a : ((∃ p B, yR T (0, 0, 0, [], yB0) (21, p, 0, [], B) ∧ v = B.1 0 0 ∧ μ1.1 0 ((7 : Nat) : Int) = 0 ∧ (μ1.1 0 ((3 : Nat) : Int) = μ.1 0 ((4 : Nat) : Int) ∧ μ1.1 0 ((4 : Nat) : Int) = μ.1 0 ((3 : Nat) : Int)) ∧ ∀ s : Nat, (s : Int) = μ.1 0 ((4 : Nat) : Int) → (s = 14 ∨ s = 32) ∧ yTab μ1 s B ∧ yRS μ1 s 300 B ∧ (yGd B → cWf μ1 B)) ∨ (∃ p x B, yR T (0, 0, 0, [], yB0) (20, p, x, [], B) ∧ v = -10 - p ∧ μ1.1 0 ((7 : Nat) : Int) = x ∧ (μ1.1 0 ((3 : Nat) : Int) = μ.1 0 ((3 : Nat) : Int) ∧ μ1.1 0 ((4 : Nat) : Int) = μ.1 0 ((4 : Nat) : Int)) ∧ (∀ s : Nat, (s : Int) = μ.1 0 ((4 : Nat) : Int) → ∀ j : Nat, j ≠ 0 → zob s j → μ1.1 j = μ.1 j) ∧ μ1.1 7 = μ.1 7)))
    (b : ((∃ p B, yR T' (0, 0, 0, [], yB0) (21, p, 0, [], B) ∧ v' = B.1 0 0 ∧ (rTb μ2 B ∧ rTq μ2 B) ∧ μ2.1 66 ((37 : Nat) : Int) = 0 ∧ (rPc μ2 B (zTop μ2) ∧ zUq μ2 0 ∧ rWf μ2 B ∧ yGd B)) ∨ (∃ p x B, yR T' (0, 0, 0, [], yB0) (20, p, x, [], B) ∧ v' = -10 - p ∧ (rKp μ1 μ2 ∧ μ2.1 66 ((21 : Nat) : Int) = μ1.1 66 ((21 : Nat) : Int) ∧ ∀ q : Int, q < 80 → μ2.1 3000081 q = μ1.1 3000081 q) ∧ μ2.1 66 ((37 : Nat) : Int) = x ∧ (μ2.1 86 = μ1.1 86 ∧ μ2.1 87 = μ1.1 87)))) : lB μ2 := by
  obtain ⟨t, s, ⟨e1, e2, e3⟩, e4, e5⟩ := h
  have hs : yPo T (0, 0, 0, [], yB0) := ⟨by decide, h0⟩
  rcases a with ⟨p, B, r, -, -, ⟨c1, c2⟩, c3⟩ | ⟨p, x, B, r, -, -, ⟨c1, c2⟩, c3, c4⟩ <;> rcases b with ⟨p', B', r', -, d3, -, d4⟩ | ⟨p', x', B', r', -, d3, -, d4⟩ <;> have q := yR_one (yR_q hq hs r) r' rfl rfl
  · cases q
    have i0 : yI0 B := by
      rcases yInv_R yInv_00 r' with w | w
      · exact absurd (show (21 : Nat) = 20 from w) (by decide)
      · exact w.1
    have g := c3 s e2
    refine ⟨s, t, ⟨by rw [f12 0 (by omega), c1]; exact e2, by rw [f12 0 (by omega), c2]; exact e1, by omega⟩, ?_, ?_⟩
    · have r1 := g.2.1.1.1.2.1
      have r2 := d3.2.1.2
      have r3 := i0.1
      rw [f12 s (by omega), r1, r2]
      exact ⟨rfl, by omega, by omega⟩
    · have w := lW_e (g.2.2.2 d4.2.2.2) d4.2.2.1
      rw [f12 7 (by omega)]
      exact w
  · exact absurd (congrArg Prod.fst q) (by simp)
  · exact absurd (congrArg Prod.fst q) (by simp)
  · refine ⟨t, s, ⟨by rw [f12 0 (by omega), c1]; exact e1, by rw [f12 0 (by omega), c2]; exact e2, e3⟩, ?_, ?_⟩
    · rw [f12 t (by omega), c3 s e2 t (by omega) (by unfold zob; omega), d3.2.1, f01.1]; exact e4
    · rw [f12 7 (by omega), c4, d4.1, f01.2]; exact e5
theorem lB_cl {μ μ1 μ2 : zM} (h : lB μ) (f12 : ∀ j : Nat, j < 66 ∨ (3000000 ≤ j ∧ j < 3000066) → μ2.1 j = μ1.1 j) (c : μ1.1 0 ((3 : Nat) : Int) = μ.1 0 ((3 : Nat) : Int) ∧ μ1.1 0 ((4 : Nat) : Int) = μ.1 0 ((4 : Nat) : Int)) (c3 : ∀ s : Nat, (s : Int) = μ.1 0 ((3 : Nat) : Int) → (s = 14 ∨ s = 32) ∧ yTab μ1 s yB0) (c4 : cWf μ1 yB0) (h21 : μ2.1 66 ((21 : Nat) : Int) = 0) (h86 : ∀ w : Int, 0 ≤ w → w < 6400 → μ2.1 86 w = 0 ∧ μ2.1 87 w = 0) : lB μ2 := by
  obtain ⟨t, s, ⟨e1, e2, e3⟩, e4, e5⟩ := h
  refine ⟨t, s, ⟨by rw [f12 0 (by omega), c.1]; exact e1, by rw [f12 0 (by omega), c.2]; exact e2, e3⟩, ?_, ?_⟩
  · have r1 := (c3 t e1).2.1.1.2.1
    rw [f12 t (by omega), r1, h21]
    exact ⟨rfl, by decide, by decide⟩
  · rw [f12 7 (by omega)]; exact lW_e c4 (rWf_0 h86)
theorem lB_wy {μ μ1 : zM} {a1 a2 : Int} (h : lB μ) (f : μ1.1 66 = μ.1 66 ∧ μ1.1 86 = μ.1 86) : ∃ t : Nat, (t : Int) = μ.1 0 ((3 : Nat) : Int) ∧ (((0 ≤ a1 ∧ a1 < μ.1 t ((13 : Nat) : Int)) ∧ (0 ≤ a2 ∧ a2 < μ.1 t ((13 : Nat) : Int))) ↔ ((0 ≤ a1 ∧ a1 < μ1.1 66 ((21 : Nat) : Int)) ∧ (0 ≤ a2 ∧ a2 < μ1.1 66 ((21 : Nat) : Int)))) ∧ (((0 ≤ a1 ∧ a1 < μ.1 t ((13 : Nat) : Int)) ∧ (0 ≤ a2 ∧ a2 < μ.1 t ((13 : Nat) : Int))) → μ.1 7 (a1 * 80 + a2) = μ1.1 86 (80 * a1 + a2)) := by
  obtain ⟨t, s, ⟨e1, e2, e3⟩, e4, e5⟩ := h
  refine ⟨t, e1, by rw [f.1, e4.1], fun hI => ?_⟩
  rw [f.2]
  exact e5 a1 a2 hI.1.1 (by omega) hI.2.1 (by omega)
