/-! ### the tables alike -/
def lyj (j : Nat) : Prop := (14 ≤ j ∧ j < 50) ∨ (3000014 ≤ j ∧ j < 3000050)
def lY (μ μ' : zM) : Prop := (μ'.1 0 ((3 : Nat) : Int) = μ.1 0 ((3 : Nat) : Int) ∧ μ'.1 0 ((4 : Nat) : Int) = μ.1 0 ((4 : Nat) : Int)) ∧ ∀ j : Nat, lyj j → μ'.1 j = μ.1 j
theorem lY_r (μ : zM) : lY μ μ := ⟨⟨rfl, rfl⟩, fun _ _ => rfl⟩
theorem lY_t {a b c : zM} (h1 : lY a b) (h2 : lY b c) : lY a c := ⟨⟨h2.1.1.trans h1.1.1, h2.1.2.trans h1.1.2⟩, fun j hj => (h2.2 j hj).trans (h1.2 j hj)⟩
theorem lY_o {μ μ' : zM} {v : Int} (h : lY μ μ') : lY μ (zu μ' 3000108 0 v) := by
  refine ⟨?_, fun j hj => ?_⟩
  · rw [zu_ne (by decide)]; exact h.1
  · unfold lyj at hj
    rw [zu_ne (by omega)]
    exact h.2 j hj
theorem lY_d {μ : zM} {n : Nat} : lY μ (zdd μ n) := ⟨by rw [zdd_n (by decide)]; exact ⟨rfl, rfl⟩, fun j hj => by unfold lyj at hj; exact zdd_n (by omega)⟩
theorem lY_q {μ μ' : zM} (h : zqy μ μ') : lY μ μ' := ⟨h.2.1, fun j hj => h.2.2 j (by unfold lyj at hj; unfold zyj; omega)⟩
theorem lY_0 {μ μ' : zM} (h : zq0 μ μ') : lY μ μ' := lY_q (zqy_0 h)
theorem lY_f {μ μ' : zM} (h : ∀ j : Nat, j < 66 ∨ (3000000 ≤ j ∧ j < 3000066) → μ'.1 j = μ.1 j) : lY μ μ' := ⟨by rw [h 0 (by omega)]; exact ⟨rfl, rfl⟩, fun j hj => h j (by unfold lyj at hj; omega)⟩
def lBi (B : yB) : Prop := ∀ k d : Int, B.2 2 k d = [] ∨ ∃ l, B.2 2 k d = [l] ∧ l ≠ []
def lB (μ : zM) : Prop := ∃ (t s : Nat) (B : yB), ((t : Int) = μ.1 0 ((3 : Nat) : Int) ∧ (s : Int) = μ.1 0 ((4 : Nat) : Int) ∧ ((t = 14 ∧ s = 32) ∨ (t = 32 ∧ s = 14))) ∧ yTab μ t B ∧ rSg μ B ∧ lBi B
theorem rSg_f {μ μ' : zM} {B : yB} (h : rSg μ B) (h20 : μ'.1 66 ((20 : Nat) : Int) = μ.1 66 ((20 : Nat) : Int)) (h80 : ∀ q : Int, q < 441 → μ'.1 80 q = μ.1 80 q) (hb : B.1 0 0 ≤ 21) : rSg μ' B := by
  refine ⟨h20.trans h.1, fun k d a b c e => ?_⟩
  have : rOv μ' k d ↔ rOv μ k d := by unfold rOv; rw [h80 _ (by omega)]
  rw [this]
  exact h.2 k d a b c e
theorem lB_k {μ μ' : zM} (h : lB μ) (hY : lY μ μ') (h20 : μ'.1 66 ((20 : Nat) : Int) = μ.1 66 ((20 : Nat) : Int)) (h80 : ∀ q : Int, q < 441 → μ'.1 80 q = μ.1 80 q) : lB μ' := by
  obtain ⟨t, s, B, ⟨e1, e2, e3⟩, e4, e5, e6⟩ := h
  exact ⟨t, s, B, ⟨e1.trans hY.1.1.symm, e2.trans hY.1.2.symm, e3⟩, yTab_fr e4 (by omega) (fun j hj => hY.2 j (by unfold lyj; omega)), rSg_f e5 h20 h80 e4.1.1.2.2.1.2, e6⟩
/-- a text was read: the tables are alike behind it -/
theorem lB_rd {μ μ1 μ2 : zM} {T T' : yT} {v v' : Int} (h : lB μ) (hq : yTq T T') (h0 : 0 ≤ T.2) (f12 : ∀ j : Nat, j < 66 ∨ (3000000 ≤ j ∧ j < 3000066) → μ2.1 j = μ1.1 j) (f01 : μ1.1 66 = μ.1 66 ∧ μ1.1 80 = μ.1 80)
    (a : (∃ p B, yR T (0, 0, 0, [], yB0) (21, p, 0, [], B) ∧ v = B.1 0 0 ∧ (μ1.1 0 ((3 : Nat) : Int) = μ.1 0 ((4 : Nat) : Int) ∧ μ1.1 0 ((4 : Nat) : Int) = μ.1 0 ((3 : Nat) : Int)) ∧ ∀ s : Nat, (s : Int) = μ.1 0 ((4 : Nat) : Int) → (s = 14 ∨ s = 32) ∧ yTab μ1 s B) ∨ (∃ p x B, yR T (0, 0, 0, [], yB0) (20, p, x, [], B) ∧ v = -10 - p ∧ (μ1.1 0 ((3 : Nat) : Int) = μ.1 0 ((3 : Nat) : Int) ∧ μ1.1 0 ((4 : Nat) : Int) = μ.1 0 ((4 : Nat) : Int)) ∧ ∀ s : Nat, (s : Int) = μ.1 0 ((4 : Nat) : Int) → ∀ j : Nat, j ≠ 0 → zob s j → μ1.1 j = μ.1 j))
    (b : (∃ p B, yR T' (0, 0, 0, [], yB0) (21, p, 0, [], B) ∧ v' = B.1 0 0 ∧ rSg μ2 B) ∨ (∃ p x B, yR T' (0, 0, 0, [], yB0) (20, p, x, [], B) ∧ v' = -10 - p ∧ (μ2.1 66 ((20 : Nat) : Int) = μ1.1 66 ((20 : Nat) : Int) ∧ ∀ q : Int, q < 441 → μ2.1 80 q = μ1.1 80 q))) : lB μ2 := by
  obtain ⟨t, s, B0, ⟨e1, e2, e3⟩, e4, e5, e6⟩ := h
  have hs : yPo T (0, 0, 0, [], yB0) := ⟨by decide, h0⟩
  rcases a with ⟨p, B, r, -, ⟨c1, c2⟩, c3⟩ | ⟨p, x, B, r, -, ⟨c1, c2⟩, c3⟩ <;> rcases b with ⟨p', B', r', -, d3⟩ | ⟨p', x', B', r', -, d3⟩ <;> have q := yR_one (yR_q hq hs r) r' rfl rfl
  · cases q
    have i2 : yI2 B := by
      rcases yInv_R yInv_00 r' with w | w
      · exact absurd (show (21 : Nat) = 20 from w) (by decide)
      · exact w.2.1
    refine ⟨s, t, B, ⟨by rw [f12 0 (by omega), c1]; exact e2, by rw [f12 0 (by omega), c2]; exact e1, by omega⟩, yTab_fr (c3 s e2).2 (c3 s e2).1 (fun j hj => f12 j (by omega)), d3, fun k d => ?_⟩
    rcases i2 k d with w | ⟨l, w1, w2, -, -⟩
    · exact Or.inl w
    · exact Or.inr ⟨l, w1, w2⟩
  · exact absurd (congrArg Prod.fst q) (by simp)
  · exact absurd (congrArg Prod.fst q) (by simp)
  · refine ⟨t, s, B0, ⟨by rw [f12 0 (by omega), c1]; exact e1, by rw [f12 0 (by omega), c2]; exact e2, e3⟩, yTab_fr e4 (by omega) (fun j hj => by rw [f12 j (by omega)]; exact c3 s e2 j (by omega) (by unfold zob; omega)), rSg_f e5 (by rw [d3.1, f01.1]) (fun q hq => by rw [d3.2 q hq, f01.2]) e4.1.1.2.2.1.2, e6⟩
theorem lB_cl {μ μ1 μ2 : zM} (h : lB μ) (f12 : ∀ j : Nat, j < 66 ∨ (3000000 ≤ j ∧ j < 3000066) → μ2.1 j = μ1.1 j) (c : μ1.1 0 ((3 : Nat) : Int) = μ.1 0 ((3 : Nat) : Int) ∧ μ1.1 0 ((4 : Nat) : Int) = μ.1 0 ((4 : Nat) : Int)) (c3 : ∀ s : Nat, (s : Int) = μ.1 0 ((3 : Nat) : Int) → (s = 14 ∨ s = 32) ∧ yTab μ1 s yB0) (h20 : μ2.1 66 ((20 : Nat) : Int) = 1) : lB μ2 := by
  obtain ⟨t, s, B0, ⟨e1, e2, e3⟩, e4, e5, e6⟩ := h
  refine ⟨t, s, yB0, ⟨by rw [f12 0 (by omega), c.1]; exact e1, by rw [f12 0 (by omega), c.2]; exact e2, e3⟩, yTab_fr (c3 t e1).2 (c3 t e1).1 (fun j hj => f12 j (by omega)), ⟨h20, fun k d a b x y => ?_⟩, fun k d => ?_⟩
  · have hk : k = 0 := by have : k < 1 := b; omega
    subst hk
    unfold rOv
    show _ ↔ (if (2 : Nat) = 2 ∧ (0 : Int) = 0 ∧ d = 0 then [[0]] else []) ≠ []
    by_cases q : d = 0
    · rw [if_pos ⟨rfl, rfl, q⟩]; exact ⟨fun _ => by simp, fun _ => Or.inr (Or.inl q)⟩
    · rw [if_neg (by omega)]; exact ⟨fun h => by omega, fun h => absurd rfl h⟩
  · show (if (2 : Nat) = 2 ∧ k = 0 ∧ d = 0 then [[0]] else []) = [] ∨ ∃ l, (if (2 : Nat) = 2 ∧ k = 0 ∧ d = 0 then [[0]] else []) = [l] ∧ l ≠ []
    by_cases q : (2 : Nat) = 2 ∧ k = 0 ∧ d = 0
    · rw [if_pos q]; exact Or.inr ⟨[0], rfl, by simp⟩
    · rw [if_neg q]; exact Or.inl rfl
/-- isAbove: the same of both -/
theorem lB_ia {μ μ1 : zM} {a1 a2 : Int} (h : lB μ) (f : μ1.1 66 = μ.1 66 ∧ μ1.1 80 = μ.1 80) : ∃ t : Nat, (t : Int) = μ.1 0 ((3 : Nat) : Int) ∧ (((0 ≤ a1 ∧ a1 < μ.1 t ((12 : Nat) : Int)) ∧ (0 ≤ a2 ∧ a2 < μ.1 t ((12 : Nat) : Int))) ↔ ((0 ≤ a1 ∧ a1 < μ1.1 66 ((20 : Nat) : Int)) ∧ (0 ≤ a2 ∧ a2 < μ1.1 66 ((20 : Nat) : Int)))) ∧ (((0 ≤ a1 ∧ a1 < μ.1 t ((12 : Nat) : Int)) ∧ (0 ≤ a2 ∧ a2 < μ.1 t ((12 : Nat) : Int))) → (0 < μ.1 (Nat.add t 14) (a1 * 21 + a2) ↔ rOv μ1 a1 a2)) := by
  obtain ⟨t, s, B, ⟨e1, e2, e3⟩, e4, e5, e6⟩ := h
  have n1 := e4.1.1.1
  have n2 := e5.1
  have n3 := e4.1.1.2.2.1
  refine ⟨t, e1, by rw [n1, f.1, n2], fun hI => ?_⟩
  rw [n1] at hI
  have r : rOv μ1 a1 a2 ↔ rOv μ a1 a2 := by unfold rOv; rw [f.2]
  rw [r, e5.2 a1 a2 hI.1.1 hI.1.2 hI.2.1 (by omega), e4.2 a1 a2 hI.1.1 (by omega) hI.2.1 (by omega)]
  rcases e6 a1 a2 with w | ⟨l, w1, w2⟩
  · rw [w]; simp
  · rw [w1]
    have : 0 < l.length := List.length_pos_iff.mpr w2
    constructor
    · intro _; simp
    · intro _; simp; omega
