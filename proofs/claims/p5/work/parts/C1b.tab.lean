/-! ### the tables alike -/
def lyj (j : Nat) : Prop := (14 ≤ j ∧ j < 50) ∨ (3000014 ≤ j ∧ j < 3000050)
def lY (μ μ' : zM) : Prop := (μ'.1 0 ((3 : Nat) : Int) = μ.1 0 ((3 : Nat) : Int) ∧ μ'.1 0 ((4 : Nat) : Int) = μ.1 0 ((4 : Nat) : Int)) ∧ ∀ j : Nat, lyj j → μ'.1 j = μ.1 j
theorem lY_r (μ : zM) : lY μ μ := ⟨⟨rfl, rfl⟩, fun _ _ => rfl⟩
theorem lY_t {a b c : zM} (h1 : lY a b) (h2 : lY b c) : lY a c := ⟨⟨h2.1.1.trans h1.1.1, h2.1.2.trans h1.1.2⟩, fun j hj => (h2.2 j hj).trans (h1.2 j hj)⟩
theorem lY_o {μ μ' : zM} {v : Int} (h : lY μ μ') : lY μ (zu μ' 3000108 0 v) := by
  refine ⟨?_, fun j hj => ?_⟩
  · rw [zu_ne (by decide)]; exact h.1
  · unfold lyj at hj
    rw [zu_ne (by omega)]
    exact h.2 j hj
theorem lY_d {μ : zM} {n : Nat} : lY μ (zdd μ n) := ⟨by rw [zdd_n (by decide)]; exact ⟨rfl, rfl⟩, fun j hj => by unfold lyj at hj; exact zdd_n (by omega)⟩
theorem lY_q {μ μ' : zM} (h : zqy μ μ') : lY μ μ' := ⟨h.2.1, fun j hj => h.2.2 j (by unfold lyj at hj; unfold zyj; omega)⟩
theorem lY_0 {μ μ' : zM} (h : zq0 μ μ') : lY μ μ' := lY_q (zqy_0 h)
theorem lY_f {μ μ' : zM} (h : ∀ j : Nat, j < 66 ∨ (3000000 ≤ j ∧ j < 3000066) → μ'.1 j = μ.1 j) : lY μ μ' := ⟨by rw [h 0 (by omega)]; exact ⟨rfl, rfl⟩, fun j hj => h j (by unfold lyj at hj; omega)⟩
def lBi (B : yB) : Prop := ∀ k d : Int, B.2 2 k d = [] ∨ ∃ l, B.2 2 k d = [l] ∧ l ≠ []
def lB (μ : zM) : Prop := ∃ (t s : Nat) (B : yB), ((t : Int) = μ.1 0 ((3 : Nat) : Int) ∧ (s : Int) = μ.1 0 ((4 : Nat) : Int) ∧ ((t = 14 ∧ s = 32) ∨ (t = 32 ∧ s = 14))) ∧ yTab μ t B ∧ rTb μ B ∧ lBi B
theorem rSg_f {μ μ' : zM} {B : yB} (h : rSg μ B) (h20 : μ'.1 66 ((20 : Nat) : Int) = μ.1 66 ((20 : Nat) : Int)) (h80 : ∀ q : Int, q < 441 → μ'.1 80 q = μ.1 80 q) (hb : B.1 0 0 ≤ 21) : rSg μ' B := by
  refine ⟨h20.trans h.1, fun k d a b c e => ?_⟩
  have : rOv μ' k d ↔ rOv μ k d := by unfold rOv; rw [h80 _ (by omega)]
  rw [this]
  exact h.2 k d a b c e
theorem rTb_f {μ μ' : zM} {B : yB} (h : rTb μ B) (k : rKp μ μ') (hb : B.1 0 0 ≤ 21) : rTb μ' B := ⟨rSg_f h.1 k.1 k.2.1 hb, fun q a b => by
  have w := k.2.2 q (by omega)
  rw [w.1, w.2.1, w.2.2.1, w.2.2.2]
  exact h.2 q a b⟩
theorem rKp_z {μ μ' : zM} (h20 : μ'.1 66 ((20 : Nat) : Int) = μ.1 66 ((20 : Nat) : Int)) (h : ∀ j : Nat, j = 80 ∨ j = 3000075 ∨ j = 76 ∨ j = 77 ∨ j = 79 → μ'.1 j = μ.1 j) : rKp μ μ' := ⟨h20, fun q _ => by rw [h 80 (by omega)], fun q _ => ⟨by rw [h 3000075 (by omega)], by rw [h 76 (by omega)], by rw [h 77 (by omega)], by rw [h 79 (by omega)]⟩⟩
theorem rKp_5 {μ μ' : zM} (h20 : μ'.1 66 ((20 : Nat) : Int) = μ.1 66 ((20 : Nat) : Int)) (a : μ'.1 80 = μ.1 80) (b : μ'.1 3000075 = μ.1 3000075) (c : μ'.1 76 = μ.1 76) (d : μ'.1 77 = μ.1 77) (e : μ'.1 79 = μ.1 79) : rKp μ μ' := rKp_z h20 (fun j h => by rcases h with rfl | rfl | rfl | rfl | rfl <;> assumption)
theorem rKp_t {a b c : zM} (h1 : rKp a b) (h2 : rKp b c) : rKp a c := ⟨h2.1.trans h1.1, fun q h => (h2.2.1 q h).trans (h1.2.1 q h), fun q h => ⟨(h2.2.2 q h).1.trans (h1.2.2 q h).1, (h2.2.2 q h).2.1.trans (h1.2.2 q h).2.1, (h2.2.2 q h).2.2.1.trans (h1.2.2 q h).2.2.1, (h2.2.2 q h).2.2.2.trans (h1.2.2 q h).2.2.2⟩⟩
theorem rKp_K {μ μ' : zM} (h : lK μ μ') : rKp μ μ' := rKp_z (by rw [h.1 66 (by decide) (by decide)]) (fun j hj => by
  rcases hj with rfl | rfl | rfl | rfl | rfl
  · exact h.1 80 (by decide) (by decide)
  · exact h.2.2.2 75 (by decide) (by decide)
  · exact h.1 76 (by decide) (by decide)
  · exact h.1 77 (by decide) (by decide)
  · exact h.1 79 (by decide) (by decide))
theorem lB_k {μ μ' : zM} (h : lB μ) (hY : lY μ μ') (hR : rKp μ μ') : lB μ' := by
  obtain ⟨t, s, B, ⟨e1, e2, e3⟩, e4, e5, e6⟩ := h
  exact ⟨t, s, B, ⟨e1.trans hY.1.1.symm, e2.trans hY.1.2.symm, e3⟩, yTab_fr e4 (by omega) (fun j hj => hY.2 j (by unfold lyj; omega)), rTb_f e5 hR e4.1.1.2.2.1.2, e6⟩
/-- a text was read: the tables are alike behind it -/
theorem lB_rd {μ μ1 μ2 : zM} {T T' : yT} {v v' : Int} (h : lB μ) (hq : yTq T T') (h0 : 0 ≤ T.2) (f12 : ∀ j : Nat, j < 66 ∨ (3000000 ≤ j ∧ j < 3000066) → μ2.1 j = μ1.1 j) (f01 : rKp μ μ1)
    (a : (∃ p B, yR T (0, 0, 0, [], yB0) (21, p, 0, [], B) ∧ v = B.1 0 0 ∧ (μ1.1 0 ((3 : Nat) : Int) = μ.1 0 ((4 : Nat) : Int) ∧ μ1.1 0 ((4 : Nat) : Int) = μ.1 0 ((3 : Nat) : Int)) ∧ ∀ s : Nat, (s : Int) = μ.1 0 ((4 : Nat) : Int) → (s = 14 ∨ s = 32) ∧ yTab μ1 s B) ∨ (∃ p x B, yR T (0, 0, 0, [], yB0) (20, p, x, [], B) ∧ v = -10 - p ∧ (μ1.1 0 ((3 : Nat) : Int) = μ.1 0 ((3 : Nat) : Int) ∧ μ1.1 0 ((4 : Nat) : Int) = μ.1 0 ((4 : Nat) : Int)) ∧ ∀ s : Nat, (s : Int) = μ.1 0 ((4 : Nat) : Int) → ∀ j : Nat, j ≠ 0 → zob s j → μ1.1 j = μ.1 j))
    (b : (∃ p B, yR T' (0, 0, 0, [], yB0) (21, p, 0, [], B) ∧ v' = B.1 0 0 ∧ rTb μ2 B) ∨ (∃ p x B, yR T' (0, 0, 0, [], yB0) (20, p, x, [], B) ∧ v' = -10 - p ∧ rKp μ1 μ2)) : lB μ2 := by
  obtain ⟨t, s, B0, ⟨e1, e2, e3⟩, e4, e5, e6⟩ := h
  have hs : yPo T (0, 0, 0, [], yB0) := ⟨by decide, h0⟩
  rcases a with ⟨p, B, r, -, ⟨c1, c2⟩, c3⟩ | ⟨p, x, B, r, -, ⟨c1, c2⟩, c3⟩ <;> rcases b with ⟨p', B', r', -, d3⟩ | ⟨p', x', B', r', -, d3⟩ <;> have q := yR_one (yR_q hq hs r) r' rfl rfl
  · cases q
    have i2 : yI2 B := by
      rcases yInv_R yInv_00 r' with w | w
      · exact absurd (show (21 : Nat) = 20 from w) (by decide)
      · exact w.2.1
    refine ⟨s, t, B, ⟨by rw [f12 0 (by omega), c1]; exact e2, by rw [f12 0 (by omega), c2]; exact e1, by omega⟩, yTab_fr (c3 s e2).2 (c3 s e2).1 (fun j hj => f12 j (by omega)), d3, fun k d => ?_⟩
    rcases i2 k d with w | ⟨l, w1, w2, -, -⟩
    · exact Or.inl w
    · exact Or.inr ⟨l, w1, w2⟩
  · exact absurd (congrArg Prod.fst q) (by simp)
  · exact absurd (congrArg Prod.fst q) (by simp)
  · refine ⟨t, s, B0, ⟨by rw [f12 0 (by omega), c1]; exact e1, by rw [f12 0 (by omega), c2]; exact e2, e3⟩, yTab_fr e4 (by omega) (fun j hj => by rw [f12 j (by omega)]; exact c3 s e2 j (by omega) (by unfold zob; omega)), rTb_f e5 (rKp_t f01 d3) e4.1.1.2.2.1.2, e6⟩
theorem lB_cl {μ μ1 μ2 : zM} (h : lB μ) (f12 : ∀ j : Nat, j < 66 ∨ (3000000 ≤ j ∧ j < 3000066) → μ2.1 j = μ1.1 j) (c : μ1.1 0 ((3 : Nat) : Int) = μ.1 0 ((3 : Nat) : Int) ∧ μ1.1 0 ((4 : Nat) : Int) = μ.1 0 ((4 : Nat) : Int)) (c3 : ∀ s : Nat, (s : Int) = μ.1 0 ((3 : Nat) : Int) → (s = 14 ∨ s = 32) ∧ yTab μ1 s yB0) (h20 : μ2.1 66 ((20 : Nat) : Int) = 1) (hA : μ2.1 3000075 0 = 4288121 ∧ μ2.1 76 0 = 0 ∧ μ2.1 77 0 = 0 ∧ μ2.1 79 0 = 0) : lB μ2 := by
  obtain ⟨t, s, B0, ⟨e1, e2, e3⟩, e4, e5, e6⟩ := h
  refine ⟨t, s, yB0, ⟨by rw [f12 0 (by omega), c.1]; exact e1, by rw [f12 0 (by omega), c.2]; exact e2, e3⟩, yTab_fr (c3 t e1).2 (c3 t e1).1 (fun j hj => f12 j (by omega)), ⟨⟨h20, fun k d a b x y => ?_⟩, fun k a b => ?_⟩, fun k d => ?_⟩
  · have hk : k = 0 := by have : k < 1 := b; omega
    subst hk
    unfold rOv
    show _ ↔ (if (2 : Nat) = 2 ∧ (0 : Int) = 0 ∧ d = 0 then [[0]] else []) ≠ []
    by_cases q : d = 0
    · rw [if_pos ⟨rfl, rfl, q⟩]; exact ⟨fun _ => by simp, fun _ => Or.inr (Or.inl q)⟩
    · rw [if_neg (by omega)]; exact ⟨fun h => by omega, fun h => absurd rfl h⟩
  · have hk : k = 0 := by have : k < 1 := b; omega
    subst hk
    exact hA
  · show (if (2 : Nat) = 2 ∧ k = 0 ∧ d = 0 then [[0]] else []) = [] ∨ ∃ l, (if (2 : Nat) = 2 ∧ k = 0 ∧ d = 0 then [[0]] else []) = [l] ∧ l ≠ []
    by_cases q : (2 : Nat) = 2 ∧ k = 0 ∧ d = 0
    · rw [if_pos q]; exact Or.inr ⟨[0], rfl, by simp⟩
    · rw [if_neg q]; exact Or.inl rfl
theorem rovs_i {μ : zM} {k d : Int} : (rovs μ k d = true) ↔ rOv μ k d := by unfold rovs rOv; rw [decide_eq_true_eq]
/-- cls: the same of both -/
theorem lB_cls {μ μ1 : zM} {a1 : Int} (h : lB μ) (f : rKp μ μ1) : ∃ t : Nat, (t : Int) = μ.1 0 ((3 : Nat) : Int) ∧ ((0 ≤ a1 ∧ a1 < μ.1 t ((12 : Nat) : Int)) ↔ (0 ≤ a1 ∧ a1 < μ1.1 66 ((20 : Nat) : Int))) ∧ ((0 ≤ a1 ∧ a1 < μ.1 t ((12 : Nat) : Int)) → ∀ (a2 : Int) (u v : Int64), ycl μ t a1 a2 u → rkcl μ1 a1 a2 v → u = v) := by
  obtain ⟨t, s, B, ⟨e1, e2, e3⟩, e4, e5, e6⟩ := h
  have n1 := e4.1.1.1
  have n3 := e4.1.1.2.2.1
  have g5 := rTb_f e5 f n3.2
  have n2 := g5.1.1
  refine ⟨t, e1, by rw [n1, n2], fun hI a2 u v hu hv => ?_⟩
  rw [n1] at hI
  have c1 := (e4.1.2.1 a1 hI.1 hI.2).1
  have c2 := g5.2 a1 hI.1 hI.2
  have hcn : ycn (yovs μ t a1) (μ.1 t ((12 : Nat) : Int)).toNat = ycn (rovs μ1 a1) (μ1.1 66 ((20 : Nat) : Int)).toNat := by
    rw [n1, n2]
    refine ycn_c _ (fun d d0 d1 => ?_)
    have d2 : d < B.1 0 0 := by omega
    have hv : (0 < μ.1 (Nat.add t 14) (a1 * 21 + d)) ↔ rOv μ1 a1 d := by
      rw [g5.1.2 a1 d hI.1 hI.2 d0 (by omega), e4.2 a1 d hI.1 (by omega) d0 (by omega)]
      rcases e6 a1 d with w | ⟨l, w1, w2⟩
      · rw [w]; simp
      · rw [w1]
        have : 0 < l.length := List.length_pos_iff.mpr w2
        constructor
        · intro _; simp
        · intro _; simp; omega
    exact Bool.eq_iff_iff.mpr (by rw [rovs_i]; unfold yovs; rw [decide_eq_true_eq]; exact hv)
  unfold ycl at hu
  unfold rkcl at hv
  rw [hcn, c1.1, c1.2.1, c1.2.2.1, c1.2.2.2] at hu
  rw [c2.1, c2.2.1, c2.2.2.1, c2.2.2.2] at hv
  have p3 := (e4.1.2.1 a1 hI.1 hI.2).2.1
  rcases hu with ⟨x, y⟩ | ⟨x, y⟩ | ⟨x, y⟩ | ⟨x, y⟩ | ⟨x, y⟩ <;> rcases hv with ⟨x', y'⟩ | ⟨x', y'⟩ | ⟨x', y'⟩ | ⟨x', y'⟩ | ⟨x', y'⟩ <;> first | (exfalso; omega) | skip
  · rw [y, y']
  · rw [y, y']
  · rw [y, y']
  · exact Int64.toInt_inj.mp (y.trans y'.symm)
  · rw [y, y']
    by_cases q : B.1 3 a1 = 0
    · rw [if_neg (by omega), if_pos q]
    · rw [if_pos (by omega), if_neg q]
