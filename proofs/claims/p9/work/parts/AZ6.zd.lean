/-! ### a table begins -/
def yRV (μ : zM) (t : Nat) : Prop := yRB μ t yB0 ∧ yRO μ t (yB0.2 2) ∧ (0 ≤ μ.1 (Nat.add t 12) ((6 : Nat) : Int) ∧ μ.1 (Nat.add t 12) ((6 : Nat) : Int) ≤ 200 * yct (yB0.2 2) ∧ μ.1 (Nat.add t 12) ((6 : Nat) : Int) ≤ μ.2 (μ.1 (Nat.add t 12) ((5 : Nat) : Int)).toNat) ∧ yCC μ t
theorem yB0_2 (a b : Int) : yB0.2 2 a b = if a = 0 ∧ b = 0 then [[0]] else [] := by
  show (if (2 : Nat) = 2 ∧ a = 0 ∧ b = 0 then [[0]] else []) = _
  by_cases q : a = 0 ∧ b = 0
  · rw [if_pos ⟨rfl, q⟩, if_pos q]
  · rw [if_neg (fun w => q w.2), if_neg q]
theorem yRV_mk {μ m3 m4 m5 m6 : zM} {t : Nat} {x i : Int} {l : List Int} (ht : t = 14 ∨ t = 32) (e3 : m3 = zu (zu (zu μ t ((12 : Nat) : Int) 0) t ((13 : Nat) : Int) 0) t ((14 : Nat) : Int) 0)
    (h4 : m4.1 (Nat.add t 12) ((6 : Nat) : Int) = 0 ∧ (∀ j : Nat, j ≠ Nat.add t 12 → j ≠ Nat.add t 14 → m4.1 j = m3.1 j) ∧ (∀ k : Int, 0 ≤ k → k < 441 → m4.1 (Nat.add t 14) k = 0)) (e5 : m5 = yacM m4 t x) (hx : x = 4288121) (hP : yPu m5 m6 (Nat.add t 12) i l) (hi : i = 0) (hl : l = [0]) : yRV m6 t ∧ (∀ j : Nat, j < 14 ∨ j = 50 → m6.1 j = μ.1 j) := by
  obtain ⟨c, hO, hS⟩ := hP
  obtain ⟨h6, hj, h14⟩ := h4
  have n4t : m4.1 t = m3.1 t := hj t (show t ≠ t + 12 by omega) (show t ≠ t + 14 by omega)
  have t12 : m4.1 t ((12 : Nat) : Int) = 0 := by rw [n4t, e3, zu_nk (by decide), zu_nk (by decide), zu_at]
  have t13 : m4.1 t ((13 : Nat) : Int) = 0 := by rw [n4t, e3, zu_nk (by decide), zu_at]
  unfold yacM at e5
  rw [t12, t13] at e5
  have n5 : ∀ j : Nat, j ≠ Nat.add 3000000 (Nat.add t 1) → j ≠ Nat.add t 2 → j ≠ Nat.add t 3 → j ≠ Nat.add t 4 → j ≠ t → m5.1 j = m4.1 j := fun j a b c d e => by rw [e5]; rw [zu_ne e, zu_ne d, zu_ne c, zu_ne b, zu_ne a]
  have n12 : m5.1 (Nat.add t 12) = m4.1 (Nat.add t 12) := n5 _ (show t + 12 ≠ 3000000 + (t + 1) by omega) (show t + 12 ≠ t + 2 by omega) (show t + 12 ≠ t + 3 by omega) (show t + 12 ≠ t + 4 by omega) (show t + 12 ≠ t by omega)
  have n14 : m5.1 (Nat.add t 14) = m4.1 (Nat.add t 14) := n5 _ (show t + 14 ≠ 3000000 + (t + 1) by omega) (show t + 14 ≠ t + 2 by omega) (show t + 14 ≠ t + 3 by omega) (show t + 14 ≠ t + 4 by omega) (show t + 14 ≠ t by omega)
  have f6 : ∀ j : Nat, (j < 109 ∧ j ≠ t + 12 ∧ j ≠ t + 12 + 1 ∧ j ≠ t + 12 + 2 ∧ j ≠ 31 ∧ j ≠ 49) ∨ 3000000 ≤ j → m6.1 j = m5.1 j := hO.1.1
  have k6 : ∀ a : Nat, a ≤ 11 → m6.1 (Nat.add t a) = m5.1 (Nat.add t a) := fun a ha => f6 _ (Or.inl (show t + a < 109 ∧ t + a ≠ t + 12 ∧ t + a ≠ t + 12 + 1 ∧ t + a ≠ t + 12 + 2 ∧ t + a ≠ 31 ∧ t + a ≠ 49 by omega))
  have k6t : m6.1 t = m5.1 t := k6 0 (by decide)
  have u5 : m5.1 (Nat.add t 12) ((6 : Nat) : Int) = 0 := by rw [n12]; exact h6
  have N3 : t ≠ Nat.add 3000000 (Nat.add t 1) := show t ≠ 3000000 + (t + 1) by omega
  have N4 : ∀ a : Nat, a ≤ 20 → Nat.add 3000000 (Nat.add t 1) ≠ Nat.add t a := fun a ha => show 3000000 + (t + 1) ≠ t + a by omega
  have g3 : m6.1 (Nat.add 3000000 (Nat.add t 1)) = m5.1 (Nat.add 3000000 (Nat.add t 1)) := f6 _ (Or.inr (show 3000000 ≤ 3000000 + (t + 1) by omega))
  have ec := yOv_v hO
  have e6 : m6.1 (Nat.add t 12) ((6 : Nat) : Int) = 1 := by rw [hO.2.2.2.2.2.1, u5, hl]; rfl
  have ct : 1 ≤ yct (yB0.2 2) := by
    have h1 := yct_u (L := fun _ _ => []) (L' := yB0.2 2) (k := 0) (d := 0) ⟨by decide, by decide⟩ ⟨by decide, by decide⟩ rfl (by rw [yB0_2, if_pos ⟨rfl, rfl⟩]; simp) (fun a b w => by rw [yB0_2, if_neg w])
    have h2 := (yct_B (fun _ _ => [])).1
    omega
  refine ⟨⟨⟨⟨?_, ?_, by decide, by decide⟩, fun k k0 k1 => ?_, fun p p0 p1 => ?_⟩, fun a b a0 a1 b0 b1 => ?_, ⟨by omega, by omega, ?_⟩, ?_⟩, fun j hq => ?_⟩
  · rw [k6t, e5, zu_at]; rfl
  · rw [k6t, e5, zu_nk (by decide), zu_ne (show t ≠ t + 4 by omega), zu_ne (show t ≠ t + 3 by omega), zu_ne (show t ≠ t + 2 by omega), zu_ne N3]; exact t13
  · have kz : k = 0 := by have : k < 1 := k1; omega
    subst kz
    refine ⟨⟨?_, ?_, ?_, ?_⟩, ⟨by decide, by decide, by decide, by decide⟩, by decide, by decide⟩
    · rw [g3, e5, zu_ne (Ne.symm N3), zu_ne (N4 4 (by decide)), zu_ne (N4 3 (by decide)), zu_ne (N4 2 (by decide)), zu_at, hx]; rfl
    · rw [k6 2 (by decide), e5, zu_ne (show t + 2 ≠ t by omega), zu_ne (show t + 2 ≠ t + 4 by omega), zu_ne (show t + 2 ≠ t + 3 by omega), zu_at]; rfl
    · rw [k6 3 (by decide), e5, zu_ne (show t + 3 ≠ t by omega), zu_ne (show t + 3 ≠ t + 4 by omega), zu_at]; rfl
    · rw [k6 4 (by decide), e5, zu_ne (show t + 4 ≠ t by omega), zu_at]; rfl
  · exact absurd p1 (by show ¬ p < 0; omega)
  · have s1 : ∀ y : Int, m6.1 (Nat.add t 13) y = if y = i then m5.1 (Nat.add t 12) ((6 : Nat) : Int) else m5.1 (Nat.add t 13) y := hS.1
    have s2 : ∀ y : Int, m6.1 (Nat.add t 14) y = if y = i then (l.length : Int) else m5.1 (Nat.add t 14) y := hS.2
    rw [s1, s2, ec, yB0_2]
    by_cases q : a = 0 ∧ b = 0
    · rw [if_pos q, if_pos (by omega), if_pos (by omega), hl, u5, e6]
      refine ⟨rfl, fun _ => ⟨by decide, by decide, ?_⟩⟩
      have := hO.2.2.2.2.1
      rw [u5, hl] at this
      exact this
    · rw [if_neg q, if_neg (by omega), if_neg (by omega), n14, h14 _ (by omega) (by omega)]
      exact ⟨rfl, fun w => absurd rfl w⟩
  · rw [ec, e6]
    have := hO.2.2.2.2.2.2
    rw [u5, hl] at this
    exact this
  · unfold yCC
    rw [ec]
    exact hO.2.2.1.1.2
  · rw [f6 j (Or.inl (by omega)), n5 j (by show j ≠ 3000000 + (t + 1); omega) (by show j ≠ t + 2; omega) (by show j ≠ t + 3; omega) (by show j ≠ t + 4; omega) (by omega), hj j (by show j ≠ t + 12; omega) (by show j ≠ t + 14; omega), e3, zu_ne (by omega), zu_ne (by omega), zu_ne (by omega)]
theorem yInv_00 : yInv (0, 0, 0, [], yB0) := by
  refine yInv_m ⟨⟨⟨⟨by decide, by decide⟩, ⟨by decide, by decide⟩, by decide, by decide⟩, fun k a b => by simp [yB0]⟩, fun k d => ?_, fun e a b _ => ?_, fun k d q => ?_, fun q => ?_, yIf_o (by decide)⟩
  · rw [yB0_2]
    by_cases q : k = 0 ∧ d = 0
    · rw [if_pos q]
      refine Or.inr ⟨[0], rfl, by simp, by simp, fun h hh a b => ?_⟩
      have := List.mem_singleton.mp hh
      omega
    · rw [if_neg q]; exact Or.inl rfl
  · rw [yB0_2, if_pos ⟨by have : e < 1 := b; omega, rfl⟩]
  · rw [yB0_2, if_neg]
    intro w
    rcases q with q | q
    · have q : (1 : Int) ≤ k := q
      omega
    · have := q.1; unfold yopn at this; omega
  · unfold yopn at q; omega
/-- all is ready for the first declaration -/
theorem yRC_0 {T : yT} {μ m1 : zM} {t : Nat} (ht : t = 14 ∨ t = 32) (h : yRV μ t) (hT : yRT T m1 0) (hf : ∀ j : Nat, j ≠ 1 → j ≠ 3 → j ≠ 4 → j ≠ 50 → j ≠ 3000005 → j ≠ 5000001 → m1.1 j = μ.1 j) (h5 : m1.1 50 ((2 : Nat) : Int) = t ∧ m1.1 50 ((3 : Nat) : Int) = Nat.add t 11 ∧ m1.1 50 ((4 : Nat) : Int) = 0 ∧ m1.1 50 ((5 : Nat) : Int) = -1) (h2 : m1.2 = μ.2) (hs : μ.1 0 ((4 : Nat) : Int) = t) (hF8 : m1.1 50 ((8 : Nat) : Int) = 0) : yRC T m1 0 yB0 t (Nat.add t 11) := by
  obtain ⟨h8, h10, h12, h13⟩ := h
  have n : ∀ a : Nat, a ≤ 17 → m1.1 (Nat.add t a) = μ.1 (Nat.add t a) := fun a ha => hf _ (show t + a ≠ 1 by omega) (show t + a ≠ 3 by omega) (show t + a ≠ 4 by omega) (show t + a ≠ 50 by omega) (show t + a ≠ 3000005 by omega) (show t + a ≠ 5000001 by omega)
  have n3 : ∀ a : Nat, a ≤ 17 → m1.1 (Nat.add 3000000 (Nat.add t a)) = μ.1 (Nat.add 3000000 (Nat.add t a)) := fun a ha => hf _ (show 3000000 + (t + a) ≠ 1 by omega) (show 3000000 + (t + a) ≠ 3 by omega) (show 3000000 + (t + a) ≠ 4 by omega) (show 3000000 + (t + a) ≠ 50 by omega) (show 3000000 + (t + a) ≠ 3000005 by omega) (show 3000000 + (t + a) ≠ 5000001 by omega)
  have nt : m1.1 t = μ.1 t := n 0 (by decide)
  have e12 := n 12 (by decide)
  refine yRX_in hF8 ⟨hT, ⟨⟨ht, Or.inl rfl⟩, h5.1, h5.2.1, h5.2.2.1, h5.2.2.2, by decide, by decide⟩, yRB_fr h8 (by rw [nt]) (by rw [nt]) (n3 1 (by decide)) (n 2 (by decide)) (n 3 (by decide)) (n 4 (by decide)) (n3 6 (by decide)) (n 7 (by decide)) (n 8 (by decide)) rfl rfl (fun _ _ => rfl), ⟨fun k i a b c d => ?_, fun p i a b c d => ?_⟩, yRO_fr h10 e12 (n 13 (by decide)) (n 14 (by decide)) (hf _ ?_ ?_ ?_ ?_ ?_ ?_), by rw [e12, h2, hf 0 (by decide) (by decide) (by decide) (by decide) (by decide) (by decide)]; exact ⟨h12.1, h12.2.1, h12.2.2, fun _ => hs⟩, by unfold yCC; rw [e12]; exact h13⟩
  · exact absurd d (by show ¬ i < 0; omega)
  · exact absurd b (by show ¬ p < 0; omega)
  · rcases h13 with q | q | q <;> omega
  · rcases h13 with q | q | q <;> omega
  · rcases h13 with q | q | q <;> omega
  · rcases h13 with q | q | q <;> omega
  · rcases h13 with q | q | q <;> omega
  · rcases h13 with q | q | q <;> omega
theorem ym9_a {T : yT} {p : Int} {B : yB} (h : ykd T p = 0) : yms T (9, p, 0, [], B) = (21, p, 0, [], B) := by
  show (if ykd T p = 0 then (21, p, 0, [], B) else (0, p, 0, [], B)) = _
  rw [if_pos h]
theorem ym9_b {T : yT} {p : Int} {B : yB} (h : ykd T p ≠ 0) : yms T (9, p, 0, [], B) = (0, p, 0, [], B) := by
  show (if ykd T p = 0 then (21, p, 0, [], B) else (0, p, 0, [], B)) = _
  rw [if_neg h]
def yk_X1_startOver : zC := fun As μ Q => ∃ (t : Nat), As = [.inr (.inr (t, 26))] ∧ (t = 26 ∨ t = 44) ∧ (μ.2 (Nat.add t 2) = 441) ∧ (∀ (μ' : zM), zl0 μ μ' → (μ'.1 t ((6 : Nat) : Int) = 0 ∧ (∀ k : Int, k ≠ ((6 : Nat) : Int) → μ'.1 t k = μ.1 t k) ∧ (∀ j : Nat, j ≠ t → j ≠ Nat.add t 2 → μ'.1 j = μ.1 j) ∧ (∀ k : Int, 0 ≤ k → k < 441 → μ'.1 (Nat.add t 2) k = 0)) → Q none μ')
set_option maxHeartbeats 4000000 in
theorem ym_X1_startOver {g : zΓ} (hg : zg g) (d : Nat) (hd : 2 ≤ d) : zOk g d 18 yk_X1_startOver := by
  obtain ⟨d, rfl⟩ : ∃ d', d = d' + 1 := ⟨d - 1, by omega⟩
  refine zOk_straight hg (show mt_tab[18]? = some mt_X1_startOver from rfl) [] 13 rfl fun As μ Q hC => ?_
  obtain ⟨t, rfl, ht, hp0, hQ⟩ := hC
  refine ⟨rfl, ?_⟩
  have z0 : zl0 μ μ := zl0_r μ
  refine And.intro ht ?_
  refine And.intro ⟨by omega, by omega⟩ ?_
  intro m1 em1
  have z2 := zl0_t z0 (zl0_f em1 ht (by decide) (Or.inr (by decide)))
  refine And.intro ht ?_
  refine ⟨_, zOk_tag (ym_J7_fill_53178 hg d (by omega)), [.inr (.inr ((Nat.add t 2), 1001)), .inl 0], rfl, _, _, rfl, (zIa_f (zfa (o := 2) (y2 := 28) ht rfl) (by decide) (by decide)), ⟨by omega, by omega⟩, (by rcases (zfa (o := 2) (y2 := 28) ht rfl) with e | e <;> (rw [e]; exact ⟨by omega, by omega⟩)), (by have := (zfa (o := 2) (y2 := 28) ht rfl); simp only [Nat.add_eq] at this; show _ + _ < 66 ∧ (_ + _ ≠ 26 ∧ _ + _ ≠ 44) ∧ _ + _ ≠ 1; omega), ?_⟩
  intro m3 qm3 p4
  have z5 := zl0_t z2 qm3
  exact And.intro rfl (hQ _ z5 ⟨by rw [p4.1 _ (show t ≠ t + 2 by omega), em1, zu_at], fun k hk => by rw [p4.1 _ (show t ≠ t + 2 by omega), em1, zu_nk hk], fun j h0 h1 => by rw [p4.1 j h1, em1, zu_ne h0], fun k h0 h1 => p4.2 k h0 (by rw [show m1.2 = μ.2 by rw [em1]; rfl, hp0]; exact h1)⟩)
def yk_X3_start : zC := fun As μ Q => ∃ (a1 : Nat) (a2 : Nat), As = [.inr (.inr (50, 50)), .inr (.inr (a1, 14)), .inr (.inr (a2, 200))] ∧ (a1 = 14 ∨ a1 = 32) ∧ (a2 = 25 ∨ a2 = 43 ∨ a2 = 51) ∧ (∀ i : Int, 0 ≤ i → i < μ.1 1 ((4 : Nat) : Int) → 0 ≤ μ.1 2 i ∧ μ.1 2 i ≤ 255) ∧ (0 ≤ μ.1 1 ((4 : Nat) : Int) ∧ μ.1 1 ((4 : Nat) : Int) ≤ 800) ∧ (∀ (μ' : zM), zl0 μ μ' → (yRT ((μ.1 2, μ.1 1 ((4 : Nat) : Int)) : yT) μ' 0 ∧ (∀ j : Nat, j ≠ 1 → j ≠ 3 → j ≠ 4 → j ≠ 50 → j ≠ 3000005 → j ≠ 5000001 → μ'.1 j = μ.1 j) ∧ (μ'.1 50 ((2 : Nat) : Int) = a1 ∧ μ'.1 50 ((3 : Nat) : Int) = a2 ∧ μ'.1 50 ((4 : Nat) : Int) = 0 ∧ μ'.1 50 ((5 : Nat) : Int) = -1 ∧ μ'.1 50 ((8 : Nat) : Int) = 0 ∧ μ'.1 50 ((10 : Nat) : Int) = 0) ∧ μ'.1 1 ((4 : Nat) : Int) = 0) → Q none μ')
set_option maxHeartbeats 4000000 in
theorem ym_X3_start {g : zΓ} (hg : zg g) (d : Nat) (hd : 7 ≤ d) : zOk g d 37 yk_X3_start := by
  obtain ⟨d, rfl⟩ : ∃ d', d = d' + 1 := ⟨d - 1, by omega⟩
  refine zOk_straight hg (show mt_tab[37]? = some mt_X3_start from rfl) [] 36 rfl fun As μ Q hC => ?_
  obtain ⟨a1, a2, rfl, ha1, ha2, hp0, hp1, hQ⟩ := hC
  refine ⟨rfl, ?_⟩
  have z0 : zl0 μ μ := zl0_r μ
  refine And.intro ⟨ha1, trivial⟩ ?_
  intro m1 em1
  have z2 := zl0_t z0 (zl0_u em1 (Or.inl (by decide)) (Or.inl ⟨by decide, by decide⟩))
  refine And.intro ⟨ha2, trivial⟩ ?_
  intro m3 em3
  have z4 := zl0_t z2 (zl0_u em3 (Or.inl (by decide)) (Or.inl ⟨by decide, by decide⟩))
  refine And.intro ⟨by omega, by omega⟩ ?_
  intro m5 em5
  have z6 := zl0_t z4 (zl0_u em5 (Or.inl (by decide)) (Or.inl ⟨by decide, by decide⟩))
  refine And.intro ⟨by omega, by omega⟩ ?_
  intro m7 em7
  have z8 := zl0_t z6 (zl0_u em7 (Or.inl (by decide)) (Or.inl ⟨by decide, by decide⟩))
  refine And.intro ⟨by omega, by omega⟩ ?_
  intro m9 em9
  have z10 := zl0_t z8 (zl0_u em9 (Or.inl (by decide)) (Or.inl ⟨by decide, by decide⟩))
  refine And.intro ⟨by omega, by omega⟩ ?_
  intro m11 em11
  have z12 := zl0_t z10 (zl0_u em11 (Or.inl (by decide)) (Or.inl ⟨by decide, by decide⟩))
  refine And.intro ⟨by omega, by omega⟩ ?_
  intro m13 em13
  have z14 := zl0_t z12 (zl0_u em13 (Or.inl (by decide)) (Or.inl ⟨by decide, by decide⟩))
  refine And.intro ⟨by omega, by omega⟩ ?_
  intro m15 em15
  have z16 := zl0_t z14 (zl0_u em15 (Or.inl (by decide)) (Or.inl ⟨by decide, by decide⟩))
  refine And.intro ⟨by omega, by omega⟩ ?_
  intro m17 em17
  have z18 := zl0_t z16 (zl0_u em17 (Or.inl (by decide)) (Or.inl ⟨by decide, by decide⟩))
  have N0 : ∀ j : Nat, j ≠ 50 → m17.1 j = μ.1 j := fun j hj => by rw [em17, zu_ne hj, em15, zu_ne hj, em13, zu_ne hj, em11, zu_ne hj, em9, zu_ne hj, em7, zu_ne hj, em5, zu_ne hj, em3, zu_ne hj, em1, zu_ne hj]
  have F2 : m17.1 50 ((2 : Nat) : Int) = (a1 : Int) := by rw [em17, zu_nk (by decide), em15, zu_nk (by decide), em13, zu_nk (by decide), em11, zu_nk (by decide), em9, zu_nk (by decide), em7, zu_nk (by decide), em5, zu_nk (by decide), em3, zu_nk (by decide), em1, zu_at]
  have F3 : m17.1 50 ((3 : Nat) : Int) = (a2 : Int) := by rw [em17, zu_nk (by decide), em15, zu_nk (by decide), em13, zu_nk (by decide), em11, zu_nk (by decide), em9, zu_nk (by decide), em7, zu_nk (by decide), em5, zu_nk (by decide), em3, zu_at]
  have F4 : m17.1 50 ((4 : Nat) : Int) = 0 := by rw [em17, zu_nk (by decide), em15, zu_nk (by decide), em13, zu_nk (by decide), em11, zu_nk (by decide), em9, zu_nk (by decide), em7, zu_nk (by decide), em5, zu_at]
  have F5 : m17.1 50 ((5 : Nat) : Int) = -1 := by rw [em17, zu_nk (by decide), em15, zu_nk (by decide), em13, zu_nk (by decide), em11, zu_nk (by decide), em9, zu_nk (by decide), em7, zu_at]
  have F8 : m17.1 50 ((8 : Nat) : Int) = 0 := by rw [em17, zu_nk (by decide), em15, zu_nk (by decide), em13, zu_at]
  have F10 : m17.1 50 ((10 : Nat) : Int) = 0 := by rw [em17, zu_at]
  have T0 : ((m17.1 2, m17.1 1 ((4 : Nat) : Int)) : yT) = (μ.1 2, μ.1 1 ((4 : Nat) : Int)) := by rw [N0 2 (by decide), N0 1 (by decide)]
  refine ⟨yk_X5_cut, ym_X5_cut hg d (by omega), rfl, (by rw [N0 2 (by decide), N0 1 (by decide)]; exact hp0), (by rw [N0 1 (by decide)]; exact hp1), ?_⟩
  intro m19 qm19 p20
  have z21 := zl0_t z18 qm19
  have P1 := p20
  rw [T0] at P1
  have P50 := P1.2.1 50 (by decide) (by decide) (by decide) (by decide) (by decide)
  exact And.intro rfl (hQ _ z21 ⟨P1.1, fun j j1 j2 j3 j4 j5 j6 => by rw [P1.2.1 j j1 j2 j3 j5 j6]; exact N0 j j4, ⟨by rw [P50]; exact F2, by rw [P50]; exact F3, by rw [P50]; exact F4, by rw [P50]; exact F5, by rw [P50]; exact F8, by rw [P50]; exact F10⟩, P1.2.2⟩)
