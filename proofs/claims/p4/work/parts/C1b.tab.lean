theorem yI0_0 : yI0 yB0 := ⟨⟨by decide, by decide, by decide⟩, fun k a b => by
  have hk : k = 0 := by have : k < 1 := b; omega
  subst hk
  decide⟩
def yk_X8_fault : zC := fun As μ Q => As = [.inr (.inr (0, 0))] ∧ (∀ (v : Int), (-2147483648) ≤ v → v ≤ 2147483647 → v = μ.1 0 ((7 : Nat) : Int) → Q (some (.inl v)) μ)
theorem ym_X8_fault {g : zΓ} (hg : zg g) (d : Nat) (hd : 1 ≤ d) : zOk g d 100 yk_X8_fault := by
  obtain ⟨d, rfl⟩ : ∃ d', d = d' + 1 := ⟨d - 1, by omega⟩
  refine zOk_straight hg (show mt_tab[100]? = some mt_X8_fault from rfl) [] 8 rfl fun As μ Q hC => ?_
  obtain ⟨rfl, hQ⟩ := hC
  refine ⟨rfl, ?_⟩
  intro x1 hx1 kx1 lx1
  exact And.intro trivial (And.intro ⟨by omega, by omega⟩ (hQ _ (by omega) (by omega) hx1))
def yk_X9_fault : zC := fun As μ Q => As = [.inr (.inr (66, 66))] ∧ (∀ (v : Int) (μ' : zM), zfx [] [54] μ μ' → (-2147483648) ≤ v → v ≤ 2147483647 → v = μ.1 66 ((37 : Nat) : Int) → Q (some (.inl v)) μ')
theorem ym_X9_fault {g : zΓ} (hg : zg g) (d : Nat) (hd : 1 ≤ d) : zOk g d 181 yk_X9_fault := by
  obtain ⟨d, rfl⟩ : ∃ d', d = d' + 1 := ⟨d - 1, by omega⟩
  refine zOk_straight hg (show mt_tab[181]? = some mt_X9_fault from rfl) [] 11 rfl fun As μ Q hC => ?_
  obtain ⟨rfl, hQ⟩ := hC
  refine ⟨rfl, ?_⟩
  have z0 : zfx [] [54] μ μ := zfx_x μ
  refine And.intro ⟨by omega, by omega⟩ ?_
  intro m1 em1
  have z2 := zfx_f z0 em1 rfl
  intro x3 hx3 kx3 lx3
  exact And.intro trivial (And.intro ⟨by omega, by omega⟩ (hQ _ _ z2 (by omega) (by omega) (by rw [hx3, em1, zu_nk (by decide)])))
/-! ### the tables alike -/
def lyj (j : Nat) : Prop := (14 ≤ j ∧ j < 50) ∨ (3000014 ≤ j ∧ j < 3000050)
def lY (μ μ' : zM) : Prop := (μ'.1 0 ((3 : Nat) : Int) = μ.1 0 ((3 : Nat) : Int) ∧ μ'.1 0 ((4 : Nat) : Int) = μ.1 0 ((4 : Nat) : Int)) ∧ ∀ j : Nat, lyj j → μ'.1 j = μ.1 j
theorem lY_r (μ : zM) : lY μ μ := ⟨⟨rfl, rfl⟩, fun _ _ => rfl⟩
theorem lY_t {a b c : zM} (h1 : lY a b) (h2 : lY b c) : lY a c := ⟨⟨h2.1.1.trans h1.1.1, h2.1.2.trans h1.1.2⟩, fun j hj => (h2.2 j hj).trans (h1.2 j hj)⟩
theorem lY_o {μ μ' : zM} {v : Int} (h : lY μ μ') : lY μ (zu μ' 3000108 0 v) := by
  refine ⟨?_, fun j hj => ?_⟩
  · rw [zu_ne (by decide)]; exact h.1
  · unfold lyj at hj
    rw [zu_ne (by omega)]
    exact h.2 j hj
theorem lY_d {μ : zM} {n : Nat} : lY μ (zdd μ n) := ⟨by rw [zdd_n (by decide)]; exact ⟨rfl, rfl⟩, fun j hj => by unfold lyj at hj; exact zdd_n (by omega)⟩
theorem lY_q {μ μ' : zM} (h : zqy μ μ') : lY μ μ' := ⟨h.2.1, fun j hj => h.2.2 j (by unfold lyj at hj; unfold zyj; omega)⟩
theorem lY_0 {μ μ' : zM} (h : zq0 μ μ') : lY μ μ' := lY_q (zqy_0 h)
theorem lY_f {μ μ' : zM} (h : ∀ j : Nat, j < 66 ∨ (3000000 ≤ j ∧ j < 3000066) → μ'.1 j = μ.1 j) : lY μ μ' := ⟨by rw [h 0 (by omega)]; exact ⟨rfl, rfl⟩, fun j hj => h j (by unfold lyj at hj; omega)⟩
def lZ (μ μ' : zM) : Prop := μ'.1 0 ((7 : Nat) : Int) = μ.1 0 ((7 : Nat) : Int)
/-- what the reference keeps of its table -/
def rKq (μ μ' : zM) : Prop := (μ'.1 66 ((20 : Nat) : Int) = μ.1 66 ((20 : Nat) : Int) ∧ μ'.1 66 ((21 : Nat) : Int) = μ.1 66 ((21 : Nat) : Int)) ∧ (∀ q : Int, q < 21 → μ'.1 3000075 q = μ.1 3000075 q ∧ μ'.1 76 q = μ.1 76 q ∧ μ'.1 77 q = μ.1 77 q ∧ μ'.1 79 q = μ.1 79 q) ∧ ∀ q : Int, q < 80 → μ'.1 3000081 q = μ.1 3000081 q
theorem rKq_t {a b c : zM} (h1 : rKq a b) (h2 : rKq b c) : rKq a c := ⟨⟨h2.1.1.trans h1.1.1, h2.1.2.trans h1.1.2⟩, fun q h => ⟨(h2.2.1 q h).1.trans (h1.2.1 q h).1, (h2.2.1 q h).2.1.trans (h1.2.1 q h).2.1, (h2.2.1 q h).2.2.1.trans (h1.2.1 q h).2.2.1, (h2.2.1 q h).2.2.2.trans (h1.2.1 q h).2.2.2⟩, fun q h => (h2.2.2 q h).trans (h1.2.2 q h)⟩
theorem rKq_6 {μ μ' : zM} (h20 : μ'.1 66 ((20 : Nat) : Int) = μ.1 66 ((20 : Nat) : Int)) (h21 : μ'.1 66 ((21 : Nat) : Int) = μ.1 66 ((21 : Nat) : Int)) (a : μ'.1 3000075 = μ.1 3000075) (b : μ'.1 76 = μ.1 76) (c : μ'.1 77 = μ.1 77) (d : μ'.1 79 = μ.1 79) (e : μ'.1 3000081 = μ.1 3000081) : rKq μ μ' := ⟨⟨h20, h21⟩, fun q _ => ⟨by rw [a], by rw [b], by rw [c], by rw [d]⟩, fun q _ => by rw [e]⟩
theorem rKq_K {μ μ' : zM} (h : lK μ μ') : rKq μ μ' := rKq_6 (by rw [h.1 66 (by decide) (by decide)]) (by rw [h.1 66 (by decide) (by decide)]) (h.2.2.2 75 (by decide) (by decide)) (h.1 76 (by decide) (by decide)) (h.1 77 (by decide) (by decide)) (h.1 79 (by decide) (by decide)) (h.2.2.2 81 (by decide) (by decide))
theorem rTq_k {μ μ' : zM} {B : yB} (h : rTq μ B) (k : rKq μ μ') (hI : yI0 B) : rTq μ' B := by
  have hb := hI.1
  refine ⟨⟨k.1.1.trans h.1.1, k.1.2.trans h.1.2⟩, fun q a b => ?_, fun q a b => ?_⟩
  · have w := k.2.1 q (by omega)
    rw [w.1, w.2.1, w.2.2.1, w.2.2.2]
    exact h.2.1 q a b
  · rw [k.2.2 q (by omega)]
    exact h.2.2 q a b
theorem yRB_g {μ μ' : zM} {t : Nat} {B : yB} (ht : t = 14 ∨ t = 32) (h : yRB μ t B) (f : ∀ j : Nat, (t ≤ j ∧ j < t + 17) ∨ (3000000 + t ≤ j ∧ j < 3000000 + t + 17) → μ'.1 j = μ.1 j) : yRB μ' t B := by
  have e : ∀ a : Nat, a < 17 → μ'.1 (Nat.add t a) = μ.1 (Nat.add t a) := fun a ha => f _ (Or.inl (show t ≤ t + a ∧ t + a < t + 17 by omega))
  have e3 : ∀ a : Nat, a < 17 → μ'.1 (Nat.add 3000000 (Nat.add t a)) = μ.1 (Nat.add 3000000 (Nat.add t a)) := fun a ha => f _ (Or.inr (show 3000000 + t ≤ 3000000 + (t + a) ∧ 3000000 + (t + a) < 3000000 + t + 17 by omega))
  have nt : μ'.1 t = μ.1 t := e 0 (by decide)
  exact yRB_fr h (by rw [nt]) (by rw [nt]) (e3 1 (by decide)) (e 2 (by decide)) (e 3 (by decide)) (e 4 (by decide)) (e3 6 (by decide)) (e 7 (by decide)) (e 8 (by decide)) rfl rfl (fun _ _ => rfl)
def lC4 (μ : zM) (B : yB) : Prop := ∃ (t s : Nat), ((t : Int) = μ.1 0 ((3 : Nat) : Int) ∧ (s : Int) = μ.1 0 ((4 : Nat) : Int) ∧ ((t = 14 ∧ s = 32) ∨ (t = 32 ∧ s = 14))) ∧ (yRB μ t B ∧ yRS μ t 300 B)
def lB (μ : zM) : Prop := (∃ (B : yB), lC4 μ B ∧ rTq μ B ∧ yI0 B) ∧ μ.1 0 ((7 : Nat) : Int) = μ.1 66 ((37 : Nat) : Int)
theorem lC4_k {μ μ' : zM} {B : yB} (h : lC4 μ B) (hY : lY μ μ') : lC4 μ' B := by
  obtain ⟨t, s, ⟨e1, e2, e3⟩, e4, e5⟩ := h
  exact ⟨t, s, ⟨e1.trans hY.1.1.symm, e2.trans hY.1.2.symm, e3⟩, yRB_g (by omega) e4 (fun j hj => hY.2 j (by unfold lyj; omega)), yRS_g (by omega) e5 (fun j hj => hY.2 j (by unfold lyj; omega))⟩
theorem lC4_t {μ : zM} {B : yB} (h : lC4 μ B) : ∀ t : Nat, (t : Int) = μ.1 0 ((3 : Nat) : Int) → yRB μ t B ∧ yRS μ t 300 B := by
  obtain ⟨t, s, ⟨e1, e2, e3⟩, e4⟩ := h
  intro t' ht
  have : t' = t := by omega
  rw [this]
  exact e4
theorem lB_k {μ μ' : zM} (h : lB μ) (hY : lY μ μ') (h7 : lZ μ μ') (hR : rKq μ μ') (h37 : μ'.1 66 ((37 : Nat) : Int) = μ.1 66 ((37 : Nat) : Int)) : lB μ' := by
  obtain ⟨⟨B, e1, e2, e3⟩, e4⟩ := h
  exact ⟨⟨B, lC4_k e1 hY, rTq_k e2 hR e3, e3⟩, by rw [h37, ← e4]; exact h7⟩
/-- a text was read -/
theorem lB_rd {μ μ1 μ2 : zM} {T T' : yT} {v v' : Int} (h : lB μ) (hq : yTq T T') (h0 : 0 ≤ T.2) (f12 : ∀ j : Nat, j < 66 ∨ (3000000 ≤ j ∧ j < 3000066) → μ2.1 j = μ1.1 j) (f01 : rKq μ μ1)
    (a : (∃ p B, yR T (0, 0, 0, [], yB0) (21, p, 0, [], B) ∧ v = B.1 0 0 ∧ μ1.1 0 ((7 : Nat) : Int) = 0 ∧ (μ1.1 0 ((3 : Nat) : Int) = μ.1 0 ((4 : Nat) : Int) ∧ μ1.1 0 ((4 : Nat) : Int) = μ.1 0 ((3 : Nat) : Int)) ∧ ∀ s : Nat, (s : Int) = μ.1 0 ((4 : Nat) : Int) → (s = 14 ∨ s = 32) ∧ yTab μ1 s B ∧ yRS μ1 s 300 B) ∨ (∃ p x B, yR T (0, 0, 0, [], yB0) (20, p, x, [], B) ∧ v = -10 - p ∧ μ1.1 0 ((7 : Nat) : Int) = x ∧ (μ1.1 0 ((3 : Nat) : Int) = μ.1 0 ((3 : Nat) : Int) ∧ μ1.1 0 ((4 : Nat) : Int) = μ.1 0 ((4 : Nat) : Int)) ∧ ∀ s : Nat, (s : Int) = μ.1 0 ((4 : Nat) : Int) → ∀ j : Nat, j ≠ 0 → zob s j → μ1.1 j = μ.1 j))
    (b : (∃ p B, yR T' (0, 0, 0, [], yB0) (21, p, 0, [], B) ∧ v' = B.1 0 0 ∧ (rTb μ2 B ∧ rTq μ2 B) ∧ μ2.1 66 ((37 : Nat) : Int) = 0) ∨ (∃ p x B, yR T' (0, 0, 0, [], yB0) (20, p, x, [], B) ∧ v' = -10 - p ∧ (rKp μ1 μ2 ∧ μ2.1 66 ((21 : Nat) : Int) = μ1.1 66 ((21 : Nat) : Int) ∧ ∀ q : Int, q < 80 → μ2.1 3000081 q = μ1.1 3000081 q) ∧ μ2.1 66 ((37 : Nat) : Int) = x)) : lB μ2 := by
  obtain ⟨⟨B0, ⟨t, s, ⟨e1, e2, e3⟩, e4, e5⟩, e6, e7⟩, e8⟩ := h
  have hs : yPo T (0, 0, 0, [], yB0) := ⟨by decide, h0⟩
  have z7 := congrFun (f12 0 (by omega)) ((7 : Nat) : Int)
  rcases a with ⟨p, B, r, -, c0, ⟨c1, c2⟩, c3⟩ | ⟨p, x, B, r, -, c0, ⟨c1, c2⟩, c3⟩ <;> rcases b with ⟨p', B', r', -, d3, d4⟩ | ⟨p', x', B', r', -, d3, d4⟩ <;> have q := yR_one (yR_q hq hs r) r' rfl rfl
  · cases q
    have i0 : yI0 B := by
      rcases yInv_R yInv_00 r' with w | w
      · exact absurd (show (21 : Nat) = 20 from w) (by decide)
      · exact w.1
    have g := c3 s e2
    refine ⟨⟨B, ⟨s, t, ⟨by rw [f12 0 (by omega), c1]; exact e2, by rw [f12 0 (by omega), c2]; exact e1, by omega⟩, yRB_g g.1 g.2.1.1 (fun j hj => f12 j (by omega)), yRS_g g.1 g.2.2 (fun j hj => f12 j (by omega))⟩, d3.2, i0⟩, by rw [z7, c0, d4]⟩
  · exact absurd (congrArg Prod.fst q) (by simp)
  · exact absurd (congrArg Prod.fst q) (by simp)
  · have qx : x = x' := congrArg (fun s : yS => s.2.2.1) q
    have fr : ∀ j : Nat, (t ≤ j ∧ j < t + 17) ∨ (3000000 + t ≤ j ∧ j < 3000000 + t + 17) → μ2.1 j = μ.1 j := fun j hj => by rw [f12 j (by omega)]; exact c3 s e2 j (by omega) (by unfold zob; omega)
    refine ⟨⟨B0, ⟨t, s, ⟨by rw [f12 0 (by omega), c1]; exact e1, by rw [f12 0 (by omega), c2]; exact e2, e3⟩, yRB_g (by omega) e4 fr, yRS_g (by omega) e5 fr⟩, rTq_k e6 (rKq_t f01 ⟨⟨d3.1.1, d3.2.1⟩, d3.1.2.2, d3.2.2⟩) e7, e7⟩, by rw [z7, c0, d4, qx]⟩
theorem lB_cl {μ μ1 μ2 : zM} (h : lB μ) (f12 : ∀ j : Nat, j < 66 ∨ (3000000 ≤ j ∧ j < 3000066) → μ2.1 j = μ1.1 j) (c : μ1.1 0 ((3 : Nat) : Int) = μ.1 0 ((3 : Nat) : Int) ∧ μ1.1 0 ((4 : Nat) : Int) = μ.1 0 ((4 : Nat) : Int)) (c3 : ∀ s : Nat, (s : Int) = μ.1 0 ((3 : Nat) : Int) → (s = 14 ∨ s = 32) ∧ yTab μ1 s yB0) (c7 : μ1.1 0 ((7 : Nat) : Int) = 0) (h20 : μ2.1 66 ((20 : Nat) : Int) = 1) (hA : μ2.1 3000075 0 = 4288121 ∧ μ2.1 76 0 = 0 ∧ μ2.1 77 0 = 0 ∧ μ2.1 79 0 = 0) (h21 : μ2.1 66 ((21 : Nat) : Int) = 0 ∧ μ2.1 66 ((37 : Nat) : Int) = 0) : lB μ2 := by
  obtain ⟨⟨B0, ⟨t, s, ⟨e1, e2, e3⟩, e4, e5⟩, e6, e7⟩, e8⟩ := h
  have z7 := congrFun (f12 0 (by omega)) ((7 : Nat) : Int)
  refine ⟨⟨yB0, ⟨t, s, ⟨by rw [f12 0 (by omega), c.1]; exact e1, by rw [f12 0 (by omega), c.2]; exact e2, e3⟩, yRB_g (c3 t e1).1 (c3 t e1).2.1 (fun j hj => f12 j (by omega)), yRS_0⟩, ⟨⟨h20, h21.1⟩, fun k a b => ?_, fun p a b => ?_⟩, yI0_0⟩, by rw [z7, c7, h21.2]⟩
  · have hk : k = 0 := by have : k < 1 := b; omega
    subst hk
    exact hA
  · exfalso; have : p < 0 := b; omega
/-- a question, a place was read -/
theorem lB_qu {μ μ1 μ2 : zM} {B : yB} {x x' : Int} (h : lC4 μ B) (hR : rTq μ B) (hI : yI0 B) (hY : lY μ μ1) (f12 : ∀ j : Nat, j < 66 ∨ (3000000 ≤ j ∧ j < 3000066) → μ2.1 j = μ1.1 j) (k1 : rKq μ μ1) (k2 : rKq μ1 μ2) (c7 : μ1.1 0 ((7 : Nat) : Int) = x) (c37 : μ2.1 66 ((37 : Nat) : Int) = x') (e : x = x') : lB μ2 := by
  have z7 := congrFun (f12 0 (by omega)) ((7 : Nat) : Int)
  exact ⟨⟨B, lC4_k h (lY_t hY (lY_f f12)), rTq_k hR (rKq_t k1 k2) hI, hI⟩, by rw [z7, c7, c37, e]⟩
