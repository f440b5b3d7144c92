def yk_X8_fault : zC := fun As μ Q => As = [.inr (.inr (0, 0))] ∧ (∀ (v : Int), (-2147483648) ≤ v → v ≤ 2147483647 → v = μ.1 0 ((7 : Nat) : Int) → Q (some (.inl v)) μ)
theorem ym_X8_fault {g : zΓ} (hg : zg g) (d : Nat) (hd : 1 ≤ d) : zOk g d 100 yk_X8_fault := by
  obtain ⟨d, rfl⟩ : ∃ d', d = d' + 1 := ⟨d - 1, by omega⟩
  refine zOk_straight hg (show mt_tab[100]? = some mt_X8_fault from rfl) [] 8 rfl fun As μ Q hC => ?_
  obtain ⟨rfl, hQ⟩ := hC
  refine ⟨rfl, ?_⟩
  intro x1 hx1 kx1 lx1
  exact And.intro trivial (And.intro ⟨by omega, by omega⟩ (hQ _ (by omega) (by omega) hx1))
def yk_X9_fault : zC := fun As μ Q => As = [.inr (.inr (66, 66))] ∧ (∀ (v : Int) (μ' : zM), zfx [] [54] μ μ' → (-2147483648) ≤ v → v ≤ 2147483647 → v = μ.1 66 ((37 : Nat) : Int) → Q (some (.inl v)) μ')
theorem ym_X9_fault {g : zΓ} (hg : zg g) (d : Nat) (hd : 1 ≤ d) : zOk g d 181 yk_X9_fault := by
  obtain ⟨d, rfl⟩ : ∃ d', d = d' + 1 := ⟨d - 1, by omega⟩
  refine zOk_straight hg (show mt_tab[181]? = some mt_X9_fault from rfl) [] 11 rfl fun As μ Q hC => ?_
  obtain ⟨rfl, hQ⟩ := hC
  refine ⟨rfl, ?_⟩
  have z0 : zfx [] [54] μ μ := zfx_x μ
  refine And.intro ⟨by omega, by omega⟩ ?_
  intro m1 em1
  have z2 := zfx_f z0 em1 rfl
  intro x3 hx3 kx3 lx3
  exact And.intro trivial (And.intro ⟨by omega, by omega⟩ (hQ _ _ z2 (by omega) (by omega) (by rw [hx3, em1, zu_nk (by decide)])))
/-! ### the tables alike -/
theorem yQl_q {T T' : yT} (h : yTq T T') (h0 : 0 ≤ T.2) {B : yB} {o : Int} {L1 L2 : List Int} (a : yQl T B o L1 L2) : yQl T' B o L1 L2 := by
  obtain ⟨e, eb⟩ := yqo_q h h0 B
  obtain ⟨p, p1, n1, f1, p2, n2, f2, a1, a2, a3, a4, a5, a6⟩ := a
  have pB := eb o p a1
  have p1B : 0 ≤ p1 ∧ p1 ≤ T.2 := yPo_R (show yPo T (10, p, 0, [], _) from pB) a2
  have b1 := (yPo_l p1B).2
  have b2 := (yPo_l b1).2
  refine ⟨p, p1, n1, f1, p2, n2, f2, by rw [← e]; exact a1, yR_q h pB a2, a3, by rw [← ynx_q h p1B.1, ← ykd_q h b1.1 b1.2]; exact a4, ?_, a6⟩
  rw [← ynx_q h p1B.1, ← ynx_q h b1.1]
  exact yR_q h b2 a5
theorem yAk_q {T T' : yT} (h : yTq T T') (h0 : 0 ≤ T.2) {B : yB} {u x v : Int} (a : yAk T B u x v) : yAk T' B u x v := by
  rcases a with ⟨a1, l, a2, a3⟩ | ⟨a1, a2, o, L1, L2, a3, a4⟩
  · exact Or.inl ⟨a1, l, yQq_q h h0 a2, a3⟩
  · exact Or.inr ⟨a1, yQq_q h h0 a2, o, L1, L2, yQl_q h h0 a3, a4⟩
theorem aSz_w {μ : zM} {w : mW} (hw : zRep μ w) : aSz μ := by
  obtain ⟨-, -, h56, -⟩ := hw.2.2.1 56 _ (show znth zcl 56 = some (.inr (0, 4, -2147483648, 2147483647)) from rfl)
  obtain ⟨-, -, h58, -⟩ := hw.2.2.1 58 _ (show znth zcl 58 = some (.inr (0, 164, -2147483648, 2147483647)) from rfl)
  obtain ⟨-, -, h64, -⟩ := hw.2.2.1 64 _ (show znth zcl 64 = some (.inr (0, 2048, -2147483648, 2147483647)) from rfl)
  obtain ⟨-, -, h25, -⟩ := hw.2.2.1 25 _ (show znth zcl 25 = some (.inr (0, 300, -2147483648, 2147483647)) from rfl)
  obtain ⟨-, -, h43, -⟩ := hw.2.2.1 43 _ (show znth zcl 43 = some (.inr (0, 300, -2147483648, 2147483647)) from rfl)
  obtain ⟨-, -, h51, -⟩ := hw.2.2.1 51 _ (show znth zcl 51 = some (.inr (0, 300, -2147483648, 2147483647)) from rfl)
  exact ⟨⟨h56, h58, h64⟩, h25, h43, h51⟩
theorem yB0_1 {k : Int} (a : 0 ≤ k) (b : k < yB0.1 0 0) : k = 0 := by
  have : yB0.1 0 0 = 1 := rfl
  omega
theorem aB_0 : aB yB0 := by
  have h := (yInv_00).resolve_left (by decide)
  have j := (yJ_00).resolve_left (by decide)
  refine ⟨h.1, h.2.1, yGd_0, fun k p a b c d => (j.1.1 k p a b c d).2, rfl, fun k d a b c e ne => ?_⟩
  have hk := yB0_1 a b
  subst hk
  by_cases q : d = 0
  · subst q
    have e : (yB0.2 2 0 0).flatten = [0] := rfl
    rw [e]
    refine ⟨yone_h (A := yar yB0) (h := 0) (as := []) rfl (fun a ha => by cases ha), fun h hh => ?_⟩
    have : h = 0 := by simpa using hh
    left
    rw [this]
    exact ⟨by decide, by decide⟩
  · exact absurd (by simp [yB0, q]) ne
/-- what the machine says of a table that was read -/
theorem aB_mk {T : yT} {p : Int} {B : yB} (r : yR T (0, 0, 0, [], yB0) (21, p, 0, [], B)) (g1 : yGd B) (g2 : yI0 B → yGo B) : aB B := by
  have h : yI 21 0 [] B := (yInv_R yInv_00 r).resolve_left (fun e => absurd (show (21 : Nat) = 20 from e) (by decide))
  have j : yJz B ∧ yJr 21 B := (yJ_R yInv_00 yJ_00 r).resolve_left (fun e => absurd (show (21 : Nat) = 20 from e) (by decide))
  exact ⟨h.1, h.2.1, g1, fun k p a b c d => (j.1.1 k p a b c d).2, j.1.2.1, g2 h.1⟩
theorem aT_y {μ m : zM} {t : Nat} {B : yB} (h : aT μ t B) (ff : ∀ j : Nat, (t ≤ j ∧ j < t + 17) ∨ (3000000 + t ≤ j ∧ j < 3000000 + t + 17) → m.1 j = μ.1 j) (ec : m.1 (μ.1 (Nat.add t 12) ((5 : Nat) : Int)).toNat = μ.1 (μ.1 (Nat.add t 12) ((5 : Nat) : Int)).toNat) (el : m.2 (μ.1 (Nat.add t 12) ((5 : Nat) : Int)).toNat = μ.2 (μ.1 (Nat.add t 12) ((5 : Nat) : Int)).toNat) : aT m t B := by
  obtain ⟨ht, h1, h2, h3, h4, h5, h6⟩ := h
  have e12 : m.1 (Nat.add t 12) = μ.1 (Nat.add t 12) := ff _ (by simp only [Nat.add_eq]; omega)
  have e13 : m.1 (Nat.add t 13) = μ.1 (Nat.add t 13) := ff _ (by simp only [Nat.add_eq]; omega)
  have e14 : m.1 (Nat.add t 14) = μ.1 (Nat.add t 14) := ff _ (by simp only [Nat.add_eq]; omega)
  refine ⟨ht, yRB_g ht h1 ff, yRS_g ht h2 ff, fun k d a b c d' => ?_, by rw [e12]; exact h4, by rw [e12, el]; exact h5, by unfold yCC; rw [e12]; exact h6⟩
  have w := h3 k d a b c d'
  rw [e14, e13, e12]
  exact ⟨w.1, fun q => ⟨(w.2 q).1, (w.2 q).2.1, yRow_e (w.2 q).2.2 ec⟩⟩
def lyj (j : Nat) : Prop := (14 ≤ j ∧ j < 50) ∨ (109 ≤ j ∧ j < 1000000) ∨ (3000014 ≤ j ∧ j < 3000050)
def lY (μ μ' : zM) : Prop := (μ'.1 0 ((3 : Nat) : Int) = μ.1 0 ((3 : Nat) : Int) ∧ μ'.1 0 ((4 : Nat) : Int) = μ.1 0 ((4 : Nat) : Int)) ∧ (∀ j : Nat, lyj j → μ'.1 j = μ.1 j) ∧ ∀ t : Nat, (t = 26 ∨ t = 44) → μ'.2 (μ.1 t ((5 : Nat) : Int)).toNat = μ.2 (μ.1 t ((5 : Nat) : Int)).toNat
theorem lY_r (μ : zM) : lY μ μ := ⟨⟨rfl, rfl⟩, fun _ _ => rfl, fun _ _ => rfl⟩
theorem lY_t {a b c : zM} (h1 : lY a b) (h2 : lY b c) : lY a c := ⟨⟨h2.1.1.trans h1.1.1, h2.1.2.trans h1.1.2⟩, fun j hj => (h2.2.1 j hj).trans (h1.2.1 j hj), fun t ht => by
  have q := h2.2.2 t ht
  rw [h1.2.1 t (by unfold lyj; omega)] at q
  exact q.trans (h1.2.2 t ht)⟩
theorem lY_o {μ μ' : zM} {v : Int} (h : lY μ μ') : lY μ (zu μ' 3000108 0 v) := by
  refine ⟨?_, fun j hj => ?_, h.2.2⟩
  · rw [zu_ne (by decide)]; exact h.1
  · unfold lyj at hj
    rw [zu_ne (by omega)]
    exact h.2.1 j hj
theorem lY_d {μ : zM} {w : mW} (hw : zRep μ w) : lY μ (zdd μ w.1.length) := ⟨by rw [zdd_n (by decide)]; exact ⟨rfl, rfl⟩, fun j hj => by unfold lyj at hj; exact zdd_n (by omega), fun t ht => zdd_2 (fun e => by
  have q : (μ.1 t ((5 : Nat) : Int)).toNat < w.1.length := zdy_lt hw t ht
  omega)⟩
theorem lY_q {μ μ' : zM} (h : zqy μ μ') : lY μ μ' := ⟨h.2.1, fun j hj => h.2.2 j (by unfold lyj at hj; unfold zyj; omega), fun t _ => by rw [h.1.2]⟩
theorem lY_0 {μ μ' : zM} (h : zq0 μ μ') : lY μ μ' := lY_q (zqy_0 h)
theorem lY_f {μ μ' : zM} (h : ∀ j : Nat, j < 66 ∨ (109 ≤ j ∧ j < 1000000) ∨ (3000000 ≤ j ∧ j < 3000066) → μ'.1 j = μ.1 j) (e : μ'.2 = μ.2) : lY μ μ' := ⟨by rw [h 0 (by omega)]; exact ⟨rfl, rfl⟩, fun j hj => h j (by unfold lyj at hj; omega), fun t _ => by rw [e]⟩
def lZ (μ μ' : zM) : Prop := μ'.1 0 ((7 : Nat) : Int) = μ.1 0 ((7 : Nat) : Int)
/-- what the reference keeps of its table -/
def rKn (μ μ' : zM) : Prop := zOt μ μ' ∧ zOld μ μ' (μ.1 66 ((23 : Nat) : Int)) ∧ μ'.1 66 ((23 : Nat) : Int) = μ.1 66 ((23 : Nat) : Int)
def rKq (μ μ' : zM) : Prop := ((μ'.1 66 ((20 : Nat) : Int) = μ.1 66 ((20 : Nat) : Int) ∧ μ'.1 66 ((21 : Nat) : Int) = μ.1 66 ((21 : Nat) : Int)) ∧ (∀ q : Int, q < 21 → μ'.1 3000075 q = μ.1 3000075 q ∧ μ'.1 76 q = μ.1 76 q ∧ μ'.1 77 q = μ.1 77 q ∧ μ'.1 79 q = μ.1 79 q) ∧ ∀ q : Int, q < 80 → μ'.1 3000081 q = μ.1 3000081 q) ∧ rKn μ μ'
theorem rKn_t {a b c : zM} (h1 : rKn a b) (h2 : rKn b c) : rKn a c := ⟨zOt_t h1.1 h2.1, zOld_t h1.2.1 h2.2.1 (by have := h1.2.2; omega), h2.2.2.trans h1.2.2⟩
theorem rKq_t {a b c : zM} (h1 : rKq a b) (h2 : rKq b c) : rKq a c := ⟨⟨⟨h2.1.1.1.trans h1.1.1.1, h2.1.1.2.trans h1.1.1.2⟩, fun q h => ⟨(h2.1.2.1 q h).1.trans (h1.1.2.1 q h).1, (h2.1.2.1 q h).2.1.trans (h1.1.2.1 q h).2.1, (h2.1.2.1 q h).2.2.1.trans (h1.1.2.1 q h).2.2.1, (h2.1.2.1 q h).2.2.2.trans (h1.1.2.1 q h).2.2.2⟩, fun q h => (h2.1.2.2 q h).trans (h1.1.2.2 q h)⟩, rKn_t h1.2 h2.2⟩
theorem rKq_6 {μ μ' : zM} (h20 : μ'.1 66 ((20 : Nat) : Int) = μ.1 66 ((20 : Nat) : Int)) (h21 : μ'.1 66 ((21 : Nat) : Int) = μ.1 66 ((21 : Nat) : Int)) (a : μ'.1 3000075 = μ.1 3000075) (b : μ'.1 76 = μ.1 76) (c : μ'.1 77 = μ.1 77) (d : μ'.1 79 = μ.1 79) (e : μ'.1 3000081 = μ.1 3000081) (h78 : μ'.1 78 = μ.1 78) (h80 : μ'.1 80 = μ.1 80) (h83 : μ'.1 83 = μ.1 83) (h84 : μ'.1 84 = μ.1 84) (h23 : μ'.1 66 ((23 : Nat) : Int) = μ.1 66 ((23 : Nat) : Int)) (ho : zOld μ μ' (μ.1 66 ((23 : Nat) : Int))) : rKq μ μ' := ⟨⟨⟨h20, h21⟩, fun q _ => ⟨by rw [a], by rw [b], by rw [c], by rw [d]⟩, fun q _ => by rw [e]⟩, zOt_fr (zOt_r μ) b c h78 d h80 h83 h84, ho, h23⟩
theorem zOld_5 {μ m : zM} {T : Int} (h67 : m.1 67 = μ.1 67) (h68 : m.1 68 = μ.1 68) (h69 : m.1 69 = μ.1 69) (h70 : m.1 70 = μ.1 70) (h71 : m.1 71 = μ.1 71) : zOld μ m T := fun x _ _ => by
  rw [h67, h68, h69, h70, h71]
  exact ⟨rfl, rfl, rfl, rfl, fun _ _ _ => rfl⟩
theorem rKq_K {μ μ' : zM} (h : lK μ μ') : rKq μ μ' := rKq_6 (by rw [h.1 66 (by decide) (by decide)]) (by rw [h.1 66 (by decide) (by decide)]) (h.2.2.2 75 (by decide) (by decide)) (h.1 76 (by decide) (by decide)) (h.1 77 (by decide) (by decide)) (h.1 79 (by decide) (by decide)) (h.2.2.2 81 (by decide) (by decide)) (h.1 78 (by decide) (by decide)) (h.1 80 (by decide) (by decide)) (h.1 83 (by decide) (by decide)) (h.1 84 (by decide) (by decide)) (by rw [h.1 66 (by decide) (by decide)]) (zOld_5 (h.1 67 (by decide) (by decide)) (h.1 68 (by decide) (by decide)) (h.1 69 (by decide) (by decide)) (h.1 70 (by decide) (by decide)) (h.1 71 (by decide) (by decide)))
theorem rTq_k {μ μ' : zM} {B : yB} (h : rTq μ B) (k : rKq μ μ') (hI : yI0 B) : rTq μ' B := by
  have hb := hI.1
  refine ⟨⟨k.1.1.1.trans h.1.1, k.1.1.2.trans h.1.2⟩, fun q a b => ?_, fun q a b => ?_⟩
  · have w := k.1.2.1 q (by omega)
    rw [w.1, w.2.1, w.2.2.1, w.2.2.2]
    exact h.2.1 q a b
  · rw [k.1.2.2 q (by omega)]
    exact h.2.2 q a b
theorem rPc_k {μ μ' : zM} {B : yB} {K : Int} (hR : zRI μ K) (hQ : rTq μ B) (hP : rPc μ B (μ.1 66 ((23 : Nat) : Int))) (k : rKq μ μ') : rPc μ' B (μ'.1 66 ((23 : Nat) : Int)) := rPc_ot hR hQ hP k.2.1 k.2.2.1 k.2.2.2
def lC4 (μ : zM) (B : yB) : Prop := ∃ (t s : Nat), ((t : Int) = μ.1 0 ((3 : Nat) : Int) ∧ (s : Int) = μ.1 0 ((4 : Nat) : Int) ∧ ((t = 14 ∧ s = 32) ∨ (t = 32 ∧ s = 14))) ∧ aT μ t B ∧ (μ.1 (Nat.add s 12) ((5 : Nat) : Int)).toNat ≠ (μ.1 (Nat.add t 12) ((5 : Nat) : Int)).toNat
/-- the reference's half -/
def lR4 (μ : zM) (B : yB) : Prop := rTq μ B ∧ rPc μ B (μ.1 66 ((23 : Nat) : Int)) ∧ rUt μ (μ.1 66 ((23 : Nat) : Int)) ∧ aW B
def lB (μ : zM) : Prop := ∃ (B : yB), lC4 μ B ∧ lR4 μ B ∧ aB B
theorem lR4_k {μ μ' : zM} {B : yB} {K : Int} (h : lR4 μ B) (hR : zRI μ K) (k : rKq μ μ') (hI : yI0 B) : lR4 μ' B := ⟨rTq_k h.1 k hI, rPc_k hR h.1 h.2.1 k, by rw [k.2.2.2]; exact rUt_o h.2.2.1 (fun x a b => hR.1.1.1.2.1 x a (by have := hR.1.1.2.2.1; omega)) k.2.2.1, h.2.2.2⟩
theorem lC4_k {μ μ' : zM} {B : yB} (h : lC4 μ B) (hY : lY μ μ') : lC4 μ' B := by
  obtain ⟨t, s, ⟨e1, e2, e3⟩, e4, e5⟩ := h
  have f : ∀ j : Nat, (14 ≤ j ∧ j < 50) ∨ (109 ≤ j ∧ j < 1000000) ∨ (3000014 ≤ j ∧ j < 3000050) → μ'.1 j = μ.1 j := fun j hj => hY.2.1 j hj
  have h6 := e4.2.2.2.2.2.2
  refine ⟨t, s, ⟨e1.trans hY.1.1.symm, e2.trans hY.1.2.symm, e3⟩, aT_y e4 (fun j hj => f j (by omega)) (f _ (by unfold yCC at h6; omega)) (hY.2.2 _ (by simp only [Nat.add_eq]; omega)), ?_⟩
  rw [f (Nat.add s 12) (by simp only [Nat.add_eq]; omega), f (Nat.add t 12) (by simp only [Nat.add_eq]; omega)]
  exact e5
theorem lC4_a {μ : zM} {B : yB} (h : lC4 μ B) : ∀ t : Nat, (t : Int) = μ.1 0 ((3 : Nat) : Int) → aT μ t B := by
  obtain ⟨t, s, ⟨e1, e2, e3⟩, e4, -⟩ := h
  intro t' ht
  have : t' = t := by omega
  rw [this]
  exact e4
theorem lC4_t {μ : zM} {B : yB} (h : lC4 μ B) : ∀ t : Nat, (t : Int) = μ.1 0 ((3 : Nat) : Int) → yRB μ t B ∧ yRS μ t 300 B := fun t ht => ⟨(lC4_a h t ht).2.1, (lC4_a h t ht).2.2.1⟩
theorem lB_k {μ μ' : zM} {K : Int} (h : lB μ) (hR : zRI μ K) (hY : lY μ μ') (hK : rKq μ μ') : lB μ' := by
  obtain ⟨B, e1, e2, e3⟩ := h
  exact ⟨B, lC4_k e1 hY, lR4_k e2 hR hK e3.1, e3⟩
/-- the other code cell stays -/
theorem zox_o {s t : Nat} {μ m : zM} (h : zox s μ m) (e : (t = 14 ∧ s = 32) ∨ (t = 32 ∧ s = 14)) (c : yCC μ t) (n : (μ.1 (Nat.add s 12) ((5 : Nat) : Int)).toNat ≠ (μ.1 (Nat.add t 12) ((5 : Nat) : Int)).toNat) : (m.1 (μ.1 (Nat.add t 12) ((5 : Nat) : Int)).toNat = μ.1 (μ.1 (Nat.add t 12) ((5 : Nat) : Int)).toNat ∧ m.2 (μ.1 (Nat.add t 12) ((5 : Nat) : Int)).toNat = μ.2 (μ.1 (Nat.add t 12) ((5 : Nat) : Int)).toNat) ∧ (m.1 (Nat.add t 12) ((5 : Nat) : Int)).toNat = (μ.1 (Nat.add t 12) ((5 : Nat) : Int)).toNat ∧ (m.1 (Nat.add s 12) ((5 : Nat) : Int)).toNat ≠ (μ.1 (Nat.add t 12) ((5 : Nat) : Int)).toNat :=
  h (by omega) (Nat.add t 12) _ (by simp only [Nat.add_eq]; omega) (by simp only [Nat.add_eq]; omega) c rfl n
theorem yCC_F {μ : zM} {t : Nat} (h : yCC μ t) : (fun j : Nat => j < 66 ∨ (109 ≤ j ∧ j < 1000000) ∨ (3000000 ≤ j ∧ j < 3000066)) ((μ.1 (Nat.add t 12) ((5 : Nat) : Int)).toNat) := by
  unfold yCC at h
  show _ ∨ _ ∨ _
  omega
theorem lt_F {t j : Nat} (ht : t = 14 ∨ t = 32) (hj : (t ≤ j ∧ j < t + 17) ∨ (3000000 + t ≤ j ∧ j < 3000000 + t + 17)) : j < 66 ∨ (109 ≤ j ∧ j < 1000000) ∨ (3000000 ≤ j ∧ j < 3000066) := by omega
theorem lt_12 {t : Nat} (ht : t = 14 ∨ t = 32) : (fun j : Nat => j < 66 ∨ (109 ≤ j ∧ j < 1000000) ∨ (3000000 ≤ j ∧ j < 3000066)) (Nat.add t 12) := by
  show _ ∨ _ ∨ _
  simp only [Nat.add_eq]
  omega
theorem zob_o {s t j : Nat} (e : (t = 14 ∧ s = 32) ∨ (t = 32 ∧ s = 14)) (hj : (t ≤ j ∧ j < t + 17) ∨ (3000000 + t ≤ j ∧ j < 3000000 + t + 17)) : j ≠ 0 ∧ zob s j := by
  refine ⟨by omega, ?_⟩
  rcases e with ⟨rfl, rfl⟩ | ⟨rfl, rfl⟩
  · exact Or.inr (Or.inr (Or.inr (Or.inl ⟨rfl, by omega⟩)))
  · exact Or.inr (Or.inr (Or.inl ⟨rfl, by omega⟩))
/-- a text was read -/
theorem lB_rd {μ μ1 μ2 : zM} {T T' : yT} {v v' K K2 : Int} (h : lB μ) (hR : zRI μ1 K) (hR2 : zRI μ2 K2) (hq : yTq T T') (h0 : 0 ≤ T.2) (f12 : ∀ j : Nat, j < 66 ∨ (109 ≤ j ∧ j < 1000000) ∨ (3000000 ≤ j ∧ j < 3000066) → μ2.1 j = μ1.1 j) (fl : μ2.2 = μ1.2) (f01 : rKq μ μ1) (hR0 : zRI μ K)
    (a : (∃ p B, yR T (0, 0, 0, [], yB0) (21, p, 0, [], B) ∧ v = B.1 0 0 ∧ μ1.1 0 ((7 : Nat) : Int) = 0 ∧ (μ1.1 0 ((3 : Nat) : Int) = μ.1 0 ((4 : Nat) : Int) ∧ μ1.1 0 ((4 : Nat) : Int) = μ.1 0 ((3 : Nat) : Int)) ∧ ∀ s : Nat, (s : Int) = μ.1 0 ((4 : Nat) : Int) → (s = 14 ∨ s = 32) ∧ yTab μ1 s B ∧ yRS μ1 s 300 B ∧ (yGd B → cWf μ1 B) ∧ yCd μ1 s B) ∨ (∃ p x B, yR T (0, 0, 0, [], yB0) (20, p, x, [], B) ∧ v = -10 - p ∧ μ1.1 0 ((7 : Nat) : Int) = x ∧ (μ1.1 0 ((3 : Nat) : Int) = μ.1 0 ((3 : Nat) : Int) ∧ μ1.1 0 ((4 : Nat) : Int) = μ.1 0 ((4 : Nat) : Int)) ∧ (∀ s : Nat, (s : Int) = μ.1 0 ((4 : Nat) : Int) → ∀ j : Nat, j ≠ 0 → zob s j → μ1.1 j = μ.1 j) ∧ μ1.1 7 = μ.1 7))
    (ax : ∀ s : Nat, (s : Int) = μ.1 0 ((4 : Nat) : Int) → (s = 14 ∨ s = 32) ∧ zox s μ μ1)
    (b : (∃ p B, yR T' (0, 0, 0, [], yB0) (21, p, 0, [], B) ∧ v' = B.1 0 0 ∧ (rTb μ2 B ∧ rTq μ2 B) ∧ μ2.1 66 ((37 : Nat) : Int) = 0 ∧ (rPc μ2 B (zTop μ2) ∧ zUq μ2 0 ∧ rWf μ2 B ∧ yGd B ∧ μ2.1 66 ((23 : Nat) : Int) = zTop μ2)) ∨ (∃ p x B, yR T' (0, 0, 0, [], yB0) (20, p, x, [], B) ∧ v' = -10 - p ∧ (rKp μ1 μ2 ∧ μ2.1 66 ((21 : Nat) : Int) = μ1.1 66 ((21 : Nat) : Int) ∧ ∀ q : Int, q < 80 → μ2.1 3000081 q = μ1.1 3000081 q) ∧ μ2.1 66 ((37 : Nat) : Int) = x ∧ (μ2.1 86 = μ1.1 86 ∧ μ2.1 87 = μ1.1 87) ∧ (zOt μ1 μ2 ∧ zOld μ1 μ2 (zTop μ1) ∧ μ2.1 66 ((23 : Nat) : Int) = μ1.1 66 ((23 : Nat) : Int)))) : lB μ2 := by
  obtain ⟨B0, ⟨t, s, ⟨e1, e2, e3⟩, e4, e5⟩, e6, e7⟩ := h
  have hs : yPo T (0, 0, 0, [], yB0) := ⟨by decide, h0⟩
  have ox := zox_o (ax s e2).2 e3 e4.2.2.2.2.2.2 e5
  have fs12 : μ2.1 (Nat.add s 12) = μ1.1 (Nat.add s 12) := f12 _ (lt_12 (by omega))
  have ft12 : μ2.1 (Nat.add t 12) = μ1.1 (Nat.add t 12) := f12 _ (lt_12 (by omega))
  have f0 := f12 0 (Or.inl (by decide))
  rcases a with ⟨p, B, r, -, -, ⟨c1, c2⟩, c3⟩ | ⟨p, x, B, r, -, -, ⟨c1, c2⟩, c3, -⟩ <;> rcases b with ⟨p', B', r', -, d3, -, d5, du, -, d6, d7⟩ | ⟨p', x', B', r', -, d3, -, -, d5, d6, d7⟩ <;> have q := yR_one (yR_q hq hs r) r' rfl rfl
  · cases q
    obtain ⟨g0, g1, g2, -, g3⟩ := c3 s e2
    have T1 : aT μ1 s B := ⟨g0, g1.1, g2, g3.1, g3.2⟩
    have h6 := T1.2.2.2.2.2.2
    have AB : aB B := aB_mk r' d6 (fun i0 => rGo_mk d3.2 d5 hR2 i0)
    have PC : rPc μ2 B (μ2.1 66 ((23 : Nat) : Int)) := by rw [d7]; exact d5
    refine ⟨B, ⟨s, t, ⟨by rw [f0, c1]; exact e2, by rw [f0, c2]; exact e1, by omega⟩, aT_y T1 (fun j hj => f12 j (lt_F T1.1 hj)) (f12 _ (yCC_F h6)) (by rw [fl]), ?_⟩, ⟨d3.2, PC, by rw [d7]; exact du, aW_R hR2 d3.2 PC r' AB.1 AB.2.1 AB.2.2.2.1⟩, AB⟩
    rw [ft12, fs12, ox.2.1]
    exact fun e => ox.2.2 e.symm
  · exact absurd (congrArg Prod.fst q) (by simp)
  · exact absurd (congrArg Prod.fst q) (by simp)
  · have fr : ∀ j : Nat, (t ≤ j ∧ j < t + 17) ∨ (3000000 + t ≤ j ∧ j < 3000000 + t + 17) → μ1.1 j = μ.1 j := fun j hj => c3 s e2 j (zob_o e3 hj).1 (zob_o e3 hj).2
    have T1 : aT μ1 t B0 := aT_y e4 fr ox.1.1 ox.1.2
    have h6 := T1.2.2.2.2.2.2
    have t23 : μ1.1 66 ((23 : Nat) : Int) ≤ zTop μ1 := hR.1.1.2.2.1
    have kk : rKq μ1 μ2 := ⟨⟨⟨d3.1.1, d3.2.1⟩, d3.1.2.2, d3.2.2⟩, d5, fun x a b => d6 x a (by omega), d7⟩
    refine ⟨B0, ⟨t, s, ⟨by rw [f0, c1]; exact e1, by rw [f0, c2]; exact e2, e3⟩, aT_y T1 (fun j hj => f12 j (lt_F T1.1 hj)) (f12 _ (yCC_F h6)) (by rw [fl]), ?_⟩, lR4_k e6 hR0 (rKq_t f01 kk) e7.1, e7⟩
    rw [ft12, fs12, ox.2.1]
    exact ox.2.2
theorem lB_cl {μ μ1 μ2 : zM} {K : Int} (h : lB μ) (hco : ∀ t : Nat, (t = 14 ∨ t = 32) → ∃ c, yCo μ (Nat.add t 12) c ∧ 1024 ≤ μ.2 c) (hR2 : zRI μ2 K) (f12 : ∀ j : Nat, j < 66 ∨ (109 ≤ j ∧ j < 1000000) ∨ (3000000 ≤ j ∧ j < 3000066) → μ2.1 j = μ1.1 j) (fl : μ2.2 = μ1.2) (c : μ1.1 0 ((3 : Nat) : Int) = μ.1 0 ((3 : Nat) : Int) ∧ μ1.1 0 ((4 : Nat) : Int) = μ.1 0 ((4 : Nat) : Int)) (c3 : ∀ s : Nat, (s : Int) = μ.1 0 ((3 : Nat) : Int) → (s = 14 ∨ s = 32) ∧ yTab μ1 s yB0 ∧ yCd μ1 s yB0 ∧ zox s μ μ1) (h20 : μ2.1 66 ((20 : Nat) : Int) = 1) (hA : μ2.1 3000075 0 = 4288121 ∧ μ2.1 76 0 = 0 ∧ μ2.1 77 0 = 0 ∧ μ2.1 79 0 = 0) (h21 : μ2.1 66 ((21 : Nat) : Int) = 0) (h23 : μ2.1 66 ((23 : Nat) : Int) = 1) : lB μ2 := by
  obtain ⟨B0, ⟨t, s, ⟨e1, e2, e3⟩, e4, e5⟩, e6, e7⟩ := h
  obtain ⟨g0, g1, g2, g3⟩ := c3 t e1
  have cc : yCC μ s := by
    obtain ⟨c, h1, -⟩ := hco s (by omega)
    have w := h1.1
    unfold yCC
    omega
  have ox := zox_o g3 (t := s) (by omega) cc (fun e => e5 e.symm)
  have T1 : aT μ1 t yB0 := ⟨g0, g1.1, yRS_0, g2.1, g2.2⟩
  have h6 := T1.2.2.2.2.2.2
  have f0 := f12 0 (Or.inl (by decide))
  have tq : rTq μ2 yB0 := ⟨⟨h20, h21⟩, fun k a b => by rw [yB0_1 a b]; exact hA, fun p a b => absurd b (by show ¬ p < 0; omega)⟩
  refine ⟨yB0, ⟨t, s, ⟨by rw [f0, c.1]; exact e1, by rw [f0, c.2]; exact e2, e3⟩, aT_y T1 (fun j hj => f12 j (lt_F T1.1 hj)) (f12 _ (yCC_F h6)) (by rw [fl]), ?_⟩, ⟨tq, rPc_0 hR2 tq, by rw [h23]; exact fun x y a b c d _ => by omega, aW_0 hR2 tq aB_0.1 aB_0.2.1 aB_0.2.2.2.1⟩, aB_0⟩
  rw [f12 _ (lt_12 (t := s) (by omega)), f12 _ (lt_12 (t := t) (by omega)), ox.2.1]
  exact fun e => ox.2.2 e.symm
