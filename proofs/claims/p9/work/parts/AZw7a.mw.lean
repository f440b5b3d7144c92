/-! ### the class's row of TYPES told: ways, place by place -/
theorem yone_row {μ : zM} {q : Nat} {x : Int} {A : Int → Int} {l l' : List Int} (r : yRow μ q x l) (r' : yRow μ q x l') (h : yone A l) (h' : yone A l') : l = l' := by
  have key : ∀ (a b : List Int), yRow μ q x a → yRow μ q x b → yone A a → yone A b → a.length ≤ b.length → a = b := fun a b ra rb ha hb hl => by
    have e : a = b.take a.length := by
      apply List.ext_getElem
      · rw [List.length_take]; omega
      · intro i h1 h2
        have u := ra i h1
        have v := rb i (by omega)
        rw [List.getElem_take]
        rw [List.getD_eq_getElem?_getD, List.getElem?_eq_getElem h1] at u
        rw [List.getD_eq_getElem?_getD, List.getElem?_eq_getElem (by omega)] at v
        exact u.symm.trans v
    by_cases c : a.length < b.length
    · exfalso
      have := hb.2 a.length c
      rw [← e, ha.1] at this
      omega
    · rw [List.take_of_length_le (by omega)] at e
      exact e
  rcases Nat.le_total l.length l'.length with c | c
  · exact key l l' r r' h h' c
  · exact (key l' l r' r h' h c).symm
theorem yone_n {A : Int → Int} (hA : ∀ h, 0 ≤ A h) : ∀ (n : Nat) (s : List Int), (n : Int) + (s.map (fun h => A h - 1)).sum = 0 → (∀ m : Nat, m < s.length → 1 ≤ (n : Int) + ((s.take m).map (fun h => A h - 1)).sum) → ∃ as : List (List Int), s = as.flatten ∧ as.length = n ∧ ∀ a ∈ as, yone A a
  | 0, s, h1, h2 => by
    cases s with
    | nil => exact ⟨[], rfl, rfl, fun a ha => by cases ha⟩
    | cons x s => exfalso; have := h2 0 (by simp); simp at this
  | n + 1, s, h1, h2 => by
    obtain ⟨k, k1, k2, k3⟩ := ybl_cut hA s 1 (by decide) (by omega)
    have e := List.take_append_drop k s
    have hs : (s.map (fun h => A h - 1)).sum = ((s.take k).map (fun h => A h - 1)).sum + ((s.drop k).map (fun h => A h - 1)).sum := by
      conv => lhs; rw [← e]
      rw [List.map_append, List.sum_append]
    obtain ⟨as, a1, a2, a3⟩ := yone_n hA n (s.drop k) (by omega) (fun m hm => by
      rw [List.length_drop] at hm
      have w := h2 (k + m) (by omega)
      have t : s.take (k + m) = s.take k ++ (s.drop k).take m := by
        conv => lhs; rw [← e]
        rw [List.take_append, List.length_take, List.take_of_length_le (by rw [List.length_take]; omega), show k + m - min k s.length = m by omega]
      rw [t, List.map_append, List.sum_append] at w
      omega)
    refine ⟨s.take k :: as, by rw [List.flatten_cons, ← a1, e], by rw [List.length_cons, a2], fun a ha => ?_⟩
    rcases List.mem_cons.mp ha with q | q
    · rw [q]
      refine ⟨k2, fun m hm => ?_⟩
      rw [List.length_take] at hm
      rw [List.take_take, show min m k = m by omega]
      exact k3 m (by omega)
    · exact a3 a q
theorem yone_d {A : Int → Int} (hA : ∀ h, 0 ≤ A h) {h : Int} {r : List Int} (o : yone A (h :: r)) : ∃ as : List (List Int), r = as.flatten ∧ (as.length : Int) = A h ∧ ∀ a ∈ as, yone A a := by
  have o1 : 1 + ((h :: r).map (fun h => A h - 1)).sum = 0 := o.1
  rw [List.map_cons, List.sum_cons] at o1
  have h0 := hA h
  obtain ⟨as, a1, a2, a3⟩ := yone_n hA (A h).toNat r (by omega) (fun m hm => by
    have w : 1 ≤ 1 + (((h :: r).take (m + 1)).map (fun h => A h - 1)).sum := o.2 (m + 1) (by simpa using hm)
    rw [List.take_succ_cons, List.map_cons, List.sum_cons] at w
    omega)
  exact ⟨as, a1, by omega, a3⟩
/-- a TYPE told: where it begins, its row -/
def yTd (μ : zM) (t : Nat) (B : yB) (st : Int) (L : List Int) : Prop := (∃ k i : Int, 0 ≤ k ∧ k < B.1 0 0 ∧ 0 ≤ i ∧ i < B.1 4 k ∧ st = μ.1 (Nat.add t 5) (k * 4 + i) ∧ L = (B.2 1 k i).flatten) ∨ ∃ p i : Int, 0 ≤ p ∧ p < B.1 0 1 ∧ 0 ≤ i ∧ i < B.1 6 p ∧ st = μ.1 (Nat.add t 9) (p * 2 + i) ∧ L = (B.2 0 p i).flatten
theorem yTd_to {μ : zM} {t : Nat} {B : yB} {st n : Int} {L : List Int} (h : yTd μ t B st L) (hS : yRS μ t n B) : yTo μ (Nat.add t 11) st n L := by
  rcases h with ⟨k, i, a, b, c, d, e, f⟩ | ⟨k, i, a, b, c, d, e, f⟩
  · rw [e, f]; exact hS.1 k i a b c d
  · rw [e, f]; exact (hS.2 k i a b c d).2
theorem yTd_g {μ : zM} {t : Nat} {B : yB} {st : Int} {L : List Int} (h : yTd μ t B st L) (hG : yGd B) : yGl B L := by
  rcases h with ⟨k, i, a, b, c, d, -, f⟩ | ⟨k, i, a, b, c, d, -, f⟩
  · rw [f]; exact hG.1 k i a b c d
  · rw [f]; exact hG.2 k i a b c d
theorem yTd_c {μ : zM} {t : Nat} {B : yB} {n x : Int} (h : yCv μ t n B) (x0 : 0 ≤ x) (x1 : x < n) : ∃ st L, yTd μ t B st L ∧ st ≤ x ∧ x < st + (L.length : Int) := by
  rcases h x x0 x1 with ⟨k, i, a, b, c, d⟩ | ⟨k, i, a, b, c, d⟩
  · exact ⟨_, _, Or.inl ⟨k, i, a.1, a.2, b.1, b.2, rfl, rfl⟩, c, d⟩
  · exact ⟨_, _, Or.inr ⟨k, i, a.1, a.2, b.1, b.2, rfl, rfl⟩, c, d⟩
theorem yWs_td {μ : zM} {t : Nat} {B : yB} {p q : Int} {g : Prop} : yWs B p q g ↔ ∃ st L, yTd μ t B st L ∧ yWy (yar B) (B.1 2) L p q g := by
  constructor
  · rintro (⟨k, i, a, b, c, d, w⟩ | ⟨k, i, a, b, c, d, w⟩)
    · exact ⟨_, _, Or.inl ⟨k, i, a, b, c, d, rfl, rfl⟩, w⟩
    · exact ⟨_, _, Or.inr ⟨k, i, a, b, c, d, rfl, rfl⟩, w⟩
  · rintro ⟨st, L, (⟨k, i, a, b, c, d, -, f⟩ | ⟨k, i, a, b, c, d, -, f⟩), w⟩
    · exact Or.inl ⟨k, i, a, b, c, d, by rw [← f]; exact w⟩
    · exact Or.inr ⟨k, i, a, b, c, d, by rw [← f]; exact w⟩
/-- a way that is found at a place -/
def yWk (μ : zM) (t : Nat) (B : yB) (x p q : Int) (g : Prop) : Prop := ∃ st L, yTd μ t B st L ∧ ∃ (a b : List Int) (h : Int) (as : List (List Int)) (j : Nat), L = a ++ (h :: as.flatten) ++ b ∧ x = st + (a.length : Int) ∧ (0 ≤ h ∧ h < 32) ∧ (as.length : Int) = yar B h ∧ (∀ y ∈ as, yone (yar B) y) ∧ j < as.length ∧ q = B.1 2 h + j ∧ 32 + p ∈ as.getD j [] ∧ (g → 1 < (as.getD j []).length)
theorem yWk_all {μ : zM} {t : Nat} {B : yB} {n p q : Int} {g : Prop} (hS : yRS μ t n B) : yWs B p q g ↔ ∃ x, 0 ≤ x ∧ x < n ∧ yWk μ t B x p q g := by
  rw [yWs_td (μ := μ) (t := t)]
  constructor
  · rintro ⟨st, L, hL, a, b, h, as, j, e1, e2, e3, e4, e5, e6, e7, e8⟩
    have T := yTd_to hL hS
    have hl : (L.length : Int) = a.length + (1 + as.flatten.length) + b.length := by rw [e1]; simp; omega
    exact ⟨st + a.length, by have := T.1; omega, by have := T.2.1; omega, st, L, hL, a, b, h, as, j, e1, rfl, e2, e3, e4, e5, e6, e7, e8⟩
  · rintro ⟨x, -, -, st, L, hL, a, b, h, as, j, e1, -, e2, e3, e4, e5, e6, e7, e8⟩
    exact ⟨st, L, hL, a, b, h, as, j, e1, e2, e3, e4, e5, e6, e7, e8⟩
/-- what stands at a place -/
def yAt (μ : zM) (t : Nat) (B : yB) (n i h : Int) (as : List (List Int)) : Prop := yTo μ (Nat.add t 11) i n (h :: as.flatten) ∧ (as.length : Int) = yar B h ∧ (∀ a ∈ as, yone (yar B) a) ∧ yhk B h ∧ (∀ a ∈ as, ∀ x ∈ a, yhk B x) ∧ ∃ st L a b, yTd μ t B st L ∧ L = a ++ (h :: as.flatten) ++ b ∧ i = st + (a.length : Int)
theorem yAt_mk {μ : zM} {t : Nat} {B : yB} {n i : Int} (hI : yI0 B) (hG : yGd B) (hS : yRS μ t n B) (hC : yCv μ t n B) (i0 : 0 ≤ i) (i1 : i < n) : ∃ h as, yAt μ t B n i h as := by
  obtain ⟨st, L, hL, s1, s2⟩ := yTd_c hC i0 i1
  have T := yTd_to hL hS
  have G := yTd_g hL hG
  have e := List.take_append_drop (i - st).toNat L
  have ne : L.drop (i - st).toNat ≠ [] := fun q => by
    have := congrArg List.length q
    rw [List.length_drop, List.length_nil] at this
    omega
  obtain ⟨u, r, e2, hu⟩ := yone_suf (yar_0 hI) (u := L.take (i - st).toNat) (s := L.drop (i - st).toNat) (by rw [e]; exact G.1) ne
  cases u with
  | nil => exact absurd (yone_p hu) (by simp)
  | cons h w =>
    obtain ⟨as, a1, a2, a3⟩ := yone_d (yar_0 hI) hu
    subst a1
    have eL : L = L.take (i - st).toNat ++ (h :: as.flatten) ++ r := by rw [List.append_assoc, ← e2, e]
    have hl : ((L.take (i - st).toNat).length : Int) = i - st := by rw [List.length_take]; omega
    have R := T.2.2
    rw [eL, yRow_app, yRow_app] at R
    have hlen := congrArg List.length eL
    rw [List.length_append, List.length_append] at hlen
    have T2 := T.2.1
    have mem : ∀ x ∈ (h :: as.flatten), yhk B x := fun x hx => G.2 x (by rw [eL]; exact List.mem_append_left _ (List.mem_append_right _ hx))
    refine ⟨h, as, ⟨i0, by omega, ?_⟩, a2, a3, mem h (List.mem_cons_self ..), fun a ha x hx => mem x (List.mem_cons_of_mem _ (List.mem_flatten.mpr ⟨a, ha, hx⟩)), st, L, _, r, hL, eL, by omega⟩
    have := R.1.2
    rw [hl, show st + (i - st) = i by omega] at this
    exact this
theorem yWk_at {μ : zM} {t : Nat} {B : yB} {n i h p q : Int} {as : List (List Int)} {g : Prop} (hS : yRS μ t n B) (hA : yAt μ t B n i h as) : yWk μ t B i p q g ↔ (0 ≤ h ∧ h < 32) ∧ ∃ j : Nat, j < as.length ∧ q = B.1 2 h + j ∧ 32 + p ∈ as.getD j [] ∧ (g → 1 < (as.getD j []).length) := by
  obtain ⟨T, e1, e2, e3, e4, st, L, a, b, hL, eL, ei⟩ := hA
  constructor
  · rintro ⟨st', L', hL', a', b', h', as', j, f1, f2, f3, f4, f5, f6, f7, f8, f9⟩
    have T' := yTd_to hL' hS
    have R' := T'.2.2
    rw [f1, yRow_app, yRow_app, ← f2] at R'
    have := yone_row T.2.2 R'.1.2 (yone_h e1 e2) (yone_h f4 f5)
    have eh := (List.cons.inj this).1
    have ea := (List.cons.inj this).2
    subst eh
    have : as = as' := yone_fe as as' e2 f5 (by omega) ea
    subst this
    exact ⟨f3, j, f6, f7, f8, f9⟩
  · rintro ⟨f3, j, f6, f7, f8, f9⟩
    exact ⟨st, L, hL, a, b, h, as, j, eL, ei, f3, e1, e2, f6, f7, f8, f9⟩
/-- the ARGS of what stands at a place, one by one -/
theorem yAt_j {μ : zM} {t : Nat} {B : yB} {n i h : Int} {as : List (List Int)} (hA : yAt μ t B n i h as) {j : Nat} (hj : j < as.length) : yTo μ (Nat.add t 11) (i + 1 + ((as.take j).flatten.length : Int)) n (as.getD j []) ∧ yone (yar B) (as.getD j []) ∧ ((as.take (j + 1)).flatten.length : Int) = (as.take j).flatten.length + (as.getD j []).length := by
  obtain ⟨T, e1, e2, -⟩ := hA
  have g : as.getD j [] = as[j] := by rw [List.getD_eq_getElem?_getD, List.getElem?_eq_getElem hj]; rfl
  have s : as.take (j + 1) = as.take j ++ [as[j]] := by rw [List.take_add_one, List.getElem?_eq_getElem hj]; rfl
  have sp : as.flatten = (as.take j).flatten ++ as[j] ++ (as.drop (j + 1)).flatten := by
    conv => lhs; rw [← List.take_append_drop j as, List.drop_eq_getElem_cons hj, List.flatten_append, List.flatten_cons, ← List.append_assoc]
  have R := T.2.2
  rw [yRow_c, sp, yRow_app, yRow_app] at R
  have hl := congrArg List.length sp
  rw [List.length_append, List.length_append] at hl
  have T1 := T.1
  have T2 := T.2.1
  rw [List.length_cons] at T2
  rw [g]
  refine ⟨⟨by omega, by omega, R.2.1.2⟩, e2 _ (List.getElem_mem hj), ?_⟩
  rw [s, List.flatten_append, List.length_append, List.flatten_cons, List.flatten_nil, List.append_nil]; omega
theorem yRow_in {μ : zM} {c : Nat} {f z : Int} {l : List Int} (r : yRow μ c f l) : (∃ x, f ≤ x ∧ x < f + (l.length : Int) ∧ μ.1 c x = z) ↔ z ∈ l := by
  constructor
  · rintro ⟨x, x0, x1, e⟩
    rw [← e, yRow_v r x0 x1, List.getD_eq_getElem?_getD, List.getElem?_eq_getElem (by omega)]
    exact List.getElem_mem _
  · intro h
    obtain ⟨k, k1, k2⟩ := List.getElem_of_mem h
    refine ⟨f + k, by omega, by omega, ?_⟩
    rw [r k k1, List.getD_eq_getElem?_getD, List.getElem?_eq_getElem k1]
    exact k2
/-- what addWays makes of a stretch of the row -/
def vWa (μ m : zM) (c : Nat) (f e b g : Int) : Prop := ∀ p q : Int, 0 ≤ p → p < 80 → 0 ≤ q → q < 80 → (m.1 7 (p * 80 + q) = 2 ↔ μ.1 7 (p * 80 + q) = 2 ∨ (g = 2 ∧ q = b ∧ ∃ x, f ≤ x ∧ x < e ∧ μ.1 c x = 32 + p)) ∧ (1 ≤ m.1 7 (p * 80 + q) ↔ 1 ≤ μ.1 7 (p * 80 + q) ∨ (q = b ∧ ∃ x, f ≤ x ∧ x < e ∧ μ.1 c x = 32 + p)) ∧ 0 ≤ m.1 7 (p * 80 + q) ∧ m.1 7 (p * 80 + q) ≤ 2
def vRg (μ : zM) : Prop := ∀ p q : Int, 0 ≤ p → p < 80 → 0 ≤ q → q < 80 → 0 ≤ μ.1 7 (p * 80 + q) ∧ μ.1 7 (p * 80 + q) ≤ 2
theorem vWa_0 {μ : zM} {c : Nat} {f b g : Int} (h : vRg μ) : vWa μ μ c f f b g := fun p q p0 p1 q0 q1 => by
  refine ⟨⟨Or.inl, fun w => ?_⟩, ⟨Or.inl, fun w => ?_⟩, h p q p0 p1 q0 q1⟩
  · rcases w with w | ⟨-, -, x, a, b, -⟩
    · exact w
    · omega
  · rcases w with w | ⟨-, x, a, b, -⟩
    · exact w
    · omega
theorem vWa_n {μ m : zM} {c : Nat} {f e b g : Int} (h : vWa μ m c f e b g) (hx : ¬ (32 ≤ μ.1 c e ∧ μ.1 c e < 112)) : vWa μ m c f (e + 1) b g := fun p q p0 p1 q0 q1 => by
  have w := h p q p0 p1 q0 q1
  have k : (∃ x, f ≤ x ∧ x < e + 1 ∧ μ.1 c x = 32 + p) ↔ ∃ x, f ≤ x ∧ x < e ∧ μ.1 c x = 32 + p := by
    constructor
    · rintro ⟨x, a, b, d⟩
      by_cases q : x = e
      · exfalso; clear w; rw [q] at d; omega
      · exact ⟨x, a, by clear w; omega, d⟩
    · rintro ⟨x, a, b, d⟩; exact ⟨x, a, by clear w; omega, d⟩
  rw [k]; exact w
theorem vWa_s {μ m m' : zM} {c : Nat} {f e b g y w : Int} (h : vWa μ m c f e b g) (hf : f ≤ e) (hb : 0 ≤ b ∧ b < 80) (hg : g = 1 ∨ g = 2) (hy : 32 ≤ y ∧ y < 112) (hx : μ.1 c e = y) (hm : m' = zu m 7 ((y - 32) * 80 + b) w) (w1 : g ≤ w) (w2 : m.1 7 ((y - 32) * 80 + b) ≤ w) (w3 : w = g ∨ w = m.1 7 ((y - 32) * 80 + b)) : vWa μ m' c f (e + 1) b g := fun p q p0 p1 q0 q1 => by
  obtain ⟨v1, v2, v3⟩ := h p q p0 p1 q0 q1
  by_cases k : p = y - 32 ∧ q = b
  · have e1 : m'.1 7 (p * 80 + q) = w := by rw [hm, k.1, k.2, zu_at]
    have e2 : m.1 7 (p * 80 + q) = m.1 7 ((y - 32) * 80 + b) := by rw [k.1, k.2]
    rw [e2] at v1 v2 v3
    rw [e1]
    have b1 : 1 ≤ w := by clear v1 v2; omega
    have b2 : w ≤ 2 := by clear v1 v2; omega
    have ex : ∃ x, f ≤ x ∧ x < e + 1 ∧ μ.1 c x = 32 + p := ⟨e, hf, by clear v1 v2; omega, by clear v1 v2; omega⟩
    refine ⟨⟨fun h2 => ?_, fun h2 => ?_⟩, ⟨fun _ => Or.inr ⟨k.2, ex⟩, fun _ => b1⟩, Int.le_trans (by decide) b1, b2⟩
    · rcases w3 with u | u
      · exact Or.inr ⟨u.symm.trans h2, k.2, ex⟩
      · rcases v1.mp (u.symm.trans h2) with z | ⟨z1, z2, -⟩
        · exact Or.inl z
        · exact Or.inr ⟨z1, z2, ex⟩
    · rcases h2 with z | ⟨z, -, -⟩
      · have z' := v1.mpr (Or.inl z); clear v1 v2 ex; omega
      · clear v1 v2 ex; omega
  · have nk : p * 80 + q ≠ (y - 32) * 80 + b := fun z => k (by clear v1 v2; omega)
    rw [hm, zu_nk nk]
    have kk : (q = b ∧ ∃ x, f ≤ x ∧ x < e + 1 ∧ μ.1 c x = 32 + p) ↔ (q = b ∧ ∃ x, f ≤ x ∧ x < e ∧ μ.1 c x = 32 + p) := by
      clear v1 v2
      constructor
      · rintro ⟨z, x, a, b', d⟩
        refine ⟨z, x, a, ?_, d⟩
        by_cases xe : x = e
        · exfalso; rw [xe, hx] at d; exact k ⟨by omega, z⟩
        · omega
      · rintro ⟨z, x, a, b', d⟩; exact ⟨z, x, a, by omega, d⟩
    exact ⟨v1.trans (or_congr Iff.rfl (and_congr Iff.rfl kk.symm)), v2.trans (or_congr Iff.rfl kk.symm), v3⟩
/-- ways found at the places before i, and of the first j ARGS there -/
def yWj (B : yB) (h : Int) (as : List (List Int)) (j : Nat) (p q : Int) (g : Prop) : Prop := (0 ≤ h ∧ h < 32) ∧ ∃ k : Nat, k < j ∧ k < as.length ∧ q = B.1 2 h + k ∧ 32 + p ∈ as.getD k [] ∧ (g → 1 < (as.getD k []).length)
def yWb (μ m : zM) (t : Nat) (B : yB) (i h : Int) (as : List (List Int)) (j : Nat) : Prop := ∀ p q : Int, 0 ≤ p → p < 80 → 0 ≤ q → q < 80 → (m.1 7 (p * 80 + q) = 2 ↔ (∃ x, 0 ≤ x ∧ x < i ∧ yWk μ t B x p q True) ∨ yWj B h as j p q True) ∧ (1 ≤ m.1 7 (p * 80 + q) ↔ (∃ x, 0 ≤ x ∧ x < i ∧ yWk μ t B x p q False) ∨ yWj B h as j p q False) ∧ 0 ≤ m.1 7 (p * 80 + q) ∧ m.1 7 (p * 80 + q) ≤ 2
def yWa (μ m : zM) (t : Nat) (B : yB) (i : Int) : Prop := ∀ p q : Int, 0 ≤ p → p < 80 → 0 ≤ q → q < 80 → (m.1 7 (p * 80 + q) = 2 ↔ ∃ x, 0 ≤ x ∧ x < i ∧ yWk μ t B x p q True) ∧ (1 ≤ m.1 7 (p * 80 + q) ↔ ∃ x, 0 ≤ x ∧ x < i ∧ yWk μ t B x p q False) ∧ 0 ≤ m.1 7 (p * 80 + q) ∧ m.1 7 (p * 80 + q) ≤ 2
theorem yWa_0 {μ m : zM} {t : Nat} {B : yB} (h : ∀ k : Int, 0 ≤ k → k < 6400 → m.1 7 k = 0) : yWa μ m t B 0 := fun p q p0 p1 q0 q1 => by
  rw [h _ (by omega) (by omega)]
  refine ⟨⟨fun z => by omega, fun ⟨x, a, b, _⟩ => by omega⟩, ⟨fun z => by omega, fun ⟨x, a, b, _⟩ => by omega⟩, by omega, by omega⟩
theorem yWj_0 {B : yB} {h : Int} {as : List (List Int)} {p q : Int} {g : Prop} : yWj B h as 0 p q g ↔ False := ⟨fun ⟨_, k, a, _⟩ => by omega, fun w => w.elim⟩
theorem yWb_0 {μ m : zM} {t : Nat} {B : yB} {i h : Int} {as : List (List Int)} (w : yWa μ m t B i) : yWb μ m t B i h as 0 := fun p q p0 p1 q0 q1 => by
  rw [yWj_0, yWj_0, or_false, or_false]
  exact w p q p0 p1 q0 q1
theorem yWa_s {μ m : zM} {t : Nat} {B : yB} {n i h : Int} {as : List (List Int)} {j : Nat} (hS : yRS μ t n B) (hA : yAt μ t B n i h as) (i0 : 0 ≤ i) (w : yWb μ m t B i h as j) (hj : (0 ≤ h ∧ h < 32) → as.length ≤ j) : yWa μ m t B (i + 1) := fun p q p0 p1 q0 q1 => by
  have v := w p q p0 p1 q0 q1
  have k : ∀ g : Prop, (∃ x, 0 ≤ x ∧ x < i + 1 ∧ yWk μ t B x p q g) ↔ (∃ x, 0 ≤ x ∧ x < i ∧ yWk μ t B x p q g) ∨ yWj B h as j p q g := fun g => by
    constructor
    · rintro ⟨x, a, b, d⟩
      by_cases xe : x = i
      · rw [xe, yWk_at hS hA] at d
        obtain ⟨d1, z, d2, d3⟩ := d
        exact Or.inr ⟨d1, z, by have := hj d1; omega, d2, d3⟩
      · exact Or.inl ⟨x, a, by omega, d⟩
    · rintro (⟨x, a, b, d⟩ | ⟨d1, z, -, d2, d3⟩)
      · exact ⟨x, a, by omega, d⟩
      · exact ⟨i, i0, by omega, (yWk_at hS hA).mpr ⟨d1, z, d2, d3⟩⟩
  rw [k, k]; exact v
theorem yWb_s {μ m m' : zM} {t : Nat} {B : yB} {n i h f e b g : Int} {as : List (List Int)} {j : Nat} (hA : yAt μ t B n i h as) (hh : 0 ≤ h ∧ h < 32) (hj : j < as.length) (w : yWb μ m t B i h as j) (a : vWa m m' (Nat.add t 11) f e b g) (hc : m.1 (Nat.add t 11) = μ.1 (Nat.add t 11)) (hf : f = i + 1 + ((as.take j).flatten.length : Int)) (he : e = f + ((as.getD j []).length : Int)) (hb : b = B.1 2 h + j) (hg : (g = 2 ∧ 1 < e - f) ∨ (g = 1 ∧ e - f ≤ 1)) : yWb μ m' t B i h as (j + 1) := fun p q p0 p1 q0 q1 => by
  have v := w p q p0 p1 q0 q1
  have u := a p q p0 p1 q0 q1
  have R := (yAt_j hA hj).1.2.2
  rw [← hf] at R
  rw [hc] at u
  have mem : (∃ x, f ≤ x ∧ x < e ∧ μ.1 (Nat.add t 11) x = 32 + p) ↔ 32 + p ∈ as.getD j [] := by rw [he]; exact yRow_in R
  rw [mem] at u
  have k1 : yWj B h as (j + 1) p q True ↔ yWj B h as j p q True ∨ (g = 2 ∧ q = b ∧ 32 + p ∈ as.getD j []) := by
    clear v u mem w a
    constructor
    · rintro ⟨d1, z, d2, d3, d4, d5, d6⟩
      by_cases ze : z = j
      · subst ze
        exact Or.inr ⟨by have := d6 trivial; omega, by omega, d5⟩
      · exact Or.inl ⟨d1, z, by omega, d3, d4, d5, d6⟩
    · rintro (⟨d1, z, d2, d3, d4, d5, d6⟩ | ⟨d1, d2, d3⟩)
      · exact ⟨d1, z, by omega, d3, d4, d5, d6⟩
      · exact ⟨hh, j, by omega, hj, by omega, d3, fun _ => by omega⟩
  have k2 : yWj B h as (j + 1) p q False ↔ yWj B h as j p q False ∨ (q = b ∧ 32 + p ∈ as.getD j []) := by
    clear v u mem w a
    constructor
    · rintro ⟨d1, z, d2, d3, d4, d5, d6⟩
      by_cases ze : z = j
      · subst ze
        exact Or.inr ⟨by omega, d5⟩
      · exact Or.inl ⟨d1, z, by omega, d3, d4, d5, d6⟩
    · rintro (⟨d1, z, d2, d3, d4, d5, d6⟩ | ⟨d2, d3⟩)
      · exact ⟨d1, z, by omega, d3, d4, d5, d6⟩
      · exact ⟨hh, j, by omega, hj, by omega, d3, fun z => z.elim⟩
  refine ⟨u.1.trans ?_, u.2.1.trans ?_, u.2.2⟩
  · rw [k1, v.1, or_assoc]
  · rw [k2, v.2.1, or_assoc]
theorem yWb_r {μ m : zM} {t : Nat} {B : yB} {i h : Int} {as : List (List Int)} {j : Nat} (w : yWb μ m t B i h as j) : vRg m := fun p q p0 p1 q0 q1 => (w p q p0 p1 q0 q1).2.2
/-- the class's ways -/
def cWf (m : zM) (B : yB) : Prop := ∀ p q : Int, 0 ≤ p → p < 80 → 0 ≤ q → q < 80 → yWn B p q (m.1 7 (p * 80 + q))
theorem cWf_mk {μ m : zM} {t : Nat} {B : yB} {n : Int} (hS : yRS μ t n B) (w : yWa μ m t B n) : cWf m B := fun p q p0 p1 q0 q1 => by
  have v := w p q p0 p1 q0 q1
  exact ⟨v.1.trans (yWk_all hS).symm, v.2.1.trans (yWk_all hS).symm, v.2.2⟩
theorem yWa_f {μ m m' : zM} {t : Nat} {B : yB} {i : Int} (w : yWa μ m t B i) (e : m'.1 7 = m.1 7) : yWa μ m' t B i := fun p q p0 p1 q0 q1 => by rw [e]; exact w p q p0 p1 q0 q1
theorem cWf_f {m m' : zM} {B : yB} (w : cWf m B) (e : m'.1 7 = m.1 7) : cWf m' B := fun p q p0 p1 q0 q1 => by rw [e]; exact w p q p0 p1 q0 q1
theorem yar_4 {B : yB} (h : yI0 B) (x : Int) : yar B x ≤ 4 := by
  unfold yar
  split
  · rename_i c; exact (h.2 x c.1 c.2).2.2.1
  · split <;> decide
