/-! ### a class is closed -/
def yCL (T : yT) (s : yS) (p : Int) (B : yB) (t : Nat) (v : Int) (μ : zM) (B' : yB) (z : Bool) : Prop := yR T s (15, p, 0, [], B') ∧ (B'.1 0 7 = v ∧ B'.1 0 8 = 0) ∧ yEq B B' ∧ yRX T μ p B' (yLf B' z) t (Nat.add t 11) ∧ (μ.1 t ((14 : Nat) : Int) = B.1 0 2 ∧ μ.1 50 ((10 : Nat) : Int) = 0)
def yCM (T : yT) (s : yS) (p : Int) (B : yB) (t : Nat) (v e f j : Int) (μ : zM) (B' : yB) (z : Bool) (as : List (List Int)) (σ : Int) : Prop := yCL T s p B t v μ B' z ∧ (B'.2 1 (B'.1 0 3) v = [e] :: as ∧ (0 ≤ e ∧ e < B'.1 0 0 ∧ e ≠ B'.1 0 3) ∧ (as.length : Int) = B'.1 3 e ∧ yGa B' as) ∧ yAs μ (Nat.add t 12) (Nat.add t 11) (as.take j.toNat) ∧ (μ.1 (Nat.add t 12) ((4 : Nat) : Int) = j ∧ 0 ≤ j ∧ j ≤ as.length) ∧ yTo μ (Nat.add t 11) σ (B'.1 0 2) (e :: as.flatten) ∧ f = σ + 1 + ((as.take j.toNat).flatten.length : Int)
theorem yCL_I {T : yT} {s : yS} {p : Int} {B : yB} {t : Nat} {v : Int} {μ : zM} {B' : yB} {z : Bool} (hs : yInv s) (h : yCL T s p B t v μ B' z) : yI 15 0 [] B' := by
  have := yInv_R hs h.1
  rcases this with q | q
  · exact absurd (show (15 : Nat) = 20 from q) (by decide)
  · exact q
theorem yown_w (B : yB) : yow (B.1 0 3) (B.1 2 (B.1 0 3)) (B.1 3 (B.1 0 3)) = yown B := rfl
/-- its own TYPE -/
theorem yCL_0 {T : yT} {s : yS} {p i : Int} {B : yB} {t : Nat} {μ μ' : zM} (hs : yInv s) (hr : yR T s (8, p, 0, [], B)) (hk : ykd T p = 59) (h : yRX T μ p B (B.2 2) t (Nat.add t 11)) (h14 : μ.1 t ((14 : Nat) : Int) = B.1 0 2 ∧ μ.1 50 ((10 : Nat) : Int) = 0) (hP : yPu μ μ' (Nat.add t 12) i (yown B)) (hi : i = B.1 0 3 * 21 + B.1 0 3) : yCL T s p B t 0 μ' (yN (yN (yon B) 0 7 0) 0 8 0) true := by
  obtain ⟨o1, o2, o3⟩ := yon_v B
  have hI : yI 8 0 [] B := by
    rcases yInv_R hs hr with q | q
    · exact absurd (show (8 : Nat) = 20 from q) (by decide)
    · exact q
  obtain ⟨h0, h2, h3, h4, h1, -⟩ := hI
  obtain ⟨⟨g1, -⟩, -⟩ := h1 (Or.inl (Or.inl ⟨by decide, by decide⟩))
  unfold yCu at g1
  have hb := h0.1
  have z := h0.2 (B.1 0 3) (by omega) (by omega)
  have hrow : ∀ d : Int, B.2 2 (B.1 0 3) d = [] := fun d => h4 _ d (Or.inr ⟨Or.inl ⟨by decide, by decide⟩, rfl⟩)
  have hlen : 1 ≤ (yown B).length ∧ (yown B).length ≤ 200 := by
    unfold yown
    rw [List.length_cons, List.length_map, List.length_range]
    omega
  have e : yEq B (yN (yN (yon B) 0 7 0) 0 8 0) := by
    obtain ⟨v0, v1, v3, vk, vl⟩ := yN2_v (B := yon B) (i := 7) (j := 8) (x := 0) (y := 0) (by decide) (by decide)
    rw [o1] at v0 v1 v3
    refine ⟨⟨v0, v1, ?_, v3⟩, fun k hk => by rw [vk k hk, o1], by rw [vl]; exact o2 1 (by decide), by rw [vl]; exact o2 0 (by decide)⟩
    rw [yN_ne (by decide), yN_ne (by decide), o1]
  have hR := yRX_pu h hP hi ⟨by omega, by omega⟩ ⟨by omega, by omega⟩ (hrow _) hlen
  have el : yLf (yN (yN (yon B) 0 7 0) 0 8 0) true = yLu (B.2 2) (B.1 0 3) (B.1 0 3) (yown B) := by
    funext a b
    unfold yLf
    rw [e.1.2.2.2]
    show (if true = true ∧ a = B.1 0 3 ∧ b = 0 then [] else (yon B).2 2 a b) = _
    rw [o3]
    by_cases q : a = B.1 0 3
    · subst q
      by_cases w : b = B.1 0 3
      · subst w
        rw [yLu_at, if_neg (by omega), if_pos rfl, if_pos rfl]
      · rw [yLu_ne (fun c => w c.2), hrow, if_pos rfl, if_neg w]
        by_cases c : b = 0
        · rw [if_pos ⟨rfl, rfl, c⟩]
        · rw [if_neg (fun q => c q.2.2), if_neg c]
    · rw [if_neg (fun c => q c.2.1), if_neg q, yLu_ne (fun c => q c.1)]
  refine ⟨yR_s hr ?_, ⟨yN_c (by decide), yN_at⟩, e, ?_, ?_⟩
  · show (if ykd T p ≠ 59 then yflt T B p 2 else (15, p, 0, [], yN (yN (yon B) 0 7 0) 0 8 0)) = _
    rw [if_neg (by omega)]
  · rw [el]
    exact yRX_B hR e
  · obtain ⟨c, hO, -⟩ := hP
    have ht := h.2.1.1.1
    rw [hO.1.1 t (Or.inl (show t < 109 ∧ t ≠ t + 12 ∧ t ≠ t + 12 + 1 ∧ t ≠ t + 12 + 2 ∧ t ≠ 31 ∧ t ≠ 49 by omega)), hO.1.1 50 (Or.inl (show 50 < 109 ∧ 50 ≠ t + 12 ∧ 50 ≠ t + 12 + 1 ∧ 50 ≠ t + 12 + 2 ∧ 50 ≠ 31 ∧ 50 ≠ 49 by omega))]
    exact h14
/-- the end: ANY, if it isn't there yet -/
theorem yCL_e {T : yT} {s : yS} {p v i : Int} {B : yB} {t : Nat} {μ μ' : zM} {B' : yB} {z : Bool} (hs : yInv s) (h : yCL T s p B t v μ B' z) (hv : B'.1 4 (B'.1 0 3) ≤ v) (hi : i = B'.1 0 3 * 21 + 0) (hA : (μ.1 (Nat.add (Nat.add t 12) 2) i ≠ 0 ∧ μ' = μ) ∨ (μ.1 (Nat.add (Nat.add t 12) 2) i = 0 ∧ yPu μ μ' (Nat.add t 12) i [0])) : yR T s (9, ynx T p, 0, [], B') ∧ yRC T μ' p B' t (Nat.add t 11) ∧ μ'.1 50 ((10 : Nat) : Int) = 0 := by
  obtain ⟨h0, h2, h3, h4, h1, -⟩ := yCL_I hs h
  obtain ⟨⟨g1, -⟩, -⟩ := h1 (Or.inr rfl)
  unfold yCu at g1
  have n15 : ¬ yopn 15 := by unfold yopn; omega
  have ho0 : B'.2 2 (B'.1 0 3) 0 = [[0]] := h3 (B'.1 0 3) (by omega) (by have := h0.1; omega) (fun w => n15 w.1)
  have hb := h0.1
  have ht := h.2.2.2.1.2.1.1.1
  refine ⟨yR_s h.1 (ym15_e (by rw [h.2.1.1]; exact hv)), ?_, ?_⟩
  rotate_left
  · rcases hA with ⟨-, a2⟩ | ⟨-, c, hO, -⟩
    · rw [a2]; exact h.2.2.2.2.2
    · rw [hO.1.1 50 (Or.inl (show 50 < 109 ∧ 50 ≠ t + 12 ∧ 50 ≠ t + 12 + 1 ∧ 50 ≠ t + 12 + 2 ∧ 50 ≠ 31 ∧ 50 ≠ 49 by omega))]; exact h.2.2.2.2.2
  have hR := h.2.2.2.1
  have r := ((hR.2.2.2.2.1 rfl).1 (B'.1 0 3) 0 (by omega) (by omega) (by decide) (by decide)).1
  rw [← hi] at r
  cases z with
  | false =>
    have e : yLf B' false = B'.2 2 := by funext a b; unfold yLf; rw [if_neg (fun q => by cases q.1)]
    rw [e] at hR r
    rcases hA with ⟨a1, a2⟩ | ⟨a1, -⟩
    · rw [a2]; exact hR
    · exfalso
      rw [ho0] at r
      have r : μ.1 (Nat.add (Nat.add t 12) 2) i = (([[0]] : List (List Int)).flatten.length : Int) := r
      rw [a1] at r
      simp at r
  | true =>
    have e0 : yLf B' true (B'.1 0 3) 0 = [] := by unfold yLf; rw [if_pos ⟨rfl, rfl, rfl⟩]
    rcases hA with ⟨a1, -⟩ | ⟨-, a2⟩
    · exfalso
      rw [e0] at r
      exact a1 (by have r : μ.1 (Nat.add (Nat.add t 12) 2) i = (([] : List (List Int)).flatten.length : Int) := r
                   rw [r]; rfl)
    · have := yRX_pu hR a2 hi ⟨by omega, by omega⟩ ⟨by decide, by decide⟩ e0 ⟨by decide, by decide⟩
      have e : yLu (yLf B' true) (B'.1 0 3) 0 [0] = B'.2 2 := by
        funext a b
        by_cases q : a = B'.1 0 3 ∧ b = 0
        · rw [q.1, q.2, yLu_at, ho0]
        · rw [yLu_ne q]
          unfold yLf
          rw [if_neg (fun w => q w.2)]
      rw [e] at this
      exact this
theorem yRow_c {μ : zM} {q : Nat} {st h : Int} {l : List Int} : yRow μ q st (h :: l) ↔ μ.1 q st = h ∧ yRow μ q (st + 1) l := by
  rw [show h :: l = [h] ++ l from rfl, yRow_app]
  constructor
  · intro w
    refine ⟨by have := w.1 0 (by simp); simpa using this, ?_⟩
    have := w.2
    simpa using this
  · intro w
    exact ⟨yRow_one w.1, by simpa using w.2⟩
/-- at a super -/
theorem yCM_0 {T : yT} {s : yS} {p v : Int} {B : yB} {t : Nat} {μ m1 : zM} {B' : yB} {z : Bool} (hs : yInv s) (h : yCL T s p B t v μ B' z) (hv : 0 ≤ v ∧ v < B'.1 4 (B'.1 0 3)) (e1 : m1 = zu μ (Nat.add t 12) ((4 : Nat) : Int) 0) : ∃ (e : Int) (as : List (List Int)), μ.1 (Nat.add t 11) (μ.1 (Nat.add t 5) (B'.1 0 3 * 4 + v)) = e ∧ (0 ≤ μ.1 (Nat.add t 5) (B'.1 0 3 * 4 + v) ∧ μ.1 (Nat.add t 5) (B'.1 0 3 * 4 + v) < 300) ∧ yCM T s p B t v e (μ.1 (Nat.add t 5) (B'.1 0 3 * 4 + v) + 1) 0 m1 B' z as (μ.1 (Nat.add t 5) (B'.1 0 3 * 4 + v)) := by
  obtain ⟨h0, h2, h3, h4, h1, -⟩ := yCL_I hs h
  obtain ⟨⟨g1, -⟩, g2⟩ := h1 (Or.inr rfl)
  obtain ⟨e, as, w1, w2, w3, w4⟩ := g2 v hv.1 hv.2
  have g1' := g1
  unfold yCu at g1
  have hb := h0.1
  have hS := h.2.2.2.1.2.2.2.1.1 (B'.1 0 3) v (by omega) (by omega) hv.1 hv.2
  have ht := h.2.2.2.1.2.1.1.1
  have hN := h.2.2.2.1.2.1.2.2.2.2.2
  unfold ynn at hS
  rw [if_pos rfl, w1, show ([e] :: as).flatten = e :: as.flatten by simp] at hS
  have hne : ∀ j : Nat, j ≠ t + 12 → m1.1 j = μ.1 j := fun j hj => by rw [e1, zu_ne hj]
  have hlen := hS.2.1
  rw [List.length_cons] at hlen
  refine ⟨e, as, (yRow_c.mp hS.2.2).1, ⟨hS.1, by omega⟩, ⟨h.1, h.2.1, h.2.2.1, ?_, ?_⟩, ⟨w1, w2, w3, w4⟩, ⟨by simp, fun j hj => by simp at hj⟩, ⟨by rw [e1, zu_at], by omega, by omega⟩, ?_, by simp⟩
  · exact yRX_o h.2.2.2.1 (fun j a _ _ => hne j a) (fun k hk => by rw [e1, zu_nk hk]) (by rw [e1]; rfl)
  · rw [hne t (by omega), hne 50 (by omega)]; exact h.2.2.2.2
  · exact ⟨hS.1, hS.2.1, yRow_e hS.2.2 (hne _ (show t + 11 ≠ t + 12 by omega))⟩
theorem ytk_f {as : List (List Int)} {n : Nat} (h : n < as.length) : as.flatten = (as.take n).flatten ++ (as.getD n [] ++ (as.drop (n + 1)).flatten) := by
  have e := List.take_append_drop n as
  rw [List.drop_eq_getElem_cons h] at e
  conv => lhs; rw [← e]
  rw [List.flatten_append, List.flatten_cons, List.getD_eq_getElem?_getD, List.getElem?_eq_getElem h]
  rfl
theorem yCM_a {T : yT} {s : yS} {p v e f j : Int} {B : yB} {t : Nat} {μ : zM} {B' : yB} {z : Bool} {as : List (List Int)} {σ : Int} (h : yCM T s p B t v e f j μ B' z as σ) (hj : j < as.length) : (yTo μ (Nat.add t 11) f (μ.1 t ((14 : Nat) : Int)) (as.getD j.toNat []) ∧ yone (yar B') (as.getD j.toNat [])) ∧ (0 ≤ f ∧ f + ((as.getD j.toNat []).length : Int) ≤ 300) := by
  obtain ⟨c, ⟨w1, w2, w3, w4⟩, a, ⟨j1, j2, j3⟩, r, hf⟩ := h
  have hjn : j.toNat < as.length := by omega
  have hN := c.2.2.2.1.2.1.2.2.2.2.2
  rw [ytk_f hjn] at r
  have r2 := (yRow_app.mp (yRow_app.mp (yRow_c.mp r.2.2).2).2).1
  have rl := r.2.1
  rw [List.length_cons, List.length_append, List.length_append] at rl
  have r0 := r.1
  have e14 := c.2.2.2.2.1
  have e2 := c.2.2.1.1.2.2.1
  refine ⟨⟨⟨by omega, by omega, ?_⟩, ?_⟩, by omega, by omega⟩
  · rw [hf]
    exact r2
  · rw [List.getD_eq_getElem?_getD, List.getElem?_eq_getElem hjn]
    exact (w4 _ (List.getElem_mem hjn)).1
theorem yCM_n {T : yT} {s : yS} {p v e f j g x : Int} {B : yB} {t : Nat} {μ m1 : zM} {B' : yB} {z : Bool} {as : List (List Int)} {σ : Int} (h : yCM T s p B t v e f j μ B' z as σ) (hj : j < as.length) (h4 : as.length ≤ 4) (hg : g = f + ((as.getD j.toNat []).length : Int)) (hx : x = g - f) (e1 : m1 = yarM μ (Nat.add t 12) f x) : yCM T s p B t v e g (j + 1) m1 B' z as σ := by
  have ha := yCM_a h hj
  obtain ⟨c, w, a, ⟨j1, j2, j3⟩, r, hf⟩ := h
  have hjn : j.toNat < as.length := by omega
  have ht := c.2.2.2.1.2.1.1.1
  have ejn : (j + 1).toNat = j.toNat + 1 := by omega
  have etk : as.take (j + 1).toNat = as.take j.toNat ++ [as.getD j.toNat []] := by
    rw [ejn, List.take_add_one, List.getD_eq_getElem?_getD, List.getElem?_eq_getElem hjn]
    rfl
  unfold yarM at e1
  rw [j1] at e1
  have hne : ∀ i : Nat, i ≠ t + 12 → i ≠ t + 15 → i ≠ t + 16 → m1.1 i = μ.1 i := fun i a b c => by rw [e1, zu_ne a, zu_ne (show i ≠ t + 12 + 4 from c), zu_ne (show i ≠ t + 12 + 3 from b)]
  have n3 : ∀ k : Int, m1.1 (Nat.add (Nat.add t 12) 3) k = if k = j then f else μ.1 (Nat.add (Nat.add t 12) 3) k := fun k => by
    rw [e1, zu_ne (show t + 12 + 3 ≠ t + 12 by omega), zu_ne (show t + 12 + 3 ≠ t + 12 + 4 by omega)]
    by_cases q : k = j
    · rw [if_pos q, q, zu_at]
    · rw [if_neg q, zu_nk q]
  have n4 : ∀ k : Int, m1.1 (Nat.add (Nat.add t 12) 4) k = if k = j then x else μ.1 (Nat.add (Nat.add t 12) 4) k := fun k => by
    rw [e1, zu_ne (show t + 12 + 4 ≠ t + 12 by omega)]
    by_cases q : k = j
    · rw [if_pos q, q, zu_at]
    · rw [if_neg q, zu_nk q, zu_ne (show t + 12 + 4 ≠ t + 12 + 3 by omega)]
  have n11 : m1.1 (Nat.add t 11) = μ.1 (Nat.add t 11) := hne _ (show t + 11 ≠ t + 12 by omega) (show t + 11 ≠ t + 15 by omega) (show t + 11 ≠ t + 16 by omega)
  refine ⟨⟨c.1, c.2.1, c.2.2.1, ?_, ?_⟩, w, ⟨?_, fun i hi => ?_⟩, ⟨?_, by omega, by omega⟩, ⟨r.1, r.2.1, yRow_e r.2.2 n11⟩, ?_⟩
  · refine yRX_o c.2.2.2.1 hne (fun k hk => ?_) (by rw [e1]; rfl)
    rw [e1, zu_nk hk, zu_ne (show t + 12 ≠ t + 12 + 4 by omega), zu_ne (show t + 12 ≠ t + 12 + 3 by omega)]
  · rw [hne t (by omega) (by omega) (by omega), hne 50 (by omega) (by omega) (by omega)]; exact c.2.2.2.2
  · rw [List.length_take]; omega
  · rw [List.length_take] at hi
    rw [etk, n3, n4]
    by_cases q : i = j.toNat
    · have e : as.take j.toNat ++ [as.getD j.toNat []] = as.take j.toNat ++ [as.getD j.toNat []] := rfl
      rw [if_pos (by omega), if_pos (by omega), List.getD_eq_getElem?_getD, List.getElem?_append_right (by rw [List.length_take]; omega), List.length_take, show i - min j.toNat as.length = 0 by omega]
      refine ⟨by show x = _; simp only [List.getElem?_cons_zero, Option.getD_some]; omega, ?_⟩
      show yTo m1 (Nat.add t 11) f 300 (as.getD j.toNat [])
      exact ⟨ha.1.1.1, by omega, yRow_e ha.1.1.2.2 n11⟩
    · rw [if_neg (by omega), if_neg (by omega), List.getD_eq_getElem?_getD, List.getElem?_append_left (by rw [List.length_take]; omega), ← List.getD_eq_getElem?_getD]
      have := a.2 i (by rw [List.length_take]; omega)
      exact ⟨this.1, this.2.1, this.2.2.1, yRow_e this.2.2.2 n11⟩
  · rw [e1, zu_at]
  · rw [etk, List.flatten_append, List.length_append, hg, hf]
    simp only [List.flatten_cons, List.flatten_nil, List.append_nil]
    omega
/-- within inheritAll -/
def yIA (T : yT) (s : yS) (p : Int) (B : yB) (t : Nat) (v d e : Int) (μ : zM) (B' : yB) (z : Bool) (as : List (List Int)) : Prop := yR T s (15, p, 0, [], B') ∧ (B'.1 0 7 = v ∧ B'.1 0 8 = d ∧ v < B'.1 4 (B'.1 0 3)) ∧ yEq B B' ∧ yRX T μ p B' (yLf B' z) t (Nat.add t 11) ∧ (B'.2 1 (B'.1 0 3) v = [e] :: as ∧ (0 ≤ e ∧ e < B'.1 0 0 ∧ e ≠ B'.1 0 3) ∧ (as.length : Int) = B'.1 3 e ∧ yGa B' as) ∧ (μ.1 t ((14 : Nat) : Int) = B.1 0 2 ∧ μ.1 50 ((10 : Nat) : Int) = 0) ∧ yAs μ (Nat.add t 12) (Nat.add t 11) as
theorem yIA_I {T : yT} {s : yS} {p : Int} {B : yB} {t : Nat} {v d e : Int} {μ : zM} {B' : yB} {z : Bool} {as : List (List Int)} (hs : yInv s) (h : yIA T s p B t v d e μ B' z as) : yI 15 0 [] B' := by
  have := yInv_R hs h.1
  rcases this with q | q
  · exact absurd (show (15 : Nat) = 20 from q) (by decide)
  · exact q
theorem yIA_B {T : yT} {s : yS} {p : Int} {B : yB} {t : Nat} {v d e : Int} {μ : zM} {B' : yB} {z : Bool} {as : List (List Int)} (hs : yInv s) (h : yIA T s p B t v d e μ B' z as) : (0 ≤ B'.1 0 3 ∧ B'.1 0 3 ≤ 20 ∧ B'.1 0 3 < B'.1 0 0 ∧ B'.1 0 0 ≤ 21) ∧ (0 ≤ B'.1 2 e ∧ B'.1 2 e ≤ 80) ∧ μ.1 t ((12 : Nat) : Int) = B'.1 0 0 ∧ (μ.1 (Nat.add t 2) e = B'.1 2 e) ∧ (t = 14 ∨ t = 32) := by
  obtain ⟨h0, h2, h3, h4, h1, -⟩ := yIA_I hs h
  obtain ⟨⟨g1, -⟩, -⟩ := h1 (Or.inr rfl)
  unfold yCu at g1
  have hb := h0.1
  have he := h.2.2.2.2.1.2.1
  have hz := h0.2 e he.1 he.2.1
  have hR := h.2.2.2.1.2.2.1
  exact ⟨by omega, by omega, hR.1.1, (hR.2.1 e he.1 he.2.1).1.2.1, h.2.2.2.1.2.1.1.1⟩
/-- what a class above the super has -/
theorem yIA_l {T : yT} {s : yS} {p : Int} {B : yB} {t : Nat} {v d e : Int} {μ : zM} {B' : yB} {z : Bool} {as : List (List Int)} (hs : yInv s) (h : yIA T s p B t v d e μ B' z as) (hd : 0 ≤ d ∧ d < B'.1 0 0) : (μ.1 (Nat.add t 14) (e * 21 + d) ≤ 0 → B'.2 2 e d = []) ∧ (0 < μ.1 (Nat.add t 14) (e * 21 + d) → ∃ l, B'.2 2 e d = [l]) := by
  have hb := yIA_B hs h
  obtain ⟨h0, h2, h3, h4, h1, -⟩ := yIA_I hs h
  have he := h.2.2.2.2.1.2.1
  have r := ((h.2.2.2.1.2.2.2.2.1 rfl).1 e d he.1 (by omega) hd.1 (by omega)).1
  have el : yLf B' z e d = B'.2 2 e d := by unfold yLf; rw [if_neg (fun q => he.2.2 q.2.1)]
  rw [el] at r
  rw [r]
  rcases h2 e d with w | ⟨l, w1, w2, -⟩
  · rw [w]; exact ⟨fun _ => rfl, fun q => by simp at q⟩
  · rw [w1]
    refine ⟨fun q => ?_, fun _ => ⟨l, rfl⟩⟩
    exfalso
    have := List.length_pos_iff.mpr w2
    simp at q
    exact w2 (by simpa using q)
theorem yIA_s {T : yT} {s : yS} {p : Int} {B : yB} {t : Nat} {v d e : Int} {μ : zM} {B' : yB} {z : Bool} {as : List (List Int)} (h : yIA T s p B t v d e μ B' z as) (hd : d < B'.1 0 0) (hl : B'.2 2 e d = []) : yIA T s p B t v (d + 1) e μ (yN B' 0 8 (B'.1 0 8 + 1)) z as := by
  obtain ⟨h1, ⟨h2, h3, h4⟩, h5, h6, ⟨w1, w2, w3, w4⟩, h8, h9⟩ := h
  have e8 : yEq B' (yN B' 0 8 (B'.1 0 8 + 1)) := yEq_N (by decide)
  refine ⟨yR_s h1 (ym15_s (by rw [h2]; exact h4) (by rw [h3]; exact hd) (by rw [h2]; exact w1) (by rw [h3]; exact hl)), ⟨?_, ?_, ?_⟩, yEq_t h5 e8, ?_, ⟨?_, ?_, ?_, ?_⟩, h8, h9⟩
  · rw [yN_ne (by decide)]; exact h2
  · rw [yN_at, h3]
  · rw [e8.1.2.2.2, e8.2.1 4 (by decide)]; exact h4
  · rw [yLf_N (by decide)]; exact yRX_B h6 e8
  · rw [e8.1.2.2.2]; exact w1
  · rw [e8.1.1, e8.1.2.2.2]; exact w2
  · rw [e8.2.1 3 (by decide)]; exact w3
  · exact yGa_e e8.1.1 e8.1.2.2.2 (e8.2.1 2 (by decide)) (e8.2.1 3 (by decide)) w4
theorem yIA_f {T : yT} {s : yS} {p : Int} {B : yB} {t : Nat} {v d e i x f : Int} {μ μ' : zM} {B' : yB} {z : Bool} {as : List (List Int)} {l : List Int} (hs : yInv s) (h : yIA T s p B t v d e μ B' z as) (hd : 0 ≤ d ∧ d < B'.1 0 0) (hl : B'.2 2 e d = [l]) (hi : i = B'.1 0 3 * 21 + d) (hf : f = B'.1 2 e)
    (hp : (x = 0 ∧ (200 < (ysub f as l).length ∨ ((yLf B' z (B'.1 0 3) d).flatten ≠ [] ∧ (yLf B' z (B'.1 0 3) d).flatten ≠ ysub f as l)) ∧ yKp μ μ' (Nat.add t 12)) ∨ (x = 1 ∧ (ysub f as l).length ≤ 200 ∧ (((yLf B' z (B'.1 0 3) d).flatten ≠ [] ∧ (yLf B' z (B'.1 0 3) d).flatten = ysub f as l ∧ yKp μ μ' (Nat.add t 12)) ∨ ((yLf B' z (B'.1 0 3) d).flatten = [] ∧ yPu μ μ' (Nat.add t 12) i (ysub f as l))))) :
    (x = 0 ∧ yR T s (yflt T B' p 8) ∧ yRT T μ' p) ∨ (x = 1 ∧ ∃ B'' z', yIA T s p B t v (d + 1) e μ' B'' z' as) := by
  have hI := yIA_I hs h
  have hb := yIA_B hs h
  have fr : yFr μ μ' (Nat.add t 12) := by
    rcases hp with ⟨-, -, c, hO, -⟩ | ⟨-, -, ⟨-, -, c, hO, -⟩ | ⟨-, c, hO, -⟩⟩ <;> exact hO.1
  obtain ⟨h1, ⟨h2, h3, h4⟩, h5, h6, ⟨w1, w2, w3, w4⟩, h8, h9⟩ := h
  rw [hf] at hp
  have ht := hb.2.2.2.2
  rcases yIA_post h6 hI w2 hd h3 (by rw [h2]; exact h4) (by rw [h2]; exact w1) w3 w4 hl hi hp with ⟨x0, s1, r1⟩ | ⟨x1, B'', z', s1, e8, ⟨k7, k8⟩, r1⟩
  · exact Or.inl ⟨x0, yR_s h1 s1, r1.1⟩
  · refine Or.inr ⟨x1, B'', z', yR_s h1 s1, ⟨by rw [k7]; exact h2, k8, ?_⟩, yEq_t h5 e8, r1, ⟨?_, ?_, ?_, ?_⟩, ?_, yAs_fr h9 fr (show t + 12 = 26 ∨ t + 12 = 44 by omega) (show t + 11 = 25 ∨ t + 11 = 43 by omega)⟩
    · rw [e8.1.2.2.2, e8.2.1 4 (by decide)]; exact h4
    · rw [e8.1.2.2.2, e8.2.2.1]; exact w1
    · rw [e8.1.1, e8.1.2.2.2]; exact w2
    · rw [e8.2.1 3 (by decide)]; exact w3
    · exact yGa_e e8.1.1 e8.1.2.2.2 (e8.2.1 2 (by decide)) (e8.2.1 3 (by decide)) w4
    · rw [fr.1 t (Or.inl (show t < 109 ∧ t ≠ t + 12 ∧ t ≠ t + 12 + 1 ∧ t ≠ t + 12 + 2 ∧ t ≠ 31 ∧ t ≠ 49 by omega)), fr.1 50 (Or.inl (show 50 < 109 ∧ 50 ≠ t + 12 ∧ 50 ≠ t + 12 + 1 ∧ 50 ≠ t + 12 + 2 ∧ 50 ≠ 31 ∧ 50 ≠ 49 by omega))]; exact h8
/-- from closeClass to inheritAll and back -/
theorem yIA_0 {T : yT} {s : yS} {p v e f j : Int} {B : yB} {t : Nat} {μ : zM} {B' : yB} {z : Bool} {as : List (List Int)} {σ : Int} (h : yCM T s p B t v e f j μ B' z as σ) (hv : v < B'.1 4 (B'.1 0 3)) (hj : (as.length : Int) ≤ j) : yIA T s p B t v 0 e μ B' z as := by
  obtain ⟨c, w, a, -, -, -⟩ := h
  refine ⟨c.1, ⟨c.2.1.1, c.2.1.2, hv⟩, c.2.2.1, c.2.2.2.1, w, c.2.2.2.2, ?_⟩
  rw [List.take_of_length_le (by omega)] at a
  exact a
theorem yIA_1 {T : yT} {s : yS} {p v d e : Int} {B : yB} {t : Nat} {μ : zM} {B' : yB} {z : Bool} {as : List (List Int)} (h : yIA T s p B t v d e μ B' z as) (hd : B'.1 0 0 ≤ d) : yCL T s p B t (v + 1) μ (yN (yN B' 0 7 (B'.1 0 7 + 1)) 0 8 0) z := by
  obtain ⟨h1, ⟨h2, h3, h4⟩, h5, h6, -, h8, -⟩ := h
  have e8 : yEq B' (yN (yN B' 0 7 (B'.1 0 7 + 1)) 0 8 0) := yEq_t (yEq_N (by decide)) (yEq_N (by decide))
  refine ⟨yR_s h1 (ym15_d (by rw [h2]; exact h4) (by rw [h3]; exact hd)), ⟨by rw [yN_c (by decide), h2], yN_at⟩, yEq_t h5 e8, ?_, h8⟩
  rw [yLf_N (by decide), yLf_N (by decide)]
  exact yRX_B h6 e8
theorem yRX_ar {T : yT} {μ : zM} {p : Int} {B : yB} {L : Int → Int → List (List Int)} {t q : Nat} (h : yRX T μ p B L t q) (x : Int) : (if 0 ≤ x ∧ x < μ.1 t ((12 : Nat) : Int) then μ.1 (Nat.add t 3) x else if x = 201 ∨ x = 202 then 1 else 0) = yar B x := by
  obtain ⟨⟨g1, g2, g3, g4⟩, g5, g6⟩ := h.2.2.1
  unfold yar
  rw [g1]
  by_cases q : 0 ≤ x ∧ x < B.1 0 0
  · rw [if_pos q, if_pos q]; exact (g5 x q.1 q.2).1.2.2.1
  · rw [if_neg q, if_neg q]
