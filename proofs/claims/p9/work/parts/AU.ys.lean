/-! ### the row of what is ABOVE is written -/
def yCo (μ : zM) (t c : Nat) : Prop := ((c : Int) = μ.1 t ((5 : Nat) : Int) ∧ (c = 31 ∨ c = 49 ∨ (109 ≤ c ∧ c < 1000000))) ∧ (t = 26 ∨ t = 44)
def yAp (μ μ' : zM) (t c : Nat) (l : List Int) : Prop := (∀ j : Nat, j ≠ t → j ≠ c → μ'.1 j = μ.1 j) ∧ (∀ k : Int, k ≠ ((6 : Nat) : Int) → μ'.1 t k = μ.1 t k) ∧ μ'.1 t ((6 : Nat) : Int) = μ.1 t ((6 : Nat) : Int) + l.length ∧ (∀ x : Int, x < μ.1 t ((6 : Nat) : Int) → μ'.1 c x = μ.1 c x) ∧ yRow μ' c (μ.1 t ((6 : Nat) : Int)) l ∧ μ'.2 = μ.2
theorem yAp_r (μ : zM) (t c : Nat) : yAp μ μ t c [] := ⟨fun _ _ _ => rfl, fun _ _ => rfl, by simp, fun _ _ => rfl, yRow_nil, rfl⟩
theorem yAp_t {μ m1 m2 : zM} {t c : Nat} {l l' : List Int} (h1 : yAp μ m1 t c l) (h2 : yAp m1 m2 t c l') : yAp μ m2 t c (l ++ l') := by
  obtain ⟨a1, a2, a3, a4, a5, a6⟩ := h1
  obtain ⟨b1, b2, b3, b4, b5, b6⟩ := h2
  refine ⟨fun j x y => (b1 j x y).trans (a1 j x y), fun k x => (b2 k x).trans (a2 k x), ?_, fun x hx => ?_, ?_, b6.trans a6⟩
  · rw [b3, a3, List.length_append]; omega
  · rw [b4 x (by rw [a3]; omega)]; exact a4 x hx
  · refine yRow_app.mpr ⟨yRow_fr a5 (fun j hj => b4 _ (by rw [a3]; omega)), ?_⟩
    rw [a3] at b5
    exact b5
theorem yAp_1 {μ m1 m2 : zM} {t c : Nat} {a x y : Int} (hc : yCo μ t c) (hx : x = μ.1 t ((6 : Nat) : Int)) (e1 : m1 = zu μ c x a) (hy : y = m1.1 t ((6 : Nat) : Int)) (e2 : m2 = zu m1 t ((6 : Nat) : Int) (y + 1)) : yAp μ m2 t c [a] := by
  have hne : c ≠ t := by have := hc.1.2; have := hc.2; omega
  have e3 : m1.1 t = μ.1 t := by rw [e1, zu_ne (Ne.symm hne)]
  refine ⟨fun j a b => by rw [e2, zu_ne a, e1, zu_ne b], fun k hk => by rw [e2, zu_nk hk, e3], ?_, fun z hz => ?_, yRow_one ?_, by rw [e2, e1]; rfl⟩
  · rw [e2, zu_at, hy, e3]; rfl
  · rw [e2, zu_ne hne, e1, zu_nk (by omega)]
  · rw [e2, zu_ne hne, e1, hx, zu_at]
theorem yAp_co {μ m1 : zM} {t c : Nat} {l : List Int} (h : yAp μ m1 t c l) (hc : yCo μ t c) : yCo m1 t c := ⟨⟨by rw [h.2.1 _ (by decide)]; exact hc.1.1, hc.1.2⟩, hc.2⟩
theorem ytk {l : List Int} {n : Nat} (h : n < l.length) : l.take (n + 1) = l.take n ++ [l.getD n 0] := by
  rw [List.take_add_one, List.getD_eq_getElem?_getD, List.getElem?_eq_getElem h]
  rfl
theorem ytk_i {l : List Int} {v s : Int} (h0 : s ≤ v) (h : v < s + l.length) : l.take (v + 1 - s).toNat = l.take (v - s).toNat ++ [l.getD (v - s).toNat 0] := by
  rw [show (v + 1 - s).toNat = (v - s).toNat + 1 by omega]
  exact ytk (by omega)
theorem yRow_v {μ : zM} {q : Nat} {st v : Int} {l : List Int} (h : yRow μ q st l) (h0 : st ≤ v) (h1 : v < st + l.length) : μ.1 q v = l.getD (v - st).toNat 0 := by
  have := h (v - st).toNat (by omega)
  rw [← this, show st + ((v - st).toNat : Int) = v by omega]
theorem yAp_n {μ m0 m1 : zM} {t c q : Nat} {l : List Int} {s v x n : Int} (h : yAp μ m0 t c (l.take (v - s).toNat)) (hl : yTo μ q s n l) (h0 : s ≤ v) (h1 : v < s + l.length) (hq : q ≠ t ∧ q ≠ c) (hx : x = m0.1 q v) (h2 : yAp m0 m1 t c [x]) : yAp μ m1 t c (l.take (v + 1 - s).toNat) := by
  rw [ytk_i h0 h1, ← yRow_v hl.2.2 h0 h1]
  refine yAp_t h ?_
  rw [hx, h.1 q hq.1 hq.2] at h2
  exact h2
/-- ARGS that stand ready -/
def yAs (μ : zM) (t q : Nat) (as : List (List Int)) : Prop := as.length ≤ 4 ∧ ∀ j : Nat, j < as.length → μ.1 (Nat.add t 4) j = ((as.getD j []).length : Int) ∧ yTo μ q (μ.1 (Nat.add t 3) j) 300 (as.getD j [])
/-- heads of PARAMETERS are of those that have an ARG -/
def yVl (f : Int) (as : List (List Int)) (l : List Int) : Prop := ∀ h ∈ l, 32 ≤ h → h < 112 → 0 ≤ h - 32 - f ∧ h - 32 - f < as.length
def ys1 (f : Int) (as : List (List Int)) (h : Int) : List Int := if 32 ≤ h ∧ h < 112 then as.getD (h - 32 - f).toNat [] else [h]
theorem ysub_n (f : Int) (as : List (List Int)) (l : List Int) (h : Int) : ysub f as (l ++ [h]) = ysub f as l ++ ys1 f as h := by simp [ysub, ys1]
theorem ysub_i {f : Int} {as : List (List Int)} {l : List Int} {v s : Int} (h0 : s ≤ v) (h : v < s + l.length) : ysub f as (l.take (v + 1 - s).toNat) = ysub f as (l.take (v - s).toNat) ++ ys1 f as (l.getD (v - s).toNat 0) := by rw [ytk_i h0 h, ysub_n]
theorem ysub_B {f : Int} {as : List (List Int)} (h : ∀ j : Nat, j < as.length → (as.getD j []).length ≤ 300) : ∀ l : List Int, (ysub f as l).length ≤ 300 * l.length
  | [] => by simp [ysub]
  | x :: r => by
    have h1 := ysub_B (f := f) h r
    have h2 : (if 32 ≤ x ∧ x < 112 then as.getD (x - 32 - f).toNat [] else [x]).length ≤ 300 := by
      split
      · by_cases q : (x - 32 - f).toNat < as.length
        · exact h _ q
        · rw [List.getD_eq_getElem?_getD, List.getElem?_eq_none (by omega)]; simp
      · simp
    show ((if 32 ≤ x ∧ x < 112 then as.getD (x - 32 - f).toNat [] else [x]) ++ ysub f as r).length ≤ _
    rw [List.length_append, List.length_cons]
    omega
theorem ytk_m {l : List Int} {v s : Int} (h0 : s ≤ v) (h : v < s + l.length) : l.getD (v - s).toNat 0 ∈ l := by
  rw [List.getD_eq_getElem?_getD, List.getElem?_eq_getElem (show (v - s).toNat < l.length by omega)]
  exact List.getElem_mem _
theorem yAs_B {μ : zM} {t q : Nat} {as : List (List Int)} (h : yAs μ t q as) : ∀ j : Nat, j < as.length → (as.getD j []).length ≤ 300 := fun j hj => by
  have h0 := (h.2 j hj).2
  have h1 := h0.1
  have h2 := h0.2.1
  omega
theorem yAs_l {μ : zM} {t q : Nat} {as : List (List Int)} {j : Int} (h : yAs μ t q as) (h0 : 0 ≤ j) (h1 : j < as.length) : μ.1 (Nat.add t 4) j = ((as.getD j.toNat []).length : Int) ∧ yTo μ q (μ.1 (Nat.add t 3) j) 300 (as.getD j.toNat []) := by
  have := h.2 j.toNat (by omega)
  rw [show ((j.toNat : Nat) : Int) = j by omega] at this
  exact this
theorem ytk_all {l : List Int} {v s : Int} (h : s + l.length ≤ v) : l.take (v - s).toNat = l := List.take_of_length_le (by omega)
def yarM (μ : zM) (t : Nat) (a b : Int) : zM := zu (zu (zu μ (Nat.add t 3) (μ.1 t ((4 : Nat) : Int)) a) (Nat.add t 4) (μ.1 t ((4 : Nat) : Int)) b) t ((4 : Nat) : Int) (μ.1 t ((4 : Nat) : Int) + 1)
