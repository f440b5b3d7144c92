/-! ### the class's picture of what it reads -/
def yRow (μ : zM) (q : Nat) (st : Int) (l : List Int) : Prop := ∀ j : Nat, j < l.length → μ.1 q (st + j) = l.getD j 0
theorem yRow_fr {μ μ' : zM} {q : Nat} {st : Int} {l : List Int} (h : yRow μ q st l) (e : ∀ j : Nat, j < l.length → μ'.1 q (st + j) = μ.1 q (st + j)) : yRow μ' q st l := fun j hj => (e j hj).trans (h j hj)
theorem yRow_e {μ μ' : zM} {q : Nat} {st : Int} {l : List Int} (h : yRow μ q st l) (e : μ'.1 q = μ.1 q) : yRow μ' q st l := fun j hj => by rw [e]; exact h j hj
theorem yRow_app {μ : zM} {q : Nat} {st : Int} {l m : List Int} : yRow μ q st (l ++ m) ↔ yRow μ q st l ∧ yRow μ q (st + l.length) m := by
  constructor
  · intro h
    refine ⟨fun j hj => ?_, fun j hj => ?_⟩
    · have := h j (by rw [List.length_append]; omega)
      rw [this, List.getD_eq_getElem?_getD, List.getD_eq_getElem?_getD, List.getElem?_append_left hj]
    · have := h (l.length + j) (by rw [List.length_append]; omega)
      rw [show st + (l.length : Int) + (j : Int) = st + ((l.length + j : Nat) : Int) by omega, this, List.getD_eq_getElem?_getD, List.getD_eq_getElem?_getD, List.getElem?_append_right (by omega), show l.length + j - l.length = j by omega]
  · intro h j hj
    rw [List.length_append] at hj
    by_cases q : j < l.length
    · rw [List.getD_eq_getElem?_getD, List.getElem?_append_left q, ← List.getD_eq_getElem?_getD]; exact h.1 j q
    · rw [List.getD_eq_getElem?_getD, List.getElem?_append_right (by omega), ← List.getD_eq_getElem?_getD]
      have := h.2 (j - l.length) (by omega)
      rw [← this, show st + (l.length : Int) + ((j - l.length : Nat) : Int) = st + (j : Int) by omega]
theorem yRow_nil {μ : zM} {q : Nat} {st : Int} : yRow μ q st [] := fun j hj => by exact absurd hj (by simp)
theorem yRow_one {μ : zM} {q : Nat} {st h : Int} (e : μ.1 q st = h) : yRow μ q st [h] := fun j hj => by
  have : j = 0 := by simpa using hj
  subst this
  simpa using e
/-- the numbers of a table -/
def yRB (μ : zM) (t : Nat) (B : yB) : Prop := (μ.1 t ((12 : Nat) : Int) = B.1 0 0 ∧ μ.1 t ((13 : Nat) : Int) = B.1 0 1 ∧ (1 ≤ B.1 0 0 ∧ B.1 0 0 ≤ 21) ∧ (0 ≤ B.1 0 1 ∧ B.1 0 1 ≤ 4 * (B.1 0 0 - 1))) ∧
  (∀ k : Int, 0 ≤ k → k < B.1 0 0 → (μ.1 (Nat.add 3000000 (Nat.add t 1)) k = B.1 1 k ∧ μ.1 (Nat.add t 2) k = B.1 2 k ∧ μ.1 (Nat.add t 3) k = B.1 3 k ∧ μ.1 (Nat.add t 4) k = B.1 4 k) ∧ (0 ≤ B.1 2 k ∧ 0 ≤ B.1 3 k ∧ B.1 3 k ≤ 4 ∧ B.1 2 k + B.1 3 k ≤ B.1 0 1) ∧ 0 ≤ B.1 4 k ∧ B.1 4 k ≤ 4) ∧
  ∀ p : Int, 0 ≤ p → p < B.1 0 1 → (μ.1 (Nat.add 3000000 (Nat.add t 6)) p = B.1 5 p ∧ μ.1 (Nat.add t 7) p = B.1 7 p ∧ μ.1 (Nat.add t 8) p = B.1 6 p) ∧ 0 ≤ B.1 6 p ∧ B.1 6 p ≤ 2
/-- a TYPE that was told -/
def yTo (μ : zM) (q : Nat) (st n : Int) (l : List Int) : Prop := 0 ≤ st ∧ st + l.length ≤ n ∧ yRow μ q st l
def yRS (μ : zM) (t : Nat) (n : Int) (B : yB) : Prop := (∀ k i : Int, 0 ≤ k → k < B.1 0 0 → 0 ≤ i → i < B.1 4 k → yTo μ (Nat.add t 11) (μ.1 (Nat.add t 5) (k * 4 + i)) n (B.2 1 k i).flatten) ∧
  ∀ p i : Int, 0 ≤ p → p < B.1 0 1 → 0 ≤ i → i < B.1 6 p → μ.1 (Nat.add t 10) (p * 2 + i) = ((B.2 0 p i).flatten.length : Int) ∧ yTo μ (Nat.add t 11) (μ.1 (Nat.add t 9) (p * 2 + i)) n (B.2 0 p i).flatten
/-- what is ABOVE classes -/
def yRO (μ : zM) (t : Nat) (L : Int → Int → List (List Int)) : Prop := ∀ k d : Int, 0 ≤ k → k < 21 → 0 ≤ d → d < 21 → μ.1 (Nat.add t 14) (k * 21 + d) = ((L k d).flatten.length : Int) ∧ (L k d ≠ [] → yTo μ (μ.1 (Nat.add t 12) ((5 : Nat) : Int)).toNat (μ.1 (Nat.add t 13) (k * 21 + d)) (μ.1 (Nat.add t 12) ((6 : Nat) : Int)) (L k d).flatten)
def yCC (μ : zM) (t : Nat) : Prop := (μ.1 (Nat.add t 12) ((5 : Nat) : Int)).toNat = 31 ∨ (μ.1 (Nat.add t 12) ((5 : Nat) : Int)).toNat = 49 ∨ (109 ≤ (μ.1 (Nat.add t 12) ((5 : Nat) : Int)).toNat ∧ (μ.1 (Nat.add t 12) ((5 : Nat) : Int)).toNat < 1000000)
def ynn (t q : Nat) (B : yB) : Int := if q = Nat.add t 11 then B.1 0 2 else 300
/-- how many pairs have a TYPE -/
def yct (L : Int → Int → List (List Int)) : Int := ((List.range 441).countP (fun i => !(L ((i / 21 : Nat) : Int) ((i % 21 : Nat) : Int)).isEmpty) : Int)
theorem yct_n (p p' : Nat → Bool) (i : Nat) (hp : p i = false) (hp' : p' i = true) (h : ∀ j, j ≠ i → p' j = p j) : ∀ n : Nat, (List.range n).countP p' = (List.range n).countP p + if i < n then 1 else 0
  | 0 => by simp
  | n + 1 => by
    rw [List.range_succ, List.countP_append, List.countP_append, yct_n p p' i hp hp' h n]
    by_cases q : n = i
    · subst q
      simp [hp, hp']
    · have e : [n].countP p' = [n].countP p := by simp [List.countP_cons, h n q]
      rw [e]
      by_cases q2 : i < n
      · rw [if_pos q2, if_pos (show i < n + 1 by omega)]; omega
      · rw [if_neg q2, if_neg (show ¬ i < n + 1 by omega)]; omega
theorem yct_B (L : Int → Int → List (List Int)) : 0 ≤ yct L ∧ yct L ≤ 441 := by
  unfold yct
  have := List.countP_le_length (p := fun i => !(L ((i / 21 : Nat) : Int) ((i % 21 : Nat) : Int)).isEmpty) (l := List.range 441)
  rw [List.length_range] at this
  omega
theorem yct_u {L L' : Int → Int → List (List Int)} {k d : Int} (hk : 0 ≤ k ∧ k < 21) (hd : 0 ≤ d ∧ d < 21) (h0 : L k d = []) (h1 : L' k d ≠ []) (h : ∀ a b : Int, ¬ (a = k ∧ b = d) → L' a b = L a b) : yct L' = yct L + 1 := by
  obtain ⟨k, rfl⟩ : ∃ k' : Nat, k = k' := ⟨k.toNat, by omega⟩
  obtain ⟨d, rfl⟩ : ∃ d' : Nat, d = d' := ⟨d.toNat, by omega⟩
  have e1 : (k * 21 + d) / 21 = k := by omega
  have e2 : (k * 21 + d) % 21 = d := by omega
  unfold yct
  rw [yct_n (fun i => !(L ((i / 21 : Nat) : Int) ((i % 21 : Nat) : Int)).isEmpty) (fun i => !(L' ((i / 21 : Nat) : Int) ((i % 21 : Nat) : Int)).isEmpty) (k * 21 + d) (by rw [e1, e2, h0]; rfl) (by rw [e1, e2]; simp [h1]) (fun j hj => by rw [h _ _ (by omega)]) 441, if_pos (by omega)]
  omega
def yRX (T : yT) (μ : zM) (p : Int) (B : yB) (L : Int → Int → List (List Int)) (t q : Nat) : Prop := yRT T μ p ∧ (((t = 14 ∨ t = 32) ∧ (q = Nat.add t 11 ∨ q = 51)) ∧ μ.1 50 ((2 : Nat) : Int) = t ∧ μ.1 50 ((3 : Nat) : Int) = q ∧ μ.1 50 ((4 : Nat) : Int) = B.1 0 2 ∧ μ.1 50 ((5 : Nat) : Int) = B.1 0 3 ∧ (0 ≤ B.1 0 2 ∧ B.1 0 2 ≤ 300)) ∧ yRB μ t B ∧ yRS μ t (ynn t q B) B ∧ (q = Nat.add t 11 → yRO μ t L ∧ (0 ≤ μ.1 (Nat.add t 12) ((6 : Nat) : Int) ∧ μ.1 (Nat.add t 12) ((6 : Nat) : Int) ≤ 200 * yct L ∧ μ.1 (Nat.add t 12) ((6 : Nat) : Int) ≤ μ.2 (μ.1 (Nat.add t 12) ((5 : Nat) : Int)).toNat ∧ (q = Nat.add t 11 → μ.1 0 ((4 : Nat) : Int) = t)) ∧ yCC μ t) ∧ μ.1 50 ((8 : Nat) : Int) = 0
theorem yRX_out {T : yT} {μ : zM} {p : Int} {B : yB} {L : Int → Int → List (List Int)} {t : Nat} (h : yRX T μ p B L t (Nat.add t 11)) : yRT T μ p ∧ (((t = 14 ∨ t = 32) ∧ ((Nat.add t 11) = Nat.add t 11 ∨ (Nat.add t 11) = 51)) ∧ μ.1 50 ((2 : Nat) : Int) = t ∧ μ.1 50 ((3 : Nat) : Int) = (Nat.add t 11) ∧ μ.1 50 ((4 : Nat) : Int) = B.1 0 2 ∧ μ.1 50 ((5 : Nat) : Int) = B.1 0 3 ∧ (0 ≤ B.1 0 2 ∧ B.1 0 2 ≤ 300)) ∧ yRB μ t B ∧ yRS μ t (ynn t (Nat.add t 11) B) B ∧ yRO μ t L ∧ (0 ≤ μ.1 (Nat.add t 12) ((6 : Nat) : Int) ∧ μ.1 (Nat.add t 12) ((6 : Nat) : Int) ≤ 200 * yct L ∧ μ.1 (Nat.add t 12) ((6 : Nat) : Int) ≤ μ.2 (μ.1 (Nat.add t 12) ((5 : Nat) : Int)).toNat ∧ ((Nat.add t 11) = Nat.add t 11 → μ.1 0 ((4 : Nat) : Int) = t)) ∧ yCC μ t := ⟨h.1, h.2.1, h.2.2.1, h.2.2.2.1, h.2.2.2.2.1 rfl⟩
theorem yRX_in {T : yT} {μ : zM} {p : Int} {B : yB} {L : Int → Int → List (List Int)} {t : Nat} (hF : μ.1 50 ((8 : Nat) : Int) = 0) (h : yRT T μ p ∧ (((t = 14 ∨ t = 32) ∧ ((Nat.add t 11) = Nat.add t 11 ∨ (Nat.add t 11) = 51)) ∧ μ.1 50 ((2 : Nat) : Int) = t ∧ μ.1 50 ((3 : Nat) : Int) = (Nat.add t 11) ∧ μ.1 50 ((4 : Nat) : Int) = B.1 0 2 ∧ μ.1 50 ((5 : Nat) : Int) = B.1 0 3 ∧ (0 ≤ B.1 0 2 ∧ B.1 0 2 ≤ 300)) ∧ yRB μ t B ∧ yRS μ t (ynn t (Nat.add t 11) B) B ∧ yRO μ t L ∧ (0 ≤ μ.1 (Nat.add t 12) ((6 : Nat) : Int) ∧ μ.1 (Nat.add t 12) ((6 : Nat) : Int) ≤ 200 * yct L ∧ μ.1 (Nat.add t 12) ((6 : Nat) : Int) ≤ μ.2 (μ.1 (Nat.add t 12) ((5 : Nat) : Int)).toNat ∧ ((Nat.add t 11) = Nat.add t 11 → μ.1 0 ((4 : Nat) : Int) = t)) ∧ yCC μ t) : yRX T μ p B L t (Nat.add t 11) := ⟨h.1, h.2.1, h.2.2.1, h.2.2.2.1, fun _ => h.2.2.2.2, hF⟩
def yRC (T : yT) (μ : zM) (p : Int) (B : yB) (t q : Nat) : Prop := yRX T μ p B (B.2 2) t q
theorem yRB_fr {μ μ' : zM} {t : Nat} {B B' : yB} (h : yRB μ t B) (e0 : μ'.1 t ((12 : Nat) : Int) = μ.1 t ((12 : Nat) : Int)) (e0b : μ'.1 t ((13 : Nat) : Int) = μ.1 t ((13 : Nat) : Int)) (e1 : μ'.1 (Nat.add 3000000 (Nat.add t 1)) = μ.1 (Nat.add 3000000 (Nat.add t 1))) (e2 : μ'.1 (Nat.add t 2) = μ.1 (Nat.add t 2)) (e3 : μ'.1 (Nat.add t 3) = μ.1 (Nat.add t 3)) (e4 : μ'.1 (Nat.add t 4) = μ.1 (Nat.add t 4)) (e6 : μ'.1 (Nat.add 3000000 (Nat.add t 6)) = μ.1 (Nat.add 3000000 (Nat.add t 6))) (e7 : μ'.1 (Nat.add t 7) = μ.1 (Nat.add t 7)) (e8 : μ'.1 (Nat.add t 8) = μ.1 (Nat.add t 8))
    (b0 : B'.1 0 0 = B.1 0 0) (b1 : B'.1 0 1 = B.1 0 1) (bb : ∀ k : Nat, k ≠ 0 → B'.1 k = B.1 k) : yRB μ' t B' := by
  unfold yRB
  rw [e0, e0b, e1, e2, e3, e4, e6, e7, e8, b0, b1, bb 1 (by decide), bb 2 (by decide), bb 3 (by decide), bb 4 (by decide), bb 5 (by decide), bb 6 (by decide), bb 7 (by decide)]
  exact h
theorem yTo_fr {μ μ' : zM} {q : Nat} {st n n' : Int} {l : List Int} (h : yTo μ q st n l) (e : ∀ x : Int, 0 ≤ x → x < n → μ'.1 q x = μ.1 q x) (hn : n ≤ n') : yTo μ' q st n' l := ⟨h.1, by have := h.2.1; omega, yRow_fr h.2.2 (fun j hj => e _ (by have := h.1; omega) (by have := h.2.1; omega))⟩
theorem yRS_fr {μ μ' : zM} {t : Nat} {n n' : Int} {B B' : yB} (h : yRS μ t n B) (e5 : μ'.1 (Nat.add t 5) = μ.1 (Nat.add t 5)) (e9 : μ'.1 (Nat.add t 9) = μ.1 (Nat.add t 9)) (e10 : μ'.1 (Nat.add t 10) = μ.1 (Nat.add t 10)) (e11 : ∀ x : Int, 0 ≤ x → x < n → μ'.1 (Nat.add t 11) x = μ.1 (Nat.add t 11) x)
    (b0 : B'.1 0 0 = B.1 0 0) (b1 : B'.1 0 1 = B.1 0 1) (b2 : n ≤ n') (bb : ∀ k : Nat, k ≠ 0 → B'.1 k = B.1 k) (bl : B'.2 = B.2) : yRS μ' t n' B' := by
  unfold yRS
  rw [e5, e9, e10, b0, b1, bb 4 (by decide), bb 6 (by decide), bl]
  exact ⟨fun k i a b c d => yTo_fr (h.1 k i a b c d) e11 b2, fun p i a b c d => ⟨(h.2 p i a b c d).1, yTo_fr (h.2 p i a b c d).2 e11 b2⟩⟩
theorem yRO_fr {μ μ' : zM} {t : Nat} {L : Int → Int → List (List Int)} (h : yRO μ t L) (e12 : μ'.1 (Nat.add t 12) = μ.1 (Nat.add t 12)) (e13 : μ'.1 (Nat.add t 13) = μ.1 (Nat.add t 13)) (e14 : μ'.1 (Nat.add t 14) = μ.1 (Nat.add t 14)) (ec : μ'.1 (μ.1 (Nat.add t 12) ((5 : Nat) : Int)).toNat = μ.1 (μ.1 (Nat.add t 12) ((5 : Nat) : Int)).toNat) : yRO μ' t L := by
  intro k d a b c e
  have q := h k d a b c e
  rw [e12, e13, e14]
  exact ⟨q.1, fun hn => ⟨(q.2 hn).1, (q.2 hn).2.1, yRow_e (q.2 hn).2.2 ec⟩⟩
theorem yRC_fr {T : yT} {μ μ' : zM} {p p' : Int} {B B' : yB} {t q : Nat} (h : yRC T μ p B t q) (hT : yRT T μ' p') (hR : μ'.1 50 ((2 : Nat) : Int) = μ.1 50 ((2 : Nat) : Int) ∧ μ'.1 50 ((3 : Nat) : Int) = μ.1 50 ((3 : Nat) : Int) ∧ μ'.1 50 ((4 : Nat) : Int) = B'.1 0 2 ∧ μ'.1 50 ((5 : Nat) : Int) = B'.1 0 3 ∧ μ'.1 50 ((8 : Nat) : Int) = μ.1 50 ((8 : Nat) : Int)) (he : ∀ j : Nat, j ≠ 1 → j ≠ 50 → j ≠ 5000001 → j ≠ q → μ'.1 j = μ.1 j) (h11 : ∀ x : Int, 0 ≤ x → x < B.1 0 2 → μ'.1 q x = μ.1 q x) (b0 : B'.1 0 0 = B.1 0 0) (b1 : B'.1 0 1 = B.1 0 1) (b2 : B.1 0 2 ≤ B'.1 0 2 ∧ B'.1 0 2 ≤ 300) (bb : ∀ k : Nat, k ≠ 0 → B'.1 k = B.1 k) (bl : B'.2 = B.2) (h2' : μ'.2 = μ.2) : yRC T μ' p' B' t q := by
  obtain ⟨h1, ⟨⟨h2, hq⟩, h3, h4, h5, h6, h7⟩, h8, h9, hO, hF8⟩ := h
  have hq' : q = t + 11 ∨ q = 51 := hq
  obtain ⟨r1, r2, r3, r4, r5⟩ := hR
  have n : ∀ a : Nat, a ≤ 17 → a ≠ 11 → μ'.1 (Nat.add t a) = μ.1 (Nat.add t a) := fun a ha hb => he _ (show t + a ≠ 1 by omega) (show t + a ≠ 50 by omega) (show t + a ≠ 5000001 by omega) (show t + a ≠ q by omega)
  have n3 : ∀ a : Nat, a ≤ 17 → μ'.1 (Nat.add 3000000 (Nat.add t a)) = μ.1 (Nat.add 3000000 (Nat.add t a)) := fun a ha => he _ (show 3000000 + (t + a) ≠ 1 by omega) (show 3000000 + (t + a) ≠ 50 by omega) (show 3000000 + (t + a) ≠ 5000001 by omega) (show 3000000 + (t + a) ≠ q by omega)
  have nt : μ'.1 t = μ.1 t := n 0 (by decide) (by decide)
  have e12 := n 12 (by decide) (by decide)
  refine ⟨hT, ⟨⟨h2, hq⟩, r1.trans h3, r2.trans h4, r3, r4, by omega, by omega⟩, yRB_fr h8 (by rw [nt]) (by rw [nt]) (n3 1 (by decide)) (n 2 (by decide) (by decide)) (n 3 (by decide) (by decide)) (n 4 (by decide) (by decide)) (n3 6 (by decide)) (n 7 (by decide) (by decide)) (n 8 (by decide) (by decide)) b0 b1 bb, yRS_fr h9 (n 5 (by decide) (by decide)) (n 9 (by decide) (by decide)) (n 10 (by decide) (by decide)) ?_ b0 b1 ?_ bb bl, fun hQ => ?_, by rw [r5]; exact hF8⟩
  · intro x x1 x2
    unfold ynn at x2
    split at x2
    · rename_i c; rw [← c]; exact h11 x x1 x2
    · rename_i c; rw [he _ (show t + 11 ≠ 1 by omega) (show t + 11 ≠ 50 by omega) (show t + 11 ≠ 5000001 by omega) (fun e => c e.symm)]
  · unfold ynn; split <;> omega
  · obtain ⟨h10, h12, h13⟩ := hO hQ
    refine ⟨?_, ?_, ?_⟩
    · rw [bl]
      refine yRO_fr h10 e12 (n 13 (by decide) (by decide)) (n 14 (by decide) (by decide)) (he _ ?_ ?_ ?_ ?_)
      · rcases h13 with q | q | q <;> omega
      · rcases h13 with q | q | q <;> omega
      · rcases h13 with q | q | q <;> omega
      · rcases h13 with c | c | c <;> omega
    · rw [e12, bl, h2', he 0 (by decide) (by decide) (by decide) (by omega)]; exact h12
    · unfold yCC; rw [e12]; exact h13
theorem yRC_st {T : yT} {μ μ' : zM} {p : Int} {B : yB} {t q : Nat} (h : yRC T μ p B t q) (hp : ykd T p ≠ 0) (e : ¬ μ.1 1 ((6 : Nat) : Int) = 0 ∧ μ.1 1 ((5 : Nat) : Int) + 1 ≤ 800 → μ' = ystM μ) : yRC T μ' (ynx T p) B t q ∧ μ' = ystM μ := by
  have hs := yRT_s h.1 hp
  obtain ⟨m, k, -, -, -, -, h6, -⟩ := h.1
  have e := e ⟨by rw [h6]; exact hp, hs.2⟩
  refine ⟨?_, e⟩
  subst e
  have hc : ∀ j : Nat, j ≠ 1 → j ≠ 5000001 → (ystM μ).1 j = μ.1 j := ystM_ne μ
  refine yRC_fr h hs.1 ?_ (fun j a _ b _ => hc j a b) (fun x _ _ => ?_) rfl rfl ⟨Int.le_refl _, h.2.1.2.2.2.2.2.2⟩ (fun _ _ => rfl) rfl (by first | rfl | (rw [e]; rfl))
  · rw [hc 50 (by decide) (by decide)]; exact ⟨rfl, rfl, h.2.1.2.2.2.1, h.2.1.2.2.2.2.1, rfl⟩
  · have := h.2.1.1.2; have := h.2.1.1.1; rw [hc _ (by rcases h.2.1.1.2 with e | e; (rw [e]; show t + 11 ≠ 1; omega); omega) (by rcases h.2.1.1.2 with e | e; (rw [e]; show t + 11 ≠ 5000001; omega); omega)]
theorem yRC_50 {T : yT} {μ μ' : zM} {p : Int} {B : yB} {t q : Nat} {k x : Int} (h : yRC T μ p B t q) (e : μ' = zu μ 50 k x) (hk : k ≠ ((2 : Nat) : Int) ∧ k ≠ ((3 : Nat) : Int) ∧ k ≠ ((4 : Nat) : Int) ∧ k ≠ ((5 : Nat) : Int)) (h8 : k ≠ ((8 : Nat) : Int) := by decide) : yRC T μ' p B t q := by
  have hc : ∀ j : Nat, j ≠ 50 → μ'.1 j = μ.1 j := fun j hj => by rw [e, zu_ne hj]
  have ht := h.2.1.1.1
  have hq : q = t + 11 ∨ q = 51 := h.2.1.1.2
  refine yRC_fr h (yRT_fr h.1 (hc _ (by decide)) (hc _ (by decide)) (hc _ (by decide)) (hc _ (by decide)) (hc _ (by decide))) ?_ (fun j _ a _ _ => hc j a) (fun x _ _ => by rw [hc _ (show q ≠ 50 by omega)]) rfl rfl ⟨Int.le_refl _, h.2.1.2.2.2.2.2.2⟩ (fun _ _ => rfl) rfl (by first | rfl | (rw [e]; rfl))
  rw [e, zu_nk (Ne.symm hk.1), zu_nk (Ne.symm hk.2.1), zu_nk (Ne.symm hk.2.2.1), zu_nk (Ne.symm hk.2.2.2), zu_nk (Ne.symm h8)]
  exact ⟨rfl, rfl, h.2.1.2.2.2.1, h.2.1.2.2.2.2.1, rfl⟩
theorem yN_at {B : yB} {k : Nat} {i x : Int} : (yN B k i x).1 k i = x := by simp [yN]
theorem yN_ne {B : yB} {k k' : Nat} {i i' x : Int} (h : k' ≠ k ∨ i' ≠ i) : (yN B k i x).1 k' i' = B.1 k' i' := by
  show (if k' = k ∧ i' = i then x else B.1 k' i') = _
  rw [if_neg (by omega)]
theorem yN_nk {B : yB} {k k' : Nat} {i x : Int} (h : k' ≠ k) : (yN B k i x).1 k' = B.1 k' := by funext i'; exact yN_ne (Or.inl h)
theorem yN_N {B : yB} {k : Nat} {i x y : Int} : yN (yN B k i x) k i y = yN B k i y := by
  unfold yN
  congr 1
  funext k' i'
  dsimp only
  split <;> simp_all
theorem yN_id {B : yB} {k : Nat} {i : Int} : yN B k i (B.1 k i) = B := by
  unfold yN
  have : (fun k' i' => if k' = k ∧ i' = i then B.1 k i else B.1 k' i') = B.1 := by
    funext k' i'
    split
    · rename_i h; rw [h.1, h.2]
    · rfl
  rw [this]
theorem yRC_te {T : yT} {μ μ' : zM} {p : Int} {B : yB} {t q : Nat} {x : Int} (h : yRC T μ p B t q) (hn : B.1 0 2 ≤ 299) (e : μ' = yteM μ (μ.1 50 ((3 : Nat) : Int)).toNat x) : yRC T μ' p (yN B 0 2 (B.1 0 2 + 1)) t q ∧ ∀ (st : Int) (l : List Int), yRow μ q st l → st + l.length = B.1 0 2 → yRow μ' q st (l ++ [x]) := by
  have ht := h.2.1.1.1
  have hq : q = t + 11 ∨ q = 51 := h.2.1.1.2
  have h3 : (μ.1 50 ((3 : Nat) : Int)).toNat = q := by rw [h.2.1.2.2.1]; omega
  have h4 := h.2.1.2.2.2.1
  rw [h3] at e
  unfold yteM at e
  have n11 : q ≠ 50 := by omega
  have hc : ∀ j : Nat, j ≠ 50 → j ≠ q → μ'.1 j = μ.1 j := fun j hj hk => by rw [e, zu_ne hj, zu_ne hk]
  have h50 : ∀ k : Int, k ≠ ((4 : Nat) : Int) → μ'.1 50 k = μ.1 50 k := fun k hk => by rw [e, zu_nk hk, zu_ne (Ne.symm n11)]
  have h11 : ∀ y : Int, y ≠ B.1 0 2 → μ'.1 q y = μ.1 q y := fun y hy => by rw [e, zu_ne n11, zu_nk (by rw [h4]; exact hy)]
  refine ⟨yRC_fr h (yRT_fr h.1 (hc _ (by decide) (by omega)) (hc _ (by decide) (by omega)) (hc _ (by decide) (by omega)) (hc _ (by decide) (by omega)) (hc _ (by decide) (by omega))) ⟨h50 _ (by decide), h50 _ (by decide), ?_, ?_, h50 _ (by decide)⟩ (fun j _ a _ b => hc j a b) (fun y _ b => h11 y (by omega)) (yN_ne (by decide)) (yN_ne (by decide)) ⟨by rw [yN_at]; omega, by rw [yN_at]; omega⟩ (fun k hk => yN_nk hk) rfl (by rw [e]; rfl), fun st l hl hs => yRow_app.mpr ⟨yRow_fr hl (fun j hj => h11 _ (by omega)), yRow_one ?_⟩⟩
  · rw [yN_at, e, zu_at, h4]
  · rw [yN_ne (by decide), h50 _ (by decide)]; exact h.2.1.2.2.2.2.1
  · rw [e, zu_ne n11, h4, hs, zu_at]
/-- what the class finds in its table -/
theorem yRC_fp {T : yT} {μ : zM} {p : Int} {B : yB} {t q : Nat} (h : yRC T μ p B t q) (ho : B.1 0 3 < B.1 0 0) (x : Int) : yfpM μ t (B.1 0 3) x = yfp B x := by
  obtain ⟨⟨g1, g2, g3, g4⟩, g5, g6⟩ := h.2.2.1
  unfold yfpM yfp
  rw [g1]
  by_cases q : 0 ≤ B.1 0 3
  · rw [if_pos ⟨q, ho⟩, if_pos q]
    have k := g5 _ q ho
    rw [k.1.2.1, k.1.2.2.1]
    exact yfd_c (fun i a b => (g6 i (by omega) (by omega)).1.1)
  · rw [if_neg (by omega), if_neg q]
theorem yRC_fc {T : yT} {μ : zM} {p : Int} {B : yB} {t q : Nat} (h : yRC T μ p B t q) (x : Int) : yfcM μ t x = yfc B x := by
  obtain ⟨⟨g1, g2, g3, g4⟩, g5, g6⟩ := h.2.2.1
  unfold yfcM yfc
  rw [g1]
  exact yfd_c (fun i a b => (g5 i (by omega) (by omega)).1.1)
theorem yRC_hd {T : yT} {μ : zM} {p : Int} {B : yB} {t q : Nat} (h : yRC T μ p B t q) (ho : B.1 0 3 < B.1 0 0) (x : Int) : yhdM μ t (B.1 0 3) x = yhd B x := by
  unfold yhdM yhd
  rw [yRC_fp h ho, yRC_fc h]
theorem yhd_B {B : yB} {x : Int} {T : yT} {μ : zM} {p : Int} {t q : Nat} (h : yRC T μ p B t q) (ho : B.1 0 3 < B.1 0 0) : (-1 ≤ yhd B x ∧ yhd B x < B.1 0 0) ∨ (32 ≤ yhd B x ∧ yhd B x < 32 + B.1 0 1) := by
  obtain ⟨⟨g1, g2, g3, g4⟩, g5, g6⟩ := h.2.2.1
  unfold yhd
  split
  · right
    rename_i qq
    unfold yfp at qq ⊢
    split at qq
    · rename_i q0
      rw [if_pos q0]
      have k := g5 _ q0 ho
      rcases yfd_B (B.1 5) x (B.1 2 (B.1 0 3)) (B.1 2 (B.1 0 3) + B.1 3 (B.1 0 3)) with e | e <;> omega
    · omega
  · left
    unfold yfc
    rcases yfd_B (B.1 1) x 0 (B.1 0 0) with e | e <;> omega
theorem yRC_ar {T : yT} {μ : zM} {p : Int} {B : yB} {t q : Nat} (h : yRC T μ p B t q) (x : Int) : (if 0 ≤ x ∧ x < μ.1 t ((12 : Nat) : Int) then μ.1 (Nat.add t 3) x else if x = 201 ∨ x = 202 then 1 else 0) = yar B x := by
  obtain ⟨⟨g1, g2, g3, g4⟩, g5, g6⟩ := h.2.2.1
  unfold yar
  rw [g1]
  by_cases q : 0 ≤ x ∧ x < B.1 0 0
  · rw [if_pos q, if_pos q]; exact (g5 x q.1 q.2).1.2.2.1
  · rw [if_neg q, if_neg q]
