/-! ### the class's table, what is ABOVE changed -/
theorem yRX_g {T : yT} {μ μ' : zM} {p : Int} {B : yB} {L L' : Int → Int → List (List Int)} {t q : Nat} (h : yRX T μ p B L t q) (hj : ∀ j : Nat, (j < 109 ∧ j ≠ t + 12 ∧ j ≠ t + 13 ∧ j ≠ t + 14 ∧ j ≠ t + 15 ∧ j ≠ t + 16 ∧ j ≠ 31 ∧ j ≠ 49) ∨ 3000000 ≤ j → μ'.1 j = μ.1 j) (hO : yRO μ' t L') (hu : 0 ≤ μ'.1 (Nat.add t 12) ((6 : Nat) : Int) ∧ μ'.1 (Nat.add t 12) ((6 : Nat) : Int) ≤ 200 * yct L' ∧ μ'.1 (Nat.add t 12) ((6 : Nat) : Int) ≤ μ'.2 (μ'.1 (Nat.add t 12) ((5 : Nat) : Int)).toNat) (hc : yCC μ' t) : yRX T μ' p B L' t q := by
  obtain ⟨h1, ⟨⟨ht, hq⟩, h3, h4, h5, h6, h7⟩, h8, h9, hX0, hF8⟩ := h
  have hX : q = Nat.add t 11 → μ.1 0 ((4 : Nat) : Int) = t := fun w => (hX0 w).2.1.2.2.2 w
  have n : ∀ a : Nat, a ≤ 11 → μ'.1 (Nat.add t a) = μ.1 (Nat.add t a) := fun a ha => hj _ (Or.inl (show t + a < 109 ∧ t + a ≠ t + 12 ∧ t + a ≠ t + 13 ∧ t + a ≠ t + 14 ∧ t + a ≠ t + 15 ∧ t + a ≠ t + 16 ∧ t + a ≠ 31 ∧ t + a ≠ 49 by omega))
  have n3 : ∀ a : Nat, μ'.1 (Nat.add 3000000 (Nat.add t a)) = μ.1 (Nat.add 3000000 (Nat.add t a)) := fun a => hj _ (Or.inr (show 3000000 ≤ 3000000 + (t + a) by omega))
  have nt : μ'.1 t = μ.1 t := n 0 (by decide)
  have h50 : μ'.1 50 = μ.1 50 := hj 50 (Or.inl (by omega))
  refine ⟨yRT_fr h1 (hj 1 (Or.inl (by omega))) (hj 3 (Or.inl (by omega))) (hj 4 (Or.inl (by omega))) (hj _ (Or.inr (by decide))) (hj _ (Or.inr (by decide))), ⟨⟨ht, hq⟩, by rw [h50]; exact h3, by rw [h50]; exact h4, by rw [h50]; exact h5, by rw [h50]; exact h6, h7⟩, yRB_fr h8 (by rw [nt]) (by rw [nt]) (n3 1) (n 2 (by decide)) (n 3 (by decide)) (n 4 (by decide)) (n3 6) (n 7 (by decide)) (n 8 (by decide)) rfl rfl (fun _ _ => rfl), yRS_fr h9 (n 5 (by decide)) (n 9 (by decide)) (n 10 (by decide)) (fun x _ _ => by rw [n 11 (by decide)]) rfl rfl (Int.le_refl _) (fun _ _ => rfl) rfl, fun _ => ⟨hO, ⟨hu.1, hu.2.1, hu.2.2, fun w => by rw [hj 0 (Or.inl (by omega))]; exact hX w⟩, hc⟩, by rw [h50]; exact hF8⟩
/-- the cell of the row -/
theorem yRX_co {T : yT} {μ : zM} {p : Int} {B : yB} {L : Int → Int → List (List Int)} {t q : Nat} (h : yRX T μ p B L t q) (hQ : q = Nat.add t 11 := by rfl) : yCo μ (Nat.add t 12) (μ.1 (Nat.add t 12) ((5 : Nat) : Int)).toNat := by
  have ht := h.2.1.1.1
  have hc : (μ.1 (Nat.add t 12) ((5 : Nat) : Int)).toNat = 31 ∨ (μ.1 (Nat.add t 12) ((5 : Nat) : Int)).toNat = 49 ∨ (109 ≤ (μ.1 (Nat.add t 12) ((5 : Nat) : Int)).toNat ∧ (μ.1 (Nat.add t 12) ((5 : Nat) : Int)).toNat < 1000000) := (h.2.2.2.2.1 hQ).2.2
  exact ⟨⟨by omega, hc⟩, show t + 12 = 26 ∨ t + 12 = 44 by omega⟩
def yLu (L : Int → Int → List (List Int)) (k d : Int) (l : List Int) : Int → Int → List (List Int) := fun a b => if a = k ∧ b = d then [l] else L a b
theorem yLu_at {L : Int → Int → List (List Int)} {k d : Int} {l : List Int} : yLu L k d l k d = [l] := by unfold yLu; rw [if_pos ⟨rfl, rfl⟩]
theorem yLu_ne {L : Int → Int → List (List Int)} {k d a b : Int} {l : List Int} (h : ¬ (a = k ∧ b = d)) : yLu L k d l a b = L a b := by unfold yLu; rw [if_neg h]
theorem yOv_v {μ μ' : zM} {t c : Nat} {n : Int} {l : List Int} (h : yOv μ μ' t c n l) : (μ'.1 t ((5 : Nat) : Int)).toNat = c := by rw [← h.2.2.1.1.1]; rfl
theorem yOv_To {μ μ' : zM} {t c : Nat} {n : Int} {l : List Int} (h : yOv μ μ' t c n l) {s m : Int} {r : List Int} (hr : yTo μ (μ.1 t ((5 : Nat) : Int)).toNat s (μ.1 t ((6 : Nat) : Int)) r) (hm : μ.1 t ((6 : Nat) : Int) ≤ m) : yTo μ' c s m r := by
  refine ⟨hr.1, by have := hr.2.1; omega, fun j hj => ?_⟩
  have h1 := hr.1
  have h2 := hr.2.1
  rw [h.2.2.2.1 _ (by omega) (by omega)]
  exact hr.2.2 j hj
theorem yOv_fr {μ μ' : zM} {t t0 c : Nat} {n : Int} {l : List Int} (h : yOv μ μ' t c n l) (ht : t = t0 + 12) : ∀ j : Nat, (j < 109 ∧ j ≠ t0 + 12 ∧ j ≠ t0 + 13 ∧ j ≠ t0 + 14 ∧ j ≠ t0 + 15 ∧ j ≠ t0 + 16 ∧ j ≠ 31 ∧ j ≠ 49) ∨ 3000000 ≤ j → μ'.1 j = μ.1 j := fun j hj => h.1.1 j (by omega)
theorem yRX_kp {T : yT} {μ μ' : zM} {p : Int} {B : yB} {L : Int → Int → List (List Int)} {t q : Nat} (h : yRX T μ p B L t q) (hK : yKp μ μ' (Nat.add t 12)) (hQ : q = Nat.add t 11 := by rfl) : yRX T μ' p B L t q := by
  obtain ⟨c, hO, hS⟩ := hK
  have ec := yOv_v hO
  have e6 : μ'.1 (Nat.add t 12) ((6 : Nat) : Int) = μ.1 (Nat.add t 12) ((6 : Nat) : Int) := by have := hO.2.2.2.2.2.1; simpa using this
  have ht := h.2.1.1.1
  have hRO := (h.2.2.2.2.1 hQ).1
  refine yRX_g h (yOv_fr hO rfl) (fun k d a b c' e => ?_) ?_ ?_
  · have z := hRO k d a b c' e
    have s1 : μ'.1 (Nat.add t 13) = μ.1 (Nat.add t 13) := hS.1
    have s2 : μ'.1 (Nat.add t 14) = μ.1 (Nat.add t 14) := hS.2
    rw [s1, s2, ec, e6]
    exact ⟨z.1, fun hn => yOv_To hO (z.2 hn) (Int.le_refl _)⟩
  · rw [e6, ec]
    have h8 := hO.2.2.2.2.2.2
    have h9 := (h.2.2.2.2.1 hQ).2.1
    exact ⟨h9.1, h9.2.1, by omega⟩
  · unfold yCC
    rw [ec]
    exact hO.2.2.1.1.2
theorem yRX_pu {T : yT} {μ μ' : zM} {p k d i : Int} {B : yB} {L : Int → Int → List (List Int)} {t q : Nat} {l : List Int} (h : yRX T μ p B L t q) (hP : yPu μ μ' (Nat.add t 12) i l) (hi : i = k * 21 + d) (hk : 0 ≤ k ∧ k < 21) (hd : 0 ≤ d ∧ d < 21) (hL : L k d = []) (hl : 1 ≤ l.length ∧ l.length ≤ 200) (hQ : q = Nat.add t 11 := by rfl) : yRX T μ' p B (yLu L k d l) t q := by
  obtain ⟨c, hO, hS⟩ := hP
  have ec := yOv_v hO
  have e6 := hO.2.2.2.2.2.1
  have ht := h.2.1.1.1
  have hRO := (h.2.2.2.2.1 hQ).1
  have h9 := (h.2.2.2.2.1 hQ).2.1
  have ct := yct_u (L := L) (L' := yLu L k d l) hk hd hL (by rw [yLu_at]; simp) (fun a b w => yLu_ne w)
  refine yRX_g h (yOv_fr hO rfl) (fun a b a0 a1 b0 b1 => ?_) ?_ ?_
  · have z := hRO a b a0 a1 b0 b1
    have s1 : ∀ y : Int, μ'.1 (Nat.add t 13) y = if y = i then μ.1 (Nat.add t 12) ((6 : Nat) : Int) else μ.1 (Nat.add t 13) y := hS.1
    have s2 : ∀ y : Int, μ'.1 (Nat.add t 14) y = if y = i then (l.length : Int) else μ.1 (Nat.add t 14) y := hS.2
    rw [s1, s2, ec, e6]
    by_cases w : a = k ∧ b = d
    · rw [if_pos (by rw [hi, w.1, w.2]), if_pos (by rw [hi, w.1, w.2]), w.1, w.2, yLu_at]
      have el : [l].flatten = l := by simp
      rw [el]
      exact ⟨rfl, fun _ => ⟨h9.1, Int.le_refl _, hO.2.2.2.2.1⟩⟩
    · have ne : a * 21 + b ≠ i := by
        rw [hi]
        omega
      rw [if_neg ne, if_neg ne, yLu_ne w]
      exact ⟨z.1, fun hn => yOv_To hO (z.2 hn) (by omega)⟩
  · rw [e6, ec, ct]
    have h8 := hO.2.2.2.2.2.2
    exact ⟨by omega, by omega, h8⟩
  · unfold yCC
    rw [ec]
    exact hO.2.2.1.1.2
/-- what else closeClass writes -/
theorem yRX_o {T : yT} {μ μ' : zM} {p : Int} {B : yB} {L : Int → Int → List (List Int)} {t q : Nat} (h : yRX T μ p B L t q) (hj : ∀ j : Nat, j ≠ t + 12 → j ≠ t + 15 → j ≠ t + 16 → μ'.1 j = μ.1 j) (h4 : ∀ k : Int, k ≠ ((4 : Nat) : Int) → μ'.1 (Nat.add t 12) k = μ.1 (Nat.add t 12) k) (h2 : μ'.2 = μ.2) (hQ : q = Nat.add t 11 := by rfl) : yRX T μ' p B L t q := by
  have ht := h.2.1.1.1
  have hcc := (h.2.2.2.2.1 hQ).2.2
  have e5 : μ'.1 (Nat.add t 12) ((5 : Nat) : Int) = μ.1 (Nat.add t 12) ((5 : Nat) : Int) := h4 _ (by decide)
  have e6 : μ'.1 (Nat.add t 12) ((6 : Nat) : Int) = μ.1 (Nat.add t 12) ((6 : Nat) : Int) := h4 _ (by decide)
  have n13 : μ'.1 (Nat.add t 13) = μ.1 (Nat.add t 13) := hj _ (show t + 13 ≠ t + 12 by omega) (show t + 13 ≠ t + 15 by omega) (show t + 13 ≠ t + 16 by omega)
  have n14 : μ'.1 (Nat.add t 14) = μ.1 (Nat.add t 14) := hj _ (show t + 14 ≠ t + 12 by omega) (show t + 14 ≠ t + 15 by omega) (show t + 14 ≠ t + 16 by omega)
  refine yRX_g h (fun j q => hj j (by omega) (by omega) (by omega)) (fun a b a0 a1 b0 b1 => ?_) ?_ ?_
  · have z := (h.2.2.2.2.1 hQ).1 a b a0 a1 b0 b1
    rw [n13, n14, e5, e6]
    refine ⟨z.1, fun hn => ⟨(z.2 hn).1, (z.2 hn).2.1, yRow_e (z.2 hn).2.2 (hj _ ?_ ?_ ?_)⟩⟩
    · rcases hcc with q | q | q <;> omega
    · rcases hcc with q | q | q <;> omega
    · rcases hcc with q | q | q <;> omega
  · rw [e5, e6, h2]; exact ⟨(h.2.2.2.2.1 hQ).2.1.1, (h.2.2.2.2.1 hQ).2.1.2.1, (h.2.2.2.2.1 hQ).2.1.2.2.1⟩
  · unfold yCC; rw [e5]; exact hcc
/-! ### what is ABOVE a class, super by super -/
def yLf (B : yB) (z : Bool) : Int → Int → List (List Int) := fun a b => if z = true ∧ a = B.1 0 3 ∧ b = 0 then [] else B.2 2 a b
def yEq (B B' : yB) : Prop := (B'.1 0 0 = B.1 0 0 ∧ B'.1 0 1 = B.1 0 1 ∧ B'.1 0 2 = B.1 0 2 ∧ B'.1 0 3 = B.1 0 3) ∧ (∀ k : Nat, k ≠ 0 → B'.1 k = B.1 k) ∧ B'.2 1 = B.2 1 ∧ B'.2 0 = B.2 0
theorem yEq_t {a b c : yB} (h1 : yEq a b) (h2 : yEq b c) : yEq a c := ⟨⟨h2.1.1.trans h1.1.1, h2.1.2.1.trans h1.1.2.1, h2.1.2.2.1.trans h1.1.2.2.1, h2.1.2.2.2.trans h1.1.2.2.2⟩, fun k hk => (h2.2.1 k hk).trans (h1.2.1 k hk), h2.2.2.1.trans h1.2.2.1, h2.2.2.2.trans h1.2.2.2⟩
theorem yEq_N {B : yB} {i x : Int} (hi : 4 ≤ i) : yEq B (yN B 0 i x) := ⟨⟨yN_ne (by omega), yN_ne (by omega), yN_ne (by omega), yN_ne (by omega)⟩, fun k hk => yN_nk hk, rfl, rfl⟩
theorem yEq_L {B : yB} {i j x : Int} {l : List (List Int)} (hx : 4 ≤ x) {y : Int} : yEq B (yN (yL B 2 i j l) 0 x y) := ⟨⟨yN_ne (by omega), yN_ne (by omega), yN_ne (by omega), yN_ne (by omega)⟩, fun k hk => yN_nk hk, yNL_nk (by decide), yNL_nk (by decide)⟩
theorem yRX_B {T : yT} {μ : zM} {p : Int} {B B' : yB} {L : Int → Int → List (List Int)} {t q : Nat} (h : yRX T μ p B L t q) (e : yEq B B') : yRX T μ p B' L t q := by
  obtain ⟨h1, ⟨⟨ht, hq⟩, h3, h4, h5, h6, h7⟩, h8, h9, h10⟩ := h
  obtain ⟨⟨e0, e1, e2, e3⟩, ek, el, e0l⟩ := e
  have en : ynn t q B' = ynn t q B := by unfold ynn; rw [e2]
  refine ⟨h1, ⟨⟨ht, hq⟩, h3, h4, by rw [e2]; exact h5, by rw [e3]; exact h6, by rw [e2]; exact h7⟩, yRB_fr h8 rfl rfl rfl rfl rfl rfl rfl rfl rfl e0 e1 ek, ?_, h10⟩
  rw [en]
  unfold yRS
  rw [e0, e1, ek 4 (by decide), ek 6 (by decide), el, e0l]
  exact h9
theorem yLf_N {B : yB} {z : Bool} {i x : Int} (hi : i ≠ 3) : yLf (yN B 0 i x) z = yLf B z := by
  unfold yLf
  rw [yN_ne (Or.inr (Ne.symm hi))]
  rfl
/-- what inherit wants -/
theorem yIA_pre {T : yT} {μ : zM} {p d e x : Int} {B : yB} {z : Bool} {t : Nat} {fr : List yF} {as : List (List Int)} {l : List Int} (h : yRX T μ p B (yLf B z) t (Nat.add t 11)) (hI : yI 15 x fr B) (he : 0 ≤ e ∧ e < B.1 0 0 ∧ e ≠ B.1 0 3) (hd : 0 ≤ d ∧ d < B.1 0 0) (ha : (as.length : Int) = B.1 3 e) (hl : B.2 2 e d = [l]) :
    ∃ (c : Nat) (σ : Int), yCo μ (Nat.add t 12) c ∧ (μ.1 (Nat.add (Nat.add t 12) 1) (e * 21 + d) = σ ∧ μ.1 (Nat.add (Nat.add t 12) 2) (e * 21 + d) = (l.length : Int)) ∧ yTo μ c σ (μ.1 (Nat.add t 12) ((6 : Nat) : Int)) l ∧ (l.length ≤ 200 ∧ μ.1 (Nat.add t 12) ((6 : Nat) : Int) + 200 ≤ 88400 ∧ μ.1 (Nat.add t 12) ((6 : Nat) : Int) ≤ μ.2 c) ∧ yVl (B.1 2 e) as l ∧ (μ.1 (Nat.add (Nat.add t 12) 2) (B.1 0 3 * 21 + d) = ((yLf B z (B.1 0 3) d).flatten.length : Int) ∧ (yLf B z (B.1 0 3) d).flatten.length ≤ 200 ∧ ((yLf B z (B.1 0 3) d).flatten ≠ [] → yTo μ c (μ.1 (Nat.add (Nat.add t 12) 1) (B.1 0 3 * 21 + d)) (μ.1 (Nat.add t 12) ((6 : Nat) : Int)) (yLf B z (B.1 0 3) d).flatten)) := by
  obtain ⟨h0, h2, h3, h4, h1, -⟩ := hI
  obtain ⟨⟨g1, -⟩, -⟩ := h1 (Or.inr rfl)
  unfold yCu at g1
  have hb := h0.1
  have hRO := (h.2.2.2.2.1 rfl).1
  have h9 := (h.2.2.2.2.1 rfl).2.1
  have ct := (yct_B (yLf B z)).2
  have hle : yLf B z e d = [l] := by unfold yLf; rw [if_neg (fun q => he.2.2 q.2.1)]; exact hl
  have r1 := hRO e d he.1 (by omega) hd.1 (by omega)
  have r2 := hRO (B.1 0 3) d (by omega) (by omega) hd.1 (by omega)
  rw [hle, show [l].flatten = l by simp] at r1
  refine ⟨_, _, yRX_co h, ⟨rfl, r1.1⟩, r1.2 (by simp), ⟨?_, by omega, h9.2.2.1⟩, ?_, r2.1, ?_, fun hn => r2.2 (fun q => hn (by rw [q]; rfl))⟩
  · rcases h2 e d with w | ⟨m, w1, w2, w3, w4⟩
    · rw [w] at hl; simp at hl
    · rw [w1] at hl
      have : m = l := by simpa using hl
      rw [← this]; exact w3
  · rcases h2 e d with w | ⟨m, w1, w2, w3, w4⟩
    · rw [w] at hl; simp at hl
    · rw [w1] at hl
      have : m = l := by simpa using hl
      rw [← this]; exact yVl_G w4 ha
  · unfold yLf
    split
    · simp
    · rcases h2 (B.1 0 3) d with w | ⟨m, w1, w2, w3, w4⟩
      · rw [w]; simp
      · rw [w1]; simpa using w3
/-- what inherit's answer says of the machine -/
theorem yIA_post {T : yT} {μ μ' : zM} {p d e x v i : Int} {B : yB} {z : Bool} {t : Nat} {fr : List yF} {as : List (List Int)} {l : List Int} (h : yRX T μ p B (yLf B z) t (Nat.add t 11)) (hI : yI 15 x fr B) (he : 0 ≤ e ∧ e < B.1 0 0 ∧ e ≠ B.1 0 3) (hd : 0 ≤ d ∧ d < B.1 0 0) (hd8 : B.1 0 8 = d) (h7 : B.1 0 7 < B.1 4 (B.1 0 3)) (hs : B.2 1 (B.1 0 3) (B.1 0 7) = [e] :: as) (ha : (as.length : Int) = B.1 3 e) (hg : yGa B as) (hl : B.2 2 e d = [l]) (hi : i = B.1 0 3 * 21 + d)
    (hp : (v = 0 ∧ (200 < (ysub (B.1 2 e) as l).length ∨ ((yLf B z (B.1 0 3) d).flatten ≠ [] ∧ (yLf B z (B.1 0 3) d).flatten ≠ ysub (B.1 2 e) as l)) ∧ yKp μ μ' (Nat.add t 12)) ∨ (v = 1 ∧ (ysub (B.1 2 e) as l).length ≤ 200 ∧ (((yLf B z (B.1 0 3) d).flatten ≠ [] ∧ (yLf B z (B.1 0 3) d).flatten = ysub (B.1 2 e) as l ∧ yKp μ μ' (Nat.add t 12)) ∨ ((yLf B z (B.1 0 3) d).flatten = [] ∧ yPu μ μ' (Nat.add t 12) i (ysub (B.1 2 e) as l))))) :
    (v = 0 ∧ yms T (15, p, 0, [], B) = yflt T B p 8 ∧ yRX T μ' p B (yLf B z) t (Nat.add t 11)) ∨ (v = 1 ∧ ∃ (B' : yB) (z' : Bool), yms T (15, p, 0, [], B) = (15, p, 0, [], B') ∧ yEq B B' ∧ (B'.1 0 7 = B.1 0 7 ∧ B'.1 0 8 = d + 1) ∧ yRX T μ' p B' (yLf B' z') t (Nat.add t 11)) := by
  obtain ⟨h0, h2, h3, h4, h1, -⟩ := hI
  obtain ⟨⟨g1, -⟩, -⟩ := h1 (Or.inr rfl)
  unfold yCu at g1
  have hb := h0.1
  have n15 : ¬ yopn 15 := by unfold yopn; omega
  obtain ⟨w2, w3, w4⟩ : l ≠ [] ∧ l.length ≤ 200 ∧ yG B e l := by
    rcases h2 e d with w | ⟨m, w1, w2, w3, w4⟩
    · rw [w] at hl; simp at hl
    · rw [w1] at hl
      have : m = l := by simpa using hl
      rw [← this]; exact ⟨w2, w3, w4⟩
  have hu : ysub (B.1 2 e) as l ≠ [] := yne_sub (fun a ha => (hg a ha).1) (yVl_G w4 ha) w2
  have hd0 : d = 0 → ysub (B.1 2 e) as l = [0] := fun q => by
    rw [q, h3 e he.1 he.2.1 (fun w => n15 w.1)] at hl
    have : [0] = l := by simpa using hl
    rw [← this]
    simp [ysub]
  have ho0 : B.2 2 (B.1 0 3) 0 = [[0]] := h3 (B.1 0 3) (by omega) (by omega) (fun w => n15 w.1)
  have h8 : B.1 0 8 < B.1 0 0 := by omega
  have hl' : B.2 2 e (B.1 0 8) = [l] := by rw [hd8]; exact hl
  -- how the class's list stands to the machine's
  have key : (z = true ∧ d = 0 ∧ yLf B z (B.1 0 3) d = []) ∨ (¬ (z = true ∧ d = 0) ∧ yLf B z (B.1 0 3) d = B.2 2 (B.1 0 3) d) := by
    unfold yLf
    by_cases q : z = true ∧ d = 0
    · left; exact ⟨q.1, q.2, by rw [if_pos ⟨q.1, rfl, q.2⟩]⟩
    · right; exact ⟨q, by rw [if_neg (fun w => q ⟨w.1, w.2.2⟩)]⟩
  have eqf : ∀ r : List Int, r ≠ [] → (B.2 2 (B.1 0 3) d = [r] ↔ (B.2 2 (B.1 0 3) d).flatten = r) := fun r hr => by
    constructor
    · intro q; rw [q]; simp
    · intro q
      rcases h2 (B.1 0 3) d with w | ⟨m, w1, -⟩
      · rw [w] at q; exact absurd q.symm (by simpa using hr)
      · rw [w1] at q ⊢
        have : m = r := by simpa using q
        rw [this]
  have nef : B.2 2 (B.1 0 3) d ≠ [] ↔ (B.2 2 (B.1 0 3) d).flatten ≠ [] := by
    constructor
    · intro q
      rcases h2 (B.1 0 3) d with w | ⟨m, w1, w2, -⟩
      · exact absurd w q
      · rw [w1]; simpa using w2
    · intro q w; rw [w] at q; exact q rfl
  -- a put
  have put : ¬ (200 < (ysub (B.1 2 e) as l).length ∨ (B.2 2 (B.1 0 3) d ≠ [] ∧ B.2 2 (B.1 0 3) d ≠ [ysub (B.1 2 e) as l])) → ∀ z' : Bool, yRX T μ' p B (yLf (yN (yL B 2 (B.1 0 3) d [ysub (B.1 2 e) as l]) 0 8 (d + 1)) z') t (Nat.add t 11) → ∃ (B' : yB) (z' : Bool), yms T (15, p, 0, [], B) = (15, p, 0, [], B') ∧ yEq B B' ∧ (B'.1 0 7 = B.1 0 7 ∧ B'.1 0 8 = d + 1) ∧ yRX T μ' p B' (yLf B' z') t (Nat.add t 11) := fun q z' hr => by
    have st := ym15_p (T := T) (p := p) h7 h8 hs hl' (by rw [hd8]; exact q)
    rw [hd8] at st
    refine ⟨_, z', st, yEq_L (by decide), ⟨?_, yN_at⟩, yRX_B hr (yEq_L (by decide))⟩
    rw [yN_ne (by decide)]; rfl
  have elf : ∀ z' : Bool, yLf (yN (yL B 2 (B.1 0 3) d [ysub (B.1 2 e) as l]) 0 8 (d + 1)) z' = fun a b => if z' = true ∧ a = B.1 0 3 ∧ b = 0 then [] else if a = B.1 0 3 ∧ b = d then [ysub (B.1 2 e) as l] else B.2 2 a b := fun z' => by
    funext a b
    unfold yLf
    rw [show (yN (yL B 2 (B.1 0 3) d [ysub (B.1 2 e) as l]) 0 8 (d + 1)).1 0 3 = B.1 0 3 by rw [yN_ne (by decide)]; rfl]
    by_cases w : z' = true ∧ a = B.1 0 3 ∧ b = 0
    · rw [if_pos w, if_pos w]
    · rw [if_neg w, if_neg w]
      by_cases w : a = B.1 0 3 ∧ b = d
      · rw [if_pos w, w.1, w.2]; exact yL_at
      · rw [if_neg w]; exact yL_ne (by omega)
  rcases hp with ⟨v0, hf, hK⟩ | ⟨v1, hle, hp⟩
  · left
    refine ⟨v0, ym15_f h7 h8 hs hl' ?_, yRX_kp h hK⟩
    rw [hd8]
    rcases hf with hf | ⟨f1, f2⟩
    · exact Or.inl hf
    · rcases key with ⟨k1, k2, k3⟩ | ⟨-, k3⟩
      · rw [k3] at f1; exact absurd rfl f1
      · rw [k3] at f1 f2
        exact Or.inr ⟨nef.mpr f1, fun q => f2 ((eqf _ hu).mp q)⟩
  · right
    refine ⟨v1, ?_⟩
    rcases hp with ⟨f1, f2, hK⟩ | ⟨f1, hP⟩
    · rcases key with ⟨k1, k2, k3⟩ | ⟨k1, k3⟩
      · rw [k3] at f1; exact absurd rfl f1
      · rw [k3] at f1 f2
        have f3 := (eqf _ hu).mpr f2
        refine put (fun q => by rcases q with q | q; omega; exact q.2 f3) z ?_
        rw [elf]
        have e : (fun a b => if z = true ∧ a = B.1 0 3 ∧ b = 0 then [] else if a = B.1 0 3 ∧ b = d then [ysub (B.1 2 e) as l] else B.2 2 a b) = yLf B z := by
          funext a b
          unfold yLf
          by_cases w : z = true ∧ a = B.1 0 3 ∧ b = 0
          · rw [if_pos w, if_pos w]
          · rw [if_neg w, if_neg w]
            by_cases w : a = B.1 0 3 ∧ b = d
            · rw [if_pos w, w.1, w.2, f3]
            · rw [if_neg w]
        rw [e]
        exact yRX_kp h hK
    · have hL : yLf B z (B.1 0 3) d = [] := by
        rcases key with ⟨k1, k2, k3⟩ | ⟨k1, k3⟩
        · exact k3
        · rw [k3] at f1 ⊢
          rcases h2 (B.1 0 3) d with w | ⟨m, w1, w2, -⟩
          · exact w
          · rw [w1] at f1; exact absurd (by simpa using f1) w2
      have hR := yRX_pu h hP hi ⟨by omega, by omega⟩ ⟨by omega, by omega⟩ hL ⟨by have := List.length_pos_iff.mpr hu; omega, by omega⟩
      rcases key with ⟨k1, k2, k3⟩ | ⟨k1, k3⟩
      · refine put (fun q => ?_) false ?_
        · rcases q with q | q
          · omega
          · refine q.2 ?_
            rw [k2, ho0, hd0 k2]
        · rw [elf]
          have e : (fun a b => if false = true ∧ a = B.1 0 3 ∧ b = 0 then [] else if a = B.1 0 3 ∧ b = d then [ysub (B.1 2 e) as l] else B.2 2 a b) = yLu (yLf B z) (B.1 0 3) d (ysub (B.1 2 e) as l) := by
            funext a b
            rw [if_neg (fun w => by cases w.1)]
            by_cases w : a = B.1 0 3 ∧ b = d
            · rw [if_pos w, w.1, w.2, yLu_at]
            · rw [if_neg w, yLu_ne w]
              unfold yLf
              rw [if_neg (fun c => w ⟨c.2.1, by rw [k2]; exact c.2.2⟩)]
          rw [e]; exact hR
      · refine put (fun q => ?_) z ?_
        · rcases q with q | q
          · omega
          · rw [k3] at hL; exact q.1 hL
        · rw [elf]
          have e : (fun a b => if z = true ∧ a = B.1 0 3 ∧ b = 0 then [] else if a = B.1 0 3 ∧ b = d then [ysub (B.1 2 e) as l] else B.2 2 a b) = yLu (yLf B z) (B.1 0 3) d (ysub (B.1 2 e) as l) := by
            funext a b
            by_cases w : a = B.1 0 3 ∧ b = d
            · rw [if_neg (fun c => k1 ⟨c.1, by rw [← w.2]; exact c.2.2⟩), if_pos w, w.1, w.2, yLu_at]
            · rw [if_neg w, yLu_ne w]
              rfl
          rw [e]; exact hR
