/-! ### a declaration -/
theorem ym0_2 {T : yT} {p : Int} {B : yB} (h : ykd T p ≠ 2) : yms T (0, p, 0, [], B) = yflt T B p 2 := by
  show ym0 T p B = _
  unfold ym0
  rw [if_pos h]
theorem ym0_3 {T : yT} {p : Int} {B : yB} (h : ykd T p = 2) (h3 : 0 ≤ yfc B (ynm T p).toInt) : yms T (0, p, 0, [], B) = yflt T B p 3 := by
  show ym0 T p B = _
  unfold ym0
  rw [if_neg (by omega), if_pos h3]
theorem ym0_6 {T : yT} {p : Int} {B : yB} (h : ykd T p = 2) (h3 : yfc B (ynm T p).toInt < 0) (h6 : 21 ≤ B.1 0 0) : yms T (0, p, 0, [], B) = yflt T B p 6 := by
  show ym0 T p B = _
  unfold ym0
  rw [if_neg (by omega), if_neg (by omega), if_pos h6]
theorem ym0_k {T : yT} {p : Int} {B : yB} (h : ykd T p = 2) (h3 : yfc B (ynm T p).toInt < 0) (h6 : B.1 0 0 < 21) : yms T (0, p, 0, [], B) = (1, ynx T p, 0, [], yB1 B (ynm T p).toInt) := by
  show ym0 T p B = _
  unfold ym0
  rw [if_neg (by omega), if_neg (by omega), if_neg (by omega)]
  rfl
theorem ym1_a {T : yT} {p : Int} {B : yB} (h : ykd T p = 60) : yms T (1, p, 0, [], B) = (2, p, 0, [], B) := by
  show (if ykd T p = 60 then (2, p, 0, [], B) else (3, p, 0, [], B)) = _
  rw [if_pos h]
theorem ym1_b {T : yT} {p : Int} {B : yB} (h : ykd T p ≠ 60) : yms T (1, p, 0, [], B) = (3, p, 0, [], B) := by
  show (if ykd T p = 60 then (2, p, 0, [], B) else (3, p, 0, [], B)) = _
  rw [if_neg h]
theorem ym3_a {T : yT} {p : Int} {B : yB} (h : ykd T p = 4) : yms T (3, p, 0, [], B) = (4, p, 0, [], B) := by
  show (if ykd T p = 4 then (4, p, 0, [], B) else (6, p, 0, [], B)) = _
  rw [if_pos h]
theorem ym3_b {T : yT} {p : Int} {B : yB} (h : ykd T p ≠ 4) : yms T (3, p, 0, [], B) = (6, p, 0, [], B) := by
  show (if ykd T p = 4 then (4, p, 0, [], B) else (6, p, 0, [], B)) = _
  rw [if_neg h]
theorem ym6_a {T : yT} {p : Int} {B : yB} (h : ykd T p = 58) : yms T (6, p, 0, [], B) = (7, p, 0, [], B) := by
  show (if ykd T p = 58 then (7, p, 0, [], B) else (8, p, 0, [], B)) = _
  rw [if_pos h]
theorem ym6_b {T : yT} {p : Int} {B : yB} (h : ykd T p ≠ 58) : yms T (6, p, 0, [], B) = (8, p, 0, [], B) := by
  show (if ykd T p = 58 then (7, p, 0, [], B) else (8, p, 0, [], B)) = _
  rw [if_neg h]
theorem ym8_f {T : yT} {p : Int} {B : yB} (h : ykd T p ≠ 59) : yms T (8, p, 0, [], B) = yflt T B p 2 := by
  show (if ykd T p ≠ 59 then yflt T B p 2 else (15, p, 0, [], yN (yN (yon B) 0 7 0) 0 8 0)) = _
  rw [if_pos h]
theorem yFa_x {T : yT} {μ μ' : zM} {p c : Int} {B' : yB} {s : yS} (h : yRT T μ p) (hr : yR T s (yflt T B' p c)) (e : μ' = yflM μ c) : yFa T s μ' := by
  obtain ⟨m, k, h1, h2, h3, h4, k1, k2, k3⟩ := h
  refine ⟨_, _, _, hr, ?_, ?_⟩
  · rw [e]; unfold yflM; rw [zu_nk (by decide), zu_at, k1]
  · rw [e]; unfold yflM; rw [zu_at, k2]
theorem yCu_1 {T : yT} {μ : zM} {p x : Int} {B : yB} {t q : Nat} (h : yRC T μ p B t q) (hn : B.1 0 0 ≤ 20) : yCu (yB1 B x) ∧ yZ (yB1 B x) ∧ ((yB1 B x).1 3 ((yB1 B x).1 0 3) = 0 ∧ (yB1 B x).1 4 ((yB1 B x).1 0 3) = 0) ∧ (yB1 B x).1 0 0 = B.1 0 0 + 1 := by
  obtain ⟨⟨v0, v1, v2, v3⟩, ⟨w1, w2, w3, w4⟩, w5, w6, w7⟩ := yB1_v B x
  have g := h.2.2.1.1
  refine ⟨?_, fun p a b => ?_, ⟨by rw [v3]; exact w3, by rw [v3]; exact w4⟩, v0⟩
  · unfold yCu
    rw [v0, v1, v3, w2, w3]
    omega
  · rw [v3, w2] at a
    rw [v1] at b
    omega
/-- the TYPES told so far -/
theorem yRC_14 {T : yT} {μ μ' : zM} {p x : Int} {B : yB} {t : Nat} (h : yRC T μ p B t (Nat.add t 11)) (e : μ' = zu μ t ((14 : Nat) : Int) x) : yRC T μ' p B t (Nat.add t 11) := by
  obtain ⟨h1, ⟨⟨ht, hq⟩, h3⟩, h8, h9, h10, h12, h13⟩ := yRX_out h
  have hF8 := h.2.2.2.2.2
  have hj : ∀ j : Nat, j ≠ t → μ'.1 j = μ.1 j := fun j hj => by rw [e, zu_ne hj]
  have n : ∀ a : Nat, a ≠ 0 → μ'.1 (Nat.add t a) = μ.1 (Nat.add t a) := fun a ha => hj _ (show t + a ≠ t by omega)
  have n3 : ∀ a : Nat, μ'.1 (Nat.add 3000000 (Nat.add t a)) = μ.1 (Nat.add 3000000 (Nat.add t a)) := fun a => hj _ (show 3000000 + (t + a) ≠ t by omega)
  have h50 : μ'.1 50 = μ.1 50 := hj 50 (by omega)
  have e12 := n 12 (by decide)
  have h2 : μ'.2 = μ.2 := by rw [e]; rfl
  refine yRX_in (by rw [h50]; exact hF8) ⟨yRT_fr h1 (hj 1 (by omega)) (hj 3 (by omega)) (hj 4 (by omega)) (hj _ (by omega)) (hj _ (by omega)), ⟨⟨ht, hq⟩, by rw [h50]; exact h3⟩, yRB_fr h8 (by rw [e, zu_nk (by decide)]) (by rw [e, zu_nk (by decide)]) (n3 1) (n 2 (by decide)) (n 3 (by decide)) (n 4 (by decide)) (n3 6) (n 7 (by decide)) (n 8 (by decide)) rfl rfl (fun _ _ => rfl), yRS_fr h9 (n 5 (by decide)) (n 9 (by decide)) (n 10 (by decide)) (fun y _ _ => by rw [n 11 (by decide)]) rfl rfl (Int.le_refl _) (fun _ _ => rfl) rfl, yRO_fr h10 e12 (n 13 (by decide)) (n 14 (by decide)) (hj _ ?_), by rw [e12, h2, hj 0 (by omega)]; exact h12, by unfold yCC; rw [e12]; exact h13⟩
  rcases h13 with q | q | q <;> omega
