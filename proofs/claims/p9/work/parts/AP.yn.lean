theorem yN_c {B : yB} {i j x y : Int} (h : i ≠ j) : (yN (yN B 0 i x) 0 j y).1 0 i = x := by rw [yN_ne (Or.inr h), yN_at]
theorem yRC_N {T : yT} {μ : zM} {p i x : Int} {B : yB} {t q : Nat} (h : yRC T μ p B t q) (hi : 4 ≤ i) : yRC T μ p (yN B 0 i x) t q := by
  refine yRC_fr h h.1 ⟨rfl, rfl, ?_, ?_, rfl⟩ (fun _ _ _ _ _ => rfl) (fun _ _ _ => rfl) (yN_ne (by omega)) (yN_ne (by omega)) ?_ (fun k hk => yN_nk hk) rfl rfl
  · rw [yN_ne (by omega)]; exact h.2.1.2.2.2.1
  · rw [yN_ne (by omega)]; exact h.2.1.2.2.2.2.1
  · rw [yN_ne (by omega)]; exact ⟨Int.le_refl _, h.2.1.2.2.2.2.2.2⟩
theorem yCu_N {B : yB} {i x : Int} (h : yCu B) (hi : i = 2 ∨ 4 ≤ i) : yCu (yN B 0 i x) := by
  unfold yCu at h ⊢
  rw [yN_ne (by omega), yN_ne (by omega), yN_ne (by omega), yN_nk (by decide), yN_nk (by decide)]
  exact h
theorem ybs_N {B : yB} {i x : Int} (hi : i ≠ 3) : ybs (yN B 0 i x) = ybs B := by
  unfold ybs yb1
  rw [yN_ne (Or.inr (Ne.symm hi)), yN_nk (by decide), yN_nk (by decide), yN_nk (by decide)]
/-- a PARAMETER is named -/
theorem yms2 {T : yT} {p : Int} {B : yB} : yms T (2, p, 0, [], B) = ym2 T p B := rfl
theorem ym2_2 {T : yT} {p : Int} {B : yB} (h : ykd T (ynx T p) ≠ 2) : yms T (2, p, 0, [], B) = yflt T B (ynx T p) 2 := by
  rw [yms2]; unfold ym2; dsimp only; rw [if_pos h]
theorem ym2_3 {T : yT} {p : Int} {B : yB} (h : ykd T (ynx T p) = 2) (h3 : 0 ≤ yfp B (ynm T (ynx T p)).toInt) : yms T (2, p, 0, [], B) = yflt T B (ynx T p) 3 := by
  rw [yms2]; unfold ym2; dsimp only; rw [if_neg (by omega), if_pos h3]
theorem ym2_6 {T : yT} {p : Int} {B : yB} (h : ykd T (ynx T p) = 2) (h3 : yfp B (ynm T (ynx T p)).toInt < 0) (h6 : 4 ≤ B.1 3 (B.1 0 3)) : yms T (2, p, 0, [], B) = yflt T B (ynx T p) 6 := by
  rw [yms2]; unfold ym2; dsimp only; rw [if_neg (by omega), if_neg (by omega), if_pos h6]
theorem ym2_g {T : yT} {p : Int} {B : yB} (h : ykd T (ynx T p) = 2) (h3 : yfp B (ynm T (ynx T p)).toInt < 0) (h6 : B.1 3 (B.1 0 3) < 4) (h7 : ykd T (ynx T (ynx T p)) = 62) : yms T (2, p, 0, [], B) = (3, ynx T (ynx T (ynx T p)), 0, [], yap B (ynm T (ynx T p)).toInt) := by
  rw [yms2]; unfold ym2; dsimp only; rw [if_neg (by omega), if_neg (by omega), if_neg (by omega), if_pos h7]
theorem ym2_c {T : yT} {p : Int} {B : yB} (h : ykd T (ynx T p) = 2) (h3 : yfp B (ynm T (ynx T p)).toInt < 0) (h6 : B.1 3 (B.1 0 3) < 4) (h7 : ykd T (ynx T (ynx T p)) = 44) : yms T (2, p, 0, [], B) = (2, ynx T (ynx T p), 0, [], yap B (ynm T (ynx T p)).toInt) := by
  rw [yms2]; unfold ym2; dsimp only; rw [if_neg (by omega), if_neg (by omega), if_neg (by omega), if_neg (by omega), if_pos h7]
theorem ym2_f {T : yT} {p : Int} {B : yB} (h : ykd T (ynx T p) = 2) (h3 : yfp B (ynm T (ynx T p)).toInt < 0) (h6 : B.1 3 (B.1 0 3) < 4) (h7 : ykd T (ynx T (ynx T p)) ≠ 62) (h8 : ykd T (ynx T (ynx T p)) ≠ 44) : yms T (2, p, 0, [], B) = yflt T (yap B (ynm T (ynx T p)).toInt) (ynx T (ynx T p)) 2 := by
  rw [yms2]; unfold ym2; dsimp only; rw [if_neg (by omega), if_neg (by omega), if_neg (by omega), if_neg h7, if_neg h8]
/-- a PARAMETER behind with -/
theorem yms4 {T : yT} {p : Int} {B : yB} : yms T (4, p, 0, [], B) = ym4 T p B := rfl
theorem ym4_2 {T : yT} {p : Int} {B : yB} (h : ykd T (ynx T p) ≠ 2) : yms T (4, p, 0, [], B) = yflt T B (ynx T p) 2 := by
  rw [yms4]; unfold ym4; dsimp only; rw [if_pos h]
theorem ym4_4 {T : yT} {p : Int} {B : yB} (h : ykd T (ynx T p) = 2) (h4 : yfp B (ynm T (ynx T p)).toInt < 0) : yms T (4, p, 0, [], B) = yflt T B (ynx T p) 4 := by
  rw [yms4]; unfold ym4; dsimp only; rw [if_neg (by omega), if_pos h4]
theorem ym4_3 {T : yT} {p : Int} {B : yB} (h : ykd T (ynx T p) = 2) (h4 : 0 ≤ yfp B (ynm T (ynx T p)).toInt) (h3 : 0 < B.1 6 (yfp B (ynm T (ynx T p)).toInt)) : yms T (4, p, 0, [], B) = yflt T B (ynx T p) 3 := by
  rw [yms4]; unfold ym4; dsimp only; rw [if_neg (by omega), if_neg (by omega), if_pos h3]
theorem ym4_f {T : yT} {p : Int} {B : yB} (h : ykd T (ynx T p) = 2) (h4 : 0 ≤ yfp B (ynm T (ynx T p)).toInt) (h3 : B.1 6 (yfp B (ynm T (ynx T p)).toInt) ≤ 0) (h5 : ykd T (ynx T (ynx T p)) ≠ 58) : yms T (4, p, 0, [], B) = yflt T B (ynx T (ynx T p)) 2 := by
  rw [yms4]; unfold ym4; dsimp only; rw [if_neg (by omega), if_neg (by omega), if_neg (by omega), if_pos h5]
theorem ym4_k {T : yT} {p : Int} {B : yB} (h : ykd T (ynx T p) = 2) (h4 : 0 ≤ yfp B (ynm T (ynx T p)).toInt) (h3 : B.1 6 (yfp B (ynm T (ynx T p)).toInt) ≤ 0) (h5 : ykd T (ynx T (ynx T p)) = 58) : yms T (4, p, 0, [], B) = (5, ynx T (ynx T p), 0, [], yN B 0 6 (yfp B (ynm T (ynx T p)).toInt)) := by
  rw [yms4]; unfold ym4; dsimp only; rw [if_neg (by omega), if_neg (by omega), if_neg (by omega), if_neg (by omega)]
theorem yfp_B {B : yB} {x : Int} (h : 0 ≤ yfp B x) : 0 ≤ B.1 0 3 ∧ B.1 2 (B.1 0 3) ≤ yfp B x ∧ yfp B x < B.1 2 (B.1 0 3) + B.1 3 (B.1 0 3) := by
  unfold yfp at h ⊢
  split at h
  · rename_i q
    rw [if_pos q]
    rcases yfd_B (B.1 5) x (B.1 2 (B.1 0 3)) (B.1 2 (B.1 0 3) + B.1 3 (B.1 0 3)) with e | e <;> omega
  · omega
/-- a TYPE ends, not within another -/
theorem ym12_z2 {T : yT} {p : Int} {f : yF} {B : yB} (h : ymay B 0 (ykd T p) = false) : yms T (12, p, 0, [f], B) = yflt T B p 2 := by
  show ym12 T p [f] B = _
  unfold ym12
  dsimp only
  rw [show ([] : List yF).length = 0 from rfl, if_pos h]
theorem ym12_z5 {T : yT} {p : Int} {f : yF} {B : yB} (h : ymay B 0 (ykd T p) = true) (h5 : (f.2.2.length : Int) ≠ yar B f.2.1) : yms T (12, p, 0, [f], B) = yflt T B p 5 := by
  show ym12 T p [f] B = _
  unfold ym12
  dsimp only
  rw [show ([] : List yF).length = 0 from rfl, if_neg (by rw [h]; decide), if_pos h5]
theorem ym12_zc {T : yT} {p : Int} {f : yF} {B : yB} (h : ymay B 0 (ykd T p) = true) (h5 : (f.2.2.length : Int) = yar B f.2.1) : yms T (12, p, 0, [f], B) = (14, p, 0, [f], B) := by
  show ym12 T p [f] B = _
  unfold ym12
  dsimp only
  rw [show ([] : List yF).length = 0 from rfl, if_neg (by rw [h]; decide), if_neg (by omega)]
theorem ymay_0 {B : yB} {k : Int} (h : B.1 0 4 = 0) : ymay B 0 k = true ↔ (k = 38 ∨ k = 44 ∨ k = 58 ∨ k = 59) := by
  unfold ymay
  rw [if_pos rfl, if_pos h]
  simp only [Bool.or_eq_true, decide_eq_true_eq]
  omega
theorem ymay_1 {B : yB} {k : Int} (h : B.1 0 4 = 1) : ymay B 0 k = true ↔ (k = 44 ∨ k = 59) := by
  unfold ymay
  rw [if_pos rfl, if_neg (by omega), if_pos h]
  simp only [Bool.or_eq_true, decide_eq_true_eq]
/-- behind a TYPE that stands in no other -/
theorem yT1_b {T : yT} {s : yS} {B : yB} {t : Nat} {st x a : Int} {μ μ' : zM} (hi : yT1 T s 0 [] B t (Nat.add t 11) st μ) (ha : (a = 1 ∧ ymay B 0 (μ.1 1 ((6 : Nat) : Int)) = true) ∨ (a = 0 ∧ ¬ ymay B 0 (μ.1 1 ((6 : Nat) : Int)) = true)) (hb : (x = 1 ∧ (a = 1 ∧ μ.1 50 ((10 : Nat) : Int) = 0) ∧ μ' = μ) ∨ (x = 0 ∧ ((a = 0 ∧ μ' = yflM μ 2) ∨ (a = 1 ∧ μ.1 50 ((10 : Nat) : Int) = 1 ∧ μ' = yflM μ 5)))) : (x = 0 ∧ yFa T s μ') ∨ (x = 1 ∧ μ' = μ ∧ ∃ (p n h : Int) (as : List (List Int)), (yR T s (14, p, 0, [(0, h, as)], yN B 0 2 n) ∧ ymay B 0 (ykd T p) = true) ∧ yTI T μ' p (yN B 0 2 n) t (Nat.add t 11) st (([h] :: as).flatten) ∧ μ'.1 50 ((10 : Nat) : Int) = 0) := by
  obtain ⟨p, n, h, as, h1, h2, h3⟩ := hi
  have k := (yTI_k h2.1).1
  rw [k] at ha
  have hm : ∀ z, ymay (yN B 0 2 n) 0 z = ymay B 0 z := fun z => by unfold ymay; rw [yN_ne (by decide)]
  have hl : yfl [(0, h, as)] = ([h] :: as).flatten := by simp [yfl, ycd, ywr]
  rw [hl] at h2
  rcases hb with ⟨b1, b2, b3⟩ | ⟨b1, ⟨b2, b3⟩ | ⟨b2, b3, b4⟩⟩
  · rcases ha with ⟨a1, a2⟩ | ⟨a1, a2⟩
    · rcases h3 with ⟨c1, c2⟩ | ⟨c1, c2⟩
      · exact Or.inr ⟨b1, b3, p, n, h, as, ⟨yR_s h1 (ym12_zc (by rw [hm]; exact a2) (by rw [yar_N]; exact c2)), a2⟩, by rw [b3]; exact h2, by rw [b3]; exact c1⟩
      · omega
    · omega
  · rcases ha with ⟨a1, a2⟩ | ⟨a1, a2⟩
    · omega
    · exact Or.inl ⟨b1, yFa_f h2.1 (yR_s h1 (ym12_z2 (by rw [hm]; exact Bool.eq_false_iff.mpr a2))) b3⟩
  · rcases ha with ⟨a1, a2⟩ | ⟨a1, a2⟩
    · rcases h3 with ⟨c1, c2⟩ | ⟨c1, c2⟩
      · omega
      · exact Or.inl ⟨b1, yFa_f h2.1 (yR_s h1 (ym12_z5 (by rw [hm]; exact a2) (by rw [yar_N]; exact c2))) b4⟩
    · omega
theorem ym14_b {T : yT} {p : Int} {f : yF} {B : yB} (h : B.1 0 4 = 0) : yms T (14, p, 0, [f], B) = if ykd T p = 38 then (5, p, 0, [], yBb B (B.1 0 6) ([f.2.1] :: f.2.2)) else if ykd T p = 44 then (4, p, 0, [], yBb B (B.1 0 6) ([f.2.1] :: f.2.2)) else (6, p, 0, [], yBb B (B.1 0 6) ([f.2.1] :: f.2.2)) := by
  show ym14 T p [f] B = _
  unfold ym14
  dsimp only
  rw [if_pos h]
  rfl
theorem ym14_s {T : yT} {p : Int} {f : yF} {B : yB} (h : B.1 0 4 = 1) : yms T (14, p, 0, [f], B) = if ykd T p = 44 then (7, p, 0, [], yBs B (B.1 0 3) ([f.2.1] :: f.2.2)) else (8, p, 0, [], yBs B (B.1 0 3) ([f.2.1] :: f.2.2)) := by
  show ym14 T p [f] B = _
  unfold ym14
  dsimp only
  rw [if_neg (by omega), if_pos h]
  rfl
/-- a TYPE begins -/
def yBt (B : yB) (r s : Int) : yB := yN (yN B 0 4 r) 0 5 s
theorem yBt_v (B : yB) (r s : Int) : (yBt B r s).1 0 4 = r ∧ (yBt B r s).1 0 5 = s ∧ (∀ i : Int, i ≠ 4 → i ≠ 5 → (yBt B r s).1 0 i = B.1 0 i) ∧ (∀ k : Nat, k ≠ 0 → (yBt B r s).1 k = B.1 k) := by
  unfold yBt
  exact ⟨yN_c (by decide), yN_at, fun i a b => by rw [yN_ne (Or.inr b), yN_ne (Or.inr a)], fun k hk => by rw [yN_nk hk, yN_nk hk]⟩
theorem ym5 {T : yT} {p : Int} {B : yB} : yms T (5, p, 0, [], B) = (10, ynx T p, 0, [], yBt B 0 (if 2 ≤ B.1 6 (B.1 0 6) then 1 else 0)) := rfl
theorem ym7 {T : yT} {p : Int} {B : yB} : yms T (7, p, 0, [], B) = (10, ynx T p, 0, [], yBt B 1 (if 4 ≤ B.1 4 (B.1 0 3) then 1 else 0)) := rfl
theorem yTI_d {T : yT} {μ : zM} {p r s : Int} {B : yB} {t : Nat} (h : yDI T μ p B t) : yTI T μ p (yBt B r s) t (Nat.add t 11) (B.1 0 2) (yfl [] ++ ywr 0) := by
  have v := yBt_v B r s
  have hu := h.2.2
  refine ⟨yRC_N (yRC_N h.1 (by decide)) (by decide), by rw [show yfl [] ++ ywr 0 = [] from rfl]; exact yRow_nil, ⟨?_, ?_⟩, ?_⟩
  · rw [v.2.2.1 2 (by decide) (by decide)]; show B.1 0 2 + 0 = _; omega
  · exact h.1.2.1.2.2.2.2.2.1
  · rw [v.2.2.1 3 (by decide) (by decide), v.2.2.1 0 (by decide) (by decide)]
    have := hu.1
    omega
theorem yW2_t {B : yB} {s : Int} : yW2 (yBt B 0 s) [] = 2 ∧ yW2 (yBt B 1 s) [] = 1 := by
  unfold yW2
  rw [show ([] : List yF).length = 0 from rfl, if_pos rfl, if_pos rfl, (yBt_v B 0 s).1, (yBt_v B 1 s).1]
  exact ⟨rfl, rfl⟩
theorem yW3_t {B : yB} {r s : Int} (h : s = 0 ∨ s = 1) : yW3 (yBt B r s) [] = s := by
  unfold yW3
  rw [show ([] : List yF).length = 0 from rfl, if_pos rfl, (yBt_v B r s).2.1]
  split <;> omega
