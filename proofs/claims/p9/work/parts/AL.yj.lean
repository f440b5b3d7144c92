/-! ### a TYPE that is read -/
def yfl (fr : List yF) : List Int := (fr.map ycd).reverse.flatten
theorem yfl_c (f : yF) (fr : List yF) : yfl (f :: fr) = yfl fr ++ ycd f := by simp [yfl]
theorem yfl_a (l : List Int) (f : yF) (fr : List yF) : yfl (yadd l (f :: fr)) = yfl (f :: fr) ++ l := by
  show yfl ((f.1, f.2.1, f.2.2 ++ [l]) :: fr) = _
  rw [yfl_c, yfl_c]
  simp [ycd]
def yTI (T : yT) (μ : zM) (p : Int) (B : yB) (t q : Nat) (st : Int) (l : List Int) : Prop := yRC T μ p B t q ∧ yRow μ q st l ∧ (st + l.length = B.1 0 2 ∧ 0 ≤ st) ∧ B.1 0 3 < B.1 0 0
def yFa (T : yT) (s : yS) (μ : zM) : Prop := ∃ (p x : Int) (B : yB), yR T s (20, p, x, [], B) ∧ μ.1 50 ((8 : Nat) : Int) = x ∧ μ.1 50 ((9 : Nat) : Int) = p
def yMi (μ : zM) (B : yB) (h : Int) (as : List (List Int)) : Prop := (μ.1 50 ((10 : Nat) : Int) = 0 ∧ (as.length : Int) = yar B h) ∨ (μ.1 50 ((10 : Nat) : Int) = 1 ∧ (as.length : Int) ≠ yar B h)
def yW2 (B : yB) (fr : List yF) : Int := if fr.length = 0 then (if B.1 0 4 = 0 then 2 else if B.1 0 4 = 1 then 1 else 0) else 0
def yW3 (B : yB) (fr : List yF) : Int := if fr.length = 0 then (if B.1 0 5 = 0 then 0 else 1) else 0
def yW4 (B : yB) (fr : List yF) : Int := if fr.length = 1 ∧ B.1 0 4 = 1 then 1 else 0
/-- a TYPE has been read, up to what stands behind it -/
def yT1 (T : yT) (s : yS) (w : Int) (fr : List yF) (B : yB) (t q : Nat) (st : Int) (μ : zM) : Prop := ∃ (p n h : Int) (as : List (List Int)), yR T s (12, p, 0, (w, h, as) :: fr, yN B 0 2 n) ∧ yTI T μ p (yN B 0 2 n) t q st (yfl ((w, h, as) :: fr)) ∧ yMi μ B h as
def yTO (T : yT) (s : yS) (w : Int) (fr : List yF) (B : yB) (t q : Nat) (st v : Int) (μ : zM) : Prop := (v = 1 ∧ yT1 T s w fr B t q st μ) ∨ (v = 0 ∧ yFa T s μ)
/-- a ? has been read -/
def yWO (T : yT) (s : yS) (fr : List yF) (B : yB) (t q : Nat) (st v : Int) (μ : zM) : Prop := (v = 1 ∧ ((∃ p n : Int, yR T s (13, p, 0, yadd [200] fr, yN B 0 2 n) ∧ yTI T μ p (yN B 0 2 n) t q st (yfl fr ++ [200]) ∧ μ.1 50 ((10 : Nat) : Int) = 0) ∨ ∃ w : Int, yT1 T s w fr B t q st μ)) ∨ (v = 0 ∧ yFa T s μ)
/-- ARGS have been read -/
def yA1 (T : yT) (s : yS) (w h : Int) (fr : List yF) (B : yB) (t q : Nat) (st v : Int) (μ : zM) : Prop := ∃ (p n : Int) (as : List (List Int)), (yR T s (12, p, 0, (w, h, as) :: fr, yN B 0 2 n) ∧ v = as.length) ∧ yTI T μ p (yN B 0 2 n) t q st (yfl ((w, h, as) :: fr)) ∧ μ.1 50 ((10 : Nat) : Int) = 0
def yAO (T : yT) (s : yS) (w h : Int) (fr : List yF) (B : yB) (t q : Nat) (st v : Int) (μ : zM) : Prop := (1 ≤ v ∧ yA1 T s w h fr B t q st v μ) ∨ (v = -1 ∧ yFa T s μ)
/-- some of them -/
def yAI (T : yT) (s : yS) (w h : Int) (fr : List yF) (B : yB) (t q : Nat) (st v : Int) (μ : zM) : Prop := ∃ (p n : Int) (as : List (List Int)), (yR T s (11, ynx T p, 0, (w, h, as) :: fr, yN B 0 2 n) ∧ v = as.length + 1 ∧ (∀ a ∈ as, a ≠ []) ∧ ykd T p ≠ 0) ∧ yTI T μ p (yN B 0 2 n) t q st (yfl ((w, h, as) :: fr)) ∧ μ.1 50 ((10 : Nat) : Int) = 0
theorem yTI_k {T : yT} {μ : zM} {p : Int} {B : yB} {t q : Nat} (h : yRC T μ p B t q) : μ.1 1 ((6 : Nat) : Int) = ykd T p ∧ μ.1 1 ((7 : Nat) : Int) = ypl T p ∧ μ.1 5000001 ((8 : Nat) : Int) = (ynm T p).toInt := by
  obtain ⟨m, k, h1, h2, h3, h4, h5⟩ := h.1
  exact h5
theorem yFa_f {T : yT} {μ μ' : zM} {p c : Int} {B B' : yB} {t q : Nat} {s : yS} (h : yRC T μ p B t q) (hr : yR T s (yflt T B' p c)) (e : μ' = yflM μ c) : yFa T s μ' := by
  obtain ⟨k1, k2, k3⟩ := yTI_k h
  refine ⟨_, _, _, hr, ?_, ?_⟩
  · rw [e]; unfold yflM; rw [zu_nk (by decide), zu_at, k1]
  · rw [e]; unfold yflM; rw [zu_at, k2]
theorem yFa_t {T : yT} {s s' : yS} {μ : zM} (h : yR T s s') (hf : yFa T s' μ) : yFa T s μ := by
  obtain ⟨p, x, B, h1, h2⟩ := hf
  exact ⟨p, x, B, yR_t h h1, h2⟩
theorem yar_N {B : yB} {n h : Int} : yar (yN B 0 2 n) h = yar B h := by
  unfold yar
  rw [yN_ne (by decide), yN_nk (by decide)]
/-- a NAME in a TYPE -/
theorem ym10_2 {T : yT} {p w : Int} {fr : List yF} {B : yB} (h : ykd T p ≠ 2) : yms T (10, p, w, fr, B) = yflt T B p 2 := by
  show ym10 T p w fr B = _
  unfold ym10
  rw [if_pos h]
theorem ym10_4 {T : yT} {p w : Int} {fr : List yF} {B : yB} (h : ykd T p = 2) (h4 : yhd B (ynm T p).toInt < 0) : yms T (10, p, w, fr, B) = yflt T B p 4 := by
  show ym10 T p w fr B = _
  unfold ym10
  rw [if_neg (by omega), if_pos h4]
theorem ym10_6 {T : yT} {p w : Int} {fr : List yF} {B : yB} (h : ykd T p = 2) (h4 : 0 ≤ yhd B (ynm T p).toInt) (h6 : yW3 B fr ≠ 0 ∨ 8 ≤ (fr.length : Int) ∨ 300 ≤ B.1 0 2) : yms T (10, p, w, fr, B) = yflt T B p 6 := by
  show ym10 T p w fr B = _
  unfold ym10 
  rw [if_neg (by omega), if_neg (by omega), if_pos]
  unfold yW3 at h6
  split at h6
  · split at h6 <;> omega
  · omega
theorem yW3_0 {B : yB} {fr : List yF} (h : yW3 B fr = 0) : ¬ (fr.length = 0 ∧ B.1 0 5 ≠ 0) := by
  unfold yW3 at h
  split at h
  · split at h <;> omega
  · omega
theorem yW2_c {B : yB} {fr : List yF} : (yW2 B fr = 0 ∨ yW2 B fr = 1 ∨ yW2 B fr = 2) ∧ (yW2 B fr = 1 ↔ fr.length = 0 ∧ B.1 0 4 = 1) ∧ (yW2 B fr = 2 ↔ fr.length = 0 ∧ B.1 0 4 = 0) := by
  unfold yW2
  split
  · split
    · omega
    · split <;> omega
  · omega
theorem ym10_7 {T : yT} {p w : Int} {fr : List yF} {B : yB} (h : ykd T p = 2) (h4 : 0 ≤ yhd B (ynm T p).toInt) (h6 : yW3 B fr = 0 ∧ (fr.length : Int) < 8 ∧ B.1 0 2 < 300) (h7 : (yW2 B fr ≠ 0 ∧ 32 ≤ yhd B (ynm T p).toInt) ∨ (yW2 B fr = 1 ∧ yhd B (ynm T p).toInt = B.1 0 3)) : yms T (10, p, w, fr, B) = yflt T B p 7 := by
  show ym10 T p w fr B = _
  unfold ym10
  have h8 := yW3_0 h6.1
  have h9 := yW2_c (B := B) (fr := fr)
  rw [if_neg (by omega), if_neg (by omega), if_neg (by omega), if_pos (by omega)]
theorem ym10_5 {T : yT} {p w : Int} {fr : List yF} {B : yB} (h : ykd T p = 2) (h4 : 0 ≤ yhd B (ynm T p).toInt) (h6 : yW3 B fr = 0 ∧ (fr.length : Int) < 8 ∧ B.1 0 2 < 300) (h7 : ¬ ((yW2 B fr ≠ 0 ∧ 32 ≤ yhd B (ynm T p).toInt) ∨ (yW2 B fr = 1 ∧ yhd B (ynm T p).toInt = B.1 0 3))) (ho : ykd T (ynx T p) = 60 ∧ ¬ ykd T (ynx T (ynx T p)) = 61) (hp : 32 ≤ yhd B (ynm T p).toInt) : yms T (10, p, w, fr, B) = yflt T (yN B 0 2 (B.1 0 2 + 1)) (ynx T p) 5 := by
  show ym10 T p w fr B = _
  unfold ym10
  have h8 := yW3_0 h6.1
  have h9 := yW2_c (B := B) (fr := fr)
  rw [if_neg (by omega), if_neg (by omega), if_neg (by omega), if_neg (by omega), if_pos ho, if_pos hp]
theorem ym10_a {T : yT} {p w : Int} {fr : List yF} {B : yB} (h : ykd T p = 2) (h4 : 0 ≤ yhd B (ynm T p).toInt) (h6 : yW3 B fr = 0 ∧ (fr.length : Int) < 8 ∧ B.1 0 2 < 300) (h7 : ¬ ((yW2 B fr ≠ 0 ∧ 32 ≤ yhd B (ynm T p).toInt) ∨ (yW2 B fr = 1 ∧ yhd B (ynm T p).toInt = B.1 0 3))) (ho : ykd T (ynx T p) = 60 ∧ ¬ ykd T (ynx T (ynx T p)) = 61) (hp : yhd B (ynm T p).toInt < 32) : yms T (10, p, w, fr, B) = (11, ynx T (ynx T p), 0, (w, yhd B (ynm T p).toInt, []) :: fr, yN B 0 2 (B.1 0 2 + 1)) := by
  show ym10 T p w fr B = _
  unfold ym10
  have h8 := yW3_0 h6.1
  have h9 := yW2_c (B := B) (fr := fr)
  rw [if_neg (by omega), if_neg (by omega), if_neg (by omega), if_neg (by omega), if_pos ho, if_neg (by omega)]
theorem ym10_n {T : yT} {p w : Int} {fr : List yF} {B : yB} (h : ykd T p = 2) (h4 : 0 ≤ yhd B (ynm T p).toInt) (h6 : yW3 B fr = 0 ∧ (fr.length : Int) < 8 ∧ B.1 0 2 < 300) (h7 : ¬ ((yW2 B fr ≠ 0 ∧ 32 ≤ yhd B (ynm T p).toInt) ∨ (yW2 B fr = 1 ∧ yhd B (ynm T p).toInt = B.1 0 3))) (ho : ¬ (ykd T (ynx T p) = 60 ∧ ¬ ykd T (ynx T (ynx T p)) = 61)) : yms T (10, p, w, fr, B) = (12, ynx T p, 0, (w, yhd B (ynm T p).toInt, []) :: fr, yN B 0 2 (B.1 0 2 + 1)) := by
  show ym10 T p w fr B = _
  unfold ym10
  have h8 := yW3_0 h6.1
  have h9 := yW2_c (B := B) (fr := fr)
  rw [if_neg (by omega), if_neg (by omega), if_neg (by omega), if_neg (by omega), if_neg ho]
/-- a TYPE without ARGS, or with those that have been read -/
theorem yTI_h {T : yT} {μ m1 m2 : zM} {p w x : Int} {fr : List yF} {B : yB} {t q : Nat} {st : Int} (h : yTI T μ p B t q st (yfl fr ++ ywr w)) (hn : B.1 0 2 ≤ 299) (hk : ykd T p ≠ 0) (e1 : m1 = yteM μ (μ.1 50 ((3 : Nat) : Int)).toNat x) (e2 : ¬ m1.1 1 ((6 : Nat) : Int) = 0 ∧ m1.1 1 ((5 : Nat) : Int) + 1 ≤ 800 → m2 = ystM m1) (hm : μ.1 50 ((10 : Nat) : Int) = 0) : yTI T m2 (ynx T p) (yN B 0 2 (B.1 0 2 + 1)) t q st (yfl ((w, x, []) :: fr)) ∧ m2.1 50 ((10 : Nat) : Int) = 0 := by
  have q1 := yRC_te h.1 hn e1
  have q2 := yRC_st q1.1 hk e2
  have hl : yfl ((w, x, []) :: fr) = (yfl fr ++ ywr w) ++ [x] := by rw [yfl_c]; simp [ycd]
  have hq : q = t + 11 ∨ q = 51 := h.1.2.1.1.2
  have h50 : q ≠ 50 := by have := h.1.2.1.1.1; omega
  have h3 : (μ.1 50 ((3 : Nat) : Int)).toNat = q := by rw [h.1.2.1.2.2.1]; omega
  refine ⟨⟨q2.1, ?_, ⟨?_, h.2.2.1.2⟩, ?_⟩, ?_⟩
  · rw [hl]
    refine yRow_e (q1.2 st _ h.2.1 h.2.2.1.1) ?_
    rw [q2.2]
    exact ystM_ne _ _ (by have := h.1.2.1.1.1; omega) (by have := h.1.2.1.1.1; omega)
  · rw [hl, yN_at, List.length_append]
    have := h.2.2.1.1
    simp only [List.length_cons, List.length_nil]
    omega
  · rw [yN_ne (by decide), yN_ne (by decide)]; exact h.2.2.2
  · rw [q2.2, ystM_ne _ _ (by decide) (by decide), e1, h3]
    unfold yteM
    rw [zu_nk (by decide), zu_ne (Ne.symm h50)]
    exact hm
theorem yT1_m {T : yT} {s : yS} {w h p n x : Int} {fr : List yF} {B : yB} {t q : Nat} {st : Int} {μ μ' : zM} {as : List (List Int)} (hr : yR T s (12, p, 0, (w, h, as) :: fr, yN B 0 2 n)) (hi : yTI T μ p (yN B 0 2 n) t q st (yfl ((w, h, as) :: fr))) (e : μ' = zu μ 50 ((10 : Nat) : Int) x) (hx : (x = 0 ∧ (as.length : Int) = yar B h) ∨ (x = 1 ∧ (as.length : Int) ≠ yar B h)) : yT1 T s w fr B t q st μ' := by
  refine ⟨p, n, h, as, hr, ⟨yRC_50 hi.1 e (by decide), yRow_e hi.2.1 ?_, hi.2.2⟩, ?_⟩
  · have := hi.1.2.1.1.1
    have hq : q = t + 11 ∨ q = 51 := hi.1.2.1.1.2
    rw [e, zu_ne (by omega)]
  · unfold yMi
    rw [e, zu_at]
    exact hx
