theorem yRC_pre {T : yT} {μ : zM} {p : Int} {B : yB} {t q : Nat} (h : yRC T μ p B t q) (k : Int) : 0 ≤ k ∧ k < μ.1 t ((12 : Nat) : Int) → 0 ≤ μ.1 (Nat.add t 2) k ∧ μ.1 (Nat.add t 2) k + μ.1 (Nat.add t 3) k ≤ 80 := by
  intro hk
  obtain ⟨⟨g1, g2, g3, g4⟩, g5, g6⟩ := h.2.2.1
  have := g5 k hk.1 (by omega)
  omega
theorem yop {T : yT} {μ : zM} {p : Int} {B : yB} {t q : Nat} (h : yRC T μ p B t q) : (μ.1 1 ((6 : Nat) : Int) = 60 ∧ ¬ μ.1 3 (μ.1 1 ((5 : Nat) : Int) + 1) = 61) ↔ (ykd T p = 60 ∧ ¬ ykd T (ynx T p) = 61) := by
  rw [(yTI_k h).1]
  by_cases q : ykd T p = 60
  · rw [(yRT_n h.1 (by rw [q]; decide)).2]
  · simp [q]
theorem yW4_2 {B : yB} {n w h : Int} {fr : List yF} {as : List (List Int)} : yW4 (yN B 0 2 n) ((w, h, as) :: fr) = if yW2 B fr = 1 then 1 else 0 := by
  have h9 := (yW2_c (B := B) (fr := fr)).2.1
  unfold yW4
  rw [yN_ne (by decide)]
  by_cases q : yW2 B fr = 1
  · rw [if_pos q, if_pos]
    have := h9.mp q
    exact ⟨by simp only [List.length_cons]; omega, this.2⟩
  · rw [if_neg q, if_neg]
    intro c
    exact q (h9.mpr ⟨by have := c.1; simp only [List.length_cons] at this; omega, c.2⟩)
theorem yW4_N {B : yB} {n w h w' h' : Int} {fr : List yF} {as as' : List (List Int)} : yW4 (yN B 0 2 n) ((w, h, as) :: fr) = yW4 B ((w', h', as') :: fr) := by
  unfold yW4
  rw [yN_ne (by decide)]
  rfl
theorem yTI_0 {T : yT} {μ : zM} {p : Int} {B : yB} {t q : Nat} {st : Int} {l : List Int} (h : yTI T μ p B t q st l) : yTI T μ p B t q st (l ++ ywr 0) := by
  rw [show ywr 0 = [] from rfl, List.append_nil]; exact h
theorem yT1_t {T : yT} {s s' : yS} {w m : Int} {fr : List yF} {B : yB} {t q : Nat} {st : Int} {μ : zM} (hr : yR T s s') (h : yT1 T s' w fr (yN B 0 2 m) t q st μ) : yT1 T s w fr B t q st μ := by
  obtain ⟨p, n, x, as, h1, h2, h3⟩ := h
  rw [yN_N] at h1 h2
  refine ⟨p, n, x, as, yR_t hr h1, h2, ?_⟩
  unfold yMi at h3 ⊢
  rw [yar_N] at h3
  exact h3
theorem yTI_st {T : yT} {μ m1 : zM} {p : Int} {B : yB} {t q : Nat} {st : Int} {l : List Int} (h : yTI T μ p B t q st l) (hk : ykd T p ≠ 0) (e : ¬ μ.1 1 ((6 : Nat) : Int) = 0 ∧ μ.1 1 ((5 : Nat) : Int) + 1 ≤ 800 → m1 = ystM μ) : yTI T m1 (ynx T p) B t q st l ∧ m1.1 50 = μ.1 50 := by
  have q1 := yRC_st h.1 hk e
  have hq : q = t + 11 ∨ q = 51 := h.1.2.1.1.2
  have ht := h.1.2.1.1.1
  refine ⟨⟨q1.1, yRow_e h.2.1 ?_, h.2.2⟩, ?_⟩
  · rw [q1.2]; exact ystM_ne _ _ (by omega) (by omega)
  · rw [q1.2]; exact ystM_ne _ _ (by decide) (by decide)
theorem yTI_te {T : yT} {μ m1 : zM} {p x : Int} {B : yB} {t q : Nat} {st : Int} {l : List Int} (h : yTI T μ p B t q st l) (hn : B.1 0 2 ≤ 299) (e : m1 = yteM μ (μ.1 50 ((3 : Nat) : Int)).toNat x) : yTI T m1 p (yN B 0 2 (B.1 0 2 + 1)) t q st (l ++ [x]) ∧ m1.1 50 ((10 : Nat) : Int) = μ.1 50 ((10 : Nat) : Int) := by
  have q1 := yRC_te h.1 hn e
  have hq : q = t + 11 ∨ q = 51 := h.1.2.1.1.2
  have ht := h.1.2.1.1.1
  have h3 : (μ.1 50 ((3 : Nat) : Int)).toNat = q := by rw [h.1.2.1.2.2.1]; omega
  refine ⟨⟨q1.1, q1.2 st l h.2.1 h.2.2.1.1, ⟨?_, h.2.2.1.2⟩, ?_⟩, ?_⟩
  · rw [yN_at, List.length_append]
    have := h.2.2.1.1
    simp only [List.length_cons, List.length_nil]
    omega
  · rw [yN_ne (by decide), yN_ne (by decide)]; exact h.2.2.2
  · rw [e, h3]
    unfold yteM
    rw [zu_nk (by decide), zu_ne (by omega)]
theorem ym11_6 {T : yT} {p : Int} {fr : List yF} {B : yB} (h : ykd T p = 63) (h6 : 300 ≤ B.1 0 2) : yms T (11, p, 0, fr, B) = yflt T B p 6 := by
  show ym11 T p fr B = _
  unfold ym11
  rw [if_pos h, if_pos h6]
theorem ym11_7 {T : yT} {p : Int} {fr : List yF} {B : yB} (h : ykd T p = 63) (h6 : B.1 0 2 < 300) (h7 : yW4 B fr ≠ 0) : yms T (11, p, 0, fr, B) = yflt T B p 7 := by
  show ym11 T p fr B = _
  unfold ym11
  unfold yW4 at h7
  split at h7
  · rename_i c
    rw [if_pos h, if_neg (by omega), if_pos ⟨c.2, c.1⟩]
  · exact absurd rfl h7
theorem yW4_0 {B : yB} {fr : List yF} (h7 : yW4 B fr = 0) : ¬ (B.1 0 4 = 1 ∧ fr.length = 1) := by
  unfold yW4 at h7
  split at h7
  · omega
  · rename_i c; exact fun q => c ⟨q.2, q.1⟩
theorem ym11_u {T : yT} {p : Int} {fr : List yF} {B : yB} (h : ykd T p = 63) (h6 : B.1 0 2 < 300) (h7 : yW4 B fr = 0) (hu : ykd T (ynx T p) = 58) : yms T (11, p, 0, fr, B) = (10, ynx T (ynx T p), 4, fr, yN B 0 2 (B.1 0 2 + 1)) := by
  show ym11 T p fr B = _
  unfold ym11
  rw [if_pos h, if_neg (by omega), if_neg (yW4_0 h7), if_pos hu]
theorem ym11_d {T : yT} {p : Int} {fr : List yF} {B : yB} (h : ykd T p = 63) (h6 : B.1 0 2 < 300) (h7 : yW4 B fr = 0) (hu : ykd T (ynx T p) = 94) : yms T (11, p, 0, fr, B) = (10, ynx T (ynx T p), 5, fr, yN B 0 2 (B.1 0 2 + 1)) := by
  show ym11 T p fr B = _
  unfold ym11
  rw [if_pos h, if_neg (by omega), if_neg (yW4_0 h7), if_neg (by omega), if_pos hu]
theorem ym11_p {T : yT} {p : Int} {fr : List yF} {B : yB} (h : ykd T p = 63) (h6 : B.1 0 2 < 300) (h7 : yW4 B fr = 0) (hu : ykd T (ynx T p) ≠ 58) (hd : ykd T (ynx T p) ≠ 94) : yms T (11, p, 0, fr, B) = (13, ynx T p, 0, yadd [200] fr, yN B 0 2 (B.1 0 2 + 1)) := by
  show ym11 T p fr B = _
  unfold ym11
  rw [if_pos h, if_neg (by omega), if_neg (yW4_0 h7), if_neg hu, if_neg hd]
theorem ym11_t {T : yT} {p : Int} {fr : List yF} {B : yB} (h : ykd T p ≠ 63) : yms T (11, p, 0, fr, B) = (10, p, 0, fr, B) := by
  show ym11 T p fr B = _
  unfold ym11
  rw [if_neg h]
theorem ym12_2 {T : yT} {p : Int} {f g : yF} {fr : List yF} {B : yB} (h : ykd T p ≠ 44) (h2 : ykd T p ≠ 62) : yms T (12, p, 0, f :: g :: fr, B) = yflt T B p 2 := by
  show ym12 T p (f :: g :: fr) B = _
  unfold ym12
  dsimp only
  rw [if_pos]
  unfold ymay
  rw [if_neg (by simp), decide_eq_false h, decide_eq_false h2]; rfl
theorem ym12_may {T : yT} {p : Int} {g : yF} {fr : List yF} {B : yB} (h : ykd T p = 44 ∨ ykd T p = 62) : ¬ ymay B (g :: fr).length (ykd T p) = false := by
  unfold ymay
  rw [if_neg (by simp)]
  simp only [Bool.or_eq_false_iff, decide_eq_false_iff_not]
  omega
theorem ym12_5 {T : yT} {p : Int} {f g : yF} {fr : List yF} {B : yB} (h : ykd T p = 44 ∨ ykd T p = 62) (h5 : (f.2.2.length : Int) ≠ yar B f.2.1) : yms T (12, p, 0, f :: g :: fr, B) = yflt T B p 5 := by
  show ym12 T p (f :: g :: fr) B = _
  unfold ym12
  dsimp only
  rw [if_neg (ym12_may h), if_pos h5]
theorem ym12_c {T : yT} {p : Int} {f g : yF} {fr : List yF} {B : yB} (h : ykd T p = 44 ∨ ykd T p = 62) (h5 : (f.2.2.length : Int) = yar B f.2.1) : yms T (12, p, 0, f :: g :: fr, B) = (13, p, 0, yadd (ycd f) (g :: fr), B) := by
  show ym12 T p (f :: g :: fr) B = _
  unfold ym12
  dsimp only
  rw [if_neg (ym12_may h), if_neg (by omega)]
theorem ym13_2 {T : yT} {p : Int} {fr : List yF} {B : yB} (h : ykd T p ≠ 44) (h2 : ykd T p ≠ 62) : yms T (13, p, 0, fr, B) = yflt T B p 2 := by
  show (if _ then _ else _) = _
  rw [if_neg h, if_neg h2]
theorem ym13_c {T : yT} {p : Int} {fr : List yF} {B : yB} (h : ykd T p = 44) : yms T (13, p, 0, fr, B) = (11, ynx T p, 0, fr, B) := by
  show (if _ then _ else _) = _
  rw [if_pos h]
theorem ym13_g {T : yT} {p : Int} {fr : List yF} {B : yB} (h : ykd T p = 62) : yms T (13, p, 0, fr, B) = (12, ynx T p, 0, fr, B) := by
  show (if _ then _ else _) = _
  rw [if_neg (by omega), if_pos h]
theorem ycd_ne (f : yF) : ycd f ≠ [] := by unfold ycd; simp
theorem yfl_len {as : List (List Int)} (h : ∀ a ∈ as, a ≠ []) : as.length ≤ as.flatten.length := by
  induction as with
  | nil => simp
  | cons a r ih =>
    have h1 := h a List.mem_cons_self
    have h2 := ih (fun b hb => h b (List.mem_cons_of_mem _ hb))
    have : 1 ≤ a.length := by cases a with
      | nil => exact absurd rfl h1
      | cons _ _ => simp
    simp only [List.length_cons, List.flatten_cons, List.length_append]
    omega
/-- there are never so many ARGS -/
theorem yAI_300 {T : yT} {s : yS} {w h : Int} {fr : List yF} {B : yB} {t q : Nat} {st v : Int} {μ : zM} (hi : yAI T s w h fr B t q st v μ) : v ≤ 300 := by
  obtain ⟨p, n, as, ⟨h1, h2, h3, h4⟩, h5, h6⟩ := hi
  have a1 := h5.2.2.1
  have a2 := h5.1.2.1.2.2.2.2.2
  have a3 := yfl_len h3
  rw [yfl_c] at a1
  have a4 : as.flatten.length + 1 ≤ (ycd (w, h, as)).length := by unfold ycd; simp only [List.length_append, List.length_cons]; omega
  rw [List.length_append] at a1
  omega
/-- an ARG has been read, up to what stands behind it -/
def yAA (T : yT) (s : yS) (w h : Int) (fr : List yF) (B : yB) (t q : Nat) (st v : Int) (μ : zM) : Prop := (∃ (p n : Int) (as : List (List Int)), (yR T s (13, p, 0, (w, h, as) :: fr, yN B 0 2 n) ∧ v = as.length ∧ (∀ a ∈ as, a ≠ [])) ∧ yTI T μ p (yN B 0 2 n) t q st (yfl ((w, h, as) :: fr)) ∧ μ.1 50 ((10 : Nat) : Int) = 0) ∨
  ∃ (p n : Int) (as : List (List Int)) (f : yF), (yR T s (12, p, 0, f :: (w, h, as) :: fr, yN B 0 2 n) ∧ v = as.length + 1 ∧ (∀ a ∈ as, a ≠ [])) ∧ yTI T μ p (yN B 0 2 n) t q st (yfl (f :: (w, h, as) :: fr)) ∧ yMi μ B f.2.1 f.2.2
theorem yAA_w {T : yT} {s : yS} {w h p n v : Int} {fr : List yF} {B : yB} {t q : Nat} {st : Int} {μ : zM} {as : List (List Int)} (hr : yR T s (11, p, 0, (w, h, as) :: fr, yN B 0 2 n)) (hv : v = as.length + 1) (ha : ∀ a ∈ as, a ≠ []) (hw : yWO T (11, p, 0, (w, h, as) :: fr, yN B 0 2 n) ((w, h, as) :: fr) (yN B 0 2 n) t q st 1 μ) : yAA T s w h fr B t q st v μ := by
  rcases hw with ⟨-, ⟨p', n', h1, h2, h3⟩ | ⟨w', p', n', h', as', h1, h2, h3⟩⟩ | ⟨h1, -⟩
  · rw [yN_N] at h1 h2
    refine Or.inl ⟨p', n', as ++ [[200]], ⟨yR_t hr h1, by rw [hv]; simp, ?_⟩, ?_, h3⟩
    · intro a ha'
      rcases List.mem_append.mp ha' with q | q
      · exact ha a q
      · rw [List.mem_singleton.mp q]; simp
    · rw [show yfl ((w, h, as ++ [[200]]) :: fr) = yfl ((w, h, as) :: fr) ++ [200] from yfl_a [200] (w, h, as) fr]; exact h2
  · rw [yN_N] at h1 h2
    refine Or.inr ⟨p', n', as, _, ⟨yR_t hr h1, hv, ha⟩, h2, ?_⟩
    unfold yMi at h3 ⊢
    rw [yar_N] at h3
    exact h3
  · omega
theorem yAA_t {T : yT} {s : yS} {w h p n v : Int} {fr : List yF} {B : yB} {t q : Nat} {st : Int} {μ : zM} {as : List (List Int)} (hr : yR T s (11, p, 0, (w, h, as) :: fr, yN B 0 2 n)) (hk : ykd T p ≠ 63) (hv : v = as.length + 1) (ha : ∀ a ∈ as, a ≠ []) (hw : yTO T (10, p, 0, (w, h, as) :: fr, yN B 0 2 n) 0 ((w, h, as) :: fr) (yN B 0 2 n) t q st 1 μ) : yAA T s w h fr B t q st v μ := by
  rcases hw with ⟨-, p', n', h', as', h1, h2, h3⟩ | ⟨h1, -⟩
  · rw [yN_N] at h1 h2
    refine Or.inr ⟨p', n', as, _, ⟨yR_t (yR_s hr (ym11_t hk)) h1, hv, ha⟩, h2, ?_⟩
    unfold yMi at h3 ⊢
    rw [yar_N] at h3
    exact h3
  · omega
/-- behind an ARG -/
theorem yAA_b {T : yT} {s : yS} {w h v x a : Int} {fr : List yF} {B : yB} {t q : Nat} {st : Int} {μ μ' : zM} (hi : yAA T s w h fr B t q st v μ) (ha : (a = 1 ∧ (μ.1 1 ((6 : Nat) : Int) = 44 ∨ μ.1 1 ((6 : Nat) : Int) = 62)) ∨ (a = 0 ∧ ¬ μ.1 1 ((6 : Nat) : Int) = 44 ∧ ¬ μ.1 1 ((6 : Nat) : Int) = 62)) (hb : (x = 1 ∧ (a = 1 ∧ μ.1 50 ((10 : Nat) : Int) = 0) ∧ μ' = μ) ∨ (x = 0 ∧ ((a = 0 ∧ μ' = yflM μ 2) ∨ (a = 1 ∧ μ.1 50 ((10 : Nat) : Int) = 1 ∧ μ' = yflM μ 5)))) : (x = 0 ∧ yFa T s μ') ∨ (x = 1 ∧ μ' = μ ∧ ∃ (p n : Int) (as : List (List Int)), (yR T s (13, p, 0, (w, h, as) :: fr, yN B 0 2 n) ∧ v = as.length ∧ (∀ a ∈ as, a ≠ []) ∧ (ykd T p = 44 ∨ ykd T p = 62)) ∧ yTI T μ' p (yN B 0 2 n) t q st (yfl ((w, h, as) :: fr)) ∧ μ'.1 50 ((10 : Nat) : Int) = 0) := by
  rcases hi with ⟨p, n, as, ⟨h1, h2, h3⟩, h4, h5⟩ | ⟨p, n, as, f, ⟨h1, h2, h3⟩, h4, h5⟩
  · have k := (yTI_k h4.1).1
    rw [k] at ha
    rcases hb with ⟨b1, b2, b3⟩ | ⟨b1, ⟨b2, b3⟩ | ⟨b2, b3, b4⟩⟩
    · exact Or.inr ⟨b1, b3, p, n, as, ⟨h1, h2, h3, by omega⟩, by rw [b3]; exact h4, by rw [b3]; exact h5⟩
    · exact Or.inl ⟨b1, yFa_f h4.1 (yR_s h1 (ym13_2 (by omega) (by omega))) b3⟩
    · omega
  · have k := (yTI_k h4.1).1
    rw [k] at ha
    rcases hb with ⟨b1, b2, b3⟩ | ⟨b1, ⟨b2, b3⟩ | ⟨b2, b3, b4⟩⟩
    · rcases h5 with ⟨c1, c2⟩ | ⟨c1, c2⟩
      · refine Or.inr ⟨b1, b3, p, n, as ++ [ycd f], ⟨yR_s h1 (ym12_c (by omega) (by rw [yar_N]; exact c2)), by rw [h2]; simp, ?_, by omega⟩, ?_, by rw [b3]; exact c1⟩
        · intro a ha'
          rcases List.mem_append.mp ha' with q | q
          · exact h3 a q
          · rw [List.mem_singleton.mp q]; exact ycd_ne f
        · rw [b3, show yfl ((w, h, as ++ [ycd f]) :: fr) = yfl ((w, h, as) :: fr) ++ ycd f from yfl_a (ycd f) (w, h, as) fr, ← yfl_c]; exact h4
      · omega
    · exact Or.inl ⟨b1, yFa_f h4.1 (yR_s h1 (ym12_2 (by omega) (by omega))) b3⟩
    · rcases h5 with ⟨c1, c2⟩ | ⟨c1, c2⟩
      · omega
      · exact Or.inl ⟨b1, yFa_f h4.1 (yR_s h1 (ym12_5 (by omega) (by rw [yar_N]; exact c2))) b4⟩
