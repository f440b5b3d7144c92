/-! ### a question's TYPE: its row is one of heads that may stand there -/
/-- heads that may stand there -/
def yVh (B : yB) (x : Int) : Prop := (0 ≤ x ∧ x < B.1 0 0) ∨ (0 ≤ B.1 0 3 ∧ 32 + B.1 2 (B.1 0 3) ≤ x ∧ x < 32 + B.1 2 (B.1 0 3) + B.1 3 (B.1 0 3)) ∨ (200 ≤ x ∧ x ≤ 202)
def yVp (B : yB) (l : List Int) : Prop := ∀ x ∈ l, yVh B x
def yVg (B : yB) (x : Int) : Prop := (0 ≤ x ∧ x < B.1 0 0) ∨ (0 ≤ B.1 0 3 ∧ 32 + B.1 2 (B.1 0 3) ≤ x ∧ x < 32 + B.1 2 (B.1 0 3) + B.1 3 (B.1 0 3))
def yVf (B : yB) (f : yF) : Prop := yVp B (f.2.1 :: f.2.2.flatten) ∧ yVg B f.2.1 ∧ ∀ a ∈ f.2.2, qZ (yar B) (yVh B) a
theorem yVg_N {B : yB} {y x : Int} (h : yVg B x) : yVg (yN B 0 2 y) x := by
  unfold yVg
  rw [show (yN B 0 2 y).1 0 0 = B.1 0 0 from yN_ne (by decide), show (yN B 0 2 y).1 0 3 = B.1 0 3 from yN_ne (by decide), yN_nk (by decide), yN_nk (by decide)]
  exact h
theorem yVh_N {B : yB} {y x : Int} (h : yVh B x) : yVh (yN B 0 2 y) x := by
  unfold yVh
  rw [show (yN B 0 2 y).1 0 0 = B.1 0 0 from yN_ne (by decide), show (yN B 0 2 y).1 0 3 = B.1 0 3 from yN_ne (by decide), yN_nk (by decide), yN_nk (by decide)]
  exact h
theorem qZ_N {B : yB} {y : Int} {l : List Int} (h : qZ (yar B) (yVh B) l) : qZ (yar (yN B 0 2 y)) (yVh (yN B 0 2 y)) l := by
  rw [yar_e (yN_ne (by decide)) (yN_nk (by decide))]
  exact qZ_m (fun x hx => yVh_N hx) h
theorem yVf_N {B : yB} {y : Int} {f : yF} (h : yVf B f) : yVf (yN B 0 2 y) f := ⟨fun x hx => yVh_N (h.1 x hx), yVg_N h.2.1, fun a ha => qZ_N (h.2.2 a ha)⟩
theorem yVf_a {B : yB} {l : List Int} {fr : List yF} (h : ∀ f ∈ fr, yVf B f) (hl : yVp B l) (hz : qZ (yar B) (yVh B) l) : ∀ f ∈ yadd l fr, yVf B f := by
  rcases fr with _ | ⟨a, r⟩
  · intro f hf; exact absurd hf (by simp [yadd])
  · intro g hg
    have hg : g ∈ ((a.1, a.2.1, a.2.2 ++ [l]) : yF) :: r := hg
    rcases List.mem_cons.mp hg with q | q
    · subst q
      refine ⟨?_, (h a List.mem_cons_self).2.1, fun b hb => ?_⟩
      rotate_left
      · have hb : b ∈ a.2.2 ++ [l] := hb
        rcases List.mem_append.mp hb with w | w
        · exact (h a List.mem_cons_self).2.2 b w
        · have : b = l := by simpa using w
          rw [this]; exact hz
      intro x hx
      rcases List.mem_cons.mp hx with w | w
      · exact (h a List.mem_cons_self).1 x (by rw [w]; exact List.mem_cons_self)
      · have w : x ∈ (a.2.2 ++ [l]).flatten := w
        rw [List.flatten_append, List.mem_append] at w
        rcases w with w | w
        · exact (h a List.mem_cons_self).1 x (List.mem_cons_of_mem _ w)
        · exact hl x (by simpa using w)
    · exact h g (List.mem_cons_of_mem _ q)
theorem yVf_c {B : yB} {f : yF} (h : yVf B f) : yVp B (ycd f) := by
  intro x hx
  unfold ycd ywr at hx
  rcases List.mem_append.mp hx with w | w
  · refine Or.inr (Or.inr ?_)
    split at w
    · have := List.mem_singleton.mp w; omega
    · split at w
      · have := List.mem_singleton.mp w; omega
      · simp at w
  · exact h.1 x w
theorem qZ_200 {B : yB} (hC : B.1 0 0 ≤ 21) : qZ (yar B) (yVh B) [200] := by
  refine qZ_mk (h := 200) (as := []) ?_ (Or.inr (Or.inr ⟨by decide, by decide⟩)) (fun a ha => by cases ha) (fun _ a ha => by cases ha)
  rw [yar_n (by omega) (by decide) (by decide) (by decide)]; rfl
theorem yVf_z {B : yB} {f : yF} (hC : B.1 0 0 ≤ 21) (hI : yI0 B) (h : yVf B f) (hw : f.1 = 0 ∨ f.1 = 4 ∨ f.1 = 5) (hn : (f.2.2.length : Int) = yar B f.2.1) : qZ (yar B) (yVh B) (ycd f) ∧ (f.1 = 0 → ¬ ywl (ycd f) = true) := by
  have g := h.2.1
  have i1 := hI.1
  have y1 := yar_w1 hC
  have hd : ¬ (200 ≤ f.2.1 ∧ f.2.1 ≤ 202) := by
    unfold yVg at g
    rcases g with g | ⟨g0, g⟩
    · omega
    · have := hI.2 (B.1 0 3) g0 i1.2.1.2
      omega
  have P : yVh B f.2.1 := by
    rcases g with g | g
    · exact Or.inl g
    · exact Or.inr (Or.inl g)
  have R : qZ (yar B) (yVh B) (f.2.1 :: f.2.2.flatten) := qZ_mk hn P h.2.2 (fun z => by exfalso; omega)
  have nw : ¬ ywl (f.2.1 :: f.2.2.flatten) = true := by
    rw [ywl_i]
    exact hd
  unfold ycd ywr
  rcases hw with w | w | w
  · rw [w, if_neg (by decide), if_neg (by decide)]
    exact ⟨R, fun _ => nw⟩
  · rw [w, if_pos rfl]
    refine ⟨?_, fun z => absurd z (by decide)⟩
    have q := qZ_mk (A := yar B) (P := yVh B) (h := 201) (as := [f.2.1 :: f.2.2.flatten]) (by rw [y1.1]; rfl) (Or.inr (Or.inr ⟨by decide, by decide⟩)) (fun a ha => by rw [List.mem_singleton.mp ha]; exact R) (fun _ a ha => by rw [List.mem_singleton.mp ha]; exact nw)
    simpa using q
  · rw [w, if_neg (by decide), if_pos rfl]
    refine ⟨?_, fun z => absurd z (by decide)⟩
    have q := qZ_mk (A := yar B) (P := yVh B) (h := 202) (as := [f.2.1 :: f.2.2.flatten]) (by rw [y1.2]; rfl) (Or.inr (Or.inr ⟨by decide, by decide⟩)) (fun a ha => by rw [List.mem_singleton.mp ha]; exact R) (fun _ a ha => by rw [List.mem_singleton.mp ha]; exact nw)
    simpa using q
/-- a FAULT has a number -/
theorem yflt_n {T : yT} {B : yB} {p c : Int} (hc : c ≠ 0) : (yflt T B p c).1 = 20 ∧ (yflt T B p c).2.2.1 ≠ 0 := by
  refine ⟨rfl, ?_⟩
  show (if ykd T p = 1 then 1 else c) ≠ 0
  split
  · decide
  · exact hc
def yKb (c : Nat) (x : Int) (fr : List yF) (B : yB) : Prop := (10 ≤ c ∧ c ≤ 14) ∧ yI0 B ∧ 2 ≤ B.1 0 4 ∧ ((∀ f ∈ fr, yGf B f) ∧ (∀ f ∈ fr, yVf B f)) ∧ (∀ f, fr.getLast? = some f → f.1 = 0) ∧ (c = 14 → ∃ f, fr = [f] ∧ (f.2.2.length : Int) = yar B f.2.1) ∧ (c = 11 ∨ c = 13 → fr ≠ []) ∧ (c = 10 → (x = 0 ∨ x = 4 ∨ x = 5) ∧ (fr = [] → x = 0))
def yKs (s : yS) : Prop := (s.1 = 20 ∧ s.2.2.1 ≠ 0) ∨ yKb s.1 s.2.2.1 s.2.2.2.1 s.2.2.2.2
theorem yKs_k {c : Nat} {p x : Int} {fr : List yF} {B : yB} (h : yKb c x fr B) : yKs (c, p, x, fr, B) := Or.inr h
theorem yI0_2 {B : yB} {x : Int} (h : yI0 B) : yI0 (yN B 0 2 x) := by
  have e0 : (yN B 0 2 x).1 0 0 = B.1 0 0 := yN_ne (by decide)
  have e1 : (yN B 0 2 x).1 0 1 = B.1 0 1 := yN_ne (by decide)
  have e3 : (yN B 0 2 x).1 0 3 = B.1 0 3 := yN_ne (by decide)
  have k2 : (yN B 0 2 x).1 2 = B.1 2 := yN_nk (by decide)
  have k3 : (yN B 0 2 x).1 3 = B.1 3 := yN_nk (by decide)
  unfold yI0
  rw [e0, e1, e3, k2, k3]
  exact h
theorem yhd_I {B : yB} {x : Int} (h : yI0 B) (hx : 0 ≤ yhd B x) : yIh B (yhd B x) := by
  unfold yIh
  unfold yhd at hx ⊢
  by_cases q : 0 ≤ yfp B x
  · rw [if_pos q]
    have b := yfp_b q
    right
    omega
  · rw [if_neg q] at hx ⊢
    left
    unfold yfc at hx ⊢
    rcases yfd_B (B.1 1) x 0 (B.1 0 0) with w | w
    · omega
    · exact ⟨hx, w.2.1⟩
theorem yLa {f g : yF} {fr : List yF} (h : (g :: fr).getLast? = some f) (hg : fr = [] → g.1 = 0) (hf : ∀ f, fr.getLast? = some f → f.1 = 0) : f.1 = 0 := by
  rcases fr with _ | ⟨a, r⟩
  · simp at h
    rw [← h]; exact hg rfl
  · rw [List.getLast?_cons_cons] at h
    exact hf f h
theorem yadd_ne {l : List Int} {fr : List yF} (h : fr ≠ []) : yadd l fr ≠ [] := by
  rcases fr with _ | ⟨a, r⟩
  · exact absurd rfl h
  · simp [yadd]
theorem yad_1 {l : List Int} {fr : List yF} (hf : ∀ f, fr.getLast? = some f → f.1 = 0) : ∀ f, (yadd l fr).getLast? = some f → f.1 = 0 := by
  intro f h
  rcases fr with _ | ⟨a, r⟩
  · simp [yadd] at h
  · have h : (((a.1, a.2.1, a.2.2 ++ [l]) : yF) :: r).getLast? = some f := h
    rcases r with _ | ⟨b, r⟩
    · simp at h
      rw [← h]
      exact hf a (by simp)
    · rw [List.getLast?_cons_cons] at h
      exact hf f (by rw [List.getLast?_cons_cons]; exact h)
theorem yKs_s {T : yT} {s : yS} (h : yKs s) : yKs (yms T s) := by
  obtain ⟨c, p, x, fr, B⟩ := s
  rcases h with h | ⟨hc, h0, h4, ⟨hf, hn0⟩, hl, h14, h11, h10⟩
  · have h1 : c = 20 := h.1
    subst h1
    exact Or.inl h
  have hc : 10 ≤ c ∧ c ≤ 14 := hc
  have h0 : yI0 B := h0
  have h4 : 2 ≤ B.1 0 4 := h4
  have hf : ∀ f ∈ fr, yGf B f := hf
  have hl : ∀ f, fr.getLast? = some f → f.1 = 0 := hl
  have hn0 : ∀ f ∈ fr, yVf B f := hn0
  have n4 : ∀ y : Int, 2 ≤ (yN B 0 2 y).1 0 4 := fun y => by rw [yN_ne (by decide)]; exact h4
  have nf : ∀ y : Int, ∀ f ∈ fr, yGf (yN B 0 2 y) f := fun y f hm => yGf_N (hf f hm)
  have i1 := h0.1
  by_cases c10 : c = 10
  · subst c10
    have h10 : (x = 0 ∨ x = 4 ∨ x = 5) ∧ (fr = [] → x = 0) := h10 rfl
    show yKs (ym10 T p x fr B)
    have new : ∀ (y : Int), 0 ≤ yhd B (ynm T p).toInt → ∀ f ∈ ((x, yhd B (ynm T p).toInt, []) : yF) :: fr, yGf (yN B 0 2 y) f := fun y hh f hm => by
      rcases List.mem_cons.mp hm with q | q
      · subst q
        exact yGf_N ⟨yhd_I h0 hh, fun a ha => absurd ha (by simp), h10.1⟩
      · exact nf y f q
    have newn : ∀ y : Int, 0 ≤ yhd B (ynm T p).toInt → ∀ f ∈ ((x, yhd B (ynm T p).toInt, []) : yF) :: fr, yVf (yN B 0 2 y) f := fun y hh f hm => by
      rcases List.mem_cons.mp hm with w | w
      · subst w
        have g : yVg B (yhd B (ynm T p).toInt) := by
          unfold yhd at hh ⊢
          by_cases q : 0 ≤ yfp B (ynm T p).toInt
          · rw [if_pos q]
            have b := yfp_b q
            exact Or.inr ⟨b.1, by omega, by omega⟩
          · rw [if_neg q] at hh ⊢
            unfold yfc at hh ⊢
            rcases yfd_B (B.1 1) (ynm T p).toInt 0 (B.1 0 0) with v | v
            · omega
            · exact Or.inl ⟨hh, v.2.1⟩
        refine ⟨fun z hz => ?_, yVg_N g, fun a ha => absurd ha (by simp)⟩
        have hz : z = yhd B (ynm T p).toInt := by simpa using hz
        refine yVh_N ?_
        rw [hz]
        rcases g with v | v
        · exact Or.inl v
        · exact Or.inr (Or.inl v)
      · exact yVf_N (hn0 f w)
    unfold ym10
    dsimp only
    split
    · exact Or.inl (yflt_n (by decide))
    split
    · exact Or.inl (yflt_n (by decide))
    rename_i hh
    split
    · exact Or.inl (yflt_n (by decide))
    split
    · exact Or.inl (yflt_n (by decide))
    split
    · split
      · exact Or.inl (yflt_n (by decide))
      · exact yKs_k ⟨⟨by decide, by decide⟩, yI0_2 h0, n4 _, ⟨new _ (by omega), newn _ (by omega)⟩, fun f q => yLa q (fun e => h10.2 e) hl, fun q => absurd q (by decide), fun _ => by simp, fun q => absurd q (by decide)⟩
    · exact yKs_k ⟨⟨by decide, by decide⟩, yI0_2 h0, n4 _, ⟨new _ (by omega), newn _ (by omega)⟩, fun f q => yLa q (fun e => h10.2 e) hl, fun q => absurd q (by decide), fun q => absurd q (by decide), fun q => absurd q (by decide)⟩
  by_cases c11 : c = 11
  · subst c11
    have hne : fr ≠ [] := h11 (Or.inl rfl)
    show yKs (ym11 T p fr B)
    unfold ym11
    dsimp only
    split
    · split
      · exact Or.inl (yflt_n (by decide))
      split
      · exact Or.inl (yflt_n (by decide))
      split
      · exact yKs_k ⟨⟨by decide, by decide⟩, yI0_2 h0, n4 _, ⟨nf _, fun f hm => yVf_N (hn0 f hm)⟩, hl, fun q => absurd q (by decide), fun q => absurd q (by decide), fun _ => ⟨Or.inr (Or.inl rfl), fun q => absurd q hne⟩⟩
      split
      · exact yKs_k ⟨⟨by decide, by decide⟩, yI0_2 h0, n4 _, ⟨nf _, fun f hm => yVf_N (hn0 f hm)⟩, hl, fun q => absurd q (by decide), fun q => absurd q (by decide), fun _ => ⟨Or.inr (Or.inr rfl), fun q => absurd q hne⟩⟩
      refine yKs_k ⟨⟨by decide, by decide⟩, yI0_2 h0, n4 _, ⟨yGf_a (nf _) ⟨?_, fun y hy a b => ?_⟩, yVf_a (fun f hm => yVf_N (hn0 f hm)) (fun y hy => Or.inr (Or.inr (by have := List.mem_singleton.mp hy; omega))) (qZ_N (qZ_200 i1.1.2))⟩, yad_1 hl, fun q => absurd q (by decide), fun _ => yadd_ne hne, fun q => absurd q (by decide)⟩
      · have := yone_h (A := yar (yN B 0 2 (B.1 0 2 + 1))) (h := 200) (as := []) ?_ (fun a ha => absurd ha (by simp))
        · exact this
        · rw [yar_e (yN_ne (by decide)) (yN_nk (by decide)), yar_n (by omega) (by decide) (by decide) (by decide)]; rfl
      · have := List.mem_singleton.mp hy; omega
    · exact yKs_k ⟨⟨by decide, by decide⟩, h0, h4, ⟨hf, hn0⟩, hl, fun q => absurd q (by decide), fun q => absurd q (by decide), fun _ => ⟨Or.inl rfl, fun _ => rfl⟩⟩
  by_cases c12 : c = 12
  · subst c12
    show yKs (ym12 T p fr B)
    rcases fr with _ | ⟨f, r⟩
    · exact yKs_k ⟨⟨by decide, by decide⟩, h0, h4, ⟨hf, hn0⟩, hl, fun q => absurd q (by decide), fun q => absurd q (by decide), fun q => absurd q (by decide)⟩
    unfold ym12
    dsimp only
    split
    · exact Or.inl (yflt_n (by decide))
    split
    · exact Or.inl (yflt_n (by decide))
    rename_i hn
    rcases r with _ | ⟨a, r⟩
    · exact yKs_k ⟨⟨by decide, by decide⟩, h0, h4, ⟨hf, hn0⟩, hl, fun _ => ⟨f, rfl, by omega⟩, fun q => absurd q (by decide), fun q => absurd q (by decide)⟩
    · refine yKs_k ⟨⟨by decide, by decide⟩, h0, h4, ⟨yGf_a (fun g hg => hf g (List.mem_cons_of_mem _ hg)) (yGa_c (by omega) (hf f List.mem_cons_self) (by omega)), yVf_a (fun g hg => hn0 g (List.mem_cons_of_mem _ hg)) (yVf_c (hn0 f List.mem_cons_self)) (yVf_z i1.1.2 h0 (hn0 f List.mem_cons_self) (hf f List.mem_cons_self).2.2 (by omega)).1⟩, yad_1 (fun g hg => hl g (by rw [List.getLast?_cons_cons]; exact hg)), fun q => absurd q (by decide), fun _ => yadd_ne (by simp), fun q => absurd q (by decide)⟩
  by_cases c13 : c = 13
  · subst c13
    show yKs (if ykd T p = 44 then (11, ynx T p, 0, fr, B) else if ykd T p = 62 then (12, ynx T p, 0, fr, B) else yflt T B p 2)
    split
    · exact yKs_k ⟨⟨by decide, by decide⟩, h0, h4, ⟨hf, hn0⟩, hl, fun q => absurd q (by decide), fun _ => h11 (Or.inr rfl), fun q => absurd q (by decide)⟩
    split
    · exact yKs_k ⟨⟨by decide, by decide⟩, h0, h4, ⟨hf, hn0⟩, hl, fun q => absurd q (by decide), fun q => absurd q (by decide), fun q => absurd q (by decide)⟩
    exact Or.inl (yflt_n (by decide))
  have c14 : c = 14 := by omega
  subst c14
  show yKs (ym14 T p fr B)
  rcases fr with _ | ⟨f, rs⟩
  · exact yKs_k ⟨⟨by decide, by decide⟩, h0, h4, ⟨hf, hn0⟩, hl, h14, fun q => absurd q (by decide), fun q => absurd q (by decide)⟩
  unfold ym14
  dsimp only
  rw [if_neg (by omega), if_neg (by omega)]
  exact yKs_k ⟨⟨by decide, by decide⟩, h0, h4, ⟨hf, hn0⟩, hl, h14, fun q => absurd q (by decide), fun q => absurd q (by decide)⟩
theorem yKs_R {T : yT} {s s' : yS} (h : yKs s) (hr : yR T s s') : yKs s' := by
  obtain ⟨k, rfl⟩ := hr
  induction k generalizing s with
  | zero => exact h
  | succ k ih => exact ih (yKs_s h)
/-- FAULTS of a question have numbers -/
theorem yqo_x {T : yT} {B : yB} {x l : Int} (h : yqo T B = .inr (x, l)) : x ≠ 0 := by
  have f : ∀ p c : Int, c ≠ 0 → (yfq T p c).1 ≠ 0 := fun p c hc => by
    show (if ykd T p = 1 then 1 else c) ≠ 0
    split
    · decide
    · exact hc
  unfold yqo at h
  split at h
  · cases h
  split at h
  · cases h; exact f _ _ (by decide)
  split at h
  · cases h; exact f _ _ (by decide)
  split at h
  · cases h; exact f _ _ (by decide)
  · cases h
theorem yqo_o {T : yT} {B : yB} {o p : Int} (h : yqo T B = .inl (o, p)) (ho : o < B.1 0 0) : -1 ≤ o ∧ o < B.1 0 0 := by
  refine ⟨?_, ho⟩
  unfold yqo at h
  split at h
  · cases h; decide
  split at h
  · cases h
  split at h
  · cases h
  rename_i q
  split at h
  · cases h
  · cases h; omega
theorem yqo_i {T : yT} {B : yB} {o p : Int} (h : yqo T B = .inl (o, p)) (hB : 1 ≤ B.1 0 0) : o < B.1 0 0 := by
  unfold yqo at h
  split at h
  · cases h; omega
  split at h
  · cases h
  split at h
  · cases h
  split at h
  · cases h
  · cases h
    unfold yfc
    rcases yfd_B (B.1 1) (ynm T (ynx T 0)).toInt 0 (B.1 0 0) with w | w
    · omega
    · exact w.2.1
theorem yfq_x {T : yT} {p c : Int} (hc : c ≠ 0) : (yfq T p c).1 ≠ 0 := by
  show (if ykd T p = 1 then 1 else c) ≠ 0
  split
  · decide
  · exact hc
theorem yKs_x {T : yT} {B B1 : yB} {o p l x r n : Int} (hI : yI0 B) (ho : -1 ≤ o ∧ o < B.1 0 0) (hr : 2 ≤ r) (h : yR T (10, p, 0, [], yQB B n o r) (20, l, x, [], B1)) : x ≠ 0 := by
  have v := yQB_v B n o r
  have q := yKs_R (s := (10, p, 0, [], yQB B n o r)) (yKs_k ⟨⟨by decide, by decide⟩, yI0_q hI ho, by rw [v.1]; exact hr, ⟨fun f hf => absurd hf (by simp), fun f hf => absurd hf (by simp)⟩, fun f hf => by simp at hf, fun q => absurd q (by decide), fun q => absurd q (by decide), fun _ => ⟨Or.inl rfl, fun _ => rfl⟩⟩) h
  rcases q with q | q
  · exact q.2
  · exact absurd (show (20 : Nat) ≤ 14 from q.1.2) (by decide)
