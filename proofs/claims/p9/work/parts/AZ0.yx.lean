/-! ### every step keeps it -/
theorem yIf_w {c : Nat} {x : Int} {fr : List yF} {B : yB} (hc : c ≠ 15) (h : 10 ≤ c → c ≤ 14 → (∀ f ∈ fr, yGf B f) ∧ (B.1 0 4 = 1 → ∀ f, fr.getLast? = some f → f.2.1 < 32 ∧ f.2.1 ≠ B.1 0 3) ∧ (c = 14 → ∃ f, fr = [f] ∧ (f.2.2.length : Int) = yar B f.2.1) ∧ (c = 10 → x = 0 ∨ x = 4 ∨ x = 5)) : yIf c x fr B := ⟨fun q => absurd q hc, h⟩
theorem yNL_nk {B : yB} {k k' a : Nat} {i j b c : Int} {l : List (List Int)} (h : k' ≠ k) : (yN (yL B k i j l) a b c).2 k' = B.2 k' := by
  funext i' j'
  exact yL_ne (Or.inl h)
theorem yI_z {c c' : Nat} {x x' : Int} {fr fr' : List yF} {B : yB} (h : yI c x fr B) (hc : ¬ yopn c) (hc' : ¬ yopn c' ∧ c' ≠ 15) (hf : yIf c' x' fr' B) : yI c' x' fr' B := ⟨h.1, h.2.1, fun e a b _ => h.2.2.1 e a b (fun q => hc q.1), fun k d q => h.2.2.2.1 k d (q.imp id (fun w => absurd w.1 hc'.1)), fun q => by rcases q with q | q; exact absurd q hc'.1; exact absurd q hc'.2, hf⟩
theorem yIh_hd {B : yB} {y : Int} (h0 : yI0 B) (h : 0 ≤ yhd B y) : yIh B (yhd B y) := by
  unfold yhd at h ⊢
  split
  · rename_i q
    have := yfp_B q
    right
    omega
  · rename_i q
    rw [if_neg q] at h
    left
    unfold yfc at h ⊢
    rcases yfd_B (B.1 1) y 0 (B.1 0 0) with e | e <;> omega
theorem yInv_10 {T : yT} {p w : Int} {fr : List yF} {B : yB} (h : yI 10 w fr B) : yInv (ym10 T p w fr B) := by
  have o : yopn 10 := Or.inr ⟨by decide, by decide⟩
  have hf := h.2.2.2.2.2.2 (by decide) (by decide)
  have w0 := hf.2.2.2 rfl
  unfold ym10
  dsimp only
  split
  · exact Or.inl rfl
  split
  · exact Or.inl rfl
  rename_i hh
  split
  · exact Or.inl rfl
  split
  · exact Or.inl rfl
  rename_i h7
  have hf' : ∀ f ∈ ((w, yhd B (ynm T p).toInt, []) : yF) :: fr, yGf (yN B 0 2 (B.1 0 2 + 1)) f := fun f hm => by
    rcases List.mem_cons.mp hm with q | q
    · subst q
      exact yGf_N ⟨yIh_hd h.1 (by omega), fun a ha => absurd ha (by simp), w0⟩
    · exact yGf_N (hf.1 f q)
  have hl : (yN B 0 2 (B.1 0 2 + 1)).1 0 4 = 1 → ∀ f, (((w, yhd B (ynm T p).toInt, []) : yF) :: fr).getLast? = some f → f.2.1 < 32 ∧ f.2.1 ≠ (yN B 0 2 (B.1 0 2 + 1)).1 0 3 := fun r f hm => by
    rw [yN_ne (by decide)] at r ⊢
    rcases fr with _ | ⟨g, fr⟩
    · simp at hm
      rw [← hm]
      dsimp only [List.length_nil] at h7 ⊢
      omega
    · rw [List.getLast?_cons_cons] at hm
      exact hf.2.1 r f hm
  split
  · split
    · exact Or.inl rfl
    · exact yInv_m (yI_N h ⟨fun _ => o, fun _ => Or.inr ⟨by decide, by decide⟩⟩ (fun _ => Or.inl o) (fun q => by exact absurd q (by decide)) (by decide) (yIf_w (by decide) fun _ _ => ⟨hf', hl, fun q => by exact absurd q (by decide), fun q => by exact absurd q (by decide)⟩))
  · exact yInv_m (yI_N h ⟨fun _ => o, fun _ => Or.inr ⟨by decide, by decide⟩⟩ (fun _ => Or.inl o) (fun q => by exact absurd q (by decide)) (by decide) (yIf_w (by decide) fun _ _ => ⟨hf', hl, fun q => by exact absurd q (by decide), fun q => by exact absurd q (by decide)⟩))
theorem yInv_11 {T : yT} {p x : Int} {fr : List yF} {B : yB} (h : yI 11 x fr B) : yInv (ym11 T p fr B) := by
  have o : yopn 11 := Or.inr ⟨by decide, by decide⟩
  have hf := h.2.2.2.2.2.2 (by decide) (by decide)
  have hn : ∀ f ∈ fr, yGf (yN B 0 2 (B.1 0 2 + 1)) f := fun f q => yGf_N (hf.1 f q)
  have hl : (yN B 0 2 (B.1 0 2 + 1)).1 0 4 = 1 → ∀ f, fr.getLast? = some f → f.2.1 < 32 ∧ f.2.1 ≠ (yN B 0 2 (B.1 0 2 + 1)).1 0 3 := fun r f hm => by
    rw [yN_ne (by decide)] at r ⊢
    exact hf.2.1 r f hm
  have t10 : ∀ y : Int, (y = 0 ∨ y = 4 ∨ y = 5) → yI 10 y fr (yN B 0 2 (B.1 0 2 + 1)) := fun y hy => yI_N h ⟨fun _ => o, fun _ => Or.inr ⟨by decide, by decide⟩⟩ (fun _ => Or.inl o) (fun q => by exact absurd q (by decide)) (by decide) (yIf_w (by decide) fun _ _ => ⟨hn, hl, fun q => by exact absurd q (by decide), fun _ => hy⟩)
  unfold ym11
  split
  · split
    · exact Or.inl rfl
    split
    · exact Or.inl rfl
    dsimp only
    split
    · exact yInv_m (t10 4 (by decide))
    split
    · exact yInv_m (t10 5 (by decide))
    refine yInv_m (yI_N h ⟨fun _ => o, fun _ => Or.inr ⟨by decide, by decide⟩⟩ (fun _ => Or.inl o) (fun q => by exact absurd q (by decide)) (by decide) (yIf_w (by decide) fun _ _ => ⟨yGf_a hn ?_, fun r f hm => ?_, fun q => by exact absurd q (by decide), fun q => by exact absurd q (by decide)⟩))
    · have w := (yar_w (B := yN B 0 2 (B.1 0 2 + 1)) (by rw [yN_ne (by decide)]; exact h.1.1.1.2)).1
      refine ⟨⟨by simp [ybl, w], fun n hn' => ?_⟩, fun y hy a b => ?_⟩
      · have : n = 0 := by simpa using hn'
        subst this
        simp [ybl]
      · have := List.mem_singleton.mp hy
        omega
    · obtain ⟨g, g1, g2⟩ := yadd_l hm
      rw [g2]
      exact hl r g g1
  · exact yInv_m (yI_c h ⟨fun _ => o, fun _ => Or.inr ⟨by decide, by decide⟩⟩ (fun _ => Or.inl o) (fun q => by exact absurd q (by decide)) (yIf_w (by decide) fun _ _ => ⟨hf.1, hf.2.1, fun q => by exact absurd q (by decide), fun _ => Or.inl rfl⟩))
theorem yInv_12 {T : yT} {p x : Int} {fr : List yF} {B : yB} (h : yI 12 x fr B) : yInv (ym12 T p fr B) := by
  have o : yopn 12 := Or.inr ⟨by decide, by decide⟩
  have hf := h.2.2.2.2.2.2 (by decide) (by decide)
  unfold ym12
  split
  · exact yInv_m (yI_x h (by decide))
  · rename_i f r
    split
    · exact Or.inl rfl
    split
    · exact Or.inl rfl
    rename_i h5
    split
    · refine yInv_m (yI_c h ⟨fun _ => o, fun _ => Or.inr ⟨by decide, by decide⟩⟩ (fun _ => Or.inl o) (fun q => by exact absurd q (by decide)) (yIf_w (by decide) fun _ _ => ⟨hf.1, hf.2.1, fun _ => ⟨f, rfl, by omega⟩, fun q => by exact absurd q (by decide)⟩))
    · rename_i a r
      have hc := yGa_c h.1.1.1.2 (hf.1 f List.mem_cons_self) (by omega)
      refine yInv_m (yI_c h ⟨fun _ => o, fun _ => Or.inr ⟨by decide, by decide⟩⟩ (fun _ => Or.inl o) (fun q => by exact absurd q (by decide)) (yIf_w (by decide) fun _ _ => ⟨yGf_a (fun g hg => hf.1 g (List.mem_cons_of_mem _ hg)) hc, fun q g hg => ?_, fun q => by exact absurd q (by decide), fun q => by exact absurd q (by decide)⟩))
      obtain ⟨b, b1, b2⟩ := yadd_l hg
      rw [b2]
      exact hf.2.1 q b (by rw [List.getLast?_cons_cons]; exact b1)
theorem yInv_14 {T : yT} {p x : Int} {fr : List yF} {B : yB} (h : yI 14 x fr B) : yInv (ym14 T p fr B) := by
  have o : yopn 14 := Or.inr ⟨by decide, by decide⟩
  have hf := h.2.2.2.2.2.2 (by decide) (by decide)
  unfold ym14
  split
  · exact yInv_m (yI_x h (by decide))
  · rename_i f r
    split
    · dsimp only
      have k : ∀ c : Nat, 3 ≤ c → c ≤ 8 → yI c 0 [] (yN (yL B 0 (B.1 0 6) (B.1 6 (B.1 0 6)) ([f.2.1] :: f.2.2)) 6 (B.1 0 6) (B.1 6 (B.1 0 6) + 1)) := fun c c1 c2 => by
        refine yI_eq h ⟨fun _ => o, fun _ => Or.inl ⟨by omega, by omega⟩⟩ (fun _ => Or.inl o) (fun q => by omega) (yN_ne (Or.inl (by decide))) (yN_ne (Or.inl (by decide))) (yN_ne (Or.inl (by decide))) (fun k _ _ hk => yN_nk hk) (yN_nk (by decide)) ?_ ?_ (yIf_o (by omega))
        · exact yNL_nk (by decide)
        · exact yNL_nk (by decide)
      split
      · exact yInv_m (k 5 (by decide) (by decide))
      split
      · exact yInv_m (k 4 (by decide) (by decide))
      exact yInv_m (k 6 (by decide) (by decide))
    split
    · rename_i hr
      dsimp only
      have k : ∀ c : Nat, 3 ≤ c → c ≤ 8 → r = [] → yI c 0 [] (yN (yL B 1 (B.1 0 3) (B.1 4 (B.1 0 3)) ([f.2.1] :: f.2.2)) 4 (B.1 0 3) (B.1 4 (B.1 0 3) + 1)) := fun c c1 c2 hre => by
        subst hre
        obtain ⟨h0, h2, h3, h4, h1, -⟩ := h
        obtain ⟨⟨g1, -⟩, g2⟩ := h1 (Or.inl o)
        have vb := yBs_v B (B.1 0 3) ([f.2.1] :: f.2.2)
        unfold yBs at vb
        have oc : yopn c := Or.inl ⟨by omega, by omega⟩
        have l2 : (yN (yL B 1 (B.1 0 3) (B.1 4 (B.1 0 3)) ([f.2.1] :: f.2.2)) 4 (B.1 0 3) (B.1 4 (B.1 0 3) + 1)).2 2 = B.2 2 := yNL_nk (by decide)
        have v0 := vb.1 0 (by decide)
        refine ⟨?_, ?_, ?_, ?_, fun _ => ⟨⟨?_, fun q => by omega⟩, fun i i0 i1 => ?_⟩, yIf_o (by omega)⟩
        · unfold yI0
          rw [v0, vb.1 2 (by decide), vb.1 3 (by decide)]
          exact h0
        · intro k d
          rw [l2]
          rcases h2 k d with q | ⟨l, q1, q2, q3, q4⟩
          · exact Or.inl q
          · exact Or.inr ⟨l, q1, q2, q3, yG_e (by rw [vb.1 2 (by decide)]) (by rw [vb.1 3 (by decide)]) q4⟩
        · intro e a b q
          rw [l2]
          exact h3 e a (by rw [v0] at b; exact b) (fun w => q ⟨oc, by rw [v0]; exact w.2⟩)
        · intro k d q
          rw [l2]
          exact h4 k d (by rw [v0] at q; exact q.imp id (fun w => ⟨o, w.2⟩))
        · exact yCu_6 g1 v0 (vb.1 2 (by decide)) (vb.1 3 (by decide))
        · rw [v0, vb.2, if_pos rfl] at i1
          have key : ∀ s, yGs B s → yGs (yN (yL B 1 (B.1 0 3) (B.1 4 (B.1 0 3)) ([f.2.1] :: f.2.2)) 4 (B.1 0 3) (B.1 4 (B.1 0 3) + 1)) s := fun s hs => yGs_e (by rw [v0]) (by rw [v0]) (vb.1 2 (by decide)) (vb.1 3 (by decide)) hs
          rw [v0]
          by_cases q : i = B.1 4 (B.1 0 3)
          · rw [q]
            refine key _ ?_
            rw [show (yN (yL B 1 (B.1 0 3) (B.1 4 (B.1 0 3)) ([f.2.1] :: f.2.2)) 4 (B.1 0 3) (B.1 4 (B.1 0 3) + 1)).2 1 (B.1 0 3) (B.1 4 (B.1 0 3)) = [f.2.1] :: f.2.2 from yL_at]
            have z1 := hf.2.1 hr f (by simp)
            obtain ⟨z2, z3, -⟩ := hf.1 f (by simp)
            have z4 : (f.2.2.length : Int) = yar B f.2.1 := by
              obtain ⟨g, g1, g2⟩ := hf.2.2.1 rfl
              have : f = g := by simpa using g1
              rw [this]
              exact g2
            have z5 : 0 ≤ f.2.1 ∧ f.2.1 < B.1 0 0 := by
              rcases z2 with z2 | z2
              · exact z2
              · have := h0.1.2.1
                have hg := g1
                unfold yCu at hg
                have := h0.2 (B.1 0 3) (by omega) (by omega)
                omega
            refine ⟨f.2.1, f.2.2, rfl, ⟨z5.1, z5.2, z1.2⟩, ?_, z3⟩
            rw [z4]
            unfold yar
            rw [if_pos z5]
          · rw [show (yN (yL B 1 (B.1 0 3) (B.1 4 (B.1 0 3)) ([f.2.1] :: f.2.2)) 4 (B.1 0 3) (B.1 4 (B.1 0 3) + 1)).2 1 (B.1 0 3) i = B.2 1 (B.1 0 3) i from yL_ne (by omega)]
            exact key _ (g2 i i0 (by omega))
      have hre : r = [] := by obtain ⟨g, g1, -⟩ := hf.2.2.1 rfl; simpa using (List.cons.inj g1).2
      split
      · exact yInv_m (k 7 (by decide) (by decide) hre)
      · exact yInv_m (k 8 (by decide) (by decide) hre)
    · exact yInv_m (yI_x h (by decide))

/-! what is ABOVE, put together -/
theorem ym15_e {T : yT} {p : Int} {B : yB} (h : B.1 4 (B.1 0 3) ≤ B.1 0 7) : yms T (15, p, 0, [], B) = (9, ynx T p, 0, [], B) := by
  show ym15 T p B = _
  unfold ym15
  rw [if_pos h]
theorem ym15_d {T : yT} {p : Int} {B : yB} (h : B.1 0 7 < B.1 4 (B.1 0 3)) (h2 : B.1 0 0 ≤ B.1 0 8) : yms T (15, p, 0, [], B) = (15, p, 0, [], yN (yN B 0 7 (B.1 0 7 + 1)) 0 8 0) := by
  show ym15 T p B = _
  unfold ym15
  rw [if_neg (by omega), if_pos h2]
theorem ym15_s {T : yT} {p : Int} {B : yB} {e : Int} {as : List (List Int)} (h : B.1 0 7 < B.1 4 (B.1 0 3)) (h2 : B.1 0 8 < B.1 0 0) (hs : B.2 1 (B.1 0 3) (B.1 0 7) = [e] :: as) (h3 : B.2 2 e (B.1 0 8) = []) : yms T (15, p, 0, [], B) = (15, p, 0, [], yN B 0 8 (B.1 0 8 + 1)) := by
  show ym15 T p B = _
  unfold ym15
  rw [if_neg (by omega), if_neg (by omega), hs]
  dsimp only [List.headD]
  rw [h3]
theorem ym15_f {T : yT} {p : Int} {B : yB} {e : Int} {as : List (List Int)} {l : List Int} (h : B.1 0 7 < B.1 4 (B.1 0 3)) (h2 : B.1 0 8 < B.1 0 0) (hs : B.2 1 (B.1 0 3) (B.1 0 7) = [e] :: as) (h3 : B.2 2 e (B.1 0 8) = [l]) (h4 : 200 < (ysub (B.1 2 e) as l).length ∨ (B.2 2 (B.1 0 3) (B.1 0 8) ≠ [] ∧ B.2 2 (B.1 0 3) (B.1 0 8) ≠ [ysub (B.1 2 e) as l])) : yms T (15, p, 0, [], B) = yflt T B p 8 := by
  show ym15 T p B = _
  unfold ym15
  rw [if_neg (by omega), if_neg (by omega), hs]
  dsimp only [List.headD, List.tail]
  rw [h3]
  dsimp only
  rw [if_pos h4]
theorem ym15_p {T : yT} {p : Int} {B : yB} {e : Int} {as : List (List Int)} {l : List Int} (h : B.1 0 7 < B.1 4 (B.1 0 3)) (h2 : B.1 0 8 < B.1 0 0) (hs : B.2 1 (B.1 0 3) (B.1 0 7) = [e] :: as) (h3 : B.2 2 e (B.1 0 8) = [l]) (h4 : ¬ (200 < (ysub (B.1 2 e) as l).length ∨ (B.2 2 (B.1 0 3) (B.1 0 8) ≠ [] ∧ B.2 2 (B.1 0 3) (B.1 0 8) ≠ [ysub (B.1 2 e) as l]))) : yms T (15, p, 0, [], B) = (15, p, 0, [], yN (yL B 2 (B.1 0 3) (B.1 0 8) [ysub (B.1 2 e) as l]) 0 8 (B.1 0 8 + 1)) := by
  show ym15 T p B = _
  unfold ym15
  rw [if_neg (by omega), if_neg (by omega), hs]
  dsimp only [List.headD, List.tail]
  rw [h3]
  dsimp only
  rw [if_neg h4]
/-- what comes of a TYPE by ARGS in its PARAMETERS' place -/
theorem yG_sub {B : yB} {o f : Int} {as : List (List Int)} {l : List Int} (ha : ∀ a ∈ as, yG B o a) : yG B o (ysub f as l) := by
  intro h hh h1 h2
  unfold ysub at hh
  obtain ⟨x, hx, hm⟩ := List.mem_flatMap.mp hh
  by_cases q : 32 ≤ x ∧ x < 112
  · rw [if_pos q] at hm
    by_cases w : (x - 32 - f).toNat < as.length
    · rw [List.getD_eq_getElem?_getD, List.getElem?_eq_getElem w] at hm
      exact ha _ (List.getElem_mem w) h hm h1 h2
    · rw [List.getD_eq_getElem?_getD, List.getElem?_eq_none (by omega)] at hm
      simp at hm
  · rw [if_neg q] at hm
    have := List.mem_singleton.mp hm
    omega
theorem yne_sub {A : Int → Int} {f : Int} {as : List (List Int)} {l : List Int} (ha : ∀ a ∈ as, yone A a) (hv : yVl f as l) (hl : l ≠ []) : ysub f as l ≠ [] := by
  rcases l with _ | ⟨x, r⟩
  · exact absurd rfl hl
  · show (if 32 ≤ x ∧ x < 112 then as.getD (x - 32 - f).toNat [] else [x]) ++ ysub f as r ≠ []
    intro h
    have h := (List.append_eq_nil_iff.mp h).1
    by_cases q : 32 ≤ x ∧ x < 112
    · rw [if_pos q] at h
      have w := hv x List.mem_cons_self q.1 q.2
      have w2 : (x - 32 - f).toNat < as.length := by omega
      rw [List.getD_eq_getElem?_getD, List.getElem?_eq_getElem w2] at h
      have := yone_p (ha _ (List.getElem_mem w2))
      simp only [Option.getD_some] at h
      rw [h] at this
      simp at this
    · rw [if_neg q] at h
      simp at h
theorem yVl_G {B : yB} {e : Int} {as : List (List Int)} {l : List Int} (h : yG B e l) (hn : (as.length : Int) = B.1 3 e) : yVl (B.1 2 e) as l := fun x hx a b => by
  have := h x hx a b
  omega
theorem yInv_15 {T : yT} {p x : Int} {fr : List yF} {B : yB} (h : yI 15 x fr B) : yInv (ym15 T p B) := by
  have n15 : ¬ yopn 15 := by unfold yopn; omega
  have n9 : ¬ yopn 9 := by unfold yopn; omega
  obtain ⟨q7, q8⟩ := h.2.2.2.2.2.1 rfl
  unfold ym15
  split
  · exact yInv_m (yI_c h ⟨fun q => absurd q n9, fun q => absurd q n15⟩ (fun q => by exact absurd q (by unfold yopn; omega)) (fun q => by exact absurd q (by decide)) (yIf_o (by decide)))
  rename_i q1
  split
  · exact yInv_m (yI_N2 h Iff.rfl id id (by decide) (by decide) (yIf_15 (by rw [yN_c (by decide)]; omega) (by rw [yN_at]; decide)))
  rename_i q2
  obtain ⟨h0, h2, h3, h4, h1, -⟩ := id h
  obtain ⟨⟨g1, -⟩, g2⟩ := h1 (Or.inr rfl)
  obtain ⟨e, as, e1, e2, e3, e4⟩ := g2 (B.1 0 7) q7 (by omega)
  rw [e1]
  dsimp only [List.headD, List.tail]
  rcases h2 e (B.1 0 8) with w | ⟨l, w1, w2, w3, w4⟩
  · rw [w]
    exact yInv_m (yI_N h Iff.rfl id id (by decide) (yIf_15 (by rw [yN_ne (by decide)]; exact q7) (by rw [yN_at]; omega)))
  · rw [w1]
    dsimp only
    split
    · exact Or.inl rfl
    rename_i q3
    refine yInv_m ?_
    have hv := yVl_G w4 e3
    have n1 : ∀ i : Int, i ≠ 8 → (yN (yL B 2 (B.1 0 3) (B.1 0 8) [ysub (B.1 2 e) as l]) 0 8 (B.1 0 8 + 1)).1 0 i = B.1 0 i := fun i hi => by rw [yN_ne (Or.inr hi)]; rfl
    have nk : ∀ k : Nat, k ≠ 0 → (yN (yL B 2 (B.1 0 3) (B.1 0 8) [ysub (B.1 2 e) as l]) 0 8 (B.1 0 8 + 1)).1 k = B.1 k := fun k hk => by rw [yN_nk hk]; rfl
    have l1 : (yN (yL B 2 (B.1 0 3) (B.1 0 8) [ysub (B.1 2 e) as l]) 0 8 (B.1 0 8 + 1)).2 1 = B.2 1 := yNL_nk (by decide)
    have l2 : ∀ i j : Int, (yN (yL B 2 (B.1 0 3) (B.1 0 8) [ysub (B.1 2 e) as l]) 0 8 (B.1 0 8 + 1)).2 2 i j = if i = B.1 0 3 ∧ j = B.1 0 8 then [ysub (B.1 2 e) as l] else B.2 2 i j := fun i j => by
      by_cases q : i = B.1 0 3 ∧ j = B.1 0 8
      · rw [if_pos q, q.1, q.2]; exact yL_at
      · rw [if_neg q]; exact yL_ne (by omega)
    refine ⟨?_, ?_, ?_, ?_, fun _ => ⟨⟨?_, fun q => by omega⟩, fun i i0 i1 => ?_⟩, yIf_15 (by rw [n1 7 (by decide)]; exact q7) (by rw [yN_at]; omega)⟩
    · unfold yI0
      rw [n1 0 (by decide), n1 1 (by decide), n1 3 (by decide), nk 2 (by decide), nk 3 (by decide)]
      exact h0
    · intro k d
      rw [l2]
      by_cases q : k = B.1 0 3 ∧ d = B.1 0 8
      · rw [if_pos q]
        refine Or.inr ⟨_, rfl, yne_sub (fun a ha => (e4 a ha).1) hv w2, by omega, ?_⟩
        rw [q.1]
        exact yG_e (by rw [nk 2 (by decide)]) (by rw [nk 3 (by decide)]) (yG_sub (fun a ha => (e4 a ha).2))
      · rw [if_neg q]
        rcases h2 k d with w | ⟨r, r1, r2, r3, r4⟩
        · exact Or.inl w
        · exact Or.inr ⟨r, r1, r2, r3, yG_e (by rw [nk 2 (by decide)]) (by rw [nk 3 (by decide)]) r4⟩
    · intro y y0 y1 q
      rw [n1 0 (by decide)] at y1
      have h30 := h3 y y0 y1 (fun c => n15 c.1)
      rw [l2]
      by_cases c : y = B.1 0 3 ∧ 0 = B.1 0 8
      · rw [if_pos c]
        rw [c.1] at h30
        by_cases u : B.2 2 (B.1 0 3) (B.1 0 8) = [ysub (B.1 2 e) as l]
        · rw [← u, ← c.2]; exact h30
        · exfalso
          refine q3 (Or.inr ⟨by rw [← c.2, h30]; simp, u⟩)
      · rw [if_neg c]; exact h30
    · intro k d q
      rw [n1 0 (by decide)] at q
      have hk : B.1 0 0 ≤ k := by rcases q with q | q; exact q; exact absurd q.1 n15
      have := h0.1.2.1
      rw [l2, if_neg (by omega)]
      exact h4 k d (Or.inl hk)
    · unfold yCu at g1 ⊢
      rw [n1 0 (by decide), n1 1 (by decide), n1 3 (by decide), nk 2 (by decide), nk 3 (by decide)]
      exact g1
    · rw [n1 3 (by decide), nk 4 (by decide)] at i1
      rw [l1, n1 3 (by decide)]
      exact yGs_e (n1 0 (by decide)) (n1 3 (by decide)) (nk 2 (by decide)) (nk 3 (by decide)) (g2 i i0 i1)

theorem yInv_s {T : yT} {s : yS} (h : yInv s) : yInv (yms T s) := by
  obtain ⟨c, p, x, fr, B⟩ := s
  rcases h with h | h
  · have h : c = 20 := h
    subst h
    exact Or.inl rfl
  have h : yI c x fr B := h
  have op : ∀ n : Nat, (1 ≤ n ∧ n ≤ 8) ∨ (10 ≤ n ∧ n ≤ 14) → yopn n := fun _ q => q
  have nd : ∀ n : Nat, ¬ ((1 ≤ n ∧ n ≤ 8) ∨ (10 ≤ n ∧ n ≤ 14)) → ¬ yopn n := fun _ q => q
  by_cases c0 : c = 0
  · subst c0; exact yInv_0 h
  by_cases c1 : c = 1
  · subst c1
    show yInv (if ykd T p = 60 then (2, p, 0, [], B) else (3, p, 0, [], B))
    split
    · exact yInv_m (yI_c h ⟨fun _ => op _ (by decide), fun _ => op _ (by decide)⟩ (fun _ => Or.inl (op _ (by decide))) (fun _ => by decide) (yIf_o (by decide)))
    · exact yInv_m (yI_c h ⟨fun _ => op _ (by decide), fun _ => op _ (by decide)⟩ (fun _ => Or.inl (op _ (by decide))) (fun _ => by decide) (yIf_o (by decide)))
  by_cases c2 : c = 2
  · subst c2
    show yInv (ym2 T p B)
    unfold ym2
    dsimp only
    split
    · exact Or.inl rfl
    split
    · exact Or.inl rfl
    split
    · exact Or.inl rfl
    rename_i hn
    split
    · exact yInv_m (yI_ap h hn (Or.inr rfl))
    split
    · exact yInv_m (yI_ap h hn (Or.inl rfl))
    exact Or.inl rfl
  have go : ∀ c' : Nat, yopn c → yopn c' → (c' ≤ 2 → c ≤ 2) → ∀ p' x' : Int, (c' < 10) → yInv (c', p', x', [], B) := fun c' a b d p' x' e => yInv_m (yI_c h ⟨fun _ => a, fun _ => b⟩ (fun _ => Or.inl a) d (yIf_o e))
  by_cases c3 : c = 3
  · subst c3
    show yInv (if ykd T p = 4 then (4, p, 0, [], B) else (6, p, 0, [], B))
    split
    · exact go 4 (op _ (by decide)) (op _ (by decide)) (by decide) _ _ (by decide)
    · exact go 6 (op _ (by decide)) (op _ (by decide)) (by decide) _ _ (by decide)
  by_cases c4 : c = 4
  · subst c4
    show yInv (ym4 T p B)
    unfold ym4
    dsimp only
    split
    · exact Or.inl rfl
    split
    · exact Or.inl rfl
    split
    · exact Or.inl rfl
    split
    · exact Or.inl rfl
    exact yInv_m (yI_N h ⟨fun _ => op _ (by decide), fun _ => op _ (by decide)⟩ (fun _ => Or.inl (op _ (by decide))) (by decide) (by decide) (yIf_o (by decide)))
  by_cases c5 : c = 5
  · subst c5
    exact yInv_m (c := 10) (yI_N2 h ⟨fun _ => op _ (by decide), fun _ => op _ (by decide)⟩ (fun _ => Or.inl (op _ (by decide))) (by decide) (by decide) (by decide) (yIf_0 (Or.inl rfl)))
  by_cases c6 : c = 6
  · subst c6
    show yInv (if ykd T p = 58 then (7, p, 0, [], B) else (8, p, 0, [], B))
    split
    · exact go 7 (op _ (by decide)) (op _ (by decide)) (by decide) _ _ (by decide)
    · exact go 8 (op _ (by decide)) (op _ (by decide)) (by decide) _ _ (by decide)
  by_cases c7 : c = 7
  · subst c7
    exact yInv_m (c := 10) (yI_N2 h ⟨fun _ => op _ (by decide), fun _ => op _ (by decide)⟩ (fun _ => Or.inl (op _ (by decide))) (by decide) (by decide) (by decide) (yIf_0 (Or.inl rfl)))
  by_cases c8 : c = 8
  · subst c8
    show yInv (if ykd T p ≠ 59 then yflt T B p 2 else (15, p, 0, [], yN (yN (yon B) 0 7 0) 0 8 0))
    split
    · exact Or.inl rfl
    · exact yInv_m (yInv_8 h)
  by_cases c9 : c = 9
  · subst c9
    show yInv (if ykd T p = 0 then (21, p, 0, [], B) else (0, p, 0, [], B))
    have e : ∀ n : Nat, n = 21 ∨ n = 0 → yI n 0 [] B := fun n hn => yI_z h (nd _ (by decide)) ⟨nd _ (by omega), by omega⟩ (by rcases hn with hn | hn; (subst hn; exact ⟨fun q => absurd q (by decide), fun _ q => by omega⟩); (subst hn; exact yIf_o (by decide)))
    split
    · exact yInv_m (e 21 (Or.inl rfl))
    · exact yInv_m (e 0 (Or.inr rfl))
  by_cases c10 : c = 10
  · subst c10; exact yInv_10 h
  by_cases c11 : c = 11
  · subst c11; exact yInv_11 h
  by_cases c12 : c = 12
  · subst c12; exact yInv_12 h
  by_cases c13 : c = 13
  · subst c13
    show yInv (if ykd T p = 44 then (11, ynx T p, 0, fr, B) else if ykd T p = 62 then (12, ynx T p, 0, fr, B) else yflt T B p 2)
    have hf := h.2.2.2.2.2.2 (by decide) (by decide)
    split
    · exact yInv_m (yI_c h ⟨fun _ => op _ (by decide), fun _ => op _ (by decide)⟩ (fun _ => Or.inl (op _ (by decide))) (by decide) (yIf_w (by decide) fun _ _ => ⟨hf.1, hf.2.1, fun q => by exact absurd q (by decide), fun q => by exact absurd q (by decide)⟩))
    split
    · exact yInv_m (yI_c h ⟨fun _ => op _ (by decide), fun _ => op _ (by decide)⟩ (fun _ => Or.inl (op _ (by decide))) (by decide) (yIf_w (by decide) fun _ _ => ⟨hf.1, hf.2.1, fun q => by exact absurd q (by decide), fun q => by exact absurd q (by decide)⟩))
    exact Or.inl rfl
  by_cases c14 : c = 14
  · subst c14; exact yInv_14 h
  by_cases c15 : c = 15
  · subst c15; exact yInv_15 h
  obtain ⟨n, rfl⟩ : ∃ n, c = n + 16 := ⟨c - 16, by omega⟩
  exact yInv_m h
theorem yInv_R {T : yT} {s s' : yS} (h : yInv s) (hr : yR T s s') : yInv s' := by
  obtain ⟨k, rfl⟩ := hr
  induction k generalizing s with
  | zero => exact h
  | succ k ih => exact ih (yInv_s h)
