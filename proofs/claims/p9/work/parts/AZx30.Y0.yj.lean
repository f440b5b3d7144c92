/-! ### BOUNDS have PARAMETERS of their own class alone: the machine -/
def yJ0 (B : yB) : Prop := ∀ k p : Int, 0 ≤ k → k < B.1 0 0 → B.1 2 k ≤ p → p < B.1 2 k + B.1 3 k → B.1 7 p = k ∧ ∀ i : Int, 0 ≤ i → i < B.1 6 p → yG B k (B.2 0 p i).flatten
def yJr (c : Nat) (B : yB) : Prop := c = 5 ∨ (10 ≤ c ∧ c ≤ 14 ∧ B.1 0 4 = 0) → (0 ≤ B.1 0 3 ∧ B.1 0 3 < B.1 0 0) ∧ B.1 2 (B.1 0 3) ≤ B.1 0 6 ∧ B.1 0 6 < B.1 2 (B.1 0 3) + B.1 3 (B.1 0 3)
def yJz (B : yB) : Prop := yJ0 B ∧ B.1 3 0 = 0 ∧ B.1 0 3 ≠ 0
def yJ (s : yS) : Prop := s.1 = 20 ∨ (yJz s.2.2.2.2 ∧ yJr s.1 s.2.2.2.2)
theorem yL_nz {B : yB} {k k' : Nat} {i j : Int} {l : List (List Int)} (h : k' ≠ k) : (yL B k i j l).2 k' = B.2 k' := by
  funext a b
  show (if k' = k ∧ a = i ∧ b = j then l else B.2 k' a b) = _
  rw [if_neg (fun q => h q.1)]
theorem yJz_e {B B' : yB} (h : yJz B) (e0 : B'.1 0 0 = B.1 0 0) (e3 : B'.1 0 3 = B.1 0 3) (k2 : B'.1 2 = B.1 2) (k3 : B'.1 3 = B.1 3) (k6 : B'.1 6 = B.1 6) (k7 : B'.1 7 = B.1 7) (l0 : B'.2 0 = B.2 0) : yJz B' := by
  refine ⟨fun k p a b c d => ?_, by rw [k3]; exact h.2.1, by rw [e3]; exact h.2.2⟩
  rw [e0] at b
  rw [k2] at c d
  rw [k3] at d
  have w := h.1 k p a b c d
  rw [k7, k6, l0]
  exact ⟨w.1, fun i i0 i1 => yG_e (by rw [k2]) (by rw [k3]) (w.2 i i0 i1)⟩
theorem yJz_N {B : yB} {i x : Int} (h : yJz B) (hi : i = 2 ∨ 4 ≤ i) : yJz (yN B 0 i x) := yJz_e h (yN_ne (Or.inr (by omega))) (yN_ne (Or.inr (by omega))) (yN_nk (by decide)) (yN_nk (by decide)) (yN_nk (by decide)) (yN_nk (by decide)) rfl
theorem yJ_k {c : Nat} {p x : Int} {fr : List yF} {B : yB} (h : yJz B) (r : yJr c B) : yJ (c, p, x, fr, B) := Or.inr ⟨h, r⟩
theorem yJr_n {c : Nat} {B : yB} (h : c ≠ 5) (h2 : c < 10 ∨ 14 < c) : yJr c B := fun q => by omega
theorem yJr_c {c c' : Nat} {B B' : yB} (h : yJr c B) (hc : 10 ≤ c ∧ c ≤ 14) (e : ∀ i : Int, i ≠ 2 → B'.1 0 i = B.1 0 i) (k2 : B'.1 2 = B.1 2) (k3 : B'.1 3 = B.1 3) (hn : c' ≠ 5) : yJr c' B' := fun q => by
  have q4 : B.1 0 4 = 0 := by rw [← e 4 (by decide)]; omega
  have w := h (Or.inr ⟨hc.1, hc.2, q4⟩)
  rw [e 3 (by decide), e 0 (by decide), e 6 (by decide), k2, k3]
  exact w
theorem yJr_2 {c c' : Nat} {B : yB} {x : Int} (h : yJr c B) (hc : 10 ≤ c ∧ c ≤ 14) (hn : c' ≠ 5) : yJr c' (yN B 0 2 x) := yJr_c h hc (fun i hi => yN_ne (Or.inr hi)) (yN_nk (by decide)) (yN_nk (by decide)) hn
theorem yJr_3 {c c' : Nat} {B : yB} (h : yJr c B) (hc : 10 ≤ c ∧ c ≤ 14) (hn : c' ≠ 5) : yJr c' B := yJr_c h hc (fun _ _ => rfl) rfl rfl hn
theorem yJ_1 {c : Nat} {x : Int} {fr : List yF} {B : yB} {n : Int} (hI : yI 0 x fr B) (h : yJz B) (hc : c = 1) {p y : Int} {fs : List yF} : yJ (c, p, y, fs, yB1 B n) := by
  obtain ⟨⟨v0, v1, v2, v3⟩, ⟨w1, w2, w3, w4⟩, w5, w6, w7⟩ := yB1_v B n
  have i0 := hI.1.1
  refine yJ_k ⟨fun k p a b c d => ?_, by rw [w5 3 0 (by decide) (by omega)]; exact h.2.1, by rw [v3]; omega⟩ (yJr_n (by omega) (by omega))
  rw [v0] at b
  by_cases q : k = B.1 0 0
  · rw [q, w2] at c d
    rw [w3] at d
    exfalso; omega
  · rw [w5 2 k (by decide) q] at c d
    rw [w5 3 k (by decide) q] at d
    have w := h.1 k p a (by omega) c d
    rw [w6 7 (by decide), w6 6 (by decide), w7]
    exact ⟨w.1, fun i i0 i1 => yG_e (w5 2 k (by decide) q) (w5 3 k (by decide) q) (w.2 i i0 i1)⟩
theorem yJ_ap {B : yB} {n : Int} (hI : yI0 B) (hc : yCu B) (h : yJz B) : yJz (yap B n) := by
  obtain ⟨⟨v0, v1, v2, v3⟩, ⟨w1, w2, w3, w4⟩, w5, w6, ⟨w7, w8, w9⟩, w10⟩ := yap_v B n
  unfold yCu at hc
  refine ⟨fun k p a b c d => ?_, ?_, by rw [v3]; exact h.2.2⟩
  · rw [v0] at b
    rw [w8] at c d
    have i2 := hI.2 k a b
    by_cases q : k = B.1 0 3
    · rw [q, w4] at d
      by_cases z : p = B.1 0 1
      · rw [z, w2, w3]
        exact ⟨q.symm, fun i i0 i1 => by exfalso; omega⟩
      · rw [q] at c
        have w := h.1 (B.1 0 3) p (by omega) (by omega) c (by omega)
        have g := w5 p z
        rw [g.2.1, g.2.2, w10, q]
        refine ⟨w.1, fun i i0 i1 => ?_⟩
        have u := w.2 i i0 i1
        intro y hy y1 y2
        have u1 := u y hy y1 y2
        rw [w8, w4]
        omega
    · rw [w6 k q] at d
      have w := h.1 k p a b c d
      have z : p ≠ B.1 0 1 := by omega
      have g := w5 p z
      rw [g.2.1, g.2.2, w10]
      exact ⟨w.1, fun i i0 i1 => yG_e (by rw [w8]) (w6 k q) (w.2 i i0 i1)⟩
  · rw [w6 0 (Ne.symm h.2.2)]; exact h.2.1
theorem yfp_b {B : yB} {x : Int} (h : 0 ≤ yfp B x) : 0 ≤ B.1 0 3 ∧ B.1 2 (B.1 0 3) ≤ yfp B x ∧ yfp B x < B.1 2 (B.1 0 3) + B.1 3 (B.1 0 3) := by
  unfold yfp at h ⊢
  by_cases q : 0 ≤ B.1 0 3
  · rw [if_pos q] at h ⊢
    rcases yfd_B (B.1 5) x (B.1 2 (B.1 0 3)) (B.1 2 (B.1 0 3) + B.1 3 (B.1 0 3)) with w | w
    · omega
    · exact ⟨q, w.1, w.2.1⟩
  · rw [if_neg q] at h; omega
/-- a BOUND is told -/
theorem yJ_14 {B : yB} {f : yF} {q : Int} (h : yJz B) (hq : q = B.1 0 6) (r : (0 ≤ B.1 0 3 ∧ B.1 0 3 < B.1 0 0) ∧ B.1 2 (B.1 0 3) ≤ B.1 0 6 ∧ B.1 0 6 < B.1 2 (B.1 0 3) + B.1 3 (B.1 0 3)) (g : yG B (B.1 0 3) (f.2.1 :: f.2.2.flatten)) : yJz (yN (yL B 0 q (B.1 6 q) ([f.2.1] :: f.2.2)) 6 q (B.1 6 q + 1)) := by
  have k2 : (yN (yL B 0 q (B.1 6 q) ([f.2.1] :: f.2.2)) 6 q (B.1 6 q + 1)).1 2 = B.1 2 := yN_nk (by decide)
  have k3 : (yN (yL B 0 q (B.1 6 q) ([f.2.1] :: f.2.2)) 6 q (B.1 6 q + 1)).1 3 = B.1 3 := yN_nk (by decide)
  have k7 : (yN (yL B 0 q (B.1 6 q) ([f.2.1] :: f.2.2)) 6 q (B.1 6 q + 1)).1 7 = B.1 7 := yN_nk (by decide)
  have e0 : ∀ i : Int, (yN (yL B 0 q (B.1 6 q) ([f.2.1] :: f.2.2)) 6 q (B.1 6 q + 1)).1 0 i = B.1 0 i := fun i => yN_ne (Or.inl (by decide))
  have e6 : ∀ p : Int, (yN (yL B 0 q (B.1 6 q) ([f.2.1] :: f.2.2)) 6 q (B.1 6 q + 1)).1 6 p = if p = q then B.1 6 q + 1 else B.1 6 p := fun p => by
    show (if (6 : Nat) = 6 ∧ p = q then _ else B.1 6 p) = _
    by_cases w : p = q
    · rw [if_pos ⟨rfl, w⟩, if_pos w]
    · rw [if_neg (fun z => w z.2), if_neg w]
  have l0 : ∀ p i : Int, (yN (yL B 0 q (B.1 6 q) ([f.2.1] :: f.2.2)) 6 q (B.1 6 q + 1)).2 0 p i = if p = q ∧ i = B.1 6 q then [f.2.1] :: f.2.2 else B.2 0 p i := fun p i => by
    show (if (0 : Nat) = 0 ∧ p = q ∧ i = B.1 6 q then _ else B.2 0 p i) = _
    by_cases w : p = q ∧ i = B.1 6 q
    · rw [if_pos ⟨rfl, w⟩, if_pos w]
    · rw [if_neg (fun z => w z.2), if_neg w]
  refine ⟨fun k p a b c d => ?_, by rw [k3]; exact h.2.1, by rw [e0]; exact h.2.2⟩
  rw [e0] at b
  rw [k2] at c d
  rw [k3] at d
  have w := h.1 k p a b c d
  rw [k7]
  refine ⟨w.1, fun i i0 i1 => ?_⟩
  refine yG_e (by rw [k2]) (by rw [k3]) ?_
  rw [e6] at i1
  rw [l0]
  by_cases z : p = q ∧ i = B.1 6 q
  · rw [if_pos z]
    have o := h.1 (B.1 0 3) (B.1 0 6) r.1.1 r.1.2 r.2.1 r.2.2
    have kq : k = B.1 0 3 := by rw [← w.1, z.1, hq]; exact o.1
    rw [kq, List.flatten_cons]
    exact g
  · rw [if_neg z]
    by_cases u : p = q
    · rw [if_pos u] at i1
      have : i ≠ B.1 6 q := fun v => z ⟨u, v⟩
      exact w.2 i i0 (by rw [u]; omega)
    · rw [if_neg u] at i1
      exact w.2 i i0 i1
theorem yJ_s {T : yT} {s : yS} (hi : yInv s) (h : yJ s) : yJ (yms T s) := by
  obtain ⟨c, p, x, fr, B⟩ := s
  rcases h with h | ⟨h, r⟩
  · have h : c = 20 := h
    subst h
    exact Or.inl rfl
  rcases hi with hi | hi
  · have hi : c = 20 := hi
    subst hi
    exact Or.inl rfl
  have h : yJz B := h
  have r : yJr c B := r
  have hi : yI c x fr B := hi
  by_cases c0 : c = 0
  · subst c0
    show yJ (ym0 T p B)
    unfold ym0
    split
    · exact Or.inl rfl
    split
    · exact Or.inl rfl
    split
    · exact Or.inl rfl
    exact yJ_1 hi h rfl
  by_cases c1 : c = 1
  · subst c1
    show yJ (if ykd T p = 60 then (2, p, 0, [], B) else (3, p, 0, [], B))
    split
    · exact yJ_k h (yJr_n (by decide) (by decide))
    · exact yJ_k h (yJr_n (by decide) (by decide))
  by_cases c2 : c = 2
  · subst c2
    have cu := (hi.2.2.2.2.1 (Or.inl (Or.inl ⟨by decide, by decide⟩))).1.1
    have z : ∀ n : Int, yJz (yap B n) := fun n => yJ_ap hi.1 cu h
    show yJ (ym2 T p B)
    unfold ym2
    dsimp only
    split
    · exact Or.inl rfl
    split
    · exact Or.inl rfl
    split
    · exact Or.inl rfl
    split
    · exact yJ_k (z _) (yJr_n (by decide) (by decide))
    split
    · exact yJ_k (z _) (yJr_n (by decide) (by decide))
    exact Or.inl rfl
  by_cases c3 : c = 3
  · subst c3
    show yJ (if ykd T p = 4 then (4, p, 0, [], B) else (6, p, 0, [], B))
    split
    · exact yJ_k h (yJr_n (by decide) (by decide))
    · exact yJ_k h (yJr_n (by decide) (by decide))
  by_cases c4 : c = 4
  · subst c4
    show yJ (ym4 T p B)
    unfold ym4
    dsimp only
    split
    · exact Or.inl rfl
    split
    · exact Or.inl rfl
    split
    · exact Or.inl rfl
    split
    · exact Or.inl rfl
    rename_i n1 _ _
    have b := yfp_b (B := B) (x := (ynm T (ynx T p)).toInt) (by omega)
    have i0 := hi.1.1
    refine yJ_k (yJz_N h (by decide)) (fun _ => ?_)
    rw [yN_at, show (yN B 0 6 (yfp B (ynm T (ynx T p)).toInt)).1 0 3 = B.1 0 3 from yN_ne (by decide), show (yN B 0 6 (yfp B (ynm T (ynx T p)).toInt)).1 0 0 = B.1 0 0 from yN_ne (by decide), show (yN B 0 6 (yfp B (ynm T (ynx T p)).toInt)).1 2 = B.1 2 from yN_nk (by decide), show (yN B 0 6 (yfp B (ynm T (ynx T p)).toInt)).1 3 = B.1 3 from yN_nk (by decide)]
    exact ⟨⟨b.1, by omega⟩, b.2⟩
  by_cases c5 : c = 5
  · subst c5
    rw [show yms T (5, p, x, fr, B) = (10, ynx T p, 0, [], yBt B 0 (if 2 ≤ B.1 6 (B.1 0 6) then 1 else 0)) from rfl]
    obtain ⟨v4, v5, v0, vk⟩ := yBt_v B 0 (if 2 ≤ B.1 6 (B.1 0 6) then 1 else 0)
    refine yJ_k (yJz_e h (v0 0 (by decide) (by decide)) (v0 3 (by decide) (by decide)) (vk 2 (by decide)) (vk 3 (by decide)) (vk 6 (by decide)) (vk 7 (by decide)) rfl) (fun _ => ?_)
    rw [v0 0 (by decide) (by decide), v0 3 (by decide) (by decide), v0 6 (by decide) (by decide), vk 2 (by decide), vk 3 (by decide)]
    exact r (Or.inl rfl)
  by_cases c6 : c = 6
  · subst c6
    show yJ (if ykd T p = 58 then (7, p, 0, [], B) else (8, p, 0, [], B))
    split
    · exact yJ_k h (yJr_n (by decide) (by decide))
    · exact yJ_k h (yJr_n (by decide) (by decide))
  by_cases c7 : c = 7
  · subst c7
    rw [show yms T (7, p, x, fr, B) = (10, ynx T p, 0, [], yBt B 1 (if 4 ≤ B.1 4 (B.1 0 3) then 1 else 0)) from rfl]
    obtain ⟨v4, v5, v0, vk⟩ := yBt_v B 1 (if 4 ≤ B.1 4 (B.1 0 3) then 1 else 0)
    refine yJ_k (yJz_e h (v0 0 (by decide) (by decide)) (v0 3 (by decide) (by decide)) (vk 2 (by decide)) (vk 3 (by decide)) (vk 6 (by decide)) (vk 7 (by decide)) rfl) (fun q => ?_)
    rw [v4] at q
    omega
  by_cases c8 : c = 8
  · subst c8
    show yJ (if ykd T p ≠ 59 then yflt T B p 2 else (15, p, 0, [], yN (yN (yon B) 0 7 0) 0 8 0))
    split
    · exact Or.inl rfl
    · refine yJ_k (yJz_N (yJz_N ?_ (by decide)) (by decide)) (yJr_n (by decide) (by decide))
      obtain ⟨o1, o2, o3⟩ := yon_v B
      exact yJz_e h (by rw [o1]) (by rw [o1]) (by rw [o1]) (by rw [o1]) (by rw [o1]) (by rw [o1]) (o2 0 (by decide))
  by_cases c9 : c = 9
  · subst c9
    show yJ (if ykd T p = 0 then (21, p, 0, [], B) else (0, p, 0, [], B))
    split
    · exact yJ_k h (yJr_n (by decide) (by decide))
    · exact yJ_k h (yJr_n (by decide) (by decide))
  by_cases c10 : c = 10
  · subst c10
    show yJ (ym10 T p x fr B)
    unfold ym10
    dsimp only
    split
    · exact Or.inl rfl
    split
    · exact Or.inl rfl
    split
    · exact Or.inl rfl
    split
    · exact Or.inl rfl
    split
    · split
      · exact Or.inl rfl
      · exact yJ_k (yJz_N h (by decide)) (yJr_2 r (by decide) (by decide))
    · exact yJ_k (yJz_N h (by decide)) (yJr_2 r (by decide) (by decide))
  by_cases c11 : c = 11
  · subst c11
    show yJ (ym11 T p fr B)
    unfold ym11
    dsimp only
    split
    · split
      · exact Or.inl rfl
      split
      · exact Or.inl rfl
      split
      · exact yJ_k (yJz_N h (by decide)) (yJr_2 r (by decide) (by decide))
      split
      · exact yJ_k (yJz_N h (by decide)) (yJr_2 r (by decide) (by decide))
      exact yJ_k (yJz_N h (by decide)) (yJr_2 r (by decide) (by decide))
    · exact yJ_k h (yJr_3 r (by decide) (by decide))
  by_cases c12 : c = 12
  · subst c12
    have r : yJr 12 B := r
    show yJ (ym12 T p fr B)
    unfold ym12
    split
    · exact yJ_k h r
    split
    · exact Or.inl rfl
    split
    · exact Or.inl rfl
    split
    · exact yJ_k h (yJr_3 (c := 12) r (by decide) (by decide))
    · exact yJ_k h (yJr_3 (c := 12) r (by decide) (by decide))
  by_cases c13 : c = 13
  · subst c13
    show yJ (if ykd T p = 44 then (11, ynx T p, 0, fr, B) else if ykd T p = 62 then (12, ynx T p, 0, fr, B) else yflt T B p 2)
    split
    · exact yJ_k h (yJr_3 r (by decide) (by decide))
    split
    · exact yJ_k h (yJr_3 r (by decide) (by decide))
    exact Or.inl rfl
  by_cases c14 : c = 14
  · subst c14
    have r : yJr 14 B := r
    have hf := hi.2.2.2.2.2.2 (by decide) (by decide)
    show yJ (ym14 T p fr B)
    rcases fr with _ | ⟨f, rs⟩
    · exact yJ_k h r
    unfold ym14
    dsimp only
    split
    · rename_i q4
      have w := (show yJr 14 B from r) (Or.inr ⟨by decide, by decide, q4⟩)
      have gf := hf.1 f List.mem_cons_self
      have g : yG B (B.1 0 3) (f.2.1 :: f.2.2.flatten) := fun y hy a b => by
        rcases List.mem_cons.mp hy with q | q
        · subst q
          rcases gf.1 with g | g
          · have i0 := hi.1.1; omega
          · omega
        · obtain ⟨l, hl, q⟩ := List.mem_flatten.mp q
          exact (gf.2.1 l hl).2 y q a b
      have z := yJ_14 (f := f) h rfl w g
      have rr : yJr 5 (yN (yL B 0 (B.1 0 6) (B.1 6 (B.1 0 6)) ([f.2.1] :: f.2.2)) 6 (B.1 0 6) (B.1 6 (B.1 0 6) + 1)) := fun _ => w
      split
      · exact yJ_k z rr
      split
      · exact yJ_k z (yJr_n (by decide) (by decide))
      exact yJ_k z (yJr_n (by decide) (by decide))
    · split
      · have z : yJz (yN (yL B 1 (B.1 0 3) (B.1 4 (B.1 0 3)) ([f.2.1] :: f.2.2)) 4 (B.1 0 3) (B.1 4 (B.1 0 3) + 1)) := yJz_e (B := B) h (yN_ne (Or.inl (by decide))) (yN_ne (Or.inl (by decide))) (yN_nk (by decide)) (yN_nk (by decide)) (yN_nk (by decide)) (yN_nk (by decide)) (show (yL B 1 (B.1 0 3) (B.1 4 (B.1 0 3)) ([f.2.1] :: f.2.2)).2 0 = B.2 0 from yL_nz (by decide))
        split
        · exact yJ_k z (yJr_n (by decide) (by decide))
        exact yJ_k z (yJr_n (by decide) (by decide))
      · exact yJ_k h r
  by_cases c15 : c = 15
  · subst c15
    show yJ (ym15 T p B)
    unfold ym15
    dsimp only
    split
    · exact yJ_k h (yJr_n (by decide) (by decide))
    split
    · exact yJ_k (yJz_N (yJz_N h (by decide)) (by decide)) (yJr_n (by decide) (by decide))
    split
    · exact yJ_k (yJz_N h (by decide)) (yJr_n (by decide) (by decide))
    · split
      · exact Or.inl rfl
      · refine yJ_k (yJz_N (yJz_e h rfl rfl rfl rfl rfl rfl ?_) (by decide)) (yJr_n (by decide) (by decide))
        exact yL_nz (by decide)
  obtain ⟨n, rfl⟩ : ∃ n, c = n + 16 := ⟨c - 16, by omega⟩
  exact yJ_k h r
theorem yJ_R {T : yT} {s s' : yS} (hi : yInv s) (h : yJ s) (hr : yR T s s') : yJ s' := by
  obtain ⟨k, rfl⟩ := hr
  induction k generalizing s with
  | zero => exact h
  | succ k ih => exact ih (yInv_s hi) (yJ_s hi h)
theorem yJ_00 : yJ (0, 0, 0, [], yB0) := by
  refine yJ_k ⟨fun k p a b c d => ?_, rfl, by decide⟩ (yJr_n (by decide) (by decide))
  have b : k < 1 := b
  have d : p < 0 + 0 := by
    have : k = 0 := by omega
    subst this
    exact d
  have c : 0 ≤ p := by
    have : k = 0 := by omega
    subst this
    exact c
  exfalso; omega
