/-! ### each class is ABOVE itself: the machine -/
def yKk (c : Nat) (B : yB) : Prop := ∀ e : Int, 0 ≤ e → e < B.1 0 0 → ¬ (yopn c ∧ e = B.1 0 3) → B.2 2 e e ≠ []
def yKm (s : yS) : Prop := s.1 = 20 ∨ yKk s.1 s.2.2.2.2
theorem yKm_k {c c' : Nat} {p x : Int} {fr : List yF} {B B' : yB} (h : yKk c B) (ho : yopn c → yopn c') (e0 : B'.1 0 0 = B.1 0 0) (e3 : B'.1 0 3 = B.1 0 3) (l2 : B'.2 2 = B.2 2) : yKm (c', p, x, fr, B') := Or.inr (fun e a b n => by
  have a : 0 ≤ e := a
  have b : e < B'.1 0 0 := b
  have n : ¬ (yopn c' ∧ e = B'.1 0 3) := n
  show B'.2 2 e e ≠ []
  rw [l2]
  exact h e a (by rw [← e0]; exact b) (fun q => n ⟨ho q.1, by rw [e3]; exact q.2⟩))
theorem yKm_N {c c' : Nat} {p x y i : Int} {fr : List yF} {B : yB} (h : yKk c B) (ho : yopn c → yopn c') (hi : i ≠ 0 ∧ i ≠ 3) : yKm (c', p, x, fr, yN B 0 i y) := yKm_k h ho (yN_ne (Or.inr (fun q => hi.1 q.symm))) (yN_ne (Or.inr (fun q => hi.2 q.symm))) rfl
set_option maxRecDepth 20000 in
theorem yKm_s {T : yT} {s : yS} (h : yKm s) : yKm (yms T s) := by
  obtain ⟨c, p, x, fr, B⟩ := s
  rcases h with h | h
  · have h1 : c = 20 := h
    subst h1
    exact Or.inl rfl
  have h : yKk c B := h
  have op : ∀ c' : Nat, ((1 ≤ c' ∧ c' ≤ 8) ∨ (10 ≤ c' ∧ c' ≤ 14)) → yopn c → yopn c' := fun c' q _ => q
  by_cases c0 : c = 0
  · subst c0
    show yKm (ym0 T p B)
    unfold ym0
    split; exact Or.inl rfl
    split; exact Or.inl rfl
    split; exact Or.inl rfl
    show yKm (1, ynx T p, 0, [], yB1 B (ynm T p).toInt)
    obtain ⟨⟨v0, v1, v2, v3⟩, -, -, -, w7⟩ := yB1_v B (ynm T p).toInt
    refine Or.inr (fun e a b n => ?_)
    have b : e < (yB1 B (ynm T p).toInt).1 0 0 := b
    have n : ¬ (yopn 1 ∧ e = (yB1 B (ynm T p).toInt).1 0 3) := n
    show (yB1 B (ynm T p).toInt).2 2 e e ≠ []
    rw [w7]
    rw [v0] at b
    have ne : e ≠ B.1 0 0 := fun q => n ⟨Or.inl ⟨by decide, by decide⟩, by rw [v3]; exact q⟩
    exact h e a (by omega) (fun q => by have := q.1; unfold yopn at this; omega)
  by_cases c1 : c = 1
  · subst c1
    show yKm (if ykd T p = 60 then (2, p, 0, [], B) else (3, p, 0, [], B))
    split <;> exact yKm_k h (op _ (by decide)) rfl rfl rfl
  by_cases c2 : c = 2
  · subst c2
    obtain ⟨⟨v0, v1, v2, v3⟩, -⟩ := yap_v B (ynm T (ynx T p)).toInt
    show yKm (ym2 T p B)
    unfold ym2
    dsimp only
    split; exact Or.inl rfl
    split; exact Or.inl rfl
    split; exact Or.inl rfl
    split; exact yKm_k h (op _ (by decide)) v0 v3 rfl
    split; exact yKm_k h (op _ (by decide)) v0 v3 rfl
    exact Or.inl rfl
  by_cases c3 : c = 3
  · subst c3
    show yKm (if ykd T p = 4 then (4, p, 0, [], B) else (6, p, 0, [], B))
    split <;> exact yKm_k h (op _ (by decide)) rfl rfl rfl
  by_cases c4 : c = 4
  · subst c4
    show yKm (ym4 T p B)
    unfold ym4
    dsimp only
    split; exact Or.inl rfl
    split; exact Or.inl rfl
    split; exact Or.inl rfl
    split; exact Or.inl rfl
    exact yKm_N h (op _ (by decide)) (by decide)
  by_cases c5 : c = 5
  · subst c5
    rw [show yms T (5, p, x, fr, B) = (10, ynx T p, 0, [], yBt B 0 (if 2 ≤ B.1 6 (B.1 0 6) then 1 else 0)) from rfl]
    obtain ⟨v4, v5, v0, vk⟩ := yBt_v B 0 (if 2 ≤ B.1 6 (B.1 0 6) then 1 else 0)
    exact yKm_k h (op _ (by decide)) (v0 0 (by decide) (by decide)) (v0 3 (by decide) (by decide)) rfl
  by_cases c6 : c = 6
  · subst c6
    show yKm (if ykd T p = 58 then (7, p, 0, [], B) else (8, p, 0, [], B))
    split <;> exact yKm_k h (op _ (by decide)) rfl rfl rfl
  by_cases c7 : c = 7
  · subst c7
    rw [show yms T (7, p, x, fr, B) = (10, ynx T p, 0, [], yBt B 1 (if 4 ≤ B.1 4 (B.1 0 3) then 1 else 0)) from rfl]
    obtain ⟨v4, v5, v0, vk⟩ := yBt_v B 1 (if 4 ≤ B.1 4 (B.1 0 3) then 1 else 0)
    exact yKm_k h (op _ (by decide)) (v0 0 (by decide) (by decide)) (v0 3 (by decide) (by decide)) rfl
  by_cases c8 : c = 8
  · subst c8
    show yKm (if ykd T p ≠ 59 then yflt T B p 2 else (15, p, 0, [], yN (yN (yon B) 0 7 0) 0 8 0))
    split
    · exact Or.inl rfl
    · refine Or.inr (fun e a b n => ?_)
      have b : e < (yN (yN (yon B) 0 7 0) 0 8 0).1 0 0 := b
      rw [yN_ne (by decide), yN_ne (by decide)] at b
      have b : e < B.1 0 0 := b
      show (if (2 : Nat) = 2 ∧ e = B.1 0 3 then (if e = e then [yown B] else if e = 0 then [[0]] else []) else B.2 2 e e) ≠ []
      by_cases q : e = B.1 0 3
      · rw [if_pos ⟨rfl, q⟩, if_pos rfl]
        simp
      · rw [if_neg (fun z => q z.2)]
        exact h e a b (fun z => q z.2)
  by_cases c9 : c = 9
  · subst c9
    have no : ∀ c' : Nat, yopn 9 → yopn c' := fun c' q => by unfold yopn at q; omega
    show yKm (if ykd T p = 0 then (21, p, 0, [], B) else (0, p, 0, [], B))
    split <;> exact yKm_k h (no _) rfl rfl rfl
  by_cases c10 : c = 10
  · subst c10
    show yKm (ym10 T p x fr B)
    unfold ym10
    dsimp only
    split; exact Or.inl rfl
    split; exact Or.inl rfl
    split; exact Or.inl rfl
    split; exact Or.inl rfl
    split
    · split
      · exact Or.inl rfl
      · exact yKm_N h (op _ (by decide)) (by decide)
    · exact yKm_N h (op _ (by decide)) (by decide)
  by_cases c11 : c = 11
  · subst c11
    show yKm (ym11 T p fr B)
    unfold ym11
    dsimp only
    split
    · split; exact Or.inl rfl
      split; exact Or.inl rfl
      split; exact yKm_N h (op _ (by decide)) (by decide)
      split; exact yKm_N h (op _ (by decide)) (by decide)
      exact yKm_N h (op _ (by decide)) (by decide)
    · exact yKm_k h (op _ (by decide)) rfl rfl rfl
  by_cases c12 : c = 12
  · subst c12
    show yKm (ym12 T p fr B)
    rcases fr with _ | ⟨f, r⟩
    · exact yKm_k h (op _ (by decide)) rfl rfl rfl
    unfold ym12
    dsimp only
    split; exact Or.inl rfl
    split; exact Or.inl rfl
    rcases r with _ | ⟨a, r⟩
    · exact yKm_k h (op _ (by decide)) rfl rfl rfl
    · exact yKm_k h (op _ (by decide)) rfl rfl rfl
  by_cases c13 : c = 13
  · subst c13
    show yKm (if ykd T p = 44 then (11, ynx T p, 0, fr, B) else if ykd T p = 62 then (12, ynx T p, 0, fr, B) else yflt T B p 2)
    split; exact yKm_k h (op _ (by decide)) rfl rfl rfl
    split; exact yKm_k h (op _ (by decide)) rfl rfl rfl
    exact Or.inl rfl
  by_cases c14 : c = 14
  · subst c14
    show yKm (ym14 T p fr B)
    rcases fr with _ | ⟨f, r⟩
    · exact yKm_k h (op _ (by decide)) rfl rfl rfl
    unfold ym14
    dsimp only
    split
    · have go : ∀ (c' : Nat) (p' : Int), ((1 ≤ c' ∧ c' ≤ 8) ∨ (10 ≤ c' ∧ c' ≤ 14)) → yKm (c', p', 0, [], yN (yL B 0 (B.1 0 6) (B.1 6 (B.1 0 6)) ([f.2.1] :: f.2.2)) 6 (B.1 0 6) (B.1 6 (B.1 0 6) + 1)) := fun c' p' hc' => yKm_k h (op _ hc') (yN_ne (Or.inl (by decide))) (yN_ne (Or.inl (by decide))) (show (yL B 0 (B.1 0 6) (B.1 6 (B.1 0 6)) ([f.2.1] :: f.2.2)).2 2 = B.2 2 from yL_nz (by decide))
      split
      · exact go _ _ (by decide)
      split
      · exact go _ _ (by decide)
      exact go _ _ (by decide)
    split
    · have go : ∀ (c' : Nat) (p' : Int), ((1 ≤ c' ∧ c' ≤ 8) ∨ (10 ≤ c' ∧ c' ≤ 14)) → yKm (c', p', 0, [], yN (yL B 1 (B.1 0 3) (B.1 4 (B.1 0 3)) ([f.2.1] :: f.2.2)) 4 (B.1 0 3) (B.1 4 (B.1 0 3) + 1)) := fun c' p' hc' => yKm_k h (op _ hc') (yN_ne (Or.inl (by decide))) (yN_ne (Or.inl (by decide))) (show (yL B 1 (B.1 0 3) (B.1 4 (B.1 0 3)) ([f.2.1] :: f.2.2)).2 2 = B.2 2 from yL_nz (by decide))
      split
      · exact go _ _ (by decide)
      exact go _ _ (by decide)
    · exact yKm_k h (op _ (by decide)) rfl rfl rfl
  by_cases c15 : c = 15
  · subst c15
    have no : ∀ c' : Nat, yopn 15 → yopn c' := fun c' q => by unfold yopn at q; omega
    show yKm (ym15 T p B)
    unfold ym15
    split; exact yKm_k h (no _) rfl rfl rfl
    split
    · exact yKm_k h (no _) (by rw [yN_ne (by decide), yN_ne (by decide)]) (by rw [yN_ne (by decide), yN_ne (by decide)]) rfl
    dsimp only
    split
    · exact yKm_N h (no _) (by decide)
    · split
      · exact Or.inl rfl
      · refine Or.inr (fun e a b n => ?_)
        rename_i t _ _ _
        have b : e < B.1 0 0 := b
        show (if (2 : Nat) = 2 ∧ e = B.1 0 3 ∧ e = B.1 0 8 then _ else B.2 2 e e) ≠ []
        split
        · simp
        · exact h e a b (fun z => by have := z.1; unfold yopn at this; omega)
  · have e : yms T (c, p, x, fr, B) = (c, p, x, fr, B) := by
      obtain ⟨k, rfl⟩ : ∃ k, c = k + 16 := ⟨c - 16, by omega⟩
      rfl
    rw [e]
    exact Or.inr h
theorem yKm_R {T : yT} {s s' : yS} (h : yKm s) (hr : yR T s s') : yKm s' := by
  obtain ⟨k, rfl⟩ := hr
  induction k generalizing s with
  | zero => exact h
  | succ k ih => exact ih (yKm_s h)
theorem yKk_0 (c : Nat) : yKk c yB0 := fun e a b _ => by
  have b : e < 1 := b
  have e0 : e = 0 := by omega
  subst e0
  show (if (2 : Nat) = 2 ∧ (0 : Int) = 0 ∧ (0 : Int) = 0 then [[0]] else []) ≠ ([] : List (List Int))
  simp
theorem yKm_00 : yKm (0, 0, 0, [], yB0) := Or.inr (yKk_0 0)
/-! ### the reference's nodes are TYPES -/
theorem rC_qT {m : zM} {B : yB} {T C Pn F : Int} {cf : Int → Int} (hC : C = B.1 0 0) (wf : rLo m 0 T) (w : zWf m 0 T C Pn F cf) (hA : rAr m (yar B) 0 T) : ∀ (k : Nat) (x : Int) (l : List Int), 0 ≤ x → x < T → rC m k x l → qT (yar B) (fun h => (0 ≤ h ∧ h < B.1 0 0) ∨ (32 ≤ h ∧ h < 112) ∨ (200 ≤ h ∧ h ≤ 202)) k l
  | 0, _, _, _, _, h => h.elim
  | k + 1, x, l, x0, x1, ⟨h, as, e1, e2, e3, e5⟩ => by
    obtain ⟨-, w0, w1, w2, w3, w4⟩ := w x x0 x1
    refine ⟨h, as, e1, by rw [e3]; exact hA x x0 x1 h e2, ?_, fun a ha => ?_, fun z a ha => ?_⟩
    · unfold rHd at e2
      rcases e2 with ⟨a, b, c, d⟩ | e2
      · have := (w0 a).1
        exact Or.inl ⟨c, by omega⟩
      · omega
    · obtain ⟨i, h1, h2⟩ := rmem ha
      rw [← h2]
      have p := wf x x0 x1 i (by omega) (by omega)
      exact rC_qT hC wf w hA k _ _ p.1 p.2 (e5 i h1)
    · have kk : m.1 67 x = 4 ∨ m.1 67 x = 5 := by unfold rHd at e2; omega
      have q := w4 kk
      obtain ⟨i, h1, h2⟩ := rmem ha
      have i0 : i = 0 := by omega
      subst i0
      have c := e5 0 h1
      rw [h2] at c
      have r := rHf_w (rEf_of ⟨k, c⟩)
      exact fun z => by
        have := r.mpr z
        have e : m.1 70 (4 * x + ((0 : Nat) : Int)) = m.1 70 (4 * x + 0) := rfl
        rw [e] at this
        omega
theorem qT_P {A : Int → Int} {P P' : Int → Prop} : ∀ (k : Nat) (l : qR), qT A P k l → (∀ h ∈ l, P' h) → qT A P' k l
  | 0, _, q, _ => q.elim
  | k + 1, _, ⟨x, as, e1, e2, e3, e4, e5⟩, hp => ⟨x, as, e1, e2, hp x (by rw [e1]; exact List.mem_cons_self), fun a ha => qT_P k a (e4 a ha) (fun h hh => hp h (by rw [e1]; exact List.mem_cons_of_mem _ (List.mem_flatten.mpr ⟨a, ha, hh⟩))), e5⟩
theorem qH_yG {B : yB} {k : Int} (h0 : 0 ≤ k) {l : List Int} (g : yG B k l) (hp : ∀ h ∈ l, (0 ≤ h ∧ h < B.1 0 0) ∨ (32 ≤ h ∧ h < 112) ∨ (200 ≤ h ∧ h ≤ 202)) : ∀ h ∈ l, qH B k 0 h := fun h hh => by
  unfold qH aFs aNs
  rw [if_neg (by omega), if_neg (by omega)]
  rcases hp h hh with q | q | q
  · exact Or.inl q
  · have := g h hh q.1 q.2
    exact Or.inr (Or.inl ⟨by omega, by omega⟩)
  · exact Or.inr (Or.inr (Or.inl q))
theorem aW_mk {m : zM} {B : yB} {K : Int} (hR : zRI m K) (hQ : rTq m B) (hP : rPc m B (m.1 66 ((23 : Nat) : Int))) (hI : yI0 B) (h2 : yI2 B) (hJ : yJb B) (hk : ∀ k : Int, 0 ≤ k → k < B.1 0 0 → B.2 2 k k ≠ []) (hp : yPs B 160 ≤ 300) : aW B := by
  have I := hR.1.1
  have tp := I.2.2.1
  have wf : rLo m 0 (zTop m) := rLo_W I.2.2.2.2.1 I.1.2.1 (by decide)
  have y2 := yar_w hI.1.1.2
  have hA : rAr m (yar B) 0 (zTop m) := rAr_W I.2.2.2.2.1 ⟨fun v v0 v1 => by
      have v1 : v < B.1 0 0 := by rw [← hQ.1.1]; exact v1
      rw [(hQ.2.1 v v0 v1).2.2.1]
      unfold yar; rw [if_pos ⟨v0, v1⟩], fun v v0 v1 => by
      have := yar_p hI (v - 32) (by omega) (by omega)
      rw [show 32 + (v - 32) = v by omega] at this; exact this, y2.1, y2.2.1, y2.2.2⟩
  refine ⟨fun k p i k0 k1 p0 p1 i0 i1 => ?_, fun k d k0 k1 d0 d1 ne => ?_, hk, hp⟩
  · have ik := hI.2 k k0 k1
    have n := hP.2.1 p i (by omega) (by omega) i0 i1
    obtain ⟨j, E⟩ := n.2
    have q := rC_qT hQ.1.1 wf I.2.2.2.2.1 hA j _ _ n.1.1 (by have := n.1.2; omega) E
    have g := hJ k p k0 k1 p0 p1 i i0 i1
    refine ⟨⟨j, qT_P j _ q (qH_yG k0 g (qT_hds j _ q))⟩, fun z => ?_⟩
    have r := (rHf_w (rEf_of n.2)).mpr z
    have t := (I.2.1.2.2.2.1 p i (by omega) (by rw [hQ.1.2]; omega) i0 (by rw [(hP.2.2.2 p (by omega) (by omega)).1]; exact i1)).2
    omega
  · rcases hP.2.2.1 k d k0 k1 d0 (by omega) with ⟨-, e⟩ | ⟨l, e, n⟩
    · exact absurd e ne
    · have fl : (B.2 2 k d).flatten = l := by rw [e]; simp
      have g : yG B k l := by
        rcases h2 k d with q | ⟨l', q, -, -, g⟩
        · exact absurd q ne
        · rw [e] at q
          have : l = l' := by simpa using q
          rw [this]; exact g
      rcases I.2.1.2.2.2.2.1 k d k0 (by rw [hQ.1.1]; exact k1) d0 (by omega) with t | ⟨ts, t1, t2, t3⟩
      · exfalso; have := n.1.1; omega
      · obtain ⟨j, E⟩ := n.2
        have q := rC_qT hQ.1.1 wf I.2.2.2.2.1 hA j _ _ n.1.1 (by have := n.1.2; omega) E
        have hh := qH_yG k0 g (qT_hds j _ q)
        have qz := qT_P j _ q hh
        rw [fl]
        cases j with
        | zero => exact E.elim
        | succ j =>
          obtain ⟨h, as, e1, e2, e3, e5⟩ := E
          have hd : h = d := by unfold rHd at e2; omega
          subst hd
          have wx := (I.2.2.2.2.1 _ n.1.1 (by have := n.1.2; omega)).2.1 t1
          refine ⟨as, e1, by rw [t2] at wx; have := hQ.1.1; omega, by rw [e3]; exact hA _ n.1.1 (by have := n.1.2; omega) h e2, fun a ha => ?_⟩
          obtain ⟨i, h1, h2'⟩ := rmem ha
          have c := e5 i h1
          rw [h2'] at c
          have p := wf _ n.1.1 (by have := n.1.2; omega) i (by omega) (by omega)
          have qa := rC_qT hQ.1.1 wf I.2.2.2.2.1 hA j _ _ p.1 p.2 c
          refine ⟨⟨j, qT_P j _ qa (fun x hx => hh x (by rw [e1]; exact List.mem_cons_of_mem _ (List.mem_flatten.mpr ⟨a, ha, hx⟩)))⟩, fun z => ?_⟩
          have r := (rHf_w (rEf_of ⟨j, c⟩)).mpr z
          have := t3 i (by omega) (by omega)
          omega
theorem aW_R {m : zM} {B : yB} {K : Int} {T : yT} {p : Int} (hR : zRI m K) (hQ : rTq m B) (hP : rPc m B (m.1 66 ((23 : Nat) : Int))) (hr : yR T (0, 0, 0, [], yB0) (21, p, 0, [], B)) (hI : yI0 B) (h2 : yI2 B) (hJ : yJb B) : aW B := by
  refine aW_mk hR hQ hP hI h2 hJ (fun k a b => ?_) ?_
  · rcases yKm_R yKm_00 hr with q | q
    · exact absurd (show (21 : Nat) = 20 from q) (by decide)
    · exact q k a b (fun z => by have : yopn 21 := z.1; unfold yopn at this; omega)
  · rcases yLs_R yLs_00 hr with q | q
    · exact absurd (show (21 : Nat) = 20 from q) (by decide)
    · have q1 : yPt B + yLz 21 0 [] ≤ B.1 0 2 := q.1
      have q2 : B.1 0 2 ≤ 300 := q.2
      unfold yLz at q1
      rw [if_neg (by omega)] at q1
      have : yPt B ≤ 300 := by omega
      exact this
theorem aW_0 {m : zM} {K : Int} (hR : zRI m K) (hQ : rTq m yB0) (hI : yI0 yB0) (h2 : yI2 yB0) (hJ : yJb yB0) : aW yB0 := aW_mk hR hQ (rPc_0 hR hQ) hI h2 hJ (fun k a b => yKk_0 0 k a b (fun z => by have : yopn 0 := z.1; unfold yopn at this; omega)) (by rw [yPs_0]; decide)
