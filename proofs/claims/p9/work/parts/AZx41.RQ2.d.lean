/-! ### the reference's questions by rows: what is known -/
theorem qT_hds {A : Int → Int} {P : Int → Prop} : ∀ (k : Nat) (l : qR), qT A P k l → ∀ h ∈ l, P h
  | 0, _, q => q.elim
  | k + 1, _, ⟨x, as, e1, e2, e3, e4, e5⟩ => fun h hh => by
    rw [e1] at hh
    rcases List.mem_cons.mp hh with rfl | hh
    · exact e3
    · obtain ⟨a, ha, hb⟩ := List.mem_flatten.mp hh
      exact qT_hds k a (e4 a ha) h hb
theorem qY_yG {B : yB} {k : Int} {l : qR} (h0 : 0 ≤ k) (hk : k < B.1 0 0) (hC : B.1 0 0 ≤ 21) (H : qY (yar B) (qH B k 0) l) : yG B k l := fun h hh a b => by
  obtain ⟨j, q⟩ := H.1
  have w := qT_hds j l q h hh
  unfold qH aFs aNs at w
  rw [if_neg (show ¬ k < 0 by omega), if_neg (show ¬ k < 0 by omega)] at w
  omega
theorem fl_len {f : Int → Int} : ∀ (n : Nat) (as : List (List Int)), as.length = n → (∀ i : Nat, i < n → ((as.getD i []).length : Int) = f i) → (as.flatten.length : Int) + 1 = zsm f n
  | 0, as, e, _ => by
    rw [List.eq_nil_of_length_eq_zero e]
    rfl
  | n + 1, as, e, h => by
    have hne : as ≠ [] := fun q => by rw [q] at e; cases e
    have ea : as = as.dropLast ++ [as.getLast hne] := (List.dropLast_concat_getLast hne).symm
    have ln : as.dropLast.length = n := by rw [List.length_dropLast, e]; rfl
    have ih := fl_len (f := f) n as.dropLast ln (fun i hi => by
      rw [← h i (by omega)]
      congr 1
      conv => rhs; rw [ea]
      rw [List.getD_eq_getElem?_getD, List.getD_eq_getElem?_getD, List.getElem?_append_left (by omega)])
    have hl := h n (by omega)
    have el : as.getD n [] = as.getLast hne := by
      conv => lhs; rw [ea]
      rw [List.getD_eq_getElem?_getD, List.getElem?_append_right (by omega), ln]
      simp
    rw [el] at hl
    show _ = zsm f n + f ((n : Nat) : Int)
    rw [← ih, ← hl]
    conv => lhs; rw [ea]
    rw [List.flatten_append, List.length_append]
    simp
    omega
/-- a node's size is its row's length -/
theorem rC_sz {m : zM} {T : Int} (hn : ∀ x : Int, 0 ≤ x → x < T → zNd m x) : ∀ (k : Nat) (x : Int) (l : List Int), 0 ≤ x → x < T → m.1 71 x ≤ 99999 → rC m k x l → (l.length : Int) = m.1 71 x
  | 0, _, _, _, _, _, h => h.elim
  | k + 1, x, l, h0, h1, h2, ⟨h, as, e1, e2, e3, e5⟩ => by
    obtain ⟨n1, n2, n3, n4, n5⟩ := hn x h0 h1
    rw [n5] at h2
    have hc := zcap_lt h2
    have s1 : ∀ l : Int, 0 ≤ l → l < m.1 69 x → 1 ≤ (fun i => m.1 71 (m.1 70 (4 * x + i))) l := fun l a b => zsz1 hn _ _ rfl (n2 l a b).1 (by have := (n2 l a b).2; omega)
    have key := fl_len (f := fun i => m.1 71 (m.1 70 (4 * x + i))) as.length as rfl (fun i hi => by
      have p := n2 ((i : Nat) : Int) (by omega) (by omega)
      refine rC_sz hn k _ _ p.1 (by omega) ?_ (e5 i hi)
      have q1 := zsm_mono (f := fun i => m.1 71 (m.1 70 (4 * x + i))) (m := i + 1) (n := (m.1 69 x).toNat) (by omega) (fun l a b => s1 l a (by omega))
      have q2 := zsm_1 (f := fun i => m.1 71 (m.1 70 (4 * x + i))) (n := i) (fun l a b => s1 l a (by omega))
      have q3 : zsm (fun i => m.1 71 (m.1 70 (4 * x + i))) (i + 1) = zsm (fun i => m.1 71 (m.1 70 (4 * x + i))) i + m.1 71 (m.1 70 (4 * x + ((i : Nat) : Int))) := rfl
      omega)
    rw [n5, hc, e1, List.length_cons, show (m.1 69 x).toNat = as.length by omega, ← key]
    omega
/-- how many ARGS a node has -/
def rAf (m : zM) (A : Int → Int) (T : Int) : Prop := ∀ x : Int, 0 ≤ x → x < T → ∀ h : Int, rHf m x h → m.1 69 x = A h
theorem rCf_one {m : zM} {A : Int → Int} {T : Int} (wf : rLo m 0 T) (hA : rAf m A T) : ∀ (k : Nat) (x : Int) (l : List Int), 0 ≤ x → x < T → rCf m k x l → yone A l
  | 0, _, _, _, _, h => h.elim
  | k + 1, x, l, x0, x1, ⟨h, as, e1, e2, e3, e5⟩ => by
    rw [e1]
    refine yone_h (by rw [e3, hA x x0 x1 h e2]) (fun a ha => ?_)
    obtain ⟨i, h1, h2⟩ := rmem ha
    rw [← h2]
    have w := wf x x0 x1 i (by omega) (by omega)
    exact rCf_one wf hA k _ _ w.1 w.2 (e5 i h1)
theorem rCf_as {m : zM} {A : Int → Int} {T : Int} (wf : rLo m 0 T) (hA : rAf m A T) {x : Int} {as : List (List Int)} (x0 : 0 ≤ x) (x1 : x < T) (hl : (as.length : Int) = m.1 69 x) (h : ∀ i : Nat, i < as.length → rEf m (m.1 70 (4 * x + i)) (as.getD i [])) : ∀ a ∈ as, yone A a := fun a ha => by
  obtain ⟨i, h1, h2⟩ := rmem ha
  rw [← h2]
  have w := wf x x0 x1 i (by omega) (by omega)
  obtain ⟨k, e⟩ := h i h1
  exact rCf_one wf hA k _ _ w.1 w.2 e
/-- which node it is -/
theorem rCf_nd {m : zM} {A : Int → Int} (hu : zUq m 0) (wf : rLo m 0 (zTop m)) (hA : rAf m A (zTop m)) : ∀ (k : Nat) (x y : Int) (l : List Int), 0 ≤ x → x < zTop m → 0 ≤ y → y < zTop m → rCf m k x l → rCf m k y l → x = y
  | 0, _, _, _, _, _, _, _, h, _ => h.elim
  | k + 1, x, y, l, x0, x1, y0, y1, ⟨h, as, e1, e2, e3, e5⟩, ⟨h', as', f1, f2, f3, f5⟩ => by
    rw [e1] at f1
    obtain ⟨q1, q2⟩ := List.cons.inj f1
    subst q1
    have c1 := hA x x0 x1 h e2
    have c2 := hA y y0 y1 h f2
    have ea := yone_fe as as' (rCf_as wf hA x0 x1 e3 (fun i hi => ⟨k, e5 i hi⟩)) (rCf_as wf hA y0 y1 f3 (fun i hi => ⟨k, f5 i hi⟩)) (by omega) q2
    subst ea
    have hk : m.1 67 y = m.1 67 x ∧ m.1 68 y = m.1 68 x := by unfold rHf rHd at e2 f2; omega
    refine (hu x y x0 x1 y0 y1 ⟨hk.1, hk.2, by omega, fun i i0 i1 => ?_⟩)
    have hi : i.toNat < as.length := by omega
    have p := wf x x0 x1 i i0 i1
    have q := wf y y0 y1 i i0 (by omega)
    have c := e5 i.toNat hi
    have d := f5 i.toNat hi
    rw [show ((i.toNat : Nat) : Int) = i by omega] at c d
    exact rCf_nd hu wf hA k _ _ _ q.1 q.2 p.1 p.2 d c
/-- the table as the reference has it -/
def rQt (m : zM) (B : yB) (C Pn tt : Int) : Prop := (C = B.1 0 0 ∧ Pn = B.1 0 1) ∧ (∀ k : Int, 0 ≤ k → k < C → m.1 76 k = B.1 2 k ∧ m.1 77 k = B.1 3 k) ∧ rPc m B tt ∧ rN1 m tt (m.1 80 0) [0] ∧ aW B ∧ yI0 B
theorem rQt_x {μ m : zM} {B : yB} {C Pn tt : Int} (h : rQt μ B C Pn tt) (hQ : zQI μ C Pn tt) (ho : zOld μ m (zTop μ)) (hf : ∀ j : Nat, 76 ≤ j → j ≤ 84 → m.1 j = μ.1 j) : rQt m B C Pn tt := by
  obtain ⟨h1, h2, h3, h4, h5, h6⟩ := h
  have nd := hQ.1.2.1
  have tp := hQ.2.2.1
  have key : ∀ (x : Int) (l : List Int), rN1 μ tt x l → rN1 m tt x l := fun x l q => ⟨q.1, rE_old ho nd q.1.1 (by have := q.1.2; omega) q.2⟩
  refine ⟨h1, fun k a b => by rw [hf 76 (by decide) (by decide), hf 77 (by decide) (by decide)]; exact h2 k a b, ?_, by rw [hf 80 (by decide) (by decide)]; exact key _ _ h4, h5, h6⟩
  obtain ⟨p1, p2, p3, p4⟩ := h3
  refine ⟨fun k i a b c d => ?_, fun p i a b c d => ?_, fun k d a b c e => ?_, fun p a b => ?_⟩
  · rw [hf 78 (by decide) (by decide)]; exact key _ _ (p1 k i a b c d)
  · rw [hf 83 (by decide) (by decide)]; exact key _ _ (p2 p i a b c d)
  · rw [hf 80 (by decide) (by decide)]
    rcases p3 k d a b c e with q | ⟨l, q1, q2⟩
    · exact Or.inl q
    · exact Or.inr ⟨l, q1, key _ _ q2⟩
  · rw [hf 84 (by decide) (by decide)]; exact p4 p a b
theorem rQt_A {m : zM} {B : yB} {C Pn tt : Int} (h : rQt m B C Pn tt) (hQ : zQI m C Pn tt) : rLo m 0 (zTop m) ∧ rAf m (yar B) (zTop m) := by
  obtain ⟨⟨h1, -⟩, h2, -, -, -, h6⟩ := h
  have nd := hQ.1.2.1
  have w := hQ.2.2.2.2.1
  have c21 : B.1 0 0 ≤ 21 := h6.1.1.2
  refine ⟨rLo_W w nd (by decide), fun x x0 x1 v hv => ?_⟩
  have y2 := yar_w c21
  obtain ⟨-, w0, w1, w2, w3, w4⟩ := w x x0 x1
  rcases hv with hv | ⟨a, b, c⟩
  · unfold rHd at hv
    rcases hv with ⟨a, b, c, d⟩ | ⟨a, b, c, d⟩ | ⟨a, b, c⟩ | ⟨a, b, c⟩ | ⟨a, b, c⟩
    · have q := w0 a
      rw [q.2, b, (h2 v c (by omega)).2]
      unfold yar; rw [if_pos ⟨c, by omega⟩]
    · rw [(w1 a).2, yar_n c21 (by omega) (by omega) (by omega)]
    · rw [w3 a, c, y2.1]
    · rw [(w4 (Or.inl a)).1, c, y2.2.1]
    · rw [(w4 (Or.inr a)).1, c, y2.2.2]
  · rw [(w2 a).2, yar_n c21 (by omega) (by omega) (by omega)]
/-- a NEW variable of the reference -/
def rV1 (m : zM) (v : Int) (b : List qR × qR) : Prop := ((b.1.length : Int) = m.1 89 v ∧ ∀ i : Nat, i < b.1.length → rEf m (m.1 88 (3 * v + i)) (b.1.getD i [])) ∧ ((b.2 = [] ∧ m.1 90 v < 0) ∨ (0 ≤ m.1 90 v ∧ rEf m (m.1 90 v) b.2))
def rVn (m : zM) (N : List (List qR × qR)) : Prop := ∀ k : Nat, k < N.length → rV1 m k (N.getD k ([], [])) ∧ (N.getD k ([], [])).1 ≠ []
def rVs (m : zM) (S : qS) : Prop := (S.1 = m.1 66 ((46 : Nat) : Int) ∧ S.2.1 = m.1 66 ((48 : Nat) : Int) ∧ (S.2.2.length : Int) = m.1 66 ((45 : Nat) : Int)) ∧ rVn m S.2.2
theorem rV1_x {μ m : zM} {C Pn tt v : Int} {b : List qR × qR} (h : rV1 μ v b) (hQ : zQI μ C Pn tt) (v0 : 0 ≤ v) (v1 : v < μ.1 66 ((45 : Nat) : Int)) (ho : zOld μ m (zTop μ)) (c : m.1 89 v = μ.1 89 v ∧ m.1 90 v = μ.1 90 v ∧ ∀ i : Int, 0 ≤ i → i < 3 → m.1 88 (3 * v + i) = μ.1 88 (3 * v + i)) : rV1 m v b := by
  obtain ⟨⟨h1, h2⟩, h3⟩ := h
  obtain ⟨n1, n2, n3⟩ := hQ.2.2.2.2.2.1 v v0 v1
  have nd := hQ.1.2.1
  refine ⟨⟨by rw [c.1]; exact h1, fun i hi => ?_⟩, ?_⟩
  · rw [c.2.2 i (by omega) (by omega)]
    have ty := n2 i (by omega) (by omega)
    exact rEf_old ho nd ty.1.1 ty.1.2 (h2 i hi)
  · rw [c.2.1]
    rcases h3 with q | ⟨q1, q2⟩
    · exact Or.inl q
    · have ty := n3 q1
      exact Or.inr ⟨q1, rEf_old ho nd ty.1.1 ty.1.2 q2⟩
theorem rVn_x {μ m : zM} {C Pn tt : Int} {N : List (List qR × qR)} (h : rVn μ N) (hQ : zQI μ C Pn tt) (hN : (N.length : Int) ≤ μ.1 66 ((45 : Nat) : Int)) (ho : zOld μ m (zTop μ)) (c : ∀ v : Int, 0 ≤ v → v < (N.length : Int) → m.1 89 v = μ.1 89 v ∧ m.1 90 v = μ.1 90 v ∧ ∀ i : Int, 0 ≤ i → i < 3 → m.1 88 (3 * v + i) = μ.1 88 (3 * v + i)) : rVn m N := fun k hk => ⟨rV1_x (h k hk).1 hQ (by omega) (by omega) ho (c k (by omega) (by omega)), (h k hk).2⟩
/-- the state stays where nothing of it is written -/
theorem rVs_x {μ m : zM} {C Pn tt : Int} {S : qS} (h : rVs μ S) (hQ : zQI μ C Pn tt) (hx : zQx μ m) (f46 : m.1 66 ((46 : Nat) : Int) = μ.1 66 ((46 : Nat) : Int)) (f48 : m.1 66 ((48 : Nat) : Int) = μ.1 66 ((48 : Nat) : Int)) (f45 : m.1 66 ((45 : Nat) : Int) = μ.1 66 ((45 : Nat) : Int)) : rVs m S := by
  obtain ⟨⟨h1, h2, h3⟩, h4⟩ := h
  exact ⟨⟨by rw [f46]; exact h1, by rw [f48]; exact h2, by rw [f45]; exact h3⟩, rVn_x h4 hQ (by omega) hx.1 (fun v a b => hx.2.2.2.2.2 v a (by omega))⟩
/-- a TYPE put anew, by rows -/
theorem rEf_put {m m' : zM} {C Pn tt t w s f n : Int} {l : List Int} {cs : List (List Int)} (hQ : zQI m C Pn tt) (hQ' : zQI m' C Pn tt) (hJ : zSJ m m' 0 s f n w (fun y => y ∈ zsb m 20000 t)) (h98 : m'.1 98 t = s) (ht : 0 ≤ t ∧ t < zTop m) (hw : 0 ≤ w ∧ w < zTop m) (ho : zOld m m' (zTop m)) (htt : zTop m ≤ zTop m') (E : rE m t l) (hG : ∀ h ∈ l, 32 ≤ h → h < 112 → f ≤ h - 32 ∧ h - 32 < f + n) (hn : n = (cs.length : Int)) (hw2 : n = m.1 69 w) (hcs : ∀ j : Nat, j < cs.length → rEf m (m.1 70 (4 * w + j)) (cs.getD j [])) : rEf m' (m'.1 97 t) (ysub f cs l) := by
  have ND1 := hQ.1.2.1
  obtain ⟨k, E1⟩ := E
  have HP : ∀ y : Int, (fun y => y ∈ zsb m 20000 t) y → m.1 67 y = 1 → 0 ≤ m.1 68 y - f ∧ m.1 68 y - f < n := fun y hy ky => by
    have q := zsb_hd 20000 k t _ E1 y hy ky
    have g := hG _ q.1 (by omega) (by omega)
    omega
  have SR := zSJ_SR hJ ND1 HP ht h98
  have ND16 := hQ'.1.2.1
  have W16 : rLo m' 0 (zTop m') := fun y y0 y1 i i0 i1 => ⟨((ND16 y y0 y1).2.1 i i0 i1).1, by have := ((ND16 y y0 y1).2.1 i i0 i1).2; omega⟩
  have H1 : ∀ y : Int, 0 ≤ y → y < zTop m' → m'.1 67 y = 1 → m'.1 69 y = 0 := fun y y0 y1 q => ((hQ'.2.2.2.2.1 y y0 y1).2.2.1 q).2
  have E2 : rC m' k t l := rC_old ho ND1 k t _ ht.1 ht.2 E1
  have A1 : ∀ j : Nat, j < cs.length → rEf m' (m'.1 70 (4 * w + j)) (cs.getD j []) := fun j hj => by
    have nd := ND1 w hw.1 hw.2
    have n1 := nd.1.2
    have n2 := nd.2.1 j (by omega) (by omega)
    have o1 := ho w hw.1 hw.2
    rw [o1.2.2.2.2 j (by omega) (by omega)]
    exact rEf_old ho ND1 n2.1 (by omega) (hcs j hj)
  exact rEf_sub W16 H1 hn A1 k t _ _ ht.1 (by omega) E2 SR
