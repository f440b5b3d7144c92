/-! ### a TYPE that is read in the reference -/
def rF1 (μ : zM) (q : Int) (f : yF) : Prop := f.1 = μ.1 104 q ∧ ((μ.1 100 q = 1 ∧ f.2.1 = 32 + μ.1 101 q ∧ f.2.2 = []) ∨ (μ.1 100 q = 0 ∧ f.2.1 = μ.1 101 q)) ∧ (f.2.2.length : Int) = μ.1 102 q ∧ ∀ i : Nat, i < 4 → i < f.2.2.length → (0 ≤ μ.1 103 (4 * q + i) ∧ μ.1 103 (4 * q + i) < zTop μ) ∧ rE μ (μ.1 103 (4 * q + i)) (f.2.2.getD i [])
def rFs (μ : zM) : List yF → Prop
  | [] => True
  | f :: r => rF1 μ r.length f ∧ rFs μ r
theorem zOld_c {μ m : zM} {T : Int} (h : ∀ j : Nat, 67 ≤ j → j ≤ 71 → m.1 j = μ.1 j) : zOld μ m T := fun x _ _ => by
  rw [h 67 (by decide) (by decide), h 68 (by decide) (by decide), h 69 (by decide) (by decide), h 70 (by decide) (by decide), h 71 (by decide) (by decide)]
  exact ⟨rfl, rfl, rfl, rfl, fun _ _ _ => rfl⟩
theorem rF1_fr {μ m : zM} {q : Int} {f : yF} (h : rF1 μ q f) (hq : m.1 100 q = μ.1 100 q ∧ m.1 101 q = μ.1 101 q ∧ m.1 102 q = μ.1 102 q ∧ m.1 104 q = μ.1 104 q) (h3 : ∀ i : Nat, i < 4 → i < f.2.2.length → m.1 103 (4 * q + i) = μ.1 103 (4 * q + i)) (ho : zOld μ m (zTop μ)) (nd : ∀ x : Int, 0 ≤ x → x < zTop μ → zNd μ x) (ht : zTop μ ≤ zTop m) : rF1 m q f := by
  obtain ⟨a, b, c, d⟩ := h
  unfold rF1
  rw [hq.1, hq.2.1, hq.2.2.1, hq.2.2.2]
  refine ⟨a, b, c, fun i i4 il => ?_⟩
  have z := d i i4 il
  rw [h3 i i4 il]
  exact ⟨⟨z.1.1, by omega⟩, rE_old ho nd z.1.1 z.1.2 z.2⟩
theorem rFs_fr {μ m : zM} : ∀ {fr : List yF}, rFs μ fr → (∀ q : Int, 0 ≤ q → q < fr.length → (m.1 100 q = μ.1 100 q ∧ m.1 101 q = μ.1 101 q ∧ m.1 102 q = μ.1 102 q ∧ m.1 104 q = μ.1 104 q) ∧ ∀ i : Int, 0 ≤ i → i < 4 → m.1 103 (4 * q + i) = μ.1 103 (4 * q + i)) → zOld μ m (zTop μ) → (∀ x : Int, 0 ≤ x → x < zTop μ → zNd μ x) → zTop μ ≤ zTop m → rFs m fr
  | [], _, _, _, _, _ => trivial
  | f :: r, h, hq, ho, nd, ht => ⟨rF1_fr h.1 (hq r.length (by omega) (by simp only [List.length_cons]; omega)).1 (fun i i4 _ => (hq r.length (by omega) (by simp only [List.length_cons]; omega)).2 i (by omega) (by omega)) ho nd ht, rFs_fr h.2 (fun q a b => hq q a (by simp only [List.length_cons]; omega)) ho nd ht⟩
/-- an ARG is added to the last -/
theorem rFs_add {μ m : zM} {f : yF} {r : List yF} {D x : Int} {l : List Int} (h : rFs μ (f :: r)) (hD : D = r.length) (h0 : μ.1 100 D = 0) (e1 : m.1 102 D = μ.1 102 D + 1) (e2 : ∀ q : Int, q ≠ D → m.1 102 q = μ.1 102 q) (e3 : ∀ q : Int, q ≠ 4 * D + μ.1 102 D → m.1 103 q = μ.1 103 q) (e4 : μ.1 102 D < 4 → m.1 103 (4 * D + μ.1 102 D) = x) (hj : ∀ j : Nat, (67 ≤ j ∧ j ≤ 71) ∨ j = 100 ∨ j = 101 ∨ j = 104 → m.1 j = μ.1 j) (ht : zTop m = zTop μ) (hx : 0 ≤ x ∧ x < zTop μ) (hl : rE μ x l) (nd : ∀ x : Int, 0 ≤ x → x < zTop μ → zNd μ x) : rFs m (yadd l (f :: r)) := by
  have ho : zOld μ m (zTop μ) := zOld_c (fun j a b => hj j (by omega))
  obtain ⟨⟨a, b, c, d⟩, hr⟩ := h
  subst hD
  refine ⟨⟨?_, ?_, ?_, fun i i4 il => ?_⟩, rFs_fr hr (fun q q0 q1 => ⟨⟨by rw [hj 100 (by decide)], by rw [hj 101 (by decide)], e2 q (by omega), by rw [hj 104 (by decide)]⟩, fun i i0 i4 => e3 _ (by omega)⟩) ho nd (by omega)⟩
  · rw [hj 104 (by decide)]; exact a
  · rw [hj 100 (by decide), hj 101 (by decide)]
    rcases b with b | b
    · omega
    · exact Or.inr b
  · show ((f.2.2 ++ [l]).length : Int) = _
    rw [List.length_append, e1, ← c]; rfl
  · have il : i < (f.2.2 ++ [l]).length := il
    rw [List.length_append] at il
    have il : i < f.2.2.length + 1 := il
    show (_ ∧ _) ∧ rE m _ ((f.2.2 ++ [l]).getD i [])
    rw [ht]
    by_cases q : i = f.2.2.length
    · have e5 := e4 (by omega)
      rw [show (4 * (r.length : Int) + (i : Int)) = 4 * r.length + μ.1 102 r.length by omega, e5, List.getD_eq_getElem?_getD, List.getElem?_append_right (by omega), q, Nat.sub_self]
      exact ⟨hx, rE_c (fun j p q => hj j (by omega)) hl⟩
    · rw [e3 _ (by omega), List.getD_eq_getElem?_getD, List.getElem?_append_left (by omega), ← List.getD_eq_getElem?_getD]
      have z := d i i4 (by omega)
      exact ⟨z.1, rE_c (fun j p q => hj j (by omega)) z.2⟩
/-- where the reading of a TYPE stands -/
def rRT (cb pb : Int) (T : yT) (s : yS) (B : yB) (D c : Int) (μ : zM) : Prop := ∃ (p n : Int) (fr : List yF), rLx μ T p ∧ rNg cb pb μ (yN B 0 2 n) ∧ rFs μ fr ∧ ((c = 0 ∧ yR T s (10, p, μ.1 104 D, fr, yN B 0 2 n) ∧ (fr.length : Int) = D) ∨ (c = 1 ∧ yR T s (11, p, 0, fr, yN B 0 2 n) ∧ (fr.length : Int) = D + 1) ∨ (c = 2 ∧ yR T s (12, p, 0, fr, yN B 0 2 n) ∧ (fr.length : Int) = D + 1) ∨ (c = 3 ∧ yR T s (13, p, 0, fr, yN B 0 2 n) ∧ (fr.length : Int) = D + 1))
/-- the code of a node that was closed -/
theorem rcl {μ m : zM} {lo v q : Int} {f : yF} (h : rF1 μ q f) (nd : ∀ x : Int, 0 ≤ x → x < zTop μ → zNd μ x) (hv : 0 ≤ μ.1 101 q ∧ (μ.1 100 q = 0 → μ.1 101 q < 32 ∧ μ.1 102 q ≤ 4) ∧ (μ.1 100 q = 1 → μ.1 101 q < 80)) (hc : (μ.1 100 q ≠ 0 ∧ zMd μ m lo 1 (μ.1 101 q) 0 (μ.1 74) v) ∨ (μ.1 100 q = 0 ∧ zMd μ m lo 0 (μ.1 101 q) (μ.1 102 q) (fun i => μ.1 103 (4 * q + i)) v)) : rE m v (f.2.1 :: f.2.2.flatten) := by
  obtain ⟨a, b, c, d⟩ := h
  rcases hc with ⟨h0, -, hl, -, -⟩ | ⟨h0, -, hl, hs, ho⟩
  · have b : μ.1 100 q = 1 ∧ f.2.1 = 32 + μ.1 101 q ∧ f.2.2 = [] := by rcases b with b | b; exact b; exact absurd b.1 h0
    refine rE_mk (n := 0) (Or.inr (Or.inl ⟨hl.1, by rw [hl.2.1]; exact b.2.1, by rw [hl.2.1]; exact hv.1, by rw [hl.2.1]; exact hv.2.2 b.1⟩)) hl.2.2.1 (by rw [b.2.2]; rfl) (fun i hi => ?_)
    rw [b.2.2] at hi
    exact absurd hi (by simp)
  · have b : f.2.1 = μ.1 101 q := by rcases b with b | b; (exfalso; have := b.1; omega); exact b.2
    have h4 := hv.2.1 h0
    refine rE_mk (n := μ.1 102 q) (Or.inl ⟨hl.1, by rw [hl.2.1, b], by omega, by omega⟩) hl.2.2.1 c (fun i hi => ?_)
    rw [hl.2.2.2 i (by omega) (by omega)]
    have z := d i (by omega) hi
    exact rE_old ho nd z.1.1 z.1.2 z.2
theorem rwr {μ m : zM} {v x w : Int} {l : List Int} (hx : rE μ x l) (x0 : 0 ≤ x) (x1 : x < zTop μ) (nd : ∀ x : Int, 0 ≤ x → x < zTop μ → zNd μ x) (hw : w = 4 ∨ w = 5) (hl : zlike m v w 0 1 (μ.1 74)) (h74 : μ.1 74 0 = x) (ho : zOld μ m (zTop μ)) : rE m v (ywr w ++ l) := by
  have e : ywr w ++ l = (if w = 4 then 201 else 202) :: [l].flatten := by
    unfold ywr
    rcases hw with q | q
    · rw [if_pos q, if_pos q]; simp
    · rw [if_neg (by omega), if_pos q, if_neg (by omega)]; simp
  rw [e]
  refine rE_mk (n := 1) ?_ hl.2.2.1 rfl (fun i hi => ?_)
  · unfold rHd
    rcases hw with q | q
    · rw [if_pos q]; exact Or.inr (Or.inr (Or.inr (Or.inl ⟨by rw [hl.1]; exact q, hl.2.1, rfl⟩)))
    · rw [if_neg (by omega)]; exact Or.inr (Or.inr (Or.inr (Or.inr ⟨by rw [hl.1]; exact q, hl.2.1, rfl⟩)))
  · have : i = 0 := by simpa using hi
    subst this
    rw [hl.2.2.2 _ (by decide) (by decide)]
    show rE m (μ.1 74 0) l
    rw [h74]
    exact rE_old ho nd x0 x1 hx
theorem rany {m : zM} {v : Int} {p : Int → Int} (hl : zlike m v 3 0 0 p) : rE m v [200] := by
  have := rE_mk (m := m) (v := v) (h := 200) (n := 0) (as := []) (Or.inr (Or.inr (Or.inl ⟨hl.1, hl.2.1, rfl⟩))) hl.2.2.1 rfl (fun i hi => by simp at hi)
  simpa using this
theorem yI0_N {B : yB} {n : Int} (h : yI0 B) : yI0 (yN B 0 2 n) := by
  unfold yI0
  rw [show (yN B 0 2 n).1 0 0 = B.1 0 0 from yN_ne (by decide), show (yN B 0 2 n).1 0 1 = B.1 0 1 from yN_ne (by decide), show (yN B 0 2 n).1 0 3 = B.1 0 3 from yN_ne (by decide), yN_nk (by decide), yN_nk (by decide)]
  exact h
theorem rBv (B : yB) (n : Int) : (yN B 0 2 n).1 0 0 = B.1 0 0 ∧ (yN B 0 2 n).1 0 2 = n ∧ (yN B 0 2 n).1 0 3 = B.1 0 3 ∧ (yN B 0 2 n).1 0 4 = B.1 0 4 ∧ (yN B 0 2 n).1 0 5 = B.1 0 5 := ⟨yN_ne (by decide), yN_at, yN_ne (by decide), yN_ne (by decide), yN_ne (by decide)⟩
theorem rLx_z {μ μ' : zM} {T : yT} {p : Int} {ws fs : List Nat} (h : rLx μ T p) (q : zfx ws fs μ μ') (h85 : ws.any (fun r => Nat.beq 85 r) = false) (h6 : fs.any (fun r => Nat.beq 30 r) = false ∧ fs.any (fun r => Nat.beq 31 r) = false ∧ fs.any (fun r => Nat.beq 32 r) = false ∧ fs.any (fun r => Nat.beq 33 r) = false ∧ fs.any (fun r => Nat.beq 34 r) = false) : rLx μ' T p := by
  unfold rLx
  rw [q.1 85 (by decide) h85, q.2.1 30 h6.1, q.2.1 31 h6.2.1, q.2.1 32 h6.2.2.1, q.2.1 33 h6.2.2.2.1, q.2.1 34 h6.2.2.2.2]
  exact h
theorem rNu_z {μ μ' : zM} {B : yB} {cb pb : Int} {ws fs : List Nat} (h : rNg cb pb μ B) (q : zfx ws fs μ μ') (h1 : ws.any (fun r => Nat.beq 3000075 r) = false ∧ ws.any (fun r => Nat.beq 3000081 r) = false ∧ ws.any (fun r => Nat.beq 76 r) = false ∧ ws.any (fun r => Nat.beq 77 r) = false ∧ ws.any (fun r => Nat.beq 79 r) = false ∧ ws.any (fun r => Nat.beq 84 r) = false) (h2 : fs.any (fun r => Nat.beq 24 r) = false ∧ fs.any (fun r => Nat.beq 25 r) = false ∧ fs.any (fun r => Nat.beq 26 r) = false ∧ fs.any (fun r => Nat.beq 27 r) = false ∧ fs.any (fun r => Nat.beq 38 r) = false ∧ fs.any (fun r => Nat.beq 35 r) = false) : rNg cb pb μ' B := by
  unfold rNg
  rw [q.1 3000075 (by decide) h1.1, q.1 3000081 (by decide) h1.2.1, q.1 76 (by decide) h1.2.2.1, q.1 77 (by decide) h1.2.2.2.1, q.1 79 (by decide) h1.2.2.2.2.1, q.1 84 (by decide) h1.2.2.2.2.2, q.2.1 24 h2.1, q.2.1 25 h2.2.1, q.2.1 26 h2.2.2.1, q.2.1 27 h2.2.2.2.1, q.2.1 38 h2.2.2.2.2.1, q.2.1 35 h2.2.2.2.2.2]
  exact h
theorem rFs_z {μ μ' : zM} {fr : List yF} (h : rFs μ fr) (h1 : μ'.1 100 = μ.1 100 ∧ μ'.1 101 = μ.1 101 ∧ μ'.1 102 = μ.1 102 ∧ μ'.1 103 = μ.1 103) (h4 : ∀ q : Int, 0 ≤ q → q < fr.length → μ'.1 104 q = μ.1 104 q) (ho : zOld μ μ' (zTop μ)) (nd : ∀ x : Int, 0 ≤ x → x < zTop μ → zNd μ x) (ht : zTop μ ≤ zTop μ') : rFs μ' fr := rFs_fr h (fun q a b => ⟨⟨by rw [h1.1], by rw [h1.2.1], by rw [h1.2.2.1], h4 q a b⟩, fun i _ _ => by rw [h1.2.2.2]⟩) ho nd ht
/-- a TYPE is opened -/
theorem rFs_open {μ m : zM} {fr : List yF} {D h : Int} (S : rFs μ fr) (hD : (fr.length : Int) = D) (h3 : m.1 103 = μ.1 103) (h4 : m.1 104 = μ.1 104) (hj : ∀ j : Nat, 67 ≤ j → j ≤ 71 → m.1 j = μ.1 j) (ht : zTop m = zTop μ) (hq : ∀ q : Int, q ≠ D → m.1 100 q = μ.1 100 q ∧ m.1 101 q = μ.1 101 q ∧ m.1 102 q = μ.1 102 q) (hz : m.1 102 D = 0) (hh : (m.1 100 D = 1 ∧ h = 32 + m.1 101 D) ∨ (m.1 100 D = 0 ∧ h = m.1 101 D)) (nd : ∀ x : Int, 0 ≤ x → x < zTop μ → zNd μ x) : rFs m ((μ.1 104 D, h, []) :: fr) := by
  subst hD
  refine ⟨⟨by rw [h4], ?_, by rw [hz]; rfl, fun i _ hi => by simp at hi⟩, rFs_fr S (fun q a b => ⟨⟨(hq q (by omega)).1, (hq q (by omega)).2.1, (hq q (by omega)).2.2, by rw [h4]⟩, fun i _ _ => by rw [h3]⟩) (zOld_c hj) nd (by omega)⟩
  rcases hh with h | h
  · exact Or.inl ⟨h.1, h.2, rfl⟩
  · exact Or.inr h
theorem yW4_r {B : yB} {fr : List yF} : yW4 B fr ≠ 0 ↔ (B.1 0 4 = 1 ∧ fr.length = 1) := by
  unfold yW4
  split <;> omega
theorem rym12_2 {T : yT} {p : Int} {f : yF} {r : List yF} {B : yB} (h : ¬ ymay B r.length (ykd T p) = true) : yms T (12, p, 0, f :: r, B) = yflt T B p 2 := by
  show ym12 T p (f :: r) B = _
  unfold ym12
  dsimp only
  rw [if_pos (by simpa using h)]
theorem rym12_5 {T : yT} {p : Int} {f : yF} {r : List yF} {B : yB} (h : ymay B r.length (ykd T p) = true) (h5 : (f.2.2.length : Int) ≠ yar B f.2.1) : yms T (12, p, 0, f :: r, B) = yflt T B p 5 := by
  show ym12 T p (f :: r) B = _
  unfold ym12
  dsimp only
  rw [if_neg (by rw [h]; simp), if_pos h5]
theorem rym12_0 {T : yT} {p : Int} {f : yF} {B : yB} (h : ymay B 0 (ykd T p) = true) (h5 : (f.2.2.length : Int) = yar B f.2.1) : yms T (12, p, 0, [f], B) = (14, p, 0, [f], B) := ym12_zc h h5
theorem rym12_s {T : yT} {p : Int} {f g : yF} {r : List yF} {B : yB} (h : ymay B (g :: r).length (ykd T p) = true) (h5 : (f.2.2.length : Int) = yar B f.2.1) : yms T (12, p, 0, f :: g :: r, B) = (13, p, 0, yadd (ycd f) (g :: r), B) := by
  show ym12 T p (f :: g :: r) B = _
  unfold ym12
  dsimp only
  rw [if_neg (by rw [h]; simp), if_neg (by omega)]
theorem ryar_c {μ : zM} {B : yB} {cb pb : Int} {v : Int} (h : rNg cb pb μ B) (hv : 0 ≤ v ∧ v < B.1 0 0) : yar B v = μ.1 77 (cb + v) := by
  unfold yar
  rw [if_pos hv]
  exact (h.2.1 v hv.1 hv.2).2.2.1.symm
theorem ryar_p {B : yB} {v : Int} (hB : B.1 0 0 ≤ 21) (hv : 0 ≤ v ∧ v < 80) : yar B (32 + v) = 0 := by
  unfold yar
  rw [if_neg (by omega), if_neg (by omega)]
theorem rend {T : yT} {s : yS} {B : yB} {cb pb : Int} {D c : Int} {μ : zM} (h : rRT cb pb T s B D c μ) : (c = 0 → ∃ (p n : Int) (fr : List yF), rLx μ T p ∧ rNg cb pb μ (yN B 0 2 n) ∧ rFs μ fr ∧ yR T s (10, p, μ.1 104 D, fr, yN B 0 2 n) ∧ (fr.length : Int) = D) ∧ (c = 1 → ∃ (p n : Int) (fr : List yF), rLx μ T p ∧ rNg cb pb μ (yN B 0 2 n) ∧ rFs μ fr ∧ yR T s (11, p, 0, fr, yN B 0 2 n) ∧ (fr.length : Int) = D + 1) ∧ (c = 2 → ∃ (p n : Int) (fr : List yF), rLx μ T p ∧ rNg cb pb μ (yN B 0 2 n) ∧ rFs μ fr ∧ yR T s (12, p, 0, fr, yN B 0 2 n) ∧ (fr.length : Int) = D + 1) ∧ (c = 3 → ∃ (p n : Int) (fr : List yF), rLx μ T p ∧ rNg cb pb μ (yN B 0 2 n) ∧ rFs μ fr ∧ yR T s (13, p, 0, fr, yN B 0 2 n) ∧ (fr.length : Int) = D + 1) := by
  obtain ⟨p, n, fr, a, b, d, e⟩ := h
  refine ⟨fun q => ⟨p, n, fr, a, b, d, ?_⟩, fun q => ⟨p, n, fr, a, b, d, ?_⟩, fun q => ⟨p, n, fr, a, b, d, ?_⟩, fun q => ⟨p, n, fr, a, b, d, ?_⟩⟩ <;> rcases e with e | e | e | e <;> first | exact e.2 | (exfalso; omega)
