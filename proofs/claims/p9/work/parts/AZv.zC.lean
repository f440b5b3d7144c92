/-! ### two texts that are alike up to their end -/
def yTq (T T' : yT) : Prop := T.2 = T'.2 ∧ ∀ i : Int, 0 ≤ i → i < T.2 → T.1 i = T'.1 i
theorem yru_q {p : Int → Bool} {T T' : yT} (h : yTq T T') {i : Int} (hi : 0 ≤ i) : yru p T i = yru p T' i := by
  unfold yru
  rw [← h.1]
  exact yru_F h.1 _ i (fun k a b => h.2 k (by omega) b)
theorem ypl_q {T T' : yT} (h : yTq T T') {i : Int} (hi : 0 ≤ i) : ypl T i = ypl T' i := yru_q h hi
theorem ysz_q {T T' : yT} (h : yTq T T') {i : Int} (hi : 0 ≤ i) : ysz T i = ysz T' i := by
  have g := yru_ge yBl T' i
  have e := ypl_q h hi
  unfold ysz
  rw [e, h.1]
  by_cases q : T'.2 ≤ ypl T' i
  · rw [if_pos q, if_pos q]
  · have g' : 0 ≤ ypl T' i := Int.le_trans hi g
    rw [if_neg q, if_neg q, h.2 _ g' (by rw [h.1]; omega), yru_q h (by omega)]
theorem yv_q {T T' : yT} (h : yTq T T') {j : Int} (hj : 0 ≤ j) : ∀ k : Nat, j + k ≤ T.2 → yv T j k = yv T' j k
  | 0, _ => rfl
  | k + 1, hk => by
    show (yv T j k <<< _) ||| _ = (yv T' j k <<< _) ||| _
    rw [yv_q h hj k (by omega), h.2 (j + k) (by omega) (by push_cast at hk; omega)]
theorem ynm_q {T T' : yT} (h : yTq T T') {i : Int} (hi : 0 ≤ i) (h2 : i ≤ T.2) : ynm T i = ynm T' i := by
  have b := yPo_l ⟨hi, h2⟩
  have s := rsz ⟨hi, h2⟩
  unfold ynx at b
  unfold ynm
  rw [← ysz_q h hi, ← ypl_q h hi]
  by_cases q : ysz T i ≤ 8
  · rw [if_pos q, if_pos q, yv_q h b.1.1 _ (by omega)]
  · rw [if_neg q, if_neg q]
theorem ykd_q {T T' : yT} (h : yTq T T') {i : Int} (hi : 0 ≤ i) (h2 : i ≤ T.2) : ykd T i = ykd T' i := by
  have b := yPo_l ⟨hi, h2⟩
  unfold ykd
  rw [← ysz_q h hi, ← ypl_q h hi, ← ynm_q h hi h2, ← h.1]
  by_cases q : T.2 ≤ ypl T i
  · rw [if_pos q, if_pos q]
  · rw [if_neg q, if_neg q, h.2 _ b.1.1 (by omega)]
theorem ynx_q {T T' : yT} (h : yTq T T') {i : Int} (hi : 0 ≤ i) : ynx T i = ynx T' i := by
  unfold ynx
  rw [ysz_q h hi, ypl_q h hi]
theorem yms_q {T T' : yT} (h : yTq T T') {s : yS} (hs : yPo T s) : yms T s = yms T' s := by
  obtain ⟨c, p, x, fr, B⟩ := s
  have h0 : 0 ≤ p ∧ p ≤ T.2 := hs
  have h1 := (yPo_l h0).2
  have h2 := (yPo_l h1).2
  have k0 := ykd_q h h0.1 h0.2
  have n0 := ynm_q h h0.1 h0.2
  have x0 := ynx_q h h0.1
  have l0 := ypl_q h h0.1
  rw [x0] at h1 h2
  have k1 := ykd_q h h1.1 h1.2
  have n1 := ynm_q h h1.1 h1.2
  have x1 := ynx_q h h1.1
  have l1 := ypl_q h h1.1
  rw [x1] at h2
  have k2 := ykd_q h h2.1 h2.2
  have x2 := ynx_q h h2.1
  have l2 := ypl_q h h2.1
  match c, hs with
  | 0, _ => show ym0 T p B = ym0 T' p B; simp only [ym0, ym2, ym4, ym10, ym11, ym12, ym14, ym15, yflt, k0, n0, x0, l0, k1, n1, x1, l1, k2, x2, l2]
  | 1, _ => show (if ykd T p = 60 then ((2, p, 0, [], B) : yS) else (3, p, 0, [], B)) = (if ykd T' p = 60 then ((2, p, 0, [], B) : yS) else (3, p, 0, [], B)); simp only [ym0, ym2, ym4, ym10, ym11, ym12, ym14, ym15, yflt, k0, n0, x0, l0, k1, n1, x1, l1, k2, x2, l2]
  | 2, _ => show ym2 T p B = ym2 T' p B; simp only [ym0, ym2, ym4, ym10, ym11, ym12, ym14, ym15, yflt, k0, n0, x0, l0, k1, n1, x1, l1, k2, x2, l2]
  | 3, _ => show (if ykd T p = 4 then ((4, p, 0, [], B) : yS) else (6, p, 0, [], B)) = (if ykd T' p = 4 then ((4, p, 0, [], B) : yS) else (6, p, 0, [], B)); simp only [ym0, ym2, ym4, ym10, ym11, ym12, ym14, ym15, yflt, k0, n0, x0, l0, k1, n1, x1, l1, k2, x2, l2]
  | 4, _ => show ym4 T p B = ym4 T' p B; simp only [ym0, ym2, ym4, ym10, ym11, ym12, ym14, ym15, yflt, k0, n0, x0, l0, k1, n1, x1, l1, k2, x2, l2]
  | 5, _ => show ((10, ynx T p, 0, [], yN (yN B 0 4 0) 0 5 (if 2 ≤ B.1 6 (B.1 0 6) then 1 else 0)) : yS) = (10, ynx T' p, 0, [], yN (yN B 0 4 0) 0 5 (if 2 ≤ B.1 6 (B.1 0 6) then 1 else 0)); simp only [ym0, ym2, ym4, ym10, ym11, ym12, ym14, ym15, yflt, k0, n0, x0, l0, k1, n1, x1, l1, k2, x2, l2]
  | 6, _ => show (if ykd T p = 58 then ((7, p, 0, [], B) : yS) else (8, p, 0, [], B)) = (if ykd T' p = 58 then ((7, p, 0, [], B) : yS) else (8, p, 0, [], B)); simp only [ym0, ym2, ym4, ym10, ym11, ym12, ym14, ym15, yflt, k0, n0, x0, l0, k1, n1, x1, l1, k2, x2, l2]
  | 7, _ => show ((10, ynx T p, 0, [], yN (yN B 0 4 1) 0 5 (if 4 ≤ B.1 4 (B.1 0 3) then 1 else 0)) : yS) = (10, ynx T' p, 0, [], yN (yN B 0 4 1) 0 5 (if 4 ≤ B.1 4 (B.1 0 3) then 1 else 0)); simp only [ym0, ym2, ym4, ym10, ym11, ym12, ym14, ym15, yflt, k0, n0, x0, l0, k1, n1, x1, l1, k2, x2, l2]
  | 8, _ => show (if ykd T p ≠ 59 then yflt T B p 2 else ((15, p, 0, [], yN (yN (yon B) 0 7 0) 0 8 0) : yS)) = (if ykd T' p ≠ 59 then yflt T' B p 2 else ((15, p, 0, [], yN (yN (yon B) 0 7 0) 0 8 0) : yS)); simp only [ym0, ym2, ym4, ym10, ym11, ym12, ym14, ym15, yflt, k0, n0, x0, l0, k1, n1, x1, l1, k2, x2, l2]
  | 9, _ => show (if ykd T p = 0 then ((21, p, 0, [], B) : yS) else (0, p, 0, [], B)) = (if ykd T' p = 0 then ((21, p, 0, [], B) : yS) else (0, p, 0, [], B)); simp only [ym0, ym2, ym4, ym10, ym11, ym12, ym14, ym15, yflt, k0, n0, x0, l0, k1, n1, x1, l1, k2, x2, l2]
  | 10, _ => show ym10 T p x fr B = ym10 T' p x fr B; simp only [ym0, ym2, ym4, ym10, ym11, ym12, ym14, ym15, yflt, k0, n0, x0, l0, k1, n1, x1, l1, k2, x2, l2]
  | 11, _ => show ym11 T p fr B = ym11 T' p fr B; simp only [ym0, ym2, ym4, ym10, ym11, ym12, ym14, ym15, yflt, k0, n0, x0, l0, k1, n1, x1, l1, k2, x2, l2]
  | 12, _ => show ym12 T p fr B = ym12 T' p fr B; simp only [ym0, ym2, ym4, ym10, ym11, ym12, ym14, ym15, yflt, k0, n0, x0, l0, k1, n1, x1, l1, k2, x2, l2]
  | 13, _ => show (if ykd T p = 44 then ((11, ynx T p, 0, fr, B) : yS) else if ykd T p = 62 then (12, ynx T p, 0, fr, B) else yflt T B p 2) = (if ykd T' p = 44 then ((11, ynx T' p, 0, fr, B) : yS) else if ykd T' p = 62 then (12, ynx T' p, 0, fr, B) else yflt T' B p 2); simp only [ym0, ym2, ym4, ym10, ym11, ym12, ym14, ym15, yflt, k0, n0, x0, l0, k1, n1, x1, l1, k2, x2, l2]
  | 14, _ => show ym14 T p fr B = ym14 T' p fr B; simp only [ym0, ym2, ym4, ym10, ym11, ym12, ym14, ym15, yflt, k0, n0, x0, l0, k1, n1, x1, l1, k2, x2, l2]
  | 15, _ => show ym15 T p B = ym15 T' p B; simp only [ym0, ym2, ym4, ym10, ym11, ym12, ym14, ym15, yflt, k0, n0, x0, l0, k1, n1, x1, l1, k2, x2, l2]
  | c + 16, _ => simp only [yms]
theorem yR_q {T T' : yT} (h : yTq T T') {s s' : yS} (hs : yPo T s) (hr : yR T s s') : yR T' s s' := by
  obtain ⟨k, hk⟩ := hr
  refine ⟨k, ?_⟩
  rw [← hk]
  clear hk
  induction k generalizing s with
  | zero => rfl
  | succ k ih =>
    show yit T' k (yms T' s) = yit T k (yms T s)
    rw [← yms_q h hs]
    exact ih (yPo_s hs)
