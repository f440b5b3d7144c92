theorem tE_ne {m : zM} {A : Int → Int} {x : Int} {l : qR} (e : tE m A x l) : l ≠ [] := by
  obtain ⟨as, q, -⟩ := tE_h e
  rw [q]
  exact List.cons_ne_nil _ _
/-! ### the class captures -/
def gk_X8_isWild : zC := fun As μ Q => ∃ (a1 : Int), As = [.inl a1] ∧ ((-2147483648) ≤ a1 ∧ a1 ≤ 2147483647) ∧ (∀ (v : Int), 0 ≤ v → v ≤ 1 → ((v = 1 ∧ (200 ≤ a1 ∧ a1 ≤ 202)) ∨ (v = 0 ∧ ¬ (200 ≤ a1 ∧ a1 ≤ 202))) → Q (some (.inl v)) μ)
set_option maxHeartbeats 4000000 in
theorem gm_X8_isWild {g : zΓ} (hg : zg g) (d : Nat) (hd : 1 ≤ d) : zOk g d 116 gk_X8_isWild := by
  obtain ⟨d, rfl⟩ : ∃ d', d = d' + 1 := ⟨d - 1, by omega⟩
  refine zOk_straight hg (show mt_tab[116]? = some mt_X8_isWild from rfl) [] 15 rfl fun As μ Q hC => ?_
  obtain ⟨a1, rfl, ha1, hQ⟩ := hC
  refine ⟨rfl, ?_⟩
  refine And.intro ⟨⟨by omega, by omega⟩, ⟨by omega, by omega⟩⟩ (And.intro (fun c1 => ?_) (fun c1 => ?_))
  · exact And.intro (zrtb (by omega)) (And.intro ⟨by omega, by omega⟩ (hQ _ (by omega) (by omega) (Or.inr ⟨rfl, by omega⟩)))
  · refine And.intro ⟨⟨by omega, by omega⟩, ⟨by omega, by omega⟩⟩ (And.intro (fun c2 => ?_) (fun c2 => ?_))
    · exact And.intro (zrtb (by omega)) (And.intro ⟨by omega, by omega⟩ (hQ _ (by omega) (by omega) (Or.inr ⟨rfl, by omega⟩)))
    · exact And.intro (zrtb (by omega)) (And.intro ⟨by omega, by omega⟩ (hQ _ (by omega) (by omega) (Or.inl ⟨rfl, by omega⟩)))
def gk_X8_isClass : zC := fun As μ Q => ∃ (a1 : Int), As = [.inl a1] ∧ ((-2147483648) ≤ a1 ∧ a1 ≤ 2147483647) ∧ (∀ (v : Int), 0 ≤ v → v ≤ 1 → ((v = 1 ∧ (0 ≤ a1 ∧ a1 < 21)) ∨ (v = 0 ∧ ¬ (0 ≤ a1 ∧ a1 < 21))) → Q (some (.inl v)) μ)
set_option maxHeartbeats 4000000 in
theorem gm_X8_isClass {g : zΓ} (hg : zg g) (d : Nat) (hd : 1 ≤ d) : zOk g d 114 gk_X8_isClass := by
  obtain ⟨d, rfl⟩ : ∃ d', d = d' + 1 := ⟨d - 1, by omega⟩
  refine zOk_straight hg (show mt_tab[114]? = some mt_X8_isClass from rfl) [] 14 rfl fun As μ Q hC => ?_
  obtain ⟨a1, rfl, ha1, hQ⟩ := hC
  refine ⟨rfl, ?_⟩
  refine And.intro ⟨by omega, by omega⟩ (And.intro (fun c1 => ?_) (fun c1 => ?_))
  · exact And.intro (zrtb (by omega)) (And.intro ⟨by omega, by omega⟩ (hQ _ (by omega) (by omega) (Or.inr ⟨rfl, by omega⟩)))
  · refine And.intro ⟨⟨by omega, by omega⟩, ⟨by omega, by omega⟩⟩ (And.intro (fun c2 => ?_) (fun c2 => ?_))
    · exact And.intro (zrtb (by omega)) (And.intro ⟨by omega, by omega⟩ (hQ _ (by omega) (by omega) (Or.inr ⟨rfl, by omega⟩)))
    · exact And.intro (zrtb (by omega)) (And.intro ⟨by omega, by omega⟩ (hQ _ (by omega) (by omega) (Or.inl ⟨rfl, by omega⟩)))
/-- what capturing leaves alone -/
def aCf (μ m : zM) (fr : Int) : Prop := (∀ k : Int, k < fr ∨ fr + 4 ≤ k → m.1 58 k = μ.1 58 k) ∧ (∀ v : Int, v < (μ.1 52 ((13 : Nat) : Int)) → m.1 53 v = μ.1 53 v ∧ m.1 55 v = μ.1 55 v) ∧ ∀ k : Int, k < (μ.1 52 ((13 : Nat) : Int)) * 3 → m.1 54 k = μ.1 54 k
/-- NEW variables from a number on -/
def aNx (m : zM) (B : yB) (b : Int) (N : List (List qR × qR)) : Prop := ∀ k : Nat, k < N.length → aNv m B (b + k) (N.getD k ([], [])).1 ∧ aNf m B (b + k) (N.getD k ([], [])).2
theorem aNx_o {m m' : zM} {B : yB} {b : Int} {N : List (List qR × qR)} (h : aNx m B b N) (w : tW m (yar B)) (o : tOd m m') (e53 : ∀ v : Int, b ≤ v → v < b + N.length → m'.1 53 v = m.1 53 v ∧ m'.1 55 v = m.1 55 v) (e54 : ∀ k : Int, b * 3 ≤ k → k < (b + N.length) * 3 → m'.1 54 k = m.1 54 k) : aNx m' B b N := fun k hk => ⟨aNv_o (h k hk).1 w o (e53 _ (by omega) (by omega)).1 (fun q a c => e54 q (by omega) (by omega)), aNf_o (h k hk).2 w o (e53 _ (by omega) (by omega)).2⟩
theorem aNx_a {m : zM} {B : yB} {b : Int} {N : List (List qR × qR)} {x : List qR × qR} (h : aNx m B b N) (h1 : aNv m B (b + N.length) x.1) (h2 : aNf m B (b + N.length) x.2) : aNx m B b (N ++ [x]) := fun k hk => by
  have hk : k < N.length + 1 := by simpa using hk
  by_cases z : k = N.length
  · rw [z, List.getD_eq_getElem?_getD, List.getElem?_append_right (Nat.le_refl _)]
    simp only [Nat.sub_self, List.getElem?_cons_zero, Option.getD_some]
    exact ⟨h1, h2⟩
  · rw [List.getD_eq_getElem?_getD, List.getElem?_append_left (by omega), ← List.getD_eq_getElem?_getD]
    exact h k (by omega)
/-- so many ARGS are bound -/
def qCk (B : yB) (c : Int) (cs as : List qR) (g0 g : Int) (i : Nat) (N : List (List qR × qR)) : Prop := qCb B c cs as 0 g0 = (qCb B c cs (as.drop i) (i : Int) g).map (fun x => (x.1, N ++ x.2))
theorem qCk_0 {B : yB} {c : Int} {cs as : List qR} {g : Int} : qCk B c cs as g g 0 [] := by unfold qCk; simp
theorem qCk_d {as : List qR} {i : Nat} (hi : i < as.length) : as.drop i = as.getD i [] :: as.drop (i + 1) := by rw [List.drop_eq_getElem_cons hi, List.getD_eq_getElem?_getD, List.getElem?_eq_getElem hi]; rfl
theorem qCk_k {B : yB} {c : Int} {cs as : List qR} {g0 g : Int} {i : Nat} {N : List (List qR × qR)} (h : qCk B c cs as g0 g i N) (hi : i < as.length) (hw : ¬ ywl (as.getD i []) = true) : qCk B c cs as g0 g (i + 1) N := by
  unfold qCk at h ⊢
  rw [h, qCk_d hi, qCb, if_neg hw]
  rfl
theorem qCk_w {B : yB} {c : Int} {cs as : List qR} {g0 g g1 : Int} {i : Nat} {N : List (List qR × qR)} {bs : List qR} (h : qCk B c cs as g0 g i N) (hi : i < as.length) (hw : ywl (as.getD i []) = true) (e : qBd (B.1 2 c) cs (qPb B (B.1 2 c + (i : Int))) g = some (g1, bs)) : qCk B c cs as g0 g1 (i + 1) (N ++ [(qNb (as.getD i []) bs, qDn (as.getD i []))]) := by
  unfold qCk at h ⊢
  rw [h, qCk_d hi, qCb, if_pos hw, e]
  show Option.map _ (match qCb B c cs (as.drop (i + 1)) ((i : Int) + 1) g1 with
    | none => none
    | some (g2, N) => some (g2, (qNb (as.getD i []) bs, qDn (as.getD i [])) :: N)) = Option.map _ (qCb B c cs (as.drop (i + 1)) ((i : Int) + 1) g1)
  cases qCb B c cs (as.drop (i + 1)) ((i : Int) + 1) g1 with
  | none => rfl
  | some x => simp
theorem qCk_n {B : yB} {c : Int} {cs as : List qR} {g0 g : Int} {i : Nat} {N : List (List qR × qR)} (h : qCk B c cs as g0 g i N) (hi : i < as.length) (hw : ywl (as.getD i []) = true) (e : qBd (B.1 2 c) cs (qPb B (B.1 2 c + (i : Int))) g = none) : qCb B c cs as 0 g0 = none := by
  unfold qCk at h
  rw [h, qCk_d hi, qCb, if_pos hw, e]
  rfl
theorem qCk_e {B : yB} {c : Int} {cs as : List qR} {g0 g : Int} {i : Nat} {N : List (List qR × qR)} (h : qCk B c cs as g0 g i N) (hi : as.length ≤ i) : qCb B c cs as 0 g0 = some (g, N) := by
  unfold qCk at h
  rw [h, List.drop_eq_nil_of_le hi]
  simp [qCb]
theorem ycn_e (c : Int) (as : List qR) : ycn c as as.length = c + ((as.countP ywl : Nat) : Int) := by unfold ycn; rw [List.take_length]
/-- i ARGS are captured -/
def aC1 (μ m : zM) (t : Nat) (B : yB) (s c fr : Int) (as : List (List Int)) (i : Nat) : Prop := zfK μ m ∧ tOk m t (yar B) ∧ tOd μ m ∧ m.1 52 ((13 : Nat) : Int) = ycn (μ.1 52 ((13 : Nat) : Int)) as i ∧ m.1 52 ((14 : Nat) : Int) = μ.1 52 ((14 : Nat) : Int) ∧ (tn m ≤ tn μ + (ycn (μ.1 52 ((13 : Nat) : Int)) as i - μ.1 52 ((13 : Nat) : Int)) ∧ tp m ≤ tp μ) ∧ (∀ j : Nat, j < i → tE m (yar B) (m.1 58 (fr + j)) ((ycap (μ.1 52 ((13 : Nat) : Int)) as).getD j []) ∧ (ywl (as.getD j []) = true → m.1 53 (ycn (μ.1 52 ((13 : Nat) : Int)) as j) = 0 ∧ aNf m B (ycn (μ.1 52 ((13 : Nat) : Int)) as j) (qDn (as.getD j [])))) ∧ aCf μ m fr
theorem aC1_0 {μ : zM} {t : Nat} {B : yB} {s c fr : Int} {as : List (List Int)} (ok : tOk μ t (yar B)) : aC1 μ μ t B s c fr as 0 := ⟨zfK_r μ, ok, tOd_r μ, (ycn_0 _ _).symm, rfl, ⟨by rw [ycn_0]; omega, by omega⟩, fun j hj => by omega, fun _ _ => rfl, fun _ _ => ⟨rfl, rfl⟩, fun _ _ => rfl⟩
/-- an ARG that is known -/
theorem aC1_k {μ m m' : zM} {t : Nat} {B : yB} {s c fr x : Int} {as : List (List Int)} {i : Nat} (h : aC1 μ m t B s c fr as i) (hi : i < as.length) (l4 : as.length ≤ 4) (hw : ¬ ywl (as.getD i []) = true) (hx : tE m (yar B) x (as.getD i [])) (q : zl0 m m') (e : m' = zu m 58 (fr + i) x) : aC1 μ m' t B s c fr as (i + 1) := by
  obtain ⟨h1, h2, h3, h4, h5, h6, h7, h8⟩ := h
  obtain ⟨o, d, n⟩ := tOk_g h2 (m' := m') (fun j hj => by rw [e, zu_ne (by omega)])
  have e52 : m'.1 52 = m.1 52 := by rw [e, zu_ne (by decide)]
  have e53 : m'.1 53 = m.1 53 := by rw [e, zu_ne (by decide)]
  have e55 : m'.1 55 = m.1 55 := by rw [e, zu_ne (by decide)]
  have w := h2.2.2.2.2
  have ys := ycn_s (c := μ.1 52 ((13 : Nat) : Int)) hi
  rw [if_neg hw] at ys
  refine ⟨zfK_t h1 (zfK_u q e (by omega)), o, tOd_t h3 d, by rw [e52, h4, ycn_s hi, if_neg hw]; omega, by rw [e52]; exact h5, ⟨by omega, by omega⟩, fun j hj => ?_, fun k hk => by rw [e, zu_nk (by omega)]; exact h8.1 k hk, fun v hv => by rw [e53, e55]; exact h8.2.1 v hv, fun k hk => by rw [e, zu_ne (by decide)]; exact h8.2.2 k hk⟩
  by_cases z : j = i
  · subst z
    refine ⟨?_, fun y => absurd y hw⟩
    rw [ycap_g hi, if_neg hw, e, zu_at, ← e]
    exact tE_old d w hx
  · have u := h7 j (by omega)
    refine ⟨?_, fun v => ⟨by rw [e53]; exact (u.2 v).1, aNf_o (u.2 v).2 w d (by rw [e55])⟩⟩
    rw [e, zu_nk (by omega), ← e]
    exact tE_old d w u.1
/-- an ARG that is unknown -/
theorem aC1_w {μ m m1 m2 m3 m4 m5 : zM} {t : Nat} {B : yB} {s c fr x y : Int} {as : List (List Int)} {i : Nat} (h : aC1 μ m t B s c fr as i) (hi : i < as.length) (hw : ywl (as.getD i []) = true) (l4 : as.length ≤ 4) (hy : aNf m2 B (m.1 52 ((13 : Nat) : Int)) (qDn (as.getD i []))) (q1 : zl0 m m1) (e1 : m1 = zu m 53 (m.1 52 ((13 : Nat) : Int)) 0) (q2 : zl0 m1 m2) (e2 : m2 = zu m1 55 (m.1 52 ((13 : Nat) : Int)) y) (q3 : zfP m2 m3) (o3 : tOk m3 t (yar B)) (d3 : tOd m2 m3) (c3 : tn m3 ≤ tn m2 + 1 ∧ tp m3 ≤ tp m2) (x3 : tE m3 (yar B) x [300 + m.1 52 ((13 : Nat) : Int)]) (q4 : zl0 m3 m4) (e4 : m4 = zu m3 52 ((13 : Nat) : Int) (m.1 52 ((13 : Nat) : Int) + 1)) (q5 : zl0 m4 m5) (e5 : m5 = zu m4 58 (fr + i) x) : aC1 μ m5 t B s c fr as (i + 1) := by
  obtain ⟨h1, h2, h3, h4, h5, h6, h7, h8⟩ := h
  obtain ⟨o1, d1, n1⟩ := tOk_g h2 (m' := m1) (fun j hj => by rw [e1, zu_ne (by omega)])
  obtain ⟨o2, d2, n2⟩ := tOk_g o1 (m' := m2) (fun j hj => by rw [e2, zu_ne (by omega)])
  obtain ⟨o4, d4, n4⟩ := tOk_g o3 (m' := m4) (fun j hj => by rw [e4, zu_ne (by omega)])
  obtain ⟨o5, d5, n5⟩ := tOk_g o4 (m' := m5) (fun j hj => by rw [e5, zu_ne (by omega)])
  have D : tOd m m5 := tOd_t (tOd_t (tOd_t (tOd_t d1 d2) d3) d4) d5
  have w := h2.2.2.2.2
  have K : zfK m m5 := zfK_t (zfK_t (zfK_t (zfK_t (zfK_u q1 e1 (by omega)) (zfK_u q2 e2 (by omega))) (zfK_P q3)) (zfK_u q4 e4 (by omega))) (zfK_u q5 e5 (by omega))
  have e52 : ∀ k : Int, k ≠ ((13 : Nat) : Int) → m5.1 52 k = m.1 52 k := fun k hk => by rw [e5, zu_ne (by decide), e4, zu_nk hk, q3.2.1 52 (by omega), e2, zu_ne (by decide), e1, zu_ne (by decide)]
  have e53 : ∀ k : Int, m5.1 53 k = if k = m.1 52 ((13 : Nat) : Int) then 0 else m.1 53 k := fun k => by rw [e5, zu_ne (by decide), e4, zu_ne (by decide), q3.2.1 53 (by omega), e2, zu_ne (by decide), e1, zu_if]
  have e58 : ∀ k : Int, m5.1 58 k = if k = fr + i then x else m.1 58 k := fun k => by rw [e5, zu_if, e4, zu_ne (by decide), q3.2.1 58 (by omega), e2, zu_ne (by decide), e1, zu_ne (by decide)]
  have e55 : ∀ k : Int, k ≠ m.1 52 ((13 : Nat) : Int) → m5.1 55 k = m.1 55 k := fun k hk => by rw [e5, zu_ne (by decide), e4, zu_ne (by decide), q3.2.1 55 (by omega), e2, zu_nk hk, e1, zu_ne (by decide)]
  have e552 : m5.1 55 = m2.1 55 := by rw [e5, zu_ne (by decide), e4, zu_ne (by decide), q3.2.1 55 (by omega)]
  have e54 : m5.1 54 = m.1 54 := by rw [e5, zu_ne (by decide), e4, zu_ne (by decide), q3.2.1 54 (by omega), e2, zu_ne (by decide), e1, zu_ne (by decide)]
  have ys := ycn_s (c := μ.1 52 ((13 : Nat) : Int)) hi
  rw [if_pos hw] at ys
  have yb := ycn_b (μ.1 52 ((13 : Nat) : Int)) as i
  refine ⟨zfK_t h1 K, o5, tOd_t h3 D, ?_, by rw [e52 _ (by decide)]; exact h5, ⟨by omega, by omega⟩, fun j hj => ?_, fun k hk => by rw [e58, if_neg (by omega)]; exact h8.1 k hk, fun v hv => by rw [e53, if_neg (by omega), e55 v (by omega)]; exact h8.2.1 v hv, fun k hk => by rw [e54]; exact h8.2.2 k hk⟩
  · rw [e5, zu_ne (by decide), e4, zu_at, h4, ycn_s hi, if_pos hw]
  · by_cases z : j = i
    · subst z
      refine ⟨?_, fun _ => ⟨by rw [e53, h4, if_pos rfl], by rw [← h4]; exact aNf_o hy o2.2.2.2.2 (tOd_t (tOd_t d3 d4) d5) (by rw [e552])⟩⟩
      rw [ycap_g hi, if_pos hw, e58, if_pos rfl, ← h4]
      exact tE_old (tOd_t d4 d5) o3.2.2.2.2 x3
    · have u := h7 j (by omega)
      refine ⟨?_, fun v => ?_⟩
      · rw [e58, if_neg (by omega)]
        exact tE_old D w u.1
      · have lt : ycn (μ.1 52 ((13 : Nat) : Int)) as j ≠ m.1 52 ((13 : Nat) : Int) := ?_
        · exact ⟨by rw [e53, if_neg lt]; exact (u.2 v).1, aNf_o (u.2 v).2 w D (e55 _ lt)⟩
        rw [h4]
        have a := ycn_m (c := μ.1 52 ((13 : Nat) : Int)) (as := as) (i := j + 1) (j := i) (by omega) (by omega)
        rw [ycn_s (by omega), if_pos v] at a
        omega
/-- i of them are bound -/
def aC2 (μ m : zM) (t : Nat) (B : yB) (c fr : Int) (as : List (List Int)) (i : Nat) : Prop := zfK μ m ∧ tOk m t (yar B) ∧ tOd μ m ∧ m.1 52 ((13 : Nat) : Int) = ycn (μ.1 52 ((13 : Nat) : Int)) as as.length ∧ aCn m ∧ (∀ j : Nat, j < as.length → tE m (yar B) (m.1 58 (fr + j)) ((ycap (μ.1 52 ((13 : Nat) : Int)) as).getD j [])) ∧ aCf μ m fr ∧ (∀ j : Nat, i ≤ j → j < as.length → ywl (as.getD j []) = true → m.1 53 (ycn (μ.1 52 ((13 : Nat) : Int)) as j) = 0 ∧ aNf m B (ycn (μ.1 52 ((13 : Nat) : Int)) as j) (qDn (as.getD j []))) ∧ ∃ N : List (List qR × qR), (μ.1 52 ((13 : Nat) : Int)) + N.length = ycn (μ.1 52 ((13 : Nat) : Int)) as i ∧ aNx m B (μ.1 52 ((13 : Nat) : Int)) N ∧ qCk B c (ycap (μ.1 52 ((13 : Nat) : Int)) as) as (μ.1 52 ((14 : Nat) : Int)) (m.1 52 ((14 : Nat) : Int)) i N
theorem aC2_0 {μ m : zM} {t : Nat} {B : yB} {s c fr : Int} {as : List (List Int)} (h : aC1 μ m t B s c fr as as.length) (hc : aCn μ) (l : ycn (μ.1 52 ((13 : Nat) : Int)) as as.length ≤ 300) : aC2 μ m t B c fr as 0 := by
  obtain ⟨h1, h2, h3, h4', h5, h6, h7, h8⟩ := h
  obtain ⟨c1, c2, c3, c4⟩ := hc
  have yb := ycn_b (μ.1 52 ((13 : Nat) : Int)) as as.length
  refine ⟨h1, h2, h3, h4', ?_, fun j hj => (h7 j hj).1, h8, fun j _ hj => (h7 j hj).2, [], by rw [ycn_0]; simp, fun k hk => absurd hk (by simp), by rw [h5]; exact qCk_0⟩
  unfold aCn
  rw [h4', h5]
  exact ⟨⟨by omega, by omega⟩, c2, by omega, by omega⟩
theorem aC2_k {μ m : zM} {t : Nat} {B : yB} {c fr : Int} {as : List (List Int)} {i : Nat} (h : aC2 μ m t B c fr as i) (hi : i < as.length) (hw : ¬ ywl (as.getD i []) = true) : aC2 μ m t B c fr as (i + 1) := by
  obtain ⟨h1, h2, h3, h4, h5, h6, h7, h8, N, n1, n2, n3⟩ := h
  exact ⟨h1, h2, h3, h4, h5, h6, h7, fun j hj => h8 j (by omega), N, by rw [ycn_s hi, if_neg hw]; omega, n2, qCk_k n3 hi hw⟩
theorem aC2_w {μ m m' : zM} {t : Nat} {B : yB} {c fr : Int} {as : List (List Int)} {i : Nat} {bs : List qR} (h : aC2 μ m t B c fr as i) (hi : i < as.length) (hw : ywl (as.getD i []) = true) (z : zfB (ycn (μ.1 52 ((13 : Nat) : Int)) as i) m m') (o : tOk m' t (yar B)) (d : tOd m m') (cn : aCn m') (e : qBd (B.1 2 c) (ycap (μ.1 52 ((13 : Nat) : Int)) as) (qPb B (B.1 2 c + (i : Int))) (m.1 52 ((14 : Nat) : Int)) = some (m'.1 52 ((14 : Nat) : Int), bs)) (nv : aNv m' B (ycn (μ.1 52 ((13 : Nat) : Int)) as i) (qNb (as.getD i []) bs)) : aC2 μ m' t B c fr as (i + 1) := by
  obtain ⟨h1, h2, h3, h4, h5, h6, h7, h8, N, n1, n2, n3⟩ := h
  have w := h2.2.2.2.2
  have yb := ycn_b (μ.1 52 ((13 : Nat) : Int)) as i
  have lt : ∀ j : Nat, i + 1 ≤ j → j < as.length → ycn (μ.1 52 ((13 : Nat) : Int)) as i < ycn (μ.1 52 ((13 : Nat) : Int)) as j := fun j j0 j1 => by
    have a := ycn_m (c := (μ.1 52 ((13 : Nat) : Int))) (as := as) (i := i + 1) (j := j) j0 (by omega)
    rw [ycn_s hi, if_pos hw] at a
    omega
  refine ⟨zfK_t h1 z.1, o, tOd_t h3 d, z.2.2.1.trans h4, cn, fun j hj => by rw [z.2.1.1]; exact tE_old d w (h6 j hj), ⟨fun k hk => by rw [z.2.1.1]; exact h7.1 k hk, fun v hv => by rw [z.2.2.2.1 v (by omega), z.2.1.2]; exact h7.2.1 v hv, fun k hk => by rw [z.2.2.2.2 k (by omega)]; exact h7.2.2 k hk⟩, fun j j0 j1 v => ?_, N ++ [(qNb (as.getD i []) bs, qDn (as.getD i []))], ?_, ?_, qCk_w n3 hi hw e⟩
  · have q := lt j j0 j1
    have u := h8 j (by omega) j1 v
    exact ⟨by rw [z.2.2.2.1 _ (by omega)]; exact u.1, aNf_o u.2 w d (by rw [z.2.1.2])⟩
  · rw [ycn_s hi, if_pos hw, List.length_append, ← n1]
    show _ + ((N.length + 1 : Nat) : Int) = _
    omega
  · refine aNx_a (aNx_o n2 w d (fun v a b => ⟨z.2.2.2.1 v (by omega), by rw [z.2.1.2]⟩) (fun k a b => z.2.2.2.2 k (by omega))) (by rw [n1]; exact nv) ?_
    rw [n1]
    exact aNf_o (h8 i (Nat.le_refl _) hi hw).2 w d (by rw [z.2.1.2])
def gk_X0_captureArgs : zC := fun As μ Q => ∃ (a1 : Int) (a2 : Int) (t : Nat) (B : yB) (c : Int) (as : List (List Int)), As = [.inr (.inr (52, 52)), .inl a1, .inl a2] ∧ (0 ≤ a2 ∧ a2 + 4 ≤ 164) ∧ aT μ t B ∧ aB B ∧ aSz μ ∧ tOk μ t (yar B) ∧ μ.1 52 ((7 : Nat) : Int) = t ∧ aNd μ (yar B) a1 c as ∧ (0 ≤ c ∧ c < B.1 0 0) ∧ aCn μ ∧ tE μ (yar B) (μ.1 52 ((9 : Nat) : Int)) [0] ∧ (∀ (μ' : zM) (N : List (List qR × qR)), zfK μ μ' → tOk μ' t (yar B) → tOd μ μ' → aCn μ' → (μ.1 52 ((13 : Nat) : Int) + ((as.countP ywl : Nat) : Int) ≤ 300) → qCb B c (ycap (μ.1 52 ((13 : Nat) : Int)) as) as 0 (μ.1 52 ((14 : Nat) : Int)) = some (μ'.1 52 ((14 : Nat) : Int), N) → μ'.1 52 ((13 : Nat) : Int) = μ.1 52 ((13 : Nat) : Int) + N.length → aNx μ' B (μ.1 52 ((13 : Nat) : Int)) N → aCf μ μ' a2 → (∀ j : Nat, j < as.length → tE μ' (yar B) (μ'.1 58 (a2 + j)) ((ycap (μ.1 52 ((13 : Nat) : Int)) as).getD j [])) → Q (some (.inl 1)) μ') ∧ (∀ (μ' : zM), zfK μ μ' → tOk μ' t (yar B) → tOd μ μ' → (300 < μ.1 52 ((13 : Nat) : Int) + ((as.countP ywl : Nat) : Int) ∨ qCb B c (ycap (μ.1 52 ((13 : Nat) : Int)) as) as 0 (μ.1 52 ((14 : Nat) : Int)) = none) → Q (some (.inl 0)) μ')
set_option maxHeartbeats 4000000 in
theorem gm_X0_captureArgs {g : zΓ} (hg : zg g) (d : Nat) (hd : 5 ≤ d) : zOk g d 9 gk_X0_captureArgs := by
  obtain ⟨d, rfl⟩ : ∃ d', d = d' + 1 := ⟨d - 1, by omega⟩
  refine zOk_loop hg (show mt_tab[9]? = some mt_X0_captureArgs from rfl) ([(12, [0, 1, 2, 3, 4]), (158, [0, 1, 2, 3, 4])], []) 107 rfl fun As μ Q hC => ?_
  obtain ⟨a1, a2, t, B, c, as, rfl, ha2, hT, hB, hS, ok, h52, nd, hc, hcn, hany, hQ, hQ0⟩ := hC
  have hcn' := hcn
  obtain ⟨cn1, cn2, cn3, cn4⟩ := hcn'
  have ye := ycn_e (μ.1 52 ((13 : Nat) : Int)) as
  have W := ok.2.2.2.2
  have nn := W.1
  have pp := W.2.1
  have hB21 := hT.2.1.1.2.2.1
  have nd1 := nd.1
  have la4 : as.length ≤ 4 := by have := nd.2.2.1; have := ok.2.2.2.1 c; omega
  refine ⟨rfl, fun pc vs μ' n => (pc = 12 → ∃ (v4 : Int), vs = [.inr (.inr (52, 52)), .inl a1, .inl a2, .inl (as.length : Int), .inl v4] ∧ (0 ≤ v4 ∧ v4 ≤ as.length) ∧ (aC1 μ μ' t B a1 c a2 as v4.toNat ∧ ycn (μ.1 52 ((13 : Nat) : Int)) as v4.toNat ≤ 300) ∧ n = (Int.toNat (2147483648 - v4 + 8589934592))) ∧ (pc = 158 → ∃ (v4 : Int), vs = [.inr (.inr (52, 52)), .inl a1, .inl a2, .inl (as.length : Int), .inl v4] ∧ (0 ≤ v4 ∧ v4 ≤ as.length) ∧ (aC2 μ μ' t B c a2 as v4.toNat ∧ ycn (μ.1 52 ((13 : Nat) : Int)) as as.length ≤ 300) ∧ n = (Int.toNat (2147483648 - v4))), ?_, ?_, ?_, trivial⟩
  · refine ⟨gk_X6_partsOf, gm_X6_partsOf hg d (by omega), _, _, _, rfl, nd.1, ok, ?_⟩
    intro x1 kx1 lx1 hx1
    have X1 : x1 = (as.length : Int) := by rw [hx1, nd.2.1]; exact nd.2.2.1.symm
    refine Exists.intro (Int.toNat (2147483648 - 0 + 8589934592)) ?_
    exact ⟨(fun _ => ⟨0, by rw [X1], ⟨by omega, by omega⟩, ⟨aC1_0 ok, by show ycn _ as 0 ≤ 300; rw [ycn_0]; omega⟩, rfl⟩), (fun h => absurd h (by decide))⟩
  · intro vs m0 n hI
    replace hI := hI.1 rfl
    obtain ⟨v4, rfl, hv4, ⟨H, hle⟩, rfl⟩ := hI
    obtain ⟨i, ei⟩ : ∃ i : Nat, v4 = (i : Int) := ⟨v4.toNat, by omega⟩
    rw [show v4.toNat = i by omega] at H hle
    have H' := H
    obtain ⟨h1, h2, h3, h4, h5, h6, h7, h8⟩ := H'
    have mono := ycn_m (c := μ.1 52 ((13 : Nat) : Int)) (as := as) (i := i) (j := as.length) (by omega) (Nat.le_refl _)
    have nd0 := aNd_o nd W h3
    have nd01 := nd0.1
    have W0 := h2.2.2.2.2
    have nn0 := W0.1
    have yc := ycn_b (μ.1 52 ((13 : Nat) : Int)) as i
    refine And.intro ⟨⟨by omega, by omega⟩, ⟨by omega, by omega⟩⟩ (And.intro (fun c2 => ?_) (fun c2 => ?_))
    · have e : i = as.length := by omega
      rw [e] at H
      have le300 : ycn (μ.1 52 ((13 : Nat) : Int)) as as.length ≤ 300 := by rw [← e]; exact hle
      refine Exists.intro (Int.toNat (2147483648 - 0)) (And.intro (by omega) ?_)
      exact ⟨(fun h => absurd h (by decide)), (fun _ => ⟨0, rfl, ⟨by omega, by omega⟩, ⟨aC2_0 H hcn le300, le300⟩, rfl⟩)⟩
    · have hi : i < as.length := by omega
      have E := nd0.2.2.2 i hi
      refine ⟨gk_X6_part, gm_X6_part hg d (by omega), a1, v4, yar B, rfl, nd0.1, ⟨by omega, by rw [nd0.2.1, ← nd0.2.2.1]; omega⟩, W0, ?_⟩
      intro x3 kx3 hx3
      rw [← ei, ← hx3] at E
      refine ⟨gk_X6_head, gm_X6_head hg d (by omega), _, rfl, ⟨by omega, by omega, by omega⟩, ?_⟩
      intro x4 kx4 lx4 hx4
      have X4 : x4 = (as.getD i []).headD 0 := by rw [hx4]; exact tE_60 E
      refine ⟨gk_X8_isWild, gm_X8_isWild hg d (by omega), _, rfl, ⟨by omega, by omega⟩, ?_⟩
      intro x5 kx5 lx5 p5
      refine And.intro ⟨by omega, by omega⟩ (And.intro (fun c6 => ?_) (fun c6 => ?_))
      · have hw : ¬ ywl (as.getD i []) = true := by
          rw [ywl_i, ← X4]
          rcases p5 with q | q
          · exfalso; have := q.1; omega
          · exact q.2
        refine ⟨yk_X8_set, ym_X8_set hg d (by omega), _, _, _, _, rfl, ⟨by omega, by omega⟩, ?_⟩
        refine And.intro ⟨by omega, by omega⟩ (And.intro ⟨by omega, by omega⟩ ?_)
        intro m7 qm7 em7
        refine Exists.intro (Int.toNat (2147483648 - (v4 + 1) + 8589934592)) (And.intro (by omega) ?_)
        exact ⟨(fun _ => ⟨_, rfl, ⟨by omega, by omega⟩, by rw [show (v4 + 1).toNat = i + 1 by omega]; exact ⟨aC1_k H hi la4 hw E ⟨qm7, by rw [em7]; rfl⟩ (by rw [← ei]; exact em7), by rw [ycn_s hi, if_neg hw]; omega⟩, rfl⟩), (fun h => absurd h (by decide))⟩
      · have hw : ywl (as.getD i []) = true := by
          rw [ywl_i, ← X4]
          rcases p5 with q | q
          · exact q.2
          · exfalso; have := q.1; omega
        intro x9 hx9 kx9 lx9
        refine And.intro ⟨⟨by omega, by omega⟩, ⟨by omega, by omega⟩⟩ (And.intro (fun c10 => ?_) (fun c10 => ?_))
        · intro x11 hx11 kx11 lx11
          refine ⟨yk_X8_set, ym_X8_set hg d (by omega), _, _, _, _, rfl, ⟨by omega, by omega⟩, ?_⟩
          refine And.intro ⟨by omega, by omega⟩ (And.intro ⟨by omega, by omega⟩ ?_)
          intro m12 qm12 em12
          rw [hx11] at em12
          have l12 : zl0 m0 m12 := ⟨qm12, by rw [em12]; rfl⟩
          obtain ⟨o12, d12, n12⟩ := tOk_g h2 (m' := m12) (fun j hj => by rw [em12, zu_ne (by omega)])
          have E12 := tE_old d12 W0 E
          intro x14 hx14 kx14 lx14
          have X14 : x14 = m0.1 52 ((13 : Nat) : Int) := by rw [hx14, em12, zu_ne (by decide)]
          refine ⟨gk_X6_head, gm_X6_head hg d (by omega), _, rfl, ⟨by omega, by omega, by omega⟩, ?_⟩
          intro x15 kx15 lx15 hx15
          have fin : ∀ (m17 : zM) (y : Int), zle m12 m17 → m17 = zu m12 55 x14 y → tOk m17 t (yar B) ∧ (tn m17 = tn m12 ∧ tp m17 = tp m12) ∧ m17.1 52 ((13 : Nat) : Int) = m0.1 52 ((13 : Nat) : Int) := fun m17 y _ e => by
            obtain ⟨o17, d17, n17⟩ := tOk_g o12 (m' := m17) (fun j hj => by rw [e, zu_ne (by omega)])
            exact ⟨o17, n17, by rw [e, zu_ne (by decide), em12, zu_ne (by decide)]⟩
          refine And.intro ⟨⟨by omega, by omega⟩, ⟨by omega, by omega⟩⟩ (And.intro (fun c16 => ?_) (fun c16 => ?_))
          · refine ⟨yk_X8_set, ym_X8_set hg d (by omega), _, _, _, _, rfl, ⟨by omega, by omega⟩, ?_⟩
            refine And.intro ⟨by omega, by omega⟩ (And.intro ⟨by omega, by omega⟩ ?_)
            intro m17 qm17 em17
            obtain ⟨o17, n17, f17⟩ := fin m17 _ qm17 em17
            rw [X14] at em17
            intro x19 hx19 kx19 lx19
            have X19 : x19 = m0.1 52 ((13 : Nat) : Int) := hx19.trans f17
            refine ⟨gk_X6_leaf, gm_X6_leaf hg d (by omega), 300 + x19, t, yar B, rfl, ⟨by omega, by omega⟩, yar_n hB21.2 (by omega) (by omega) (by omega), o17, (by omega), ?_⟩
            intro x20 m21 q21 o21 d21 c21 e21
            have n21 := e21.1
            have k21 := o21.2.2.2.2.1
            intro x24 hx24 kx24 lx24
            have X24 : x24 = m0.1 52 ((13 : Nat) : Int) := by rw [hx24, q21.2.1 52 (by omega)]; exact f17
            refine And.intro ⟨by omega, by omega⟩ ?_
            intro m25 em25
            refine ⟨yk_X8_set, ym_X8_set hg d (by omega), _, _, _, _, rfl, ⟨by omega, by omega⟩, ?_⟩
            refine And.intro ⟨by omega, by omega⟩ (And.intro ⟨by omega, by omega⟩ ?_)
            intro m27 qm27 em27
            rw [X24] at em25
            rw [X19] at e21
            refine Exists.intro (Int.toNat (2147483648 - (v4 + 1) + 8589934592)) (And.intro (by omega) ?_)
            exact ⟨(fun _ => ⟨_, rfl, ⟨by omega, by omega⟩, by rw [show (v4 + 1).toNat = i + 1 by omega]; exact ⟨aC1_w H hi hw la4 (Or.inl ⟨by unfold qDn; rw [if_neg (by rw [← tE_60 E12, ← hx15]; omega)], by rw [em17, zu_at]⟩) l12 em12 ⟨qm17, by rw [em17]; rfl⟩ em17 q21 o21 d21 c21 e21 (zl0_u em25 (Or.inl (by decide)) (Or.inl ⟨by decide, by decide⟩)) em25 ⟨qm27, by rw [em27]; rfl⟩ (by rw [← ei]; exact em27), by rw [ycn_s hi, if_pos hw]; omega⟩, rfl⟩), (fun h => absurd h (by decide))⟩
          · have e15 : x15 = 202 := by omega
            refine ⟨gk_X6_part, gm_X6_part hg d (by omega), x3, 0, yar B, rfl, E12.1, ⟨by omega, by rw [← hx15, e15]; unfold yar; rw [if_neg (by omega), if_pos (by omega)]; omega⟩, o12.2.2.2.2, ?_⟩
            intro x29 kx29 hx29
            have h202 : (as.getD i []).headD 0 = 202 := by rw [← tE_60 E12, ← hx15]; exact e15
            have E29 : tE m12 (yar B) x29 (as.getD i []).tail := by rw [hx29]; exact tE_tl o12.2.2.2.2 E12 h202 (by unfold yar; rw [if_neg (by omega), if_pos (by omega)])
            have D202 : qDn (as.getD i []) = (as.getD i []).tail := by unfold qDn; rw [if_pos h202]
            refine ⟨yk_X8_set, ym_X8_set hg d (by omega), _, _, _, _, rfl, ⟨by omega, by omega⟩, ?_⟩
            refine And.intro ⟨by omega, by omega⟩ (And.intro ⟨by omega, by omega⟩ ?_)
            intro m30 qm30 em30
            obtain ⟨o30, n30, f30⟩ := fin m30 _ qm30 em30
            obtain ⟨-, d30, -⟩ := tOk_g o12 (m' := m30) (fun j hj => by rw [em30, zu_ne (by omega)])
            rw [X14] at em30
            intro x32 hx32 kx32 lx32
            have X32 : x32 = m0.1 52 ((13 : Nat) : Int) := hx32.trans f30
            refine ⟨gk_X6_leaf, gm_X6_leaf hg d (by omega), 300 + x32, t, yar B, rfl, ⟨by omega, by omega⟩, yar_n hB21.2 (by omega) (by omega) (by omega), o30, (by omega), ?_⟩
            intro x33 m34 q34 o34 d34 c34 e34
            have n34 := e34.1
            have k34 := o34.2.2.2.2.1
            intro x37 hx37 kx37 lx37
            have X37 : x37 = m0.1 52 ((13 : Nat) : Int) := by rw [hx37, q34.2.1 52 (by omega)]; exact f30
            refine And.intro ⟨by omega, by omega⟩ ?_
            intro m38 em38
            refine ⟨yk_X8_set, ym_X8_set hg d (by omega), _, _, _, _, rfl, ⟨by omega, by omega⟩, ?_⟩
            refine And.intro ⟨by omega, by omega⟩ (And.intro ⟨by omega, by omega⟩ ?_)
            intro m40 qm40 em40
            rw [X37] at em38
            rw [X32] at e34
            refine Exists.intro (Int.toNat (2147483648 - (v4 + 1) + 8589934592)) (And.intro (by omega) ?_)
            exact ⟨(fun _ => ⟨_, rfl, ⟨by omega, by omega⟩, by rw [show (v4 + 1).toNat = i + 1 by omega]; exact ⟨aC1_w H hi hw la4 (Or.inr ⟨by rw [D202]; exact tE_ne E29, by rw [em30, zu_at, ← em30, D202]; exact tE_old d30 o12.2.2.2.2 E29⟩) l12 em12 ⟨qm30, by rw [em30]; rfl⟩ em30 q34 o34 d34 c34 e34 (zl0_u em38 (Or.inl (by decide)) (Or.inl ⟨by decide, by decide⟩)) em38 ⟨qm40, by rw [em40]; rfl⟩ (by rw [← ei]; exact em40), by rw [ycn_s hi, if_pos hw]; omega⟩, rfl⟩), (fun h => absurd h (by decide))⟩
        · have m2 := ycn_m (c := μ.1 52 ((13 : Nat) : Int)) (as := as) (i := i + 1) (j := as.length) (by omega) (Nat.le_refl _)
          rw [ycn_s hi, if_pos hw] at m2
          exact And.intro (zrtb (by omega)) (And.intro ⟨by omega, by omega⟩ (hQ0 _ h1 h2 h3 (Or.inl (by omega))))
  · intro vs m0 n hI
    replace hI := hI.2 rfl
    obtain ⟨v4, rfl, hv4, ⟨H, le300⟩, rfl⟩ := hI
    obtain ⟨i, ei⟩ : ∃ i : Nat, v4 = (i : Int) := ⟨v4.toNat, by omega⟩
    rw [show v4.toNat = i by omega] at H
    have H' := H
    obtain ⟨h1, h2, h3, h4, h5, h6, h7, h8, N, n1, n2, n3⟩ := H'
    have mono := ycn_m (c := μ.1 52 ((13 : Nat) : Int)) (as := as) (i := i) (j := as.length) (by omega) (Nat.le_refl _)
    have nd0 := aNd_o nd W h3
    have nd01 := nd0.1
    have W0 := h2.2.2.2.2
    have nn0 := W0.1
    have yc := ycn_b (μ.1 52 ((13 : Nat) : Int)) as i
    refine And.intro ⟨⟨by omega, by omega⟩, ⟨by omega, by omega⟩⟩ (And.intro (fun c42 => ?_) (fun c42 => ?_))
    · exact And.intro (zrtb (by omega)) (And.intro ⟨by omega, by omega⟩ (hQ _ N h1 h2 h3 h5 (by omega) (qCk_e n3 (by omega)) (by rw [h4, n1, show i = as.length by omega]) n2 h7 h6))
    · have hi : i < as.length := by omega
      have E := nd0.2.2.2 i hi
      refine ⟨gk_X6_part, gm_X6_part hg d (by omega), a1, v4, yar B, rfl, nd0.1, ⟨by omega, by rw [nd0.2.1, ← nd0.2.2.1]; omega⟩, W0, ?_⟩
      intro x43 kx43 hx43
      rw [← ei, ← hx43] at E
      refine ⟨gk_X6_head, gm_X6_head hg d (by omega), _, rfl, ⟨by omega, by omega, by omega⟩, ?_⟩
      intro x44 kx44 lx44 hx44
      have X44 : x44 = (as.getD i []).headD 0 := by rw [hx44]; exact tE_60 E
      refine ⟨gk_X8_isWild, gm_X8_isWild hg d (by omega), _, rfl, ⟨by omega, by omega⟩, ?_⟩
      intro x45 kx45 lx45 p45
      refine And.intro ⟨by omega, by omega⟩ (And.intro (fun c46 => ?_) (fun c46 => ?_))
      · refine Exists.intro (Int.toNat (2147483648 - (v4 + 1))) (And.intro (by omega) ?_)
        exact ⟨(fun h => absurd h (by decide)), (fun _ => ⟨_, rfl, ⟨by omega, by omega⟩, by rw [show (v4 + 1).toNat = i + 1 by omega]; exact ⟨aC2_k H hi (by
          rw [ywl_i, ← X44]
          rcases p45 with q | q
          · exfalso; have := q.1; omega
          · exact q.2), le300⟩, rfl⟩)⟩
      · have hw : ywl (as.getD i []) = true := by
          rw [ywl_i, ← X44]
          rcases p45 with q | q
          · exact q.2
          · exfalso; have := q.1; omega
        have m2 := ycn_m (c := μ.1 52 ((13 : Nat) : Int)) (as := as) (i := i + 1) (j := as.length) (by omega) (Nat.le_refl _)
        rw [ycn_s hi, if_pos hw] at m2
        refine ⟨gk_X0_bind, gm_X0_bind hg d (by omega), a1, v4, a2, t, B, c, ycn (μ.1 52 ((13 : Nat) : Int)) as i, as, ycap (μ.1 52 ((13 : Nat) : Int)) as, rfl, ⟨by omega, by omega⟩, ha2, aT_f hT (fun j hj => h1.2.1 j (by omega)) h1.1.2, hB, aSz_f hS h1.1.2, h2, (h1.2.2.1 _ (by decide)).trans h52, nd0, hc, ⟨ycap_l _ _, fun j hj => h6 j (by rw [ycap_l] at hj; exact hj)⟩, by rw [show v4.toNat = i by omega, ycap_g hi, if_pos hw], ⟨by omega, by omega⟩, (h8 i (Nat.le_refl _) hi hw).1, by rw [h1.2.2.1 _ (by decide)]; exact tE_old h3 W hany, h5, ?_, ?_⟩
        rotate_left
        · intro m48 z48 o48 d48 e48
          refine And.intro ⟨by omega, by omega⟩ (And.intro (fun c50 => by exfalso; omega) (fun c50 => ?_))
          exact And.intro (zrtb (by omega)) (And.intro ⟨by omega, by omega⟩ (hQ0 _ (zfK_t h1 z48.1) o48 (tOd_t h3 d48) (Or.inr (qCk_n n3 hi hw (by rw [← ei]; exact e48)))))
        intro m48 bs z48 o48 d48 c48 e48 v48
        rw [show v4.toNat = i by omega] at v48
        rw [ei] at e48
        refine And.intro ⟨by omega, by omega⟩ (And.intro (fun c50 => ?_) (fun c50 => ?_))
        · refine Exists.intro (Int.toNat (2147483648 - (v4 + 1))) (And.intro (by omega) ?_)
          exact ⟨(fun h => absurd h (by decide)), (fun _ => ⟨_, rfl, ⟨by omega, by omega⟩, by rw [show (v4 + 1).toNat = i + 1 by omega]; exact ⟨aC2_w H hi hw z48 o48 d48 c48 e48 v48, le300⟩, rfl⟩)⟩
        · exfalso; omega
