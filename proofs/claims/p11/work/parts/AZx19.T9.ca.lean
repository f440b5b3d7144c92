/-! ### the class captures -/
def gk_X8_isWild : zC := fun As μ Q => ∃ (a1 : Int), As = [.inl a1] ∧ ((-2147483648) ≤ a1 ∧ a1 ≤ 2147483647) ∧ (∀ (v : Int), 0 ≤ v → v ≤ 1 → ((v = 1 ∧ (200 ≤ a1 ∧ a1 ≤ 202)) ∨ (v = 0 ∧ ¬ (200 ≤ a1 ∧ a1 ≤ 202))) → Q (some (.inl v)) μ)
set_option maxHeartbeats 4000000 in
theorem gm_X8_isWild {g : zΓ} (hg : zg g) (d : Nat) (hd : 1 ≤ d) : zOk g d 116 gk_X8_isWild := by
  obtain ⟨d, rfl⟩ : ∃ d', d = d' + 1 := ⟨d - 1, by omega⟩
  refine zOk_straight hg (show mt_tab[116]? = some mt_X8_isWild from rfl) [] 15 rfl fun As μ Q hC => ?_
  obtain ⟨a1, rfl, ha1, hQ⟩ := hC
  refine ⟨rfl, ?_⟩
  refine And.intro ⟨⟨by omega, by omega⟩, ⟨by omega, by omega⟩⟩ (And.intro (fun c1 => ?_) (fun c1 => ?_))
  · exact And.intro (zrtb (by omega)) (And.intro ⟨by omega, by omega⟩ (hQ _ (by omega) (by omega) (Or.inr ⟨rfl, by omega⟩)))
  · refine And.intro ⟨⟨by omega, by omega⟩, ⟨by omega, by omega⟩⟩ (And.intro (fun c2 => ?_) (fun c2 => ?_))
    · exact And.intro (zrtb (by omega)) (And.intro ⟨by omega, by omega⟩ (hQ _ (by omega) (by omega) (Or.inr ⟨rfl, by omega⟩)))
    · exact And.intro (zrtb (by omega)) (And.intro ⟨by omega, by omega⟩ (hQ _ (by omega) (by omega) (Or.inl ⟨rfl, by omega⟩)))
def gk_X8_isClass : zC := fun As μ Q => ∃ (a1 : Int), As = [.inl a1] ∧ ((-2147483648) ≤ a1 ∧ a1 ≤ 2147483647) ∧ (∀ (v : Int), 0 ≤ v → v ≤ 1 → ((v = 1 ∧ (0 ≤ a1 ∧ a1 < 21)) ∨ (v = 0 ∧ ¬ (0 ≤ a1 ∧ a1 < 21))) → Q (some (.inl v)) μ)
set_option maxHeartbeats 4000000 in
theorem gm_X8_isClass {g : zΓ} (hg : zg g) (d : Nat) (hd : 1 ≤ d) : zOk g d 114 gk_X8_isClass := by
  obtain ⟨d, rfl⟩ : ∃ d', d = d' + 1 := ⟨d - 1, by omega⟩
  refine zOk_straight hg (show mt_tab[114]? = some mt_X8_isClass from rfl) [] 14 rfl fun As μ Q hC => ?_
  obtain ⟨a1, rfl, ha1, hQ⟩ := hC
  refine ⟨rfl, ?_⟩
  refine And.intro ⟨by omega, by omega⟩ (And.intro (fun c1 => ?_) (fun c1 => ?_))
  · exact And.intro (zrtb (by omega)) (And.intro ⟨by omega, by omega⟩ (hQ _ (by omega) (by omega) (Or.inr ⟨rfl, by omega⟩)))
  · refine And.intro ⟨⟨by omega, by omega⟩, ⟨by omega, by omega⟩⟩ (And.intro (fun c2 => ?_) (fun c2 => ?_))
    · exact And.intro (zrtb (by omega)) (And.intro ⟨by omega, by omega⟩ (hQ _ (by omega) (by omega) (Or.inr ⟨rfl, by omega⟩)))
    · exact And.intro (zrtb (by omega)) (And.intro ⟨by omega, by omega⟩ (hQ _ (by omega) (by omega) (Or.inl ⟨rfl, by omega⟩)))
/-- ARGS with NEW variables in the place of unknown ones, numbered from c on -/
def ywl (a : List Int) : Bool := decide (200 ≤ a.headD 0) && decide (a.headD 0 ≤ 202)
def ycn (c : Int) (as : List (List Int)) (i : Nat) : Int := c + (((as.take i).countP ywl : Nat) : Int)
def ycap (c : Int) (as : List (List Int)) : List (List Int) := (List.range as.length).map (fun i => if ywl (as.getD i []) = true then [300 + ycn c as i] else as.getD i [])
theorem ywl_i {a : List Int} : ywl a = true ↔ 200 ≤ a.headD 0 ∧ a.headD 0 ≤ 202 := by unfold ywl; simp
theorem ycap_l (c : Int) (as : List (List Int)) : (ycap c as).length = as.length := by unfold ycap; simp
theorem ycap_g {c : Int} {as : List (List Int)} {i : Nat} (h : i < as.length) : (ycap c as).getD i [] = if ywl (as.getD i []) = true then [300 + ycn c as i] else as.getD i [] := by
  unfold ycap
  rw [List.getD_eq_getElem?_getD, List.getElem?_map, List.getElem?_range h]
  rfl
theorem ycn_0 (c : Int) (as : List (List Int)) : ycn c as 0 = c := by unfold ycn; simp
theorem ycn_s {c : Int} {as : List (List Int)} {i : Nat} (h : i < as.length) : ycn c as (i + 1) = ycn c as i + (if ywl (as.getD i []) = true then 1 else 0) := by
  unfold ycn
  have e : as.take (i + 1) = as.take i ++ [as.getD i []] := by
    rw [List.take_add_one, List.getD_eq_getElem?_getD, List.getElem?_eq_getElem h]
    rfl
  rw [e, List.countP_append]
  by_cases q : ywl (as.getD i []) = true
  · rw [if_pos q, List.countP_cons_of_pos q]; simp; omega
  · rw [if_neg q, List.countP_cons_of_neg q]; simp
theorem ycn_b (c : Int) (as : List (List Int)) (i : Nat) : c ≤ ycn c as i ∧ ycn c as i ≤ c + i := by
  unfold ycn
  have : (as.take i).countP ywl ≤ (as.take i).length := List.countP_le_length
  rw [List.length_take] at this
  omega
theorem ycn_m {c : Int} {as : List (List Int)} {i j : Nat} (h : i ≤ j) (hj : j ≤ as.length) : ycn c as i ≤ ycn c as j := by
  induction j with
  | zero => have : i = 0 := by omega
            subst this; exact Int.le_refl _
  | succ j ih =>
    by_cases q : i = j + 1
    · rw [q]; exact Int.le_refl _
    · have a := ih (by omega) (by omega)
      rw [ycn_s (by omega)]
      split <;> omega
/-- i ARGS are captured -/
def aC1 (μ m : zM) (t : Nat) (B : yB) (s c fr : Int) (as : List (List Int)) (i : Nat) : Prop := zfK μ m ∧ tOk m t (yar B) ∧ tOd μ m ∧ m.1 52 ((13 : Nat) : Int) = ycn (μ.1 52 ((13 : Nat) : Int)) as i ∧ m.1 52 ((14 : Nat) : Int) = μ.1 52 ((14 : Nat) : Int) ∧ (tn m ≤ tn μ + i ∧ tp m ≤ tp μ) ∧ ∀ j : Nat, j < i → tE m (yar B) (m.1 58 (fr + j)) ((ycap (μ.1 52 ((13 : Nat) : Int)) as).getD j []) ∧ (ywl (as.getD j []) = true → m.1 53 (ycn (μ.1 52 ((13 : Nat) : Int)) as j) = 0)
theorem aC1_0 {μ : zM} {t : Nat} {B : yB} {s c fr : Int} {as : List (List Int)} (ok : tOk μ t (yar B)) : aC1 μ μ t B s c fr as 0 := ⟨zfK_r μ, ok, tOd_r μ, (ycn_0 _ _).symm, rfl, ⟨by omega, by omega⟩, fun j hj => by omega⟩
/-- an ARG that is known -/
theorem aC1_k {μ m m' : zM} {t : Nat} {B : yB} {s c fr x : Int} {as : List (List Int)} {i : Nat} (h : aC1 μ m t B s c fr as i) (hi : i < as.length) (hw : ¬ ywl (as.getD i []) = true) (hx : tE m (yar B) x (as.getD i [])) (q : zl0 m m') (e : m' = zu m 58 (fr + i) x) : aC1 μ m' t B s c fr as (i + 1) := by
  obtain ⟨h1, h2, h3, h4, h5, h6, h7⟩ := h
  obtain ⟨o, d, n⟩ := tOk_g h2 (m' := m') (fun j hj => by rw [e, zu_ne (by omega)])
  have e52 : m'.1 52 = m.1 52 := by rw [e, zu_ne (by decide)]
  have e53 : m'.1 53 = m.1 53 := by rw [e, zu_ne (by decide)]
  have w := h2.2.2.2.2
  refine ⟨zfK_t h1 (zfK_u q e (by omega)), o, tOd_t h3 d, by rw [e52, h4, ycn_s hi, if_neg hw]; omega, by rw [e52]; exact h5, ⟨by omega, by omega⟩, fun j hj => ?_⟩
  by_cases z : j = i
  · subst z
    refine ⟨?_, fun y => absurd y hw⟩
    rw [ycap_g hi, if_neg hw, e, zu_at, ← e]
    exact tE_old d w hx
  · have u := h7 j (by omega)
    refine ⟨?_, by rw [e53]; exact u.2⟩
    rw [e, zu_nk (by omega), ← e]
    exact tE_old d w u.1
/-- an ARG that is unknown -/
theorem aC1_w {μ m m1 m2 m3 m4 m5 : zM} {t : Nat} {B : yB} {s c fr x y : Int} {as : List (List Int)} {i : Nat} (h : aC1 μ m t B s c fr as i) (hi : i < as.length) (hw : ywl (as.getD i []) = true) (q1 : zl0 m m1) (e1 : m1 = zu m 53 (m.1 52 ((13 : Nat) : Int)) 0) (q2 : zl0 m1 m2) (e2 : m2 = zu m1 55 (m.1 52 ((13 : Nat) : Int)) y) (q3 : zfP m2 m3) (o3 : tOk m3 t (yar B)) (d3 : tOd m2 m3) (c3 : tn m3 ≤ tn m2 + 1 ∧ tp m3 ≤ tp m2) (x3 : tE m3 (yar B) x [300 + m.1 52 ((13 : Nat) : Int)]) (q4 : zl0 m3 m4) (e4 : m4 = zu m3 52 ((13 : Nat) : Int) (m.1 52 ((13 : Nat) : Int) + 1)) (q5 : zl0 m4 m5) (e5 : m5 = zu m4 58 (fr + i) x) : aC1 μ m5 t B s c fr as (i + 1) := by
  obtain ⟨h1, h2, h3, h4, h5, h6, h7⟩ := h
  obtain ⟨o1, d1, n1⟩ := tOk_g h2 (m' := m1) (fun j hj => by rw [e1, zu_ne (by omega)])
  obtain ⟨o2, d2, n2⟩ := tOk_g o1 (m' := m2) (fun j hj => by rw [e2, zu_ne (by omega)])
  obtain ⟨o4, d4, n4⟩ := tOk_g o3 (m' := m4) (fun j hj => by rw [e4, zu_ne (by omega)])
  obtain ⟨o5, d5, n5⟩ := tOk_g o4 (m' := m5) (fun j hj => by rw [e5, zu_ne (by omega)])
  have D : tOd m m5 := tOd_t (tOd_t (tOd_t (tOd_t d1 d2) d3) d4) d5
  have w := h2.2.2.2.2
  have K : zfK m m5 := zfK_t (zfK_t (zfK_t (zfK_t (zfK_u q1 e1 (by omega)) (zfK_u q2 e2 (by omega))) (zfK_P q3)) (zfK_u q4 e4 (by omega))) (zfK_u q5 e5 (by omega))
  have e52 : ∀ k : Int, k ≠ ((13 : Nat) : Int) → m5.1 52 k = m.1 52 k := fun k hk => by rw [e5, zu_ne (by decide), e4, zu_nk hk, q3.2.1 52 (by omega), e2, zu_ne (by decide), e1, zu_ne (by decide)]
  have e53 : ∀ k : Int, m5.1 53 k = if k = m.1 52 ((13 : Nat) : Int) then 0 else m.1 53 k := fun k => by rw [e5, zu_ne (by decide), e4, zu_ne (by decide), q3.2.1 53 (by omega), e2, zu_ne (by decide), e1, zu_if]
  have e58 : ∀ k : Int, m5.1 58 k = if k = fr + i then x else m.1 58 k := fun k => by rw [e5, zu_if, e4, zu_ne (by decide), q3.2.1 58 (by omega), e2, zu_ne (by decide), e1, zu_ne (by decide)]
  refine ⟨zfK_t h1 K, o5, tOd_t h3 D, ?_, by rw [e52 _ (by decide)]; exact h5, ⟨by omega, by omega⟩, fun j hj => ?_⟩
  · rw [e5, zu_ne (by decide), e4, zu_at, h4, ycn_s hi, if_pos hw]
  · by_cases z : j = i
    · subst z
      refine ⟨?_, fun _ => by rw [e53, h4, if_pos rfl]⟩
      rw [ycap_g hi, if_pos hw, e58, if_pos rfl, ← h4]
      exact tE_old (tOd_t d4 d5) o3.2.2.2.2 x3
    · have u := h7 j (by omega)
      refine ⟨?_, fun v => ?_⟩
      · rw [e58, if_neg (by omega)]
        exact tE_old D w u.1
      · rw [e53, if_neg, u.2 v]
        rw [h4]
        have a := ycn_m (c := μ.1 52 ((13 : Nat) : Int)) (as := as) (i := j + 1) (j := i) (by omega) (by omega)
        rw [ycn_s (by omega), if_pos v] at a
        omega
/-- i of them are bound -/
def aC2 (μ m : zM) (t : Nat) (B : yB) (fr : Int) (as : List (List Int)) (i : Nat) : Prop := zfK μ m ∧ tOk m t (yar B) ∧ tOd μ m ∧ (μ.1 52 ((14 : Nat) : Int) ≤ m.1 52 ((14 : Nat) : Int) ∧ m.1 52 ((14 : Nat) : Int) ≤ μ.1 52 ((14 : Nat) : Int) + 600 * i) ∧ (tn m ≤ tn μ + 4 + 600 * i ∧ tp m ≤ tp μ + 600 * i) ∧ (∀ j : Nat, j < as.length → tE m (yar B) (m.1 58 (fr + j)) ((ycap (μ.1 52 ((13 : Nat) : Int)) as).getD j [])) ∧ ∀ j : Nat, i ≤ j → j < as.length → ywl (as.getD j []) = true → m.1 53 (ycn (μ.1 52 ((13 : Nat) : Int)) as j) = 0
theorem aC2_0 {μ m : zM} {t : Nat} {B : yB} {s c fr : Int} {as : List (List Int)} (h : aC1 μ m t B s c fr as as.length) (h4 : as.length ≤ 4) : aC2 μ m t B fr as 0 := by
  obtain ⟨h1, h2, h3, h4', h5, h6, h7⟩ := h
  exact ⟨h1, h2, h3, ⟨by omega, by omega⟩, ⟨by omega, by omega⟩, fun j hj => (h7 j hj).1, fun j _ hj => (h7 j hj).2⟩
theorem aC2_k {μ m : zM} {t : Nat} {B : yB} {fr : Int} {as : List (List Int)} {i : Nat} (h : aC2 μ m t B fr as i) : aC2 μ m t B fr as (i + 1) := by
  obtain ⟨h1, h2, h3, h4, h5, h6, h7⟩ := h
  exact ⟨h1, h2, h3, ⟨by omega, by omega⟩, ⟨by omega, by omega⟩, h6, fun j hj => h7 j (by omega)⟩
theorem aC2_w {μ m m' : zM} {t : Nat} {B : yB} {fr : Int} {as : List (List Int)} {i : Nat} (h : aC2 μ m t B fr as i) (hi : i < as.length) (hw : ywl (as.getD i []) = true) (z : zfB (ycn (μ.1 52 ((13 : Nat) : Int)) as i) m m') (o : tOk m' t (yar B)) (d : tOd m m') (c : tn m' ≤ tn m + 600 ∧ tp m' ≤ tp m + 600) (c2 : m.1 52 ((14 : Nat) : Int) ≤ m'.1 52 ((14 : Nat) : Int) ∧ m'.1 52 ((14 : Nat) : Int) ≤ m.1 52 ((14 : Nat) : Int) + 600) : aC2 μ m' t B fr as (i + 1) := by
  obtain ⟨h1, h2, h3, h4, h5, h6, h7⟩ := h
  refine ⟨zfK_t h1 z.1, o, tOd_t h3 d, ⟨by omega, by omega⟩, ⟨by omega, by omega⟩, fun j hj => by rw [z.2.1.1]; exact tE_old d h2.2.2.2.2 (h6 j hj), fun j j0 j1 v => ?_⟩
  rw [z.2.2.2 _ ?_]
  · exact h7 j (by omega) j1 v
  · have a := ycn_m (c := μ.1 52 ((13 : Nat) : Int)) (as := as) (i := i + 1) (j := j) j0 (by omega)
    rw [ycn_s hi, if_pos hw] at a
    omega
def gk_X0_captureArgs : zC := fun As μ Q => ∃ (a1 : Int) (a2 : Int) (t : Nat) (B : yB) (c : Int) (as : List (List Int)), As = [.inr (.inr (52, 52)), .inl a1, .inl a2] ∧ (0 ≤ a2 ∧ a2 + 4 ≤ 164) ∧ aT μ t B ∧ aB B ∧ aSz μ ∧ tOk μ t (yar B) ∧ μ.1 52 ((7 : Nat) : Int) = t ∧ aNd μ (yar B) a1 c as ∧ (0 ≤ c ∧ c < B.1 0 0) ∧ (0 ≤ μ.1 52 ((13 : Nat) : Int) ∧ μ.1 52 ((13 : Nat) : Int) + 4 ≤ 300) ∧ (0 ≤ μ.1 52 ((14 : Nat) : Int) ∧ μ.1 52 ((14 : Nat) : Int) + 2400 ≤ 6000) ∧ (tn μ + 2404 ≤ 7000 ∧ tp μ + 2400 ≤ 7000) ∧ (∀ (μ' : zM), zfK μ μ' → tOk μ' t (yar B) → tOd μ μ' → (tn μ' ≤ tn μ + 2404 ∧ tp μ' ≤ tp μ + 2400) → (0 ≤ μ'.1 52 ((14 : Nat) : Int) ∧ μ'.1 52 ((14 : Nat) : Int) ≤ μ.1 52 ((14 : Nat) : Int) + 2400) → (∀ j : Nat, j < as.length → tE μ' (yar B) (μ'.1 58 (a2 + j)) ((ycap (μ.1 52 ((13 : Nat) : Int)) as).getD j [])) → Q (some (.inl 1)) μ')
set_option maxHeartbeats 4000000 in
theorem gm_X0_captureArgs {g : zΓ} (hg : zg g) (d : Nat) (hd : 5 ≤ d) : zOk g d 9 gk_X0_captureArgs := by
  obtain ⟨d, rfl⟩ : ∃ d', d = d' + 1 := ⟨d - 1, by omega⟩
  refine zOk_loop hg (show mt_tab[9]? = some mt_X0_captureArgs from rfl) ([(12, [0, 1, 2, 3, 4]), (158, [0, 1, 2, 3, 4])], []) 107 rfl fun As μ Q hC => ?_
  obtain ⟨a1, a2, t, B, c, as, rfl, ha2, hT, hB, hS, ok, h52, nd, hc, hnc, hto, hcap, hQ⟩ := hC
  have W := ok.2.2.2.2
  have nn := W.1
  have pp := W.2.1
  have hB21 := hT.2.1.1.2.2.1
  have nd1 := nd.1
  have la4 : as.length ≤ 4 := by have := nd.2.2.1; have := ok.2.2.2.1 c; omega
  refine ⟨rfl, fun pc vs μ' n => (pc = 12 → ∃ (v4 : Int), vs = [.inr (.inr (52, 52)), .inl a1, .inl a2, .inl (as.length : Int), .inl v4] ∧ (0 ≤ v4 ∧ v4 ≤ as.length) ∧ aC1 μ μ' t B a1 c a2 as v4.toNat ∧ n = (Int.toNat (2147483648 - v4 + 8589934592))) ∧ (pc = 158 → ∃ (v4 : Int), vs = [.inr (.inr (52, 52)), .inl a1, .inl a2, .inl (as.length : Int), .inl v4] ∧ (0 ≤ v4 ∧ v4 ≤ as.length) ∧ aC2 μ μ' t B a2 as v4.toNat ∧ n = (Int.toNat (2147483648 - v4))), ?_, ?_, ?_, trivial⟩
  · refine ⟨gk_X6_partsOf, gm_X6_partsOf hg d (by omega), _, _, _, rfl, nd.1, ok, ?_⟩
    intro x1 kx1 lx1 hx1
    have X1 : x1 = (as.length : Int) := by rw [hx1, nd.2.1]; exact nd.2.2.1.symm
    refine Exists.intro (Int.toNat (2147483648 - 0 + 8589934592)) ?_
    exact ⟨(fun _ => ⟨0, by rw [X1], ⟨by omega, by omega⟩, aC1_0 ok, rfl⟩), (fun h => absurd h (by decide))⟩
  · intro vs m0 n hI
    replace hI := hI.1 rfl
    obtain ⟨v4, rfl, hv4, H, rfl⟩ := hI
    obtain ⟨i, ei⟩ : ∃ i : Nat, v4 = (i : Int) := ⟨v4.toNat, by omega⟩
    rw [show v4.toNat = i by omega] at H
    have H' := H
    obtain ⟨h1, h2, h3, h4, h5, h6, h7⟩ := H'
    have nd0 := aNd_o nd W h3
    have nd01 := nd0.1
    have W0 := h2.2.2.2.2
    have nn0 := W0.1
    have yc := ycn_b (μ.1 52 ((13 : Nat) : Int)) as i
    refine And.intro ⟨⟨by omega, by omega⟩, ⟨by omega, by omega⟩⟩ (And.intro (fun c2 => ?_) (fun c2 => ?_))
    · have e : i = as.length := by omega
      rw [e] at H
      refine Exists.intro (Int.toNat (2147483648 - 0)) (And.intro (by omega) ?_)
      exact ⟨(fun h => absurd h (by decide)), (fun _ => ⟨0, rfl, ⟨by omega, by omega⟩, aC2_0 H la4, rfl⟩)⟩
    · have hi : i < as.length := by omega
      have E := nd0.2.2.2 i hi
      refine ⟨gk_X6_part, gm_X6_part hg d (by omega), a1, v4, yar B, rfl, nd0.1, ⟨by omega, by rw [nd0.2.1, ← nd0.2.2.1]; omega⟩, W0, ?_⟩
      intro x3 kx3 hx3
      rw [← ei, ← hx3] at E
      refine ⟨gk_X6_head, gm_X6_head hg d (by omega), _, rfl, ⟨by omega, by omega, by omega⟩, ?_⟩
      intro x4 kx4 lx4 hx4
      have X4 : x4 = (as.getD i []).headD 0 := by rw [hx4]; exact tE_60 E
      refine ⟨gk_X8_isWild, gm_X8_isWild hg d (by omega), _, rfl, ⟨by omega, by omega⟩, ?_⟩
      intro x5 kx5 lx5 p5
      refine And.intro ⟨by omega, by omega⟩ (And.intro (fun c6 => ?_) (fun c6 => ?_))
      · have hw : ¬ ywl (as.getD i []) = true := by
          rw [ywl_i, ← X4]
          rcases p5 with q | q
          · exfalso; have := q.1; omega
          · exact q.2
        refine ⟨yk_X8_set, ym_X8_set hg d (by omega), _, _, _, _, rfl, ⟨by omega, by omega⟩, ?_⟩
        refine And.intro ⟨by omega, by omega⟩ (And.intro ⟨by omega, by omega⟩ ?_)
        intro m7 qm7 em7
        refine Exists.intro (Int.toNat (2147483648 - (v4 + 1) + 8589934592)) (And.intro (by omega) ?_)
        exact ⟨(fun _ => ⟨_, rfl, ⟨by omega, by omega⟩, by rw [show (v4 + 1).toNat = i + 1 by omega]; exact aC1_k H hi hw E ⟨qm7, by rw [em7]; rfl⟩ (by rw [← ei]; exact em7), rfl⟩), (fun h => absurd h (by decide))⟩
      · have hw : ywl (as.getD i []) = true := by
          rw [ywl_i, ← X4]
          rcases p5 with q | q
          · exact q.2
          · exfalso; have := q.1; omega
        intro x9 hx9 kx9 lx9
        refine And.intro ⟨⟨by omega, by omega⟩, ⟨by omega, by omega⟩⟩ (And.intro (fun c10 => ?_) (fun c10 => ?_))
        · intro x11 hx11 kx11 lx11
          refine ⟨yk_X8_set, ym_X8_set hg d (by omega), _, _, _, _, rfl, ⟨by omega, by omega⟩, ?_⟩
          refine And.intro ⟨by omega, by omega⟩ (And.intro ⟨by omega, by omega⟩ ?_)
          intro m12 qm12 em12
          rw [hx11] at em12
          have l12 : zl0 m0 m12 := ⟨qm12, by rw [em12]; rfl⟩
          obtain ⟨o12, d12, n12⟩ := tOk_g h2 (m' := m12) (fun j hj => by rw [em12, zu_ne (by omega)])
          have E12 := tE_old d12 W0 E
          intro x14 hx14 kx14 lx14
          have X14 : x14 = m0.1 52 ((13 : Nat) : Int) := by rw [hx14, em12, zu_ne (by decide)]
          refine ⟨gk_X6_head, gm_X6_head hg d (by omega), _, rfl, ⟨by omega, by omega, by omega⟩, ?_⟩
          intro x15 kx15 lx15 hx15
          have fin : ∀ (m17 : zM) (y : Int), zle m12 m17 → m17 = zu m12 55 x14 y → tOk m17 t (yar B) ∧ (tn m17 = tn m12 ∧ tp m17 = tp m12) ∧ m17.1 52 ((13 : Nat) : Int) = m0.1 52 ((13 : Nat) : Int) := fun m17 y _ e => by
            obtain ⟨o17, d17, n17⟩ := tOk_g o12 (m' := m17) (fun j hj => by rw [e, zu_ne (by omega)])
            exact ⟨o17, n17, by rw [e, zu_ne (by decide), em12, zu_ne (by decide)]⟩
          refine And.intro ⟨⟨by omega, by omega⟩, ⟨by omega, by omega⟩⟩ (And.intro (fun c16 => ?_) (fun c16 => ?_))
          · refine ⟨yk_X8_set, ym_X8_set hg d (by omega), _, _, _, _, rfl, ⟨by omega, by omega⟩, ?_⟩
            refine And.intro ⟨by omega, by omega⟩ (And.intro ⟨by omega, by omega⟩ ?_)
            intro m17 qm17 em17
            obtain ⟨o17, n17, f17⟩ := fin m17 _ qm17 em17
            rw [X14] at em17
            intro x19 hx19 kx19 lx19
            have X19 : x19 = m0.1 52 ((13 : Nat) : Int) := hx19.trans f17
            refine ⟨gk_X6_leaf, gm_X6_leaf hg d (by omega), 300 + x19, t, yar B, rfl, ⟨by omega, by omega⟩, yar_n hB21.2 (by omega) (by omega) (by omega), o17, (by omega), ?_⟩
            intro x20 m21 q21 o21 d21 c21 e21
            have n21 := e21.1
            have k21 := o21.2.2.2.2.1
            intro x24 hx24 kx24 lx24
            have X24 : x24 = m0.1 52 ((13 : Nat) : Int) := by rw [hx24, q21.2.1 52 (by omega)]; exact f17
            refine And.intro ⟨by omega, by omega⟩ ?_
            intro m25 em25
            refine ⟨yk_X8_set, ym_X8_set hg d (by omega), _, _, _, _, rfl, ⟨by omega, by omega⟩, ?_⟩
            refine And.intro ⟨by omega, by omega⟩ (And.intro ⟨by omega, by omega⟩ ?_)
            intro m27 qm27 em27
            rw [X24] at em25
            rw [X19] at e21
            refine Exists.intro (Int.toNat (2147483648 - (v4 + 1) + 8589934592)) (And.intro (by omega) ?_)
            exact ⟨(fun _ => ⟨_, rfl, ⟨by omega, by omega⟩, by rw [show (v4 + 1).toNat = i + 1 by omega]; exact aC1_w H hi hw l12 em12 ⟨qm17, by rw [em17]; rfl⟩ em17 q21 o21 d21 c21 e21 (zl0_u em25 (Or.inl (by decide)) (Or.inl ⟨by decide, by decide⟩)) em25 ⟨qm27, by rw [em27]; rfl⟩ (by rw [← ei]; exact em27), rfl⟩), (fun h => absurd h (by decide))⟩
          · have e15 : x15 = 202 := by omega
            refine ⟨gk_X6_part, gm_X6_part hg d (by omega), x3, 0, yar B, rfl, E12.1, ⟨by omega, by rw [← hx15, e15]; unfold yar; rw [if_neg (by omega), if_pos (by omega)]; omega⟩, o12.2.2.2.2, ?_⟩
            intro x29 kx29 hx29
            refine ⟨yk_X8_set, ym_X8_set hg d (by omega), _, _, _, _, rfl, ⟨by omega, by omega⟩, ?_⟩
            refine And.intro ⟨by omega, by omega⟩ (And.intro ⟨by omega, by omega⟩ ?_)
            intro m30 qm30 em30
            obtain ⟨o30, n30, f30⟩ := fin m30 _ qm30 em30
            rw [X14] at em30
            intro x32 hx32 kx32 lx32
            have X32 : x32 = m0.1 52 ((13 : Nat) : Int) := hx32.trans f30
            refine ⟨gk_X6_leaf, gm_X6_leaf hg d (by omega), 300 + x32, t, yar B, rfl, ⟨by omega, by omega⟩, yar_n hB21.2 (by omega) (by omega) (by omega), o30, (by omega), ?_⟩
            intro x33 m34 q34 o34 d34 c34 e34
            have n34 := e34.1
            have k34 := o34.2.2.2.2.1
            intro x37 hx37 kx37 lx37
            have X37 : x37 = m0.1 52 ((13 : Nat) : Int) := by rw [hx37, q34.2.1 52 (by omega)]; exact f30
            refine And.intro ⟨by omega, by omega⟩ ?_
            intro m38 em38
            refine ⟨yk_X8_set, ym_X8_set hg d (by omega), _, _, _, _, rfl, ⟨by omega, by omega⟩, ?_⟩
            refine And.intro ⟨by omega, by omega⟩ (And.intro ⟨by omega, by omega⟩ ?_)
            intro m40 qm40 em40
            rw [X37] at em38
            rw [X32] at e34
            refine Exists.intro (Int.toNat (2147483648 - (v4 + 1) + 8589934592)) (And.intro (by omega) ?_)
            exact ⟨(fun _ => ⟨_, rfl, ⟨by omega, by omega⟩, by rw [show (v4 + 1).toNat = i + 1 by omega]; exact aC1_w H hi hw l12 em12 ⟨qm30, by rw [em30]; rfl⟩ em30 q34 o34 d34 c34 e34 (zl0_u em38 (Or.inl (by decide)) (Or.inl ⟨by decide, by decide⟩)) em38 ⟨qm40, by rw [em40]; rfl⟩ (by rw [← ei]; exact em40), rfl⟩), (fun h => absurd h (by decide))⟩
        · exfalso; omega
  · intro vs m0 n hI
    replace hI := hI.2 rfl
    obtain ⟨v4, rfl, hv4, H, rfl⟩ := hI
    obtain ⟨i, ei⟩ : ∃ i : Nat, v4 = (i : Int) := ⟨v4.toNat, by omega⟩
    rw [show v4.toNat = i by omega] at H
    have H' := H
    obtain ⟨h1, h2, h3, h4, h5, h6, h7⟩ := H'
    have nd0 := aNd_o nd W h3
    have nd01 := nd0.1
    have W0 := h2.2.2.2.2
    have nn0 := W0.1
    have yc := ycn_b (μ.1 52 ((13 : Nat) : Int)) as i
    refine And.intro ⟨⟨by omega, by omega⟩, ⟨by omega, by omega⟩⟩ (And.intro (fun c42 => ?_) (fun c42 => ?_))
    · exact And.intro (zrtb (by omega)) (And.intro ⟨by omega, by omega⟩ (hQ _ h1 h2 h3 ⟨by omega, by omega⟩ ⟨by omega, by omega⟩ h6))
    · have hi : i < as.length := by omega
      have E := nd0.2.2.2 i hi
      refine ⟨gk_X6_part, gm_X6_part hg d (by omega), a1, v4, yar B, rfl, nd0.1, ⟨by omega, by rw [nd0.2.1, ← nd0.2.2.1]; omega⟩, W0, ?_⟩
      intro x43 kx43 hx43
      rw [← ei, ← hx43] at E
      refine ⟨gk_X6_head, gm_X6_head hg d (by omega), _, rfl, ⟨by omega, by omega, by omega⟩, ?_⟩
      intro x44 kx44 lx44 hx44
      have X44 : x44 = (as.getD i []).headD 0 := by rw [hx44]; exact tE_60 E
      refine ⟨gk_X8_isWild, gm_X8_isWild hg d (by omega), _, rfl, ⟨by omega, by omega⟩, ?_⟩
      intro x45 kx45 lx45 p45
      refine And.intro ⟨by omega, by omega⟩ (And.intro (fun c46 => ?_) (fun c46 => ?_))
      · refine Exists.intro (Int.toNat (2147483648 - (v4 + 1))) (And.intro (by omega) ?_)
        exact ⟨(fun h => absurd h (by decide)), (fun _ => ⟨_, rfl, ⟨by omega, by omega⟩, by rw [show (v4 + 1).toNat = i + 1 by omega]; exact aC2_k H, rfl⟩)⟩
      · have hw : ywl (as.getD i []) = true := by
          rw [ywl_i, ← X44]
          rcases p45 with q | q
          · exact q.2
          · exfalso; have := q.1; omega
        refine ⟨gk_X0_bind, gm_X0_bind hg d (by omega), a1, v4, a2, t, B, c, ycn (μ.1 52 ((13 : Nat) : Int)) as i, as, ycap (μ.1 52 ((13 : Nat) : Int)) as, rfl, ⟨by omega, by omega⟩, ha2, aT_f hT (fun j hj => h1.2.1 j (by omega)) h1.1.2, hB, aSz_f hS h1.1.2, h2, (h1.2.2.1 _ (by decide)).trans h52, nd0, hc, ⟨ycap_l _ _, fun j hj => h6 j (by rw [ycap_l] at hj; exact hj)⟩, by rw [show v4.toNat = i by omega, ycap_g hi, if_pos hw], ⟨by omega, by omega⟩, h7 i (Nat.le_refl _) hi hw, ⟨by omega, by omega⟩, ⟨by omega, by omega⟩, ?_⟩
        intro m48 z48 o48 d48 c48 t48
        refine And.intro ⟨by omega, by omega⟩ (And.intro (fun c50 => ?_) (fun c50 => ?_))
        · refine Exists.intro (Int.toNat (2147483648 - (v4 + 1))) (And.intro (by omega) ?_)
          exact ⟨(fun h => absurd h (by decide)), (fun _ => ⟨_, rfl, ⟨by omega, by omega⟩, by rw [show (v4 + 1).toNat = i + 1 by omega]; exact aC2_w H hi hw z48 o48 d48 c48 t48, rfl⟩)⟩
        · exfalso; omega
