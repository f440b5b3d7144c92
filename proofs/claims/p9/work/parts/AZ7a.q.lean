/-! ### a question, a place: how they are read -/
def yfq (T : yT) (p c : Int) : Int × Int := (if ykd T p = 1 then 1 else c, ypl T p)
/-- the words before a TYPE: the class behind in, and where the TYPE begins; or a FAULT -/
def yqo (T : yT) (B : yB) : (Int × Int) ⊕ (Int × Int) := if ykd T 0 ≠ 3 then .inl (-1, 0) else if ykd T (ynx T 0) ≠ 2 then .inr (yfq T (ynx T 0) 2) else if yfc B (ynm T (ynx T 0)).toInt < 0 then .inr (yfq T (ynx T 0) 4)
  else if ykd T (ynx T (ynx T 0)) ≠ 58 then .inr (yfq T (ynx T (ynx T 0)) 2) else .inl (yfc B (ynm T (ynx T 0)).toInt, ynx T (ynx T (ynx T 0)))
theorem yqo_0 {T : yT} {B : yB} (h : ykd T 0 ≠ 3) : yqo T B = .inl (-1, 0) := by unfold yqo; rw [if_pos h]
theorem yqo_1 {T : yT} {B : yB} (h : ykd T 0 = 3) (h1 : ykd T (ynx T 0) ≠ 2) : yqo T B = .inr (yfq T (ynx T 0) 2) := by unfold yqo; rw [if_neg (by omega), if_pos h1]
theorem yqo_2 {T : yT} {B : yB} (h : ykd T 0 = 3) (h1 : ykd T (ynx T 0) = 2) (h2 : yfc B (ynm T (ynx T 0)).toInt < 0) : yqo T B = .inr (yfq T (ynx T 0) 4) := by unfold yqo; rw [if_neg (by omega), if_neg (by omega), if_pos h2]
theorem yqo_3 {T : yT} {B : yB} (h : ykd T 0 = 3) (h1 : ykd T (ynx T 0) = 2) (h2 : ¬ yfc B (ynm T (ynx T 0)).toInt < 0) (h3 : ykd T (ynx T (ynx T 0)) ≠ 58) : yqo T B = .inr (yfq T (ynx T (ynx T 0)) 2) := by unfold yqo; rw [if_neg (by omega), if_neg (by omega), if_neg h2, if_pos h3]
theorem yqo_4 {T : yT} {B : yB} (h : ykd T 0 = 3) (h1 : ykd T (ynx T 0) = 2) (h2 : ¬ yfc B (ynm T (ynx T 0)).toInt < 0) (h3 : ykd T (ynx T (ynx T 0)) = 58) : yqo T B = .inl (yfc B (ynm T (ynx T 0)).toInt, ynx T (ynx T (ynx T 0))) := by unfold yqo; rw [if_neg (by omega), if_neg (by omega), if_neg h2, if_neg (by omega)]
/-- the table, as a TYPE of a question is read: nodes so far, the class behind in, what may stand behind it -/
def yQB (B : yB) (n o r : Int) : yB := yBt (yN (yN B 0 2 n) 0 3 o) r 0
/-- a question's FAULT, or 0 -/
def yQq (T : yT) (B : yB) (x l : Int) : Prop := (yqo T B = .inr (x, l)) ∨ ∃ o p, yqo T B = .inl (o, p) ∧ ((∃ B1, yR T (10, p, 0, [], yQB B 0 o 2) (20, l, x, [], B1)) ∨ ∃ p1 n1 f, yR T (10, p, 0, [], yQB B 0 o 2) (14, p1, 0, [f], yN (yQB B 0 o 2) 0 2 n1) ∧
  ((ykd T (ynx T p1) ≠ 61 ∧ (x, l) = yfq T (ynx T p1) 2) ∨ (ykd T (ynx T p1) = 61 ∧ ((∃ B2, yR T (10, ynx T (ynx T p1), 0, [], yQB B n1 o 3) (20, l, x, [], B2)) ∨ ((x = 0 ∧ l = 0) ∧ ∃ p2 n2 f2, yR T (10, ynx T (ynx T p1), 0, [], yQB B n1 o 3) (14, p2, 0, [f2], yN (yQB B n1 o 3) 0 2 n2))))))
/-- a place's FAULT, or 0 -/
def yQp (T : yT) (B : yB) (x l : Int) : Prop := (yqo T B = .inr (x, l)) ∨ ∃ o p, yqo T B = .inl (o, p) ∧ ((∃ B1, yR T (10, p, 0, [], yQB B 0 o 4) (20, l, x, [], B1)) ∨ ∃ p1 n1 f, yR T (10, p, 0, [], yQB B 0 o 4) (14, p1, 0, [f], yN (yQB B 0 o 4) 0 2 n1) ∧
  ((ykd T (ynx T p1) ≠ 2 ∧ (x, l) = yfq T (ynx T p1) 2) ∨ (ykd T (ynx T p1) = 2 ∧ ((yfc B (ynm T (ynx T p1)).toInt < 0 ∧ (x, l) = yfq T (ynx T p1) 4) ∨ (¬ yfc B (ynm T (ynx T p1)).toInt < 0 ∧ ((ykd T (ynx T (ynx T p1)) ≠ 0 ∧ (x, l) = yfq T (ynx T (ynx T p1)) 2) ∨ (ykd T (ynx T (ynx T p1)) = 0 ∧ x = 0 ∧ l = 0)))))))
theorem yQB_v (B : yB) (n o r : Int) : (yQB B n o r).1 0 4 = r ∧ (yQB B n o r).1 0 5 = 0 ∧ (yQB B n o r).1 0 2 = n ∧ (yQB B n o r).1 0 3 = o ∧ (yQB B n o r).1 0 0 = B.1 0 0 ∧ (yQB B n o r).1 0 1 = B.1 0 1 ∧ (∀ k : Nat, k ≠ 0 → (yQB B n o r).1 k = B.1 k) ∧ (yQB B n o r).2 = B.2 := by
  have v := yBt_v (yN (yN B 0 2 n) 0 3 o) r 0
  unfold yQB
  refine ⟨v.1, v.2.1, ?_, ?_, ?_, ?_, fun k hk => ?_, rfl⟩
  · rw [v.2.2.1 2 (by decide) (by decide), yN_ne (by decide), yN_at]
  · rw [v.2.2.1 3 (by decide) (by decide), yN_at]
  · rw [v.2.2.1 0 (by decide) (by decide), yN_ne (by decide), yN_ne (by decide)]
  · rw [v.2.2.1 1 (by decide) (by decide), yN_ne (by decide), yN_ne (by decide)]
  · rw [v.2.2.2 k hk, yN_nk hk, yN_nk hk]
/-- the end of a TYPE of a question is one -/
theorem ym14_q {T : yT} {p : Int} {f : yF} {B : yB} (h : 2 ≤ B.1 0 4) : yms T (14, p, 0, [f], B) = (14, p, 0, [f], B) := by
  show ym14 T p [f] B = _
  unfold ym14
  dsimp only
  rw [if_neg (by omega), if_neg (by omega)]
theorem yQe {T : yT} {s : yS} {B : yB} {p1 n1 p2 n2 : Int} {f1 f2 : yF} (h : 2 ≤ B.1 0 4) (a : yR T s (14, p1, 0, [f1], yN B 0 2 n1)) (b : yR T s (14, p2, 0, [f2], yN B 0 2 n2)) : p1 = p2 ∧ n1 = n2 := by
  have q := yR_one a b (ym14_q (by rw [yN_ne (by decide)]; exact h)) (ym14_q (by rw [yN_ne (by decide)]; exact h))
  have e1 := congrArg (fun s : yS => s.2.1) q
  have e2 := congrArg (fun s : yS => s.2.2.2.2.1 0 2) q
  refine ⟨e1, ?_⟩
  have e2 : (yN B 0 2 n1).1 0 2 = (yN B 0 2 n2).1 0 2 := e2
  rw [yN_at, yN_at] at e2
  exact e2
theorem yQx {T : yT} {s : yS} {B B1 : yB} {p1 n1 l x : Int} {f1 : yF} (h : 2 ≤ B.1 0 4) (a : yR T s (14, p1, 0, [f1], yN B 0 2 n1)) (b : yR T s (20, l, x, [], B1)) : False := by
  have q := yR_one a b (ym14_q (by rw [yN_ne (by decide)]; exact h)) rfl
  exact absurd (show (14 : Nat) = 20 from congrArg (fun s : yS => s.1) q) (by decide)
theorem yQf {T : yT} {s : yS} {B1 B2 : yB} {l x l' x' : Int} (a : yR T s (20, l, x, [], B1)) (b : yR T s (20, l', x', [], B2)) : x = x' ∧ l = l' := by
  have q := yR_one a b rfl rfl
  exact ⟨congrArg (fun s : yS => s.2.2.1) q, congrArg (fun s : yS => s.2.1) q⟩
theorem yQq_one {T : yT} {B : yB} {x l x' l' : Int} (a : yQq T B x l) (b : yQq T B x' l') : x = x' ∧ l = l' := by
  have r2 : ∀ n o : Int, 2 ≤ (yQB B n o 2).1 0 4 := fun n o => by rw [(yQB_v B n o 2).1]; decide
  have r3 : ∀ n o : Int, 2 ≤ (yQB B n o 3).1 0 4 := fun n o => by rw [(yQB_v B n o 3).1]; decide
  rcases a with a | ⟨o, p, a, a1⟩ <;> rcases b with b | ⟨o', p', b, b1⟩
  · rw [a] at b; cases b; exact ⟨rfl, rfl⟩
  · rw [a] at b; cases b
  · rw [a] at b; cases b
  · rw [a] at b
    cases b
    rcases a1 with ⟨B1, a1⟩ | ⟨p1, n1, f1, a1, a2⟩ <;> rcases b1 with ⟨B1', b1⟩ | ⟨p1', n1', f1', b1, b2⟩
    · exact yQf a1 b1
    · exact (yQx (r2 _ _) b1 a1).elim
    · exact (yQx (r2 _ _) a1 b1).elim
    · obtain ⟨rfl, rfl⟩ := yQe (r2 _ _) a1 b1
      rcases a2 with ⟨k, e⟩ | ⟨k, a2⟩ <;> rcases b2 with ⟨k', e'⟩ | ⟨k', b2⟩
      · rw [← e'] at e; cases e; exact ⟨rfl, rfl⟩
      · exact absurd k' k
      · exact absurd k k'
      · rcases a2 with ⟨B2, a2⟩ | ⟨⟨rfl, rfl⟩, p2, n2, f2, a2⟩ <;> rcases b2 with ⟨B2', b2⟩ | ⟨⟨rfl, rfl⟩, p2', n2', f2', b2⟩
        · exact yQf a2 b2
        · exact (yQx (r3 _ _) b2 a2).elim
        · exact (yQx (r3 _ _) a2 b2).elim
        · exact ⟨rfl, rfl⟩
theorem yQp_one {T : yT} {B : yB} {x l x' l' : Int} (a : yQp T B x l) (b : yQp T B x' l') : x = x' ∧ l = l' := by
  have r4 : ∀ n o : Int, 2 ≤ (yQB B n o 4).1 0 4 := fun n o => by rw [(yQB_v B n o 4).1]; decide
  rcases a with a | ⟨o, p, a, a1⟩ <;> rcases b with b | ⟨o', p', b, b1⟩
  · rw [a] at b; cases b; exact ⟨rfl, rfl⟩
  · rw [a] at b; cases b
  · rw [a] at b; cases b
  · rw [a] at b
    cases b
    rcases a1 with ⟨B1, a1⟩ | ⟨p1, n1, f1, a1, a2⟩ <;> rcases b1 with ⟨B1', b1⟩ | ⟨p1', n1', f1', b1, b2⟩
    · exact yQf a1 b1
    · exact (yQx (r4 _ _) b1 a1).elim
    · exact (yQx (r4 _ _) a1 b1).elim
    · obtain ⟨rfl, rfl⟩ := yQe (r4 _ _) a1 b1
      rcases a2 with ⟨k, e⟩ | ⟨k, a2⟩ <;> rcases b2 with ⟨k', e'⟩ | ⟨k', b2⟩
      · rw [← e'] at e; cases e; exact ⟨rfl, rfl⟩
      · exact absurd k' k
      · exact absurd k k'
      · rcases a2 with ⟨k, e⟩ | ⟨k, a2⟩ <;> rcases b2 with ⟨k', e'⟩ | ⟨k', b2⟩
        · rw [← e'] at e; cases e; exact ⟨rfl, rfl⟩
        · exact absurd k k'
        · exact absurd k' k
        · rcases a2 with ⟨k, e⟩ | ⟨k, rfl, rfl⟩ <;> rcases b2 with ⟨k', e'⟩ | ⟨k', rfl, rfl⟩
          · rw [← e'] at e; cases e; exact ⟨rfl, rfl⟩
          · exact absurd k' k
          · exact absurd k k'
          · exact ⟨rfl, rfl⟩
/-! #### the class -/
theorem yfq_f {T : yT} {μ μ' : zM} {p c : Int} {B : yB} {t q : Nat} (h : yRC T μ p B t q) (e : μ' = yflM μ c) : μ'.1 50 ((8 : Nat) : Int) = (yfq T p c).1 ∧ μ'.1 50 ((9 : Nat) : Int) = (yfq T p c).2 := by
  obtain ⟨k1, k2, k3⟩ := yTI_k h
  refine ⟨?_, ?_⟩
  · rw [e]; unfold yflM; rw [zu_nk (by decide), zu_at, k1]; rfl
  · rw [e]; unfold yflM; rw [zu_at, k2]; rfl
/-- the class behind in is told -/
theorem yRC_ow {T : yT} {μ : zM} {p o : Int} {B : yB} {t q : Nat} (h : yRC T μ p B t q) : yRC T (zu μ 50 ((5 : Nat) : Int) o) p (yN B 0 3 o) t q := by
  have hq : q ≠ 50 := by have := h.2.1.1; rcases this.2 with w | w; (have w : q = t + 11 := w; have := this.1; omega); omega
  refine yRC_fr h (yRT_fr h.1 (zu_ne (by decide)) (zu_ne (by decide)) (zu_ne (by decide)) (zu_ne (by decide)) (zu_ne (by decide))) ⟨zu_nk (by decide), zu_nk (by decide), ?_, ?_, zu_nk (by decide)⟩ (fun j _ h50 _ _ => zu_ne h50) (fun x _ _ => by rw [zu_ne hq]) (yN_ne (by omega)) (yN_ne (by omega)) ?_ (fun k hk => yN_nk hk) rfl rfl
  · rw [zu_nk (by decide), yN_ne (by omega)]; exact h.2.1.2.2.2.1
  · rw [zu_at, yN_at]
  · rw [yN_ne (by omega)]; exact ⟨Int.le_refl _, h.2.1.2.2.2.2.2.2⟩
theorem ymay_2 {B : yB} {k : Int} (h : B.1 0 4 = 2) : ymay B 0 k = true ↔ k = 60 := by
  unfold ymay
  rw [if_pos rfl, if_neg (by omega), if_neg (by omega), if_pos h, decide_eq_true_eq]
theorem ymay_3 {B : yB} {k : Int} (h : B.1 0 4 = 3) : ymay B 0 k = true ↔ k = 0 := by
  unfold ymay
  rw [if_pos rfl, if_neg (by omega), if_neg (by omega), if_neg (by omega), if_pos h, decide_eq_true_eq]
theorem ymay_4 {B : yB} {k : Int} (h : B.1 0 4 = 4) : ymay B 0 k = true ↔ k = 5 := by
  unfold ymay
  rw [if_pos rfl, if_neg (by omega), if_neg (by omega), if_neg (by omega), if_neg (by omega), decide_eq_true_eq]
/-- a TYPE of a question begins -/
theorem yTI_q {T : yT} {μ : zM} {p o r : Int} {B : yB} {t : Nat} {n : Int} (h : yRC T μ p (yN (yN B 0 2 n) 0 3 o) t 51) (ho : o < B.1 0 0) : yTI T μ p (yQB B n o r) t 51 n (yfl [] ++ ywr 0) := by
  have v := yQB_v B n o r
  have hn := h.2.1.2.2.2.2.2
  rw [yN_ne (by decide), yN_at] at hn
  refine ⟨yRC_N (yRC_N h (by decide)) (by decide), by rw [show yfl [] ++ ywr 0 = [] from rfl]; exact yRow_nil, ⟨?_, hn.1⟩, ?_⟩
  · rw [v.2.2.1]; show n + 0 = _; omega
  · rw [v.2.2.2.1, v.2.2.2.2.1]; exact ho
theorem yT1_q {T : yT} {s : yS} {B : yB} {t q : Nat} {st x a : Int} {μ μ' : zM} (hi : yT1 T s 0 [] B t q st μ) (ha : (a = 1 ∧ ymay B 0 (μ.1 1 ((6 : Nat) : Int)) = true) ∨ (a = 0 ∧ ¬ ymay B 0 (μ.1 1 ((6 : Nat) : Int)) = true)) (hb : (x = 1 ∧ (a = 1 ∧ μ.1 50 ((10 : Nat) : Int) = 0) ∧ μ' = μ) ∨ (x = 0 ∧ ((a = 0 ∧ μ' = yflM μ 2) ∨ (a = 1 ∧ μ.1 50 ((10 : Nat) : Int) = 1 ∧ μ' = yflM μ 5)))) : (x = 0 ∧ yFa T s μ') ∨ (x = 1 ∧ μ' = μ ∧ ∃ (p n h : Int) (as : List (List Int)), (yR T s (14, p, 0, [(0, h, as)], yN B 0 2 n) ∧ ymay B 0 (ykd T p) = true) ∧ yTI T μ' p (yN B 0 2 n) t q st (([h] :: as).flatten) ∧ μ'.1 50 ((10 : Nat) : Int) = 0) := by
  obtain ⟨p, n, h, as, h1, h2, h3⟩ := hi
  have k := (yTI_k h2.1).1
  rw [k] at ha
  have hm : ∀ z, ymay (yN B 0 2 n) 0 z = ymay B 0 z := fun z => by unfold ymay; rw [yN_ne (by decide)]
  have hl : yfl [(0, h, as)] = ([h] :: as).flatten := by simp [yfl, ycd, ywr]
  rw [hl] at h2
  rcases hb with ⟨b1, b2, b3⟩ | ⟨b1, ⟨b2, b3⟩ | ⟨b2, b3, b4⟩⟩
  · rcases ha with ⟨a1, a2⟩ | ⟨a1, a2⟩
    · rcases h3 with ⟨c1, c2⟩ | ⟨c1, c2⟩
      · exact Or.inr ⟨b1, b3, p, n, h, as, ⟨yR_s h1 (ym12_zc (by rw [hm]; exact a2) (by rw [yar_N]; exact c2)), a2⟩, by rw [b3]; exact h2, by rw [b3]; exact c1⟩
      · omega
    · omega
  · rcases ha with ⟨a1, a2⟩ | ⟨a1, a2⟩
    · omega
    · exact Or.inl ⟨b1, yFa_f h2.1 (yR_s h1 (ym12_z2 (by rw [hm]; exact Bool.eq_false_iff.mpr a2))) b3⟩
  · rcases ha with ⟨a1, a2⟩ | ⟨a1, a2⟩
    · rcases h3 with ⟨c1, c2⟩ | ⟨c1, c2⟩
      · omega
      · exact Or.inl ⟨b1, yFa_f h2.1 (yR_s h1 (ym12_z5 (by rw [hm]; exact a2) (by rw [yar_N]; exact c2))) b4⟩
    · omega
theorem yfc_lt (B : yB) (x : Int) (h : 1 ≤ B.1 0 0 := by omega) : yfc B x < B.1 0 0 ∧ -1 ≤ yfc B x := by
  unfold yfc
  rcases yfd_B (B.1 1) x 0 (B.1 0 0) with w | w <;> omega
theorem yfc_c {B B' : yB} {x : Int} (h0 : B'.1 0 0 = B.1 0 0) (h1 : B'.1 1 = B.1 1) : yfc B' x = yfc B x := by unfold yfc; rw [h0, h1]
theorem yfc_qn {B : yB} {n o x : Int} : yfc (yN (yN B 0 2 n) 0 3 o) x = yfc B x := yfc_c (by rw [yN_ne (by decide), yN_ne (by decide)]) (by rw [yN_nk (by decide), yN_nk (by decide)])
theorem yfc_qp {B : yB} {n o r m x : Int} : yfc (yN (yQB B n o r) 0 2 m) x = yfc B x := yfc_c (by rw [yN_ne (by decide), (yQB_v B n o r).2.2.2.2.1]) (by rw [yN_nk (by decide), (yQB_v B n o r).2.2.2.2.2.2.1 1 (by decide)])
theorem yN_33 {B : yB} {x y : Int} : yN (yN B 0 3 x) 0 3 y = yN B 0 3 y := by
  unfold yN
  refine Prod.ext ?_ rfl
  funext k j
  show (if k = 0 ∧ j = 3 then y else if k = 0 ∧ j = 3 then x else B.1 k j) = (if k = 0 ∧ j = 3 then y else B.1 k j)
  by_cases w : k = 0 ∧ j = 3
  · rw [if_pos w, if_pos w]
  · rw [if_neg w, if_neg w, if_neg w]
theorem yRC_eqv {T : yT} {μ : zM} {p : Int} {B B' : yB} {t q : Nat} (h : yRC T μ p B t q) (e0 : B'.1 0 0 = B.1 0 0) (e1 : B'.1 0 1 = B.1 0 1) (e2 : B'.1 0 2 = B.1 0 2) (e3 : B'.1 0 3 = B.1 0 3) (ek : ∀ k : Nat, k ≠ 0 → B'.1 k = B.1 k) (el : B'.2 = B.2) : yRC T μ p B' t q := by
  refine yRC_fr h h.1 ⟨rfl, rfl, ?_, ?_, rfl⟩ (fun _ _ _ _ _ => rfl) (fun _ _ _ => rfl) e0 e1 ?_ ek el rfl
  · rw [e2]; exact h.2.1.2.2.2.1
  · rw [e3]; exact h.2.1.2.2.2.2.1
  · rw [e2]; exact ⟨Int.le_refl _, h.2.1.2.2.2.2.2.2⟩
theorem yRC_qs {T : yT} {μ : zM} {p n o r m : Int} {B : yB} {t q : Nat} (h : yRC T μ p (yN (yQB B n o r) 0 2 m) t q) : yRC T μ p (yN (yN B 0 2 m) 0 3 o) t q := by
  have v := yQB_v B n o r
  refine yRC_eqv h ?_ ?_ ?_ ?_ (fun k hk => ?_) ?_
  · rw [yN_ne (by decide), yN_ne (by decide), yN_ne (by decide), v.2.2.2.2.1]
  · rw [yN_ne (by decide), yN_ne (by decide), yN_ne (by decide), v.2.2.2.2.2.1]
  · rw [yN_ne (by decide), yN_at, yN_at]
  · rw [yN_at, yN_ne (by decide), v.2.2.2.1]
  · rw [yN_nk hk, yN_nk hk, yN_nk hk, v.2.2.2.2.2.2.1 k hk]
  · exact v.2.2.2.2.2.2.2.symm
theorem yW2_q {B : yB} {r : Int} (h : B.1 0 4 = r) (hr : 2 ≤ r) : yW2 B [] = 0 := by
  unfold yW2
  rw [if_pos (show ([] : List yF).length = 0 from rfl), if_neg (by omega), if_neg (by omega)]
theorem yW3_q {B : yB} (h : B.1 0 5 = 0) : yW3 B [] = 0 := by
  unfold yW3
  rw [if_pos (show ([] : List yF).length = 0 from rfl), if_pos h]
/-- all is ready for a question -/
theorem yRC_q0 {T : yT} {μ m1 : zM} {t : Nat} {B : yB} (ht : t = 14 ∨ t = 32) (h : yRB μ t B ∧ yRS μ t 300 B) (hT : yRT T m1 0) (hf : ∀ j : Nat, j ≠ 1 → j ≠ 3 → j ≠ 4 → j ≠ 50 → j ≠ 3000005 → j ≠ 5000001 → m1.1 j = μ.1 j) (h5 : m1.1 50 ((2 : Nat) : Int) = t ∧ m1.1 50 ((3 : Nat) : Int) = (51 : Nat) ∧ m1.1 50 ((4 : Nat) : Int) = 0 ∧ m1.1 50 ((5 : Nat) : Int) = -1 ∧ m1.1 50 ((8 : Nat) : Int) = 0) : yRC T m1 0 (yN (yN B 0 2 0) 0 3 (-1)) t 51 := by
  have n : ∀ a : Nat, a ≤ 17 → m1.1 (Nat.add t a) = μ.1 (Nat.add t a) := fun a ha => hf _ (show t + a ≠ 1 by omega) (show t + a ≠ 3 by omega) (show t + a ≠ 4 by omega) (show t + a ≠ 50 by omega) (show t + a ≠ 3000005 by omega) (show t + a ≠ 5000001 by omega)
  have n3 : ∀ a : Nat, a ≤ 17 → m1.1 (Nat.add 3000000 (Nat.add t a)) = μ.1 (Nat.add 3000000 (Nat.add t a)) := fun a ha => hf _ (show 3000000 + (t + a) ≠ 1 by omega) (show 3000000 + (t + a) ≠ 3 by omega) (show 3000000 + (t + a) ≠ 4 by omega) (show 3000000 + (t + a) ≠ 50 by omega) (show 3000000 + (t + a) ≠ 3000005 by omega) (show 3000000 + (t + a) ≠ 5000001 by omega)
  have nt : m1.1 t = μ.1 t := n 0 (by decide)
  have hq : ¬ (51 : Nat) = Nat.add t 11 := show ¬ 51 = t + 11 by omega
  have b0 : (yN (yN B 0 2 0) 0 3 (-1)).1 0 0 = B.1 0 0 := by rw [yN_ne (by decide), yN_ne (by decide)]
  have b1 : (yN (yN B 0 2 0) 0 3 (-1)).1 0 1 = B.1 0 1 := by rw [yN_ne (by decide), yN_ne (by decide)]
  have b2 : (yN (yN B 0 2 0) 0 3 (-1)).1 0 2 = 0 := by rw [yN_ne (by decide), yN_at]
  have bk : ∀ k : Nat, k ≠ 0 → (yN (yN B 0 2 0) 0 3 (-1)).1 k = B.1 k := fun k hk => by rw [yN_nk hk, yN_nk hk]
  refine ⟨hT, ⟨⟨ht, Or.inr rfl⟩, h5.1, h5.2.1, by rw [b2]; exact h5.2.2.1, by rw [yN_at]; exact h5.2.2.2.1, by rw [b2]; omega⟩, yRB_fr h.1 (by rw [nt]) (by rw [nt]) (n3 1 (by decide)) (n 2 (by decide)) (n 3 (by decide)) (n 4 (by decide)) (n3 6 (by decide)) (n 7 (by decide)) (n 8 (by decide)) b0 b1 bk, ?_, fun w => absurd w hq, h5.2.2.2.2⟩
  unfold ynn
  rw [if_neg hq]
  exact yRS_fr h.2 (n 5 (by decide)) (n 9 (by decide)) (n 10 (by decide)) (fun x _ _ => by rw [n 11 (by decide)]) b0 b1 (Int.le_refl _) bk rfl
