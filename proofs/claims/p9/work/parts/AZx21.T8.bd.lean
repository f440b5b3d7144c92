/-! ### ARGS that are unknown become NEW variables: the class -/
theorem tOk_g {m m' : zM} {t : Nat} {A : Int → Int} (h : tOk m t A) (c : ∀ i : Nat, (i < 52 ∨ 59 ≤ i) → m'.1 i = m.1 i) : tOk m' t A ∧ tOd m m' ∧ (tn m' = tn m ∧ tp m' = tp m) := by
  have n : tn m' = tn m := by unfold tn; rw [c 59 (by omega)]
  have p : tp m' = tp m := by unfold tp; rw [c 59 (by omega)]
  refine ⟨⟨h.1, by rw [c 59 (by omega)]; exact h.2.1, ?_, h.2.2.2.1, tW_c (fun i hi => c i (by omega)) h.2.2.2.2⟩, ⟨⟨by omega, by omega⟩, fun x _ _ => ⟨by rw [c 60 (by omega)], by rw [c 61 (by omega)]⟩, fun q _ _ => by rw [c 63 (by omega)]⟩, n, p⟩
  rw [h.2.2.1]
  have ht := h.1
  funext y
  unfold tA
  rw [c t (by omega), c (Nat.add t 3) (by simp only [Nat.add_eq]; omega)]
def zfB (v : Int) (μ μ' : zM) : Prop := zfK μ μ' ∧ (μ'.1 58 = μ.1 58 ∧ μ'.1 55 = μ.1 55) ∧ μ'.1 52 ((13 : Nat) : Int) = μ.1 52 ((13 : Nat) : Int) ∧ (∀ x : Int, x ≠ v → μ'.1 53 x = μ.1 53 x) ∧ ∀ x : Int, x < v * 3 ∨ v * 3 + 2 < x → μ'.1 54 x = μ.1 54 x
theorem zfB_r (v : Int) (μ : zM) : zfB v μ μ := ⟨zfK_r μ, ⟨rfl, rfl⟩, rfl, fun _ _ => rfl, fun _ _ => rfl⟩
theorem zfB_t {v : Int} {a b c : zM} (h1 : zfB v a b) (h2 : zfB v b c) : zfB v a c := ⟨zfK_t h1.1 h2.1, ⟨h2.2.1.1.trans h1.2.1.1, h2.2.1.2.trans h1.2.1.2⟩, h2.2.2.1.trans h1.2.2.1, fun x hx => (h2.2.2.2.1 x hx).trans (h1.2.2.2.1 x hx), fun x hx => (h2.2.2.2.2 x hx).trans (h1.2.2.2.2 x hx)⟩
theorem zfB_P {v : Int} {a b : zM} (h : zfP a b) : zfB v a b := ⟨zfK_P h, ⟨h.2.1 58 (by omega), h.2.1 55 (by omega)⟩, by rw [h.2.1 52 (by omega)], fun x _ => by rw [h.2.1 53 (by omega)], fun x _ => by rw [h.2.1 54 (by omega)]⟩
theorem zfB_c {v x : Int} {a b : zM} (q : zl0 a b) (e : b = zu a 52 ((14 : Nat) : Int) x) : zfB v a b := ⟨zfK_u q e (by omega), ⟨by rw [e, zu_ne (by decide)], by rw [e, zu_ne (by decide)]⟩, by rw [e, zu_nk (by decide)], fun x _ => by rw [e, zu_ne (by decide)], fun x _ => by rw [e, zu_ne (by decide)]⟩
theorem aBd_o {m m' : zM} {t : Nat} {A : Int → Int} {v x : Int} (h : tOk m t A) (q : zl0 m m') (e : m' = aBd m v x) (b : 0 ≤ m.1 53 v ∧ m.1 53 v ≤ 2) : tOk m' t A ∧ tOd m m' ∧ (tn m' = tn m ∧ tp m' = tp m) ∧ zfB v m m' ∧ m'.1 53 v = m.1 53 v + 1 ∧ m'.1 52 = m.1 52 ∧ m'.1 54 (v * 3 + m.1 53 v) = x ∧ ∀ k : Int, k ≠ v * 3 + m.1 53 v → m'.1 54 k = m.1 54 k := by
  have c : ∀ i : Nat, i ≠ 53 → i ≠ 54 → m'.1 i = m.1 i := fun i h1 h2 => by rw [e]; unfold aBd; rw [zu_ne h1, zu_ne h2]
  obtain ⟨o, d, n⟩ := tOk_g h (fun i hi => c i (by omega) (by omega))
  refine ⟨o, d, n, ⟨⟨q, fun j hj => c j (by omega) (by omega), fun i _ => by rw [c 52 (by decide) (by decide)], by rw [c 59 (by decide) (by decide)]⟩, ⟨c 58 (by decide) (by decide), c 55 (by decide) (by decide)⟩, by rw [c 52 (by decide) (by decide)], fun y hy => ?_, fun y hy => ?_⟩, ?_, c 52 (by decide) (by decide), ?_, fun k hk => ?_⟩
  · rw [e]; unfold aBd; rw [zu_nk hy, zu_ne (by decide)]
  · rw [e]; unfold aBd; rw [zu_ne (by decide), zu_nk (by omega)]
  · rw [e]; unfold aBd; rw [zu_at]
  · rw [e]; unfold aBd; rw [zu_ne (by decide), zu_at]
  · rw [e]; unfold aBd; rw [zu_ne (by decide), zu_nk hk]
/-- s is a node of class c with these ARGS -/
def aNd (m : zM) (A : Int → Int) (s c : Int) (as : List (List Int)) : Prop := (0 ≤ s ∧ s < tn m) ∧ m.1 60 s = c ∧ (as.length : Int) = A c ∧ ∀ i : Nat, i < as.length → tE m A (m.1 63 (m.1 61 s + i)) (as.getD i [])
theorem aNd_o {μ m : zM} {A : Int → Int} {s c : Int} {as : List (List Int)} (h : aNd μ A s c as) (w : tW μ A) (o : tOd μ m) : aNd m A s c as := by
  obtain ⟨h1, h2, h3, h4⟩ := h
  have p := o.1
  have q := o.2.1 s h1.1 h1.2
  have W := w.2.2.1 s h1.1 h1.2
  have W1 := W.1
  rw [h2] at W1
  refine ⟨⟨h1.1, by omega⟩, by rw [q.1]; exact h2, h3, fun i hi => ?_⟩
  rw [q.2, o.2.2 _ (by omega) (by omega)]
  exact tE_old o w (h4 i hi)
theorem tE_60 {m : zM} {A : Int → Int} {x : Int} {l : List Int} (h : tE m A x l) : m.1 60 x = l.headD 0 := by
  obtain ⟨as, e, -⟩ := tE_h h
  rw [e]; rfl
/-- a NEW variable's BOUNDS, its FLOOR -/
def aNv (m : zM) (B : yB) (v : Int) (bs : List qR) : Prop := m.1 53 v = (bs.length : Int) ∧ bs.length ≤ 3 ∧ ∀ i : Nat, i < bs.length → tE m (yar B) (m.1 54 (v * 3 + i)) (bs.getD i [])
def aNf (m : zM) (B : yB) (v : Int) (l : qR) : Prop := (l = [] ∧ m.1 55 v = -1) ∨ (l ≠ [] ∧ tE m (yar B) (m.1 55 v) l)
theorem aNv_o {m m' : zM} {B : yB} {v : Int} {bs : List qR} (h : aNv m B v bs) (w : tW m (yar B)) (o : tOd m m') (e53 : m'.1 53 v = m.1 53 v) (e54 : ∀ k : Int, v * 3 ≤ k → k ≤ v * 3 + 2 → m'.1 54 k = m.1 54 k) : aNv m' B v bs := by
  have b3 := h.2.1
  exact ⟨e53.trans h.1, h.2.1, fun i hi => by rw [e54 _ (by omega) (by omega)]; exact tE_old o w (h.2.2 i hi)⟩
theorem aNf_o {m m' : zM} {B : yB} {v : Int} {l : qR} (h : aNf m B v l) (w : tW m (yar B)) (o : tOd m m') (e : m'.1 55 v = m.1 55 v) : aNf m' B v l := by
  rcases h with h | h
  · exact Or.inl ⟨h.1, e.trans h.2⟩
  · exact Or.inr ⟨h.1, by rw [e]; exact tE_old o w h.2⟩
theorem aNv_a {m m' : zM} {t : Nat} {B : yB} {v x : Int} {bs : List qR} {r : qR} (h : aNv m B v bs) (ok : tOk m t (yar B)) (q : zl0 m m') (e : m' = aBd m v x) (hx : tE m (yar B) x r) (n : bs.length ≤ 2) : aNv m' B v (bs ++ [r]) := by
  have h1 := h.1
  obtain ⟨o, d, nn, z, b, f, a1, a2⟩ := aBd_o ok q e ⟨by omega, by omega⟩
  refine ⟨by rw [b, h1]; simp, by simp; omega, fun i hi => ?_⟩
  have hi : i < bs.length + 1 := by simpa using hi
  by_cases z : i = bs.length
  · rw [z, List.getD_eq_getElem?_getD, List.getElem?_append_right (Nat.le_refl _)]
    simp only [Nat.sub_self, List.getElem?_cons_zero, Option.getD_some]
    rw [show v * 3 + ((bs.length : Nat) : Int) = v * 3 + m.1 53 v by omega, a1]
    exact tE_old d ok.2.2.2.2 hx
  · rw [List.getD_eq_getElem?_getD, List.getElem?_append_left (by omega), ← List.getD_eq_getElem?_getD, a2 _ (by omega)]
    exact tE_old d ok.2.2.2.2 (h.2.2 i (by omega))
/-- room for NODES -/
def aCn (m : zM) : Prop := (0 ≤ m.1 52 ((13 : Nat) : Int) ∧ m.1 52 ((13 : Nat) : Int) ≤ 300) ∧ (0 ≤ m.1 52 ((14 : Nat) : Int) ∧ m.1 52 ((14 : Nat) : Int) ≤ 6000) ∧ tn m ≤ 605 + m.1 52 ((13 : Nat) : Int) + m.1 52 ((14 : Nat) : Int) ∧ tp m ≤ 605 + m.1 52 ((14 : Nat) : Int)
/-- so many BOUNDS are put together -/
def qBk (f : Int) (cs : List qR) (L : List qR) (g0 g : Int) (k : Nat) : Prop := qBd f cs L g0 = (qBd f cs (L.drop k) g).map (fun x => (x.1, (L.take k).map (ysub f cs) ++ x.2))
theorem qBk_0 {f : Int} {cs L : List qR} {g : Int} : qBk f cs L g g 0 := by
  unfold qBk
  simp
theorem qBk_s {f : Int} {cs L : List qR} {g0 g : Int} {k : Nat} (h : qBk f cs L g0 g k) (hk : k < L.length) (c : g + ((L.getD k []).length : Int) ≤ 6000) : qBk f cs L g0 (g + ((L.getD k []).length : Int)) (k + 1) := by
  have e : L.drop k = L.getD k [] :: L.drop (k + 1) := by rw [List.drop_eq_getElem_cons hk, List.getD_eq_getElem?_getD, List.getElem?_eq_getElem hk]; rfl
  have t : L.take (k + 1) = L.take k ++ [L.getD k []] := by rw [List.take_add_one, List.getD_eq_getElem?_getD, List.getElem?_eq_getElem hk]; rfl
  unfold qBk at h ⊢
  rw [h, e, qBd, if_neg (by omega), t]
  cases qBd f cs (L.drop (k + 1)) (g + ((L.getD k []).length : Int)) with
  | none => rfl
  | some x => simp
theorem qBk_n {f : Int} {cs L : List qR} {g0 g : Int} {k : Nat} (h : qBk f cs L g0 g k) (hk : k < L.length) (c : 6000 < g + ((L.getD k []).length : Int)) : qBd f cs L g0 = none := by
  have e : L.drop k = L.getD k [] :: L.drop (k + 1) := by rw [List.drop_eq_getElem_cons hk, List.getD_eq_getElem?_getD, List.getElem?_eq_getElem hk]; rfl
  unfold qBk at h
  rw [h, e, qBd, if_pos c]
  rfl
theorem qBk_e {f : Int} {cs L : List qR} {g0 g : Int} {k : Nat} (h : qBk f cs L g0 g k) (hk : L.length ≤ k) : qBd f cs L g0 = some (g, L.map (ysub f cs)) := by
  unfold qBk at h
  rw [h, List.drop_eq_nil_of_le hk, List.take_of_length_le hk]
  simp [qBd]
theorem qPb_l {B : yB} {p : Int} (h : 0 ≤ B.1 6 p) : ((qPb B p).length : Int) = B.1 6 p := by unfold qPb; simp; omega
theorem qPb_g {B : yB} {p i : Int} (h0 : 0 ≤ i) (h1 : i < B.1 6 p) : (qPb B p).getD i.toNat [] = (B.2 0 p i).flatten := by
  unfold qPb
  rw [List.getD_eq_getElem?_getD, List.getElem?_map, List.getElem?_range (by omega)]
  show (B.2 0 p ((i.toNat : Nat) : Int)).flatten = _
  rw [show ((i.toNat : Nat) : Int) = i by omega]
theorem tE_tl {m : zM} {A : Int → Int} {x h : Int} {l : qR} (w : tW m A) (e : tE m A x l) (hh : l.headD 0 = h) (hA : A h = 1) : tE m A (m.1 63 (m.1 61 x + 0)) l.tail := by
  obtain ⟨⟨x0, x1⟩, k, c⟩ := e
  have W := w.2.2.1 x x0 x1
  cases k with
  | zero => exact c.elim
  | succ k =>
    obtain ⟨h', as, e1, e2, e3, e5⟩ := c
    have hq : h' = h := by rw [e1] at hh; exact hh
    rw [hq, hA] at e3
    obtain ⟨a, rfl⟩ : ∃ a, as = [a] := List.length_eq_one_iff.mp (by omega)
    have q := e5 0 (by simp)
    rw [e1]
    simp only [List.flatten_cons, List.flatten_nil, List.append_nil, List.tail_cons]
    have r := W.2 0 (by omega) (by rw [e2, hq, hA]; omega)
    exact ⟨⟨r.1, by omega⟩, k, q⟩
def gk_X0_bind : zC := fun As μ Q => ∃ (a1 : Int) (a2 : Int) (a3 : Int) (t : Nat) (B : yB) (c : Int) (v : Int) (as : List (List Int)) (cs : List (List Int)), As = [.inr (.inr (52, 52)), .inl a1, .inl a2, .inl a3] ∧ (0 ≤ a2 ∧ a2 < as.length) ∧ (0 ≤ a3 ∧ a3 + 4 ≤ 164) ∧ aT μ t B ∧ aB B ∧ aSz μ ∧ tOk μ t (yar B) ∧ μ.1 52 ((7 : Nat) : Int) = t ∧ aNd μ (yar B) a1 c as ∧ (0 ≤ c ∧ c < B.1 0 0) ∧ (cs.length = as.length ∧ ∀ j : Nat, j < cs.length → tE μ (yar B) (μ.1 58 (a3 + j)) (cs.getD j [])) ∧ cs.getD a2.toNat [] = [300 + v] ∧ (0 ≤ v ∧ v < 300) ∧ μ.1 53 v = 0 ∧ tE μ (yar B) (μ.1 52 ((9 : Nat) : Int)) [0] ∧ aCn μ ∧ (∀ (μ' : zM) (bs : List qR), zfB v μ μ' → tOk μ' t (yar B) → tOd μ μ' → aCn μ' → qBd (B.1 2 c) cs (qPb B (B.1 2 c + a2)) (μ.1 52 ((14 : Nat) : Int)) = some (μ'.1 52 ((14 : Nat) : Int), bs) → aNv μ' B v (qNb (as.getD a2.toNat []) bs) → Q (some (.inl 1)) μ') ∧ (∀ (μ' : zM), zfB v μ μ' → tOk μ' t (yar B) → tOd μ μ' → qBd (B.1 2 c) cs (qPb B (B.1 2 c + a2)) (μ.1 52 ((14 : Nat) : Int)) = none → Q (some (.inl 0)) μ')
set_option maxHeartbeats 4000000 in
theorem gm_X0_bind {g : zΓ} (hg : zg g) (d : Nat) (hd : 4 ≤ d) : zOk g d 10 gk_X0_bind := by
  obtain ⟨d, rfl⟩ : ∃ d', d = d' + 1 := ⟨d - 1, by omega⟩
  refine zOk_loop hg (show mt_tab[10]? = some mt_X0_bind from rfl) ([(94, [0, 3, 4, 6, 7, 8])], []) 110 rfl fun As μ Q hC => ?_
  obtain ⟨a1, a2, a3, t, B, c, v, as, cs, rfl, ha2, ha3, hT, hB, hS, ok, h52, nd, hc, ⟨hcl, hcs⟩, hcv, hv, h53, hany, hcn, hQ, hQ0⟩ := hC
  obtain ⟨cn1, cn2, cn3, cn4⟩ := hcn
  have W := ok.2.2.2.2
  have nn := W.1
  have pp := W.2.1
  have hB21 := hT.2.1.1.2.2.1
  have bc := hT.2.1.2.1 c hc.1 hc.2
  have la : (as.length : Int) = B.1 3 c := by rw [nd.2.2.1]; unfold yar; rw [if_pos hc]
  have P80 := hB.1.1
  have ht := hT.1
  have nd1 := nd.1
  have p0 : 0 ≤ B.1 2 c + a2 ∧ B.1 2 c + a2 < B.1 0 1 := by omega
  have pb := hT.2.1.2.2 (B.1 2 c + a2) p0.1 p0.2
  have fr := hcs a2.toNat (by omega)
  rw [show ((a2.toNat : Nat) : Int) = a2 by omega, hcv] at fr
  have fr1 := fr.1
  have part := nd.2.2.2 a2.toNat (by omega)
  rw [show ((a2.toNat : Nat) : Int) = a2 by omega] at part
  have LL := qPb_l pb.2.1
  refine ⟨rfl, fun pc vs μ' n => ∃ (v8 : Int), vs = [.inr (.inr (52, 52)), .inl a3, .inl v, .inl (B.1 2 c), .inl (B.1 2 c + a2), .inl v8] ∧ (0 ≤ v8 ∧ v8 ≤ B.1 6 (B.1 2 c + a2)) ∧ zfB v μ μ' ∧ tOk μ' t (yar B) ∧ tOd μ μ' ∧ aCn μ' ∧ qBk (B.1 2 c) cs (qPb B (B.1 2 c + a2)) (μ.1 52 ((14 : Nat) : Int)) (μ'.1 52 ((14 : Nat) : Int)) v8.toNat ∧ aNv μ' B v (qUp (as.getD a2.toNat []) ++ ((qPb B (B.1 2 c + a2)).take v8.toNat).map (ysub (B.1 2 c) cs)) ∧ n = (Int.toNat (2147483648 - v8)), ?_, ?_, trivial⟩
  · refine ⟨zk_X8_at, zm_X8_at hg d (by omega), _, _, _, rfl, ⟨by omega, by omega⟩, ?_⟩
    intro x1 kx1 lx1 fx1 gx1
    have X1 : x1 = μ.1 58 (a3 + a2) := (fx1 ⟨by omega, by omega⟩).1
    refine ⟨gk_X6_head, gm_X6_head hg d (by omega), _, rfl, ⟨by omega, by omega, by omega⟩, ?_⟩
    intro x2 kx2 lx2 hx2
    have X2 : x2 = 300 + v := by rw [hx2, X1]; exact tE_60 fr
    refine ⟨gk_X6_part, gm_X6_part hg d (by omega), a1, a2, yar B, rfl, nd.1, ⟨ha2.1, by rw [nd.2.1, ← nd.2.2.1]; exact ha2.2⟩, W, ?_⟩
    intro x4 kx4 hx4
    rw [← hx4] at part
    refine ⟨gk_X6_head, gm_X6_head hg d (by omega), _, rfl, ⟨by omega, by omega, by omega⟩, ?_⟩
    intro x5 kx5 lx5 hx5
    refine And.intro ⟨⟨by omega, by omega⟩, ⟨by omega, by omega⟩⟩ (And.intro (fun c6 => ?_) (fun c6 => ?_))
    · intro t7 et7 ht7
      have q7 : t7 = t := by omega
      subst q7
      refine And.intro ht7.1 ?_
      refine ⟨gk_X6_head, gm_X6_head hg d (by omega), _, rfl, ⟨by omega, by omega, by omega⟩, ?_⟩
      intro x8 kx8 lx8 hx8
      have X8 : x8 = c := hx8.trans nd.2.1
      refine ⟨zk_X8_at, zm_X8_at hg d (by omega), _, _, _, rfl, ⟨by omega, by omega⟩, ?_⟩
      refine And.intro (zfa (o := 2) (y2 := 16) ht7.1 rfl) ?_
      intro x9 kx9 lx9 fx9 gx9
      have X9 : x9 = B.1 2 c := by rw [(fx9 ⟨by omega, by omega⟩).1, X8]; exact bc.1.2.1
      refine Exists.intro (Int.toNat (2147483648 - 0)) ?_
      have u0 : qUp (as.getD a2.toNat []) = [] := by unfold qUp; rw [if_neg (by rw [← tE_60 part, ← hx5]; omega)]
      exact ⟨0, by rw [X9, X2, show 300 + v - 300 = v by omega], ⟨by omega, by omega⟩, zfB_r v μ, ok, tOd_r μ, ⟨cn1, cn2, cn3, cn4⟩, qBk_0, by rw [u0]; exact ⟨h53, by simp, fun i hi => absurd hi (by simp)⟩, rfl⟩
    · have e5 : x5 = 201 := by omega
      refine ⟨gk_X6_part, gm_X6_part hg d (by omega), x4, 0, yar B, rfl, part.1, ⟨by omega, by rw [← hx5, e5]; unfold yar; rw [if_neg (by omega), if_pos (by omega)]; omega⟩, W, ?_⟩
      intro x11 kx11 hx11
      refine ⟨gk_X0_addBound, gm_X0_addBound hg d (by omega), _, _, rfl, ⟨by omega, by omega⟩, ⟨by omega, by omega⟩, ⟨by rw [show x2 - 300 = v by omega]; omega, by rw [show x2 - 300 = v by omega]; omega⟩, ?_⟩
      intro m12 q12 em12
      rw [show x2 - 300 = v by omega] at em12
      have e201 : (as.getD a2.toNat []).headD 0 = 201 := by rw [← tE_60 part, ← hx5]; exact e5
      have E11 : tE μ (yar B) x11 (as.getD a2.toNat []).tail := by rw [hx11]; exact tE_tl W part e201 (by unfold yar; rw [if_neg (by omega), if_pos (by omega)])
      have V12 := aNv_a (bs := []) ⟨h53, by simp, fun i hi => absurd hi (by simp)⟩ ok q12 em12 E11 (by simp)
      obtain ⟨o12, d12, n12, z12, b12, f12, -, -⟩ := aBd_o ok q12 em12 (by omega)
      intro t14 et14 ht14
      have q14 : t14 = t := by rw [f12] at et14; omega
      subst q14
      refine And.intro ht14.1 ?_
      have nd12 := aNd_o nd W d12
      refine ⟨gk_X6_head, gm_X6_head hg d (by omega), _, rfl, ⟨by omega, nd12.1.2, by omega⟩, ?_⟩
      intro x15 kx15 lx15 hx15
      have X15 : x15 = c := hx15.trans nd12.2.1
      refine ⟨zk_X8_at, zm_X8_at hg d (by omega), _, _, _, rfl, ⟨by omega, by omega⟩, ?_⟩
      refine And.intro (zfa (o := 2) (y2 := 16) ht14.1 rfl) ?_
      intro x16 kx16 lx16 fx16 gx16
      have X16 : x16 = B.1 2 c := by rw [(fx16 ⟨by omega, by omega⟩).1, X15, z12.1.2.1 (Nat.add t14 2) (by simp only [Nat.add_eq]; omega)]; exact bc.1.2.1
      refine Exists.intro (Int.toNat (2147483648 - 0)) ?_
      exact ⟨0, by rw [X16, X2, show 300 + v - 300 = v by omega], ⟨by omega, by omega⟩, z12, o12, d12, by unfold aCn; rw [f12, n12.1, n12.2]; exact ⟨cn1, cn2, cn3, cn4⟩, by rw [f12]; exact qBk_0, by unfold qUp; rw [if_pos e201]; simpa using V12, rfl⟩
  · intro vs m0 n hI
    obtain ⟨v8, rfl, hv8, z0, ok0, od0, ⟨g1, g2, g3, g4⟩, QK, NV0, rfl⟩ := hI
    have up1 : (qUp (as.getD a2.toNat [])).length ≤ 1 := by unfold qUp; split <;> simp
    have nb := NV0.1
    rw [List.length_append, List.length_map, List.length_take] at nb
    have hT0 : aT m0 t B := aT_f hT (fun j hj => z0.1.2.1 j (by omega)) z0.1.1.2
    have W0 := ok0.2.2.2.2
    have nn0 := W0.1
    have pc0 := hT0.2.1.2.2 (B.1 2 c + a2) p0.1 p0.2
    have h52' : m0.1 52 ((7 : Nat) : Int) = t := (z0.1.2.2.1 _ (by decide)).trans h52
    intro t18 et18 ht18
    have q18 : t18 = t := by omega
    subst q18
    refine And.intro ht18.1 ?_
    refine ⟨zk_X8_at, zm_X8_at hg d (by omega), _, _, _, rfl, ⟨by omega, by omega⟩, ?_⟩
    refine And.intro (zfa (o := 8) (y2 := 22) ht18.1 rfl) ?_
    intro x19 kx19 lx19 fx19 gx19
    have X19 : x19 = B.1 6 (B.1 2 c + a2) := by rw [(fx19 ⟨by omega, by omega⟩).1]; exact pc0.1.2.2
    refine And.intro ⟨⟨by omega, by omega⟩, ⟨by omega, by omega⟩⟩ (And.intro (fun c20 => ?_) (fun c20 => ?_))
    · refine ⟨zk_X8_at, zm_X8_at hg d (by omega), _, _, _, rfl, ⟨by omega, by omega⟩, ?_⟩
      intro x21 kx21 lx21 fx21 gx21
      have X21 : x21 = m0.1 53 v := (fx21 ⟨by omega, by omega⟩).1
      refine And.intro ⟨by omega, by omega⟩ (And.intro (fun c22 => ?_) (fun c22 => ?_))
      · have ee := qBk_e QK (by omega)
        rw [List.take_of_length_le (by omega)] at NV0
        refine And.intro (zrtb (by omega)) (And.intro ⟨by omega, by omega⟩ (hQ _ _ z0 ok0 od0 ⟨g1, g2, g3, g4⟩ ee ?_))
        unfold qNb
        rw [if_neg]
        · exact NV0
        · intro z
          have n0 := NV0.1
          rw [z] at n0
          have : m0.1 53 v = 0 := n0
          omega
      · intro x23 hx23 kx23 lx23
        refine ⟨gk_X0_addBound, gm_X0_addBound hg d (by omega), _, _, rfl, ⟨by omega, by omega⟩, ⟨by omega, by omega⟩, ⟨by omega, by omega⟩, ?_⟩
        intro m24 q24 em24
        have ee := qBk_e QK (by omega)
        rw [List.take_of_length_le (by omega)] at NV0
        have E23 : tE m0 (yar B) x23 [0] := by rw [hx23, z0.1.2.2.1 _ (by decide)]; exact tE_old od0 W hany
        have nil : qUp (as.getD a2.toNat []) ++ (qPb B (B.1 2 c + a2)).map (ysub (B.1 2 c) cs) = [] := List.eq_nil_of_length_eq_zero (by have n0 := NV0.1; omega)
        rw [nil] at NV0
        have V24 := aNv_a NV0 ok0 q24 em24 E23 (by simp)
        obtain ⟨o24, d24, n24, z24, b24, f24, -, -⟩ := aBd_o ok0 q24 em24 (by omega)
        exact And.intro (zrtb (by omega)) (And.intro ⟨by omega, by omega⟩ (hQ _ _ (zfB_t z0 z24) o24 (tOd_t od0 d24) (by unfold aCn; rw [f24, n24.1, n24.2]; exact ⟨g1, g2, g3, g4⟩) (by rw [f24]; exact ee) (by unfold qNb; rw [if_pos nil]; exact V24)))
    · obtain ⟨r1, r2, r3, r4⟩ := hT0.2.2.1.2 (B.1 2 c + a2) v8 p0.1 p0.2 hv8.1 (by omega)
      have y1 := (hB.2.2.1.2 (B.1 2 c + a2) v8 p0.1 p0.2 hv8.1 (by omega)).1
      have y2 := hB.2.2.2.1 c (B.1 2 c + a2) hc.1 hc.2 (by omega) (by omega) v8 hv8.1 (by omega)
      intro t28 et28 ht28
      have q28 : t28 = t18 := by omega
      subst q28
      refine And.intro ht18.1 ?_
      refine ⟨zk_X8_at, zm_X8_at hg d (by omega), _, _, _, rfl, ⟨by omega, by omega⟩, ?_⟩
      refine And.intro (zfa (o := 10) (y2 := 24) ht18.1 rfl) ?_
      intro x29 kx29 lx29 fx29 gx29
      have X29 : x29 = ((B.2 0 (B.1 2 c + a2) v8).flatten.length : Int) := by rw [(fx29 ⟨by omega, by omega⟩).1]; exact r1
      have gr : (qPb B (B.1 2 c + a2)).getD v8.toNat [] = (B.2 0 (B.1 2 c + a2) v8).flatten := qPb_g hv8.1 (by omega)
      refine ⟨gk_X0_count, gm_X0_count hg d (by omega), _, rfl, ⟨by omega, by omega⟩, ⟨by omega, by omega⟩, ?_, fun ful => ?_⟩
      rotate_left
      · refine And.intro ⟨by omega, by omega⟩ (And.intro (fun c33 => by exfalso; omega) (fun c33 => ?_))
        exact And.intro (zrtb (by omega)) (And.intro ⟨by omega, by omega⟩ (hQ0 _ z0 ok0 od0 (qBk_n QK (by omega) (by rw [gr]; omega))))
      intro m31 fit q31 em31
      obtain ⟨o31, d31, n31⟩ := tOk_g ok0 (m' := m31) (fun i hi => by rw [em31, zu_ne (by omega)])
      have z31 : zfB v m0 m31 := zfB_c q31 em31
      have t31 : m31.1 52 ((14 : Nat) : Int) = m0.1 52 ((14 : Nat) : Int) + x29 := by rw [em31, zu_at]
      have b31 : m31.1 53 v = m0.1 53 v := by rw [em31, zu_ne (by decide)]
      have hT31 : aT m31 t28 B := aT_f hT0 (fun j hj => z31.1.2.1 j (by omega)) z31.1.1.2
      have h52'' : m31.1 52 ((7 : Nat) : Int) = t28 := (z31.1.2.2.1 _ (by decide)).trans h52'
      refine And.intro ⟨by omega, by omega⟩ (And.intro (fun c33 => ?_) (fun c33 => ?_))
      · intro t34 et34 ht34
        have q34 : t34 = t28 := by omega
        subst q34
        refine And.intro ht18.1 ?_
        intro t35 et35 ht35
        have q35 : t35 = t34 := by omega
        subst q35
        refine And.intro ht18.1 ?_
        refine ⟨zk_X8_at, zm_X8_at hg d (by omega), _, _, _, rfl, ⟨by omega, by omega⟩, ?_⟩
        refine And.intro (zfa (o := 9) (y2 := 23) ht18.1 rfl) ?_
        intro x36 kx36 lx36 fx36 gx36
        have X36 : x36 = m0.1 (Nat.add t35 9) ((B.1 2 c + a2) * 2 + v8) := by rw [(fx36 ⟨by omega, by omega⟩).1, em31, zu_ne (by simp only [Nat.add_eq]; omega)]
        have L3 : m31.2 (Nat.add t35 11) = 300 := by
          rw [z31.1.1.2, z0.1.1.2]
          rcases ht18.1 with rfl | rfl
          · exact hS.2.1
          · exact hS.2.2.1
        have R4 : yRow m31 (Nat.add t35 11) x36 (B.2 0 (B.1 2 c + a2) v8).flatten := by rw [X36]; exact yRow_e r4 (by rw [em31, zu_ne (by simp only [Nat.add_eq]; omega)])
        have od31 := tOd_t od0 d31
        refine ⟨_, zOk_tag (gm_X6_put hg d (by omega)), [.inr (.inr (59, 59)), .inr (.inr ((Nat.add t35 11), 1001)), .inl x36, .inl x29, .inr (.inr (58, 1001)), .inl a3, .inl (B.1 2 c)], rfl, _, _, _, 58, a3, B.1 2 c, t35, yar B, (B.2 0 (B.1 2 c + a2) v8).flatten, cs, rfl, (zIa_f (zfa (o := 11) (y2 := 25) ht18.1 rfl) (by decide) (by decide)), ⟨by omega, by omega⟩, ⟨X29, by omega⟩, (Or.inr ⟨by decide, by decide⟩), ⟨by omega, by omega⟩, ⟨by omega, by omega⟩, ⟨Or.inl (by simp only [Nat.add_eq]; omega), Or.inl (by decide)⟩, by rw [L3]; omega, R4, y1, o31, ⟨by omega, by omega⟩, (fun h hm h1 h2 => ?_), ?_⟩
        · have y := y2 h hm h1 h2
          refine ⟨yar_n hB21.2 (by omega) (by omega) (by omega), ⟨by omega, by rw [z31.1.1.2, z0.1.1.2, hS.1.2.1]; omega⟩, ?_⟩
          have f := hcs (h - 32 - B.1 2 c).toNat (by omega)
          rw [show (((h - 32 - B.1 2 c).toNat : Nat) : Int) = h - 32 - B.1 2 c by omega] at f
          rw [show m31.1 58 = μ.1 58 by rw [em31, zu_ne (by decide), z0.2.1.1]]
          exact tE_old od31 W f
        · intro x37 m38 q38 o38 d38 c38 e38
          have n38 := e38.1
          have k38 := o38.2.2.2.2.1
          have b38 : m38.1 53 = m31.1 53 := q38.2.1 53 (by omega)
          have t38 : m38.1 52 = m31.1 52 := q38.2.1 52 (by omega)
          have NV38 : aNv m38 B v (qUp (as.getD a2.toNat []) ++ ((qPb B (B.1 2 c + a2)).take v8.toNat).map (ysub (B.1 2 c) cs)) := aNv_o (aNv_o NV0 W0 d31 b31 (fun k _ _ => by rw [em31, zu_ne (by decide)])) o31.2.2.2.2 d38 (by rw [b38]) (fun k _ _ => by rw [q38.2.1 54 (by omega)])
          refine ⟨gk_X0_addBound, gm_X0_addBound hg d (by omega), _, _, rfl, ⟨by omega, by omega⟩, ⟨by omega, by omega⟩, by rw [b38, b31]; exact ⟨by omega, by omega⟩, ?_⟩
          intro m41 q41 em41
          have V41 := aNv_a NV38 o38 q41 em41 e38 (by rw [List.length_append, List.length_map, List.length_take]; omega)
          obtain ⟨o41, d41, n41, z41, b41, f41, -, -⟩ := aBd_o o38 q41 em41 (by rw [b38, b31]; omega)
          have e1 : m41.1 52 ((14 : Nat) : Int) = m0.1 52 ((14 : Nat) : Int) + (((qPb B (B.1 2 c + a2)).getD v8.toNat []).length : Int) := by rw [f41, t38, t31, gr, X29]
          have e0 : m41.1 52 ((13 : Nat) : Int) = m0.1 52 ((13 : Nat) : Int) := by rw [f41, t38, em31, zu_nk (by decide)]
          have tk : (qPb B (B.1 2 c + a2)).take (v8 + 1).toNat = (qPb B (B.1 2 c + a2)).take v8.toNat ++ [(qPb B (B.1 2 c + a2)).getD v8.toNat []] := by rw [show (v8 + 1).toNat = v8.toNat + 1 by omega, List.take_add_one, List.getD_eq_getElem?_getD, List.getElem?_eq_getElem (by omega)]; rfl
          have cn41 : aCn m41 := by unfold aCn; rw [e1, e0, n41.1, n41.2, gr]; refine ⟨g1, ⟨by omega, by omega⟩, by omega, by omega⟩
          refine Exists.intro (Int.toNat (2147483648 - (v8 + 1))) (And.intro (by omega) ?_)
          exact ⟨_, rfl, ⟨by omega, by omega⟩, zfB_t (zfB_t (zfB_t z0 z31) (zfB_P q38)) z41, o41, tOd_t od31 (tOd_t d38 d41), cn41, by rw [e1, show (v8 + 1).toNat = v8.toNat + 1 by omega]; exact qBk_s QK (by omega) (by rw [gr]; omega), by rw [tk, List.map_append, List.map_cons, List.map_nil, gr, ← List.append_assoc]; exact V41, rfl⟩
      · exfalso; omega
