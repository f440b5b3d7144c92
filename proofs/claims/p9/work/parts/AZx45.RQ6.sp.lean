/-! ### the steps of a question -/
theorem rV1_fn {m : zM} {v : Int} {b b' : List qR × qR} (h : rV1 m v b) (h' : rV1 m v b') : b = b' := by
  obtain ⟨⟨h1, h2⟩, h3⟩ := h
  obtain ⟨⟨g1, g2⟩, g3⟩ := h'
  have e1 : b.1 = b'.1 := by
    apply List.ext_getElem (by omega)
    intro i a c
    have p := h2 i a
    have q := g2 i c
    rw [List.getD_eq_getElem?_getD, List.getElem?_eq_getElem a] at p
    rw [List.getD_eq_getElem?_getD, List.getElem?_eq_getElem c] at q
    exact rEf_fn p q
  have e2 : b.2 = b'.2 := by
    rcases h3 with ⟨p, q⟩ | ⟨p, q⟩
    · rcases g3 with ⟨p', q'⟩ | ⟨p', q'⟩
      · rw [p, p']
      · exfalso; omega
    · rcases g3 with ⟨p', q'⟩ | ⟨p', q'⟩
      · exfalso; omega
      · exact rEf_fn q q'
  exact Prod.ext e1 e2
theorem rVs_g {μ m : zM} {C Pn tt : Int} {S S' : qS} (h : rVs μ S) (h' : rVs m S') (hQ : zQI μ C Pn tt) (hx : zQx μ m) {k : Nat} (hk : k < S.2.2.length) : S'.2.2.getD k ([], []) = S.2.2.getD k ([], []) := by
  have l1 := h.1.2.2
  have l2 := h'.1.2.2
  have l3 := hx.2.2.1.1
  have a := rV1_x (h.2 k hk).1 hQ (by omega) (by omega) hx.1 (hx.2.2.2.2.2 k (by omega) (by omega))
  have b := (h'.2 k (by omega)).1
  exact rV1_fn b a
theorem rHf_v {m : zM} {C Pn tt x h : Int} (hQ : zQI m C Pn tt) (x0 : 0 ≤ x) (x1 : x < zTop m) (hh : rHf m x h) (h3 : 300 ≤ h) : m.1 67 x = 2 ∧ m.1 68 x = h - 300 ∧ h - 300 < m.1 66 ((45 : Nat) : Int) := by
  have w := (hQ.2.2.2.2.1 x x0 x1).2.2.2.1
  unfold rHf rHd at hh
  have k : m.1 67 x = 2 ∧ h = 300 + m.1 68 x := by omega
  have := (w k.1).1
  exact ⟨k.1, by omega, by omega⟩
theorem rVs_Bo {μ m : zM} {C Pn tt : Int} {S S' : qS} (B : yB) (h : rVs μ S) (h' : rVs m S') (hQ : zQI μ C Pn tt) (hx : zQx μ m) {x : Int} {s : qR} (x0 : 0 ≤ x) (x1 : x < zTop μ) (E : rEf μ x s) : qBo B S' s = qBo B S s := by
  unfold qBo
  by_cases q : 300 ≤ s.headD 0
  · have w := rHf_v hQ x0 x1 (rEf_hd E) q
    have l1 := h.1.2.2
    rw [if_pos q, if_pos q, rVs_g h h' hQ hx (by omega)]
  · rw [if_neg q, if_neg q]
/-- the BOUNDS of a variable, as nodes -/
theorem rBo {m : zM} {B : yB} {C Pn tt x : Int} {S : qS} {s : qR} (hT : rQt m B C Pn tt) (hQ : zQI m C Pn tt) (hV : rVs m S) (x0 : 0 ≤ x) (x1 : x < zTop m) (hk : m.1 67 x = 1 ∨ m.1 67 x = 2) (hb : 1 ≤ zbn m x) (E : rEf m x s) : ((qBo B S s).length : Int) = zbn m x ∧ ∀ i : Int, 0 ≤ i → i < zbn m x → rEf m (zbo m x i) ((qBo B S s).getD i.toNat []) := by
  have H := rEf_hd E
  have W := hQ.2.2.2.2.1 x x0 x1
  rcases hk with hk | hk
  · have h1 : s.headD 0 = 32 + m.1 68 x ∧ 0 ≤ m.1 68 x ∧ m.1 68 x < 80 := by unfold rHf rHd at H; omega
    have w := (W.2.2.1 hk).1
    have p4 := hT.2.2.1.2.2.2 (m.1 68 x) (by omega) (by rw [← hT.1.2]; omega)
    have k2 : ¬ m.1 67 x = 2 := by omega
    have eo : qBo B S s = if qPb B (m.1 68 x) = [] then [[0]] else qPb B (m.1 68 x) := by
      unfold qBo
      rw [if_neg (show ¬ 300 ≤ s.headD 0 by omega), h1.1, show 32 + m.1 68 x - 32 = m.1 68 x by omega]
    have en : zbn m x = if m.1 84 (m.1 68 x) = 0 then 1 else m.1 84 (m.1 68 x) := by unfold zbn; rw [if_neg k2]
    have ez : ∀ i : Int, zbo m x i = if m.1 84 (m.1 68 x) = 0 then m.1 80 0 else m.1 83 (2 * m.1 68 x + i) := fun i => by unfold zbo; rw [if_neg k2]
    have ln : ((qPb B (m.1 68 x)).length : Int) = ((B.1 6 (m.1 68 x)).toNat : Int) := by unfold qPb; rw [List.length_map, List.length_range]
    by_cases q : m.1 84 (m.1 68 x) = 0
    · have e0 : qPb B (m.1 68 x) = [] := List.eq_nil_of_length_eq_zero (by omega)
      rw [if_pos q] at en
      rw [eo, if_pos e0, en]
      refine ⟨rfl, fun i a b => ?_⟩
      rw [ez, if_pos q, show i.toNat = 0 by omega]
      exact rEf_of hT.2.2.2.1.2
    · rw [if_neg q] at en
      have e0 : ¬ qPb B (m.1 68 x) = [] := fun z => by rw [z] at ln; simp at ln; omega
      rw [eo, if_neg e0, en]
      refine ⟨by omega, fun i a b => ?_⟩
      rw [ez, if_neg q, qPb_g a (by omega)]
      exact rEf_of (hT.2.2.1.2.1 (m.1 68 x) i (by omega) (by rw [← hT.1.2]; omega) a (by omega)).2
  · have h1 : s.headD 0 = 300 + m.1 68 x ∧ 0 ≤ m.1 68 x := by unfold rHf rHd at H; omega
    have w := (W.2.2.2.1 hk).1
    have l1 := hV.1.2.2
    obtain ⟨⟨⟨v1, v2⟩, v3⟩, v4⟩ := hV.2 (m.1 68 x).toNat (by omega)
    rw [show (((m.1 68 x).toNat : Nat) : Int) = m.1 68 x by omega] at v1 v2
    have eo : qBo B S s = (S.2.2.getD (m.1 68 x).toNat ([], [])).1 := by
      unfold qBo
      rw [if_pos (show 300 ≤ s.headD 0 by omega), h1.1, show 300 + m.1 68 x - 300 = m.1 68 x by omega]
    have ne : ¬ m.1 89 (m.1 68 x) = 0 := fun z => v4 (List.eq_nil_of_length_eq_zero (by omega))
    have en : zbn m x = m.1 89 (m.1 68 x) := by unfold zbn; rw [if_pos hk, if_neg ne]
    have ez : ∀ i : Int, zbo m x i = m.1 88 (3 * m.1 68 x + i) := fun i => by unfold zbo; rw [if_pos hk, if_neg ne]
    rw [eo, en]
    refine ⟨v1, fun i a b => ?_⟩
    rw [ez]
    have := v2 i.toNat (by omega)
    rw [show ((i.toNat : Nat) : Int) = i by omega] at this
    exact this
/-- a question that waits -/
def rFk (m : zM) (B : yB) (S : qS) (q : Int) (k : qK) : Prop := (((k.1 : Nat) : Int) = m.1 93 q ∧ 1 ≤ k.1 ∧ k.1 ≤ 3) ∧ (rEf m (m.1 91 q) k.2.1 ∧ rEf m (m.1 92 q) k.2.2.1) ∧ (k.1 = 2 → k.2.2.2.1 = (qBo B S k.2.1).drop (m.1 94 q).toNat) ∧ (k.1 = 3 → ∃ qs : List qR, ((qs.length : Int) = m.1 69 (m.1 95 q) ∧ ∀ j : Nat, j < qs.length → rEf m (m.1 70 (4 * m.1 95 q + j)) (qs.getD j [])) ∧ k.2.2.2.1 = qs.drop (m.1 94 q).toNat ∧ k.2.2.2.2 = (qPa (yar B) k.2.2.1).drop (m.1 94 q).toNat)
theorem rFk_x {μ m : zM} {C Pn tt q : Int} {B : yB} {S S' : qS} {k : qK} (h : rFk μ B S q k) (hF : zFq μ q) (hV : rVs μ S) (hV' : rVs m S') (hQ : zQI μ C Pn tt) (hx : zQx μ m) (hc : ∀ j : Nat, 91 ≤ j → j ≤ 95 → m.1 j q = μ.1 j q) : rFk m B S' q k := by
  obtain ⟨⟨h1, h2, h3⟩, ⟨h4, h5⟩, h6, h7⟩ := h
  have nd := hQ.1.2.1
  refine ⟨⟨by rw [hc 93 (by decide) (by decide)]; exact h1, h2, h3⟩, ⟨by rw [hc 91 (by decide) (by decide)]; exact rEf_old hx.1 nd hF.1.1.1 hF.1.1.2 h4, by rw [hc 92 (by decide) (by decide)]; exact rEf_old hx.1 nd hF.2.1.1.1 hF.2.1.1.2 h5⟩, fun e => by rw [hc 94 (by decide) (by decide), rVs_Bo B hV hV' hQ hx hF.1.1.1 hF.1.1.2 h4]; exact h6 e, fun e => ?_⟩
  obtain ⟨qs, ⟨g1, g2⟩, g3, g4⟩ := h7 e
  have ct := (hF.2.2.2 (by omega)).1
  have o := hx.1 (μ.1 95 q) ct.1.1 ct.1.2
  have ndq := nd _ ct.1.1 ct.1.2
  rw [hc 94 (by decide) (by decide), hc 95 (by decide) (by decide)]
  refine ⟨qs, ⟨by rw [o.2.2.1]; exact g1, fun j hj => ?_⟩, g3, g4⟩
  have n1 := ndq.1.2
  have n2 := ndq.2.1 j (by omega) (by omega)
  rw [o.2.2.2.2 j (by omega) (by omega)]
  exact rEf_old hx.1 nd n2.1 (by have := ct.1.2; omega) (g2 j hj)
/-- the pile, the newest first -/
def rPl (m : zM) (B : yB) (S : qS) : List qK → Prop
  | [] => True
  | k :: ks => rFk m B S (ks.length : Int) k ∧ rPl m B S ks
def rKe (μ m : zM) (d : Int) : Prop := ∀ q : Int, 0 ≤ q → q < d → ∀ j : Nat, 91 ≤ j → j ≤ 95 → m.1 j q = μ.1 j q
theorem rKe_r (μ : zM) (d : Int) : rKe μ μ d := fun _ _ _ _ _ _ => rfl
theorem rKe_t {a b c : zM} {d : Int} (h1 : rKe a b d) (h2 : rKe b c d) : rKe a c d := fun q x y j u w => (h2 q x y j u w).trans (h1 q x y j u w)
theorem rPl_x {μ m : zM} {C Pn tt : Int} {B : yB} {S S' : qS} (hV : rVs μ S) (hV' : rVs m S') (hQ : zQI μ C Pn tt) (hx : zQx μ m) : ∀ (ks : List qK), zFs μ (ks.length : Int) → rKe μ m (ks.length : Int) → rPl μ B S ks → rPl m B S' ks
  | [], _, _, _ => trivial
  | k :: ks, hF, hK, h => by
    have e : (((k :: ks).length : Nat) : Int) = (ks.length : Int) + 1 := by rw [List.length_cons]; omega
    rw [e] at hF hK
    exact ⟨rFk_x h.1 (hF ks.length (by omega) (by omega)).1 hV hV' hQ hx (hK ks.length (by omega) (by omega)), rPl_x hV hV' hQ hx ks (zFs_down hF (by omega)) (fun q a b => hK q a (by omega)) h.2⟩
/-- what a step at depth d leaves -/
def rSp (B : yB) (u : Int) (m : zM) (d v : Int) (R : qS × Int) : Prop := (v = 0 ∨ v = 1 → ∃ S, rVs m S ∧ R = (S, v)) ∧ (v = 3 → R.2 = m.1 66 ((76 : Nat) : Int) ∧ R.2 < 0) ∧ (v = 2 → ∃ (k : qK) (S : qS) (s t : qR), rVs m S ∧ rFk m B S d k ∧ (rEf m (m.1 91 (d + 1)) s ∧ rEf m (m.1 92 (d + 1)) t) ∧ d ≤ 38 ∧ R = qKr B (qB B u (39 - d).toNat) k (qIn B u (38 - d).toNat S s t))
def rSt (B : yB) (u C Pn tt : Int) (μ m : zM) (d v : Int) (R : qS × Int) : Prop := (v ≠ 3 → rQt m B C Pn tt ∧ zUq m 0 ∧ rKe μ m d) ∧ rSp B u m d v R
theorem rSt_01 {B : yB} {u C Pn tt d v : Int} {μ m : zM} {S : qS} {R : qS × Int} (hv : v = 0 ∨ v = 1) (hT : rQt m B C Pn tt) (hU : zUq m 0) (hK : rKe μ m d) (hV : rVs m S) (e : R = (S, v)) : rSt B u C Pn tt μ m d v R := ⟨fun _ => ⟨hT, hU, hK⟩, fun _ => ⟨S, hV, e⟩, fun h => by omega, fun h => by omega⟩
theorem rSt_l {B : yB} {u C Pn tt d v : Int} {μ m m' : zM} {R : qS × Int} (h : rSt B u C Pn tt m m' d v R) (hK : rKe μ m d) : rSt B u C Pn tt μ m' d v R := ⟨fun q => ⟨(h.1 q).1, (h.1 q).2.1, rKe_t hK (h.1 q).2.2⟩, h.2⟩
theorem rSt_3 {B : yB} {u C Pn tt d : Int} {μ m : zM} {R : qS × Int} (h : R.2 = m.1 66 ((76 : Nat) : Int)) (h0 : R.2 < 0) : rSt B u C Pn tt μ m d 3 R := ⟨fun q => absurd rfl q, fun q => by omega, fun _ => ⟨h, h0⟩, fun q => by omega⟩
/-- one more question -/
theorem rSt_ask {μ m m' : zM} {B : yB} {C Pn tt d u v a1 a2 : Int} {S : qS} {k : qK} {s t : qR} (hT : rQt m B C Pn tt) (hQ : zQI m C Pn tt) (hU : zUq m 0) (hV : rVs m S) (hK : rKe μ m d) (hd : 0 ≤ d ∧ d ≤ 39) (h74 : m.1 66 ((74 : Nat) : Int) = d + 1) (hF : rFk m B S d k) (hf : zFq m d) (n1 : zTy m a1) (n2 : zTy m a2) (e1 : rEf m a1 s) (e2 : rEf m a2 t) (hu : m.1 66 ((75 : Nat) : Int) = u) (hb : m.1 66 ((46 : Nat) : Int) ≤ m.1 66 ((75 : Nat) : Int))
    (z : zfx [91, 92, 93] [46, 47, 74, 76] m m') (p0 : (v = 0 ∧ m'.1 66 ((74 : Nat) : Int) = m.1 66 ((74 : Nat) : Int) ∧ m'.1 66 ((46 : Nat) : Int) = m.1 66 ((46 : Nat) : Int)) ∨ (v = 1 ∧ m'.1 66 ((74 : Nat) : Int) = m.1 66 ((74 : Nat) : Int) + 1 ∧ m'.1 66 ((46 : Nat) : Int) = m.1 66 ((46 : Nat) : Int) + 1)) (p1 : ∀ q : Int, q ≠ m.1 66 ((74 : Nat) : Int) → m'.1 91 q = m.1 91 q ∧ m'.1 92 q = m.1 92 q ∧ m'.1 93 q = m.1 93 q) (p2 : v = 1 → m'.1 91 (m.1 66 ((74 : Nat) : Int)) = a1 ∧ m'.1 92 (m.1 66 ((74 : Nat) : Int)) = a2 ∧ m'.1 93 (m.1 66 ((74 : Nat) : Int)) = 0)
    (p3 : v = 0 → m'.1 66 ((76 : Nat) : Int) = (if m.1 66 ((46 : Nat) : Int) = m.1 66 ((75 : Nat) : Int) then -3 else -2) ∧ (m.1 66 ((46 : Nat) : Int) = m.1 66 ((75 : Nat) : Int) ∨ m.1 66 ((74 : Nat) : Int) = 40)) (p4 : v = 1 → m.1 66 ((46 : Nat) : Int) < m.1 66 ((75 : Nat) : Int) ∧ m.1 66 ((74 : Nat) : Int) < 40) : (v = 0 → rSt B u C Pn tt μ m' d 3 (qKr B (qB B u (39 - d).toNat) k (qB B u (39 - d).toNat S s t))) ∧ (v = 1 → rSt B u C Pn tt μ m' d 2 (qKr B (qB B u (39 - d).toNat) k (qB B u (39 - d).toNat S s t))) := by
  have s1 := hV.1.1
  have cz : ∀ j : Nat, j ≠ 66 → j ≠ 91 → j ≠ 92 → j ≠ 93 → m'.1 j = m.1 j := fun j a b c e => z.1 j a (zanyF (by simp <;> omega))
  have hx : zQx m m' := zQx_same (fun j a b => cz j (by omega) (by omega) (by omega) (by omega)) (fun j a b => cz j (by omega) (by omega) (by omega) (by omega)) (z.2.1 8 rfl) (z.2.1 45 rfl) (z.2.1 48 rfl) (z.2.1 60 rfl)
  have ce : ∀ q : Int, q ≠ d + 1 → ∀ j : Nat, 91 ≤ j → j ≤ 95 → m'.1 j q = m.1 j q := fun q hq j a b => by
    have w := p1 q (by omega)
    rcases (show j = 91 ∨ j = 92 ∨ j = 93 ∨ j = 94 ∨ j = 95 by omega) with e | e | e | e | e
    · rw [e]; exact w.1
    · rw [e]; exact w.2.1
    · rw [e]; exact w.2.2
    · rw [e, cz 94 (by decide) (by decide) (by decide) (by decide)]
    · rw [e, cz 95 (by decide) (by decide) (by decide) (by decide)]
  refine ⟨fun e => ?_, fun e => ?_⟩
  · obtain ⟨q1, q2⟩ := p3 e
    have r : qB B u (39 - d).toNat S s t = (S, m'.1 66 ((76 : Nat) : Int)) ∧ m'.1 66 ((76 : Nat) : Int) < 0 := by
      by_cases c : u ≤ S.1
      · rw [q1, if_pos (by omega)]
        refine ⟨?_, by decide⟩
        cases (39 - d).toNat with
        | zero => rw [qB, if_pos c]
        | succ j => rw [qB, if_pos c]
      · rw [q1, if_neg (by omega), show (39 - d).toNat = 0 by omega]
        refine ⟨?_, by decide⟩
        rw [qB, if_neg c]
    rw [r.1, qKr_n r.2]
    exact rSt_3 rfl r.2
  · obtain ⟨q1, q2⟩ := p4 e
    obtain ⟨w1, w2, w3⟩ := p2 e
    rw [h74] at w1 w2
    have r : qB B u (39 - d).toNat S s t = qIn B u (38 - d).toNat (S.1 + 1, S.2) s t := by
      rw [show (39 - d).toNat = (38 - d).toNat + 1 by omega, qB_in, if_neg (by omega)]
    have hV' : rVs m' (S.1 + 1, S.2) := ⟨⟨by show S.1 + 1 = _; omega, by rw [z.2.1 48 rfl]; exact hV.1.2.1, by rw [z.2.1 45 rfl]; exact hV.1.2.2⟩, show rVn m' S.2.2 from rVn_x hV.2 hQ (by have := hV.1.2.2; omega) hx.1 (fun v a b => hx.2.2.2.2.2 v a (by have := hV.1.2.2; omega))⟩
    have nd := hQ.1.2.1
    refine ⟨fun _ => ⟨rQt_x hT hQ hx.1 (fun j a b => cz j (by omega) (by omega) (by omega) (by omega)), zUq_c hU (fun j a b => cz j (by omega) (by omega) (by omega) (by omega)) (z.2.1 8 rfl), fun q a b j c f => (ce q (by omega) j c f).trans (hK q a b j c f)⟩, fun h => by omega, fun h => by omega, fun _ => ⟨k, (S.1 + 1, S.2), s, t, hV', rFk_x hF hf hV hV' hQ hx (fun j a b => ce d (by omega) j a b), ⟨by rw [w1]; exact rEf_old hx.1 nd n1.1.1 n1.1.2 e1, by rw [w2]; exact rEf_old hx.1 nd n2.1.1 n2.1.2 e2⟩, by omega, by rw [r]⟩⟩
theorem qAs_nil {f : qF} {l : List qR} {S : qS} : qAs f [] l S = (S, 1) := by unfold qAs; rfl
theorem drop_g {l : List qR} {i : Int} (i0 : 0 ≤ i) (h : i.toNat < l.length) : l.drop i.toNat = l.getD i.toNat [] :: l.drop (i + 1).toNat := by
  rw [List.drop_eq_getElem_cons h, show (i + 1).toNat = i.toNat + 1 by omega, List.getD_eq_getElem?_getD, List.getElem?_eq_getElem h]
  rfl
