/-! ### the class writes a TYPE -/
def gk_X2_writeHead : zC := fun As μ Q => ∃ (a1 : Nat) (a2 : Int) (B : yB), As = [.inr (.inr (10, 10)), .inr (.inr (a1, 14)), .inl a2] ∧ (a1 = 14 ∨ a1 = 32) ∧ yRB μ a1 B ∧ yhv B a2 ∧ (0 ≤ pL μ ∧ pL μ ≤ 1000) ∧ (∀ (μ' : zM), zfG μ μ' → pL μ' = pM (pL μ + yhc B a2) → Q none μ')
set_option maxHeartbeats 4000000 in
theorem gm_X2_writeHead {g : zΓ} (hg : zg g) (d : Nat) (hd : 4 ≤ d) : zOk g d 32 gk_X2_writeHead := by
  obtain ⟨d, rfl⟩ : ∃ d', d = d' + 1 := ⟨d - 1, by omega⟩
  refine zOk_straight hg (show mt_tab[32]? = some mt_X2_writeHead from rfl) [] 54 rfl fun As μ Q hC => ?_
  obtain ⟨a1, a2, B, rfl, ha1, hR, hv, hp, hQ⟩ := hC
  have b1 := hR.1
  have hvb : 0 ≤ a2 ∧ a2 < 600 := by unfold yhv at hv; omega
  refine ⟨rfl, ?_⟩
  refine ⟨gk_X8_isWild, gm_X8_isWild hg d (by omega), _, rfl, ⟨by omega, by omega⟩, ?_⟩
  intro x1 kx1 lx1 p1
  refine And.intro ⟨by omega, by omega⟩ (And.intro (fun c2 => ?_) (fun c2 => ?_))
  · have nw : ¬ (200 ≤ a2 ∧ a2 ≤ 202) := by rcases p1 with q | q; (exfalso; have := q.1; omega); exact q.2
    refine And.intro ⟨⟨by omega, by omega⟩, ⟨by omega, by omega⟩⟩ (And.intro (fun c3 => ?_) (fun c3 => ?_))
    · refine ⟨yk_X8_isParameter, ym_X8_isParameter hg d (by omega), _, rfl, ⟨by omega, by omega⟩, ?_⟩
      intro x4 kx4 lx4 p4
      refine And.intro ⟨by omega, by omega⟩ (And.intro (fun c5 => ?_) (fun c5 => ?_))
      · have np : ¬ (32 ≤ a2 ∧ a2 < 112) := by rcases p4 with q | q; (exfalso; have := q.1; omega); exact q.2
        have hc : 0 ≤ a2 ∧ a2 < B.1 0 0 := by unfold yhv at hv; omega
        refine And.intro ha1 ?_
        refine ⟨zk_X8_nameAt, zm_X8_nameAt hg d (by omega), _, _, _, rfl, ⟨by omega, by omega⟩, by decide, (zfa (o := 1) (y2 := 15) ha1 rfl), ?_⟩
        intro j6 hj6
        have J6 : j6.toInt = B.1 1 a2 := by rw [hj6 (by omega) (by rw [if_pos rfl]; omega)]; exact (hR.2.1 a2 hc.1 hc.2).1.1
        refine ⟨gk_X2_writeName, gm_X2_writeName hg d (by omega), _, rfl, hp, ?_⟩
        intro m7 z7 l7
        exact And.intro rfl (hQ _ z7 (by rw [l7, yNw_e J6]; unfold yhc; rw [if_pos hc]))
      · have np : 32 ≤ a2 ∧ a2 < 112 := by rcases p4 with q | q; exact q.2; (exfalso; have := q.1; omega)
        have hc : 0 ≤ a2 - 32 ∧ a2 - 32 < B.1 0 1 := by unfold yhv at hv; omega
        refine And.intro ha1 ?_
        refine ⟨zk_X8_nameAt, zm_X8_nameAt hg d (by omega), _, _, _, rfl, ⟨by omega, by omega⟩, by decide, (zfa (o := 6) (y2 := 20) ha1 rfl), ?_⟩
        intro j11 hj11
        have J11 : j11.toInt = B.1 5 (a2 - 32) := by rw [hj11 (by omega) (by rw [if_neg (by decide)]; omega)]; exact (hR.2.2 (a2 - 32) hc.1 hc.2).1.1
        refine ⟨gk_X2_writeName, gm_X2_writeName hg d (by omega), _, rfl, hp, ?_⟩
        intro m12 z12 l12
        exact And.intro rfl (hQ _ z12 (by rw [l12, yNw_e J11]; unfold yhc; rw [if_neg (by omega), if_pos np]))
    · refine ⟨gk_X2_write, gm_X2_write hg d (by omega), _, rfl, ⟨by omega, by omega⟩, hp, ?_⟩
      intro m15 z15 l15
      refine ⟨gk_X2_writeNumber, gm_X2_writeNumber hg d (by omega), _, rfl, ⟨by omega, by omega⟩, by rw [l15]; exact pM_b (by omega), ?_⟩
      intro m18 z18 l18
      refine And.intro rfl (hQ _ (zfG_t z15 z18) ?_)
      have dp := ydg_p (a2 - 300)
      rw [l18, l15, pM_a (by omega)]
      unfold yhc
      rw [if_neg (by omega), if_neg (by omega), if_neg (by omega), if_neg (by omega)]
      exact congrArg pM (by omega)
  · have nw : 200 ≤ a2 ∧ a2 ≤ 202 := by rcases p1 with q | q; exact q.2; (exfalso; have := q.1; omega)
    refine ⟨gk_X2_write, gm_X2_write hg d (by omega), _, rfl, ⟨by omega, by omega⟩, hp, ?_⟩
    intro m21 z21 l21
    refine And.intro ⟨⟨by omega, by omega⟩, ⟨by omega, by omega⟩⟩ (And.intro (fun c24 => ?_) (fun c24 => ?_))
    · exact And.intro rfl (hQ _ z21 (by rw [l21]; unfold yhc; rw [if_neg (by omega), if_neg (by omega), if_pos (by omega)]))
    · have fin : ∀ m : zM, pL m = pM (pL m21 + 1) → pL m = pM (pL μ + yhc B a2) := fun m l => by
        rw [l, l21, pM_a (by omega)]
        unfold yhc
        rw [if_neg (by omega), if_neg (by omega), if_neg (by omega), if_pos (by omega)]
        exact congrArg pM (by omega)
      refine And.intro ⟨⟨by omega, by omega⟩, ⟨by omega, by omega⟩⟩ (And.intro (fun c25 => ?_) (fun c25 => ?_))
      · refine ⟨gk_X2_write, gm_X2_write hg d (by omega), _, rfl, ⟨by omega, by omega⟩, by rw [l21]; exact pM_b (by omega), ?_⟩
        intro m26 z26 l26
        exact And.intro rfl (hQ _ (zfG_t z21 z26) (fin m26 l26))
      · refine ⟨gk_X2_write, gm_X2_write hg d (by omega), _, rfl, ⟨by omega, by omega⟩, by rw [l21]; exact pM_b (by omega), ?_⟩
        intro m29 z29 l29
        exact And.intro rfl (hQ _ (zfG_t z21 z29) (fin m29 l29))
/-- what writing leaves alone -/
def zfW2 (μ μ' : zM) : Prop := zl0 μ μ' ∧ ∀ j : Nat, (j < 10 ∨ 14 ≤ j) → μ'.1 j = μ.1 j
theorem zfW2_r (μ : zM) : zfW2 μ μ := ⟨zl0_r μ, fun _ _ => rfl⟩
theorem zfW2_t {a b c : zM} (h1 : zfW2 a b) (h2 : zfW2 b c) : zfW2 a c := ⟨zl0_t h1.1 h2.1, fun j hj => (h2.2 j hj).trans (h1.2 j hj)⟩
theorem zfW2_G {a b : zM} (h : zfG a b) : zfW2 a b := ⟨h.1, fun j hj => h.2.1 j (by omega) (by omega)⟩
theorem zfW2_u {m m' : zM} {j : Nat} {k x : Int} (q : zl0 m m') (e : m' = zu m j k x) (hj : 10 ≤ j ∧ j < 14) : zfW2 m m' := ⟨q, fun i hi => by rw [e, zu_ne (by omega)]⟩
def pN (μ : zM) : Int := μ.1 10 ((4 : Nat) : Int)
theorem tOk_w {m m' : zM} {t : Nat} {A : Int → Int} (h : tOk m t A) (f : zfW2 m m') : tOk m' t A := by
  have c := f.2
  refine ⟨h.1, by rw [c 59 (by omega)]; exact h.2.1, ?_, h.2.2.2.1, tW_c (fun i hi => c i (by omega)) h.2.2.2.2⟩
  rw [h.2.2.1]
  have ht := h.1
  funext y
  unfold tA
  rw [c t (by omega), c (Nat.add t 3) (by simp only [Nat.add_eq]; omega)]
theorem tE_w {m m' : zM} {A : Int → Int} {x : Int} {l : List Int} (f : zfW2 m m') (h : tE m A x l) : tE m' A x l := tE_k (fun j hj => f.2 j (by omega)) h
theorem yRB_w {m m' : zM} {t : Nat} {B : yB} (ht : t = 14 ∨ t = 32) (h : yRB m t B) (f : zfW2 m m') : yRB m' t B := yRB_g ht h (fun j hj => f.2 j (by omega))
/-- open TYPES: node, head, how many of its ARGS are begun, their rows -/
abbrev pT : Type := Int × Int × Nat × List (List Int)
def pS (m : zM) (B : yB) : List pT → Prop
  | [] => True
  | s :: r => (m.1 12 (r.length : Int) = s.1 ∧ m.1 13 (r.length : Int) = (s.2.2.1 : Int)) ∧ (aNd m (yar B) s.1 s.2.1 s.2.2.2 ∧ s.2.2.1 ≤ s.2.2.2.length ∧ (∀ a ∈ s.2.2.2, ∀ h ∈ a, yhv B h) ∧ ((0 ≤ s.2.1 ∧ s.2.1 < B.1 0 0) ∨ (21 ≤ s.2.1 ∧ s.2.2.2.length = 1))) ∧ pS m B r
/-- what is still to be written of them; turns that are owed -/
def pRm (B : yB) : List pT → Int
  | [] => 0
  | s :: r => ((s.2.2.2.drop s.2.2.1).map (yco B)).sum + (if 21 ≤ s.2.1 then 0 else (s.2.2.2.length : Int) - s.2.2.1 + 1) + pRm B r
def pOw : List pT → Int
  | [] => 0
  | s :: r => (if 21 ≤ s.2.1 then 2 - (s.2.2.1 : Int) else 0) + pOw r
theorem ybk_p (B : yB) (h : Int) (h3 : 0 ≤ h → h < B.1 0 0 → 0 ≤ B.1 3 h) : 0 ≤ ybk B h := by
  unfold ybk
  split
  · rename_i q
    have := h3 q.1 q.2
    split <;> omega
  · omega
theorem yco_p {B : yB} (h3 : ∀ h : Int, 0 ≤ h → h < B.1 0 0 → 0 ≤ B.1 3 h) : ∀ l : List Int, 0 ≤ yco B l
  | [] => Int.le_refl _
  | h :: l => by
    rw [yco_c]
    have := yco_p h3 l
    have := yhc_p B h
    have := ybk_p B h (h3 h)
    omega
theorem ycs_p {B : yB} (h3 : ∀ h : Int, 0 ≤ h → h < B.1 0 0 → 0 ≤ B.1 3 h) : ∀ as : List (List Int), 0 ≤ (as.map (yco B)).sum
  | [] => Int.le_refl _
  | a :: as => by
    rw [List.map_cons, List.sum_cons]
    have := ycs_p h3 as
    have := yco_p h3 a
    omega
theorem pRm_p {m : zM} {B : yB} (h3 : ∀ h : Int, 0 ≤ h → h < B.1 0 0 → 0 ≤ B.1 3 h) : ∀ st : List pT, pS m B st → 0 ≤ pRm B st
  | [], _ => Int.le_refl _
  | s :: r, h => by
    have a := pRm_p h3 r h.2.2
    have b := ycs_p h3 (s.2.2.2.drop s.2.2.1)
    have c := h.2.1.2.1
    show 0 ≤ _ + (if 21 ≤ s.2.1 then 0 else _) + pRm B r
    split <;> omega
theorem pOw_p {m : zM} {B : yB} (hb : B.1 0 0 ≤ 21) : ∀ st : List pT, pS m B st → 0 ≤ pOw st
  | [], _ => Int.le_refl _
  | s :: r, h => by
    have a := pOw_p hb r h.2.2
    have c := h.2.1.2.1
    have e := h.2.1.2.2.2
    show 0 ≤ (if 21 ≤ s.2.1 then 2 - (s.2.2.1 : Int) else 0) + pOw r
    split <;> omega
theorem pS_w {m m' : zM} {B : yB} (f : zfW2 m m') : ∀ st : List pT, (∀ k : Int, 0 ≤ k → k < st.length → m'.1 12 k = m.1 12 k ∧ m'.1 13 k = m.1 13 k) → pS m B st → pS m' B st
  | [], _, _ => trivial
  | s :: r, c, h => by
    have c0 := c (r.length : Int) (by omega) (by rw [List.length_cons]; omega)
    refine ⟨by rw [c0.1, c0.2]; exact h.1, ⟨?_, h.2.1.2⟩, pS_w f r (fun k k0 k1 => c k k0 (by rw [List.length_cons]; omega)) h.2.2⟩
    obtain ⟨n1, n2, n3, n4⟩ := h.2.1.1
    refine ⟨by unfold tn at n1 ⊢; rw [f.2 59 (by omega)]; exact n1, by rw [f.2 60 (by omega)]; exact n2, n3, fun i hi => ?_⟩
    rw [f.2 63 (by omega), f.2 61 (by omega)]
    exact tE_w f (n4 i hi)
def gk_X2_openType : zC := fun As μ Q => ∃ (a2 : Nat) (a3 : Int) (B : yB) (l : List Int) (st : List pT), As = [.inr (.inr (10, 10)), .inr (.inr (59, 59)), .inr (.inr (a2, 14)), .inl a3] ∧ tOk μ a2 (yar B) ∧ yRB μ a2 B ∧ tE μ (yar B) a3 l ∧ (∀ h ∈ l, yhv B h) ∧ (0 ≤ pL μ ∧ pL μ ≤ 1000) ∧ pN μ = (st.length : Int) ∧ (st.length ≤ 1000) ∧ pS μ B st ∧ (∀ (μ' : zM) (st' : List pT), zfW2 μ μ' → pL μ' = pM (pL μ + yhc B (l.headD 0)) → (pN μ' = (st'.length : Int) ∧ st'.length ≤ st.length + 1) → pS μ' B st' → pRm B st' = pRm B st + (yco B l - yhc B (l.headD 0)) → (pOw st' ≤ pOw st + yhc B (l.headD 0)) → Q none μ')
set_option maxHeartbeats 4000000 in
theorem gm_X2_openType {g : zΓ} (hg : zg g) (d : Nat) (hd : 5 ≤ d) : zOk g d 31 gk_X2_openType := by
  obtain ⟨d, rfl⟩ : ∃ d', d = d' + 1 := ⟨d - 1, by omega⟩
  refine zOk_straight hg (show mt_tab[31]? = some mt_X2_openType from rfl) [] 38 rfl fun As μ Q hC => ?_
  obtain ⟨a2, a3, B, l, st, rfl, ok, hR, hE, hv, hp, hN, hl, hst, hQ⟩ := hC
  refine ⟨rfl, ?_⟩
  have W := ok.2.2.2.2
  have nn := W.1
  have E1 := hE.1
  obtain ⟨as, e1, nd, hy⟩ := tE_nd W hE
  have eh : l.headD 0 = μ.1 60 a3 := by rw [e1]; rfl
  have hv0 : yhv B (μ.1 60 a3) := hv _ (by rw [e1]; exact List.mem_cons_self)
  have ec : yco B l = yhc B (μ.1 60 a3) + ybk B (μ.1 60 a3) + (as.map (yco B)).sum := by
    rw [e1]
    show yco B (μ.1 60 a3 :: as.flatten) = _
    rw [yco_c, yco_f]
  have b21 := hR.1.2.2.1
  have na : (as.length : Int) = yar B (μ.1 60 a3) := nd.2.2.1
  refine ⟨gk_X6_head, gm_X6_head hg d (by omega), _, rfl, ⟨by omega, by omega, by omega⟩, ?_⟩
  intro x1 kx1 lx1 hx1
  refine ⟨gk_X2_writeHead, gm_X2_writeHead hg d (by omega), a2, x1, B, rfl, ok.1, hR, by rw [hx1]; exact hv0, hp, ?_⟩
  intro m2 z2 l2
  rw [hx1] at l2
  have f2 := zfW2_G z2
  have n2 : pN m2 = pN μ := z2.2.2 _ (by decide)
  have s2 : pS m2 B st := pS_w f2 st (fun k _ _ => ⟨by rw [z2.2.1 12 (by decide) (by decide)], by rw [z2.2.1 13 (by decide) (by decide)]⟩) hst
  have ok2 := tOk_w ok f2
  have E2 := tE_w f2 hE
  refine ⟨gk_X6_partsOf, gm_X6_partsOf hg d (by omega), _, _, _, rfl, E2.1, ok2, ?_⟩
  intro x5 kx5 lx5 hx5
  have X5 : x5 = (as.length : Int) := by rw [hx5, f2.2 60 (by omega)]; exact na.symm
  refine And.intro ⟨by omega, by omega⟩ (And.intro (fun c6 => ?_) (fun c6 => ?_))
  · have a0 : as = [] := List.length_eq_zero_iff.mp (by omega)
    have bk0 : ybk B (μ.1 60 a3) = 0 := by
      unfold ybk
      by_cases q : 0 ≤ μ.1 60 a3 ∧ μ.1 60 a3 < B.1 0 0
      · rw [if_pos q]
        unfold yar at na
        rw [if_pos q] at na
        rw [if_pos (by omega)]
      · rw [if_neg q]
    refine And.intro rfl (hQ _ st f2 (by rw [eh]; exact l2) ⟨by rw [n2]; exact hN, by omega⟩ s2 ?_ ?_)
    · rw [ec, eh, bk0, a0]; simp
    · rw [eh]; have := yhc_p B (μ.1 60 a3); omega
  · intro x7 hx7 kx7 lx7
    have X7 : x7 = (st.length : Int) := (show x7 = pN m2 from hx7).trans (n2.trans hN)
    refine And.intro ⟨⟨by omega, by omega⟩, ⟨by omega, by omega⟩⟩ (And.intro (fun c8 => ?_) (fun c8 => ?_))
    · exfalso; omega
    · intro x9 hx9 kx9 lx9
      have X9 : x9 = (st.length : Int) := (show x9 = pN m2 from hx9).trans (n2.trans hN)
      refine ⟨yk_X8_set, ym_X8_set hg d (by omega), _, _, _, _, rfl, ⟨by omega, by omega⟩, ?_⟩
      refine And.intro ⟨by omega, by omega⟩ (And.intro ⟨by omega, by omega⟩ ?_)
      intro m10 qm10 em10
      intro x12 hx12 kx12 lx12
      have X12 : x12 = (st.length : Int) := by rw [hx12, em10, zu_ne (by decide)]; exact (show m2.1 10 ((4 : Nat) : Int) = pN m2 from rfl).trans (n2.trans hN)
      refine ⟨yk_X8_set, ym_X8_set hg d (by omega), _, _, _, _, rfl, ⟨by omega, by omega⟩, ?_⟩
      refine And.intro ⟨by omega, by omega⟩ (And.intro ⟨by omega, by omega⟩ ?_)
      intro m13 qm13 em13
      intro x15 hx15 kx15 lx15
      have X15 : x15 = (st.length : Int) := by rw [hx15, em13, zu_ne (by decide), em10, zu_ne (by decide)]; exact (show m2.1 10 ((4 : Nat) : Int) = pN m2 from rfl).trans (n2.trans hN)
      refine And.intro ⟨by omega, by omega⟩ ?_
      intro m16 em16
      have f16 : zfW2 m2 m16 := zfW2_t (zfW2_t (zfW2_u ⟨qm10, by rw [em10]; rfl⟩ em10 (by decide)) (zfW2_u ⟨qm13, by rw [em13]; rfl⟩ em13 (by decide))) (zfW2_u (zl0_u em16 (Or.inl (by decide)) (Or.inl ⟨by decide, by decide⟩)) em16 (by decide))
      have c12 : ∀ k : Int, m16.1 12 k = if k = (st.length : Int) then a3 else m2.1 12 k := fun k => by rw [em16, zu_ne (by decide), em13, zu_ne (by decide), em10, X9, zu_if]
      have c13 : ∀ k : Int, m16.1 13 k = if k = (st.length : Int) then 0 else m2.1 13 k := fun k => by rw [em16, zu_ne (by decide), em13, X12, zu_if, em10, zu_ne (by decide)]
      have s16 : pS m16 B st := pS_w f16 st (fun k k0 k1 => ⟨by rw [c12, if_neg (by omega)], by rw [c13, if_neg (by omega)]⟩) s2
      have L16 : pL m16 = pL m2 := by unfold pL; rw [em16, zu_nk (by decide), em13, zu_ne (by decide), em10, zu_ne (by decide)]
      have hcl : (0 ≤ μ.1 60 a3 ∧ μ.1 60 a3 < B.1 0 0) ∨ (21 ≤ μ.1 60 a3 ∧ as.length = 1 ∧ (μ.1 60 a3 = 201 ∨ μ.1 60 a3 = 202)) := by
        unfold yar at na
        by_cases q : 0 ≤ μ.1 60 a3 ∧ μ.1 60 a3 < B.1 0 0
        · exact Or.inl q
        · rw [if_neg q] at na
          by_cases w : μ.1 60 a3 = 201 ∨ μ.1 60 a3 = 202
          · rw [if_pos w] at na; exact Or.inr ⟨by omega, by omega, w⟩
          · rw [if_neg w] at na; exfalso; omega
      have W2 : zfW2 μ m16 := zfW2_t f2 f16
      have ndw : aNd m16 (yar B) a3 (μ.1 60 a3) as := by
        obtain ⟨n1, n2', n3, n4⟩ := nd
        refine ⟨by unfold tn at n1 ⊢; rw [W2.2 59 (by omega)]; exact n1, by rw [W2.2 60 (by omega)], n3, fun i hi => ?_⟩
        rw [W2.2 63 (by omega), W2.2 61 (by omega)]
        exact tE_w W2 (n4 i hi)
      refine And.intro rfl (hQ _ ((a3, μ.1 60 a3, 0, as) :: st) W2 (by rw [L16, eh]; exact l2) ⟨?_, by rw [List.length_cons]; omega⟩ ⟨⟨?_, ?_⟩, ⟨ndw, Nat.zero_le _, fun a ha h hh => hv h (by rw [e1]; exact List.mem_cons_of_mem _ (List.mem_flatten.mpr ⟨a, ha, hh⟩)), ?_⟩, s16⟩ ?_ ?_)
      · show m16.1 10 ((4 : Nat) : Int) = _
        rw [em16, zu_at, List.length_cons]
        omega
      · rw [c12, if_pos rfl]
      · rw [c13, if_pos rfl]; rfl
      · rcases hcl with q | q
        · exact Or.inl q
        · exact Or.inr ⟨q.1, q.2.1⟩
      · show ((as.drop 0).map (yco B)).sum + (if 21 ≤ μ.1 60 a3 then 0 else (as.length : Int) - ((0 : Nat) : Int) + 1) + pRm B st = _
        rw [List.drop_zero, ec, eh]
        rcases hcl with q | q
        · rw [if_neg (by omega)]
          unfold ybk
          unfold yar at na
          rw [if_pos q] at na
          rw [if_pos q, if_neg (by omega)]
          omega
        · rw [if_pos q.1]
          unfold ybk
          rw [if_neg (by omega)]
          omega
      · show (if 21 ≤ μ.1 60 a3 then 2 - ((0 : Nat) : Int) else 0) + pOw st ≤ _
        rw [eh]
        rcases hcl with q | q
        · rw [if_neg (by omega)]; have := yhc_p B (μ.1 60 a3); omega
        · rw [if_pos q.1]
          unfold yhc
          rw [if_neg (by omega), if_neg (by omega), if_neg (by omega), if_pos q.2.2]
          omega
