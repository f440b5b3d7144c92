/-! ### the class writes a TYPE: the walk -/
theorem pRm_d {B : yB} {x h : Int} {i : Nat} {as : List (List Int)} {r : List pT} (hi : i < as.length) : pRm B ((x, h, i + 1, as) :: r) = pRm B ((x, h, i, as) :: r) - yco B (as.getD i []) - (if 21 ≤ h then 0 else 1) := by
  show ((as.drop (i + 1)).map (yco B)).sum + (if 21 ≤ h then 0 else (as.length : Int) - ((i + 1 : Nat) : Int) + 1) + pRm B r = ((as.drop i).map (yco B)).sum + (if 21 ≤ h then 0 else (as.length : Int) - (i : Int) + 1) + pRm B r - yco B (as.getD i []) - (if 21 ≤ h then 0 else 1)
  rw [List.drop_eq_getElem_cons hi, List.map_cons, List.sum_cons, List.getD_eq_getElem?_getD, List.getElem?_eq_getElem hi]
  show _ = yco B as[i] + _ + _ + pRm B r - yco B as[i] - _
  split <;> omega
theorem pRm_e {B : yB} {x h : Int} {i : Nat} {as : List (List Int)} {r : List pT} (hi : i = as.length) : pRm B ((x, h, i, as) :: r) = (if 21 ≤ h then 0 else 1) + pRm B r := by
  show ((as.drop i).map (yco B)).sum + (if 21 ≤ h then 0 else (as.length : Int) - (i : Int) + 1) + pRm B r = _
  rw [hi, List.drop_length]
  show 0 + _ + _ = _
  split <;> omega
theorem pOw_d {x h : Int} {i : Nat} {as : List (List Int)} {r : List pT} : pOw ((x, h, i + 1, as) :: r) = pOw ((x, h, i, as) :: r) - (if 21 ≤ h then 1 else 0) := by
  show (if 21 ≤ h then 2 - ((i + 1 : Nat) : Int) else 0) + pOw r = (if 21 ≤ h then 2 - (i : Int) else 0) + pOw r - (if 21 ≤ h then 1 else 0)
  split <;> omega
theorem pOw_e {x h : Int} {i : Nat} {as : List (List Int)} {r : List pT} : pOw ((x, h, i, as) :: r) = (if 21 ≤ h then 2 - (i : Int) else 0) + pOw r := rfl
/-- the page's state between turns -/
def pI (μ m : zM) (B : yB) (T turn : Int) (st : List pT) : Prop := zfW2 μ m ∧ (0 ≤ pL m ∧ pL m ≤ 1000) ∧ pN m = (st.length : Int) ∧ pS m B st ∧ pM (pL m + pRm B st) = pM T ∧ (pL m < 1000 → turn + pOw st ≤ pL m ∧ (st.length : Int) ≤ turn + 1)
theorem pI_e {μ m : zM} {B : yB} {T turn : Int} {st : List pT} (h3 : ∀ h : Int, 0 ≤ h → h < B.1 0 0 → 0 ≤ B.1 3 h) (h : pI μ m B T turn st) (q : st = [] ∨ 1000 ≤ pL m) : pL m = pM T := by
  obtain ⟨-, hp, -, hs, hT, -⟩ := h
  rcases q with q | q
  · subst q
    rw [← hT]
    show pL m = pM (pL m + 0)
    rw [show pL m + 0 = pL m by omega, pM_i hp.2]
  · have := pRm_p h3 st hs
    rw [← hT]
    unfold pM
    rw [if_neg (by omega)]
    omega
def gk_X2_writeType : zC := fun As μ Q => ∃ (a2 : Nat) (a3 : Int) (B : yB) (l : List Int), As = [.inr (.inr (10, 10)), .inr (.inr (59, 59)), .inr (.inr (a2, 14)), .inl a3] ∧ tOk μ a2 (yar B) ∧ yRB μ a2 B ∧ tE μ (yar B) a3 l ∧ (∀ h ∈ l, yhv B h) ∧ (∀ (v : Int) (μ' : zM), zfW2 μ μ' → v = pM (yco B l) → pL μ' = v → Q (some (.inl v)) μ')
set_option maxHeartbeats 4000000 in
theorem gm_X2_writeType {g : zΓ} (hg : zg g) (d : Nat) (hd : 6 ≤ d) : zOk g d 30 gk_X2_writeType := by
  obtain ⟨d, rfl⟩ : ∃ d', d = d' + 1 := ⟨d - 1, by omega⟩
  refine zOk_loop hg (show mt_tab[30]? = some mt_X2_writeType from rfl) ([(20, [0, 1, 2, 4])], []) 98 rfl fun As μ Q hC => ?_
  obtain ⟨a2, a3, B, l, rfl, ok, hR, hE, hv, hQ⟩ := hC
  have h3 : ∀ h : Int, 0 ≤ h → h < B.1 0 0 → 0 ≤ B.1 3 h := fun h a b => (hR.2.1 h a b).2.1.2.1
  have b21 := hR.1.2.2.1
  have ht := ok.1
  refine ⟨rfl, fun pc vs μ' n => ∃ (v4 : Int) (st : List pT), vs = [.inr (.inr (10, 10)), .inr (.inr (59, 59)), .inr (.inr (a2, 14)), .inl v4] ∧ (0 ≤ v4 ∧ v4 ≤ 4000) ∧ pI μ μ' B (yco B l) v4 st ∧ n = (Int.toNat (2147483648 - v4)), ?_, ?_, trivial⟩
  · refine And.intro ⟨by omega, by omega⟩ ?_
    intro m1 em1
    refine And.intro ⟨by omega, by omega⟩ ?_
    intro m3 em3
    have f3 : zfW2 μ m3 := zfW2_t (zfW2_u (zl0_u em1 (Or.inl (by decide)) (Or.inl ⟨by decide, by decide⟩)) em1 (by decide)) (zfW2_u (zl0_u em3 (Or.inl (by decide)) (Or.inl ⟨by decide, by decide⟩)) em3 (by decide))
    have L3 : pL m3 = 0 := by unfold pL; rw [em3, zu_nk (by decide), em1, zu_at]
    have N3 : pN m3 = 0 := by unfold pN; rw [em3, zu_at]
    refine ⟨gk_X2_openType, gm_X2_openType hg d (by omega), a2, a3, B, l, [], rfl, tOk_w ok f3, yRB_w ht hR f3, tE_w f3 hE, hv, ⟨by omega, by omega⟩, N3, by simp, trivial, ?_⟩
    intro m5 st5 f5 l5 n5 s5 r5 o5
    have hc := yhc_p B (l.headD 0)
    refine Exists.intro (Int.toNat (2147483648 - 0)) ?_
    refine ⟨0, st5, rfl, ⟨by omega, by omega⟩, ⟨zfW2_t f3 f5, by rw [l5]; exact pM_b (by omega), n5.1, s5, ?_, fun q => ?_⟩, rfl⟩
    · rw [l5, r5, pM_a]
      · show pM (pL m3 + yhc B (l.headD 0) + (0 + (yco B l - yhc B (l.headD 0)))) = _
        exact congrArg pM (by omega)
      · have := pRm_p h3 st5 s5
        rw [r5] at this
        exact this
    · rw [l5, pM_l] at q
      rw [l5, pM_i (by omega)]
      have o5' : pOw st5 ≤ 0 + yhc B (l.headD 0) := o5
      have n5' : st5.length ≤ 0 + 1 := n5.2
      exact ⟨by omega, by omega⟩
  · intro vs m0 n hI
    obtain ⟨v4, st, rfl, hv4, H, rfl⟩ := hI
    have H' := H
    obtain ⟨f0, hp0, hN0, s0, hT0, hw0⟩ := H'
    refine And.intro ⟨⟨by omega, by omega⟩, ⟨by omega, by omega⟩⟩ (And.intro (fun c8 => ?_) (fun c8 => ?_))
    · intro x9 hx9 kx9 lx9
      have X9 : x9 = pL m0 := hx9
      have ow := pOw_p b21.2 st s0
      have e := pI_e h3 H (Or.inr (by
        by_cases q : pL m0 < 1000
        · have := hw0 q; omega
        · omega))
      exact And.intro trivial (And.intro ⟨by omega, by omega⟩ (hQ _ _ f0 (X9.trans e) X9.symm))
    · intro x10 hx10 kx10 lx10
      have X10 : x10 = (st.length : Int) := (show x10 = pN m0 from hx10).trans hN0
      refine And.intro ⟨by omega, by omega⟩ (And.intro (fun c11 => ?_) (fun c11 => ?_))
      · intro x12 hx12 kx12 lx12
        have X12 : x12 = pL m0 := hx12
        have e := pI_e h3 H (Or.inl (List.length_eq_zero_iff.mp (by omega)))
        exact And.intro trivial (And.intro ⟨by omega, by omega⟩ (hQ _ _ f0 (X12.trans e) X12.symm))
      · intro x13 hx13 kx13 lx13
        have X13 : x13 = pL m0 := hx13
        refine And.intro ⟨⟨by omega, by omega⟩, ⟨by omega, by omega⟩⟩ (And.intro (fun c14 => ?_) (fun c14 => ?_))
        · intro x15 hx15 kx15 lx15
          have X15 : x15 = pL m0 := hx15
          have e := pI_e h3 H (Or.inr (by omega))
          exact And.intro trivial (And.intro ⟨by omega, by omega⟩ (hQ _ _ f0 (X15.trans e) X15.symm))
        · have w0 := hw0 (by omega)
          cases st with
          | nil => exfalso; simp at X10; omega
          | cons s r =>
          obtain ⟨x, h, i, as⟩ := s
          have ow0 := pOw_p b21.2 _ s0
          obtain ⟨⟨t1, t2⟩, ⟨nd, hi, hva, hcl⟩, sr⟩ := s0
          rw [List.length_cons] at X10 w0 hN0
          have t1 : m0.1 12 (r.length : Int) = x := t1
          have t2 : m0.1 13 (r.length : Int) = (i : Int) := t2
          have nd : aNd m0 (yar B) x h as := nd
          have hi : i ≤ as.length := hi
          have hva : ∀ a ∈ as, ∀ h ∈ a, yhv B h := hva
          have hcl : (0 ≤ h ∧ h < B.1 0 0) ∨ (21 ≤ h ∧ as.length = 1) := hcl
          have ok0 := tOk_w ok f0
          have W0 := ok0.2.2.2.2
          have nn0 := W0.1
          have nd1 := nd.1
          have la : (as.length : Int) = yar B h := nd.2.2.1
          have la4 := ok0.2.2.2.1 h
          have owr := pOw_p b21.2 r sr
          have hR0 := yRB_w ht hR f0
          intro x16 hx16 kx16 lx16
          have X16 : x16 = (r.length : Int) + 1 := by have := (show x16 = pN m0 from hx16).trans hN0; omega
          refine ⟨zk_X8_at, zm_X8_at hg d (by omega), _, _, _, rfl, ⟨by omega, by omega⟩, ?_⟩
          intro x17 kx17 lx17 fx17 gx17
          have X17 : x17 = x := by rw [(fx17 ⟨by omega, by omega⟩).1, show x16 - 1 = (r.length : Int) by omega]; exact t1
          intro x18 hx18 kx18 lx18
          have X18 : x18 = (r.length : Int) + 1 := by have := (show x18 = pN m0 from hx18).trans hN0; omega
          refine ⟨zk_X8_at, zm_X8_at hg d (by omega), _, _, _, rfl, ⟨by omega, by omega⟩, ?_⟩
          intro x19 kx19 lx19 fx19 gx19
          have X19 : x19 = (i : Int) := by rw [(fx19 ⟨by omega, by omega⟩).1, show x18 - 1 = (r.length : Int) by omega]; exact t2
          refine ⟨gk_X6_head, gm_X6_head hg d (by omega), _, rfl, ⟨by omega, by omega, by omega⟩, ?_⟩
          intro x20 kx20 lx20 hx20
          have X20 : x20 = h := by rw [hx20, X17]; exact nd.2.1
          refine ⟨gk_X8_isClass, gm_X8_isClass hg d (by omega), _, rfl, ⟨by omega, by omega⟩, ?_⟩
          intro x21 kx21 lx21 p21
          refine ⟨gk_X6_partsOf, gm_X6_partsOf hg d (by omega), x17, a2, yar B, rfl, ⟨by omega, by omega⟩, ok0, ?_⟩
          intro x22 kx22 lx22 hx22
          have X22 : x22 = (as.length : Int) := by rw [hx22, X17, nd.2.1]; exact la.symm
          refine And.intro ⟨⟨by omega, by omega⟩, ⟨by omega, by omega⟩⟩ (And.intro (fun c23 => ?_) (fun c23 => ?_))
          · have hil : i < as.length := by omega
            have ER := nd.2.2.2 i hil
            have vr : ∀ h ∈ as.getD i [], yhv B h := hva _ (rgd hil)
            have hc := yhc_p B ((as.getD i []).headD 0)
            intro x24 hx24 kx24 lx24
            have X24 : x24 = (r.length : Int) + 1 := by have := (show x24 = pN m0 from hx24).trans hN0; omega
            refine ⟨yk_X8_set, ym_X8_set hg d (by omega), _, _, _, _, rfl, ⟨by omega, by omega⟩, ?_⟩
            refine And.intro ⟨by omega, by omega⟩ (And.intro ⟨by omega, by omega⟩ ?_)
            intro m25 qm25 em25
            have f25 : zfW2 m0 m25 := zfW2_u ⟨qm25, by rw [em25]; rfl⟩ em25 (by decide)
            have c13 : ∀ k : Int, m25.1 13 k = if k = (r.length : Int) then (i : Int) + 1 else m0.1 13 k := fun k => by rw [em25, show x24 - 1 = (r.length : Int) by omega, X19, zu_if]
            have s25 : pS m25 B ((x, h, i + 1, as) :: r) := by
              have q := pS_w f25 r (fun k k0 k1 => ⟨by rw [em25, zu_ne (by decide)], by rw [c13, if_neg (by omega)]⟩) sr
              refine ⟨⟨?_, ?_⟩, ⟨?_, hil, hva, hcl⟩, q⟩
              · rw [em25, zu_ne (by decide)]; exact t1
              · rw [c13, if_pos rfl]; rfl
              · obtain ⟨n1, n2, n3, n4⟩ := nd
                refine ⟨by unfold tn at n1 ⊢; rw [f25.2 59 (by omega)]; exact n1, by rw [f25.2 60 (by omega)]; exact n2, n3, fun j hj => ?_⟩
                rw [f25.2 63 (by omega), f25.2 61 (by omega)]
                exact tE_w f25 (n4 j hj)
            have L25 : pL m25 = pL m0 := by unfold pL; rw [em25, zu_ne (by decide)]
            have N25 : pN m25 = (r.length : Int) + 1 := by unfold pN; rw [em25, zu_ne (by decide)]; exact hN0.trans (by omega)
            have rd := pRm_d (B := B) (x := x) (h := h) (r := r) hil
            have od := pOw_d (x := x) (h := h) (i := i) (as := as) (r := r)
            -- one part is opened, on a page that got w bytes more
            have go : ∀ (m : zM) (w : Int), (0 ≤ w ∧ w ≤ 1) → w = (if 21 ≤ h then 0 else 1) → zfW2 m25 m → pS m B ((x, h, i + 1, as) :: r) → pN m = (r.length : Int) + 1 → pL m = pM (pL m0 + w) → ∀ (m' : zM) (st' : List pT), zfW2 m m' → pL m' = pM (pL m + yhc B ((as.getD i []).headD 0)) → (pN m' = (st'.length : Int) ∧ st'.length ≤ ((x, h, i + 1, as) :: r).length + 1) → pS m' B st' → pRm B st' = pRm B ((x, h, i + 1, as) :: r) + (yco B (as.getD i []) - yhc B ((as.getD i []).headD 0)) → pOw st' ≤ pOw ((x, h, i + 1, as) :: r) + yhc B ((as.getD i []).headD 0) → pI μ m' B (yco B l) (v4 + 1) st' := by
              intro m w hw ew fm sm nm lm m' st' fm' lm' nm' sm' rm' om'
              have rp := pRm_p h3 st' sm'
              rw [lm, pM_a hc] at lm'
              rw [rd] at rm'
              rw [od] at om'
              rw [List.length_cons] at nm'
              refine ⟨zfW2_t (zfW2_t (zfW2_t f0 f25) fm) fm', by rw [lm']; exact pM_b (by omega), nm'.1, sm', ?_, fun q => ?_⟩
              · rw [lm', pM_a rp, rm', ← hT0, ← ew]
                exact congrArg pM (by omega)
              · rw [lm', pM_l] at q
                rw [lm', pM_i (by omega)]
                by_cases z : 21 ≤ h
                · rw [if_pos z] at om' ew; exact ⟨by omega, by omega⟩
                · rw [if_neg z] at om' ew; exact ⟨by omega, by omega⟩
            refine And.intro ⟨by omega, by omega⟩ (And.intro (fun c27 => ?_) (fun c27 => ?_))
            · have h21 : 21 ≤ h := by rcases p21 with q | q; (exfalso; have := q.1; omega); (have := q.2; omega)
              refine ⟨gk_X6_part, gm_X6_part hg d (by omega), x17, x19, yar B, rfl, ⟨by omega, by rw [show tn m25 = tn m0 by unfold tn; rw [f25.2 59 (by omega)]]; omega⟩, ⟨by omega, by rw [f25.2 60 (by omega), X17, nd.2.1]; omega⟩, (tOk_w ok0 f25).2.2.2.2, ?_⟩
              intro x28 kx28 hx28
              have X28 : x28 = m0.1 63 (m0.1 61 x + i) := by rw [hx28, f25.2 63 (by omega), f25.2 61 (by omega), X17, X19]
              refine ⟨gk_X2_openType, gm_X2_openType hg d (by omega), a2, x28, B, as.getD i [], (x, h, i + 1, as) :: r, rfl, tOk_w ok0 f25, yRB_w ht hR0 f25, by rw [X28]; exact tE_w f25 ER, vr, by rw [L25]; exact hp0, by rw [N25, List.length_cons]; omega, by rw [List.length_cons]; omega, s25, ?_⟩
              intro m29 st29 f29 l29 n29 s29 r29 o29
              refine Exists.intro (Int.toNat (2147483648 - (v4 + 1))) (And.intro (by omega) ?_)
              exact ⟨v4 + 1, st29, rfl, ⟨by omega, by omega⟩, go m25 0 ⟨by omega, by omega⟩ (by rw [if_pos h21]) (zfW2_r m25) s25 N25 (by rw [L25, show pL m0 + 0 = pL m0 by omega, pM_i hp0.2]) m29 st29 f29 l29 n29 s29 r29 o29, rfl⟩
            · have h21 : ¬ 21 ≤ h := by rcases p21 with q | q; (have := q.2; omega); (exfalso; have := q.1; omega)
              have next : ∀ (m33 : zM), zfG m25 m33 → pL m33 = pM (pL m25 + 1) → zfW2 m25 m33 ∧ pS m33 B ((x, h, i + 1, as) :: r) ∧ pN m33 = (r.length : Int) + 1 ∧ pL m33 = pM (pL m0 + 1) := fun m33 z l' => by
                refine ⟨zfW2_G z, pS_w (zfW2_G z) _ (fun k _ _ => ⟨by rw [z.2.1 12 (by decide) (by decide)], by rw [z.2.1 13 (by decide) (by decide)]⟩) s25, ?_, by rw [l', L25]⟩
                exact (z.2.2 _ (by decide)).trans N25
              refine And.intro ⟨by omega, by omega⟩ (And.intro (fun c32 => ?_) (fun c32 => ?_))
              · refine ⟨gk_X2_write, gm_X2_write hg d (by omega), _, rfl, ⟨by omega, by omega⟩, by rw [L25]; exact hp0, ?_⟩
                intro m33 z33 l33
                obtain ⟨f33, s33, n33, l33'⟩ := next m33 z33 l33
                have F33 := zfW2_t f25 f33
                refine ⟨gk_X6_part, gm_X6_part hg d (by omega), x17, x19, yar B, rfl, ⟨by omega, by rw [show tn m33 = tn m0 by unfold tn; rw [F33.2 59 (by omega)]]; omega⟩, ⟨by omega, by rw [F33.2 60 (by omega), X17, nd.2.1]; omega⟩, (tOk_w ok0 F33).2.2.2.2, ?_⟩
                intro x36 kx36 hx36
                have X36 : x36 = m0.1 63 (m0.1 61 x + i) := by rw [hx36, F33.2 63 (by omega), F33.2 61 (by omega), X17, X19]
                refine ⟨gk_X2_openType, gm_X2_openType hg d (by omega), a2, x36, B, as.getD i [], (x, h, i + 1, as) :: r, rfl, tOk_w ok0 F33, yRB_w ht hR0 F33, by rw [X36]; exact tE_w F33 ER, vr, by rw [l33']; exact pM_b (by omega), by rw [n33, List.length_cons]; omega, by rw [List.length_cons]; omega, s33, ?_⟩
                intro m37 st37 f37 l37 n37 s37 r37 o37
                refine Exists.intro (Int.toNat (2147483648 - (v4 + 1))) (And.intro (by omega) ?_)
                exact ⟨v4 + 1, st37, rfl, ⟨by omega, by omega⟩, go m33 1 ⟨by omega, by omega⟩ (by rw [if_neg h21]) f33 s33 n33 l33' m37 st37 f37 l37 n37 s37 r37 o37, rfl⟩
              · refine ⟨gk_X2_write, gm_X2_write hg d (by omega), _, rfl, ⟨by omega, by omega⟩, by rw [L25]; exact hp0, ?_⟩
                intro m40 z40 l40
                obtain ⟨f40, s40, n40, l40'⟩ := next m40 z40 l40
                have F40 := zfW2_t f25 f40
                refine ⟨gk_X6_part, gm_X6_part hg d (by omega), x17, x19, yar B, rfl, ⟨by omega, by rw [show tn m40 = tn m0 by unfold tn; rw [F40.2 59 (by omega)]]; omega⟩, ⟨by omega, by rw [F40.2 60 (by omega), X17, nd.2.1]; omega⟩, (tOk_w ok0 F40).2.2.2.2, ?_⟩
                intro x43 kx43 hx43
                have X43 : x43 = m0.1 63 (m0.1 61 x + i) := by rw [hx43, F40.2 63 (by omega), F40.2 61 (by omega), X17, X19]
                refine ⟨gk_X2_openType, gm_X2_openType hg d (by omega), a2, x43, B, as.getD i [], (x, h, i + 1, as) :: r, rfl, tOk_w ok0 F40, yRB_w ht hR0 F40, by rw [X43]; exact tE_w F40 ER, vr, by rw [l40']; exact pM_b (by omega), by rw [n40, List.length_cons]; omega, by rw [List.length_cons]; omega, s40, ?_⟩
                intro m44 st44 f44 l44 n44 s44 r44 o44
                refine Exists.intro (Int.toNat (2147483648 - (v4 + 1))) (And.intro (by omega) ?_)
                exact ⟨v4 + 1, st44, rfl, ⟨by omega, by omega⟩, go m40 1 ⟨by omega, by omega⟩ (by rw [if_neg h21]) f40 s40 n40 l40' m44 st44 f44 l44 n44 s44 r44 o44, rfl⟩
          · have hil : i = as.length := by omega
            have re := pRm_e (B := B) (x := x) (h := h) (r := r) hil
            have oe := pOw_e (x := x) (h := h) (i := i) (as := as) (r := r)
            rw [re] at hT0
            rw [oe] at w0
            intro x47 hx47 kx47 lx47
            have X47 : x47 = (r.length : Int) + 1 := by have := (show x47 = pN m0 from hx47).trans hN0; omega
            refine And.intro ⟨by omega, by omega⟩ ?_
            intro m48 em48
            have f48 : zfW2 m0 m48 := zfW2_u (zl0_u em48 (Or.inl (by decide)) (Or.inl ⟨by decide, by decide⟩)) em48 (by decide)
            have L48 : pL m48 = pL m0 := by unfold pL; rw [em48, zu_nk (by decide)]
            have N48 : pN m48 = (r.length : Int) := by unfold pN; rw [em48, zu_at]; omega
            have s48 : pS m48 B r := pS_w f48 r (fun k _ _ => ⟨by rw [em48, zu_ne (by decide)], by rw [em48, zu_ne (by decide)]⟩) sr
            refine And.intro ⟨by omega, by omega⟩ (And.intro (fun c50 => ?_) (fun c50 => ?_))
            · have h21 : 21 ≤ h := by rcases p21 with q | q; (exfalso; have := q.1; omega); (have := q.2; omega)
              rw [if_pos h21] at hT0 w0
              refine Exists.intro (Int.toNat (2147483648 - (v4 + 1))) (And.intro (by omega) ?_)
              refine ⟨v4 + 1, r, rfl, ⟨by omega, by omega⟩, ⟨zfW2_t f0 f48, by rw [L48]; exact hp0, N48, s48, ?_, fun q => ?_⟩, rfl⟩
              · rw [L48, ← hT0]; exact congrArg pM (by omega)
              · rw [L48]; exact ⟨by omega, by omega⟩
            · have h21 : ¬ 21 ≤ h := by rcases p21 with q | q; (have := q.2; omega); (exfalso; have := q.1; omega)
              rw [if_neg h21] at hT0 w0
              refine ⟨gk_X2_write, gm_X2_write hg d (by omega), _, rfl, ⟨by omega, by omega⟩, by rw [L48]; exact hp0, ?_⟩
              intro m51 z51 l51
              rw [L48] at l51
              have rp := pRm_p h3 r sr
              refine Exists.intro (Int.toNat (2147483648 - (v4 + 1))) (And.intro (by omega) ?_)
              refine ⟨v4 + 1, r, rfl, ⟨by omega, by omega⟩, ⟨zfW2_t (zfW2_t f0 f48) (zfW2_G z51), by rw [l51]; exact pM_b (by omega), (z51.2.2 _ (by decide)).trans N48, pS_w (zfW2_G z51) r (fun k _ _ => ⟨by rw [z51.2.1 12 (by decide) (by decide)], by rw [z51.2.1 13 (by decide) (by decide)]⟩) s48, ?_, fun q => ?_⟩, rfl⟩
              · rw [l51, pM_a rp, ← hT0]; exact congrArg pM (by omega)
              · rw [l51, pM_l] at q
                rw [l51, pM_i (by omega)]
                exact ⟨by omega, by omega⟩
