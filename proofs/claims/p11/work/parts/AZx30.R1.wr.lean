/-! ### the reference writes a TYPE -/
def rS (μ m : zM) (B : yB) : List pT → Prop
  | [] => True
  | s :: r => (m.1 106 (r.length : Int) = s.1 ∧ m.1 99 (r.length : Int) = (s.2.2.1 : Int)) ∧ ((0 ≤ s.1 ∧ s.1 < zTop μ) ∧ rHf μ s.1 s.2.1 ∧ yhv B s.2.1 ∧ (s.2.2.2.length : Int) = μ.1 69 s.1 ∧ (∀ i : Nat, i < s.2.2.2.length → rEf μ (μ.1 70 (4 * s.1 + i)) (s.2.2.2.getD i [])) ∧ s.2.2.1 ≤ s.2.2.2.length ∧ ∀ a ∈ s.2.2.2, ∀ h ∈ a, yhv B h) ∧ rS μ m B r
def rR1 (B : yB) (h : Int) (i : Nat) (as : List (List Int)) : Int := if i = 0 then yhc B h + ybk B h + (as.map (yco B)).sum else ((as.drop i).map (yco B)).sum + (if 21 ≤ h then 0 else (as.length : Int) - i + 1)
def rRm (B : yB) : List pT → Int
  | [] => 0
  | s :: r => rR1 B s.2.1 s.2.2.1 s.2.2.2 + rRm B r
theorem rR1_push {B : yB} {h : Int} {i : Nat} {as : List (List Int)} (hi : i < as.length) (hb : B.1 0 0 ≤ 21) (hv : yhv B h) (ha : 0 ≤ h → h < B.1 0 0 → (as.length : Int) = B.1 3 h) : rR1 B h i as = (if i = 0 then yhc B h else 0) + (if 21 ≤ h then 0 else 1) + yco B (as.getD i []) + rR1 B h (i + 1) as := by
  have e : as.drop i = as.getD i [] :: as.drop (i + 1) := by
    rw [List.drop_eq_getElem_cons hi, List.getD_eq_getElem?_getD, List.getElem?_eq_getElem hi]
    rfl
  have hv' := hv
  unfold yhv at hv'
  unfold rR1
  rw [if_neg (show ¬ i + 1 = 0 by omega)]
  by_cases q : i = 0
  · subst q
    rw [List.drop_zero] at e
    rw [if_pos rfl, if_pos rfl]
    conv => lhs; rw [e]
    rw [List.map_cons, List.sum_cons]
    unfold ybk
    by_cases z : 0 ≤ h ∧ h < B.1 0 0
    · have a := ha z.1 z.2
      rw [if_pos z, if_neg (by omega), if_neg (by omega), if_neg (by omega)]
      omega
    · rw [if_neg z, if_pos (by omega), if_pos (by omega)]
      omega
  · rw [if_neg q, if_neg q, e, List.map_cons, List.sum_cons]
    by_cases z : 21 ≤ h
    · rw [if_pos z, if_pos z, if_pos z]; omega
    · rw [if_neg z, if_neg z, if_neg z]; omega
theorem rR1_pop {B : yB} {h : Int} {i : Nat} {as : List (List Int)} (hi : i = as.length) (ha : 0 ≤ h → h < B.1 0 0 → (as.length : Int) = B.1 3 h) : rR1 B h i as = if i = 0 then yhc B h else (if 21 ≤ h then 0 else 1) := by
  unfold rR1
  by_cases q : i = 0
  · rw [if_pos q, if_pos q]
    have e : as = [] := List.length_eq_zero_iff.mp (by omega)
    rw [e] at ha ⊢
    unfold ybk
    by_cases z : 0 ≤ h ∧ h < B.1 0 0
    · have a := ha z.1 z.2
      rw [if_pos z, if_pos (by simpa using a.symm)]
      show yhc B h + 0 + 0 = _
      omega
    · rw [if_neg z]
      show yhc B h + 0 + 0 = _
      omega
  · rw [if_neg q, if_neg q, hi, List.drop_length]
    show 0 + (if 21 ≤ h then 0 else (as.length : Int) - (as.length : Int) + 1) = _
    split <;> omega
theorem rS_f {μ m m' : zM} {B : yB} : ∀ st : List pT, (∀ k : Int, 0 ≤ k → k < st.length → m'.1 106 k = m.1 106 k ∧ m'.1 99 k = m.1 99 k) → rS μ m B st → rS μ m' B st
  | [], _, _ => trivial
  | s :: r, c, h => by
    have c0 := c (r.length : Int) (by omega) (by rw [List.length_cons]; omega)
    exact ⟨by rw [c0.1, c0.2]; exact h.1, h.2.1, rS_f r (fun k k0 k1 => c k k0 (by rw [List.length_cons]; omega)) h.2.2⟩
theorem rR1_p {B : yB} {h : Int} {i : Nat} {as : List (List Int)} (h3 : ∀ h : Int, 0 ≤ h → h < B.1 0 0 → 0 ≤ B.1 3 h) (hi : i ≤ as.length) : 0 ≤ rR1 B h i as := by
  unfold rR1
  split
  · have := yhc_p B h
    have := ybk_p B h (h3 h)
    have := ycs_p h3 as
    omega
  · have := ycs_p h3 (as.drop i)
    split <;> omega
theorem rRm_p {μ m : zM} {B : yB} (h3 : ∀ h : Int, 0 ≤ h → h < B.1 0 0 → 0 ≤ B.1 3 h) : ∀ st : List pT, rS μ m B st → 0 ≤ rRm B st
  | [], _ => Int.le_refl _
  | s :: r, h => by
    have a := rRm_p h3 r h.2.2
    have b := rR1_p (h := s.2.1) h3 h.2.1.2.2.2.2.2.1
    show 0 ≤ rR1 B s.2.1 s.2.2.1 s.2.2.2 + rRm B r
    omega
/-- a node's row, taken apart -/
theorem rEf_h {m : zM} {x : Int} {l : List Int} (h : rEf m x l) : ∃ (hd : Int) (as : List (List Int)), l = hd :: as.flatten ∧ rHf m x hd ∧ (as.length : Int) = m.1 69 x ∧ ∀ i : Nat, i < as.length → rEf m (m.1 70 (4 * x + i)) (as.getD i []) := by
  obtain ⟨k, h⟩ := h
  cases k with
  | zero => exact h.elim
  | succ k =>
    obtain ⟨hd, as, e1, e2, e3, e5⟩ := h
    exact ⟨hd, as, e1, e2, e3, fun i hi => ⟨k, e5 i hi⟩⟩
def rI (μ m : zM) (B : yB) (T : Int) (st : List pT) : Prop := (0 ≤ rO m ∧ rO m ≤ 1000) ∧ rS μ m B st ∧ pM (rO m + rRm B st) = pM T
/-- what is known of all nodes when one is written -/
def rWk (μ : zM) (B : yB) : Prop := rNm2 μ B ∧ (∀ h : Int, 0 ≤ h → h < B.1 0 0 → 0 ≤ B.1 3 h) ∧ (∀ x : Int, 0 ≤ x → x < zTop μ → zNd μ x) ∧ ∀ x h : Int, 0 ≤ x → x < zTop μ → rHf μ x h → 0 ≤ h → h < B.1 0 0 → μ.1 69 x = B.1 3 h
theorem rI_push {μ m0 m m3 : zM} {B : yB} {T x h y : Int} {i : Nat} {as : List (List Int)} {r : List pT} (K : rWk μ B) (H : rI μ m0 B T ((x, h, i, as) :: r)) (hi : i < as.length) (hm : rO m = pM (rO m0 + ((if i = 0 then yhc B h else 0) + (if 21 ≤ h then 0 else 1)))) (f106 : m.1 106 = m0.1 106) (f99 : m.1 99 = m0.1 99) (c106 : ∀ q : Int, m3.1 106 q = if q = (r.length : Int) + 1 then y else m.1 106 q) (c99 : ∀ q : Int, m3.1 99 q = if q = (r.length : Int) + 1 then 0 else if q = (r.length : Int) then (i : Int) + 1 else m.1 99 q) (hy : y = μ.1 70 (4 * x + i)) (ho : rO m3 = rO m) : ∃ s : pT, rI μ m3 B T (s :: (x, h, i + 1, as) :: r) := by
  obtain ⟨hp, ⟨⟨t1, t2⟩, ⟨hx, hH, hv, hl, hE, hil, hva⟩, sr⟩, hT⟩ := H
  have hx : 0 ≤ x ∧ x < zTop μ := hx
  have hl : (as.length : Int) = μ.1 69 x := hl
  have hH : rHf μ x h := hH
  have E := hE i hi
  have E : rEf μ (μ.1 70 (4 * x + i)) (as.getD i []) := E
  rw [← hy] at E
  obtain ⟨h', as', e1, e2, e3, e4⟩ := rEf_h E
  have nd := (K.2.2.1 x hx.1 hx.2).2.1 i (by omega) (by omega)
  rw [← hy] at nd
  have va := hva (as.getD i []) (rgd hi)
  rw [e1] at va
  have ar : 0 ≤ h → h < B.1 0 0 → (as.length : Int) = B.1 3 h := fun a b => hl.trans (K.2.2.2 x h hx.1 hx.2 hH a b)
  have pu := rR1_push (B := B) (h := h) hi K.1.2.2.1 hv ar
  have l1 : m3.1 106 ((((x, h, i + 1, as) :: r : List pT).length : Nat) : Int) = y := by rw [c106, List.length_cons, if_pos (by omega)]
  have l2 : m3.1 99 ((((x, h, i + 1, as) :: r : List pT).length : Nat) : Int) = 0 := by rw [c99, List.length_cons, if_pos (by omega)]
  have l3 : m3.1 106 (r.length : Int) = x := by rw [c106, if_neg (by omega), f106]; exact t1
  have l4 : m3.1 99 (r.length : Int) = ((i + 1 : Nat) : Int) := by rw [c99, if_neg (by omega), if_pos rfl]; rfl
  have sr' : rS μ m3 B r := rS_f r (fun k k0 k1 => ⟨by rw [c106, if_neg (by omega), f106], by rw [c99, if_neg (by omega), if_neg (by omega), f99]⟩) sr
  have yc : rR1 B h' 0 as' = yco B (as.getD i []) := by
    unfold rR1
    rw [if_pos rfl, e1, yco_c, yco_f]
  refine ⟨(y, h', 0, as'), by rw [ho, hm]; exact pM_b (by have := yhc_p B h; split <;> split <;> omega), ⟨⟨l1, l2⟩, ⟨⟨nd.1, by omega⟩, e2, va _ List.mem_cons_self, e3, e4, Nat.zero_le _, fun a ha z hz => va z (List.mem_cons_of_mem _ (List.mem_flatten.mpr ⟨a, ha, hz⟩))⟩, ⟨l3, l4⟩, ⟨hx, hH, hv, hl, hE, hi, hva⟩, sr'⟩, ?_⟩
  have rp := rRm_p K.2.1 r sr
  have p1 := rR1_p (B := B) (h := h) (i := i + 1) (as := as) K.2.1 hi
  have p2 := yco_p K.2.1 (as.getD i [])
  rw [ho, hm, pM_a]
  · rw [← hT]
    show pM (rO m0 + ((if i = 0 then yhc B h else 0) + (if 21 ≤ h then 0 else 1)) + (rR1 B h' 0 as' + (rR1 B h (i + 1) as + rRm B r))) = pM (rO m0 + (rR1 B h i as + rRm B r))
    rw [yc, pu]
    exact congrArg pM (by omega)
  · show 0 ≤ rR1 B h' 0 as' + (rR1 B h (i + 1) as + rRm B r)
    rw [yc]
    omega
theorem rI_pop {μ m0 m : zM} {B : yB} {T x h : Int} {i : Nat} {as : List (List Int)} {r : List pT} (K : rWk μ B) (H : rI μ m0 B T ((x, h, i, as) :: r)) (hi : i = as.length) (hm : rO m = pM (rO m0 + (if i = 0 then yhc B h else (if 21 ≤ h then 0 else 1)))) (f106 : m.1 106 = m0.1 106) (f99 : m.1 99 = m0.1 99) : rI μ m B T r := by
  obtain ⟨hp, ⟨⟨t1, t2⟩, ⟨hx, hH, hv, hl, hE, hil, hva⟩, sr⟩, hT⟩ := H
  have hx : 0 ≤ x ∧ x < zTop μ := hx
  have hl : (as.length : Int) = μ.1 69 x := hl
  have ar : 0 ≤ h → h < B.1 0 0 → (as.length : Int) = B.1 3 h := fun a b => hl.trans (K.2.2.2 x h hx.1 hx.2 hH a b)
  have po := rR1_pop (B := B) hi ar
  have rp := rRm_p K.2.1 r sr
  refine ⟨by rw [hm]; exact pM_b (by have := yhc_p B h; split; omega; split <;> omega), rS_f r (fun k _ _ => ⟨by rw [f106], by rw [f99]⟩) sr, ?_⟩
  rw [hm, pM_a rp, ← hT]
  show _ = pM (rO m0 + (rR1 B h i as + rRm B r))
  rw [po]
  exact congrArg pM (by omega)
theorem rI_e {μ m : zM} {B : yB} {T : Int} {st : List pT} (K : rWk μ B) (H : rI μ m B T st) (q : st = [] ∨ 1000 ≤ rO m) : rO m = pM T := by
  obtain ⟨hp, hs, hT⟩ := H
  rcases q with q | q
  · subst q
    rw [← hT]
    show rO m = pM (rO m + 0)
    rw [show rO m + 0 = rO m by omega, pM_i hp.2]
  · have := rRm_p K.2.1 st hs
    rw [← hT]
    unfold pM
    rw [if_neg (by omega)]
    omega
def gk_X9_write : zC := fun As μ Q => ∃ (a1 : Int) (B : yB) (l : List Int), As = [.inr (.inr (66, 66)), .inl a1] ∧ (0 ≤ a1 ∧ a1 ≤ 19999) ∧ rWk μ B ∧ (a1 < zTop μ) ∧ rEf μ a1 l ∧ (∀ h ∈ l, yhv B h) ∧ (∀ (μ' : zM), zfx [96, 99, 106] [56] μ μ' → rO μ' = pM (yco B l) → Q none μ')
set_option maxHeartbeats 4000000 in
theorem gm_X9_write {g : zΓ} (hg : zg g) (d : Nat) (hd : 4 ≤ d) : zOk g d 177 gk_X9_write := by
  obtain ⟨d, rfl⟩ : ∃ d', d = d' + 1 := ⟨d - 1, by omega⟩
  refine zOk_loop hg (show mt_tab[177]? = some mt_X9_write from rfl) ([(23, [0, 2])], []) 106 rfl fun As μ Q hC => ?_
  obtain ⟨a1, B, l, rfl, ha1, KK, hp1, hE, hv, hQ⟩ := hC
  have hp0 := KK.2.2.1
  have nb := KK.1.2.2
  have z0 : zfx [96, 99, 106] [56] μ μ := zfx_x μ
  refine ⟨rfl, fun pc vs μ' n => ∃ (v2 : Int), vs = [.inr (.inr (66, 66)), .inl v2] ∧ zfx [96, 99, 106] [56] μ μ' ∧ (0 ≤ v2 ∧ v2 ≤ 20000) ∧ (zWi μ μ' a1 v2) ∧ (∃ st : List pT, v2 = (st.length : Int) ∧ rI μ μ' B (yco B l) st) ∧ n = (zws μ' (Int.toNat v2)), ?_, ?_, trivial⟩
  · refine And.intro ⟨by omega, by omega⟩ ?_
    intro m1 em1
    have z2 := zfx_f z0 em1 rfl
    refine And.intro ⟨by omega, by omega⟩ (And.intro ⟨by omega, by omega⟩ ?_)
    intro m3 em3
    have z4 := zfx_r z2 em3 rfl (by decide)
    refine And.intro ⟨by omega, by omega⟩ (And.intro ⟨by omega, by omega⟩ ?_)
    intro m5 em5
    have z6 := zfx_r z4 em5 rfl (by decide)
    have ST : ∃ st : List pT, (1 : Int) = (st.length : Int) ∧ rI μ m5 B (yco B l) st := by
      obtain ⟨h, as, e1, e2, e3, e4⟩ := rEf_h hE
      have O5 : rO m5 = 0 := by unfold rO; rw [em5, zu_ne (by decide), em3, zu_ne (by decide), em1, zu_at]
      refine ⟨[(a1, h, 0, as)], rfl, by omega, ⟨⟨?_, ?_⟩, ⟨⟨by omega, hp1⟩, e2, hv _ (by rw [e1]; exact List.mem_cons_self), e3, e4, Nat.zero_le _, fun a ha z hz => hv z (by rw [e1]; exact List.mem_cons_of_mem _ (List.mem_flatten.mpr ⟨a, ha, hz⟩))⟩, trivial⟩, ?_⟩
      · show m5.1 106 0 = a1
        rw [em5, zu_ne (by decide), em3, zu_at]
      · show m5.1 99 0 = 0
        rw [em5, zu_at]
      · rw [O5]
        show pM (0 + (rR1 B h 0 as + 0)) = _
        unfold rR1
        rw [if_pos rfl, e1, yco_c, yco_f]
        exact congrArg pM (by omega)
    refine Exists.intro (zws m5 (Int.toNat 1)) ?_
    exact ⟨_, rfl, z6, ⟨by omega, by omega⟩, (fun j a b => by rw [show j = 0 by omega, em5, zu_ne (by decide), em3, zu_at, zu_at]; exact ⟨⟨by omega, hp1, by omega⟩, by omega, (hp0 a1 (by omega) hp1).1.1⟩), ST, rfl⟩
  · intro vs m0 n hI
    clear z0
    obtain ⟨v2, rfl, z0, hv2, i0, ⟨st, hst, HR⟩, rfl⟩ := hI
    have HR' := HR
    refine And.intro ⟨by omega, by omega⟩ (And.intro (fun c7 => ?_) (fun c7 => ?_))
    · exact And.intro rfl (hQ _ z0 (rI_e KK HR (Or.inl (List.length_eq_zero_iff.mp (by omega)))))
    · intro x8 hx8 kx8 lx8
      have X8 : x8 = rO m0 := hx8
      refine And.intro ⟨⟨by omega, by omega⟩, ⟨by omega, by omega⟩⟩ (And.intro (fun c9 => ?_) (fun c9 => ?_))
      · exact And.intro rfl (hQ _ z0 (rI_e KK HR (Or.inr (by omega))))
      · refine And.intro ⟨by omega, by omega⟩ ?_
        intro x10 hx10 kx10 lx10
        cases st with
        | nil => exfalso; simp at hst; omega
        | cons s r =>
        obtain ⟨x, h, i, as⟩ := s
        rw [List.length_cons] at hst
        obtain ⟨hpr, ⟨⟨t1, t2⟩, ⟨hx, hH, hvh, hl, hEp, hil, hva⟩, sr⟩, hTT⟩ := HR'
        have t1 : m0.1 106 (r.length : Int) = x := t1
        have t2 : m0.1 99 (r.length : Int) = (i : Int) := t2
        have hH : rHf μ x h := hH
        have hvh : yhv B h := hvh
        have hl : (as.length : Int) = μ.1 69 x := hl
        have hil : i ≤ as.length := hil
        have X10 : x10 = x := by rw [hx10, show v2 - 1 = (r.length : Int) by omega]; exact t1
        have kd : (μ.1 67 x = 0 → h < 21) ∧ (μ.1 67 x ≠ 0 → 21 ≤ h) := by unfold rHf rHd at hH; unfold yhv at hvh; omega
        have yh := yhc_p B h
        have HL := i0 (v2 - 1) (by omega) (by omega)
        rw [← hx10] at HL
        have ND := hp0 x10 HL.1.1 HL.1.2.1
        refine And.intro ⟨by omega, by omega⟩ ?_
        intro x11 hx11 kx11 lx11
        rw [← hx11] at HL
        have X11 : x11 = (i : Int) := by rw [hx11, show v2 - 1 = (r.length : Int) by omega]; exact t2
        refine And.intro ⟨by omega, by omega⟩ (And.intro (fun c12 => ?_) (fun c12 => ?_))
        · refine And.intro ⟨by omega, by omega⟩ ?_
          intro x13 hx13 kx13 lx13
          rw [show m0.1 69 = μ.1 69 from z0.1 69 (by decide) rfl] at hx13
          have X13 : x13 = (as.length : Int) := by rw [hx13, X10]; exact hl.symm
          refine And.intro ⟨⟨by omega, by omega⟩, ⟨by omega, by omega⟩⟩ (And.intro (fun c14 => ?_) (fun c14 => ?_))
          · refine And.intro ⟨by omega, by omega⟩ ?_
            intro x15 hx15 kx15 lx15
            rw [show m0.1 67 = μ.1 67 from z0.1 67 (by decide) rfl, X10] at hx15
            refine And.intro ⟨by omega, by omega⟩ (And.intro (fun c16 => ?_) (fun c16 => ?_))
            · have P0 := ND.2.1 x11 (by omega) (by omega)
              refine And.intro ⟨by omega, by omega⟩ (And.intro ⟨by omega, by omega⟩ ?_)
              intro m17 em17
              have z18 := zfx_r z0 em17 rfl (by decide)
              refine And.intro ⟨by omega, by omega⟩ ?_
              intro x19 hx19 kx19 lx19
              rw [show m17.1 70 = μ.1 70 from z18.1 70 (by decide) rfl] at hx19
              refine And.intro ⟨by omega, by omega⟩ (And.intro ⟨by omega, by omega⟩ ?_)
              intro m20 em20
              have z21 := zfx_r z18 em20 rfl (by decide)
              refine And.intro ⟨by omega, by omega⟩ (And.intro ⟨by omega, by omega⟩ ?_)
              intro m22 em22
              have z23 := zfx_r z21 em22 rfl (by decide)
              have R := zW_push hp0 i0 (by omega) hx10 hx11 (by omega) (by rw [hx19]) rfl rfl em17 (by omega) em20 em22
              have c106 : ∀ q : Int, m22.1 106 q = if q = (r.length : Int) + 1 then x19 else m0.1 106 q := fun q => by rw [em22, zu_ne (by decide), em20, show v2 = (r.length : Int) + 1 by omega, zu_if, em17, zu_ne (by decide)]
              have c99 : ∀ q : Int, m22.1 99 q = if q = (r.length : Int) + 1 then 0 else if q = (r.length : Int) then (i : Int) + 1 else m0.1 99 q := fun q => by rw [em22, show v2 = (r.length : Int) + 1 by omega, zu_if, em20, zu_ne (by decide), em17, show v2 - 1 = (r.length : Int) by omega, X11, zu_if]
              have RI := rI_push (m := m0) (m3 := m22) (y := x19) KK HR (by omega) (by rw [if_neg (by omega), if_pos (kd.2 (by omega))]; rw [show rO m0 + (0 + 0) = rO m0 by omega, pM_i hpr.2]) rfl rfl c106 c99 (by rw [hx19, X10, X11]) (by unfold rO; rw [em22, zu_ne (by decide), em20, zu_ne (by decide), em17, zu_ne (by decide)])
              obtain ⟨s', RI⟩ := RI
              refine Exists.intro (zws m22 (Int.toNat (v2 + 1))) (And.intro R.2.1 ?_)
              exact ⟨_, rfl, z23, ⟨by omega, by omega⟩, R.1, ⟨_, by rw [List.length_cons, List.length_cons]; omega, RI⟩, rfl⟩
            · refine And.intro ⟨by omega, by omega⟩ (And.intro (fun c24 => ?_) (fun c24 => ?_))
              · refine ⟨gk_X9_sign, gm_X9_sign hg d (by omega), _, rfl, ⟨by omega, by omega⟩, hpr, ?_⟩
                intro m25 qm25 l25
                have z26 := zfx_t z0 qm25 rfl rfl
                have P0 := ND.2.1 x11 (by omega) (by omega)
                refine And.intro ⟨by omega, by omega⟩ (And.intro ⟨by omega, by omega⟩ ?_)
                intro m27 em27
                have z28 := zfx_r z26 em27 rfl (by decide)
                refine And.intro ⟨by omega, by omega⟩ ?_
                intro x29 hx29 kx29 lx29
                rw [show m27.1 70 = μ.1 70 from z28.1 70 (by decide) rfl] at hx29
                refine And.intro ⟨by omega, by omega⟩ (And.intro ⟨by omega, by omega⟩ ?_)
                intro m30 em30
                have z31 := zfx_r z28 em30 rfl (by decide)
                refine And.intro ⟨by omega, by omega⟩ (And.intro ⟨by omega, by omega⟩ ?_)
                intro m32 em32
                have z33 := zfx_r z31 em32 rfl (by decide)
                have R := zW_push hp0 i0 (by omega) hx10 hx11 (by omega) (by rw [hx29]) (by rw [qm25.1 106 (by decide) rfl]) (by rw [qm25.1 99 (by decide) rfl]) em27 (by omega) em30 em32
                have c106 : ∀ q : Int, m32.1 106 q = if q = (r.length : Int) + 1 then x29 else m25.1 106 q := fun q => by rw [em32, zu_ne (by decide), em30, show v2 = (r.length : Int) + 1 by omega, zu_if, em27, zu_ne (by decide)]
                have c99 : ∀ q : Int, m32.1 99 q = if q = (r.length : Int) + 1 then 0 else if q = (r.length : Int) then (i : Int) + 1 else m25.1 99 q := fun q => by rw [em32, show v2 = (r.length : Int) + 1 by omega, zu_if, em30, zu_ne (by decide), em27, show v2 - 1 = (r.length : Int) by omega, X11, zu_if]
                have RI := rI_push (m := m25) (m3 := m32) (y := x29) KK HR (by omega) (by rw [l25, if_neg (by omega), if_neg (by have := kd.1 (by omega); omega)]; exact congrArg pM (by omega)) (qm25.1 106 (by decide) rfl) (qm25.1 99 (by decide) rfl) c106 c99 (by rw [hx29, X10, X11]) (by unfold rO; rw [em32, zu_ne (by decide), em30, zu_ne (by decide), em27, zu_ne (by decide)])
                obtain ⟨s', RI⟩ := RI
                refine Exists.intro (zws m32 (Int.toNat (v2 + 1))) (And.intro R.2.1 ?_)
                exact ⟨_, rfl, z33, ⟨by omega, by omega⟩, R.1, ⟨_, by rw [List.length_cons, List.length_cons]; omega, RI⟩, rfl⟩
              · exfalso; omega
          · refine And.intro ⟨by omega, by omega⟩ ?_
            intro x43 hx43 kx43 lx43
            rw [show m0.1 67 = μ.1 67 from z0.1 67 (by decide) rfl, X10] at hx43
            refine And.intro ⟨by omega, by omega⟩ (And.intro (fun c44 => ?_) (fun c44 => ?_))
            · refine Exists.intro (zws m0 (Int.toNat (v2 + (-1)))) (And.intro (zW_pop i0 (by omega) (by rw [← hx10]; exact ND.1.2) rfl rfl).2 ?_)
              exact ⟨_, rfl, z0, ⟨by omega, by omega⟩, (zW_pop i0 (by omega) (by rw [← hx10]; exact ND.1.2) rfl rfl).1, ⟨r, by omega, rI_pop KK HR (by omega) (by rw [if_neg (by omega), if_pos (kd.2 (by omega)), show rO m0 + 0 = rO m0 by omega, pM_i hpr.2]) rfl rfl⟩, rfl⟩
            · refine And.intro ⟨by omega, by omega⟩ (And.intro (fun c45 => ?_) (fun c45 => ?_))
              · exfalso; omega
              · refine ⟨gk_X9_sign, gm_X9_sign hg d (by omega), _, rfl, ⟨by omega, by omega⟩, hpr, ?_⟩
                intro m46 qm46 l46
                have z47 := zfx_t z0 qm46 rfl rfl
                refine Exists.intro (zws m46 (Int.toNat (v2 + (-1)))) (And.intro (zW_pop i0 (by omega) (by rw [← hx10]; exact ND.1.2) (by rw [qm46.1 106 (by decide) rfl]) (by rw [qm46.1 99 (by decide) rfl])).2 ?_)
                exact ⟨_, rfl, z47, ⟨by omega, by omega⟩, (zW_pop i0 (by omega) (by rw [← hx10]; exact ND.1.2) (by rw [qm46.1 106 (by decide) rfl]) (by rw [qm46.1 99 (by decide) rfl])).1, ⟨r, by omega, rI_pop KK HR (by omega) (by rw [l46, if_neg (by omega), if_neg (by have := kd.1 (by omega); omega)]) (qm46.1 106 (by decide) rfl) (qm46.1 99 (by decide) rfl)⟩, rfl⟩
        · refine ⟨gk_X9_head, gm_X9_head hg d (by omega), x10, B, h, rfl, ⟨by omega, by omega⟩, (by rw [X10]; unfold rHf rHd; rw [show m0.1 67 = μ.1 67 from z0.1 67 (by decide) rfl, show m0.1 68 = μ.1 68 from z0.1 68 (by decide) rfl]; exact hH), hvh, rNm2_f KK.1 (z0.1 3000075 (by decide) rfl) (z0.1 3000081 (by decide) rfl), hpr, ?_⟩
          intro m48 qm48 l48
          have z49 := zfx_t z0 qm48 rfl rfl
          refine And.intro ⟨by omega, by omega⟩ ?_
          intro x50 hx50 kx50 lx50
          rw [show m48.1 69 = μ.1 69 from z49.1 69 (by decide) rfl] at hx50
          have X50 : x50 = (as.length : Int) := by rw [hx50, X10]; exact hl.symm
          refine And.intro ⟨⟨by omega, by omega⟩, ⟨by omega, by omega⟩⟩ (And.intro (fun c51 => ?_) (fun c51 => ?_))
          · refine And.intro ⟨by omega, by omega⟩ ?_
            intro x52 hx52 kx52 lx52
            rw [show m48.1 67 = μ.1 67 from z49.1 67 (by decide) rfl, X10] at hx52
            refine And.intro ⟨by omega, by omega⟩ (And.intro (fun c53 => ?_) (fun c53 => ?_))
            · have P0 := ND.2.1 x11 (by omega) (by omega)
              refine And.intro ⟨by omega, by omega⟩ (And.intro ⟨by omega, by omega⟩ ?_)
              intro m54 em54
              have z55 := zfx_r z49 em54 rfl (by decide)
              refine And.intro ⟨by omega, by omega⟩ ?_
              intro x56 hx56 kx56 lx56
              rw [show m54.1 70 = μ.1 70 from z55.1 70 (by decide) rfl] at hx56
              refine And.intro ⟨by omega, by omega⟩ (And.intro ⟨by omega, by omega⟩ ?_)
              intro m57 em57
              have z58 := zfx_r z55 em57 rfl (by decide)
              refine And.intro ⟨by omega, by omega⟩ (And.intro ⟨by omega, by omega⟩ ?_)
              intro m59 em59
              have z60 := zfx_r z58 em59 rfl (by decide)
              have R := zW_push hp0 i0 (by omega) hx10 hx11 (by omega) (by rw [hx56]) (by rw [qm48.1 106 (by decide) rfl]) (by rw [qm48.1 99 (by decide) rfl]) em54 (by omega) em57 em59
              have c106 : ∀ q : Int, m59.1 106 q = if q = (r.length : Int) + 1 then x56 else m48.1 106 q := fun q => by rw [em59, zu_ne (by decide), em57, show v2 = (r.length : Int) + 1 by omega, zu_if, em54, zu_ne (by decide)]
              have c99 : ∀ q : Int, m59.1 99 q = if q = (r.length : Int) + 1 then 0 else if q = (r.length : Int) then (i : Int) + 1 else m48.1 99 q := fun q => by rw [em59, show v2 = (r.length : Int) + 1 by omega, zu_if, em57, zu_ne (by decide), em54, show v2 - 1 = (r.length : Int) by omega, X11, zu_if]
              have RI := rI_push (m := m48) (m3 := m59) (y := x56) KK HR (by omega) (by rw [l48, if_pos (by omega), if_pos (kd.2 (by omega))]; exact congrArg pM (by omega)) (qm48.1 106 (by decide) rfl) (qm48.1 99 (by decide) rfl) c106 c99 (by rw [hx56, X10, X11]) (by unfold rO; rw [em59, zu_ne (by decide), em57, zu_ne (by decide), em54, zu_ne (by decide)])
              obtain ⟨s', RI⟩ := RI
              refine Exists.intro (zws m59 (Int.toNat (v2 + 1))) (And.intro R.2.1 ?_)
              exact ⟨_, rfl, z60, ⟨by omega, by omega⟩, R.1, ⟨_, by rw [List.length_cons, List.length_cons]; omega, RI⟩, rfl⟩
            · refine And.intro ⟨by omega, by omega⟩ (And.intro (fun c61 => ?_) (fun c61 => ?_))
              · exfalso; omega
              · refine ⟨gk_X9_sign, gm_X9_sign hg d (by omega), _, rfl, ⟨by omega, by omega⟩, (by rw [l48]; exact pM_b (by omega)), ?_⟩
                intro m62 qm62 l62
                have z63 := zfx_t z49 qm62 rfl rfl
                have P0 := ND.2.1 x11 (by omega) (by omega)
                refine And.intro ⟨by omega, by omega⟩ (And.intro ⟨by omega, by omega⟩ ?_)
                intro m64 em64
                have z65 := zfx_r z63 em64 rfl (by decide)
                refine And.intro ⟨by omega, by omega⟩ ?_
                intro x66 hx66 kx66 lx66
                rw [show m64.1 70 = μ.1 70 from z65.1 70 (by decide) rfl] at hx66
                refine And.intro ⟨by omega, by omega⟩ (And.intro ⟨by omega, by omega⟩ ?_)
                intro m67 em67
                have z68 := zfx_r z65 em67 rfl (by decide)
                refine And.intro ⟨by omega, by omega⟩ (And.intro ⟨by omega, by omega⟩ ?_)
                intro m69 em69
                have z70 := zfx_r z68 em69 rfl (by decide)
                have R := zW_push hp0 i0 (by omega) hx10 hx11 (by omega) (by rw [hx66]) (by rw [qm62.1 106 (by decide) rfl, qm48.1 106 (by decide) rfl]) (by rw [qm62.1 99 (by decide) rfl, qm48.1 99 (by decide) rfl]) em64 (by omega) em67 em69
                have c106 : ∀ q : Int, m69.1 106 q = if q = (r.length : Int) + 1 then x66 else m62.1 106 q := fun q => by rw [em69, zu_ne (by decide), em67, show v2 = (r.length : Int) + 1 by omega, zu_if, em64, zu_ne (by decide)]
                have c99 : ∀ q : Int, m69.1 99 q = if q = (r.length : Int) + 1 then 0 else if q = (r.length : Int) then (i : Int) + 1 else m62.1 99 q := fun q => by rw [em69, show v2 = (r.length : Int) + 1 by omega, zu_if, em67, zu_ne (by decide), em64, show v2 - 1 = (r.length : Int) by omega, X11, zu_if]
                have RI := rI_push (m := m62) (m3 := m69) (y := x66) KK HR (by omega) (by rw [l62, l48, pM_a (by omega), if_pos (by omega), if_neg (by have := kd.1 (by omega); omega)]; exact congrArg pM (by omega)) ((qm62.1 106 (by decide) rfl).trans (qm48.1 106 (by decide) rfl)) ((qm62.1 99 (by decide) rfl).trans (qm48.1 99 (by decide) rfl)) c106 c99 (by rw [hx66, X10, X11]) (by unfold rO; rw [em69, zu_ne (by decide), em67, zu_ne (by decide), em64, zu_ne (by decide)])
                obtain ⟨s', RI⟩ := RI
                refine Exists.intro (zws m69 (Int.toNat (v2 + 1))) (And.intro R.2.1 ?_)
                exact ⟨_, rfl, z70, ⟨by omega, by omega⟩, R.1, ⟨_, by rw [List.length_cons, List.length_cons]; omega, RI⟩, rfl⟩
          · refine And.intro ⟨by omega, by omega⟩ ?_
            intro x71 hx71 kx71 lx71
            rw [show m48.1 67 = μ.1 67 from z49.1 67 (by decide) rfl, X10] at hx71
            refine And.intro ⟨by omega, by omega⟩ (And.intro (fun c72 => ?_) (fun c72 => ?_))
            · refine Exists.intro (zws m48 (Int.toNat (v2 + (-1)))) (And.intro (zW_pop i0 (by omega) (by rw [← hx10]; exact ND.1.2) (by rw [qm48.1 106 (by decide) rfl]) (by rw [qm48.1 99 (by decide) rfl])).2 ?_)
              exact ⟨_, rfl, z49, ⟨by omega, by omega⟩, (zW_pop i0 (by omega) (by rw [← hx10]; exact ND.1.2) (by rw [qm48.1 106 (by decide) rfl]) (by rw [qm48.1 99 (by decide) rfl])).1, ⟨r, by omega, rI_pop KK HR (by omega) (by rw [l48, if_pos (by omega)]) (qm48.1 106 (by decide) rfl) (qm48.1 99 (by decide) rfl)⟩, rfl⟩
            · refine And.intro ⟨by omega, by omega⟩ (And.intro (fun c73 => ?_) (fun c73 => ?_))
              · refine Exists.intro (zws m48 (Int.toNat (v2 + (-1)))) (And.intro (zW_pop i0 (by omega) (by rw [← hx10]; exact ND.1.2) (by rw [qm48.1 106 (by decide) rfl]) (by rw [qm48.1 99 (by decide) rfl])).2 ?_)
                exact ⟨_, rfl, z49, ⟨by omega, by omega⟩, (zW_pop i0 (by omega) (by rw [← hx10]; exact ND.1.2) (by rw [qm48.1 106 (by decide) rfl]) (by rw [qm48.1 99 (by decide) rfl])).1, ⟨r, by omega, rI_pop KK HR (by omega) (by rw [l48, if_pos (by omega)]) (qm48.1 106 (by decide) rfl) (qm48.1 99 (by decide) rfl)⟩, rfl⟩
              · exfalso; omega
