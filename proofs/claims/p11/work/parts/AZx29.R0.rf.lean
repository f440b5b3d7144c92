/-! ### the reference's nodes with NEW variables among them: their rows of heads -/
def rHf (m : zM) (x h : Int) : Prop := rHd m x h ∨ (m.1 67 x = 2 ∧ h = 300 + m.1 68 x ∧ 0 ≤ m.1 68 x)
def rCf (m : zM) : Nat → Int → List Int → Prop
  | 0, _, _ => False
  | k + 1, x, l => ∃ (h : Int) (as : List (List Int)), l = h :: as.flatten ∧ rHf m x h ∧ (as.length : Int) = m.1 69 x ∧ ∀ i : Nat, i < as.length → rCf m k (m.1 70 (4 * x + i)) (as.getD i [])
def rEf (m : zM) (x : Int) (l : List Int) : Prop := ∃ k, rCf m k x l
theorem rCf_of {m : zM} : ∀ (k : Nat) (x : Int) (l : List Int), rC m k x l → rCf m k x l
  | 0, _, _, h => h.elim
  | k + 1, x, l, ⟨h, as, e1, e2, e3, e5⟩ => ⟨h, as, e1, Or.inl e2, e3, fun i hi => rCf_of k _ _ (e5 i hi)⟩
theorem rEf_of {m : zM} {x : Int} {l : List Int} (h : rE m x l) : rEf m x l := by
  obtain ⟨k, h⟩ := h
  exact ⟨k, rCf_of k x l h⟩
theorem rCf_up {m : zM} : ∀ (k : Nat) (x : Int) (l : List Int), rCf m k x l → rCf m (k + 1) x l
  | 0, _, _, h => h.elim
  | k + 1, x, l, ⟨h, as, e1, e2, e3, e5⟩ => ⟨h, as, e1, e2, e3, fun i hi => rCf_up k _ _ (e5 i hi)⟩
theorem rCf_le {m : zM} {k j : Nat} {x : Int} {l : List Int} (h : rCf m k x l) (hj : k ≤ j) : rCf m j x l := by
  induction j with
  | zero => have : k = 0 := by omega
            subst this; exact h
  | succ j ih =>
    by_cases q : k = j + 1
    · rw [← q]; exact h
    · exact rCf_up j x l (ih (by omega))
theorem rCf_old {μ m : zM} {T : Int} (ho : zOld μ m T) (nd : ∀ x : Int, 0 ≤ x → x < T → zNd μ x) : ∀ (k : Nat) (x : Int) (l : List Int), 0 ≤ x → x < T → rCf μ k x l → rCf m k x l
  | 0, _, _, _, _, h => h.elim
  | k + 1, x, l, x0, x1, ⟨h, as, e1, e2, e3, e5⟩ => by
    obtain ⟨o1, o2, o3, o4, o5⟩ := ho x x0 x1
    have N := nd x x0 x1
    refine ⟨h, as, e1, by unfold rHf rHd; rw [o1, o2]; exact e2, by rw [o3]; exact e3, fun i hi => ?_⟩
    have c := N.2.1 i (by omega) (by omega)
    have N4 := N.1.2
    rw [o5 i (by omega) (by omega)]
    exact rCf_old ho nd k _ _ c.1 (by omega) (e5 i hi)
theorem rEf_old {μ m : zM} {T : Int} (ho : zOld μ m T) (nd : ∀ x : Int, 0 ≤ x → x < T → zNd μ x) {x : Int} {l : List Int} (x0 : 0 ≤ x) (x1 : x < T) (h : rEf μ x l) : rEf m x l := by
  obtain ⟨k, h⟩ := h
  exact ⟨k, rCf_old ho nd k x l x0 x1 h⟩
theorem rEf_c {μ m : zM} (hc : ∀ j : Nat, 67 ≤ j → j ≤ 70 → m.1 j = μ.1 j) {x : Int} {l : List Int} (h : rEf μ x l) : rEf m x l := by
  obtain ⟨k, h⟩ := h
  refine ⟨k, ?_⟩
  induction k generalizing x l with
  | zero => exact h.elim
  | succ k ih =>
    obtain ⟨h, as, e1, e2, e3, e5⟩ := h
    refine ⟨h, as, e1, by unfold rHf rHd; rw [hc 67 (by decide) (by decide), hc 68 (by decide) (by decide)]; exact e2, by rw [hc 69 (by decide) (by decide)]; exact e3, fun i hi => ?_⟩
    rw [hc 70 (by decide) (by decide)]
    exact ih (e5 i hi)
theorem rEf_mk {m : zM} {v h n : Int} {as : List (List Int)} (hh : rHf m v h) (hn : m.1 69 v = n) (hl : (as.length : Int) = n) (ha : ∀ i : Nat, i < as.length → rEf m (m.1 70 (4 * v + i)) (as.getD i [])) : rEf m v (h :: as.flatten) := by
  obtain ⟨K, hK⟩ := tk_all (P := fun i k => rCf m k (m.1 70 (4 * v + i)) (as.getD i [])) (fun i k j hj h => rCf_le h hj) as.length ha
  exact ⟨K + 1, h, as, rfl, hh, by rw [hn]; exact hl, hK⟩
/-- with others in its PARAMETERS' place -/
theorem rEf_sub {m : zM} {f n w lo T : Int} {as : List (List Int)} (wf : rLo m lo T) (h1 : ∀ x : Int, lo ≤ x → x < T → m.1 67 x = 1 → m.1 69 x = 0) (hn : n = as.length) (ha : ∀ j : Nat, j < as.length → rEf m (m.1 70 (4 * w + j)) (as.getD j [])) : ∀ (k : Nat) (x y : Int) (l : List Int), lo ≤ x → x < T → rC m k x l → zSR m f n w x y → rEf m y (ysub f as l)
  | 0, _, _, _, _, _, h, _ => h.elim
  | k + 1, x, y, l, x0, x1, ⟨h, bs, e1, e2, e3, e5⟩, hs => by
    rcases zSR_st hs with ⟨c1, c2, c3, c4⟩ | ⟨c1, c2, c3, c4, c5⟩
    · have hh : h = 32 + m.1 68 x ∧ 0 ≤ m.1 68 x ∧ m.1 68 x < 80 := by unfold rHd at e2; omega
      have hz : bs = [] := List.length_eq_zero_iff.mp (by have := h1 x x0 x1 c1; omega)
      have hj := ha (m.1 68 x - f).toNat (by omega)
      rw [show (((m.1 68 x - f).toNat : Nat) : Int) = m.1 68 x - f by omega, ← c4] at hj
      rw [e1, hz]
      have : ysub f as (h :: ([] : List (List Int)).flatten) = as.getD (m.1 68 x - f).toNat [] := by
        show (if 32 ≤ h ∧ h < 112 then as.getD (h - 32 - f).toNat [] else [h]) ++ [] = _
        rw [if_pos (by omega), List.append_nil, show h - 32 - f = m.1 68 x - f by omega]
      rw [this]
      exact hj
    · have hh : ¬ (32 ≤ h ∧ h < 112) := by unfold rHd at e2; omega
      have hb : ∀ i : Nat, i < bs.length → rEf m (m.1 70 (4 * y + i)) (ysub f as (bs.getD i [])) := fun i hi => rEf_sub wf h1 hn ha k _ _ _ (wf x x0 x1 i (by omega) (by omega)).1 (wf x x0 x1 i (by omega) (by omega)).2 (e5 i hi) (c5 i (by omega) (by omega))
      rw [e1, ysub_h hh]
      refine rEf_mk (n := m.1 69 x) (Or.inl (by unfold rHd at e2 ⊢; omega)) c4 (by rw [List.length_map]; exact e3) (fun i hi => ?_)
      rw [List.length_map] at hi
      rw [tg_m hi]
      exact hb i hi
/-! ### the reference writes -/
def rO (μ : zM) : Int := μ.1 66 ((56 : Nat) : Int)
def gk_X9_sign : zC := fun As μ Q => ∃ (a1 : Int), As = [.inr (.inr (66, 66)), .inl a1] ∧ ((-2147483648) ≤ a1 ∧ a1 ≤ 2147483647) ∧ (0 ≤ rO μ ∧ rO μ ≤ 1000) ∧ (∀ (μ' : zM), zfx [96] [56] μ μ' → rO μ' = pM (rO μ + 1) → Q none μ')
set_option maxHeartbeats 4000000 in
theorem gm_X9_sign {g : zΓ} (hg : zg g) (d : Nat) (hd : 1 ≤ d) : zOk g d 174 gk_X9_sign := by
  obtain ⟨d, rfl⟩ : ∃ d', d = d' + 1 := ⟨d - 1, by omega⟩
  refine zOk_straight hg (show mt_tab[174]? = some mt_X9_sign from rfl) [] 23 rfl fun As μ Q hC => ?_
  obtain ⟨a1, rfl, ha1, hp, hQ⟩ := hC
  refine ⟨rfl, ?_⟩
  have z0 : zfx [96] [56] μ μ := zfx_x μ
  intro x2 hx2 kx2 lx2
  have X2 : x2 = rO μ := hx2
  refine And.intro ⟨⟨by omega, by omega⟩, ⟨by omega, by omega⟩⟩ (And.intro (fun c3 => ?_) (fun c3 => ?_))
  · exact And.intro rfl (hQ _ z0 (by unfold pM; rw [if_neg (by omega)]; omega))
  · intro x4 hx4 kx4 lx4
    have X4 : x4 = rO μ := hx4
    intro x5 hx5 kx5 lx5
    have bx5 := zi2b (Int32.ofInt a1)
    refine And.intro ⟨by omega, by omega⟩ (And.intro ⟨by omega, by omega⟩ ?_)
    intro m6 em6
    have z7 := zfx_r z0 em6 rfl (by decide)
    intro x9 hx9 kx9 lx9
    have X9 : x9 = rO μ := by rw [hx9, em6, zu_ne (by decide)]; rfl
    refine And.intro ⟨by omega, by omega⟩ ?_
    intro m10 em10
    have z11 := zfx_f z7 em10 rfl
    refine And.intro rfl (hQ _ z11 ?_)
    show m10.1 66 ((56 : Nat) : Int) = _
    rw [em10, zu_at, X9, pM_i (by omega)]
def gk_X9_signs : zC := fun As μ Q => ∃ (a1 : Int64), As = [.inr (.inr (66, 66)), .inr (.inl a1)] ∧ (0 ≤ rO μ ∧ rO μ ≤ 1000) ∧ (∀ (μ' : zM), zfx [96] [56] μ μ' → rO μ' = pM (rO μ + yNl a1 8) → Q none μ')
set_option maxHeartbeats 4000000 in
theorem gm_X9_signs {g : zΓ} (hg : zg g) (d : Nat) (hd : 2 ≤ d) : zOk g d 175 gk_X9_signs := by
  obtain ⟨d, rfl⟩ : ∃ d', d = d' + 1 := ⟨d - 1, by omega⟩
  refine zOk_loop hg (show mt_tab[175]? = some mt_X9_signs from rfl) ([(3, [0, 1, 3])], []) 24 rfl fun As μ Q hC => ?_
  obtain ⟨a1, rfl, hp, hQ⟩ := hC
  have mo := yNl_m a1
  have n0 := yNl_p a1
  have z0 : zfx [96] [56] μ μ := zfx_x μ
  refine ⟨rfl, fun pc vs μ' n => ∃ (v3 : Int) (j : Int), vs = [.inr (.inr (66, 66)), .inr (.inl a1), .inl v3] ∧ v3 = 8 * j ∧ (-1 ≤ j ∧ j ≤ 7) ∧ zfx [96] [56] μ μ' ∧ rO μ' = pM (rO μ + (yNl a1 8 - yNl a1 (j + 1).toNat)) ∧ n = (Int.toNat (v3 + 9)), ?_, ?_, trivial⟩
  · refine Exists.intro (Int.toNat (56 + 9)) ?_
    exact ⟨_, 7, rfl, by omega, ⟨by omega, by omega⟩, z0, by rw [show ((7 : Int) + 1).toNat = 8 by decide, show rO μ + (yNl a1 8 - yNl a1 8) = rO μ by omega, pM_i hp.2], rfl⟩
  · intro vs m0 n hI
    clear z0
    obtain ⟨v3, j, rfl, rfl, hj, z0, L0, rfl⟩ := hI
    have mo3 := mo (j + 1).toNat (8 - (j + 1).toNat)
    rw [show (j + 1).toNat + (8 - (j + 1).toNat) = 8 by omega] at mo3
    have B0 : 0 ≤ rO m0 ∧ rO m0 ≤ 1000 := by rw [L0]; exact pM_b (by omega)
    refine And.intro ⟨by omega, by omega⟩ (And.intro (fun c1 => ?_) (fun c1 => ?_))
    · refine And.intro rfl (hQ _ z0 ?_)
      rw [L0, show (j + 1).toNat = 0 by omega]
      show pM (rO μ + (yNl a1 8 - 0)) = _
      rw [show yNl a1 8 - 0 = yNl a1 8 by omega]
    · have es : yNl a1 (j + 1).toNat = yNl a1 j.toNat + (if rby a1 j = 0 then 0 else 1) := by
        rw [show (j + 1).toNat = j.toNat + 1 by omega]
        show yNl a1 j.toNat + (if rby a1 (j.toNat : Nat) = 0 then 0 else 1) = _
        rw [show ((j.toNat : Nat) : Int) = j by omega]
      intro x2 hx2 kx2 lx2
      intro x3 hx3 kx3 lx3
      have X3 : x3 = rby a1 j := by
        rw [hx3, hx2]
        rfl
      refine And.intro ⟨by omega, by omega⟩ (And.intro (fun c4 => ?_) (fun c4 => ?_))
      · refine Exists.intro (Int.toNat ((8 * j + (-8)) + 9)) (And.intro (by omega) ?_)
        refine ⟨_, j - 1, rfl, by omega, ⟨by omega, by omega⟩, z0, ?_, rfl⟩
        rw [if_pos (by omega)] at es
        rw [L0, es, show (j - 1 + 1).toNat = j.toNat by omega]
        exact congrArg pM (by omega)
      · refine ⟨gk_X9_sign, gm_X9_sign hg d (by omega), _, rfl, ⟨by omega, by omega⟩, B0, ?_⟩
        intro m5 z5 l5
        refine Exists.intro (Int.toNat ((8 * j + (-8)) + 9)) (And.intro (by omega) ?_)
        refine ⟨_, j - 1, rfl, by omega, ⟨by omega, by omega⟩, zfx_t z0 z5 rfl rfl, ?_, rfl⟩
        rw [if_neg (by omega)] at es
        rw [l5, L0, pM_a (by omega), show (j - 1 + 1).toNat = j.toNat by omega, es]
        exact congrArg pM (by omega)
/-- the reference's names -/
def rNm2 (μ : zM) (B : yB) : Prop := (∀ k : Int, 0 ≤ k → k < B.1 0 0 → μ.1 3000075 k = B.1 1 k) ∧ (∀ p : Int, 0 ≤ p → p < B.1 0 1 → μ.1 3000081 p = B.1 5 p) ∧ (B.1 0 0 ≤ 21 ∧ B.1 0 1 ≤ 80)
theorem rNm2_f {μ m : zM} {B : yB} (h : rNm2 μ B) (e1 : m.1 3000075 = μ.1 3000075) (e2 : m.1 3000081 = μ.1 3000081) : rNm2 m B := ⟨fun k a b => by rw [e1]; exact h.1 k a b, fun p a b => by rw [e2]; exact h.2.1 p a b, h.2.2⟩
def gk_X9_head : zC := fun As μ Q => ∃ (a1 : Int) (B : yB) (h : Int), As = [.inr (.inr (66, 66)), .inl a1] ∧ (0 ≤ a1 ∧ a1 ≤ 19999) ∧ rHf μ a1 h ∧ yhv B h ∧ rNm2 μ B ∧ (0 ≤ rO μ ∧ rO μ ≤ 1000) ∧ (∀ (μ' : zM), zfx [96] [56] μ μ' → rO μ' = pM (rO μ + yhc B h) → Q none μ')
set_option maxHeartbeats 1000000 in
theorem gm_X9_head {g : zΓ} (hg : zg g) (d : Nat) (hd : 3 ≤ d) : zOk g d 176 gk_X9_head := by
  obtain ⟨d, rfl⟩ : ∃ d', d = d' + 1 := ⟨d - 1, by omega⟩
  refine zOk_straight hg (show mt_tab[176]? = some mt_X9_head from rfl) [91, 111, 122] 101 rfl fun As μ Q hC => ?_
  obtain ⟨a1, B, h, rfl, ha1, hH, hv, hN, hp, hQ⟩ := hC
  refine ⟨rfl, ?_⟩
  have nb := hN.2.2
  have z0 : zfx [96] [56] μ μ := zfx_x μ
  refine And.intro ⟨by omega, by omega⟩ ?_
  intro x1 hx1 kx1 lx1
  unfold rHf rHd at hH
  unfold yhv at hv
  refine And.intro ⟨by omega, by omega⟩ (And.intro (fun c2 => ?_) (fun c2 => ?_))
  · refine And.intro ⟨by omega, by omega⟩ ?_
    intro x3 hx3 kx3 lx3
    refine And.intro ⟨⟨by omega, by omega⟩, ⟨by omega, by omega⟩⟩ (And.intro (fun c4 => ?_) (fun c4 => ?_))
    · refine And.intro ⟨by omega, by omega⟩ ?_
      intro x5 hx5 kx5 lx5
      refine And.intro ⟨⟨by omega, by omega⟩, ⟨by omega, by omega⟩⟩ (And.intro (fun c6 => ?_) (fun c6 => ?_))
      · have hw : 200 ≤ h ∧ h ≤ 202 := by omega
        refine ⟨gk_X9_sign, gm_X9_sign hg d (by omega), _, rfl, ⟨by omega, by omega⟩, hp, ?_⟩
        intro m7 qm7 l7
        have z8 := zfx_t z0 qm7 rfl rfl
        have e67 : m7.1 67 = μ.1 67 := z8.1 67 (by decide) rfl
        refine And.intro ⟨by omega, by omega⟩ ?_
        intro x9 hx9 kx9 lx9
        rw [e67] at hx9
        refine And.intro ⟨⟨by omega, by omega⟩, ⟨by omega, by omega⟩⟩ (And.intro (fun c10 => ?_) (fun c10 => ?_))
        · exact And.intro rfl (hQ _ z8 (by rw [l7]; unfold yhc; rw [if_neg (by omega), if_neg (by omega), if_pos (by omega)]))
        · have fin : ∀ m : zM, rO m = pM (rO m7 + 1) → rO m = pM (rO μ + yhc B h) := fun m l => by
            rw [l, l7, pM_a (by omega)]
            unfold yhc
            rw [if_neg (by omega), if_neg (by omega), if_neg (by omega), if_pos (by omega)]
            exact congrArg pM (by omega)
          refine And.intro ⟨by omega, by omega⟩ ?_
          intro x11 hx11 kx11 lx11
          refine And.intro ⟨⟨by omega, by omega⟩, ⟨by omega, by omega⟩⟩ (And.intro (fun c12 => ?_) (fun c12 => ?_))
          · refine ⟨gk_X9_sign, gm_X9_sign hg d (by omega), _, rfl, ⟨by omega, by omega⟩, by rw [l7]; exact pM_b (by omega), ?_⟩
            intro m13 qm13 l13
            exact And.intro rfl (hQ _ (zfx_t z8 qm13 rfl rfl) (fin m13 l13))
          · refine ⟨gk_X9_sign, gm_X9_sign hg d (by omega), _, rfl, ⟨by omega, by omega⟩, by rw [l7]; exact pM_b (by omega), ?_⟩
            intro m15 qm15 l15
            exact And.intro rfl (hQ _ (zfx_t z8 qm15 rfl rfl) (fin m15 l15))
      · have hf : h = 300 + μ.1 68 a1 ∧ 0 ≤ μ.1 68 a1 ∧ μ.1 68 a1 < 300 := by omega
        have tot : ∀ (m : zM) (n : Int), n = ydg (μ.1 68 a1) → rO m = pM (rO μ + 1 + n) → rO m = pM (rO μ + yhc B h) := fun m n en l => by
          rw [l, en]
          unfold yhc
          rw [if_neg (by omega), if_neg (by omega), if_neg (by omega), if_neg (by omega), show h - 300 = μ.1 68 a1 by omega]
          exact congrArg pM (by omega)
        refine ⟨gk_X9_sign, gm_X9_sign hg d (by omega), _, rfl, ⟨by omega, by omega⟩, hp, ?_⟩
        intro m17 qm17 l17
        have z18 := zfx_t z0 qm17 rfl rfl
        have b17 : 0 ≤ rO m17 ∧ rO m17 ≤ 1000 := by rw [l17]; exact pM_b (by omega)
        refine And.intro ⟨by omega, by omega⟩ ?_
        intro x19 hx19 kx19 lx19
        rw [show m17.1 68 = μ.1 68 from z18.1 68 (by decide) rfl] at hx19
        refine And.intro ⟨⟨by omega, by omega⟩, ⟨by omega, by omega⟩⟩ (And.intro (fun c20 => ?_) (fun c20 => ?_))
        · refine And.intro ⟨⟨by omega, by omega⟩, ⟨by omega, by omega⟩⟩ (And.intro (fun c21 => ?_) (fun c21 => ?_))
          · refine And.intro ⟨⟨by omega, by omega⟩, by omega⟩ ?_
            intro x22 hx22 kx22 lx22
            intro x23 hx23 kx23 lx23
            refine ⟨gk_X9_sign, gm_X9_sign hg d (by omega), _, rfl, ⟨by omega, by omega⟩, b17, ?_⟩
            intro m24 qm24 l24
            exact And.intro rfl (hQ _ (zfx_t z18 qm24 rfl rfl) (tot m24 1 (by unfold ydg; rw [if_pos (by omega)]) (by rw [l24, l17, pM_a (by omega)])))
          · refine And.intro ⟨⟨by omega, by omega⟩, by omega⟩ ?_
            intro x26 hx26 kx26 lx26
            refine And.intro ⟨⟨by omega, by omega⟩, by omega⟩ ?_
            intro x27 hx27 kx27 lx27
            intro x28 hx28 kx28 lx28
            refine ⟨gk_X9_sign, gm_X9_sign hg d (by omega), _, rfl, ⟨by omega, by omega⟩, b17, ?_⟩
            intro m29 qm29 l29
            have z30 := zfx_t z18 qm29 rfl rfl
            have e29 : rO m29 = pM (rO μ + 1 + 1) := by rw [l29, l17, pM_a (by omega)]
            refine And.intro ⟨⟨by omega, by omega⟩, by omega⟩ ?_
            intro x31 hx31 kx31 lx31
            intro x32 hx32 kx32 lx32
            refine ⟨gk_X9_sign, gm_X9_sign hg d (by omega), _, rfl, ⟨by omega, by omega⟩, by rw [e29]; exact pM_b (by omega), ?_⟩
            intro m33 qm33 l33
            exact And.intro rfl (hQ _ (zfx_t z30 qm33 rfl rfl) (tot m33 2 (by unfold ydg; rw [if_neg (by omega), if_pos (by omega)]) (by rw [l33, e29, pM_a (by omega)]; exact congrArg pM (by omega))))
        · refine And.intro ⟨⟨by omega, by omega⟩, by omega⟩ ?_
          intro x35 hx35 kx35 lx35
          intro x36 hx36 kx36 lx36
          refine ⟨gk_X9_sign, gm_X9_sign hg d (by omega), _, rfl, ⟨by omega, by omega⟩, b17, ?_⟩
          intro m37 qm37 l37
          have z38 := zfx_t z18 qm37 rfl rfl
          have e37 : rO m37 = pM (rO μ + 1 + 1) := by rw [l37, l17, pM_a (by omega)]
          refine And.intro ⟨⟨by omega, by omega⟩, ⟨by omega, by omega⟩⟩ (And.intro (fun c39 => ?_) (fun c39 => ?_))
          · exfalso; omega
          · refine And.intro ⟨⟨by omega, by omega⟩, by omega⟩ ?_
            intro x40 hx40 kx40 lx40
            refine And.intro ⟨⟨by omega, by omega⟩, by omega⟩ ?_
            intro x41 hx41 kx41 lx41
            intro x42 hx42 kx42 lx42
            refine ⟨gk_X9_sign, gm_X9_sign hg d (by omega), _, rfl, ⟨by omega, by omega⟩, by rw [e37]; exact pM_b (by omega), ?_⟩
            intro m43 qm43 l43
            have z44 := zfx_t z38 qm43 rfl rfl
            have e43 : rO m43 = pM (rO μ + 1 + 1 + 1) := by rw [l43, e37, pM_a (by omega)]
            refine And.intro ⟨⟨by omega, by omega⟩, by omega⟩ ?_
            intro x45 hx45 kx45 lx45
            intro x46 hx46 kx46 lx46
            refine ⟨gk_X9_sign, gm_X9_sign hg d (by omega), _, rfl, ⟨by omega, by omega⟩, by rw [e43]; exact pM_b (by omega), ?_⟩
            intro m47 qm47 l47
            exact And.intro rfl (hQ _ (zfx_t z44 qm47 rfl rfl) (tot m47 3 (by unfold ydg; rw [if_neg (by omega), if_neg (by omega)]) (by rw [l47, e43, pM_a (by omega)]; exact congrArg pM (by omega))))
    · have hf : h = 32 + μ.1 68 a1 ∧ 0 ≤ μ.1 68 a1 ∧ μ.1 68 a1 < B.1 0 1 := by omega
      refine And.intro ⟨by omega, by omega⟩ ?_
      intro x49 hx49 kx49 lx49
      refine And.intro ⟨by omega, by omega⟩ ?_
      intro x50 hx50
      have J : x50.toInt = B.1 5 (h - 32) := by rw [hx50, hx49, show h - 32 = μ.1 68 a1 by omega]; exact hN.2.1 _ (by omega) (by omega)
      refine ⟨gk_X9_signs, gm_X9_signs hg d (by omega), _, rfl, hp, ?_⟩
      intro m51 qm51 l51
      exact And.intro rfl (hQ _ (zfx_t z0 qm51 rfl rfl) (by rw [l51, yNw_e J]; unfold yhc; rw [if_neg (by omega), if_pos (by omega)]))
  · have hf : h = μ.1 68 a1 ∧ 0 ≤ μ.1 68 a1 ∧ μ.1 68 a1 < B.1 0 0 := by omega
    refine And.intro ⟨by omega, by omega⟩ ?_
    intro x53 hx53 kx53 lx53
    refine And.intro ⟨by omega, by omega⟩ ?_
    intro x54 hx54
    have J : x54.toInt = B.1 1 h := by rw [hx54, hx53, hf.1]; exact hN.1 _ (by omega) (by omega)
    refine ⟨gk_X9_signs, gm_X9_signs hg d (by omega), _, rfl, hp, ?_⟩
    intro m55 qm55 l55
    exact And.intro rfl (hQ _ (zfx_t z0 qm55 rfl rfl) (by rw [l55, yNw_e J]; unfold yhc; rw [if_pos (by omega)]))
