/-! ### how long a TYPE is when it is written -/
def yNl (x : Int64) : Nat → Int
  | 0 => 0
  | n + 1 => yNl x n + (if rby x n = 0 then 0 else 1)
theorem yNl_p (x : Int64) : ∀ n : Nat, 0 ≤ yNl x n
  | 0 => Int.le_refl _
  | n + 1 => by
    have := yNl_p x n
    show 0 ≤ yNl x n + (if rby x n = 0 then 0 else 1)
    split <;> omega
theorem yNl_m (x : Int64) : ∀ (n d : Nat), yNl x n ≤ yNl x (n + d)
  | n, 0 => Int.le_refl _
  | n, d + 1 => by
    have := yNl_m x n d
    show yNl x n ≤ yNl x (n + d) + (if rby x (n + d : Nat) = 0 then 0 else 1)
    split <;> omega
def yNw (z : Int) : Int := yNl (Int64.ofInt z) 8
theorem yNw_e {x : Int64} {z : Int} (h : x.toInt = z) : yNl x 8 = yNw z := by
  unfold yNw
  rw [← h, Int64.ofInt_toInt]
def ydg (v : Int) : Int := if v < 10 then 1 else if v < 100 then 2 else 3
/-- of a head alone; of its brackets and commas -/
def yhc (B : yB) (h : Int) : Int := if 0 ≤ h ∧ h < B.1 0 0 then yNw (B.1 1 h) else if 32 ≤ h ∧ h < 112 then yNw (B.1 5 (h - 32)) else if h = 200 then 1 else if h = 201 ∨ h = 202 then 2 else 1 + ydg (h - 300)
def ybk (B : yB) (h : Int) : Int := if 0 ≤ h ∧ h < B.1 0 0 then (if B.1 3 h = 0 then 0 else B.1 3 h + 1) else 0
def yco (B : yB) (l : List Int) : Int := (l.map (fun h => yhc B h + ybk B h)).sum
/-- heads that may stand in a question's TYPE -/
def yhv (B : yB) (h : Int) : Prop := (0 ≤ h ∧ h < B.1 0 0) ∨ (32 ≤ h ∧ h < 32 + B.1 0 1) ∨ (200 ≤ h ∧ h ≤ 202) ∨ (300 ≤ h ∧ h < 600)
theorem yNw_p (z : Int) : 0 ≤ yNw z := yNl_p _ _
theorem ydg_p (v : Int) : 1 ≤ ydg v := by unfold ydg; split; omega; split <;> omega
theorem yhc_p (B : yB) (h : Int) : 0 ≤ yhc B h := by
  unfold yhc
  split
  · exact yNw_p _
  split
  · exact yNw_p _
  split
  · omega
  split
  · omega
  have := ydg_p (h - 300)
  omega
theorem yco_c (B : yB) (h : Int) (l : List Int) : yco B (h :: l) = yhc B h + ybk B h + yco B l := by unfold yco; rw [List.map_cons, List.sum_cons]
theorem yco_a (B : yB) (l r : List Int) : yco B (l ++ r) = yco B l + yco B r := by unfold yco; rw [List.map_append, List.sum_append]
theorem yco_f (B : yB) : ∀ as : List (List Int), yco B as.flatten = (as.map (yco B)).sum
  | [] => rfl
  | a :: as => by rw [List.flatten_cons, yco_a, yco_f B as, List.map_cons, List.sum_cons]
/-- the page has 1000 bytes -/
def pM (x : Int) : Int := if x < 1000 then x else 1000
theorem pM_a {x a : Int} (ha : 0 ≤ a) : pM (pM x + a) = pM (x + a) := by
  unfold pM
  by_cases q : x < 1000
  · rw [if_pos q]
  · rw [if_neg q, if_neg (by omega), if_neg (by omega)]
theorem pM_b {x : Int} (h : 0 ≤ x) : 0 ≤ pM x ∧ pM x ≤ 1000 := by unfold pM; split <;> omega
theorem pM_i {x : Int} (h : x ≤ 1000) : pM x = x := by
  unfold pM
  by_cases q : x < 1000
  · rw [if_pos q]
  · rw [if_neg q]; omega
theorem pM_l {x : Int} : pM x < 1000 ↔ x < 1000 := by unfold pM; split <;> omega
/-! ### the class writes -/
def zfG (μ μ' : zM) : Prop := zl0 μ μ' ∧ (∀ j : Nat, j ≠ 10 → j ≠ 11 → μ'.1 j = μ.1 j) ∧ ∀ k : Int, k ≠ ((3 : Nat) : Int) → μ'.1 10 k = μ.1 10 k
theorem zfG_r (μ : zM) : zfG μ μ := ⟨zl0_r μ, fun _ _ _ => rfl, fun _ _ => rfl⟩
theorem zfG_t {a b c : zM} (h1 : zfG a b) (h2 : zfG b c) : zfG a c := ⟨zl0_t h1.1 h2.1, fun j u v => (h2.2.1 j u v).trans (h1.2.1 j u v), fun k u => (h2.2.2 k u).trans (h1.2.2 k u)⟩
def pL (μ : zM) : Int := μ.1 10 ((3 : Nat) : Int)
def gk_X2_write : zC := fun As μ Q => ∃ (a1 : Int), As = [.inr (.inr (10, 10)), .inl a1] ∧ ((-2147483648) ≤ a1 ∧ a1 ≤ 2147483647) ∧ (0 ≤ pL μ ∧ pL μ ≤ 1000) ∧ (∀ (μ' : zM), zfG μ μ' → pL μ' = pM (pL μ + 1) → Q none μ')
set_option maxHeartbeats 4000000 in
theorem gm_X2_write {g : zΓ} (hg : zg g) (d : Nat) (hd : 2 ≤ d) : zOk g d 35 gk_X2_write := by
  obtain ⟨d, rfl⟩ : ∃ d', d = d' + 1 := ⟨d - 1, by omega⟩
  refine zOk_straight hg (show mt_tab[35]? = some mt_X2_write from rfl) [] 22 rfl fun As μ Q hC => ?_
  obtain ⟨a1, rfl, ha1, hp, hQ⟩ := hC
  refine ⟨rfl, ?_⟩
  intro x1 hx1 kx1 lx1
  have X1 : x1 = pL μ := hx1
  refine And.intro ⟨⟨by omega, by omega⟩, ⟨by omega, by omega⟩⟩ (And.intro (fun c2 => ?_) (fun c2 => ?_))
  · exact And.intro rfl (hQ _ (zfG_r μ) (by unfold pM; rw [if_neg (by omega)]; omega))
  · intro x3 hx3 kx3 lx3
    have X3 : x3 = pL μ := hx3
    refine ⟨yk_X8_set, ym_X8_set hg d (by omega), _, _, _, _, rfl, ⟨by omega, by omega⟩, ?_⟩
    refine And.intro ⟨by omega, by omega⟩ (And.intro ⟨by omega, by omega⟩ ?_)
    intro m4 qm4 em4
    intro x6 hx6 kx6 lx6
    have X6 : x6 = pL μ := by rw [hx6, em4, zu_ne (by decide)]; rfl
    refine And.intro ⟨by omega, by omega⟩ ?_
    intro m7 em7
    refine And.intro rfl (hQ _ ⟨zl0_t ⟨qm4, by rw [em4]; rfl⟩ (zl0_u em7 (Or.inl (by decide)) (Or.inl ⟨by decide, by decide⟩)), fun j h1 h2 => by rw [em7, zu_ne h1, em4, zu_ne h2], fun k hk => by rw [em7, zu_nk hk, em4, zu_ne (by decide)]⟩ ?_)
    show m7.1 10 ((3 : Nat) : Int) = _
    rw [em7, zu_at, X6, pM_i (by omega)]
def gk_X2_writeName : zC := fun As μ Q => ∃ (a1 : Int64), As = [.inr (.inr (10, 10)), .inr (.inl a1)] ∧ (0 ≤ pL μ ∧ pL μ ≤ 1000) ∧ (∀ (μ' : zM), zfG μ μ' → pL μ' = pM (pL μ + yNl a1 8) → Q none μ')
set_option maxHeartbeats 4000000 in
theorem gm_X2_writeName {g : zΓ} (hg : zg g) (d : Nat) (hd : 3 ≤ d) : zOk g d 33 gk_X2_writeName := by
  obtain ⟨d, rfl⟩ : ∃ d', d = d' + 1 := ⟨d - 1, by omega⟩
  refine zOk_loop hg (show mt_tab[33]? = some mt_X2_writeName from rfl) ([(3, [0, 1, 3])], []) 26 rfl fun As μ Q hC => ?_
  obtain ⟨a1, rfl, hp, hQ⟩ := hC
  have mo := yNl_m a1
  have n0 := yNl_p a1
  refine ⟨rfl, fun pc vs μ' n => ∃ (v3 : Int), vs = [.inr (.inr (10, 10)), .inr (.inl a1), .inl v3] ∧ ((-1) ≤ v3 ∧ v3 ≤ 7) ∧ zfG μ μ' ∧ pL μ' = pM (pL μ + (yNl a1 8 - yNl a1 (v3 + 1).toNat)) ∧ n = (Int.toNat (v3 + 1)), ?_, ?_, trivial⟩
  · refine Exists.intro (Int.toNat (7 + 1)) ?_
    exact ⟨_, rfl, ⟨by omega, by omega⟩, zfG_r μ, by rw [show ((7 : Int) + 1).toNat = 8 by decide, show pL μ + (yNl a1 8 - yNl a1 8) = pL μ by omega, pM_i hp.2], rfl⟩
  · intro vs m0 n hI
    obtain ⟨v3, rfl, hv3, z0, L0, rfl⟩ := hI
    have mo3 := mo (v3 + 1).toNat (8 - (v3 + 1).toNat)
    rw [show (v3 + 1).toNat + (8 - (v3 + 1).toNat) = 8 by omega] at mo3
    have B0 : 0 ≤ pL m0 ∧ pL m0 ≤ 1000 := by rw [L0]; exact pM_b (by omega)
    refine And.intro ⟨by omega, by omega⟩ (And.intro (fun c1 => ?_) (fun c1 => ?_))
    · refine And.intro rfl (hQ _ z0 ?_)
      rw [L0, show (v3 + 1).toNat = 0 by omega]
      show pM (pL μ + (yNl a1 8 - 0)) = _
      rw [show yNl a1 8 - 0 = yNl a1 8 by omega]
    · have es : yNl a1 (v3 + 1).toNat = yNl a1 v3.toNat + (if rby a1 v3 = 0 then 0 else 1) := by
        rw [show (v3 + 1).toNat = v3.toNat + 1 by omega]
        show yNl a1 v3.toNat + (if rby a1 (v3.toNat : Nat) = 0 then 0 else 1) = _
        rw [show ((v3.toNat : Nat) : Int) = v3 by omega]
      intro x2 hx2 kx2 lx2
      intro x3 hx3 kx3 lx3
      have X3 : x3 = rby a1 v3 := by
        rw [← cby_r (by omega) (by omega), hx3, hx2]
        rfl
      refine And.intro ⟨by omega, by omega⟩ (And.intro (fun c4 => ?_) (fun c4 => ?_))
      · refine Exists.intro (Int.toNat ((v3 + (-1)) + 1)) (And.intro (by omega) ?_)
        refine ⟨_, rfl, ⟨by omega, by omega⟩, z0, ?_, rfl⟩
        rw [if_pos (by omega)] at es
        rw [L0, es, show (v3 + -1 + 1).toNat = v3.toNat by omega]
        exact congrArg pM (by omega)
      · refine ⟨gk_X2_write, gm_X2_write hg d (by omega), _, rfl, ⟨by omega, by omega⟩, B0, ?_⟩
        intro m5 z5 l5
        refine Exists.intro (Int.toNat ((v3 + (-1)) + 1)) (And.intro (by omega) ?_)
        refine ⟨_, rfl, ⟨by omega, by omega⟩, zfG_t z0 z5, ?_, rfl⟩
        rw [if_neg (by omega)] at es
        rw [l5, L0, pM_a (by omega), show (v3 + -1 + 1).toNat = v3.toNat by omega, es]
        exact congrArg pM (by omega)
def gk_X2_writeNumber : zC := fun As μ Q => ∃ (a1 : Int), As = [.inr (.inr (10, 10)), .inl a1] ∧ (0 ≤ a1 ∧ a1 < 300) ∧ (0 ≤ pL μ ∧ pL μ ≤ 1000) ∧ (∀ (μ' : zM), zfG μ μ' → pL μ' = pM (pL μ + ydg a1) → Q none μ')
set_option maxHeartbeats 4000000 in
theorem gm_X2_writeNumber {g : zΓ} (hg : zg g) (d : Nat) (hd : 3 ≤ d) : zOk g d 34 gk_X2_writeNumber := by
  obtain ⟨d, rfl⟩ : ∃ d', d = d' + 1 := ⟨d - 1, by omega⟩
  refine zOk_straight hg (show mt_tab[34]? = some mt_X2_writeNumber from rfl) [13, 33, 44] 35 rfl fun As μ Q hC => ?_
  obtain ⟨a1, rfl, ha1, hp, hQ⟩ := hC
  refine ⟨rfl, ?_⟩
  refine And.intro ⟨⟨by omega, by omega⟩, ⟨by omega, by omega⟩⟩ (And.intro (fun c1 => ?_) (fun c1 => ?_))
  · refine And.intro ⟨⟨by omega, by omega⟩, ⟨by omega, by omega⟩⟩ (And.intro (fun c2 => ?_) (fun c2 => ?_))
    · refine And.intro ⟨⟨by omega, by omega⟩, by omega⟩ ?_
      intro x3 hx3 kx3 lx3
      intro x4 hx4 kx4 lx4
      refine ⟨gk_X2_write, gm_X2_write hg d (by omega), _, rfl, ⟨by omega, by omega⟩, hp, ?_⟩
      intro m5 z5 l5
      exact And.intro rfl (hQ _ z5 (by rw [l5]; unfold ydg; rw [if_pos (by omega)]))
    · refine And.intro ⟨⟨by omega, by omega⟩, by omega⟩ ?_
      intro x8 hx8 kx8 lx8
      refine And.intro ⟨⟨by omega, by omega⟩, by omega⟩ ?_
      intro x9 hx9 kx9 lx9
      intro x10 hx10 kx10 lx10
      refine ⟨gk_X2_write, gm_X2_write hg d (by omega), _, rfl, ⟨by omega, by omega⟩, hp, ?_⟩
      intro m11 z11 l11
      refine And.intro ⟨⟨by omega, by omega⟩, by omega⟩ ?_
      intro x14 hx14 kx14 lx14
      intro x15 hx15 kx15 lx15
      refine ⟨gk_X2_write, gm_X2_write hg d (by omega), _, rfl, ⟨by omega, by omega⟩, by rw [l11]; exact pM_b (by omega), ?_⟩
      intro m16 z16 l16
      exact And.intro rfl (hQ _ (zfG_t z11 z16) (by rw [l16, l11, pM_a (by omega)]; unfold ydg; rw [if_neg (by omega), if_pos (by omega)]; exact congrArg pM (by omega)))
  · refine And.intro ⟨⟨by omega, by omega⟩, by omega⟩ ?_
    intro x19 hx19 kx19 lx19
    intro x20 hx20 kx20 lx20
    refine ⟨gk_X2_write, gm_X2_write hg d (by omega), _, rfl, ⟨by omega, by omega⟩, hp, ?_⟩
    intro m21 z21 l21
    refine And.intro ⟨⟨by omega, by omega⟩, ⟨by omega, by omega⟩⟩ (And.intro (fun c24 => ?_) (fun c24 => ?_))
    · exfalso; omega
    · refine And.intro ⟨⟨by omega, by omega⟩, by omega⟩ ?_
      intro x25 hx25 kx25 lx25
      refine And.intro ⟨⟨by omega, by omega⟩, by omega⟩ ?_
      intro x26 hx26 kx26 lx26
      intro x27 hx27 kx27 lx27
      refine ⟨gk_X2_write, gm_X2_write hg d (by omega), _, rfl, ⟨by omega, by omega⟩, by rw [l21]; exact pM_b (by omega), ?_⟩
      intro m28 z28 l28
      refine And.intro ⟨⟨by omega, by omega⟩, by omega⟩ ?_
      intro x31 hx31 kx31 lx31
      intro x32 hx32 kx32 lx32
      refine ⟨gk_X2_write, gm_X2_write hg d (by omega), _, rfl, ⟨by omega, by omega⟩, by rw [l28]; exact pM_b (by have := pM_b (x := pL μ + 1) (by omega); omega), ?_⟩
      intro m33 z33 l33
      have e28 : pL m28 = pM (pL μ + 1 + 1) := by rw [l28, l21, pM_a (by omega)]
      exact And.intro rfl (hQ _ (zfG_t (zfG_t z21 z28) z33) (by rw [l33, e28, pM_a (by omega)]; unfold ydg; rw [if_neg (by omega), if_neg (by omega)]; exact congrArg pM (by omega)))
