/-! ### nodes: what holds of them all -/
def zcap (x : Int) : Int := if x > 100000 then 100000 else x
def zsm (f : Int → Int) : Nat → Int
  | 0 => 1
  | i + 1 => zsm f i + f ((i : Nat) : Int)
def zsx (μ : zM) (x : Int) : Int := zsl (μ.1 67 x) (μ.1 68 x) (μ.1 69 x) (fun i => μ.1 70 (4 * x + i))
/-- one node: its parts stand before it; its number is of its kind; its size -/
def zNd (μ : zM) (x : Int) : Prop := (0 ≤ μ.1 69 x ∧ μ.1 69 x ≤ 4) ∧ (∀ i : Int, 0 ≤ i → i < μ.1 69 x → 0 ≤ μ.1 70 (4 * x + i) ∧ μ.1 70 (4 * x + i) < x) ∧ (μ.1 67 x = 0 → μ.1 68 x ≤ 20) ∧ (μ.1 67 x = 1 → μ.1 68 x ≤ 79) ∧ μ.1 71 x = zcap (zsm (fun i => μ.1 71 (μ.1 70 (4 * x + i))) (μ.1 69 x).toNat)
def zTop (μ : zM) : Int := μ.1 66 ((8 : Nat) : Int)
/-- all nodes; those from lo on are found by their slots -/
def zND (μ : zM) (lo : Int) : Prop := (0 ≤ lo ∧ lo ≤ zTop μ) ∧ (∀ x : Int, 0 ≤ x → x < zTop μ → zNd μ x) ∧
  (∀ h : Int, 0 ≤ h → h < 2048 → μ.1 73 h < zTop μ ∧ (0 ≤ μ.1 73 h → lo ≤ μ.1 73 h ∧ zsx μ (μ.1 73 h) = h)) ∧ (∀ x : Int, lo ≤ x → x < zTop μ → x ≤ μ.1 73 (zsx μ x)) ∧
  (∀ x : Int, lo ≤ x → x < zTop μ → μ.1 72 x < x ∧ (0 ≤ μ.1 72 x → lo ≤ μ.1 72 x ∧ zsx μ (μ.1 72 x) = zsx μ x) ∧ ∀ y : Int, lo ≤ y → y < x → zsx μ y = zsx μ x → y ≤ μ.1 72 x)
theorem zsh_eq {h0 : Int} {p q : Int → Int} : ∀ {n : Nat}, (∀ i : Int, 0 ≤ i → i < (n : Int) → p i = q i) → zsh h0 p n = zsh h0 q n
  | 0, _ => rfl
  | n + 1, h => by
    unfold zsh
    rw [zsh_eq (n := n) (fun i h1 h2 => h i h1 (by omega)), h ((n : Nat) : Int) (by omega) (by omega)]
theorem zsl_eq {k v n : Int} {p q : Int → Int} (h : ∀ i : Int, 0 ≤ i → i < n → p i = q i) : zsl k v n p = zsl k v n q := by
  unfold zsl
  rw [zsh_eq (fun i h1 h2 => h i h1 (by omega))]
theorem zsm_eq {p q : Int → Int} : ∀ {n : Nat}, (∀ i : Int, 0 ≤ i → i < (n : Int) → p i = q i) → zsm p n = zsm q n
  | 0, _ => rfl
  | n + 1, h => by
    unfold zsm
    rw [zsm_eq (n := n) (fun i h1 h2 => h i h1 (by omega)), h ((n : Nat) : Int) (by omega) (by omega)]
theorem zlike_sl {μ : zM} {x k v n : Int} {p : Int → Int} (h : zlike μ x k v n p) : zsx μ x = zsl k v n p := by
  obtain ⟨h1, h2, h3, h4⟩ := h
  unfold zsx
  rw [h1, h2, h3]
  exact zsl_eq h4
theorem zsl_rng (k v n : Int) (p : Int → Int) : 0 ≤ zsl k v n p ∧ zsl k v n p ≤ 2047 := zus _
/-- nodes below n are as they were -/
def zOld (μ μ' : zM) (n : Int) : Prop := ∀ x : Int, 0 ≤ x → x < n → μ'.1 67 x = μ.1 67 x ∧ μ'.1 68 x = μ.1 68 x ∧ μ'.1 69 x = μ.1 69 x ∧ μ'.1 71 x = μ.1 71 x ∧ ∀ i : Int, 0 ≤ i → i < 4 → μ'.1 70 (4 * x + i) = μ.1 70 (4 * x + i)
theorem zOld_r (μ : zM) (n : Int) : zOld μ μ n := fun _ _ _ => ⟨rfl, rfl, rfl, rfl, fun _ _ _ => rfl⟩
theorem zOld_sx {μ μ' : zM} {n x : Int} (h : zOld μ μ' n) (h0 : 0 ≤ x) (h1 : x < n) (hc : μ.1 69 x ≤ 4) : zsx μ' x = zsx μ x := by
  obtain ⟨e1, e2, e3, e4, e5⟩ := h x h0 h1
  unfold zsx
  rw [e1, e2, e3]
  exact zsl_eq (fun i h1 h2 => e5 i h1 (by omega))
theorem zOld_Nd {μ μ' : zM} {n x : Int} (h : zOld μ μ' n) (h0 : 0 ≤ x) (h1 : x < n) (hn : zNd μ x) : zNd μ' x := by
  obtain ⟨e1, e2, e3, e4, e5⟩ := h x h0 h1
  obtain ⟨n1, n2, n3, n4, n5⟩ := hn
  unfold zNd
  rw [e1, e2, e3, e4]
  refine ⟨n1, fun i a b => ?_, n3, n4, ?_⟩
  · rw [e5 i a (by omega)]; exact n2 i a b
  · rw [n5]
    congr 1
    refine zsm_eq (fun i a b => ?_)
    have hb : i < μ.1 69 x := by omega
    rw [e5 i a (by omega), (h _ (n2 i a hb).1 (by have := (n2 i a hb).2; omega)).2.2.2.1]
/-- a node is put behind the others -/
theorem zmk {μ ma m1 m2 m3 m4 m5 m6 m7 : zM} {lo k v n s T h x1 x2 x3 x4 x5 x6 xh xt : Int} (hn : zND μ lo) (hT : zTop μ = T) (hk : 0 ≤ n ∧ n ≤ 4) (hv0 : k = 0 → v ≤ 20) (hv1 : k = 1 → v ≤ 79)
    (hp : ∀ i : Int, 0 ≤ i → i < n → 0 ≤ μ.1 74 i ∧ μ.1 74 i < T) (hh : h = zsl k v n (μ.1 74)) (hs : s = zcap (zsm (fun i => μ.1 71 (μ.1 74 i)) n.toNat))
    (hno : ∀ y : Int, lo ≤ y → y < T → ¬ zlike μ y k v n (μ.1 74))
    (ha1 : ∀ j : Nat, j ≠ 70 → ma.1 j = μ.1 j) (ha2 : ∀ q : Int, ma.1 70 q = if 4 * T ≤ q ∧ q < 4 * T + n then μ.1 74 (q - 4 * T) else μ.1 70 q)
    (e1 : m1 = zu ma 67 x1 k) (e2 : m2 = zu m1 68 x2 v) (e3 : m3 = zu m2 69 x3 n) (e4 : m4 = zu m3 71 x4 s) (hxh : xh = m4.1 73 h) (e5 : m5 = zu m4 72 x5 xh) (e6 : m6 = zu m5 73 h x6) (e7 : m7 = zu m6 66 ((8 : Nat) : Int) xt)
    (q1 : x1 = T) (q2 : x2 = T) (q3 : x3 = T) (q4 : x4 = T) (q5 : x5 = T) (q6 : x6 = T) (q7 : xt = T + 1) :
    zND m7 lo ∧ zTop m7 = T + 1 ∧ zlike m7 T k v n (μ.1 74) ∧ zOld μ m7 T := by
  rw [q1] at e1; rw [q2] at e2; rw [q3] at e3; rw [q4] at e4; rw [q5] at e5; rw [q6] at e6; rw [q7] at e7
  have hTT : (0 : Int) ≤ T := by have := hn.1; omega
  -- the cells, one by one
  have c67 : ∀ q, m7.1 67 q = if q = T then k else μ.1 67 q := fun q => by
    rw [e7, zu_ne (by decide), e6, zu_ne (by decide), e5, zu_ne (by decide), e4, zu_ne (by decide), e3, zu_ne (by decide), e2, zu_ne (by decide), e1]
    by_cases hq : q = T
    · rw [if_pos hq, hq, zu_at]
    · rw [if_neg hq, zu_nk hq, ha1 67 (by decide)]
  have c68 : ∀ q, m7.1 68 q = if q = T then v else μ.1 68 q := fun q => by
    rw [e7, zu_ne (by decide), e6, zu_ne (by decide), e5, zu_ne (by decide), e4, zu_ne (by decide), e3, zu_ne (by decide), e2]
    by_cases hq : q = T
    · rw [if_pos hq, hq, zu_at]
    · rw [if_neg hq, zu_nk hq, e1, zu_ne (by decide), ha1 68 (by decide)]
  have c69 : ∀ q, m7.1 69 q = if q = T then n else μ.1 69 q := fun q => by
    rw [e7, zu_ne (by decide), e6, zu_ne (by decide), e5, zu_ne (by decide), e4, zu_ne (by decide), e3]
    by_cases hq : q = T
    · rw [if_pos hq, hq, zu_at]
    · rw [if_neg hq, zu_nk hq, e2, zu_ne (by decide), e1, zu_ne (by decide), ha1 69 (by decide)]
  have c71 : ∀ q, m7.1 71 q = if q = T then s else μ.1 71 q := fun q => by
    rw [e7, zu_ne (by decide), e6, zu_ne (by decide), e5, zu_ne (by decide), e4]
    by_cases hq : q = T
    · rw [if_pos hq, hq, zu_at]
    · rw [if_neg hq, zu_nk hq, e3, zu_ne (by decide), e2, zu_ne (by decide), e1, zu_ne (by decide), ha1 71 (by decide)]
  have h73 : ∀ q, m4.1 73 q = μ.1 73 q := fun q => by
    rw [e4, zu_ne (by decide), e3, zu_ne (by decide), e2, zu_ne (by decide), e1, zu_ne (by decide), ha1 73 (by decide)]
  have c72 : ∀ q, m7.1 72 q = if q = T then μ.1 73 h else μ.1 72 q := fun q => by
    rw [e7, zu_ne (by decide), e6, zu_ne (by decide), e5]
    by_cases hq : q = T
    · rw [if_pos hq, hq, zu_at, hxh, h73]
    · rw [if_neg hq, zu_nk hq, e4, zu_ne (by decide), e3, zu_ne (by decide), e2, zu_ne (by decide), e1, zu_ne (by decide), ha1 72 (by decide)]
  have c73 : ∀ q, m7.1 73 q = if q = h then T else μ.1 73 q := fun q => by
    rw [e7, zu_ne (by decide), e6]
    by_cases hq : q = h
    · rw [if_pos hq, hq, zu_at]
    · rw [if_neg hq, zu_nk hq, e5, zu_ne (by decide), h73]
  have c70 : ∀ q, m7.1 70 q = if 4 * T ≤ q ∧ q < 4 * T + n then μ.1 74 (q - 4 * T) else μ.1 70 q := fun q => by
    rw [e7, zu_ne (by decide), e6, zu_ne (by decide), e5, zu_ne (by decide), e4, zu_ne (by decide), e3, zu_ne (by decide), e2, zu_ne (by decide), e1, zu_ne (by decide), ha2]
  have ctop : zTop m7 = T + 1 := by unfold zTop; rw [e7]; exact zu_at
  have old : zOld μ m7 T := by
    intro x h0 h1
    refine ⟨by rw [c67, if_neg (by omega)], by rw [c68, if_neg (by omega)], by rw [c69, if_neg (by omega)], by rw [c71, if_neg (by omega)], fun i a b => ?_⟩
    rw [c70, if_neg (by omega)]
  have like : zlike m7 T k v n (μ.1 74) := by
    refine ⟨by rw [c67, if_pos rfl], by rw [c68, if_pos rfl], by rw [c69, if_pos rfl], fun i a b => ?_⟩
    rw [c70, if_pos (by omega), show 4 * T + i - 4 * T = i by omega]
  have slT : zsx m7 T = h := by rw [zlike_sl like, hh]
  have hrng := zsl_rng k v n (μ.1 74)
  rw [← hh] at hrng
  obtain ⟨⟨l0, l1⟩, nd, hd, hc, nx⟩ := hn
  rw [hT] at l1 nd hd hc nx
  have sx : ∀ x, 0 ≤ x → x < T → zsx m7 x = zsx μ x := fun x a b => zOld_sx old a b (nd x a b).1.2
  refine ⟨⟨⟨l0, by rw [ctop]; omega⟩, fun x a b => ?_, fun q a b => ?_, fun x a b => ?_, fun x a b => ?_⟩, ctop, like, old⟩
  · rw [ctop] at b
    by_cases hx : x = T
    · subst hx
      refine ⟨?_, fun i a b => ?_, ?_, ?_, ?_⟩
      · rw [like.2.2.1]; exact hk
      · rw [like.2.2.1] at b
        rw [like.2.2.2 i a b]
        exact hp i a b
      · rw [like.1, like.2.1]; exact hv0
      · rw [like.1, like.2.1]; exact hv1
      · rw [c71, if_pos rfl, hs, like.2.2.1]
        congr 1
        refine zsm_eq (fun i a b => ?_)
        have hb : i < n := by omega
        rw [like.2.2.2 i a hb, c71, if_neg (by have := (hp i a hb).2; omega)]
    · exact zOld_Nd old a (by omega) (nd x a (by omega))
  · rw [c73, ctop]
    by_cases hq : q = h
    · rw [if_pos hq]
      exact ⟨by omega, fun _ => ⟨l1, by rw [slT, hq]⟩⟩
    · rw [if_neg hq]
      obtain ⟨g1, g2⟩ := hd q a b
      refine ⟨by omega, fun g3 => ?_⟩
      rw [sx _ g3 g1]
      exact g2 g3
  · rw [ctop] at b
    rw [c73]
    by_cases hx : x = T
    · subst hx
      rw [slT, if_pos rfl]
      exact Int.le_refl _
    · rw [sx x (by omega) (by omega)]
      split
      · omega
      · exact hc x a (by omega)
  · rw [ctop] at b
    rw [c72]
    by_cases hx : x = T
    · subst hx
      rw [if_pos rfl, slT]
      obtain ⟨g1, g2⟩ := hd h hrng.1 (by omega)
      refine ⟨g1, fun g3 => ?_, fun y a b hy => ?_⟩
      · rw [sx _ g3 g1]; exact g2 g3
      · rw [sx y (by omega) b] at hy
        have := hc y a b
        rw [hy] at this
        exact this
    · rw [if_neg hx]
      obtain ⟨g1, g2, g3⟩ := nx x a (by omega)
      rw [sx x (by omega) (by omega)]
      refine ⟨g1, fun g4 => ?_, fun y a b hy => ?_⟩
      · rw [sx _ g4 (by omega)]; exact g2 g4
      · rw [sx y (by omega) (by omega)] at hy
        exact g3 y a b hy
theorem zas {m0 m μ : zM} {T i idx x : Int} (h : ∀ q : Int, m0.1 70 q = if 4 * T ≤ q ∧ q < 4 * T + i then μ.1 74 (q - 4 * T) else μ.1 70 q) (e : m = zu m0 70 idx x) (hi : idx = 4 * T + i) (hx : x = μ.1 74 i) (h0 : 0 ≤ i) : ∀ q : Int, m.1 70 q = if 4 * T ≤ q ∧ q < 4 * T + (i + 1) then μ.1 74 (q - 4 * T) else μ.1 70 q := by
  intro q
  rw [e]
  by_cases hq : q = idx
  · rw [hq, zu_at, if_pos (by omega), hx, hi, show 4 * T + i - 4 * T = i by omega]
  · rw [zu_nk hq, h q]
    by_cases c : 4 * T ≤ q ∧ q < 4 * T + i
    · rw [if_pos c, if_pos (by omega)]
    · rw [if_neg c, if_neg (by omega)]
theorem zND_h {μ : zM} {lo h : Int} (hn : zND μ lo) (h0 : 0 ≤ h) (h1 : h < 2048) : μ.1 73 h < zTop μ ∧ (0 ≤ μ.1 73 h → lo ≤ μ.1 73 h ∧ zsx μ (μ.1 73 h) = h) := hn.2.2.1 h h0 h1
theorem zND_y {μ : zM} {lo y k v n : Int} {p : Int → Int} (hn : zND μ lo) (h0 : lo ≤ y) (h1 : y < zTop μ) (hl : zlike μ y k v n p) : y ≤ μ.1 73 (zsl k v n p) := by
  have := hn.2.2.2.1 y h0 h1
  rw [zlike_sl hl] at this
  exact this
theorem zND_n {μ : zM} {lo x h k v n : Int} {p : Int → Int} (hn : zND μ lo) (h0 : lo ≤ x) (h1 : x < zTop μ) (hs : zsx μ x = h) (hh : h = zsl k v n p) (hno : ¬ zlike μ x k v n p) (hI : ∀ y : Int, lo ≤ y → y < zTop μ → zlike μ y k v n p → y ≤ x) :
    μ.1 72 x < x ∧ (0 ≤ μ.1 72 x → lo ≤ μ.1 72 x ∧ zsx μ (μ.1 72 x) = h) ∧ ∀ y : Int, lo ≤ y → y < zTop μ → zlike μ y k v n p → y ≤ μ.1 72 x := by
  obtain ⟨g1, g2, g3⟩ := hn.2.2.2.2 x h0 h1
  rw [hs] at g2 g3
  refine ⟨g1, g2, fun y a b c => g3 y a ?_ (by rw [zlike_sl c, hh])⟩
  have := hI y a b c
  rcases Int.lt_or_le y x with q | q
  · exact q
  · exfalso
    apply hno
    rw [show x = y by omega]
    exact c
