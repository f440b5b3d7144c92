/-! ### the class makes a node: the walk -/
theorem t_2047 (b : BitVec 32) : 0 ≤ (b &&& 2047#32).toInt ∧ (b &&& 2047#32).toInt ≤ 2047 := by
  have h : (b &&& 2047#32).toNat ≤ 2047 := by rw [BitVec.toNat_and]; exact Nat.and_le_right
  rw [BitVec.toInt_eq_toNat_cond]
  split <;> omega
theorem t_and (x : Int32) : 0 ≤ (x &&& Int32.ofInt 2047).toInt ∧ (x &&& Int32.ofInt 2047).toInt ≤ 2047 := t_2047 x.toBitVec
/-- a node is being made: k of its parts are laid -/
def tB (μ m : zM) (a1 a2 hh k : Int) : Prop := zfT μ m ∧ (tn m = tn μ ∧ tp m = tp μ) ∧ (∀ x : Int, m.1 60 x = if x = tn μ then a1 else μ.1 60 x) ∧ (∀ x : Int, m.1 61 x = if x = tn μ then tp μ else μ.1 61 x) ∧ (m.1 62 (tn μ) = μ.1 64 hh ∧ ∀ x : Int, x ≠ tn μ → m.1 62 x = μ.1 62 x) ∧ (∀ h : Int, m.1 64 h = if h = hh then tn μ else μ.1 64 h) ∧ (∀ i : Int, 0 ≤ i → i < k → m.1 63 (tp μ + i) = μ.1 65 (a2 + i)) ∧ ∀ q : Int, q < tp μ → m.1 63 q = μ.1 63 q
theorem tB_s {μ m m' : zM} {a1 a2 hh k x : Int} (h : tB μ m a1 a2 hh k) (k0 : 0 ≤ k) (l : zl0 m m') (e : m' = zu m 63 (tp μ + k) x) (hx : x = μ.1 65 (a2 + k)) : tB μ m' a1 a2 hh (k + 1) := by
  have c : ∀ j : Nat, j ≠ 63 → m'.1 j = m.1 j := fun j hj => by rw [e, zu_ne hj]
  obtain ⟨h1, h2, h3, h4, h5, h6, h7, h8⟩ := h
  refine ⟨⟨zl0_t h1.1 l, fun j hj => (c j (by omega)).trans (h1.2.1 j hj), by rw [c 59 (by decide)]; exact h1.2.2⟩, ?_, by rw [c 60 (by decide)]; exact h3, by rw [c 61 (by decide)]; exact h4, by rw [c 62 (by decide)]; exact h5, by rw [c 64 (by decide)]; exact h6, fun i a b => ?_, fun q hq => ?_⟩
  · unfold tn tp at h2 ⊢
    rw [c 59 (by decide)]; exact h2
  · rw [e]
    by_cases q : i = k
    · rw [q, zu_at]; exact hx
    · rw [zu_nk (by omega)]; exact h7 i a (by omega)
  · rw [e, zu_nk (by omega)]; exact h8 q hq
theorem tB_e {μ m m' : zM} {A : Int → Int} {a1 a2 hh : Int} (W : tW μ A) (eh : hh = tHn a1 (A a1) (fun i => μ.1 65 (a2 + i))) (bh : 0 ≤ hh ∧ hh < 2048) (no : ∀ y : Int, ¬ tLk μ a1 (A a1) (fun i => μ.1 65 (a2 + i)) y) (hA : 0 ≤ A a1 ∧ A a1 ≤ 4) (hc : tn μ ≤ 6999 ∧ tp μ + A a1 ≤ 7000) (hs : ∀ i : Int, 0 ≤ i → i < A a1 → 0 ≤ μ.1 65 (a2 + i) ∧ μ.1 65 (a2 + i) < tn μ) (h : tB μ m a1 a2 hh (A a1)) (c : ∀ j : Nat, j ≠ 59 → m'.1 j = m.1 j) (e7 : tn m' = tn μ + 1) (e8 : tp m' = tp μ + A a1) : tW m' A ∧ tOd μ m' ∧ m'.1 60 (tn μ) = a1 ∧ ∀ i : Int, 0 ≤ i → i < A a1 → m'.1 63 (m'.1 61 (tn μ) + i) = μ.1 65 (a2 + i) := by
  obtain ⟨h1, h2, h3, h4, h5, h6, h7, h8⟩ := h
  rw [← c 60 (by decide)] at h3
  rw [← c 61 (by decide)] at h4
  rw [← c 62 (by decide)] at h5
  rw [← c 64 (by decide)] at h6
  rw [← c 63 (by decide)] at h7 h8
  have n0 := W.1
  have p0 := W.2.1
  have e60 : m'.1 60 (tn μ) = a1 := by rw [h3, if_pos rfl]
  have e61 : m'.1 61 (tn μ) = tp μ := by rw [h4, if_pos rfl]
  have ox : ∀ x : Int, 0 ≤ x → x < tn μ → m'.1 60 x = μ.1 60 x ∧ ∀ i : Int, 0 ≤ i → i < A (μ.1 60 x) → m'.1 63 (m'.1 61 x + i) = μ.1 63 (μ.1 61 x + i) := fun x x0 x1 => by
    have w := (W.2.2.1 x x0 x1).1
    refine ⟨by rw [h3, if_neg (by omega)], fun i a b => ?_⟩
    rw [h4, if_neg (by omega)]
    exact h8 _ (by omega)
  have hx : ∀ x : Int, 0 ≤ x → x < tn μ → tHx m' A x = tHx μ A x := fun x x0 x1 => by
    have o := ox x x0 x1
    unfold tHx
    rw [o.1]
    exact tHn_c o.2
  have hn : tHx m' A (tn μ) = hh := by
    unfold tHx
    rw [e60, e61, eh]
    exact tHn_c h7
  have ch := W.2.2.2.2.2
  have hr : ∀ x : Int, 0 ≤ x → x < tn μ → 0 ≤ tHx μ A x ∧ tHx μ A x < 2048 := fun x _ _ => by
    have q := t_and (Int32.ofInt ((Int32.ofInt (tHs (μ.1 60 x) (fun i => μ.1 63 (μ.1 61 x + i)) (A (μ.1 60 x)).toNat) ^^^ Int32.ofInt ((((Int32.ofInt (tHs (μ.1 60 x) (fun i => μ.1 63 (μ.1 61 x + i)) (A (μ.1 60 x)).toNat)).toUInt32 >>> ((Int32.ofInt 11).toUInt32 &&& Int32.toUInt32 31)).toInt32).toInt)).toInt))
    show 0 ≤ tHc _ ∧ tHc _ < 2048
    unfold tHc
    omega
  refine ⟨⟨⟨by omega, by omega⟩, ⟨by omega, by omega⟩, fun x x0 x1 => ?_, fun q q0 q1 => ?_, fun x x0 x1 => ?_, fun h a b c => ?_, fun x x0 x1 => ?_, fun x x0 x1 nx => ?_, fun x y x0 x1 y0 y1 y2 => ?_, fun x y x0 x1 ly => ?_⟩, ⟨⟨by omega, by omega⟩, fun x x0 x1 => ?_, fun q q0 q1 => h8 q q1⟩, e60, fun i a b => ?_⟩
  · by_cases z : x = tn μ
    · rw [z]
      unfold tNd
      rw [e60, e61, e8]
      refine ⟨⟨by omega, by omega⟩, fun i a b => ?_⟩
      rw [h7 i a b]
      exact hs i a b
    · have w := W.2.2.1 x x0 (by omega)
      unfold tNd at w ⊢
      rw [h3, if_neg z, h4, if_neg z, e8]
      refine ⟨⟨w.1.1, by have := w.1.2; omega⟩, fun i a b => ?_⟩
      have u := w.1
      rw [h8 _ (by omega)]
      exact w.2 i a b
  · rw [h6]; split; omega; have := W.2.2.2.1 q q0 q1; omega
  · by_cases z : x = tn μ
    · rw [z, h5.1]; exact W.2.2.2.1 hh bh.1 bh.2
    · rw [h5.2 x z]; exact W.2.2.2.2.1 x x0 (by omega)
  · rw [h6] at c ⊢
    by_cases z : h = hh
    · rw [if_pos z, hn, z]
    · rw [if_neg z] at c ⊢
      rw [hx _ c (W.2.2.2.1 h a b)]
      exact ch.1 h a b c
  · by_cases z : x = tn μ
    · rw [z, hn, h6, if_pos rfl]; omega
    · rw [hx x x0 (by omega), h6]
      split
      · omega
      · exact ch.2.1 x x0 (by omega)
  · by_cases z : x = tn μ
    · rw [z] at nx ⊢
      rw [h5.1] at nx ⊢
      rw [hn, hx _ nx (W.2.2.2.1 hh bh.1 bh.2)]
      exact ch.1 hh bh.1 bh.2 nx
    · rw [h5.2 x z] at nx ⊢
      have := W.2.2.2.2.1 x x0 (by omega)
      rw [hx _ nx (by omega), hx x x0 (by omega)]
      exact ch.2.2.1 x x0 (by omega) nx
  · by_cases z : x = tn μ
    · rw [z] at y1 y2 ⊢
      rw [h5.1] at y1
      rw [hn, hx y y0 y2]
      intro e
      have := ch.2.1 y y0 y2
      rw [e] at this
      omega
    · rw [h5.2 x z] at y1
      rw [hx x x0 (by omega), hx y y0 (by omega)]
      exact ch.2.2.2.1 x y x0 (by omega) y0 y1 y2
  · obtain ⟨⟨y0, y1⟩, l1, l2⟩ := ly
    by_cases z : x = tn μ
    · rw [z] at l1 l2 ⊢
      by_cases z' : y = tn μ
      · exact z'
      · exfalso
        have oy := ox y y0 (by omega)
        rw [e60] at l1 l2
        have l1' : μ.1 60 y = a1 := by rw [← oy.1]; exact l1
        refine no y ⟨⟨y0, by omega⟩, l1', fun i a b => ?_⟩
        rw [← oy.2 i a (by rw [l1']; exact b), ← l2 i a b, e61]
        exact (h7 i a b).symm
    · have o := ox x x0 (by omega)
      by_cases z' : y = tn μ
      · exfalso
        rw [z', e60] at l1
        rw [z'] at l2
        have l1' : μ.1 60 x = a1 := by rw [← o.1]; exact l1.symm
        refine no x ⟨⟨x0, by omega⟩, l1', fun i a b => ?_⟩
        have q := l2 i a (by rw [← l1]; exact b)
        rw [e61, h7 i a b] at q
        rw [← o.2 i a (by rw [l1']; exact b)]
        exact q.symm
      · have oy := ox y y0 (by omega)
        refine ch.2.2.2.2 x y x0 (by omega) ⟨⟨y0, by omega⟩, by rw [← oy.1, l1, o.1], fun i a b => ?_⟩
        have l1' : μ.1 60 y = μ.1 60 x := by rw [← oy.1, l1, o.1]
        show μ.1 63 (μ.1 61 x + i) = μ.1 63 (μ.1 61 y + i)
        rw [← o.2 i a b, ← oy.2 i a (by rw [l1']; exact b)]
        exact l2 i a (by rw [o.1]; exact b)
  · rw [h3, if_neg (by omega), h4, if_neg (by omega)]; exact ⟨rfl, rfl⟩
  · rw [e61]; exact h7 i a b
def gk_X6_make : zC := fun As μ Q => ∃ (a1 : Int) (a2 : Int) (t : Nat) (A : Int → Int), As = [.inr (.inr (59, 59)), .inl a1, .inl a2] ∧ ((-2147483648) ≤ a1 ∧ a1 ≤ 2147483647) ∧ (0 ≤ a2 ∧ a2 + A a1 ≤ 300) ∧ ((t : Int) = μ.1 59 ((6 : Nat) : Int) ∧ A = tA μ t ∧ ∀ h : Int, 0 ≤ A h ∧ A h ≤ 4) ∧ tW μ A ∧ (tn μ ≤ 6999 ∧ tp μ + A a1 ≤ 7000) ∧ (∀ i : Int, 0 ≤ i → i < A a1 → 0 ≤ μ.1 65 (a2 + i) ∧ μ.1 65 (a2 + i) < tn μ) ∧ (∀ (v : Int) (μ' : zM), zfT μ μ' → tW μ' A → tOd μ μ' → (tn μ' ≤ tn μ + 1 ∧ tp μ' ≤ tp μ + A a1) → (0 ≤ v ∧ v < tn μ') → (μ'.1 60 v = a1) → (∀ i : Int, 0 ≤ i → i < A a1 → μ'.1 63 (μ'.1 61 v + i) = μ.1 65 (a2 + i)) → Q (some (.inl v)) μ')
set_option maxHeartbeats 4000000 in
theorem gm_X6_make {g : zΓ} (hg : zg g) (d : Nat) (hd : 2 ≤ d) : zOk g d 87 gk_X6_make := by
  obtain ⟨d, rfl⟩ : ∃ d', d = d' + 1 := ⟨d - 1, by omega⟩
  refine zOk_loop hg (show mt_tab[87]? = some mt_X6_make from rfl) ([(15, [0, 1, 2, 3, 4, 5]), (74, [0, 1, 2, 3, 5, 6, 7]), (214, [0, 2, 3, 6, 7])], [25, 37]) 143 rfl fun As μ Q hC => ?_
  obtain ⟨a1, a2, t, A, rfl, ha1, ha2, ⟨et, eA, hA⟩, W, hcap, hst, hQ⟩ := hC
  have A1 := hA a1
  have n0 := W.1
  have p0 := W.2.1
  refine ⟨rfl, fun pc vs μ' n => (pc = 15 → ∃ (v4 : Int) (v5 : Int), vs = [.inr (.inr (59, 59)), .inl a1, .inl a2, .inl (A a1), .inl v4, .inl v5] ∧ μ' = μ ∧ ((-2147483648) ≤ v4 ∧ v4 ≤ 2147483647) ∧ (0 ≤ v5 ∧ v5 ≤ A a1) ∧ v4 = tHs a1 (fun i => μ.1 65 (a2 + i)) v5.toNat ∧ n = (Int.toNat (2147483648 - v5 + 3 * 4294967296))) ∧ (pc = 74 → ∃ (v5 : Int) (v6 : Int) (v7 : Int), vs = [.inr (.inr (59, 59)), .inl a1, .inl a2, .inl (A a1), .inl v5, .inl v6, .inl v7] ∧ μ' = μ ∧ (0 ≤ v5 ∧ v5 < 2048) ∧ ((-2147483648) ≤ v6 ∧ v6 < tn μ) ∧ (0 ≤ v7 ∧ v7 ≤ 7000) ∧ (v5 = tHn a1 (A a1) (fun i => μ.1 65 (a2 + i)) ∧ (0 ≤ v6 → tHx μ A v6 = v5) ∧ (∀ y : Int, tLk μ a1 (A a1) (fun i => μ.1 65 (a2 + i)) y → y ≤ v6) ∧ v6 < tn μ - v7) ∧ n = (Int.toNat (2147483648 - v7 + 2 * 4294967296))) ∧ (pc = 214 → ∃ (v7 hh : Int), vs = [.inr (.inr (59, 59)), .inl a2, .inl (A a1), .inl (tn μ), .inl v7] ∧ (0 ≤ v7 ∧ v7 ≤ A a1) ∧ (tB μ μ' a1 a2 hh v7 ∧ hh = tHn a1 (A a1) (fun i => μ.1 65 (a2 + i)) ∧ (0 ≤ hh ∧ hh < 2048) ∧ ∀ y : Int, ¬ tLk μ a1 (A a1) (fun i => μ.1 65 (a2 + i)) y) ∧ n = (Int.toNat (2147483648 - v7))), ?_, ?_, ?_, ?_, trivial⟩
  · intro t1 et1 ht1
    have q1 : t1 = t := by omega
    rw [q1] at ht1
    rw [q1]
    refine And.intro ht1.1 ⟨yk_X4_arity, ym_X4_arity hg d (by omega), _, _, rfl, ht1.1, ⟨by omega, by omega⟩, ?_⟩
    intro x2 kx2 lx2 hx2
    have X2 : x2 = A a1 := by rw [eA]; exact hx2
    refine Exists.intro (Int.toNat (2147483648 - 0 + 3 * 4294967296)) ?_
    exact ⟨(fun _ => ⟨a1, 0, by rw [X2], rfl, ⟨by omega, by omega⟩, ⟨by omega, by omega⟩, rfl, rfl⟩), (fun h => absurd h (by decide)), (fun h => absurd h (by decide))⟩
  · intro vs m0 n hI
    replace hI := hI.1 rfl
    obtain ⟨v4, v5, rfl, e0, hv4, hv5, hv, rfl⟩ := hI
    subst e0
    refine And.intro ⟨⟨by omega, by omega⟩, ⟨by omega, by omega⟩⟩ (And.intro (fun c3 => ?_) (fun c3 => ?_))
    · intro x4 hx4 kx4 lx4
      intro x5 hx5 kx5 lx5
      intro x6 hx6 kx6 lx6
      have X6 : 0 ≤ x6 ∧ x6 ≤ 2047 := by rw [hx6]; exact t_and _
      refine ⟨zk_X8_at, zm_X8_at hg d (by omega), _, _, _, rfl, ⟨by omega, by omega⟩, ?_⟩
      intro x7 kx7 lx7 fx7 gx7
      have X7 : x7 < tn m0 := by rw [(fx7 ⟨by omega, by omega⟩).1]; exact W.2.2.2.1 x6 (by omega) (by omega)
      have X6e : x6 = tHn a1 (A a1) (fun i => m0.1 65 (a2 + i)) := by
        have e5 : v5 = A a1 := by omega
        unfold tHn tHc
        rw [← e5, ← hv, hx6, hx5, hx4]
      have X7e : x7 = m0.1 64 x6 := (fx7 ⟨by omega, by omega⟩).1
      have LK : ∀ y : Int, tLk m0 a1 (A a1) (fun i => m0.1 65 (a2 + i)) y → tHx m0 A y = x6 := fun y ly => by
        unfold tHx
        rw [ly.2.1, X6e]
        exact (tHn_c ly.2.2).symm
      refine Exists.intro (Int.toNat (2147483648 - 0 + 2 * 4294967296)) (And.intro (by omega) ?_)
      exact ⟨(fun h => absurd h (by decide)), (fun _ => ⟨x6, x7, 0, rfl, rfl, ⟨by omega, by omega⟩, ⟨by omega, by omega⟩, ⟨by omega, by omega⟩, ⟨X6e, fun c => by rw [X7e] at c ⊢; exact W.2.2.2.2.2.1 x6 (by omega) (by omega) c, fun y ly => by rw [X7e, ← LK y ly]; exact W.2.2.2.2.2.2.1 y ly.1.1 ly.1.2, by omega⟩, rfl⟩), (fun h => absurd h (by decide))⟩
    · intro x8 hx8 kx8 lx8
      refine ⟨zk_X8_at, zm_X8_at hg d (by omega), _, _, _, rfl, ⟨by omega, by omega⟩, ?_⟩
      intro x9 kx9 lx9 fx9 gx9
      have X9 : x9 = m0.1 65 (a2 + v5) := (fx9 ⟨by omega, by omega⟩).1
      intro x10 hx10 kx10 lx10
      refine Exists.intro (Int.toNat (2147483648 - (v5 + 1) + 3 * 4294967296)) (And.intro (by omega) ?_)
      exact ⟨(fun _ => ⟨x10, v5 + 1, rfl, rfl, ⟨by omega, by omega⟩, ⟨by omega, by omega⟩, by rw [show (v5 + 1).toNat = v5.toNat + 1 by omega]; unfold tHs; rw [← hv, hx10, hx8, X9, show ((v5.toNat : Nat) : Int) = v5 by omega], rfl⟩), (fun h => absurd h (by decide)), (fun h => absurd h (by decide))⟩
  · intro vs m0 n hI
    replace hI := hI.2.1 rfl
    obtain ⟨v5, v6, v7, rfl, e0, hv5, hv6, hv7, ⟨k1, k2, k3, k4⟩, rfl⟩ := hI
    subst e0
    refine And.intro ⟨⟨by omega, by omega⟩, ⟨by omega, by omega⟩⟩ (And.intro (fun c11 => ?_) (fun c11 => ?_))
    · intro x12 hx12 kx12 lx12
      have X12 : x12 = tn m0 := hx12
      refine And.intro ⟨⟨by omega, by omega⟩, ⟨by omega, by omega⟩⟩ (And.intro (fun c13 => ?_) (fun c13 => ?_))
      · exfalso; omega
      · intro x14 hx14 kx14 lx14
        have X14 : x14 = tp m0 := hx14
        refine And.intro ⟨⟨by omega, by omega⟩, ⟨by omega, by omega⟩⟩ (And.intro (fun c15 => ?_) (fun c15 => ?_))
        · refine ⟨yk_X8_set, ym_X8_set hg d (by omega), _, _, _, _, rfl, ⟨by omega, by omega⟩, ?_⟩
          refine And.intro ⟨by omega, by omega⟩ (And.intro ⟨by omega, by omega⟩ ?_)
          intro m16 qm16 em16
          intro x18 hx18 kx18 lx18
          have X18 : x18 = tp m0 := by rw [hx18, em16, zu_ne (by decide)]; rfl
          refine ⟨yk_X8_set, ym_X8_set hg d (by omega), _, _, _, _, rfl, ⟨by omega, by omega⟩, ?_⟩
          refine And.intro ⟨by omega, by omega⟩ (And.intro ⟨by omega, by omega⟩ ?_)
          intro m19 qm19 em19
          refine ⟨zk_X8_at, zm_X8_at hg d (by omega), _, _, _, rfl, ⟨by omega, by omega⟩, ?_⟩
          intro x21 kx21 lx21 fx21 gx21
          have X21 : x21 < tn m0 := by rw [(fx21 ⟨by omega, by omega⟩).1, em19, zu_ne (by decide), em16, zu_ne (by decide)]; exact W.2.2.2.1 v5 (by omega) (by omega)
          have X21e : x21 = m0.1 64 v5 := by rw [(fx21 ⟨by omega, by omega⟩).1, em19, zu_ne (by decide), em16, zu_ne (by decide)]
          refine ⟨yk_X8_set, ym_X8_set hg d (by omega), _, _, _, _, rfl, ⟨by omega, by omega⟩, ?_⟩
          refine And.intro ⟨by omega, by omega⟩ (And.intro ⟨by omega, by omega⟩ ?_)
          intro m22 qm22 em22
          refine ⟨yk_X8_set, ym_X8_set hg d (by omega), _, _, _, _, rfl, ⟨by omega, by omega⟩, ?_⟩
          refine And.intro ⟨by omega, by omega⟩ (And.intro ⟨by omega, by omega⟩ ?_)
          intro m24 qm24 em24
          have c : ∀ j : Nat, j ≠ 60 → j ≠ 61 → j ≠ 62 → j ≠ 64 → m24.1 j = m0.1 j := fun j a b c d => by rw [em24, zu_ne d, em22, zu_ne c, em19, zu_ne b, em16, zu_ne a]
          have NO : ∀ y : Int, ¬ tLk m0 a1 (A a1) (fun i => m0.1 65 (a2 + i)) y := fun y ly => by
            have q1 := k3 y ly
            have q2 := ly.1.1
            omega
          have TB : tB m0 m24 a1 a2 v5 0 := by
            refine ⟨⟨zl0_t (zl0_t (zl0_t ⟨qm16, by rw [em16]; rfl⟩ ⟨qm19, by rw [em19]; rfl⟩) ⟨qm22, by rw [em22]; rfl⟩) ⟨qm24, by rw [em24]; rfl⟩, fun j hj => c j (by omega) (by omega) (by omega) (by omega), by rw [c 59 (by decide) (by decide) (by decide) (by decide)]⟩, ⟨by unfold tn; rw [c 59 (by decide) (by decide) (by decide) (by decide)], by unfold tp; rw [c 59 (by decide) (by decide) (by decide) (by decide)]⟩, fun x => ?_, fun x => ?_, ⟨?_, fun x hx => ?_⟩, fun h => ?_, fun i a b => by exfalso; omega, fun q _ => by rw [c 63 (by decide) (by decide) (by decide) (by decide)]⟩
            · rw [em24, zu_ne (by decide), em22, zu_ne (by decide), em19, zu_ne (by decide), em16, zu_if, X12]
            · rw [em24, zu_ne (by decide), em22, zu_ne (by decide), em19, zu_if, X12, X18, em16, zu_ne (by decide)]
            · rw [em24, zu_ne (by decide), em22, X12, zu_at]; exact X21e
            · rw [em24, zu_ne (by decide), em22, zu_nk (by rw [X12]; exact hx), em19, zu_ne (by decide), em16, zu_ne (by decide)]
            · rw [em24, zu_if, X12, em22, zu_ne (by decide), em19, zu_ne (by decide), em16, zu_ne (by decide)]
          refine Exists.intro (Int.toNat (2147483648 - 0)) (And.intro (by omega) ?_)
          exact ⟨(fun h => absurd h (by decide)), (fun h => absurd h (by decide)), (fun _ => ⟨0, v5, by rw [X12], ⟨by omega, by omega⟩, ⟨TB, k1, hv5, NO⟩, rfl⟩)⟩
        · exfalso; omega
    · refine And.intro ⟨by omega, by omega⟩ (And.intro (fun c26 => ?_) (fun c26 => ?_))
      · intro x12 hx12 kx12 lx12
        have X12 : x12 = tn m0 := hx12
        refine And.intro ⟨⟨by omega, by omega⟩, ⟨by omega, by omega⟩⟩ (And.intro (fun c13 => ?_) (fun c13 => ?_))
        · exfalso; omega
        · intro x14 hx14 kx14 lx14
          have X14 : x14 = tp m0 := hx14
          refine And.intro ⟨⟨by omega, by omega⟩, ⟨by omega, by omega⟩⟩ (And.intro (fun c15 => ?_) (fun c15 => ?_))
          · refine ⟨yk_X8_set, ym_X8_set hg d (by omega), _, _, _, _, rfl, ⟨by omega, by omega⟩, ?_⟩
            refine And.intro ⟨by omega, by omega⟩ (And.intro ⟨by omega, by omega⟩ ?_)
            intro m16 qm16 em16
            intro x18 hx18 kx18 lx18
            have X18 : x18 = tp m0 := by rw [hx18, em16, zu_ne (by decide)]; rfl
            refine ⟨yk_X8_set, ym_X8_set hg d (by omega), _, _, _, _, rfl, ⟨by omega, by omega⟩, ?_⟩
            refine And.intro ⟨by omega, by omega⟩ (And.intro ⟨by omega, by omega⟩ ?_)
            intro m19 qm19 em19
            refine ⟨zk_X8_at, zm_X8_at hg d (by omega), _, _, _, rfl, ⟨by omega, by omega⟩, ?_⟩
            intro x21 kx21 lx21 fx21 gx21
            have X21 : x21 < tn m0 := by rw [(fx21 ⟨by omega, by omega⟩).1, em19, zu_ne (by decide), em16, zu_ne (by decide)]; exact W.2.2.2.1 v5 (by omega) (by omega)
            have X21e : x21 = m0.1 64 v5 := by rw [(fx21 ⟨by omega, by omega⟩).1, em19, zu_ne (by decide), em16, zu_ne (by decide)]
            refine ⟨yk_X8_set, ym_X8_set hg d (by omega), _, _, _, _, rfl, ⟨by omega, by omega⟩, ?_⟩
            refine And.intro ⟨by omega, by omega⟩ (And.intro ⟨by omega, by omega⟩ ?_)
            intro m22 qm22 em22
            refine ⟨yk_X8_set, ym_X8_set hg d (by omega), _, _, _, _, rfl, ⟨by omega, by omega⟩, ?_⟩
            refine And.intro ⟨by omega, by omega⟩ (And.intro ⟨by omega, by omega⟩ ?_)
            intro m24 qm24 em24
            have c : ∀ j : Nat, j ≠ 60 → j ≠ 61 → j ≠ 62 → j ≠ 64 → m24.1 j = m0.1 j := fun j a b c d => by rw [em24, zu_ne d, em22, zu_ne c, em19, zu_ne b, em16, zu_ne a]
            have NO : ∀ y : Int, ¬ tLk m0 a1 (A a1) (fun i => m0.1 65 (a2 + i)) y := fun y ly => by
              have q1 := k3 y ly
              have q2 := ly.1.1
              omega
            have TB : tB m0 m24 a1 a2 v5 0 := by
              refine ⟨⟨zl0_t (zl0_t (zl0_t ⟨qm16, by rw [em16]; rfl⟩ ⟨qm19, by rw [em19]; rfl⟩) ⟨qm22, by rw [em22]; rfl⟩) ⟨qm24, by rw [em24]; rfl⟩, fun j hj => c j (by omega) (by omega) (by omega) (by omega), by rw [c 59 (by decide) (by decide) (by decide) (by decide)]⟩, ⟨by unfold tn; rw [c 59 (by decide) (by decide) (by decide) (by decide)], by unfold tp; rw [c 59 (by decide) (by decide) (by decide) (by decide)]⟩, fun x => ?_, fun x => ?_, ⟨?_, fun x hx => ?_⟩, fun h => ?_, fun i a b => by exfalso; omega, fun q _ => by rw [c 63 (by decide) (by decide) (by decide) (by decide)]⟩
              · rw [em24, zu_ne (by decide), em22, zu_ne (by decide), em19, zu_ne (by decide), em16, zu_if, X12]
              · rw [em24, zu_ne (by decide), em22, zu_ne (by decide), em19, zu_if, X12, X18, em16, zu_ne (by decide)]
              · rw [em24, zu_ne (by decide), em22, X12, zu_at]; exact X21e
              · rw [em24, zu_ne (by decide), em22, zu_nk (by rw [X12]; exact hx), em19, zu_ne (by decide), em16, zu_ne (by decide)]
              · rw [em24, zu_if, X12, em22, zu_ne (by decide), em19, zu_ne (by decide), em16, zu_ne (by decide)]
            refine Exists.intro (Int.toNat (2147483648 - 0)) (And.intro (by omega) ?_)
            exact ⟨(fun h => absurd h (by decide)), (fun h => absurd h (by decide)), (fun _ => ⟨0, v5, by rw [X12], ⟨by omega, by omega⟩, ⟨TB, k1, hv5, NO⟩, rfl⟩)⟩
          · exfalso; omega
      · refine ⟨zk_X8_at, zm_X8_at hg d (by omega), _, _, _, rfl, ⟨by omega, by omega⟩, ?_⟩
        intro x41 kx41 lx41 fx41 gx41
        have X41 : x41 = m0.1 60 v6 := (fx41 ⟨by omega, by omega⟩).1
        have LK : ∀ y : Int, tLk m0 a1 (A a1) (fun i => m0.1 65 (a2 + i)) y → tHx m0 A y = v5 := fun y ly => by
          unfold tHx
          rw [ly.2.1, k1]
          exact (tHn_c ly.2.2).symm
        refine And.intro ⟨⟨by omega, by omega⟩, ⟨by omega, by omega⟩⟩ (And.intro (fun c42 => ?_) (fun c42 => ?_))
        · have NL : ¬ tLk m0 a1 (A a1) (fun i => m0.1 65 (a2 + i)) v6 := fun e => c42 (by rw [X41]; exact e.2.1)
          refine ⟨zk_X8_at, zm_X8_at hg d (by omega), _, _, _, rfl, ⟨by omega, by omega⟩, ?_⟩
          intro x43 kx43 lx43 fx43 gx43
          have X43 : x43 < v6 := by rw [(fx43 ⟨by omega, by omega⟩).1]; exact W.2.2.2.2.1 v6 (by omega) (by omega)
          have X43e : x43 = m0.1 62 v6 := (fx43 ⟨by omega, by omega⟩).1
          refine Exists.intro (Int.toNat (2147483648 - (v7 + 1) + 2 * 4294967296)) (And.intro (by omega) ?_)
          exact ⟨(fun h => absurd h (by decide)), (fun _ => ⟨v5, x43, v7 + 1, rfl, rfl, hv5, ⟨by omega, by omega⟩, ⟨by omega, by omega⟩, ⟨k1, fun c => by rw [X43e] at c ⊢; rw [W.2.2.2.2.2.2.2.1 v6 (by omega) (by omega) c]; exact k2 (by omega), fun y ly => by
            have q1 := k3 y ly
            have q2 : y ≠ v6 := fun e => NL (e ▸ ly)
            refine Int.not_lt.mp (fun q3 => ?_)
            rw [X43e] at q3
            exact W.2.2.2.2.2.2.2.2.1 v6 y (by omega) (by omega) ly.1.1 q3 (by omega) ((LK y ly).trans (k2 (by omega)).symm), by omega⟩, rfl⟩), (fun h => absurd h (by decide))⟩
        · have X42 : m0.1 60 v6 = a1 := by omega
          have w := W.2.2.1 v6 (by omega) (by omega)
          unfold tNd at w
          rw [X42] at w
          have w1 := w.1
          refine ⟨gk_X6_hasParts, gm_X6_hasParts hg d (by omega), _, _, _, rfl, ⟨by omega, by omega⟩, ⟨by omega, by omega⟩, ⟨by omega, by omega⟩, ⟨by omega, by omega⟩, ?_⟩
          intro x44 kx44 lx44 p44
          refine And.intro ⟨by omega, by omega⟩ (And.intro (fun c45 => ?_) (fun c45 => ?_))
          · have NL : ¬ tLk m0 a1 (A a1) (fun i => m0.1 65 (a2 + i)) v6 := fun e => by
              rcases p44 with q | q
              · have := q.1; omega
              · exact q.2 e.2.2
            refine ⟨zk_X8_at, zm_X8_at hg d (by omega), _, _, _, rfl, ⟨by omega, by omega⟩, ?_⟩
            intro x43 kx43 lx43 fx43 gx43
            have X43 : x43 < v6 := by rw [(fx43 ⟨by omega, by omega⟩).1]; exact W.2.2.2.2.1 v6 (by omega) (by omega)
            have X43e : x43 = m0.1 62 v6 := (fx43 ⟨by omega, by omega⟩).1
            refine Exists.intro (Int.toNat (2147483648 - (v7 + 1) + 2 * 4294967296)) (And.intro (by omega) ?_)
            exact ⟨(fun h => absurd h (by decide)), (fun _ => ⟨v5, x43, v7 + 1, rfl, rfl, hv5, ⟨by omega, by omega⟩, ⟨by omega, by omega⟩, ⟨k1, fun c => by rw [X43e] at c ⊢; rw [W.2.2.2.2.2.2.2.1 v6 (by omega) (by omega) c]; exact k2 (by omega), fun y ly => by
              have q1 := k3 y ly
              have q2 : y ≠ v6 := fun e => NL (e ▸ ly)
              refine Int.not_lt.mp (fun q3 => ?_)
              rw [X43e] at q3
              exact W.2.2.2.2.2.2.2.2.1 v6 y (by omega) (by omega) ly.1.1 q3 (by omega) ((LK y ly).trans (k2 (by omega)).symm), by omega⟩, rfl⟩), (fun h => absurd h (by decide))⟩
          · have P : tPa m0 a2 (m0.1 61 v6) (A a1) := by
              rcases p44 with q | q
              · exact q.2
              · exfalso; have := q.1; omega
            exact And.intro trivial (And.intro ⟨by omega, by omega⟩ (hQ _ _ (zfT_r m0) W (tOd_r m0) ⟨by omega, by omega⟩ ⟨by omega, by omega⟩ X42 (fun i a b => (P i a b).symm)))
  · intro vs m0 n hI
    replace hI := hI.2.2 rfl
    obtain ⟨v7, hh, rfl, hv7, ⟨TB, KE⟩, rfl⟩ := hI
    have T2 := TB.2.1
    refine And.intro ⟨⟨by omega, by omega⟩, ⟨by omega, by omega⟩⟩ (And.intro (fun c47 => ?_) (fun c47 => ?_))
    · intro x48 hx48 kx48 lx48
      have X48 : x48 = tp μ := (show x48 = tp m0 from hx48).trans T2.2
      refine And.intro ⟨by omega, by omega⟩ ?_
      intro m49 em49
      intro x51 hx51 kx51 lx51
      have X51 : x51 = tn μ := by rw [hx51, em49, zu_nk (by decide)]; exact T2.1
      refine And.intro ⟨by omega, by omega⟩ ?_
      intro m52 em52
      have e : v7 = A a1 := by omega
      rw [e] at TB
      have c : ∀ j : Nat, j ≠ 59 → m52.1 j = m0.1 j := fun j hj => by rw [em52, zu_ne hj, em49, zu_ne hj]
      have e7 : tn m52 = tn μ + 1 := by
        show m52.1 59 ((7 : Nat) : Int) = _
        rw [em52, zu_at, X51]
      have e8 : tp m52 = tp μ + A a1 := by
        show m52.1 59 ((8 : Nat) : Int) = _
        rw [em52, zu_nk (by decide), em49, zu_at, X48]
      have E := tB_e W KE.1 KE.2.1 KE.2.2 A1 hcap hst TB c e7 e8
      have z : zfT μ m52 := ⟨zl0_t (zl0_t TB.1.1 (zl0_u em49 (Or.inl (by decide)) (Or.inl ⟨by decide, by decide⟩))) (zl0_u em52 (Or.inl (by decide)) (Or.inl ⟨by decide, by decide⟩)), fun j hj => (c j (by omega)).trans (TB.1.2.1 j hj), by rw [em52, zu_nk (by decide), em49, zu_nk (by decide)]; exact TB.1.2.2⟩
      exact And.intro trivial (And.intro ⟨by omega, by omega⟩ (hQ _ _ z E.1 E.2.1 ⟨by omega, by omega⟩ ⟨by omega, by omega⟩ E.2.2.1 E.2.2.2))
    · intro x54 hx54 kx54 lx54
      have X54 : x54 = tp μ := (show x54 = tp m0 from hx54).trans T2.2
      refine ⟨zk_X8_at, zm_X8_at hg d (by omega), _, _, _, rfl, ⟨by omega, by omega⟩, ?_⟩
      intro x55 kx55 lx55 fx55 gx55
      have X55 : x55 = μ.1 65 (a2 + v7) := by rw [(fx55 ⟨by omega, by omega⟩).1]; exact congrFun (TB.1.2.1 65 (by omega)) _
      refine ⟨yk_X8_set, ym_X8_set hg d (by omega), _, _, _, _, rfl, ⟨by omega, by omega⟩, ?_⟩
      refine And.intro ⟨by omega, by omega⟩ (And.intro ⟨by omega, by omega⟩ ?_)
      intro m56 qm56 em56
      refine Exists.intro (Int.toNat (2147483648 - (v7 + 1))) (And.intro (by omega) ?_)
      exact ⟨(fun h => absurd h (by decide)), (fun h => absurd h (by decide)), (fun _ => ⟨v7 + 1, hh, rfl, ⟨by omega, by omega⟩, ⟨tB_s TB hv7.1 ⟨qm56, by rw [em56]; rfl⟩ (by rw [em56, X54]) X55, KE⟩, rfl⟩)⟩
