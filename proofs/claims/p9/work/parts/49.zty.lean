/-! ### nodes of a table or a question: what they are -/
def zUq (m : zM) (lo : Int) : Prop := ∀ x y : Int, lo ≤ x → x < zTop m → lo ≤ y → y < zTop m → zlike m y (m.1 67 x) (m.1 68 x) (m.1 69 x) (fun i => m.1 70 (4 * x + i)) → x = y
theorem zUq_mk {μ μ' : zM} {lo k v n x : Int} {p : Int → Int} (h0 : 0 ≤ lo) (h : zUq μ lo) (hn : zND μ lo) (hd : zMd μ μ' lo k v n p x) : zUq μ' lo := by
  obtain ⟨d1, d2, d3, d4⟩ := hd
  have same : ∀ a b : Int, lo ≤ a → a < zTop μ → lo ≤ b → b < zTop μ → zlike μ' b (μ'.1 67 a) (μ'.1 68 a) (μ'.1 69 a) (fun i => μ'.1 70 (4 * a + i)) → a = b := by
    intro a b a1 a2 b1 b2 hl
    obtain ⟨e1, e2, e3, e4, e5⟩ := d4 a (by omega) a2
    obtain ⟨f1, f2, f3, f4, f5⟩ := d4 b (by omega) b2
    obtain ⟨l1, l2, l3, l4⟩ := hl
    have h4 := (hn.2.1 a (by omega) a2).1.2
    refine h a b a1 a2 b1 b2 ⟨by rw [← e1, ← f1]; exact l1, by rw [← e2, ← f2]; exact l2, by rw [← e3, ← f3]; exact l3, fun i i1 i2 => ?_⟩
    rw [← e3] at i2
    have := l4 i i1 i2
    dsimp only at this ⊢
    rw [f5 i i1 (by omega), e5 i i1 (by omega)] at this
    exact this
  rcases d3 with ⟨t, -⟩ | ⟨t, tx, no⟩
  · intro a b a1 a2 b1 b2 hl
    rw [t] at a2 b2
    exact same a b a1 a2 b1 b2 hl
  · subst tx
    intro a b a1 a2 b1 b2 hl
    rw [t] at a2 b2
    obtain ⟨k1, k2, k3, k4⟩ := d2
    have hT : 0 ≤ zTop μ := by have := hn.1; omega
    have n4 := (d1.2.1 (zTop μ) hT (by omega)).1.2
    by_cases ha : a < zTop μ
    · by_cases hb : b < zTop μ
      · exact same a b a1 ha b1 hb hl
      · have : b = zTop μ := by omega
        subst this
        exfalso
        obtain ⟨e1, e2, e3, e4, e5⟩ := d4 a (by omega) ha
        obtain ⟨l1, l2, l3, l4⟩ := hl
        refine no a a1 ha ⟨by rw [← e1, ← l1, k1], by rw [← e2, ← l2, k2], by rw [← e3, ← l3, k3], fun i i1 i2 => ?_⟩
        rw [← e5 i i1 (by omega), ← k4 i i1 i2]
        exact (l4 i i1 (by rw [← l3, k3]; exact i2)).symm
    · have : a = zTop μ := by omega
      subst this
      by_cases hb : b < zTop μ
      · exfalso
        obtain ⟨e1, e2, e3, e4, e5⟩ := d4 b (by omega) hb
        obtain ⟨l1, l2, l3, l4⟩ := hl
        refine no b b1 hb ⟨by rw [← e1, l1, k1], by rw [← e2, l2, k2], by rw [← e3, l3, k3], fun i i1 i2 => ?_⟩
        rw [← e5 i i1 (by omega), ← k4 i i1 i2]
        exact l4 i i1 (by rw [k3]; exact i2)
      · omega
def zW1 (m : zM) (lo C Pn F : Int) (cf : Int → Int) (x : Int) : Prop := (∀ i : Int, 0 ≤ i → i < m.1 69 x → lo ≤ m.1 70 (4 * x + i)) ∧ (m.1 67 x = 0 → m.1 68 x < C ∧ m.1 69 x = cf (m.1 68 x)) ∧ (m.1 67 x = 1 → m.1 68 x < Pn ∧ m.1 69 x = 0) ∧ (m.1 67 x = 2 → m.1 68 x < F ∧ m.1 69 x = 0) ∧ (m.1 67 x = 3 → m.1 69 x = 0) ∧ (m.1 67 x = 4 ∨ m.1 67 x = 5 → m.1 69 x = 1 ∧ m.1 67 (m.1 70 (4 * x + 0)) ≤ 2)
def zWf (m : zM) (lo hi C Pn F : Int) (cf : Int → Int) : Prop := ∀ x : Int, lo ≤ x → x < hi → zW1 m lo C Pn F cf x
theorem zW1_old {μ m : zM} {lo C Pn F n x : Int} {cf : Int → Int} (ho : zOld μ m n) (h0 : 0 ≤ x) (h1 : x < n) (hn : zNd μ x) (h : zW1 μ lo C Pn F cf x) : zW1 m lo C Pn F cf x := by
  obtain ⟨e1, e2, e3, e4, e5⟩ := ho x h0 h1
  obtain ⟨w1, w2, w3, w4, w5, w6⟩ := h
  have h4 := hn.1.2
  unfold zW1
  rw [e1, e2, e3]
  refine ⟨fun i a b => ?_, w2, w3, w4, w5, fun q => ?_⟩
  · rw [e5 i a (by omega)]; exact w1 i a b
  · obtain ⟨c1, c2⟩ := w6 q
    refine ⟨c1, ?_⟩
    have := hn.2.1 0 (by omega) (by omega)
    rw [e5 0 (by omega) (by omega), (ho _ this.1 (by omega)).1]
    exact c2
theorem zW1_like {m : zM} {lo C Pn F x k v n : Int} {cf p : Int → Int} (hl : zlike m x k v n p) (h1 : ∀ i : Int, 0 ≤ i → i < n → lo ≤ p i) (h2 : k = 0 → v < C ∧ n = cf v) (h3 : k = 1 → v < Pn ∧ n = 0) (h4 : k = 2 → v < F ∧ n = 0) (h5 : k = 3 → n = 0) (h6 : k = 4 ∨ k = 5 → n = 1 ∧ m.1 67 (p 0) ≤ 2) : zW1 m lo C Pn F cf x := by
  obtain ⟨l1, l2, l3, l4⟩ := hl
  unfold zW1
  rw [l1, l2, l3]
  refine ⟨fun i a b => by rw [l4 i a b]; exact h1 i a b, h2, h3, h4, h5, fun q => ⟨(h6 q).1, ?_⟩⟩
  rw [l4 0 (by omega) (by have := (h6 q).1; omega)]
  exact (h6 q).2
theorem zWf_mk {μ μ' : zM} {lo C Pn F k v n x : Int} {cf p : Int → Int} (h0 : 0 ≤ lo) (h : zWf μ lo (zTop μ) C Pn F cf) (hn : zND μ lo) (hd : zMd μ μ' lo k v n p x) (hx : zW1 μ' lo C Pn F cf x) : zWf μ' lo (zTop μ') C Pn F cf := by
  intro y a b
  obtain ⟨d1, d2, d3, d4⟩ := hd
  by_cases hy : y < zTop μ
  · exact zW1_old d4 (by omega) hy (hn.2.1 y (by omega) hy) (h y a hy)
  · have : y = x := by rcases d3 with ⟨t, -⟩ | ⟨t, tx, no⟩ <;> omega
    rw [this]; exact hx
theorem zOld_t {a b c : zM} {n k : Int} (h1 : zOld a b n) (h2 : zOld b c k) (hk : n ≤ k) : zOld a c n := by
  intro x h0 hx
  obtain ⟨e1, e2, e3, e4, e5⟩ := h1 x h0 hx
  obtain ⟨f1, f2, f3, f4, f5⟩ := h2 x h0 (by omega)
  exact ⟨f1.trans e1, f2.trans e2, f3.trans e3, f4.trans e4, fun i i1 i2 => (f5 i i1 i2).trans (e5 i i1 i2)⟩
/-- all parameters in a node are of one class -/
def zPar (m : zM) (a b x : Int) : Prop := ∃ P : Int → Prop, P x ∧ ∀ y : Int, P y → (m.1 67 y = 1 → a ≤ m.1 68 y ∧ m.1 68 y < b) ∧ ∀ i : Int, 0 ≤ i → i < m.1 69 y → P (m.1 70 (4 * y + i))
theorem zPar_old {μ m : zM} {a b x n : Int} (h : zPar μ a b x) (ho : zOld μ m n) (hn : ∀ y : Int, 0 ≤ y → y < n → zNd μ y) (h0 : 0 ≤ x) (h1 : x < n) : zPar m a b x := by
  obtain ⟨P, px, hP⟩ := h
  refine ⟨fun y => P y ∧ 0 ≤ y ∧ y < n, ⟨px, h0, h1⟩, fun y ⟨hy, y0, y1⟩ => ?_⟩
  obtain ⟨e1, e2, e3, e4, e5⟩ := ho y y0 y1
  obtain ⟨p1, p2⟩ := hP y hy
  have nd := hn y y0 y1
  rw [e1, e2, e3]
  refine ⟨p1, fun i i1 i2 => ?_⟩
  have h4 := nd.1.2
  have := nd.2.1 i i1 i2
  rw [e5 i i1 (by omega)]
  exact ⟨p2 i i1 i2, this.1, by omega⟩
theorem zPar_like {m : zM} {a b x k v n : Int} {p : Int → Int} (hl : zlike m x k v n p) (h1 : k = 1 → a ≤ v ∧ v < b) (h2 : ∀ i : Int, 0 ≤ i → i < n → zPar m a b (p i)) : zPar m a b x := by
  obtain ⟨l1, l2, l3, l4⟩ := hl
  refine ⟨fun y => y = x ∨ ∃ i : Int, 0 ≤ i ∧ i < n ∧ ∃ P : Int → Prop, P (p i) ∧ (∀ z : Int, P z → (m.1 67 z = 1 → a ≤ m.1 68 z ∧ m.1 68 z < b) ∧ ∀ i : Int, 0 ≤ i → i < m.1 69 z → P (m.1 70 (4 * z + i))) ∧ P y, Or.inl rfl, fun y hy => ?_⟩
  rcases hy with e | ⟨i, i1, i2, P, q1, q2, q3⟩
  · subst e
    rw [l1, l2, l3]
    refine ⟨h1, fun i i1 i2 => Or.inr ⟨i, i1, i2, ?_⟩⟩
    obtain ⟨P, p1, p2⟩ := h2 i i1 i2
    exact ⟨P, p1, p2, by rw [l4 i i1 i2]; exact p1⟩
  · obtain ⟨c1, c2⟩ := q2 y q3
    exact ⟨c1, fun j j1 j2 => Or.inr ⟨i, i1, i2, P, q1, q2, c2 j j1 j2⟩⟩
theorem zPar_same {m m' : zM} {a b x : Int} (h : zPar m a b x) (h67 : m'.1 67 = m.1 67) (h68 : m'.1 68 = m.1 68) (h69 : m'.1 69 = m.1 69) (h70 : m'.1 70 = m.1 70) : zPar m' a b x := by
  unfold zPar
  rw [h67, h68, h69, h70]
  exact h
/-! ### while a type is read -/
def zoa (m : zM) (q : Int) : Nat → Int
  | 0 => 0
  | n + 1 => zoa m q n + m.1 71 (m.1 103 (4 * q + ((n : Nat) : Int)))
def zok (m : zM) (q : Int) : Nat := min 4 (m.1 102 q).toNat
def zwb (m : zM) (q : Int) : Int := if m.1 104 q = 0 then 0 else 1
def zoS (m : zM) : Nat → Int
  | 0 => 0
  | n + 1 => zoS m n + (1 + zwb m ((n : Nat) : Int) + zoa m ((n : Nat) : Int) (zok m ((n : Nat) : Int)))
def zoC (m : zM) : Nat → Int
  | 0 => 0
  | n + 1 => zoC m n + (1 + zwb m ((n : Nat) : Int))
theorem zoa_eq {m m' : zM} {q : Int} : ∀ {n : Nat}, (∀ i : Int, 0 ≤ i → i < (n : Int) → m'.1 71 (m'.1 103 (4 * q + i)) = m.1 71 (m.1 103 (4 * q + i))) → zoa m' q n = zoa m q n
  | 0, _ => rfl
  | n + 1, h => by
    unfold zoa
    rw [zoa_eq (n := n) (fun i a b => h i a (by omega)), h ((n : Nat) : Int) (by omega) (by omega)]
theorem zoS_eq {m m' : zM} : ∀ {n : Nat}, (∀ q : Int, 0 ≤ q → q < (n : Int) → m'.1 104 q = m.1 104 q ∧ m'.1 102 q = m.1 102 q ∧ ∀ i : Int, 0 ≤ i → i < 4 → i < m.1 102 q → m'.1 71 (m'.1 103 (4 * q + i)) = m.1 71 (m.1 103 (4 * q + i))) → zoS m' n = zoS m n
  | 0, _ => rfl
  | n + 1, h => by
    obtain ⟨h1, h2, h3⟩ := h ((n : Nat) : Int) (by omega) (by omega)
    unfold zoS
    rw [zoS_eq (n := n) (fun q a b => h q a (by omega))]
    unfold zwb zok
    rw [h1, h2, zoa_eq (fun i a b => h3 i a (by omega) (by omega))]
theorem zoC_eq {m m' : zM} : ∀ {n : Nat}, (∀ q : Int, 0 ≤ q → q < (n : Int) → m'.1 104 q = m.1 104 q) → zoC m' n = zoC m n
  | 0, _ => rfl
  | n + 1, h => by
    unfold zoC zwb
    rw [zoC_eq (n := n) (fun q a b => h q a (by omega)), h ((n : Nat) : Int) (by omega) (by omega)]
theorem zoS_s (m : zM) {D : Int} (h : 0 ≤ D) : zoS m (D + 1).toNat = zoS m D.toNat + (1 + zwb m D + zoa m D (zok m D)) := by
  rw [show (D + 1).toNat = D.toNat + 1 by omega]
  show zoS m D.toNat + (1 + zwb m ((D.toNat : Nat) : Int) + zoa m ((D.toNat : Nat) : Int) (zok m ((D.toNat : Nat) : Int))) = _
  rw [Int.toNat_of_nonneg h]
theorem zoC_s (m : zM) {D : Int} (h : 0 ≤ D) : zoC m (D + 1).toNat = zoC m D.toNat + (1 + zwb m D) := by
  rw [show (D + 1).toNat = D.toNat + 1 by omega]
  show zoC m D.toNat + (1 + zwb m ((D.toNat : Nat) : Int)) = _
  rw [Int.toNat_of_nonneg h]
def zoQ (m : zM) (lo C Pn pa pe r q : Int) : Prop := (m.1 100 q = 0 → 0 ≤ m.1 101 q ∧ m.1 101 q < C) ∧ (m.1 100 q = 1 → 0 ≤ m.1 101 q ∧ m.1 101 q < Pn ∧ pa ≤ m.1 101 q ∧ m.1 101 q < pe) ∧ (m.1 100 q = 0 ∨ m.1 100 q = 1) ∧ 0 ≤ m.1 102 q ∧ ∀ i : Int, 0 ≤ i → i < 4 → i < m.1 102 q → lo ≤ m.1 103 (4 * q + i) ∧ m.1 103 (4 * q + i) < zTop m ∧ (q = 0 → r = 1 → m.1 67 (m.1 103 (4 * q + i)) ≤ 2) ∧ zPar m pa pe (m.1 103 (4 * q + i))
def zTn (μ m : zM) : Int := m.1 66 ((38 : Nat) : Int) - μ.1 66 ((38 : Nat) : Int)
def zTA (μ m : zM) (lo C Pn F : Int) (cf : Int → Int) : Prop := zND m lo ∧ zWf m lo (zTop m) C Pn F cf ∧ zOld μ m (zTop μ) ∧ zTop μ ≤ zTop m ∧ (zUq μ lo → zUq m lo)
def zTW (m : zM) (c r D o : Int) : Prop := (0 < D + o → (r ≤ 1 → m.1 100 0 = 0) ∧ (r = 1 → m.1 101 0 ≠ c)) ∧ (r = 1 → 1 ≤ D → m.1 104 1 = 0) ∧ m.1 104 0 = 0 ∧ ∀ q : Int, 0 ≤ q → q ≤ D → m.1 104 q = 0 ∨ m.1 104 q = 4 ∨ m.1 104 q = 5
def zTN (μ m : zM) (D o k1 k2 k3 : Int) : Prop := k1 + D + o ≤ zTn μ m ∧ (∀ q : Int, 0 ≤ q → q < D + o → m.1 102 q + (D + o - q) + k1 ≤ zTn μ m) ∧ zoS m (D + o).toNat + k2 ≤ zTn μ m ∧ zTop m - zTop μ + zoC m (D + o).toNat + k3 ≤ zTn μ m
def zTI (μ m : zM) (lo C Pn F : Int) (cf : Int → Int) (pa pe c r D o k1 k2 k3 : Int) : Prop := zTA μ m lo C Pn F cf ∧ (∀ q : Int, 0 ≤ q → q < D + o → zoQ m lo C Pn pa pe r q) ∧ (∀ q : Int, 0 ≤ q → q < D → m.1 100 q = 0) ∧ zTW m c r D o ∧ zTN μ m D o k1 k2 k3
theorem zTA_same {μ m m' : zM} {lo C Pn F : Int} {cf : Int → Int} (h : zTA μ m lo C Pn F cf) (hc : ∀ j : Nat, 67 ≤ j → j ≤ 73 → m'.1 j = m.1 j) (ht : zTop m' = zTop m) : zTA μ m' lo C Pn F cf := by
  obtain ⟨h1, h2, h3, h4, h5⟩ := h
  refine ⟨zND_t.2 (by rw [ht]; exact zNDt_same hc (zND_t.1 h1)), ?_, ?_, by omega, fun q => ?_⟩
  · unfold zWf zW1
    rw [ht, hc 67 (by omega) (by omega), hc 68 (by omega) (by omega), hc 69 (by omega) (by omega), hc 70 (by omega) (by omega)]
    exact h2
  · unfold zOld
    rw [hc 67 (by omega) (by omega), hc 68 (by omega) (by omega), hc 69 (by omega) (by omega), hc 70 (by omega) (by omega), hc 71 (by omega) (by omega)]
    exact h3
  · unfold zUq zlike
    rw [ht, hc 67 (by omega) (by omega), hc 68 (by omega) (by omega), hc 69 (by omega) (by omega), hc 70 (by omega) (by omega)]
    exact h5 q
theorem zTI_fr {μ m m' : zM} {lo C Pn F pa pe c r D o k1 k2 k3 e : Int} {cf : Int → Int} (h : zTI μ m lo C Pn F cf pa pe c r D o k1 k2 k3) (hc : ∀ j : Nat, 67 ≤ j → j ≤ 73 → m'.1 j = m.1 j) (ho : ∀ j : Nat, 100 ≤ j → j ≤ 104 → m'.1 j = m.1 j) (ht : zTop m' = zTop m) (hn : m'.1 66 ((38 : Nat) : Int) = m.1 66 ((38 : Nat) : Int) + e) : zTI μ m' lo C Pn F cf pa pe c r D o (k1 + e) (k2 + e) (k3 + e) := by
  obtain ⟨h1, h2, h3, h4, h5⟩ := h
  have hN : zTn μ m' = zTn μ m + e := by unfold zTn; rw [hn]; omega
  have c71 := hc 71 (by omega) (by omega)
  have c102 := ho 102 (by omega) (by omega)
  have c103 := ho 103 (by omega) (by omega)
  have c104 := ho 104 (by omega) (by omega)
  refine ⟨zTA_same h1 hc ht, fun q a b => ?_, fun q a b => ?_, ?_, ?_⟩
  · unfold zoQ
    rw [ht, ho 100 (by omega) (by omega), ho 101 (by omega) (by omega), c102, c103, hc 67 (by omega) (by omega)]
    obtain ⟨q1, q2, q3, q4, q5⟩ := h2 q a b
    exact ⟨q1, q2, q3, q4, fun i i1 i2 i3 => ⟨(q5 i i1 i2 i3).1, (q5 i i1 i2 i3).2.1, (q5 i i1 i2 i3).2.2.1, zPar_same (q5 i i1 i2 i3).2.2.2 (hc 67 (by omega) (by omega)) (hc 68 (by omega) (by omega)) (hc 69 (by omega) (by omega)) (hc 70 (by omega) (by omega))⟩⟩
  · rw [ho 100 (by omega) (by omega)]; exact h3 q a b
  · unfold zTW
    rw [ho 100 (by omega) (by omega), ho 101 (by omega) (by omega), c104]
    exact h4
  · unfold zTN at h5 ⊢
    rw [hN, c102, ht, zoS_eq (m := m) (m' := m') (fun q a b => ⟨by rw [c104], by rw [c102], fun i _ _ _ => by rw [c71, c103]⟩), zoC_eq (m := m) (m' := m') (fun q a b => by rw [c104])]
    obtain ⟨g1, g2, g3, g4⟩ := h5
    exact ⟨by omega, fun q a b => by have := g2 q a b; omega, by omega, by omega⟩
theorem zTI_weak {μ m : zM} {lo C Pn F pa pe c r D o k1 k2 k3 j1 j2 j3 : Int} {cf : Int → Int} (h : zTI μ m lo C Pn F cf pa pe c r D o k1 k2 k3) (e1 : j1 ≤ k1) (e2 : j2 ≤ k2) (e3 : j3 ≤ k3) : zTI μ m lo C Pn F cf pa pe c r D o j1 j2 j3 := by
  obtain ⟨h1, h2, h3, h4, g1, g2, g3, g4⟩ := h
  exact ⟨h1, h2, h3, h4, by omega, fun q a b => by have := g2 q a b; omega, by omega, by omega⟩
theorem zTI_mk {μ m m' : zM} {lo C Pn F pa pe c r D o k1 k2 k3 k v n x : Int} {cf p : Int → Int} (h : zTI μ m lo C Pn F cf pa pe c r D o k1 k2 k3) (ho : ∀ j : Nat, 100 ≤ j → j ≤ 104 → m'.1 j = m.1 j) (hn : m'.1 66 ((38 : Nat) : Int) = m.1 66 ((38 : Nat) : Int)) (hd : zMd m m' lo k v n p x) (hx : zW1 m' lo C Pn F cf x) : zTI μ m' lo C Pn F cf pa pe c r D o k1 k2 (k3 - 1) := by
  obtain ⟨⟨a1, a2, a3, a4, a5⟩, h2, h3, h4, h5⟩ := h
  have hN : zTn μ m' = zTn μ m := by unfold zTn; rw [hn]
  have l0 : 0 ≤ lo := a1.1.1
  have c102 := ho 102 (by omega) (by omega)
  have c103 := ho 103 (by omega) (by omega)
  have c104 := ho 104 (by omega) (by omega)
  have tt : zTop m ≤ zTop m' ∧ zTop m' ≤ zTop m + 1 := by rcases hd.2.2.1 with q | q <;> omega
  have d4 := hd.2.2.2
  refine ⟨⟨hd.1, zWf_mk l0 a2 a1 hd hx, zOld_t a3 d4 a4, by omega, fun q => zUq_mk l0 (a5 q) a1 hd⟩, fun q a b => ?_, fun q a b => ?_, ?_, ?_⟩
  · obtain ⟨q1, q2, q3, q4, q5⟩ := h2 q a b
    unfold zoQ
    rw [ho 100 (by omega) (by omega), ho 101 (by omega) (by omega), c102, c103]
    refine ⟨q1, q2, q3, q4, fun i i1 i2 i3 => ?_⟩
    obtain ⟨s1, s2, s3, s4⟩ := q5 i i1 i2 i3
    refine ⟨s1, by omega, fun e1 e2 => ?_, zPar_old s4 d4 a1.2.1 (by omega) s2⟩
    rw [(d4 _ (by omega) s2).1]
    exact s3 e1 e2
  · rw [ho 100 (by omega) (by omega)]; exact h3 q a b
  · unfold zTW
    rw [ho 100 (by omega) (by omega), ho 101 (by omega) (by omega), c104]
    exact h4
  · unfold zTN at h5 ⊢
    rw [hN, c102, zoS_eq (m := m) (m' := m') (fun q a b => ⟨by rw [c104], by rw [c102], fun i i1 i2 i3 => by
      have s := (h2 q a (by omega)).2.2.2.2 i i1 i2 i3
      rw [c103, (d4 _ (by omega) s.2.1).2.2.2.1]⟩), zoC_eq (m := m) (m' := m') (fun q a b => by rw [c104])]
    obtain ⟨g1, g2, g3, g4⟩ := h5
    exact ⟨by omega, g2, by omega, by omega⟩
theorem zTI_add {μ m m' : zM} {lo C Pn F pa pe c r D k1 k2 k3 x s : Int} {cf : Int → Int} (h : zTI μ m lo C Pn F cf pa pe c r D 1 k1 k2 k3) (hD : 0 ≤ D) (hf : ∀ j : Nat, j ≠ 66 → j ≠ 102 → j ≠ 103 → m'.1 j = m.1 j) (ht : zTop m' = zTop m) (hn : m'.1 66 ((38 : Nat) : Int) = m.1 66 ((38 : Nat) : Int))
    (p0 : m'.1 102 D = m.1 102 D + 1) (p1 : ∀ q : Int, q ≠ D → m'.1 102 q = m.1 102 q) (p2 : ∀ q : Int, q ≠ 4 * D + m.1 102 D → m'.1 103 q = m.1 103 q) (p3 : m.1 102 D < 4 → m'.1 103 (4 * D + m.1 102 D) = x)
    (hx : lo ≤ x ∧ x < zTop m) (hs : m.1 71 x ≤ s) (hs0 : 0 ≤ s) (hr : D = 0 → r = 1 → m.1 67 x ≤ 2) (hpx : zPar m pa pe x) : zTI μ m' lo C Pn F cf pa pe c r D 1 (k1 - 1) (k2 - s) k3 := by
  obtain ⟨h1, h2, h3, h4, h5⟩ := h
  have hN : zTn μ m' = zTn μ m := by unfold zTn; rw [hn]
  have c104 := hf 104 (by decide) (by decide) (by decide)
  have c71 := hf 71 (by decide) (by decide) (by decide)
  have c67 := hf 67 (by decide) (by decide) (by decide)
  have ps : ∀ y : Int, zPar m pa pe y → zPar m' pa pe y := fun y hy => zPar_same hy c67 (hf 68 (by decide) (by decide) (by decide)) (hf 69 (by decide) (by decide) (by decide)) (hf 70 (by decide) (by decide) (by decide))
  have hD0 := (h2 D hD (by omega)).2.2.2.1
  -- rows of the others: nothing of theirs is written while fewer than 4 are kept
  have p2' : ∀ q i : Int, 0 ≤ q → q < D → 0 ≤ i → i < 4 → m'.1 103 (4 * q + i) = m.1 103 (4 * q + i) := fun q i a b c d => p2 _ (by omega)
  refine ⟨zTA_same h1 (fun j a b => hf j (by omega) (by omega) (by omega)) ht, fun q a b => ?_, fun q a b => ?_, ?_, ?_⟩
  · obtain ⟨q1, q2, q3, q4, q5⟩ := h2 q a b
    unfold zoQ
    rw [ht, hf 100 (by decide) (by decide) (by decide), hf 101 (by decide) (by decide) (by decide), c67]
    by_cases hq : q = D
    · subst hq
      refine ⟨q1, q2, q3, by rw [p0]; omega, fun i i1 i2 i3 => ?_⟩
      rw [p0] at i3
      by_cases hi : i = m.1 102 q
      · rw [hi, p3 (by omega)]
        exact ⟨hx.1, hx.2, hr, ps _ hpx⟩
      · rw [p2 _ (by omega)]
        have g := q5 i i1 i2 (by omega)
        exact ⟨g.1, g.2.1, g.2.2.1, ps _ g.2.2.2⟩
    · rw [p1 q hq]
      refine ⟨q1, q2, q3, q4, fun i i1 i2 i3 => ?_⟩
      rw [p2' q i a (by omega) i1 i2]
      have g := q5 i i1 i2 i3
      exact ⟨g.1, g.2.1, g.2.2.1, ps _ g.2.2.2⟩
  · rw [hf 100 (by decide) (by decide) (by decide)]; exact h3 q a b
  · unfold zTW
    rw [hf 100 (by decide) (by decide) (by decide), hf 101 (by decide) (by decide) (by decide), c104]
    exact h4
  · obtain ⟨g1, g2, g3, g4⟩ := h5
    unfold zTN
    rw [hN, ht, zoC_eq (m := m) (m' := m') (fun q a b => by rw [c104]), zoS_s m' hD, zoS_eq (m := m) (m' := m') (fun q a b => ⟨by rw [c104], p1 q (by omega), fun i i1 i2 i3 => by rw [c71, p2' q i a (by omega) i1 i2]⟩)]
    rw [zoS_s m hD] at g3
    have hw : zwb m' D = zwb m D := by unfold zwb; rw [c104]
    refine ⟨by omega, fun q a b => ?_, ?_, g4⟩
    · by_cases hq : q = D
      · rw [hq, p0]; have := g2 D hD (by omega); omega
      · rw [p1 q hq]; have := g2 q a b; omega
    · rw [hw]
      have hz : zoa m' D (zok m' D) ≤ zoa m D (zok m D) + s := by
        by_cases hc : m.1 102 D < 4
        · have e1 : zok m' D = zok m D + 1 := by unfold zok; rw [p0]; omega
          have e2 : ((zok m D : Nat) : Int) = m.1 102 D := by unfold zok; omega
          rw [e1]
          show zoa m' D (zok m D) + m'.1 71 (m'.1 103 (4 * D + ((zok m D : Nat) : Int))) ≤ _
          rw [e2, p3 hc, c71, zoa_eq (m := m) (m' := m') (fun i i1 i2 => by rw [c71, p2 _ (by omega)])]
          omega
        · have e1 : zok m' D = zok m D := by unfold zok; rw [p0]; omega
          rw [e1, zoa_eq (m := m) (m' := m') (fun i i1 i2 => by rw [c71, p2 _ (by unfold zok at i2; omega)])]
          omega
      omega
theorem zTI_pop {μ m : zM} {lo C Pn F pa pe c r D k1 k2 k3 : Int} {cf : Int → Int} (h : zTI μ m lo C Pn F cf pa pe c r D 1 k1 k2 k3) (hD : 1 ≤ D) : zTI μ m lo C Pn F cf pa pe c r (D - 1) 1 (k1 + 1) (k2 + (1 + zwb m D + zoa m D (zok m D))) (k3 + (1 + zwb m D)) := by
  obtain ⟨h1, h2, h3, h4, g1, g2, g3, g4⟩ := h
  rw [zoS_s m (by omega)] at g3
  rw [zoC_s m (by omega)] at g4
  refine ⟨h1, fun q a b => h2 q a (by omega), fun q a b => h3 q a (by omega), ⟨fun _ => h4.1 (by omega), fun a b => h4.2.1 a (by omega), h4.2.2.1, fun q a b => h4.2.2.2 q a (by omega)⟩, by omega, fun q a b => by have := g2 q a (by omega); omega, ?_, ?_⟩
  · rw [show D - 1 + 1 = D by omega]; omega
  · rw [show D - 1 + 1 = D by omega]; omega
theorem zTI_push {μ m m' : zM} {lo C Pn F pa pe c r D k1 k2 k3 i w : Int} {cf : Int → Int} (h : zTI μ m lo C Pn F cf pa pe c r D 1 k1 k2 k3) (hD : 0 ≤ D) (e : m' = zu m 104 i w) (hi : i = D + 1) (hw : w = 0 ∨ w = 4 ∨ w = 5) (hr : r = 1 → D = 0 → w = 0) (hp : m.1 100 D = 0) : zTI μ m' lo C Pn F cf pa pe c r (D + 1) 0 k1 k2 k3 := by
  subst hi
  obtain ⟨h1, h2, h3, h4, g1, g2, g3, g4⟩ := h
  have hf : ∀ j : Nat, j ≠ 104 → m'.1 j = m.1 j := fun j hj => by rw [e, zu_ne hj]
  have ht : zTop m' = zTop m := congrFun (hf 66 (by decide)) _
  have hN : zTn μ m' = zTn μ m := by unfold zTn; rw [hf 66 (by decide)]
  have w0 : ∀ q : Int, q ≠ D + 1 → m'.1 104 q = m.1 104 q := fun q hq => by rw [e, zu_nk hq]
  have w1 : m'.1 104 (D + 1) = w := by rw [e, zu_at]
  refine ⟨zTA_same h1 (fun j a b => hf j (by omega)) ht, fun q a b => ?_, fun q a b => ?_, ⟨?_, ?_, ?_, ?_⟩, ?_⟩
  · unfold zoQ
    rw [ht, hf 100 (by decide), hf 101 (by decide), hf 102 (by decide), hf 103 (by decide), hf 67 (by decide)]
    obtain ⟨q1, q2, q3, q4, q5⟩ := h2 q a (by omega)
    exact ⟨q1, q2, q3, q4, fun i i1 i2 i3 => ⟨(q5 i i1 i2 i3).1, (q5 i i1 i2 i3).2.1, (q5 i i1 i2 i3).2.2.1, zPar_same (q5 i i1 i2 i3).2.2.2 (hf 67 (by decide)) (hf 68 (by decide)) (hf 69 (by decide)) (hf 70 (by decide))⟩⟩
  · rw [hf 100 (by decide)]
    by_cases hq : q = D
    · rw [hq]; exact hp
    · exact h3 q a (by omega)
  · rw [hf 100 (by decide), hf 101 (by decide)]; exact fun _ => h4.1 (by omega)
  · intro a b
    by_cases hq : D = 0
    · rw [show (1 : Int) = D + 1 by omega, w1]; exact hr a hq
    · rw [w0 1 (by omega)]; exact h4.2.1 a (by omega)
  · rw [w0 0 (by omega)]; exact h4.2.2.1
  · intro q a b
    by_cases hq : q = D + 1
    · rw [hq, w1]; exact hw
    · rw [w0 q hq]; exact h4.2.2.2 q a (by omega)
  · unfold zTN
    rw [hN, ht, hf 102 (by decide), show D + 1 + 0 = D + 1 by omega, zoS_eq (m := m) (m' := m') (fun q a b => ⟨w0 q (by omega), by rw [hf 102 (by decide)], fun i _ _ _ => by rw [hf 71 (by decide), hf 103 (by decide)]⟩), zoC_eq (m := m) (m' := m') (fun q a b => w0 q (by omega))]
    exact ⟨by omega, g2, g3, g4⟩
theorem zTI_open {μ m m' : zM} {lo C Pn F pa pe c r D k1 k2 k3 : Int} {cf : Int → Int} (h : zTI μ m lo C Pn F cf pa pe c r D 0 k1 k2 k3) (hD : 0 ≤ D) (hf : ∀ j : Nat, j ≠ 66 → j ≠ 100 → j ≠ 101 → j ≠ 102 → m'.1 j = m.1 j) (ht : zTop m' = zTop m) (hn : m'.1 66 ((38 : Nat) : Int) = m.1 66 ((38 : Nat) : Int) + 1)
    (p0 : m'.1 102 D = 0) (p1 : m'.1 100 D = 0 ∨ m'.1 100 D = 1) (p2 : 0 ≤ m'.1 101 D) (p3 : m'.1 100 D = 0 → m'.1 101 D < C) (p4 : m'.1 100 D = 1 → m'.1 101 D < Pn ∧ pa ≤ m'.1 101 D ∧ m'.1 101 D < pe) (p5 : D = 0 → (r ≤ 1 → m'.1 100 D = 0) ∧ (r = 1 → m'.1 101 D ≠ c))
    (p6 : ∀ q : Int, q ≠ D → m'.1 100 q = m.1 100 q ∧ m'.1 101 q = m.1 101 q ∧ m'.1 102 q = m.1 102 q) : zTI μ m' lo C Pn F cf pa pe c r D 1 k1 (k2 - zwb m D) (k3 - zwb m D) := by
  obtain ⟨h1, h2, h3, h4, g1, g2, g3, g4⟩ := h
  have hN : zTn μ m' = zTn μ m + 1 := by unfold zTn; rw [hn]; omega
  have c104 := hf 104 (by decide) (by decide) (by decide) (by decide)
  have c103 := hf 103 (by decide) (by decide) (by decide) (by decide)
  have c71 := hf 71 (by decide) (by decide) (by decide) (by decide)
  have c67 := hf 67 (by decide) (by decide) (by decide) (by decide)
  rw [show D + 0 = D by omega] at g3 g4
  refine ⟨zTA_same h1 (fun j a b => hf j (by omega) (by omega) (by omega) (by omega)) ht, fun q a b => ?_, fun q a b => ?_, ⟨fun _ => ?_, ?_, ?_, ?_⟩, ?_⟩
  · by_cases hq : q = D
    · subst hq
      exact ⟨fun a => ⟨p2, p3 a⟩, fun a => ⟨p2, p4 a⟩, p1, by omega, fun i i1 i2 i3 => by omega⟩
    · unfold zoQ
      rw [ht, (p6 q hq).1, (p6 q hq).2.1, (p6 q hq).2.2, c103, c67]
      obtain ⟨q1, q2, q3, q4, q5⟩ := h2 q a (by omega)
      exact ⟨q1, q2, q3, q4, fun i i1 i2 i3 => ⟨(q5 i i1 i2 i3).1, (q5 i i1 i2 i3).2.1, (q5 i i1 i2 i3).2.2.1, zPar_same (q5 i i1 i2 i3).2.2.2 c67 (hf 68 (by decide) (by decide) (by decide) (by decide)) (hf 69 (by decide) (by decide) (by decide) (by decide)) (hf 70 (by decide) (by decide) (by decide) (by decide))⟩⟩
  · rw [(p6 q (by omega)).1]; exact h3 q a b
  · by_cases hq : D = 0
    · rw [hq] at p5; exact p5 rfl
    · rw [(p6 0 (by omega)).1, (p6 0 (by omega)).2.1]; exact h4.1 (by omega)
  · rw [c104]; exact h4.2.1
  · rw [c104]; exact h4.2.2.1
  · rw [c104]; exact h4.2.2.2
  · unfold zTN
    rw [hN, ht, zoS_s m' hD, zoC_s m' hD, zoS_eq (m := m) (m' := m') (n := D.toNat) (fun q a b => ⟨by rw [c104], (p6 q (by omega)).2.2, fun i _ _ _ => by rw [c71, c103]⟩), zoC_eq (m := m) (m' := m') (n := D.toNat) (fun q a b => by rw [c104])]
    have hz : zoa m' D (zok m' D) = 0 := by unfold zok; rw [p0]; rfl
    have hw : zwb m' D = zwb m D := by unfold zwb; rw [c104]
    rw [hz, hw]
    refine ⟨by omega, fun q a b => ?_, by omega, by omega⟩
    by_cases hq : q = D
    · rw [hq, p0]; omega
    · rw [(p6 q hq).2.2]; have := g2 q a (by omega); omega
theorem zTI_0 {μ m : zM} {lo C Pn F pa pe c r i w : Int} {cf : Int → Int} (h : zND μ lo) (hw : zWf μ lo (zTop μ) C Pn F cf) (e : m = zu μ 104 i w) (hi : i = 0) (hw0 : w = 0) : zTI μ m lo C Pn F cf pa pe c r 0 0 0 0 0 := by
  subst hi hw0
  have hf : ∀ j : Nat, j ≠ 104 → m.1 j = μ.1 j := fun j hj => by rw [e, zu_ne hj]
  have ht : zTop m = zTop μ := congrFun (hf 66 (by decide)) _
  have hN : zTn μ m = 0 := by unfold zTn; rw [hf 66 (by decide)]; omega
  have h00 : m.1 104 0 = 0 := by rw [e, zu_at]
  refine ⟨zTA_same (m := μ) ⟨h, hw, zOld_r _ _, Int.le_refl _, id⟩ (fun j a b => hf j (by omega)) ht, fun q a b => by omega, fun q a b => by omega, ⟨fun a => by omega, fun a b => by omega, h00, fun q a b => by rw [show q = 0 by omega]; exact Or.inl h00⟩, ?_⟩
  unfold zTN
  rw [hN]
  refine ⟨by omega, fun q a b => by omega, ?_, ?_⟩
  · show (0 : Int) + 0 ≤ 0; omega
  · rw [ht]; show zTop μ - zTop μ + 0 + 0 ≤ 0; omega
/-- how long a node's size is at most -/
theorem zcap_le (x : Int) : zcap x ≤ x := by unfold zcap; split <;> omega
theorem zsm_zoa {m : zM} {q : Int} {f : Int → Int} : ∀ {n : Nat}, (∀ i : Int, 0 ≤ i → i < (n : Int) → f i = m.1 71 (m.1 103 (4 * q + i))) → zsm f n = 1 + zoa m q n
  | 0, _ => rfl
  | n + 1, h => by
    unfold zsm zoa
    rw [zsm_zoa (n := n) (fun i a b => h i a (by omega)), h ((n : Nat) : Int) (by omega) (by omega)]
    omega
theorem zanyF {l : List Nat} {j : Nat} (h : ∀ r ∈ l, j ≠ r) : l.any (fun r => Nat.beq j r) = false := by
  cases hq : l.any (fun r => Nat.beq j r)
  · rfl
  · obtain ⟨r, h1, h2⟩ := List.any_eq_true.mp hq
    exact absurd (Nat.eq_of_beq_eq_true h2) (h r h1)
/-! ### what is left of a text -/
def zrm (m : zM) : Int := 2 * (m.1 66 ((30 : Nat) : Int) - m.1 66 ((31 : Nat) : Int)) + (if m.1 66 ((32 : Nat) : Int) = 256 then 0 else 1)
def zrT (m : zM) (s : Int) : Nat := (4 * zrm m + (if s = 1 ∨ s = 2 then 1 else 0)).toNat
theorem zrT_lt {m m' : zM} {s s' : Int} (h : zrm m' < zrm m) (h0 : 0 ≤ zrm m') : zrT m' s' < zrT m s := by
  unfold zrT
  split <;> split <;> omega
theorem zrT_st {m m' : zM} {s s' : Int} (h : zrm m' = zrm m) (h0 : 0 ≤ zrm m') (h1 : ¬ (s' = 1 ∨ s' = 2)) (h2 : s = 1 ∨ s = 2) : zrT m' s' < zrT m s := by
  unfold zrT
  rw [if_neg h1, if_pos h2, h]
  omega
theorem zrm_0 {m : zM} (h : m.1 66 ((31 : Nat) : Int) ≤ m.1 66 ((30 : Nat) : Int)) : 0 ≤ zrm m := by
  unfold zrm
  split <;> omega
theorem zoC_0 (m : zM) : ∀ n : Nat, (n : Int) ≤ zoC m n
  | 0 => by unfold zoC; omega
  | n + 1 => by
    have := zoC_0 m n
    unfold zoC zwb
    split <;> omega
def zTE (μ m : zM) (lo C Pn F : Int) (cf : Int → Int) : Prop := zTA μ m lo C Pn F cf ∧ zTop m - zTop μ ≤ zTn μ m ∧ 0 ≤ zTn μ m
theorem zTE_of {μ m : zM} {lo C Pn F pa pe c r D o k1 k2 k3 : Int} {cf : Int → Int} (h : zTI μ m lo C Pn F cf pa pe c r D o k1 k2 k3) (h1 : 0 ≤ k1 + D + o) (h3 : 0 ≤ k3 + D + o) : zTE μ m lo C Pn F cf := by
  obtain ⟨a1, a2, a3, a4, g1, g2, g3, g4⟩ := h
  have := zoC_0 m (D + o).toNat
  exact ⟨a1, by omega, by omega⟩
theorem zTE_fr {μ m m' : zM} {lo C Pn F : Int} {cf : Int → Int} (h : zTE μ m lo C Pn F cf) (hc : ∀ j : Nat, 67 ≤ j → j ≤ 73 → m'.1 j = m.1 j) (ht : m'.1 66 ((8 : Nat) : Int) = m.1 66 ((8 : Nat) : Int)) (hn : m'.1 66 ((38 : Nat) : Int) = m.1 66 ((38 : Nat) : Int)) : zTE μ m' lo C Pn F cf := by
  obtain ⟨h1, h2, h3⟩ := h
  have hN : zTn μ m' = zTn μ m := by unfold zTn; rw [hn]
  have ht' : zTop m' = zTop m := ht
  exact ⟨zTA_same h1 hc ht', by rw [hN, ht']; exact h2, by rw [hN]; exact h3⟩
theorem zwb_0 {m : zM} {q : Int} (h : m.1 104 q = 0) : zwb m q = 0 := by unfold zwb; rw [if_pos h]
theorem zwb_1 {m : zM} {q : Int} (h : m.1 104 q ≠ 0) : zwb m q = 1 := by unfold zwb; rw [if_neg h]
/-- a type that was begun is closed: the node that it gives -/
theorem zTI_closed {μ m m' : zM} {lo C Pn F pa pe c r D k1 k2 k3 v : Int} {cf : Int → Int} (h : zTI μ m lo C Pn F cf pa pe c r D 1 k1 k2 k3) (hD : 0 ≤ D) (ho : ∀ j : Nat, 100 ≤ j → j ≤ 104 → m'.1 j = m.1 j) (hn : m'.1 66 ((38 : Nat) : Int) = m.1 66 ((38 : Nat) : Int))
    (hp : (m.1 100 D ≠ 0 ∧ zMd m m' lo 1 (m.1 101 D) 0 (m.1 74) v) ∨ (m.1 100 D = 0 ∧ zMd m m' lo 0 (m.1 101 D) (m.1 102 D) (fun i => m.1 103 (4 * D + i)) v)) (hcf : m.1 100 D = 0 → m.1 102 D = cf (m.1 101 D) ∧ m.1 102 D ≤ 4) :
    zTI μ m' lo C Pn F cf pa pe c r D 1 k1 k2 (k3 - 1) ∧ (lo ≤ v ∧ v < zTop m') ∧ m'.1 71 v ≤ 1 + zoa m' D (zok m' D) ∧ m'.1 67 v ≤ 1 ∧ (D = 0 → (r ≤ 1 → m'.1 67 v = 0) ∧ (r = 1 → m'.1 68 v ≠ c ∧ ∀ i : Int, 0 ≤ i → i < m'.1 69 v → m'.1 67 (m'.1 70 (4 * v + i)) ≤ 2)) ∧ zPar m' pa pe v := by
  have hQ := h.2.1 D hD (by omega)
  obtain ⟨q1, q2, q3, q4, q5⟩ := hQ
  have l0 : 0 ≤ lo := h.1.1.1.1
  rcases hp with ⟨n0, hd⟩ | ⟨n0, hd⟩
  · have hl := hd.2.1
    have hv : lo ≤ v ∧ v < zTop m' := by rcases hd.2.2.1 with q | q <;> (have := hd.1.1; have := h.1.1.1; omega)
    have hk1 := q2 (by omega)
    have hW : zW1 m' lo C Pn F cf v := zW1_like hl (fun i a b => by omega) (fun e => by omega) (fun _ => ⟨hk1.2.1, rfl⟩) (fun e => by omega) (fun e => by omega) (fun e => by omega)
    have hT := zTI_mk h ho hn hd hW
    have hs := (hd.1.2.1 v (by omega) hv.2).2.2.2.2
    rw [hl.2.2.1] at hs
    refine ⟨hT, hv, ?_, by rw [hl.1]; omega, fun e => ⟨fun hr => ?_, fun hr => ?_⟩, zPar_like hl (fun _ => hk1.2.2) (fun i a b => by omega)⟩
    · rw [hs]
      have : 0 ≤ zoa m' D (zok m' D) := by
        have hz : ∀ n : Nat, n ≤ zok m' D → 0 ≤ zoa m' D n := by
          intro n
          induction n with
          | zero => intro _; unfold zoa; omega
          | succ n ih =>
            intro hn
            have := ih (by omega)
            unfold zoa
            unfold zok at hn
            have g := (hT.2.1 D hD (by omega)).2.2.2.2 ((n : Nat) : Int) (by omega) (by omega) (by omega)
            have := zsz1 hd.1.2.1 _ _ rfl (by omega) g.2.1
            omega
        exact hz _ (Nat.le_refl _)
      show zcap (zsm _ (0 : Int).toNat) ≤ _
      have := zcap_le (zsm (fun i => m'.1 71 (m'.1 70 (4 * v + i))) (0 : Int).toNat)
      have e0 : zsm (fun i => m'.1 71 (m'.1 70 (4 * v + i))) (0 : Int).toNat = 1 := rfl
      omega
    · exfalso; rw [e] at n0; exact n0 ((h.2.2.2.1.1 (by omega)).1 hr)
    · exfalso; rw [e] at n0; exact n0 ((h.2.2.2.1.1 (by omega)).1 (by omega))
  · have hl := hd.2.1
    have hv : lo ≤ v ∧ v < zTop m' := by rcases hd.2.2.1 with q | q <;> (have := hd.1.1; have := h.1.1.1; omega)
    obtain ⟨hc1, hc2⟩ := hcf n0
    have hW : zW1 m' lo C Pn F cf v := zW1_like hl (fun i a b => (q5 i a (by omega) b).1) (fun _ => ⟨(q1 n0).2, hc1⟩) (fun e => by omega) (fun e => by omega) (fun e => by omega) (fun e => by omega)
    have hT := zTI_mk h ho hn hd hW
    have hs := (hd.1.2.1 v (by omega) hv.2).2.2.2.2
    rw [hl.2.2.1] at hs
    have c102 := ho 102 (by omega) (by omega)
    have c103 := ho 103 (by omega) (by omega)
    refine ⟨hT, hv, ?_, by rw [hl.1]; omega, fun e => ⟨fun _ => hl.1, fun hr => ⟨?_, fun i a b => ?_⟩⟩, zPar_like hl (fun e => by omega) (fun i a b => zPar_old (q5 i a (by omega) b).2.2.2 hd.2.2.2 h.1.1.2.1 (by have := (q5 i a (by omega) b).1; omega) (q5 i a (by omega) b).2.1)⟩
    · rw [hs]
      have e1 : zok m' D = (m.1 102 D).toNat := by unfold zok; rw [c102]; omega
      have e2 : zsm (fun i => m'.1 71 (m'.1 70 (4 * v + i))) (m.1 102 D).toNat = 1 + zoa m' D (m.1 102 D).toNat := zsm_zoa (fun i a b => by
        have := hl.2.2.2 i a (by omega)
        dsimp only at this
        rw [this, c103])
      rw [e1, ← e2]
      exact zcap_le _
    · rw [hl.2.1, e]; exact (h.2.2.2.1.1 (by omega)).2 hr
    · rw [hl.2.2.1] at b
      have := hl.2.2.2 i a b
      dsimp only at this
      have g := q5 i a (by omega) b
      rw [this, (hd.2.2.2 _ (by omega) g.2.1).1]
      exact g.2.2.1 e hr
/-- a node is put behind '?:' or '?^' -/
theorem zTI_wrap {μ m m1 m2 : zM} {lo C Pn F pa pe c r D k1 k2 k3 v v2 w i0 : Int} {cf : Int → Int} (h : zTI μ m lo C Pn F cf pa pe c r D 1 k1 k2 k3) (hv : lo ≤ v ∧ v < zTop m) (hk : m.1 67 v ≤ 1) (hpx : zPar m pa pe v) (e1 : m1 = zu m 74 i0 v) (hi0 : i0 = 0) (ho : ∀ j : Nat, 100 ≤ j → j ≤ 104 → m2.1 j = m1.1 j) (hn : m2.1 66 ((38 : Nat) : Int) = m1.1 66 ((38 : Nat) : Int))
    (hd : zMd m1 m2 lo w 0 1 (m1.1 74) v2) (hw : w = 4 ∨ w = 5) : zTI μ m2 lo C Pn F cf pa pe c r D 1 k1 k2 (k3 - 1) ∧ (lo ≤ v2 ∧ v2 < zTop m2) ∧ m2.1 71 v2 ≤ 1 + m.1 71 v ∧ zPar m2 pa pe v2 ∧ ∀ q : Int, zwb m2 q = zwb m q ∧ (0 ≤ q → q < D + 1 → zoa m2 q (zok m2 q) = zoa m q (zok m q)) := by
  subst hi0
  have hf : ∀ j : Nat, j ≠ 74 → m1.1 j = m.1 j := fun j hj => by rw [e1, zu_ne hj]
  have ht : zTop m1 = zTop m := congrFun (hf 66 (by decide)) _
  have h1 := zTI_fr (e := 0) h (fun j a b => hf j (by omega)) (fun j a b => hf j (by omega)) ht (by rw [hf 66 (by decide)]; omega)
  have p0 : m1.1 74 0 = v := by rw [e1, zu_at]
  have hl := hd.2.1
  have l0 : 0 ≤ lo := h.1.1.1.1
  have hv2 : lo ≤ v2 ∧ v2 < zTop m2 := by rcases hd.2.2.1 with q | q <;> (have := hd.1.1; have := h1.1.1.1; omega)
  have od := hd.2.2.2 v (by omega) (by omega)
  have hW : zW1 m2 lo C Pn F cf v2 := zW1_like hl (fun i a b => by rw [show i = 0 by omega, p0]; exact hv.1) (fun e => by omega) (fun e => by omega) (fun e => by omega) (fun e => by omega) (fun _ => ⟨rfl, by rw [p0, od.1, hf 67 (by decide)]; omega⟩)
  have hT := zTI_mk h1 ho hn hd hW
  have hs := (hd.1.2.1 v2 (by omega) hv2.2).2.2.2.2
  rw [hl.2.2.1] at hs
  refine ⟨zTI_weak hT (by omega) (by omega) (by omega), hv2, ?_, zPar_like hl (fun e => by omega) (fun i a b => by rw [show i = 0 by omega, p0]; exact zPar_old (zPar_same hpx (hf 67 (by decide)) (hf 68 (by decide)) (hf 69 (by decide)) (hf 70 (by decide))) hd.2.2.2 h1.1.1.2.1 (by omega) (by omega)), fun q => ⟨?_, fun a b => ?_⟩⟩
  · rw [hs]
    have := zcap_le (zsm (fun i => m2.1 71 (m2.1 70 (4 * v2 + i))) (1 : Int).toNat)
    have e2 : zsm (fun i => m2.1 71 (m2.1 70 (4 * v2 + i))) (1 : Int).toNat = 1 + m.1 71 v := by
      show zsm _ 0 + _ = _
      have := hl.2.2.2 0 (by omega) (by omega)
      show 1 + m2.1 71 (m2.1 70 (4 * v2 + ((0 : Nat) : Int))) = _
      rw [show (((0 : Nat) : Int)) = 0 from rfl, this, p0, od.2.2.2.1, hf 71 (by decide)]
    omega
  · unfold zwb; rw [ho 104 (by omega) (by omega), hf 104 (by decide)]
  · have c102 : m2.1 102 = m.1 102 := (ho 102 (by omega) (by omega)).trans (hf 102 (by decide))
    have c103 : m2.1 103 = m.1 103 := (ho 103 (by omega) (by omega)).trans (hf 103 (by decide))
    have ek : zok m2 q = zok m q := by unfold zok; rw [c102]
    rw [ek]
    refine zoa_eq (fun i i1 i2 => ?_)
    have g := (h.2.1 q a b).2.2.2.2 i i1 (by unfold zok at i2; omega) (by unfold zok at i2; omega)
    rw [c103, (hd.2.2.2 _ (by omega) (by omega)).2.2.2.1, hf 71 (by decide)]
/-- a closed type is put behind the others of the one that it stands in -/
theorem zTI_back {μ m m' : zM} {lo C Pn F pa pe c r D E x : Int} {cf : Int → Int} (h : zTI μ m lo C Pn F cf pa pe c r D 1 0 0 (-1 - zwb m D)) (hD : 1 ≤ D) (hE : E = D - 1) (hf : ∀ j : Nat, j ≠ 66 → j ≠ 102 → j ≠ 103 → m'.1 j = m.1 j) (ht : zTop m' = zTop m) (hn : m'.1 66 ((38 : Nat) : Int) = m.1 66 ((38 : Nat) : Int))
    (p0 : m'.1 102 E = m.1 102 E + 1) (p1 : ∀ q : Int, q ≠ E → m'.1 102 q = m.1 102 q) (p2 : ∀ q : Int, q ≠ 4 * E + m.1 102 E → m'.1 103 q = m.1 103 q) (p3 : m.1 102 E < 4 → m'.1 103 (4 * E + m.1 102 E) = x)
    (hx : lo ≤ x ∧ x < zTop m) (hs : m.1 71 x ≤ 1 + zwb m D + zoa m D (zok m D)) (hr : D = 1 → r = 1 → m.1 67 x ≤ 2) (hpx : zPar m pa pe x) : zTI μ m' lo C Pn F cf pa pe c r E 1 0 0 0 := by
  subst hE
  have h1 := zTI_pop h hD
  have := zsz1 h.1.1.2.1 _ _ rfl (by have := h.1.1.1; omega) hx.2
  have h2 := zTI_add h1 (by omega) hf ht hn p0 p1 p2 p3 hx hs (by omega) (fun a b => hr (by omega) b) hpx
  exact zTI_weak h2 (by omega) (by omega) (by omega)
theorem zrm_e {m μ : zM} (h : ∀ j : Int, m.1 66 j = μ.1 66 j) : zrm m ≤ zrm μ := by
  unfold zrm
  rw [h, h, h]
  exact Int.le_refl _
theorem zMd_x {μ μ' : zM} {lo k v n x : Int} {p : Int → Int} (h : zMd μ μ' lo k v n p x) (hn : zND μ lo) : lo ≤ x ∧ x < zTop μ' := by
  have := hn.1
  rcases h.2.2.1 with q | q <;> omega
theorem zMd_s {μ μ' : zM} {lo k v x : Int} {p : Int → Int} (h : zMd μ μ' lo k v 0 p x) (hn : zND μ lo) : μ'.1 71 x ≤ 1 := by
  have hx := zMd_x h hn
  have := hn.1
  have hs := (h.1.2.1 x (by omega) hx.2).2.2.2.2
  rw [h.2.1.2.2.1] at hs
  rw [hs]
  exact zcap_le _
theorem zTI_fr0 {μ m m' : zM} {lo C Pn F pa pe c r D o k1 k2 k3 : Int} {cf : Int → Int} (h : zTI μ m lo C Pn F cf pa pe c r D o k1 k2 k3) (hc : ∀ j : Nat, 67 ≤ j → j ≤ 73 → m'.1 j = m.1 j) (ho : ∀ j : Nat, 100 ≤ j → j ≤ 104 → m'.1 j = m.1 j) (ht : zTop m' = zTop m) (hn : m'.1 66 ((38 : Nat) : Int) = m.1 66 ((38 : Nat) : Int)) : zTI μ m' lo C Pn F cf pa pe c r D o k1 k2 k3 :=
  zTI_weak (zTI_fr (e := 0) h hc ho ht (by omega)) (by omega) (by omega) (by omega)
theorem zTI_n1 {μ m m' : zM} {lo C Pn F pa pe c r D o : Int} {cf : Int → Int} (h : zTI μ m lo C Pn F cf pa pe c r D o 0 0 0) (hc : ∀ j : Nat, 67 ≤ j → j ≤ 73 → m'.1 j = m.1 j) (ho : ∀ j : Nat, 100 ≤ j → j ≤ 104 → m'.1 j = m.1 j) (ht : zTop m' = zTop m) (hn : m'.1 66 ((38 : Nat) : Int) = m.1 66 ((38 : Nat) : Int) + 1) : zTI μ m' lo C Pn F cf pa pe c r D o 1 1 1 :=
  zTI_weak (zTI_fr (e := 1) h hc ho ht hn) (by omega) (by omega) (by omega)
theorem zTI_add1 {μ m m' : zM} {lo C Pn F pa pe c r D x : Int} {cf : Int → Int} (h : zTI μ m lo C Pn F cf pa pe c r D 1 1 1 (1 - 1)) (hD : 0 ≤ D) (hf : ∀ j : Nat, j ≠ 66 → j ≠ 102 → j ≠ 103 → m'.1 j = m.1 j) (ht : zTop m' = zTop m) (hn : m'.1 66 ((38 : Nat) : Int) = m.1 66 ((38 : Nat) : Int))
    (p0 : m'.1 102 D = m.1 102 D + 1) (p1 : ∀ q : Int, q ≠ D → m'.1 102 q = m.1 102 q) (p2 : ∀ q : Int, q ≠ 4 * D + m.1 102 D → m'.1 103 q = m.1 103 q) (p3 : m.1 102 D < 4 → m'.1 103 (4 * D + m.1 102 D) = x)
    (hx : lo ≤ x ∧ x < zTop m) (hs : m.1 71 x ≤ 1) (hr : D = 0 → r = 1 → m.1 67 x ≤ 2) (hpx : zPar m pa pe x) : zTI μ m' lo C Pn F cf pa pe c r D 1 0 0 0 :=
  zTI_weak (zTI_add h hD hf ht hn p0 p1 p2 p3 hx hs (by omega) hr hpx) (by omega) (by omega) (by omega)
theorem zTI_open0 {μ m m' : zM} {lo C Pn F pa pe c r D : Int} {cf : Int → Int} (h : zTI μ m lo C Pn F cf pa pe c r D 0 0 (zwb m D) (zwb m D)) (hD : 0 ≤ D) (hf : ∀ j : Nat, j ≠ 66 → j ≠ 100 → j ≠ 101 → j ≠ 102 → m'.1 j = m.1 j) (ht : zTop m' = zTop m) (hn : m'.1 66 ((38 : Nat) : Int) = m.1 66 ((38 : Nat) : Int) + 1)
    (p3 : m'.1 102 D = 0 ∧ ((m'.1 100 D = 1 ∧ 0 ≤ m'.1 101 D ∧ m'.1 101 D ≤ 79) ∨ (m'.1 100 D = 0 ∧ 0 ≤ m'.1 101 D ∧ m'.1 101 D ≤ 20))) {A B K c2 : Int} (p5 : (m'.1 100 D = 1 → 0 ≤ c2 ∧ A ≤ m'.1 101 D ∧ m'.1 101 D < A + B) ∧ (m'.1 100 D = 0 → m'.1 101 D < K)) (hK : K ≤ C) (hA : 0 ≤ c2 → A + B ≤ Pn) (hA2 : 0 ≤ c2 → pa ≤ A ∧ A + B ≤ pe) {six : Int} (p6 : D = 0 → (r ≤ 1 → m'.1 100 D = 0) ∧ (r = 1 → m'.1 101 D ≠ c) ∧ six = 0)
    (p4 : ∀ q : Int, q ≠ D → m'.1 100 q = m.1 100 q ∧ m'.1 101 q = m.1 101 q ∧ m'.1 102 q = m.1 102 q) : zTI μ m' lo C Pn F cf pa pe c r D 1 0 0 0 :=
  zTI_weak (zTI_open h hD hf ht hn p3.1 (by omega) (by omega) (fun a => by have := p5.2 a; omega) (fun a => by have h1 := p5.1 a; have h2 := hA h1.1; have h3 := hA2 h1.1; omega) (fun a => ⟨(p6 a).1, (p6 a).2.1⟩) p4) (by omega) (by omega) (by omega)
theorem zTI_bk0 {μ m : zM} {lo C Pn F pa pe c r D : Int} {cf : Int → Int} (h : zTI μ m lo C Pn F cf pa pe c r D 1 0 0 (0 - 1)) (hz : zwb m D = 0) : zTI μ m lo C Pn F cf pa pe c r D 1 0 0 (-1 - zwb m D) := zTI_weak h (by omega) (by omega) (by omega)
theorem zTI_bk1 {μ m m' : zM} {lo C Pn F pa pe c r D : Int} {cf : Int → Int} (h : zTI μ m' lo C Pn F cf pa pe c r D 1 0 0 (0 - 1 - 1)) (hz : zwb m D = 1) (he : zwb m' D = zwb m D) : zTI μ m' lo C Pn F cf pa pe c r D 1 0 0 (-1 - zwb m' D) := zTI_weak h (by omega) (by omega) (by omega)
theorem zTI_w1 {μ m : zM} {lo C Pn F pa pe c r D o : Int} {cf : Int → Int} (h : zTI μ m lo C Pn F cf pa pe c r D o 1 1 1) (hz : m.1 104 D ≠ 0) : zTI μ m lo C Pn F cf pa pe c r D o 0 (zwb m D) (zwb m D) := by
  rw [zwb_1 hz]
  exact zTI_weak h (by omega) (by omega) (by omega)
theorem zTI_w0 {μ m : zM} {lo C Pn F pa pe c r D o : Int} {cf : Int → Int} (h : zTI μ m lo C Pn F cf pa pe c r D o 0 0 0) (hz : m.1 104 D = 0) : zTI μ m lo C Pn F cf pa pe c r D o 0 (zwb m D) (zwb m D) := by
  rw [zwb_0 hz]
  exact h
theorem zTE_top {μ m : zM} {lo C Pn F : Int} {cf : Int → Int} {a b c d : Int} (h : zTE μ m lo C Pn F cf) (e1 : m.1 66 ((8 : Nat) : Int) = a) (e2 : m.1 66 ((38 : Nat) : Int) = b) (e3 : μ.1 66 ((8 : Nat) : Int) = c) (e4 : μ.1 66 ((38 : Nat) : Int) = d) (h1 : c - d ≤ 19699) (h2 : b ≤ 300) : m.1 66 ((8 : Nat) : Int) ≤ 19999 := by
  have h3 := h.2.1
  unfold zTn zTop at h3
  omega
theorem zTI_cnt {μ m : zM} {lo C Pn F pa pe c r D o k1 k2 k3 q b d : Int} {cf : Int → Int} (h : zTI μ m lo C Pn F cf pa pe c r D o k1 k2 k3) (hq : 0 ≤ q) (hq2 : q < D + o) (hk : 0 ≤ k1) (e2 : m.1 66 ((38 : Nat) : Int) = b) (e4 : μ.1 66 ((38 : Nat) : Int) = d) (h2 : b ≤ 300) (h0 : 0 ≤ d) : m.1 102 q ≤ 999 := by
  have h3 := h.2.2.2.2.2.1 q hq hq2
  unfold zTn at h3
  omega
theorem zTI_done {μ m : zM} {lo C Pn F pa pe c r D v : Int} {cf : Int → Int} (h : zTI μ m lo C Pn F cf pa pe c r D 1 0 0 (0 - 1)) (hD : D = 0) (hs : m.1 71 v ≤ 1 + zoa m D (zok m D)) : m.1 71 v ≤ zTn μ m := by
  subst hD
  have h2 := h.2.2.2.2.2.2.1
  rw [zoS_s _ (by omega)] at h2
  have h3 : zoS m (0 : Int).toNat = 0 := rfl
  have h4 : zwb m 0 = 0 := zwb_0 h.2.2.2.1.2.2.1
  omega
theorem zwb_nn (m : zM) (q : Int) : 0 ≤ zwb m q := by unfold zwb; split <;> omega
