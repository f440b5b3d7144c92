/-! ### what holds while a type is put anew -/
/-- what has become of node x, all in one memory -/
def zB1 (m : zM) (lo x f n w v : Int) : Prop :=
  (m.1 67 x = 1 ∧ ((0 ≤ m.1 68 x - f ∧ m.1 68 x - f < n ∧ v = m.1 70 (4 * w + (m.1 68 x - f))) ∨ ((m.1 68 x - f < 0 ∨ n ≤ m.1 68 x - f) ∧ v = x))) ∨
  (m.1 67 x ≠ 1 ∧ m.1 69 x = 0 ∧ v = x) ∨
  (m.1 67 x ≠ 1 ∧ 0 < m.1 69 x ∧ lo ≤ v ∧ zlike m v (m.1 67 x) (m.1 68 x) (m.1 69 x) (fun i => m.1 97 (m.1 70 (4 * x + i))))
def zBI (m : zM) (lo t s f n w : Int) : Prop := ∀ x : Int, 0 ≤ x → x < t → m.1 98 x = s → (∀ i : Int, 0 ≤ i → i < m.1 69 x → m.1 98 (m.1 70 (4 * x + i)) = s) ∧ (0 ≤ m.1 97 x ∧ m.1 97 x < zTop m) ∧ zB1 m lo x f n w (m.1 97 x)
def zNew (μ m : zM) (s : Int) : Prop := ∀ z : Int, zTop μ ≤ z → z < zTop m → ∃ x : Int, 0 ≤ x ∧ x < zTop μ ∧ m.1 98 x = s ∧ m.1 97 x = z ∧ m.1 67 x ≠ 1 ∧ 0 < m.1 69 x
def zSJ (μ m : zM) (lo s f n w : Int) (P : Int → Prop) : Prop := zND m lo ∧ zOld μ m (zTop μ) ∧ zTop μ ≤ zTop m ∧ zBI m lo (zTop μ) s f n w ∧ zNew μ m s ∧ ∀ x : Int, 0 ≤ x → x < zTop μ → m.1 98 x = s → P x
theorem zlike_m {m m2 : zM} {v k q n : Int} {p p2 : Int → Int} (hn : n ≤ 4) (h : m2.1 67 v = m.1 67 v ∧ m2.1 68 v = m.1 68 v ∧ m2.1 69 v = m.1 69 v ∧ ∀ i : Int, 0 ≤ i → i < 4 → m2.1 70 (4 * v + i) = m.1 70 (4 * v + i)) (hp : ∀ i : Int, 0 ≤ i → i < n → p i = p2 i) (hl : zlike m v k q n p) : zlike m2 v k q n p2 := by
  obtain ⟨l1, l2, l3, l4⟩ := hl
  refine ⟨by rw [h.1]; exact l1, by rw [h.2.1]; exact l2, by rw [h.2.2.1]; exact l3, fun i a b => ?_⟩
  rw [h.2.2.2 i a (by omega), l4 i a b, hp i a b]
set_option maxHeartbeats 1000000 in
/-- one node more has become what it is to be -/
theorem zSJ_step {μ m m' m1 m2 : zM} {lo s f n w x v : Int} {P : Int → Prop} (hJ : zSJ μ m lo s f n w P) (hx : 0 ≤ x ∧ x < zTop μ) (hP : P x) (hu : m.1 98 x ≠ s) (hch : ∀ i : Int, 0 ≤ i → i < m.1 69 x → m.1 98 (m.1 70 (4 * x + i)) = s)
    (hw : 0 ≤ w ∧ w < zTop μ) (hn4 : n ≤ 4) (h0 : zND m' lo) (hv : 0 ≤ v ∧ v < zTop m') (ho : zOld m m' (zTop m)) (hsn : zSn m m' lo x v) (hso : zSo m m' lo x f n w v) (f97 : m'.1 97 = m.1 97) (f98 : m'.1 98 = m.1 98)
    (e1 : m1 = zu m' 97 x v) (e2 : m2 = zu m1 98 x s) : zSJ μ m2 lo s f n w P ∧ m2.1 98 x = s ∧ zTop m ≤ zTop m2 := by
  obtain ⟨j1, j2, j3, j4, j5, j6⟩ := hJ
  have s7 : ∀ j : Nat, j ≠ 97 → j ≠ 98 → m2.1 j = m'.1 j := fun j a b => by rw [e2, zu_ne b, e1, zu_ne a]
  have t2 : zTop m2 = zTop m' := congrFun (s7 66 (by decide) (by decide)) _
  have tm : zTop m ≤ zTop m' ∧ zTop m' ≤ zTop m + 1 := by
    rcases hsn with q | q
    · omega
    · have := q.1; omega
  have b97 : ∀ q, m2.1 97 q = if q = x then v else m.1 97 q := fun q => by
    rw [e2, zu_ne (by decide), e1]
    by_cases hq : q = x
    · rw [if_pos hq, hq, zu_at]
    · rw [if_neg hq, zu_nk hq, f97]
  have b98 : ∀ q, m2.1 98 q = if q = x then s else m.1 98 q := fun q => by
    rw [e2]
    by_cases hq : q = x
    · rw [if_pos hq, hq, zu_at]
    · rw [if_neg hq, zu_nk hq, e1, zu_ne (by decide), f98]
  -- nodes below m's top are the same in m2
  have od : ∀ y, 0 ≤ y → y < zTop m → m2.1 67 y = m.1 67 y ∧ m2.1 68 y = m.1 68 y ∧ m2.1 69 y = m.1 69 y ∧ m2.1 71 y = m.1 71 y ∧ ∀ i : Int, 0 ≤ i → i < 4 → m2.1 70 (4 * y + i) = m.1 70 (4 * y + i) := fun y a b => by
    have := ho y a b
    rw [s7 67 (by decide) (by decide), s7 68 (by decide) (by decide), s7 69 (by decide) (by decide), s7 70 (by decide) (by decide), s7 71 (by decide) (by decide)]
    exact this
  have st1 : ∀ q, m.1 98 q = s → m2.1 98 q = s := fun q hq => by
    rw [b98]
    split
    · rfl
    · exact hq
  have nd : ∀ y, 0 ≤ y → y < zTop m → zNd m y := fun y a b => j1.2.1 y a b
  have hxm : x < zTop m := by omega
  -- what became of the parts stays
  have bp : ∀ y, 0 ≤ y → y < zTop m → (∀ i : Int, 0 ≤ i → i < m.1 69 y → m.1 98 (m.1 70 (4 * y + i)) = s) → ∀ i : Int, 0 ≤ i → i < m.1 69 y → m.1 97 (m.1 70 (4 * y + i)) = m2.1 97 (m2.1 70 (4 * y + i)) := fun y a b hc i c d => by
    have h4 := (nd y a b).1.2
    rw [(od y a b).2.2.2.2 i c (by omega), b97, if_neg (fun q => hu (by rw [← q]; exact hc i c d))]
  refine ⟨⟨zND_t.2 (by rw [t2]; exact zNDt_same (fun j a b => s7 j (by omega) (by omega)) (zND_t.1 h0)), fun y a b => ?_, by omega, fun y a b hy => ?_, fun z a b => ?_, fun y a b hy => ?_⟩, by rw [b98, if_pos rfl], by omega⟩
  · have g1 := j2 y a b
    have g2 := od y a (by omega)
    exact ⟨g2.1.trans g1.1, g2.2.1.trans g1.2.1, g2.2.2.1.trans g1.2.2.1, g2.2.2.2.1.trans g1.2.2.2.1, fun i c d => (g2.2.2.2.2 i c d).trans (g1.2.2.2.2 i c d)⟩
  · have hym : y < zTop m := by omega
    obtain ⟨o1, o2, o3, o4, o5⟩ := od y a hym
    have h4 := (nd y a hym).1.2
    by_cases hq : y = x
    · subst hq
      refine ⟨fun i c d => ?_, ?_, ?_⟩
      · rw [o3] at d
        rw [o5 i c (by omega)]
        exact st1 _ (hch i c d)
      · rw [b97, if_pos rfl, t2]; exact hv
      · rw [b97, if_pos rfl]
        unfold zB1
        rw [o1, o2, o3]
        rcases hso with ⟨q1, q2⟩ | q | ⟨q1, q2, q3, q4⟩
        · refine Or.inl ⟨q1, ?_⟩
          rcases q2 with ⟨c1, c2, c3⟩ | q2
          · refine Or.inl ⟨c1, c2, ?_⟩
            rw [(od w hw.1 (by omega)).2.2.2.2 _ c1 (by omega)]
            exact c3
          · exact Or.inr q2
        · exact Or.inr (Or.inl q)
        · refine Or.inr (Or.inr ⟨q1, q2, q3, ?_⟩)
          refine zlike_m h4 ⟨by rw [s7 67 (by decide) (by decide)], by rw [s7 68 (by decide) (by decide)], by rw [s7 69 (by decide) (by decide)], fun i _ _ => by rw [s7 70 (by decide) (by decide)]⟩ (fun i c d => bp y a hym hch i c d) q4
    · rw [b98, if_neg hq] at hy
      obtain ⟨g1, g2, g3⟩ := j4 y a b hy
      refine ⟨fun i c d => ?_, ?_, ?_⟩
      · rw [o3] at d
        rw [o5 i c (by omega)]
        exact st1 _ (g1 i c d)
      · rw [b97, if_neg hq]; exact ⟨g2.1, by omega⟩
      · rw [b97, if_neg hq]
        unfold zB1 at g3 ⊢
        rw [o1, o2, o3]
        rcases g3 with ⟨q1, q2⟩ | q | ⟨q1, q2, q3, q4⟩
        · refine Or.inl ⟨q1, ?_⟩
          rcases q2 with ⟨c1, c2, c3⟩ | q2
          · refine Or.inl ⟨c1, c2, ?_⟩
            rw [(od w hw.1 (by omega)).2.2.2.2 _ c1 (by omega)]
            exact c3
          · exact Or.inr q2
        · exact Or.inr (Or.inl q)
        · refine Or.inr (Or.inr ⟨q1, q2, q3, ?_⟩)
          obtain ⟨u1, u2, u3, u4, u5⟩ := od (m.1 97 y) g2.1 g2.2
          exact zlike_m h4 ⟨u1, u2, u3, u5⟩ (fun i c d => bp y a hym g1 i c d) q4
  · rw [t2] at b
    by_cases hz : z < zTop m
    · obtain ⟨x', c1, c2, c3, c4, c5, c6⟩ := j5 z a hz
      have hne : x' ≠ x := fun q => hu (by rw [← q]; exact c3)
      obtain ⟨o1, o2, o3, o4, o5⟩ := od x' c1 (by omega)
      exact ⟨x', c1, c2, st1 _ c3, by rw [b97, if_neg hne]; exact c4, by rw [o1]; exact c5, by rw [o3]; exact c6⟩
    · rcases hsn with q | ⟨q1, q2, q3, q4, q5⟩
      · omega
      · obtain ⟨o1, o2, o3, o4, o5⟩ := od x hx.1 hxm
        exact ⟨x, hx.1, hx.2, by rw [b98, if_pos rfl], by rw [b97, if_pos rfl]; omega, by rw [o1]; exact q3, by rw [o3]; exact q4⟩
  · by_cases hq : y = x
    · rw [hq]; exact hP
    · rw [b98, if_neg hq] at hy
      exact j6 y a b hy
/-- how many of the first n are not stamped -/
def zcn (f : Int → Int) (s : Int) : Nat → Nat
  | 0 => 0
  | n + 1 => zcn f s n + if f ((n : Nat) : Int) = s then 0 else 1
theorem zcn_same {f g : Int → Int} {s : Int} : ∀ {n : Nat}, (∀ q : Int, 0 ≤ q → q < (n : Int) → f q = g q) → zcn f s n = zcn g s n
  | 0, _ => rfl
  | n + 1, h => by
    unfold zcn
    rw [zcn_same (n := n) (fun q a b => h q a (by omega)), h ((n : Nat) : Int) (by omega) (by omega)]
theorem zcn_less {f g : Int → Int} {s x : Int} (hx : 0 ≤ x) (h1 : f x ≠ s) (h2 : g x = s) (h3 : ∀ q : Int, q ≠ x → g q = f q) : ∀ {n : Nat}, x < (n : Int) → zcn g s n + 1 = zcn f s n
  | 0, h => by omega
  | n + 1, h => by
    unfold zcn
    by_cases hq : x = ((n : Nat) : Int)
    · rw [zcn_same (f := g) (g := f) (n := n) (fun q a b => h3 q (by omega)), ← hq, if_pos h2, if_neg h1]
    · have := zcn_less hx h1 h2 h3 (n := n) (by omega)
      rw [h3 ((n : Nat) : Int) (fun e => hq e.symm)]
      omega
/-- sizes are at least 1 -/
theorem zsm_1 {f : Int → Int} : ∀ {n : Nat}, (∀ i : Int, 0 ≤ i → i < (n : Int) → 1 ≤ f i) → 1 ≤ zsm f n
  | 0, _ => by unfold zsm; omega
  | n + 1, h => by
    unfold zsm
    have h1 := zsm_1 (n := n) (fun i a b => h i a (by omega))
    have h2 := h ((n : Nat) : Int) (by omega) (by omega)
    omega
theorem zsz1 {μ : zM} {t : Int} (h : ∀ x : Int, 0 ≤ x → x < t → zNd μ x) : ∀ (k : Nat) (x : Int), x.toNat = k → 0 ≤ x → x < t → 1 ≤ μ.1 71 x := by
  intro k
  induction k using Nat.strongRecOn with
  | ind k ih =>
    intro x hk h0 h1
    obtain ⟨n1, n2, n3, n4, n5⟩ := h x h0 h1
    rw [n5]
    have hs : 1 ≤ zsm (fun i => μ.1 71 (μ.1 70 (4 * x + i))) (μ.1 69 x).toNat := zsm_1 (fun i a b => by
      have := n2 i a (by omega)
      exact ih _ (by omega) _ rfl this.1 (by omega))
    unfold zcap
    split <;> omega
