/-- the table between calls, its numbers -/
def rTq (μ : zM) (B : yB) : Prop := (μ.1 66 ((20 : Nat) : Int) = B.1 0 0 ∧ μ.1 66 ((21 : Nat) : Int) = B.1 0 1) ∧ (∀ k : Int, 0 ≤ k → k < B.1 0 0 → μ.1 3000075 k = B.1 1 k ∧ μ.1 76 k = B.1 2 k ∧ μ.1 77 k = B.1 3 k ∧ μ.1 79 k = B.1 4 k) ∧ ∀ p : Int, 0 ≤ p → p < B.1 0 1 → μ.1 3000081 p = B.1 5 p
/-! ### the table that was read comes to its place: its TYPES as nodes, their ways -/
def zMv (μ m : zM) (lo C P : Int) : Prop := (zTop m = zTop μ - lo ∧ m.1 66 ((23 : Nat) : Int) = zTop μ - lo) ∧ zCp μ m lo (zTop μ - lo) ∧ (∀ c : Int, 0 ≤ c → c < C → zKc μ m lo c (μ.1 79 (21 + c)) 21) ∧ ∀ q : Int, 0 ≤ q → q < P → zKp μ m lo q (μ.1 84 (80 + q))
theorem zCp_f {μ m m' : zM} {lo n : Int} (h : zCp μ m lo n) (e : ∀ j : Nat, 67 ≤ j → j ≤ 71 → m'.1 j = m.1 j) : zCp μ m' lo n := by
  unfold zCp
  rw [e 67 (by decide) (by decide), e 68 (by decide) (by decide), e 69 (by decide) (by decide), e 70 (by decide) (by decide), e 71 (by decide) (by decide)]
  exact h
theorem zKc_f {μ m m' : zM} {lo c I D : Int} (h : zKc μ m lo c I D) (e : ∀ j : Nat, 76 ≤ j → j ≤ 80 → m'.1 j = m.1 j) : zKc μ m' lo c I D := by
  unfold zKc
  rw [e 76 (by decide) (by decide), e 77 (by decide) (by decide), e 78 (by decide) (by decide), e 79 (by decide) (by decide), e 80 (by decide) (by decide)]
  exact h
theorem zKp_f {μ m m' : zM} {lo p I : Int} (h : zKp μ m lo p I) (e83 : m'.1 83 = m.1 83) (e84 : m'.1 84 = m.1 84) : zKp μ m' lo p I := by
  unfold zKp
  rw [e83, e84]
  exact h
theorem zMv_c {m0 m m1 : zM} {lo C P : Int} (h : zMv m m1 lo C P) (c : ∀ j : Nat, j ≠ 66 → m.1 j = m0.1 j) (t : zTop m = zTop m0) : zMv m0 m1 lo C P := by
  unfold zMv zCp zKc zKp zXa at h ⊢
  rw [t, c 67 (by decide), c 68 (by decide), c 69 (by decide), c 70 (by decide), c 71 (by decide), c 76 (by decide), c 77 (by decide), c 78 (by decide), c 79 (by decide), c 80 (by decide), c 83 (by decide), c 84 (by decide)] at h
  exact h
theorem rC_cp {μ m : zM} {lo n : Int} (h : zCp μ m lo n) (wf : rLo μ lo (lo + n)) : ∀ (k : Nat) (x : Int) (l : List Int), lo ≤ x → x < lo + n → rC μ k x l → rC m k (x - lo) l
  | 0, _, _, _, _, q => q.elim
  | k + 1, x, l, x0, x1, ⟨hd, as, e1, e2, e3, e5⟩ => by
    have w := h (x - lo) (by omega) (by omega)
    rw [show lo + (x - lo) = x by omega] at w
    refine ⟨hd, as, e1, ?_, by rw [w.2.2.1]; exact e3, fun i hi => ?_⟩
    · unfold rHd; rw [w.1, w.2.1]; exact e2
    · have p := wf x x0 x1 i (by omega) (by omega)
      rw [w.2.2.2.2 i (by omega) (by omega)]
      exact rC_cp h wf k _ _ p.1 p.2 (e5 i hi)
theorem rE_cp {μ m : zM} {lo n x : Int} {l : List Int} (h : zCp μ m lo n) (wf : rLo μ lo (lo + n)) (x0 : lo ≤ x) (x1 : x < lo + n) (hE : rE μ x l) : rE m (x - lo) l := by
  obtain ⟨k, hE⟩ := hE
  exact ⟨k, rC_cp h wf k x l x0 x1 hE⟩
theorem zUq_cp {μ m : zM} {lo : Int} (hu : zUq μ lo) (h : zCp μ m lo (zTop μ - lo)) (nd : ∀ x : Int, lo ≤ x → x < zTop μ → 0 ≤ μ.1 69 x) (ht : zTop m = zTop μ - lo) : zUq m 0 := fun x y x0 x1 y0 y1 hl => by
  have w := h x x0 (by omega)
  have v := h y y0 (by omega)
  have := hu (lo + x) (lo + y) (by omega) (by omega) (by omega) (by omega) ⟨by rw [← v.1, hl.1, w.1], by rw [← v.2.1, hl.2.1, w.2.1], by rw [← v.2.2.1, hl.2.2.1, w.2.2.1], fun i i0 i1 => by
    have a := w.2.2.2.2 i i0 i1
    have e9 : μ.1 69 (lo + y) = μ.1 69 (lo + x) := by rw [← v.2.2.1, hl.2.2.1, w.2.2.1]
    have b := v.2.2.2.2 i i0 (by rw [e9]; exact i1)
    have q := hl.2.2.2 i i0 (by rw [w.2.2.1]; exact i1)
    have q : m.1 70 (4 * y + i) = m.1 70 (4 * x + i) := q
    show μ.1 70 (4 * (lo + y) + i) = μ.1 70 (4 * (lo + x) + i)
    omega⟩
  omega
/-- a TYPE of the table as a node -/
def rN1 (m : zM) (tt x : Int) (l : List Int) : Prop := (0 ≤ x ∧ x < tt) ∧ rE m x l
def rPc (m : zM) (B : yB) (tt : Int) : Prop := (∀ k i : Int, 0 ≤ k → k < B.1 0 0 → 0 ≤ i → i < B.1 4 k → rN1 m tt (m.1 78 (4 * k + i)) (B.2 1 k i).flatten) ∧ (∀ p i : Int, 0 ≤ p → p < B.1 0 1 → 0 ≤ i → i < B.1 6 p → rN1 m tt (m.1 83 (2 * p + i)) (B.2 0 p i).flatten) ∧ (∀ k d : Int, 0 ≤ k → k < B.1 0 0 → 0 ≤ d → d ≤ 20 → (m.1 80 (21 * k + d) < 0 ∧ B.2 2 k d = []) ∨ ∃ l, B.2 2 k d = [l] ∧ rN1 m tt (m.1 80 (21 * k + d)) l) ∧ ∀ p : Int, 0 ≤ p → p < B.1 0 1 → m.1 84 p = B.1 6 p ∧ B.1 6 p ≤ 2
theorem rPc_mk {m0 m m1 : zM} {B : yB} {lo n P : Int} (hD : zDS m0 lo n) (hN : rNu m0 B) (hA : rAb m0 B (B.1 0 0) lo) (hT : rTd m0 B) (c : ∀ j : Nat, j ≠ 66 → m.1 j = m0.1 j) (t : zTop m = zTop m0) (h : zMv m m1 lo n P) (hP : P = m0.1 66 ((27 : Nat) : Int)) : rPc m1 B (zTop m1) := by
  have M := zMv_c h c t
  have l0 : 0 ≤ lo := hD.1.2.2.2.2.2.2.2.2.2.1
  have wf : rLo m0 lo (lo + (zTop m0 - lo)) := by
    have := rLo_W hD.2.1.2.2 hD.2.1.1.2.1 l0
    rw [show lo + (zTop m0 - lo) = zTop m0 by omega]; exact this
  have n0 : B.1 0 0 = n := hN.1.2.2.1.symm.trans hD.1.2.2.1
  have p0 : B.1 0 1 = P := hN.1.2.2.2.1.symm.trans hP.symm
  have TP := hD.2.2.1
  rw [M.1.1]
  refine ⟨fun k i a b e d => ?_, fun p i a b e d => ?_, fun k d a b e f => ?_, fun p a b => ?_⟩
  · have K := M.2.2.1 k a (by omega)
    have c4 := (hN.2.1 k a b).2.2.2
    have r := hT.1 k i a b e d
    have x0 := ((TP.1 k a (by omega)).1.2 i e (by omega)).1.1.1
    have hx : m1.1 78 (4 * k + i) = zXs m0 k i - lo := K.2.1 i e (by omega)
    rw [hx]
    have r1 := r.1.2
    exact ⟨⟨by omega, by omega⟩, rE_cp M.2.1 wf x0 (by omega) r.2⟩
  · have K := M.2.2.2 p a (by omega)
    have c4 := (hN.2.2 p a b).2 rfl
    have r := hT.2.1 p i a b e d
    have x0 := ((TP.2.1 p a (by omega)).2 i e (by omega)).1.1
    have hx : m1.1 83 (2 * p + i) = m0.1 83 (2 * (80 + p) + i) - lo := K.2 i e (by omega)
    rw [hx]
    have r1 := r.1.2
    exact ⟨⟨by omega, by omega⟩, rE_cp M.2.1 wf x0 (by omega) r.2⟩
  · have K := M.2.2.1 k a (by omega)
    have hx := K.2.2 d e (by omega)
    rw [hx]
    rcases hA k d a b e f with q | ⟨l, q1, q2, q3⟩
    · rw [if_pos q.1]; exact Or.inl q
    · rw [if_neg (by omega)]
      exact Or.inr ⟨l, q1, ⟨by omega, by omega⟩, rE_cp M.2.1 wf q2.1 (by omega) q3⟩
  · have K := M.2.2.2 p a (by omega)
    have c4 := (hN.2.2 p a b).2 rfl
    exact ⟨K.1.trans c4, hT.2.2.2 p a b⟩
/-- ways of all TYPES told -/
def yWs (B : yB) (p q : Int) (g : Prop) : Prop := (∃ k i : Int, 0 ≤ k ∧ k < B.1 0 0 ∧ 0 ≤ i ∧ i < B.1 4 k ∧ yWy (yar B) (B.1 2) (B.2 1 k i).flatten p q g) ∨ ∃ r i : Int, 0 ≤ r ∧ r < B.1 0 1 ∧ 0 ≤ i ∧ i < B.1 6 r ∧ yWy (yar B) (B.1 2) (B.2 0 r i).flatten p q g
def yWn (B : yB) (p q w : Int) : Prop := (w = 2 ↔ yWs B p q True) ∧ (1 ≤ w ↔ yWs B p q False) ∧ 0 ≤ w ∧ w ≤ 2
def rWf (m : zM) (B : yB) : Prop := ∀ p q : Int, 0 ≤ p → p < 80 → 0 ≤ q → q < 80 → yWn B p q (m.1 86 (80 * p + q))
theorem yar_0 {B : yB} (h : yI0 B) (x : Int) : 0 ≤ yar B x := by
  unfold yar
  split
  · rename_i c; exact (h.2 x c.1 c.2).2.1
  · split <;> decide
theorem yar_p {B : yB} (h : yI0 B) (v : Int) (v0 : 0 ≤ v) (v1 : v < 80) : yar B (32 + v) = 0 := by
  unfold yar
  rw [if_neg (by have := h.1.1; omega), if_neg (by omega)]
theorem yWy_fi {B : yB} {fi : Int → Int} {L : List Int} {p q : Int} {g : Prop} (hI : yI0 B) (hf : ∀ k : Int, 0 ≤ k → k < B.1 0 0 → fi k = B.1 2 k) : yWy (yar B) fi L p q g ↔ yWy (yar B) (B.1 2) L p q g := by
  have key : ∀ (h : Int) (as : List (List Int)) (j : Nat), (0 ≤ h ∧ h < 32) → (as.length : Int) = yar B h → j < as.length → fi h = B.1 2 h := fun h as j h0 hl hj => by
    refine hf h h0.1 ?_
    by_cases c : h < B.1 0 0
    · exact c
    · exfalso
      have : yar B h = 0 := by unfold yar; rw [if_neg (fun w => c w.2), if_neg (by omega)]
      omega
  constructor
  · rintro ⟨a, b, h, as, j, e1, e2, e3, e4, e5, e6, e7⟩
    exact ⟨a, b, h, as, j, e1, e2, e3, e4, e5, by rw [← key h as j e2 e3 e5]; exact e6, e7⟩
  · rintro ⟨a, b, h, as, j, e1, e2, e3, e4, e5, e6, e7⟩
    exact ⟨a, b, h, as, j, e1, e2, e3, e4, e5, by rw [key h as j e2 e3 e5]; exact e6, e7⟩
theorem rWf_mk {m : zM} {B : yB} {K : Int} (F : fG m m (fT m (m.1 66 ((20 : Nat) : Int)) 0 (m.1 66 ((21 : Nat) : Int)) 0)) (hQ : rTq m B) (hP : rPc m B (zTop m)) (hu : zUq m 0) (hR : zRI m K) (hI : yI0 B) : rWf m B := by
  have I := hR.1.1
  have wf : rLo m 0 (zTop m) := rLo_W I.2.2.2.2.1 I.1.2.1 (by decide)
  have y2 := yar_w hI.1.1.2
  have hA : rAr m (yar B) 0 (zTop m) := rAr_W I.2.2.2.2.1 ⟨fun v v0 v1 => by
      have v1 : v < B.1 0 0 := by rw [← hQ.1.1]; exact v1
      rw [(hQ.2.1 v v0 v1).2.2.1]
      unfold yar; rw [if_pos ⟨v0, v1⟩], fun v v0 v1 => by
      have := yar_p hI (v - 32) (by omega) (by omega)
      rw [show 32 + (v - 32) = v by omega] at this; exact this, y2.1, y2.2.1, y2.2.2⟩
  have hf : ∀ k : Int, 0 ≤ k → k < B.1 0 0 → m.1 76 k = B.1 2 k := fun k a b => (hQ.2.1 k a b).2.1
  have key : ∀ (p q : Int) (g : Prop), 0 ≤ p → p < 80 → ((∃ x, fT m (m.1 66 ((20 : Nat) : Int)) 0 (m.1 66 ((21 : Nat) : Int)) 0 x ∧ rWy m (m.1 76) x p q g) ↔ yWs B p q g) := fun p q g p0 p1 => by
    constructor
    · rintro ⟨x, d, w⟩
      rcases d with ⟨c, i, c0, ⟨i0, i1⟩, c1, e⟩ | ⟨r, i, c0, ⟨i0, i1⟩, c1, e⟩
      · have c1 : c < B.1 0 0 := by rw [← hQ.1.1]; omega
        have i1 : i < B.1 4 c := by rw [← (hQ.2.1 c c0 c1).2.2.2]; exact i1
        have n := hP.1 c i c0 c1 i0 i1
        rw [← e] at n
        exact Or.inl ⟨c, i, c0, c1, i0, i1, (yWy_fi hI hf).mp ((rWy_y hu (yar_0 hI) (yar_p hI) wf hA n.1.1 n.1.2 n.2 ⟨p0, p1⟩).mp w)⟩
      · have c1 : r < B.1 0 1 := by rw [← hQ.1.2]; omega
        have i1 : i < B.1 6 r := by rw [← (hP.2.2.2 r c0 c1).1]; exact i1
        have n := hP.2.1 r i c0 c1 i0 i1
        rw [← e] at n
        exact Or.inr ⟨r, i, c0, c1, i0, i1, (yWy_fi hI hf).mp ((rWy_y hu (yar_0 hI) (yar_p hI) wf hA n.1.1 n.1.2 n.2 ⟨p0, p1⟩).mp w)⟩
    · rintro (⟨c, i, c0, c1, i0, i1, w⟩ | ⟨r, i, c0, c1, i0, i1, w⟩)
      · have n := hP.1 c i c0 c1 i0 i1
        exact ⟨_, Or.inl ⟨c, i, c0, ⟨i0, by rw [(hQ.2.1 c c0 c1).2.2.2]; exact i1⟩, Or.inl (by rw [hQ.1.1]; exact c1), rfl⟩, (rWy_y hu (yar_0 hI) (yar_p hI) wf hA n.1.1 n.1.2 n.2 ⟨p0, p1⟩).mpr ((yWy_fi hI hf).mpr w)⟩
      · have n := hP.2.1 r i c0 c1 i0 i1
        exact ⟨_, Or.inr ⟨r, i, c0, ⟨i0, by rw [(hP.2.2.2 r c0 c1).1]; exact i1⟩, Or.inl (by rw [hQ.1.2]; exact c1), rfl⟩, (rWy_y hu (yar_0 hI) (yar_p hI) wf hA n.1.1 n.1.2 n.2 ⟨p0, p1⟩).mpr ((yWy_fi hI hf).mpr w)⟩
  intro p q p0 p1 q0 q1
  have f := F p q p0 p1 q0 q1
  exact ⟨f.1.trans (key p q True p0 p1), f.2.1.trans (key p q False p0 p1), f.2.2⟩
theorem fG_self {μ m : zM} {C P : Int} (F : fG μ m (fT μ C 0 P 0)) (e : ∀ j : Nat, (67 ≤ j ∧ j ≤ 71) ∨ (76 ≤ j ∧ j ≤ 84) → m.1 j = μ.1 j) : fG m m (fT m C 0 P 0) := fun p q p0 p1 q0 q1 => by
  have f := F p q p0 p1 q0 q1
  have d : ∀ x : Int, fT m C 0 P 0 x ↔ fT μ C 0 P 0 x := fun x => by unfold fT; rw [e 78 (by omega), e 79 (by omega), e 83 (by omega), e 84 (by omega)]
  have w : ∀ (x : Int) (g : Prop), rWy m (m.1 76) x p q g ↔ rWy μ (μ.1 76) x p q g := fun x g => rWy_m (e 67 (by omega)) (e 68 (by omega)) (e 69 (by omega)) (e 70 (by omega)) (e 76 (by omega))
  refine ⟨f.1.trans ?_, f.2.1.trans ?_, f.2.2⟩
  · exact ⟨fun ⟨x, a, b⟩ => ⟨x, (d x).mpr a, (w x True).mpr b⟩, fun ⟨x, a, b⟩ => ⟨x, (d x).mp a, (w x True).mp b⟩⟩
  · exact ⟨fun ⟨x, a, b⟩ => ⟨x, (d x).mpr a, (w x False).mpr b⟩, fun ⟨x, a, b⟩ => ⟨x, (d x).mp a, (w x False).mp b⟩⟩
theorem rGd_mk {m : zM} {B : yB} {K : Int} (hQ : rTq m B) (hP : rPc m B (zTop m)) (hR : zRI m K) (hI : yI0 B) : yGd B := by
  have I := hR.1.1
  have wf : rLo m 0 (zTop m) := rLo_W I.2.2.2.2.1 I.1.2.1 (by decide)
  have y2 := yar_w hI.1.1.2
  have hA : rAr m (yar B) 0 (zTop m) := rAr_W I.2.2.2.2.1 ⟨fun v v0 v1 => by
      have v1 : v < B.1 0 0 := by rw [← hQ.1.1]; exact v1
      rw [(hQ.2.1 v v0 v1).2.2.1]
      unfold yar; rw [if_pos ⟨v0, v1⟩], fun v v0 v1 => by
      have := yar_p hI (v - 32) (by omega) (by omega)
      rw [show 32 + (v - 32) = v by omega] at this; exact this, y2.1, y2.2.1, y2.2.2⟩
  have key : ∀ (x : Int) (l : List Int), rN1 m (zTop m) x l → yGl B l := fun x l h => by
    obtain ⟨k, hE⟩ := h.2
    have W := I.2.2.2.2.1
    rw [hQ.1.1] at W
    exact ⟨rC_one wf hA k x l h.1.1 h.1.2 hE, rC_hk wf W k x l h.1.1 h.1.2 hE⟩
  exact ⟨fun k i a b c d => key _ _ (hP.1 k i a b c d), fun p i a b c d => key _ _ (hP.2.1 p i a b c d)⟩
