/-! ### a question of the class: where it stands -/
def cQ (m : zM) (t : Nat) (B : yB) (o u : Int) (S : qS) : Prop := (aT m t B ∧ aSz m ∧ tOk m t (yar B) ∧ m.1 52 ((7 : Nat) : Int) = t) ∧ tE m (yar B) (m.1 52 ((9 : Nat) : Int)) [0] ∧ (aOw m (yar B) (aFs B o) (aNs B o) ∧ ∀ i : Int, 0 ≤ i → i < aNs B o → aOb m B (aFs B o) i) ∧ aCn m ∧ (m.1 52 ((10 : Nat) : Int) = u ∧ m.1 52 ((11 : Nat) : Int) = S.1) ∧ (m.1 52 ((14 : Nat) : Int) = S.2.1 ∧ m.1 52 ((13 : Nat) : Int) = (S.2.2.length : Int)) ∧ aNx m B 0 S.2.2
/-- what holds of table, owner, NEW variables -/
def cB (B : yB) (o : Int) (S : qS) : Prop := aB B ∧ aW B ∧ (-1 ≤ o ∧ o < B.1 0 0) ∧ qVs B o S
/-- what a question deeper down leaves alone -/
def cF (f : Int) (μ m : zM) : Prop := zq0 μ m ∧ tOd μ m ∧ ∀ k : Int, k < f → m.1 58 k = μ.1 58 k
theorem cF_r (f : Int) (μ : zM) : cF f μ μ := ⟨zq0_r μ, tOd_r μ, fun _ _ => rfl⟩
theorem cF_t {f : Int} {a b c : zM} (h1 : cF f a b) (h2 : cF f b c) : cF f a c := ⟨zq0_t h1.1 h2.1, tOd_t h1.2.1 h2.2.1, fun k hk => (h2.2.2 k hk).trans (h1.2.2 k hk)⟩
theorem cF_m {f f' : Int} {a b : zM} (h : cF f a b) (q : f' ≤ f) : cF f' a b := ⟨h.1, h.2.1, fun k hk => h.2.2 k (by omega)⟩
theorem zq0_Kq {a b : zM} (h : zfK a b) : zq0 a b := ⟨h.1, fun j hj => h.2.1 j (by omega)⟩
theorem tE_o {m m' : zM} {t : Nat} {A : Int → Int} {x : Int} {l : qR} (h : tE m A x l) (ok : tOk m t A) (o : tOd m m') : tE m' A x l := tE_old o ok.2.2.2.2 h
/-- only numbers of the asker were written -/
theorem cQ_52 {m m' : zM} {t : Nat} {B : yB} {o u x : Int} {S S' : qS} {k : Nat} (h : cQ m t B o u S) (q : zl0 m m') (e : m' = zu m 52 ((k : Nat) : Int) x) (hk : k = 11 ∨ k = 12) (e1 : m'.1 52 ((11 : Nat) : Int) = S'.1) (e2 : S'.2 = S.2) : cQ m' t B o u S' := by
  obtain ⟨⟨h1, h2, h3, h4⟩, h5, ⟨h6, h7⟩, h8, ⟨h9, hA⟩, ⟨hB, hC⟩, hD⟩ := h
  have c : ∀ j : Nat, j ≠ 52 → m'.1 j = m.1 j := fun j hj => by rw [e, zu_ne hj]
  have c5 : ∀ i : Nat, i ≠ k → m'.1 52 ((i : Nat) : Int) = m.1 52 ((i : Nat) : Int) := fun i hi => by rw [e, zu_nk (by omega)]
  obtain ⟨o1, d1, n1⟩ := tOk_57 h3 e (by omega)
  have w := h3.2.2.2.2
  refine ⟨⟨aT_f h1 (fun j hj => c j (by omega)) q.2, aSz_f h2 q.2, o1, by rw [c5 7 (by omega)]; exact h4⟩, by rw [c5 9 (by omega)]; exact tE_old d1 w h5, ⟨aOw_f h6 w d1 (c5 8 (by omega)) (c 56 (by decide)), fun i i0 i1 => ?_⟩, ?_, ⟨by rw [c5 10 (by omega)]; exact h9, e1⟩, ⟨by rw [c5 14 (by omega), e2]; exact hB, by rw [c5 13 (by omega), e2]; exact hC⟩, ?_⟩
  · have u := h7 i i0 i1
    refine ⟨fun b b0 b1 => by rw [c 57 (by decide)]; exact tE_old d1 w (u.1 b b0 b1), fun z => by rw [c 57 (by decide)]; exact tE_old d1 w (u.2.1 z), fun z => by rw [c 57 (by decide)]; exact u.2.2 z⟩
  · unfold aCn
    rw [c5 13 (by omega), c5 14 (by omega), n1.1, n1.2]
    exact h8
  · rw [e2]
    exact aNx_o hD w d1 (fun v _ _ => by rw [c 53 (by decide), c 55 (by decide)]; exact ⟨rfl, rfl⟩) (fun k _ _ => by rw [c 54 (by decide)])
/-! ### BOUNDS and FLOOR of a variable -/
def gk_X0_boundOfNew : zC := fun As μ Q => ∃ (a1 : Int) (a2 : Int) (B : yB) (bs : List qR), As = [.inr (.inr (52, 52)), .inl a1, .inl a2] ∧ (0 ≤ a1 ∧ a1 < 300) ∧ (0 ≤ a2 ∧ a2 ≤ 2) ∧ aNv μ B a1 bs ∧ (∀ (v : Int), ((a2 < bs.length ∧ tE μ (yar B) v (bs.getD a2.toNat [])) ∨ ((bs.length : Int) ≤ a2 ∧ v = -1)) → (-2147483648) ≤ v → v ≤ 2147483647 → Q (some (.inl v)) μ)
set_option maxHeartbeats 4000000 in
theorem gm_X0_boundOfNew {g : zΓ} (hg : zg g) (d : Nat) (hd : 2 ≤ d) : zOk g d 16 gk_X0_boundOfNew := by
  obtain ⟨d, rfl⟩ : ∃ d', d = d' + 1 := ⟨d - 1, by omega⟩
  refine zOk_straight hg (show mt_tab[16]? = some mt_X0_boundOfNew from rfl) [] 24 rfl fun As μ Q hC => ?_
  obtain ⟨a1, a2, B, bs, rfl, ha1, ha2, ⟨n1, n2, n3⟩, hQ⟩ := hC
  refine ⟨rfl, ?_⟩
  refine And.intro ⟨by omega, by omega⟩ (And.intro (fun c1 => ?_) (fun c1 => ?_))
  · exfalso; omega
  · refine ⟨zk_X8_at, zm_X8_at hg d (by omega), _, _, _, rfl, ⟨by omega, by omega⟩, ?_⟩
    intro x2 kx2 lx2 fx2 gx2
    have X2 : x2 = (bs.length : Int) := by rw [(fx2 ⟨by omega, by omega⟩).1]; exact n1
    refine And.intro ⟨⟨by omega, by omega⟩, ⟨by omega, by omega⟩⟩ (And.intro (fun c3 => ?_) (fun c3 => ?_))
    · exact And.intro trivial (And.intro ⟨by omega, by omega⟩ (hQ _ (Or.inr ⟨by omega, rfl⟩) (by omega) (by omega)))
    · refine ⟨zk_X8_at, zm_X8_at hg d (by omega), _, _, _, rfl, ⟨by omega, by omega⟩, ?_⟩
      intro x6 kx6 lx6 fx6 gx6
      have X6 : x6 = μ.1 54 (a1 * 3 + a2) := (fx6 ⟨by omega, by omega⟩).1
      have q := n3 a2.toNat (by omega)
      rw [show ((a2.toNat : Nat) : Int) = a2 by omega, ← X6] at q
      exact And.intro trivial (And.intro ⟨by omega, by omega⟩ (hQ _ (Or.inl ⟨by omega, q⟩) (by omega) (by omega)))
def gk_X0_boundOf : zC := fun As μ Q => ∃ (a1 : Int) (a2 : Int) (t : Nat) (B : yB) (o u : Int) (S : qS) (l : qR), As = [.inr (.inr (52, 52)), .inl a1, .inl a2] ∧ (0 ≤ a2 ∧ a2 ≤ 2) ∧ cQ μ t B o u S ∧ cB B o S ∧ tE μ (yar B) a1 l ∧ qY (yar B) (qH B o S.2.2.length) l ∧ ¬ l.headD 0 < 21 ∧ (∀ (v : Int), ((a2 < (qBo B S l).length ∧ tE μ (yar B) v ((qBo B S l).getD a2.toNat [])) ∨ (((qBo B S l).length : Int) ≤ a2 ∧ v = -1)) → (-2147483648) ≤ v → v ≤ 2147483647 → Q (some (.inl v)) μ)
set_option maxHeartbeats 4000000 in
theorem gm_X0_boundOf {g : zΓ} (hg : zg g) (d : Nat) (hd : 3 ≤ d) : zOk g d 15 gk_X0_boundOf := by
  obtain ⟨d, rfl⟩ : ∃ d', d = d' + 1 := ⟨d - 1, by omega⟩
  refine zOk_straight hg (show mt_tab[15]? = some mt_X0_boundOf from rfl) [] 41 rfl fun As μ Q hC => ?_
  obtain ⟨a1, a2, t, B, o, u, S, l, rfl, ha2, ⟨⟨h1, h2, h3, h4⟩, h5, ⟨h6, h7⟩, h8, ⟨h9, hA⟩, ⟨hBt, hCt⟩, hD⟩, ⟨hB, hW, ho, hV⟩, hE, hY, nc, hQ⟩ := hC
  refine ⟨rfl, ?_⟩
  have hh := qY_h hY
  have fb := aFs_b hB ho
  have i1 := hB.1.1
  have w := h3.2.2.2.2
  have e1 := hE.1
  have n1 := w.1
  have c300 := h8.1
  refine ⟨gk_X6_head, gm_X6_head hg d (by omega), _, rfl, ⟨by omega, by omega, by omega⟩, ?_⟩
  intro x1 kx1 lx1 hx1
  have X1 : x1 = l.headD 0 := by rw [hx1]; exact tE_60 hE
  refine ⟨yk_X8_isParameter, ym_X8_isParameter hg d (by omega), _, rfl, ⟨by omega, by omega⟩, ?_⟩
  intro x2 kx2 lx2 p2
  refine And.intro ⟨by omega, by omega⟩ (And.intro (fun c3 => ?_) (fun c3 => ?_))
  · have hp : 32 + aFs B o ≤ x1 ∧ x1 < 32 + aFs B o + aNs B o := by omega
    have n4 := h6.2.2.1
    obtain ⟨p, ep⟩ : ∃ p : Int, p = x1 - 32 - aFs B o := ⟨_, rfl⟩
    have own := h7 p (by omega) (by omega)
    have pc := h1.2.1.2.2 (aFs B o + p) (by omega) (by
      have o0 : ¬ o < 0 := fun q => by
        have e1 : aNs B o = 0 := by unfold aNs; rw [if_pos q]
        omega
      have eF : aFs B o = B.1 2 o := by unfold aFs; rw [if_neg o0]
      have eN : aNs B o = B.1 3 o := by unfold aNs; rw [if_neg o0]
      have := hB.1.2 o (by omega) ho.2
      omega)
    have LL := qPb_l pc.2.1
    have eb : qBo B S l = if qPb B (aFs B o + p) = [] then [[0]] else qPb B (aFs B o + p) := by
      unfold qBo
      rw [if_neg (by omega), show l.headD 0 - 32 = aFs B o + p by omega]
    intro x5 hx5 kx5 lx5
    have X5 : x5 = aFs B o := hx5.trans h6.1
    refine And.intro ⟨⟨by omega, by omega⟩, ⟨by omega, by omega⟩⟩ (And.intro (fun c7 => ?_) (fun c7 => ?_))
    · refine And.intro trivial (And.intro ⟨by omega, by omega⟩ (hQ _ (Or.inr ⟨?_, rfl⟩) (by omega) (by omega)))
      rw [eb]
      split
      · simp; omega
      · omega
    · refine ⟨zk_X8_at, zm_X8_at hg d (by omega), _, _, _, rfl, ⟨by omega, by omega⟩, ?_⟩
      intro x10 kx10 lx10 fx10 gx10
      have X10 : x10 = μ.1 57 (p * 2 + a2) := by
        rw [(fx10 ⟨by omega, by omega⟩).1]
        exact congrArg (μ.1 57) (by omega)
      refine And.intro trivial (And.intro ⟨by omega, by omega⟩ (hQ _ ?_ (by omega) (by omega)))
      rw [eb]
      by_cases z : qPb B (aFs B o + p) = []
      · rw [if_pos z]
        have b0 : B.1 6 (aFs B o + p) = 0 := by rw [z] at LL; simp at LL; omega
        by_cases q : a2 = 0
        · left
          rw [X10, q]
          refine ⟨by simp, ?_⟩
          have := own.2.1 b0
          rw [show p * 2 + 0 = p * 2 by omega]
          exact this
        · right
          refine ⟨by simp; omega, ?_⟩
          rw [X10, show a2 = 1 by omega]
          exact own.2.2 (by omega)
      · rw [if_neg z]
        by_cases q : a2 < B.1 6 (aFs B o + p)
        · left
          refine ⟨by omega, ?_⟩
          rw [X10, qPb_g ha2.1 q]
          exact own.1 a2 ha2.1 q
        · right
          have l0 : (qPb B (aFs B o + p)).length ≠ 0 := fun y => z (List.eq_nil_of_length_eq_zero y)
          refine ⟨by omega, ?_⟩
          rw [X10, show a2 = 1 by omega]
          exact own.2.2 (by omega)
  · have hn : 300 ≤ x1 ∧ x1 < 300 + (S.2.2.length : Int) := by omega
    have vv := (hD (x1 - 300).toNat (by omega)).1
    rw [show (0 : Int) + (((x1 - 300).toNat : Nat) : Int) = x1 - 300 by omega] at vv
    have eb : qBo B S l = (S.2.2.getD (x1 - 300).toNat ([], [])).1 := by
      unfold qBo
      rw [if_pos (by omega), ← X1]
    refine ⟨gk_X0_boundOfNew, gm_X0_boundOfNew hg d (by omega), x1 - 300, a2, B, _, rfl, ⟨by omega, by omega⟩, ha2, vv, ?_⟩
    intro x12 p12 kx12 lx12
    rw [← eb] at p12
    exact And.intro trivial (And.intro ⟨by omega, by omega⟩ (hQ _ p12 (by omega) (by omega)))
def gk_X0_floorOf : zC := fun As μ Q => ∃ (a1 : Int) (t : Nat) (B : yB) (o u : Int) (S : qS) (l : qR), As = [.inr (.inr (52, 52)), .inl a1] ∧ cQ μ t B o u S ∧ cB B o S ∧ tE μ (yar B) a1 l ∧ qY (yar B) (qH B o S.2.2.length) l ∧ (∀ (v : Int), ((qFl S l ≠ [] ∧ 0 ≤ v ∧ tE μ (yar B) v (qFl S l)) ∨ (qFl S l = [] ∧ v = -1)) → (-2147483648) ≤ v → v ≤ 2147483647 → Q (some (.inl v)) μ)
set_option maxHeartbeats 4000000 in
theorem gm_X0_floorOf {g : zΓ} (hg : zg g) (d : Nat) (hd : 3 ≤ d) : zOk g d 14 gk_X0_floorOf := by
  obtain ⟨d, rfl⟩ : ∃ d', d = d' + 1 := ⟨d - 1, by omega⟩
  refine zOk_straight hg (show mt_tab[14]? = some mt_X0_floorOf from rfl) [] 25 rfl fun As μ Q hC => ?_
  obtain ⟨a1, t, B, o, u, S, l, rfl, ⟨⟨h1, h2, h3, h4⟩, h5, ⟨h6, h7⟩, h8, ⟨h9, hA⟩, ⟨hBt, hCt⟩, hD⟩, ⟨hB, hW, ho, hV⟩, hE, hY, hQ⟩ := hC
  refine ⟨rfl, ?_⟩
  have hh := qY_h hY
  have fb := aFs_b hB ho
  have i1 := hB.1.1
  have w := h3.2.2.2.2
  have e1 := hE.1
  have n1 := w.1
  have c300 := h8.1
  refine ⟨gk_X6_head, gm_X6_head hg d (by omega), _, rfl, ⟨by omega, by omega, by omega⟩, ?_⟩
  intro x1 kx1 lx1 hx1
  have X1 : x1 = l.headD 0 := by rw [hx1]; exact tE_60 hE
  refine And.intro ⟨by omega, by omega⟩ (And.intro (fun c3 => ?_) (fun c3 => ?_))
  · refine And.intro trivial (And.intro ⟨by omega, by omega⟩ (hQ _ (Or.inr ⟨?_, rfl⟩) (by omega) (by omega)))
    unfold qFl
    rw [if_neg (by omega)]
  · intro x4 hx4 kx4 lx4
    have X4 : x4 = (S.2.2.length : Int) := hx4.trans hCt
    refine And.intro ⟨⟨by omega, by omega⟩, ⟨by omega, by omega⟩⟩ (And.intro (fun c5 => ?_) (fun c5 => ?_))
    · exfalso; omega
    · refine ⟨zk_X8_at, zm_X8_at hg d (by omega), _, _, _, rfl, ⟨by omega, by omega⟩, ?_⟩
      intro x6 kx6 lx6 fx6 gx6
      have X6 : x6 = μ.1 55 (x1 - 300) := (fx6 ⟨by omega, by omega⟩).1
      have vv := (hD (x1 - 300).toNat (by omega)).2
      rw [show (0 : Int) + (((x1 - 300).toNat : Nat) : Int) = x1 - 300 by omega] at vv
      have ef : qFl S l = (S.2.2.getD (x1 - 300).toNat ([], [])).2 := by
        unfold qFl
        rw [if_pos (by omega), ← X1]
      refine And.intro trivial (And.intro ⟨by omega, by omega⟩ (hQ _ ?_ (by omega) (by omega)))
      rw [ef, X6]
      rcases vv with vv | vv
      · exact Or.inr vv
      · exact Or.inl ⟨vv.1, vv.2.1.1, vv.2⟩
