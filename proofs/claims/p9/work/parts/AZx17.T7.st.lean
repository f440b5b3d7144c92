/-! ### the class's asker starts over -/
def gk_X6_startOver : zC := fun As μ Q => ∃ (a1 : Nat), As = [.inr (.inr (59, 59)), .inr (.inr (a1, 14))] ∧ (a1 = 14 ∨ a1 = 32) ∧ μ.2 64 = 2048 ∧ (∀ (μ' : zM), zl0 μ μ' → (∀ j : Nat, (j < 59 ∨ 65 ≤ j) → μ'.1 j = μ.1 j) → μ'.1 59 ((6 : Nat) : Int) = a1 → (tn μ' = 0 ∧ tp μ' = 0) → (∀ h : Int, 0 ≤ h → h < 2048 → μ'.1 64 h = -1) → Q none μ')
set_option maxHeartbeats 4000000 in
theorem gm_X6_startOver {g : zΓ} (hg : zg g) (d : Nat) (hd : 2 ≤ d) : zOk g d 81 gk_X6_startOver := by
  obtain ⟨d, rfl⟩ : ∃ d', d = d' + 1 := ⟨d - 1, by omega⟩
  refine zOk_straight hg (show mt_tab[81]? = some mt_X6_startOver from rfl) [] 19 rfl fun As μ Q hC => ?_
  obtain ⟨a1, rfl, ha1, h64, hQ⟩ := hC
  refine ⟨rfl, ?_⟩
  have z0 : zl0 μ μ := zl0_r μ
  refine And.intro ⟨ha1, trivial⟩ ?_
  intro m1 em1
  have z2 := zl0_t z0 (zl0_u em1 (Or.inl (by decide)) (Or.inl ⟨by decide, by decide⟩))
  refine And.intro ⟨by omega, by omega⟩ ?_
  intro m3 em3
  have z4 := zl0_t z2 (zl0_u em3 (Or.inl (by decide)) (Or.inl ⟨by decide, by decide⟩))
  refine And.intro ⟨by omega, by omega⟩ ?_
  intro m5 em5
  have z6 := zl0_t z4 (zl0_u em5 (Or.inl (by decide)) (Or.inl ⟨by decide, by decide⟩))
  refine ⟨_, zOk_tag (ym_J7_fill_53178 hg d (by omega)), [.inr (.inr (64, 1001)), .inl (-1)], rfl, _, _, rfl, (Or.inr ⟨by decide, by decide⟩), ⟨by omega, by omega⟩, (show _ ∧ _ from ⟨by omega, by omega⟩), (by decide), ?_⟩
  intro m7 qm7 p7
  have c : ∀ j : Nat, j ≠ 59 → m5.1 j = μ.1 j := fun j hj => by rw [em5, zu_ne hj, em3, zu_ne hj, em1, zu_ne hj]
  refine And.intro rfl (hQ _ (zl0_t z6 qm7) (fun j hj => by rw [p7.1 j (by omega), c j (by omega)]) ?_ ⟨?_, ?_⟩ (fun h a b => p7.2 h a (by rw [z6.2, h64]; exact b)))
  · rw [p7.1 59 (by decide), em5, zu_nk (by decide), em3, zu_nk (by decide), em1, zu_at]
  · show m7.1 59 ((7 : Nat) : Int) = 0
    rw [p7.1 59 (by decide), em5, zu_nk (by decide), em3, zu_at]
  · show m7.1 59 ((8 : Nat) : Int) = 0
    rw [p7.1 59 (by decide), em5, zu_at]
/-- the asker is being started -/
def aS (μ m : zM) (t : Nat) (B : yB) (f c : Int) : Prop := (zl0 μ m ∧ ∀ j : Nat, (j < 52 ∨ 66 ≤ j) → m.1 j = μ.1 j) ∧ tOk m t (yar B) ∧ (m.1 52 ((7 : Nat) : Int) = t ∧ m.1 52 ((13 : Nat) : Int) = 0 ∧ m.1 52 ((14 : Nat) : Int) = 0) ∧ tE m (yar B) (m.1 52 ((9 : Nat) : Int)) [0] ∧ (m.1 52 ((8 : Nat) : Int) = f ∧ 0 ≤ f ∧ f ≤ 80) ∧ ∀ i : Int, 0 ≤ i → i < c → tE m (yar B) (m.1 56 i) [32 + f + i]
theorem aS_l {μ m m1 m2 : zM} {t : Nat} {B : yB} {f c v : Int} (h : aS μ m t B f c) (c0 : 0 ≤ c) (q : zfP m m1) (o : tOk m1 t (yar B)) (d : tOd m m1) (e : tE m1 (yar B) v [32 + f + c]) (q2 : zl0 m1 m2) (e2 : m2 = zu m1 56 c v) : aS μ m2 t B f (c + 1) ∧ (tn m2 = tn m1 ∧ tp m2 = tp m1) := by
  obtain ⟨⟨h1, h2⟩, h3, h4, h5, h6, h7⟩ := h
  obtain ⟨o2, d2, n2⟩ := tOk_57 o e2 (by omega)
  have w := h3.2.2.2.2
  have D := tOd_t d d2
  have e52 : m2.1 52 = m.1 52 := by rw [e2, zu_ne (by decide), q.2.1 52 (by omega)]
  refine ⟨⟨⟨zl0_t (zl0_t h1 q.1) q2, fun j hj => ?_⟩, o2, ?_, ?_, ?_, fun i a b => ?_⟩, n2⟩
  · rw [e2, zu_ne (by omega), q.2.1 j (by omega)]; exact h2 j hj
  · rw [e52]; exact h4
  · rw [e52]; exact tE_old D w h5
  · rw [e52]; exact h6
  · by_cases z : i = c
    · rw [e2, z, zu_at, ← e2]; exact tE_old d2 o.2.2.2.2 e
    · rw [e2, zu_nk z, q.2.1 56 (by omega), ← e2]; exact tE_old D w (h7 i a (by omega))
theorem aS_q {μ m m1 : zM} {t : Nat} {B : yB} {f c : Int} (h : aS μ m t B f c) (q : zfQ m m1) (o : tOk m1 t (yar B)) (d : tOd m m1) : aS μ m1 t B f c := by
  obtain ⟨⟨h1, h2⟩, h3, h4, h5, h6, h7⟩ := h
  have w := h3.2.2.2.2
  have e52 : m1.1 52 = m.1 52 := q.2.1 52 (by decide) (by decide)
  refine ⟨⟨zl0_t h1 q.1, fun j hj => by rw [q.2.1 j (by omega) (by omega)]; exact h2 j hj⟩, o, ?_, ?_, ?_, fun i a b => ?_⟩
  · rw [e52]; exact h4
  · rw [e52]; exact tE_old d w h5
  · rw [e52]; exact h6
  · rw [q.2.1 56 (by decide) (by decide)]; exact tE_old d w (h7 i a b)
def aFs (B : yB) (o : Int) : Int := if o < 0 then 0 else B.1 2 o
def aNs (B : yB) (o : Int) : Int := if o < 0 then 0 else B.1 3 o
def gk_X0_startOver : zC := fun As μ Q => ∃ (a1 : Nat) (a2 : Int) (B : yB), As = [.inr (.inr (52, 52)), .inr (.inr (a1, 14)), .inl a2] ∧ aT μ a1 B ∧ aB B ∧ (-1 ≤ a2 ∧ a2 < B.1 0 0) ∧ aSz μ ∧ yPs B 160 ≤ 300 ∧ (∀ (μ' : zM), (zl0 μ μ' ∧ ∀ j : Nat, (j < 52 ∨ 66 ≤ j) → μ'.1 j = μ.1 j) → tOk μ' a1 (yar B) → (μ'.1 52 ((7 : Nat) : Int) = a1 ∧ μ'.1 52 ((13 : Nat) : Int) = 0 ∧ μ'.1 52 ((14 : Nat) : Int) = 0) → tE μ' (yar B) (μ'.1 52 ((9 : Nat) : Int)) [0] → aOw μ' (yar B) (aFs B a2) (aNs B a2) → (tn μ' ≤ 305 ∧ tp μ' ≤ 305) → (∀ i : Int, 0 ≤ i → i < aNs B a2 → aOb μ' B (aFs B a2) i) → μ'.1 52 ((11 : Nat) : Int) = 0 → Q none μ')
set_option maxHeartbeats 4000000 in
theorem gm_X0_startOver {g : zΓ} (hg : zg g) (d : Nat) (hd : 6 ≤ d) : zOk g d 1 gk_X0_startOver := by
  obtain ⟨d, rfl⟩ : ∃ d', d = d' + 1 := ⟨d - 1, by omega⟩
  refine zOk_loop hg (show mt_tab[1]? = some mt_X0_startOver from rfl) ([(82, [0, 3, 4]), (123, [0, 3, 4]), (150, [0, 3, 4])], []) 93 rfl fun As μ Q hC => ?_
  obtain ⟨a1, a2, B, rfl, hT, hB, ha2, hS, hBn, hQ⟩ := hC
  have ha1 := hT.1
  have hI := hB.1
  have I1 := hI.1
  have FN : (0 ≤ aFs B a2 ∧ aFs B a2 ≤ 80) ∧ (0 ≤ aNs B a2 ∧ aNs B a2 ≤ 4) ∧ aFs B a2 + aNs B a2 ≤ B.1 0 1 := by
    unfold aFs aNs
    by_cases q : a2 < 0
    · rw [if_pos q, if_pos q]; omega
    · rw [if_neg q, if_neg q]; have := hI.2 a2 (by omega) ha2.2; omega
  have PS : ∀ v : Int, 0 ≤ v → v ≤ aNs B a2 → 0 ≤ yPs B (2 * (aFs B a2 + v)).toNat - yPs B (2 * aFs B a2).toNat ∧ yPs B (2 * (aFs B a2 + v)).toNat - yPs B (2 * aFs B a2).toNat ≤ 300 := fun v v0 v1 => by
    have q1 := yPs_m B (show (2 * aFs B a2).toNat ≤ (2 * (aFs B a2 + v)).toNat by omega)
    have q2 := yPs_m B (show (2 * (aFs B a2 + v)).toNat ≤ 160 by omega)
    have q3 := yPs_m B (show 0 ≤ (2 * aFs B a2).toNat by omega)
    have q4 : yPs B 0 = 0 := rfl
    omega
  refine ⟨rfl, fun pc vs μ' n => (pc = 82 → ∃ (v4 : Int), vs = [.inr (.inr (52, 52)), .inl (aNs B a2), .inl v4] ∧ (0 ≤ v4 ∧ v4 ≤ aNs B a2) ∧ aS μ μ' a1 B (aFs B a2) v4 ∧ (tn μ' ≤ 1 + v4 ∧ tp μ' ≤ 0) ∧ μ'.1 52 ((11 : Nat) : Int) = 0 ∧ n = (Int.toNat (2147483648 - v4 + 17179869184))) ∧ (pc = 123 → ∃ (v4 : Int), vs = [.inr (.inr (52, 52)), .inl (aNs B a2), .inl v4] ∧ (0 ≤ v4 ∧ v4 ≤ 8) ∧ aS μ μ' a1 B (aFs B a2) (aNs B a2) ∧ (tn μ' ≤ 5 ∧ tp μ' ≤ 0) ∧ (μ'.1 52 ((11 : Nat) : Int) = 0 ∧ ∀ k : Int, 0 ≤ k → k < v4 → μ'.1 57 k = -1) ∧ n = (Int.toNat (2147483648 - v4 + 8589934592))) ∧ (pc = 150 → ∃ (v4 : Int), vs = [.inr (.inr (52, 52)), .inl (aNs B a2), .inl v4] ∧ (0 ≤ v4 ∧ v4 ≤ aNs B a2) ∧ aS μ μ' a1 B (aFs B a2) (aNs B a2) ∧ (tn μ' ≤ 5 + (yPs B (2 * (aFs B a2 + v4)).toNat - yPs B (2 * aFs B a2).toNat) ∧ tp μ' ≤ yPs B (2 * (aFs B a2 + v4)).toNat - yPs B (2 * aFs B a2).toNat) ∧ (μ'.1 52 ((11 : Nat) : Int) = 0 ∧ (∀ i : Int, 0 ≤ i → i < v4 → aOb μ' B (aFs B a2) i) ∧ ∀ i : Int, v4 ≤ i → i < aNs B a2 → μ'.1 57 (i * 2 + 1) = -1) ∧ n = (Int.toNat (2147483648 - v4))), ?_, ?_, ?_, ?_, trivial⟩
  · refine And.intro ⟨ha1, trivial⟩ ?_
    intro m1 em1
    refine And.intro ⟨by omega, by omega⟩ ?_
    intro m3 em3
    refine And.intro ⟨by omega, by omega⟩ ?_
    intro m5 em5
    refine And.intro ⟨by omega, by omega⟩ ?_
    intro m7 em7
    refine And.intro ⟨by omega, by omega⟩ ?_
    intro m9 em9
    have z9 : zl0 μ m9 := zl0_t (zl0_t (zl0_t (zl0_t (zl0_u em1 (Or.inl (by decide)) (Or.inl ⟨by decide, by decide⟩)) (zl0_u em3 (Or.inl (by decide)) (Or.inl ⟨by decide, by decide⟩))) (zl0_u em5 (Or.inl (by decide)) (Or.inl ⟨by decide, by decide⟩))) (zl0_u em7 (Or.inl (by decide)) (Or.inl ⟨by decide, by decide⟩))) (zl0_u em9 (Or.inl (by decide)) (Or.inl ⟨by decide, by decide⟩))
    have A9 : m9.1 52 ((11 : Nat) : Int) = 0 := by
      rw [em9, zu_nk (by decide), em7, zu_nk (by decide), em5]
      (try rw [zu_nk (by decide)])
      rw [em3]
      first | rw [zu_at] | (rw [zu_nk (by decide)])
    have c9 : ∀ j : Nat, j ≠ 52 → m9.1 j = μ.1 j := fun j hj => by rw [em9, zu_ne hj, em7, zu_ne hj, em5, zu_ne hj, em3, zu_ne hj, em1, zu_ne hj]
    have F9 : m9.1 52 ((7 : Nat) : Int) = a1 ∧ m9.1 52 ((13 : Nat) : Int) = 0 ∧ m9.1 52 ((14 : Nat) : Int) = 0 := ⟨by rw [em9, zu_nk (by decide), em7, zu_nk (by decide), em5, zu_nk (by decide), em3, zu_nk (by decide), em1, zu_at], by rw [em9, zu_nk (by decide), em7, zu_at], by rw [em9, zu_at]⟩
    refine ⟨gk_X6_startOver, gm_X6_startOver hg d (by omega), _, rfl, ha1, (by rw [z9.2]; exact hS.1.2.2), ?_⟩
    intro m11 q11 f11 t11 n11 ch11
    have z11 := zl0_t z9 q11
    have c11 : ∀ j : Nat, (j < 52 ∨ 66 ≤ j) → m11.1 j = μ.1 j := fun j hj => by rw [f11 j (by omega), c9 j (by omega)]
    have hT11 : aT m11 a1 B := aT_f hT c11 z11.2
    have ok11 : tOk m11 a1 (yar B) := ⟨ha1, t11.symm, (tA_B hT11.2.1).symm, yar_b hT11.2.1, ⟨by omega, by omega⟩, ⟨by omega, by omega⟩, fun x x0 x1 => by exfalso; omega, fun h h0 h1 => by rw [ch11 h h0 h1]; omega, fun x x0 x1 => by exfalso; omega, fun h h0 h1 h2 => by rw [ch11 h h0 h1] at h2; omega, fun x x0 x1 => by exfalso; omega, fun x x0 x1 => by exfalso; omega, fun x y x0 x1 => by exfalso; omega, fun x y x0 x1 => by exfalso; omega⟩
    refine ⟨gk_X6_leaf, gm_X6_leaf hg d (by omega), 0, a1, yar B, rfl, ⟨by omega, by omega⟩, yar_z hI hB.2.2.2.2.1, ok11, (by omega), ?_⟩
    intro x13 m14 q14 o14 d14 c14 e14
    have n14 := e14.1
    have k14 := o14.2.2.2.2.1
    refine And.intro ⟨by omega, by omega⟩ ?_
    intro m17 em17
    obtain ⟨o17, d17, n17⟩ := tOk_57 o14 em17 (by omega)
    have z17 : zl0 μ m17 := zl0_t (zl0_t z11 q14.1) (zl0_u em17 (Or.inl (by decide)) (Or.inl ⟨by decide, by decide⟩))
    have c17 : ∀ j : Nat, (j < 52 ∨ 66 ≤ j) → m17.1 j = μ.1 j := fun j hj => by rw [em17, zu_ne (by omega), q14.2.1 j (by omega), c11 j hj]
    have F17 : m17.1 52 ((7 : Nat) : Int) = a1 ∧ m17.1 52 ((13 : Nat) : Int) = 0 ∧ m17.1 52 ((14 : Nat) : Int) = 0 := by rw [em17, zu_nk (by decide), zu_nk (by decide), zu_nk (by decide), q14.2.1 52 (by omega), f11 52 (by omega)]; exact F9
    have A17 : m17.1 52 ((11 : Nat) : Int) = 0 := by rw [em17, zu_nk (by decide), q14.2.1 52 (by omega), f11 52 (by omega)]; exact A9
    have E17 : tE m17 (yar B) (m17.1 52 ((9 : Nat) : Int)) [0] := by rw [em17, zu_at, ← em17]; exact tE_old d17 o14.2.2.2.2 e14
    have fin : ∀ (m : zM) (x : Int), m = zu m17 52 ((8 : Nat) : Int) x → x = aFs B a2 → aS μ m a1 B (aFs B a2) 0 ∧ (tn m ≤ 1 ∧ tp m ≤ 0) ∧ m.1 52 ((11 : Nat) : Int) = 0 := fun m x em ex => by
      obtain ⟨o, dd, nn⟩ := tOk_57 o17 em (by omega)
      refine ⟨⟨⟨zl0_t z17 (zl0_u em (Or.inl (by decide)) (Or.inl ⟨by decide, by decide⟩)), fun j hj => by rw [em, zu_ne (by omega)]; exact c17 j hj⟩, o, ?_, ?_, ?_, fun i a b => by exfalso; omega⟩, ⟨by omega, by omega⟩, by rw [em, zu_nk (by decide)]; exact A17⟩
      · rw [em, zu_nk (by decide), zu_nk (by decide), zu_nk (by decide)]; exact F17
      · rw [em, zu_nk (by decide), ← em]; exact tE_old dd o17.2.2.2.2 E17
      · rw [em, zu_at]; exact ⟨ex, FN.1.1, FN.1.2⟩
    have hT17 : aT m17 a1 B := aT_f hT c17 z17.2
    refine And.intro ⟨by omega, by omega⟩ (And.intro (fun c19 => ?_) (fun c19 => ?_))
    · refine And.intro ha1 ?_
      refine ⟨zk_X8_at, zm_X8_at hg d (by omega), _, _, _, rfl, ⟨by omega, by omega⟩, ?_⟩
      refine And.intro (zfa (o := 2) (y2 := 16) ha1 rfl) ?_
      intro x20 kx20 lx20 fx20 gx20
      have w20 := hT17.2.1.2.1 a2 (by omega) ha2.2
      have X20 : x20 = aFs B a2 := by rw [(fx20 ⟨by omega, by omega⟩).1]; unfold aFs; rw [if_neg (by omega)]; exact w20.1.2.1
      refine And.intro ⟨by omega, by omega⟩ ?_
      intro m21 em21
      obtain ⟨s21, n21⟩ := fin m21 x20 em21 X20
      refine And.intro ⟨by omega, by omega⟩ (And.intro (fun c23 => ?_) (fun c23 => ?_))
      · refine And.intro ha1 ⟨yk_X4_arity, ym_X4_arity hg d (by omega), _, _, rfl, ha1, ⟨by omega, by omega⟩, ?_⟩
        intro x24 kx24 lx24 hx24
        have X24 : x24 = aNs B a2 := by
          have e : x24 = tA m21 a1 a2 := hx24
          rw [e, ← s21.2.1.2.2.1]
          unfold yar aNs
          rw [if_pos ⟨by omega, ha2.2⟩, if_neg (by omega)]
        refine Exists.intro (Int.toNat (2147483648 - 0 + 17179869184)) ?_
        exact ⟨(fun _ => ⟨0, by rw [X24], ⟨by omega, by omega⟩, s21, ⟨by omega, by omega⟩, n21.2, rfl⟩), (fun h => absurd h (by decide)), (fun h => absurd h (by decide))⟩
      · exfalso; omega
    · refine And.intro ⟨by omega, by omega⟩ ?_
      intro m25 em25
      obtain ⟨s25, n25⟩ := fin m25 0 em25 (by unfold aFs; rw [if_pos (by omega)])
      have N0 : aNs B a2 = 0 := by unfold aNs; rw [if_pos (by omega)]
      refine And.intro ⟨by omega, by omega⟩ (And.intro (fun c27 => ?_) (fun c27 => ?_))
      · exfalso; omega
      · refine Exists.intro (Int.toNat (2147483648 - 0 + 17179869184)) ?_
        exact ⟨(fun _ => ⟨0, by rw [N0], ⟨by omega, by omega⟩, s25, ⟨by omega, by omega⟩, n25.2, rfl⟩), (fun h => absurd h (by decide)), (fun h => absurd h (by decide))⟩
  · intro vs m0 n hI
    replace hI := hI.1 rfl
    obtain ⟨v4, rfl, hv4, s0, n0, A0, rfl⟩ := hI
    refine And.intro ⟨⟨by omega, by omega⟩, ⟨by omega, by omega⟩⟩ (And.intro (fun c28 => ?_) (fun c28 => ?_))
    · have e : v4 = aNs B a2 := by omega
      rw [e] at s0
      refine Exists.intro (Int.toNat (2147483648 - 0 + 8589934592)) (And.intro (by omega) ?_)
      exact ⟨(fun h => absurd h (by decide)), (fun _ => ⟨0, rfl, ⟨by omega, by omega⟩, s0, ⟨by omega, by omega⟩, ⟨A0, fun k k0 k1 => by exfalso; omega⟩, rfl⟩), (fun h => absurd h (by decide))⟩
    · intro x29 hx29 kx29 lx29
      have X29 : x29 = aFs B a2 := hx29.trans s0.2.2.2.2.1.1
      have p0 := s0.2.1.2.2.2.2.2.1
      refine ⟨gk_X6_leaf, gm_X6_leaf hg d (by omega), 32 + x29 + v4, a1, yar B, rfl, ⟨by omega, by omega⟩, yar_n (by omega) (by omega) (by omega) (by omega), s0.2.1, (by omega), ?_⟩
      intro x32 m33 q33 o33 d33 c33 e33
      have n33 := e33.1
      have k33 := o33.2.2.2.2.1
      rw [X29] at e33
      refine ⟨yk_X8_set, ym_X8_set hg d (by omega), _, _, _, _, rfl, ⟨by omega, by omega⟩, ?_⟩
      refine And.intro ⟨by omega, by omega⟩ (And.intro ⟨by omega, by omega⟩ ?_)
      intro m36 qm36 em36
      obtain ⟨s36, n36⟩ := aS_l s0 hv4.1 q33 o33 d33 e33 ⟨qm36, by rw [em36]; rfl⟩ em36
      refine Exists.intro (Int.toNat (2147483648 - (v4 + 1) + 17179869184)) (And.intro (by omega) ?_)
      exact ⟨(fun _ => ⟨_, rfl, ⟨by omega, by omega⟩, s36, ⟨by omega, by omega⟩, by rw [em36, zu_ne (by decide), q33.2.1 52 (by omega)]; exact A0, rfl⟩), (fun h => absurd h (by decide)), (fun h => absurd h (by decide))⟩
  · intro vs m0 n hI
    replace hI := hI.2.1 rfl
    obtain ⟨v4, rfl, hv4, s0, n0, ⟨A0, M0⟩, rfl⟩ := hI
    refine And.intro ⟨⟨by omega, by omega⟩, ⟨by omega, by omega⟩⟩ (And.intro (fun c38 => ?_) (fun c38 => ?_))
    · have P0 := PS 0 (by omega) (by omega)
      refine Exists.intro (Int.toNat (2147483648 - 0)) (And.intro (by omega) ?_)
      exact ⟨(fun h => absurd h (by decide)), (fun h => absurd h (by decide)), (fun _ => ⟨0, rfl, ⟨by omega, by omega⟩, s0, ⟨by omega, by omega⟩, ⟨A0, fun i i0 i1 => by exfalso; omega, fun i i0 i1 => M0 _ (by omega) (by omega)⟩, rfl⟩)⟩
    · refine ⟨yk_X8_set, ym_X8_set hg d (by omega), _, _, _, _, rfl, ⟨by omega, by omega⟩, ?_⟩
      refine And.intro ⟨by omega, by omega⟩ (And.intro ⟨by omega, by omega⟩ ?_)
      intro m39 qm39 em39
      obtain ⟨o39, d39, n39⟩ := tOk_57 s0.2.1 em39 (by omega)
      have s39 := aS_q s0 (zfQ_u ⟨qm39, by rw [em39]; rfl⟩ em39) o39 d39
      refine Exists.intro (Int.toNat (2147483648 - (v4 + 1) + 8589934592)) (And.intro (by omega) ?_)
      exact ⟨(fun h => absurd h (by decide)), (fun _ => ⟨_, rfl, ⟨by omega, by omega⟩, s39, ⟨by omega, by omega⟩, ⟨by rw [em39, zu_ne (by decide)]; exact A0, fun k k0 k1 => by
        by_cases z : k = v4
        · rw [em39, z, zu_at]
        · rw [em39, zu_nk z]; exact M0 k k0 (by omega)⟩, rfl⟩), (fun h => absurd h (by decide))⟩
  · intro vs m0 n hI
    replace hI := hI.2.2 rfl
    obtain ⟨v4, rfl, hv4, s0, n0, ⟨A0, M1, M2⟩, rfl⟩ := hI
    have P0 := PS v4 hv4.1 hv4.2
    have ow : aOw m0 (yar B) (aFs B a2) (aNs B a2) := ⟨s0.2.2.2.2.1.1, s0.2.2.2.2.1.2, FN.2.1, s0.2.2.2.2.2⟩
    refine And.intro ⟨⟨by omega, by omega⟩, ⟨by omega, by omega⟩⟩ (And.intro (fun c41 => ?_) (fun c41 => ?_))
    · exact And.intro rfl (hQ _ s0.1 s0.2.1 s0.2.2.1 s0.2.2.2.1 ow ⟨by omega, by omega⟩ (fun i i0 i1 => M1 i i0 (by omega)) A0)
    · have hT0 : aT m0 a1 B := aT_f hT s0.1.2 s0.1.1.2
      have a2p : ¬ a2 < 0 := fun q => by unfold aNs at hv4 c41; rw [if_pos q] at hv4; rw [if_pos q] at c41; omega
      have eF : aFs B a2 = B.1 2 a2 := by unfold aFs; rw [if_neg a2p]
      have eN : aNs B a2 = B.1 3 a2 := by unfold aNs; rw [if_neg a2p]
      refine ⟨gk_X0_tellOwnBounds, gm_X0_tellOwnBounds hg d (by omega), v4, a1, B, aFs B a2, aNs B a2, rfl, ⟨by omega, by omega⟩, hT0, aSz_f hS s0.1.1.2, s0.2.2.1.1, s0.2.1, ow, FN.2.2, (fun i i0 i1 => ?_), ⟨by omega, by omega⟩, hBn, ⟨s0.2.2.2.1, M2 v4 (by omega) (by omega)⟩, ?_⟩
      · have gd := (hB.2.2.1.2 (aFs B a2 + v4) i (by omega) (by omega) i0 i1).1
        refine ⟨gd, fun h hm h1 h2 => ?_⟩
        have j := hB.2.2.2.1 a2 (aFs B a2 + v4) (by omega) ha2.2 (by omega) (by omega) i i0 i1 h hm h1 h2
        omega
      · intro m42 q42 o42 d42 c42 ob42 f57
        have e42 : aFs B a2 + v4 + 1 = aFs B a2 + (v4 + 1) := by omega
        rw [e42] at c42
        have s42 := aS_q s0 q42 o42 d42
        refine Exists.intro (Int.toNat (2147483648 - (v4 + 1))) (And.intro (by omega) ?_)
        exact ⟨(fun h => absurd h (by decide)), (fun h => absurd h (by decide)), (fun _ => ⟨_, rfl, ⟨by omega, by omega⟩, s42, ⟨by omega, by omega⟩, ⟨by rw [q42.2.1 52 (by decide) (by decide)]; exact A0, fun i i0 i1 => by
          by_cases z : i = v4
          · rw [z]; exact ob42
          · exact aOb_f (M1 i i0 (by omega)) i0 (hT0.2.1.2.2 (aFs B a2 + i) (by omega) (by omega)).2.2 s0.2.1.2.2.2.2 d42 (fun k k0 k1 => f57 k (by omega)), fun i i0 i1 => by rw [f57 _ (by omega)]; exact M2 i (by omega) i1⟩, rfl⟩)⟩
