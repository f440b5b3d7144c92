/-! ### the TYPE of a class above a node: the class -/
def gk_X4_overStart : zC := fun As μ Q => ∃ (t : Nat) (a1 : Int) (a2 : Int), As = [.inr (.inr (t, 14)), .inl a1, .inl a2] ∧ (t = 14 ∨ t = 32) ∧ (0 ≤ a1 ∧ a1 ≤ 20) ∧ (0 ≤ a2 ∧ a2 ≤ 20) ∧ (∀ (v : Int), (-1) ≤ v → v ≤ 88400 → (v = μ.1 (Nat.add t 13) (a1 * 21 + a2)) → Q (some (.inl v)) μ)
set_option maxHeartbeats 4000000 in
theorem gm_X4_overStart {g : zΓ} (hg : zg g) (d : Nat) (hd : 2 ≤ d) : zOk g d 66 gk_X4_overStart := by
  obtain ⟨d, rfl⟩ : ∃ d', d = d' + 1 := ⟨d - 1, by omega⟩
  refine zOk_straight hg (show mt_tab[66]? = some mt_X4_overStart from rfl) [] 15 rfl fun As μ Q hC => ?_
  obtain ⟨t, a1, a2, rfl, ht, ha1, ha2, hQ⟩ := hC
  refine ⟨rfl, ?_⟩
  refine And.intro ht ?_
  refine And.intro (zfa (o := 12) (y2 := 26) ht rfl) ?_
  refine ⟨zk_X8_at, zm_X8_at hg d (by omega), _, _, _, rfl, ⟨by omega, by omega⟩, ?_⟩
  refine And.intro (zfa (o := 1) (y2 := 27) (zfa (o := 12) (y2 := 26) ht rfl) rfl) ?_
  intro x1 kx1 lx1 fx1 gx1
  have hx1 : x1 = μ.1 (Nat.add (Nat.add t 12) 1) ((a1 * 21) + a2) := (fx1 ⟨by omega, by omega⟩).1
  have ix1 := (fx1 ⟨by omega, by omega⟩).2
  exact And.intro trivial (And.intro ⟨by omega, by omega⟩ (hQ _ (by omega) (by omega) hx1))
theorem tC_one {m : zM} {A : Int → Int} : ∀ (k : Nat) (x : Int) (l : List Int), tC m A k x l → yone A l
  | 0, _, _, h => h.elim
  | k + 1, x, l, ⟨h, as, e1, e2, e3, e5⟩ => by
    rw [e1]
    refine yone_h e3 (fun a ha => ?_)
    obtain ⟨i, h1, h2⟩ := rmem ha
    rw [← h2]
    exact tC_one k _ _ (e5 i h1)
theorem tE_one {m : zM} {A : Int → Int} {x : Int} {l : List Int} (h : tE m A x l) : yone A l := by
  obtain ⟨-, k, h⟩ := h
  exact tC_one k x l h
theorem tE_nd {m : zM} {A : Int → Int} {x : Int} {l : List Int} (w : tW m A) (h : tE m A x l) : ∃ as : List (List Int), l = m.1 60 x :: as.flatten ∧ aNd m A x (m.1 60 x) as ∧ ∀ a ∈ as, yone A a := by
  obtain ⟨as, e1, e2, e3⟩ := tE_h h
  have r := h.1
  have W := w.2.2.1 x r.1 r.2
  have p : ∀ i : Nat, i < as.length → tE m A (m.1 63 (m.1 61 x + i)) (as.getD i []) := fun i hi => by
    have b := W.2 i (by omega) (by omega)
    exact ⟨⟨b.1, by omega⟩, e3 i hi⟩
  refine ⟨as, e1, ⟨r, rfl, e2, p⟩, fun a ha => ?_⟩
  obtain ⟨i, h1, h2⟩ := rmem ha
  rw [← h2]
  exact tE_one (p i h1)
def gk_X0_raise : zC := fun As μ Q => ∃ (a1 : Int) (a2 : Int) (a3 : Int) (t : Nat) (B : yB) (cs : List (List Int)), As = [.inr (.inr (52, 52)), .inl a1, .inl a2, .inl a3] ∧ (0 ≤ a1 ∧ a1 < B.1 0 0) ∧ (0 ≤ a2 ∧ a2 ≤ 20) ∧ (0 ≤ a3 ∧ a3 + 4 ≤ 164) ∧ aT μ t B ∧ aB B ∧ aSz μ ∧ tOk μ t (yar B) ∧ μ.1 52 ((7 : Nat) : Int) = t ∧ B.2 2 a1 a2 ≠ [] ∧ ((cs.length : Int) = B.1 3 a1 ∧ ∀ j : Nat, j < cs.length → tE μ (yar B) (μ.1 58 (a3 + j)) (cs.getD j [])) ∧ aCn μ ∧ (∀ (v : Int) (μ' : zM), μ.1 52 ((14 : Nat) : Int) + ((B.2 2 a1 a2).flatten.length : Int) ≤ 6000 → zfK μ μ' → (∀ j : Nat, j ≠ 52 → (j < 59 ∨ 66 ≤ j) → μ'.1 j = μ.1 j) → tOk μ' t (yar B) → tOd μ μ' → aCn μ' → μ'.1 52 ((14 : Nat) : Int) = μ.1 52 ((14 : Nat) : Int) + ((B.2 2 a1 a2).flatten.length : Int) → μ'.1 52 ((13 : Nat) : Int) = μ.1 52 ((13 : Nat) : Int) → tE μ' (yar B) v (ysub (B.1 2 a1) cs (B.2 2 a1 a2).flatten) → Q (some (.inl v)) μ') ∧ (6000 < μ.1 52 ((14 : Nat) : Int) + ((B.2 2 a1 a2).flatten.length : Int) → Q (some (.inl (-4))) μ)
set_option maxHeartbeats 4000000 in
theorem gm_X0_raise {g : zΓ} (hg : zg g) (d : Nat) (hd : 4 ≤ d) : zOk g d 12 gk_X0_raise := by
  obtain ⟨d, rfl⟩ : ∃ d', d = d' + 1 := ⟨d - 1, by omega⟩
  refine zOk_straight hg (show mt_tab[12]? = some mt_X0_raise from rfl) [] 39 rfl fun As μ Q hC => ?_
  obtain ⟨a1, a2, a3, t, B, cs, rfl, ha1, ha2, ha3, hT, hB, hS, ok, h52, hne, ⟨hcl, hcs⟩, ⟨cn1, cn2, cn3, cn4⟩, hQ, hQ0⟩ := hC
  refine ⟨rfl, ?_⟩
  have hB21 := hT.2.1.1.2.2.1
  have W := ok.2.2.2.2
  have bc := hT.2.1.2.1 a1 ha1.1 ha1.2
  have ht := hT.1
  obtain ⟨l, el, ln, l2, lG⟩ : ∃ l, B.2 2 a1 a2 = [l] ∧ l ≠ [] ∧ l.length ≤ 200 ∧ yG B a1 l := by
    rcases hB.2.1 a1 a2 with q | q
    · exact absurd q hne
    · exact q
  have fl : (B.2 2 a1 a2).flatten = l := by rw [el]; simp
  have ro := hT.2.2.2.1 a1 a2 ha1.1 (by omega) ha2.1 (by omega)
  obtain ⟨r2, r3, r4⟩ := ro.2 hne
  have r1 := ro.1
  rw [fl] at r1 r3 r4
  have oy := (hB.2.2.2.2.2 a1 a2 ha1.1 ha1.2 ha2.1 (by omega) hne).1
  rw [fl] at oy
  intro t1 et1 ht1
  have q1 : t1 = t := by omega
  subst q1
  refine And.intro ht1.1 ⟨yk_X4_overLength, ym_X4_overLength hg d (by omega), _, _, _, rfl, ht1.1, ⟨by omega, by omega⟩, ⟨by omega, by omega⟩, ?_⟩
  intro x2 kx2 lx2 hx2
  have X2 : x2 = (l.length : Int) := by rw [hx2]; exact r1
  refine ⟨gk_X0_count, gm_X0_count hg d (by omega), _, rfl, ⟨by omega, by omega⟩, ⟨by omega, by omega⟩, ?_, fun ful => ?_⟩
  rotate_left
  · refine And.intro ⟨by omega, by omega⟩ (And.intro (fun c6 => by exfalso; omega) (fun c6 => ?_))
    exact And.intro trivial (And.intro ⟨by omega, by omega⟩ (hQ0 (by rw [fl]; omega)))
  intro m4 fit q4 em4
  obtain ⟨o4, d4, n4⟩ := tOk_g ok (m' := m4) (fun i hi => by rw [em4, zu_ne (by omega)])
  have z4 : zfK μ m4 := zfK_u q4 em4 (by omega)
  have T4 : m4.1 52 ((14 : Nat) : Int) = μ.1 52 ((14 : Nat) : Int) + x2 := by rw [em4, zu_at]
  have N4 : m4.1 52 ((13 : Nat) : Int) = μ.1 52 ((13 : Nat) : Int) := by rw [em4, zu_nk (by decide)]
  have h52' : m4.1 52 ((7 : Nat) : Int) = t1 := (z4.2.2.1 _ (by decide)).trans h52
  refine And.intro ⟨by omega, by omega⟩ (And.intro (fun c6 => ?_) (fun c6 => ?_))
  · intro t7 et7 ht7
    have q7 : t7 = t1 := by omega
    subst q7
    refine And.intro ht1.1 ?_
    refine And.intro (zfa (o := 12) (y2 := 26) ht1.1 rfl) ?_
    intro t8 et8 ht8
    have e12 : m4.1 (Nat.add t7 12) = μ.1 (Nat.add t7 12) := z4.2.1 _ (by simp only [Nat.add_eq]; omega)
    have E8 : t8 = (μ.1 (Nat.add t7 12) ((5 : Nat) : Int)).toNat := by rw [e12] at et8; omega
    intro t9 et9 ht9
    have q9 : t9 = t7 := by omega
    subst q9
    refine And.intro ht1.1 ⟨gk_X4_overStart, gm_X4_overStart hg d (by omega), _, _, _, rfl, ht1.1, ⟨by omega, by omega⟩, ⟨by omega, by omega⟩, ?_⟩
    intro x10 kx10 lx10 hx10
    have X10 : x10 = μ.1 (Nat.add t9 13) (a1 * 21 + a2) := by rw [hx10, z4.2.1 (Nat.add t9 13) (by simp only [Nat.add_eq]; omega)]
    intro t11 et11 ht11
    have q11 : t11 = t9 := by omega
    subst q11
    refine And.intro ht1.1 ?_
    refine ⟨zk_X8_at, zm_X8_at hg d (by omega), _, _, _, rfl, ⟨by omega, by omega⟩, ?_⟩
    refine And.intro (zfa (o := 2) (y2 := 16) ht1.1 rfl) ?_
    intro x12 kx12 lx12 fx12 gx12
    have X12 : x12 = B.1 2 a1 := by rw [(fx12 ⟨by omega, by omega⟩).1, z4.2.1 (Nat.add t11 2) (by simp only [Nat.add_eq]; omega)]; exact bc.1.2.1
    have cc := hT.2.2.2.2.2.2
    unfold yCC at cc
    rw [← E8] at cc
    have u6 := hT.2.2.2.2.2.1
    rw [← E8] at u6
    have P80 := hB.1.1
    have R4 : yRow m4 t8 x10 l := by rw [X10]; exact yRow_e (by rw [E8]; exact r4) (z4.2.1 t8 (by omega))
    refine ⟨_, zOk_tag (gm_X6_put hg d (by omega)), [.inr (.inr (59, 59)), .inr (.inr (t8, 1001)), .inl x10, .inl x2, .inr (.inr (58, 1001)), .inl a3, .inl x12], rfl, t8, x10, x2, 58, a3, x12, t11, yar B, l, cs, rfl, (Or.inl ht8.1), ⟨by omega, by have := ht8.1.2.2; rw [show m4.2 t8 = μ.2 t8 by rw [q4.2]] at this; omega⟩, ⟨X2, by omega⟩, (Or.inr ⟨by decide, by decide⟩), ⟨by omega, by omega⟩, ⟨by omega, by omega⟩, ⟨by omega, Or.inl (by decide)⟩, by rw [q4.2]; omega, R4, oy, o4, ⟨by omega, by omega⟩, (fun h hm h1 h2 => ?_), ?_⟩
    · have y := lG h hm h1 h2
      refine ⟨yar_n hB21.2 (by omega) (by omega) (by omega), ⟨by omega, by rw [q4.2, hS.1.2.1]; omega⟩, ?_⟩
      have f := hcs (h - 32 - B.1 2 a1).toNat (by omega)
      rw [show (((h - 32 - B.1 2 a1).toNat : Nat) : Int) = h - 32 - B.1 2 a1 by omega] at f
      rw [X12, show m4.1 58 = μ.1 58 by rw [em4, zu_ne (by decide)]]
      exact tE_old d4 W f
    · intro x13 m14 q14 o14 d14 c14 e14
      have n14 := e14.1
      have k14 := o14.2.2.2.2.1
      rw [X12, ← fl] at e14
      exact And.intro trivial (And.intro ⟨by omega, by omega⟩ (hQ _ _ (by rw [fl]; omega) (zfK_t z4 (zfK_P q14)) (fun j h1 h2 => by rw [q14.2.1 j h2, em4, zu_ne h1]) o14 (tOd_t d4 d14) (by unfold aCn; rw [q14.2.1 52 (by omega), T4, N4]; exact ⟨cn1, ⟨by omega, by omega⟩, by omega, by omega⟩) (by rw [q14.2.1 52 (by omega), T4, X2, fl]) (by rw [q14.2.1 52 (by omega), N4]) e14))
  · exfalso; omega
