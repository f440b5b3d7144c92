/-! ### a text is begun, a table is read -/
theorem rLx_bg {μ m m' : zM} (h85 : m.1 85 = μ.1 85) (h30 : m.1 66 ((30 : Nat) : Int) = μ.1 66 ((29 : Nat) : Int)) (h31 : m.1 66 ((31 : Nat) : Int) = 0) (hb : 0 ≤ μ.1 66 ((29 : Nat) : Int) ∧ μ.1 66 ((29 : Nat) : Int) ≤ 800) (g85 : m'.1 85 = m.1 85) (g30 : m'.1 66 ((30 : Nat) : Int) = m.1 66 ((30 : Nat) : Int)) (hl : m'.1 66 ((32 : Nat) : Int) = rtk (ykd ((m.1 85, m.1 66 ((30 : Nat) : Int)) : yT) (m.1 66 ((31 : Nat) : Int))) ∧ m'.1 66 ((33 : Nat) : Int) = ypl ((m.1 85, m.1 66 ((30 : Nat) : Int)) : yT) (m.1 66 ((31 : Nat) : Int)) ∧ m'.1 66 ((34 : Nat) : Int) = ysz ((m.1 85, m.1 66 ((30 : Nat) : Int)) : yT) (m.1 66 ((31 : Nat) : Int)) ∧ m'.1 66 ((31 : Nat) : Int) = ynx ((m.1 85, m.1 66 ((30 : Nat) : Int)) : yT) (m.1 66 ((31 : Nat) : Int))) : rLx m' ((μ.1 85, μ.1 66 ((29 : Nat) : Int)) : yT) 0 := by
  rw [h85, h30, h31] at hl
  exact ⟨⟨g85.trans h85, g30.trans h30⟩, ⟨Int.le_refl _, hb.1, hb.2⟩, hl⟩
theorem rRd_0 {m : zM} {lo : Int} (h : zDS m lo 1) (h38 : m.1 66 ((38 : Nat) : Int) = 0) (h35 : m.1 66 ((35 : Nat) : Int) = 0) (h75 : m.1 3000075 21 = 4288121) : rNu m yB0 ∧ rAb m yB0 1 lo := by
  obtain ⟨⟨a24, a25, a26, -, -, a27, b27, -, -, l0, -, a79⟩, -, ⟨tc, -, t77⟩, -⟩ := h
  obtain ⟨c0, r0⟩ := tc 0 (by decide) (by decide)
  have e27 : m.1 66 ((27 : Nat) : Int) = 0 := by omega
  have c1 := c0.1
  unfold zXf zXn at c1
  rw [show (21 + 0 : Int) = 21 by decide] at c1
  refine ⟨⟨⟨a24, a25, a26, e27, h38, h35⟩, fun k k0 k1 => ?_, fun p p0 p1 => ?_⟩, fun e d e0 e1 d0 d1 => ?_⟩
  · have hk : k = 0 := by have : k < 1 := k1; omega
    subst hk
    rw [show (21 + 0 : Int) = 21 by decide]
    exact ⟨h75, show m.1 76 21 = 0 by omega, t77, a79⟩
  · exfalso
    have : p < 0 := p1
    omega
  · have he : e = 0 := by omega
    subst he
    by_cases q : d = 0
    · subst q
      rcases r0.1 0 d0 d1 with w | w
      · exfalso; have := r0.2.2.2; omega
      · refine Or.inr ⟨[0], rfl, w.1.1, rE_leaf (Or.inl ⟨w.1.2.1, w.1.2.2.1, by decide, by decide⟩) ?_⟩
        rw [w.1.2.2.2.2.1]
        exact t77
    · refine Or.inl ⟨?_, ?_⟩
      · rcases r0.1 d d0 d1 with w | w
        · omega
        · exfalso; have := w.1.2.2.2.1; omega
      · show (if (2 : Nat) = 2 ∧ (0 : Int) = 0 ∧ d = 0 then [[0]] else []) = []
        rw [if_neg (by omega)]
/-! ### what is compared of a table: the reference -/
def rOv (μ : zM) (k d : Int) : Prop := k = d ∨ d = 0 ∨ (d < k ∧ 0 ≤ μ.1 80 (21 * k + d))
def rSg (μ : zM) (B : yB) : Prop := μ.1 66 ((20 : Nat) : Int) = B.1 0 0 ∧ ∀ k d : Int, 0 ≤ k → k < B.1 0 0 → 0 ≤ d → d ≤ 20 → (rOv μ k d ↔ B.2 2 k d ≠ [])
theorem rXa_f {μ m : zM} {c d : Int} (h : m.1 80 = μ.1 80) : zXa m c d = zXa μ c d := by unfold zXa; rw [h]
theorem rOt80 {μ m : zM} (h : zOt μ m) : ∀ q : Int, q < 441 → m.1 80 q = μ.1 80 q := by
  unfold zOt at h
  intro q hq
  first | exact h.2.2.2.2.1 q hq | exact h.2.2.1 q hq | exact h.2.2.2.1 q hq | exact h.1 80 q (by decide) hq | omega
theorem rSg_c {m0 m1 : zM} {B : yB} {lo n : Int} (hD : zDS m0 lo n) (hN : rNu m0 B) (hA : rAb m0 B (B.1 0 0) lo) (h20 : m1.1 66 ((20 : Nat) : Int) = m0.1 66 ((26 : Nat) : Int)) (hs : ∀ c d : Int, 0 ≤ c → c < n → 0 ≤ d → d ≤ 20 → (m1.1 80 (21 * c + d) < 0 ↔ zXa m0 c d < 0)) : rSg m1 B := by
  have n0 := hN.1.2.2.1
  have nn : n = B.1 0 0 := hD.1.2.2.1.symm.trans n0
  refine ⟨h20.trans n0, fun k d k0 k1 d0 d1 => ?_⟩
  have r := (hD.2.2.1.1 k k0 (by omega)).2
  have s := hs k d k0 (by omega) d0 d1
  have ne : (0 ≤ zXa m0 k d) ↔ B.2 2 k d ≠ [] := by
    rcases hA k d k0 k1 d0 d1 with w | ⟨l, w1, w2, w3⟩
    · exact ⟨fun h => by omega, fun h => absurd w.2 h⟩
    · have l0 := hD.1.2.2.2.2.2.2.2.2.2.1
      exact ⟨fun _ => by rw [w1]; simp, fun _ => by omega⟩
  rw [← ne]
  unfold rOv
  constructor
  · rintro (q | q | q)
    · rw [← q]; exact r.2.1
    · rw [q]; exact r.2.2.2
    · omega
  · intro h
    rcases r.1 d d0 d1 with w | w
    · omega
    · have := w.1.2.2.2.1
      by_cases q : k = d
      · exact Or.inl q
      · exact Or.inr (Or.inr ⟨by omega, by omega⟩)
def yk_X9_begin : zC := fun As μ Q => As = [.inr (.inr (66, 66))] ∧ (∀ (μ' : zM), zfx [] [29, 30, 31, 32, 33, 34, 35, 38] μ μ' → (0 ≤ μ'.1 66 ((33 : Nat) : Int) ∧ 0 ≤ μ'.1 66 ((34 : Nat) : Int) ∧ μ'.1 66 ((33 : Nat) : Int) + μ'.1 66 ((34 : Nat) : Int) ≤ μ'.1 66 ((31 : Nat) : Int) ∧ μ'.1 66 ((31 : Nat) : Int) ≤ μ'.1 66 ((30 : Nat) : Int) ∧ μ'.1 66 ((30 : Nat) : Int) ≤ 800) → (μ'.1 66 ((38 : Nat) : Int) = 0 ∧ μ'.1 66 ((29 : Nat) : Int) = 0) → (rLx μ' ((μ.1 85, μ.1 66 ((29 : Nat) : Int)) : yT) 0 ∧ μ'.1 66 ((35 : Nat) : Int) = 0) → Q none μ')
set_option maxHeartbeats 4000000 in
theorem ym_X9_begin {g : zΓ} (hg : zg g) (d : Nat) (hd : 4 ≤ d) : zOk g d 148 yk_X9_begin := by
  obtain ⟨d, rfl⟩ : ∃ d', d = d' + 1 := ⟨d - 1, by omega⟩
  refine zOk_straight hg (show mt_tab[148]? = some mt_X9_begin from rfl) [] 24 rfl fun As μ Q hC => ?_
  obtain ⟨rfl, hQ⟩ := hC
  obtain ⟨g1, wg1⟩ : ∃ z : Int, μ.1 66 ((31 : Nat) : Int) = z := ⟨_, rfl⟩
  obtain ⟨g2, wg2⟩ : ∃ z : Int, μ.1 66 ((30 : Nat) : Int) = z := ⟨_, rfl⟩
  obtain ⟨g3, wg3⟩ : ∃ z : Int, μ.1 66 ((33 : Nat) : Int) = z := ⟨_, rfl⟩
  obtain ⟨g4, wg4⟩ : ∃ z : Int, μ.1 66 ((34 : Nat) : Int) = z := ⟨_, rfl⟩
  obtain ⟨g5, wg5⟩ : ∃ z : Int, μ.1 66 ((32 : Nat) : Int) = z := ⟨_, rfl⟩
  obtain ⟨g6, wg6⟩ : ∃ z : Int, μ.1 66 ((38 : Nat) : Int) = z := ⟨_, rfl⟩
  obtain ⟨g7, wg7⟩ : ∃ z : Int, μ.1 66 ((29 : Nat) : Int) = z := ⟨_, rfl⟩
  refine ⟨rfl, ?_⟩
  have z0 : zfx [] [29, 30, 31, 32, 33, 34, 35, 38] μ μ := zfx_x μ
  intro x8 hx8 kx8 lx8
  rw [wg7] at hx8
  refine And.intro ⟨by omega, by omega⟩ ?_
  intro m9 em9
  have z10 := zfx_f z0 em9 rfl
  have w11 : m9.1 66 ((31 : Nat) : Int) = g1 := by rw [em9]; exact (zu_nk (by decide)).trans wg1
  have w12 : m9.1 66 ((30 : Nat) : Int) = x8 := by rw [em9]; exact zu_at
  have w13 : m9.1 66 ((33 : Nat) : Int) = g3 := by rw [em9]; exact (zu_nk (by decide)).trans wg3
  have w14 : m9.1 66 ((34 : Nat) : Int) = g4 := by rw [em9]; exact (zu_nk (by decide)).trans wg4
  have w15 : m9.1 66 ((32 : Nat) : Int) = g5 := by rw [em9]; exact (zu_nk (by decide)).trans wg5
  have w16 : m9.1 66 ((38 : Nat) : Int) = g6 := by rw [em9]; exact (zu_nk (by decide)).trans wg6
  have w17 : m9.1 66 ((29 : Nat) : Int) = g7 := by rw [em9]; exact (zu_nk (by decide)).trans wg7
  refine And.intro ⟨by omega, by omega⟩ ?_
  intro m18 em18
  have z19 := zfx_f z10 em18 rfl
  have w20 : m18.1 66 ((31 : Nat) : Int) = g1 := by rw [em18]; exact (zu_nk (by decide)).trans w11
  have w21 : m18.1 66 ((30 : Nat) : Int) = x8 := by rw [em18]; exact (zu_nk (by decide)).trans w12
  have w22 : m18.1 66 ((33 : Nat) : Int) = g3 := by rw [em18]; exact (zu_nk (by decide)).trans w13
  have w23 : m18.1 66 ((34 : Nat) : Int) = g4 := by rw [em18]; exact (zu_nk (by decide)).trans w14
  have w24 : m18.1 66 ((32 : Nat) : Int) = g5 := by rw [em18]; exact (zu_nk (by decide)).trans w15
  have w25 : m18.1 66 ((38 : Nat) : Int) = g6 := by rw [em18]; exact (zu_nk (by decide)).trans w16
  have w26 : m18.1 66 ((29 : Nat) : Int) = 0 := by rw [em18]; exact zu_at
  clear w11 w12 w13 w14 w15 w16 w17
  refine And.intro ⟨by omega, by omega⟩ ?_
  intro m27 em27
  have z28 := zfx_f z19 em27 rfl
  have w29 : m27.1 66 ((31 : Nat) : Int) = 0 := by rw [em27]; exact zu_at
  have w30 : m27.1 66 ((30 : Nat) : Int) = x8 := by rw [em27]; exact (zu_nk (by decide)).trans w21
  have w31 : m27.1 66 ((33 : Nat) : Int) = g3 := by rw [em27]; exact (zu_nk (by decide)).trans w22
  have w32 : m27.1 66 ((34 : Nat) : Int) = g4 := by rw [em27]; exact (zu_nk (by decide)).trans w23
  have w33 : m27.1 66 ((32 : Nat) : Int) = g5 := by rw [em27]; exact (zu_nk (by decide)).trans w24
  have w34 : m27.1 66 ((38 : Nat) : Int) = g6 := by rw [em27]; exact (zu_nk (by decide)).trans w25
  have w35 : m27.1 66 ((29 : Nat) : Int) = 0 := by rw [em27]; exact (zu_nk (by decide)).trans w26
  clear w20 w21 w22 w23 w24 w25 w26
  refine And.intro ⟨by omega, by omega⟩ ?_
  intro m36 em36
  have z37 := zfx_f z28 em36 rfl
  have w38 : m36.1 66 ((31 : Nat) : Int) = 0 := by rw [em36]; exact (zu_nk (by decide)).trans w29
  have w39 : m36.1 66 ((30 : Nat) : Int) = x8 := by rw [em36]; exact (zu_nk (by decide)).trans w30
  have w40 : m36.1 66 ((33 : Nat) : Int) = g3 := by rw [em36]; exact (zu_nk (by decide)).trans w31
  have w41 : m36.1 66 ((34 : Nat) : Int) = g4 := by rw [em36]; exact (zu_nk (by decide)).trans w32
  have w42 : m36.1 66 ((32 : Nat) : Int) = g5 := by rw [em36]; exact (zu_nk (by decide)).trans w33
  have w43 : m36.1 66 ((38 : Nat) : Int) = g6 := by rw [em36]; exact (zu_nk (by decide)).trans w34
  have w44 : m36.1 66 ((29 : Nat) : Int) = 0 := by rw [em36]; exact (zu_nk (by decide)).trans w35
  clear w29 w30 w31 w32 w33 w34 w35
  refine And.intro ⟨by omega, by omega⟩ ?_
  intro m45 em45
  have z46 := zfx_f z37 em45 rfl
  have w47 : m45.1 66 ((31 : Nat) : Int) = 0 := by rw [em45]; exact (zu_nk (by decide)).trans w38
  have w48 : m45.1 66 ((30 : Nat) : Int) = x8 := by rw [em45]; exact (zu_nk (by decide)).trans w39
  have w49 : m45.1 66 ((33 : Nat) : Int) = g3 := by rw [em45]; exact (zu_nk (by decide)).trans w40
  have w50 : m45.1 66 ((34 : Nat) : Int) = g4 := by rw [em45]; exact (zu_nk (by decide)).trans w41
  have w51 : m45.1 66 ((32 : Nat) : Int) = g5 := by rw [em45]; exact (zu_nk (by decide)).trans w42
  have w52 : m45.1 66 ((38 : Nat) : Int) = 0 := by rw [em45]; exact zu_at
  have w53 : m45.1 66 ((29 : Nat) : Int) = 0 := by rw [em45]; exact (zu_nk (by decide)).trans w44
  clear w38 w39 w40 w41 w42 w43 w44
  refine ⟨yk_X9_pass, ym_X9_pass hg d (by omega), rfl, (by (try rw [w47]) <;> (try rw [w48]) <;> (try rw [w49]) <;> (try rw [w50]) <;> (try rw [w51]) <;> (try rw [w52]) <;> (try rw [w53]) <;> (try rw [wg1]) <;> (try rw [wg2]) <;> (try rw [wg3]) <;> (try rw [wg4]) <;> (try rw [wg5]) <;> (try rw [wg6]) <;> (try rw [wg7]) <;> omega), ?_⟩
  intro m54 qm54 p55 p56 p57 p58 p59
  have z60 := zfx_t z46 qm54 rfl rfl
  have w61 : m54.1 66 ((30 : Nat) : Int) = x8 := (qm54.2.1 30 rfl).trans w48
  have w62 : m54.1 66 ((38 : Nat) : Int) = 0 := (qm54.2.1 38 rfl).trans w52
  have w63 : m54.1 66 ((29 : Nat) : Int) = 0 := (qm54.2.1 29 rfl).trans w53
  obtain ⟨g64, wg64⟩ : ∃ z : Int, m54.1 66 ((31 : Nat) : Int) = z := ⟨_, rfl⟩
  obtain ⟨g65, wg65⟩ : ∃ z : Int, m54.1 66 ((33 : Nat) : Int) = z := ⟨_, rfl⟩
  obtain ⟨g66, wg66⟩ : ∃ z : Int, m54.1 66 ((34 : Nat) : Int) = z := ⟨_, rfl⟩
  obtain ⟨g67, wg67⟩ : ∃ z : Int, m54.1 66 ((32 : Nat) : Int) = z := ⟨_, rfl⟩
  try rw [wg64] at p55
  try rw [w61] at p55
  try rw [wg65] at p55
  try rw [wg66] at p55
  try rw [wg67] at p55
  try rw [w62] at p55
  try rw [w63] at p55
  try rw [w47] at p55
  try rw [w48] at p55
  try rw [w49] at p55
  try rw [w50] at p55
  try rw [w51] at p55
  try rw [w52] at p55
  try rw [w53] at p55
  try rw [wg1] at p55
  try rw [wg2] at p55
  try rw [wg3] at p55
  try rw [wg4] at p55
  try rw [wg5] at p55
  try rw [wg6] at p55
  try rw [wg7] at p55
  try rw [wg64] at p56
  try rw [w61] at p56
  try rw [wg65] at p56
  try rw [wg66] at p56
  try rw [wg67] at p56
  try rw [w62] at p56
  try rw [w63] at p56
  try rw [w47] at p56
  try rw [w48] at p56
  try rw [w49] at p56
  try rw [w50] at p56
  try rw [w51] at p56
  try rw [w52] at p56
  try rw [w53] at p56
  try rw [wg1] at p56
  try rw [wg2] at p56
  try rw [wg3] at p56
  try rw [wg4] at p56
  try rw [wg5] at p56
  try rw [wg6] at p56
  try rw [wg7] at p56
  try rw [wg64] at p57
  try rw [w61] at p57
  try rw [wg65] at p57
  try rw [wg66] at p57
  try rw [wg67] at p57
  try rw [w62] at p57
  try rw [w63] at p57
  try rw [w47] at p57
  try rw [w48] at p57
  try rw [w49] at p57
  try rw [w50] at p57
  try rw [w51] at p57
  try rw [w52] at p57
  try rw [w53] at p57
  try rw [wg1] at p57
  try rw [wg2] at p57
  try rw [wg3] at p57
  try rw [wg4] at p57
  try rw [wg5] at p57
  try rw [wg6] at p57
  try rw [wg7] at p57
  try rw [wg64] at p58
  try rw [w61] at p58
  try rw [wg65] at p58
  try rw [wg66] at p58
  try rw [wg67] at p58
  try rw [w62] at p58
  try rw [w63] at p58
  try rw [w47] at p58
  try rw [w48] at p58
  try rw [w49] at p58
  try rw [w50] at p58
  try rw [w51] at p58
  try rw [w52] at p58
  try rw [w53] at p58
  try rw [wg1] at p58
  try rw [wg2] at p58
  try rw [wg3] at p58
  try rw [wg4] at p58
  try rw [wg5] at p58
  try rw [wg6] at p58
  try rw [wg7] at p58
  clear w47 w48 w49 w50 w51 w52 w53
  exact And.intro rfl (hQ _ z60 (by (try rw [wg64]) <;> (try rw [w61]) <;> (try rw [wg65]) <;> (try rw [wg66]) <;> (try rw [wg67]) <;> (try rw [w62]) <;> (try rw [w63]) <;> (try rw [wg1]) <;> (try rw [wg2]) <;> (try rw [wg3]) <;> (try rw [wg4]) <;> (try rw [wg5]) <;> (try rw [wg6]) <;> (try rw [wg7]) <;> omega) (by (try rw [wg64]) <;> (try rw [w61]) <;> (try rw [wg65]) <;> (try rw [wg66]) <;> (try rw [wg67]) <;> (try rw [w62]) <;> (try rw [w63]) <;> (try rw [wg1]) <;> (try rw [wg2]) <;> (try rw [wg3]) <;> (try rw [wg4]) <;> (try rw [wg5]) <;> (try rw [wg6]) <;> (try rw [wg7]) <;> omega) ⟨rLx_bg (by rw [em45, zu_ne (by decide), em36, zu_ne (by decide), em27, zu_ne (by decide), em18, zu_ne (by decide), em9, zu_ne (by decide)]) (by rw [em45, zu_nk (by decide), em36, zu_nk (by decide), em27, zu_nk (by decide), em18, zu_nk (by decide), em9, zu_at, hx8]; exact wg7.symm) (by rw [em45, zu_nk (by decide), em36, zu_nk (by decide), em27, zu_at]) ⟨by rw [wg7]; omega, by rw [wg7]; omega⟩ (qm54.1 85 (by decide) rfl) (qm54.2.1 30 rfl) p59, by rw [qm54.2.1 35 rfl, em45, zu_nk (by decide), em36, zu_at]⟩)
def yk_X9_commit : zC := fun As μ Q => ∃ (a1 : Int) (C : Int) (K : Int), As = [.inr (.inr (66, 66)), .inl a1] ∧ (1 ≤ a1 ∧ a1 ≤ 20000) ∧ (zDS μ a1 C) ∧ (1 ≤ a1) ∧ (μ.1 66 ((60 : Nat) : Int) ≤ 1999000000 ∧ (∀ x : Int, 0 ≤ x → x < 20000 → μ.1 105 x ≤ μ.1 66 ((68 : Nat) : Int)) ∧ 0 ≤ μ.1 66 ((68 : Nat) : Int) ∧ μ.1 66 ((68 : Nat) : Int) ≤ 1999000000) ∧ (μ.1 66 ((60 : Nat) : Int) + 300000 ≤ K ∧ μ.1 66 ((68 : Nat) : Int) + 300 ≤ K ∧ K ≤ 1999990000) ∧ (∀ (μ' : zM), zfx [67, 68, 69, 70, 71, 72, 73, 74, 76, 77, 78, 79, 80, 82, 83, 84, 86, 87, 98, 99, 105, 106, 3000075, 3000081] [7, 8, 20, 21, 22, 23, 41, 45, 46, 47, 48, 60, 68] μ μ' → (zRI μ' K) → (μ'.1 66 ((20 : Nat) : Int) = μ.1 66 ((26 : Nat) : Int)) → (∀ c d : Int, 0 ≤ c → c < C → 0 ≤ d → d ≤ 20 → (μ'.1 80 (21 * c + d) < 0 ↔ zXa μ c d < 0)) → ((∀ c : Int, 0 ≤ c → c < C → μ'.1 76 c = μ.1 76 (21 + c) ∧ μ'.1 77 c = μ.1 77 (21 + c) ∧ μ'.1 79 c = μ.1 79 (21 + c)) ∧ rNm μ μ' C ∧ rPm μ μ' (μ.1 66 ((27 : Nat) : Int))) → (μ'.1 66 ((21 : Nat) : Int) = μ.1 66 ((27 : Nat) : Int)) → (zMv μ μ' a1 C (μ.1 66 ((27 : Nat) : Int))) → (fG μ' μ' (fT μ' (μ'.1 66 ((20 : Nat) : Int)) 0 (μ'.1 66 ((21 : Nat) : Int)) 0)) → Q none μ')
set_option maxHeartbeats 4000000 in
theorem ym_X9_commit {g : zΓ} (hg : zg g) (d : Nat) (hd : 4 ≤ d) : zOk g d 151 yk_X9_commit := by
  obtain ⟨d, rfl⟩ : ∃ d', d = d' + 1 := ⟨d - 1, by omega⟩
  refine zOk_loop hg (show mt_tab[151]? = some mt_X9_commit from rfl) ([(9, [0, 1, 2, 3]), (73, [0, 1, 2, 3, 4]), (148, [0, 1, 2, 3]), (219, [0, 1, 2, 3, 4]), (266, [0, 1, 2, 3, 4]), (319, [0, 1, 2, 3]), (375, [0, 1, 2, 3, 4])], []) 285 rfl fun As μ Q hC => ?_
  obtain ⟨a1, C, K, rfl, ha1, hp0, hp1, hp2, hp3, hQ⟩ := hC
  have DD := hp0.1
  have nd0 := hp0.2.1.1.2.1
  have TT0 : zTop μ = μ.1 66 ((8 : Nat) : Int) := rfl
  have TT1 := hp0.2.1.1.1
  have TT2 : zTop μ ≤ 20000 := by have h1 := hp0.2.2.2.2.1; split at h1 <;> omega
  have H69 : ∀ x : Int, ∀ y : Int, 0 ≤ y → y < x → x ≤ zTop μ - a1 → μ.1 69 (a1 + y) ≤ 4 := fun x y p q r => (nd0 (a1 + y) (by omega) (by omega)).1.2
  have H79 : ∀ q : Int, 0 ≤ q → q < C → μ.1 79 (21 + q) ≤ 4 := fun q p r => (hp0.2.2.1.1 q p r).1.1.2.2.2.2.2
  have H84 : ∀ c : Int, 0 ≤ c → c < μ.1 66 ((27 : Nat) : Int) → μ.1 84 (80 + c) ≤ 2 := fun c p q => (hp0.2.2.1.2.1 c p q).1
  obtain ⟨g1, wg1⟩ : ∃ z : Int, μ.1 66 ((20 : Nat) : Int) = z := ⟨_, rfl⟩
  obtain ⟨g2, wg2⟩ : ∃ z : Int, μ.1 66 ((21 : Nat) : Int) = z := ⟨_, rfl⟩
  obtain ⟨g3, wg3⟩ : ∃ z : Int, μ.1 66 ((8 : Nat) : Int) = z := ⟨_, rfl⟩
  obtain ⟨g4, wg4⟩ : ∃ z : Int, μ.1 66 ((26 : Nat) : Int) = z := ⟨_, rfl⟩
  obtain ⟨g5, wg5⟩ : ∃ z : Int, μ.1 66 ((27 : Nat) : Int) = z := ⟨_, rfl⟩
  have z0 : zfx [67, 68, 69, 70, 71, 72, 73, 74, 76, 77, 78, 79, 80, 82, 83, 84, 86, 87, 98, 99, 105, 106, 3000075, 3000081] [7, 8, 20, 21, 22, 23, 41, 45, 46, 47, 48, 60, 68] μ μ := zfx_x μ
  refine ⟨rfl, fun pc vs μ' n => (pc = 9 → ∃ (v1 : Int) (v2 : Int) (v3 : Int), vs = [.inr (.inr (66, 66)), .inl v1, .inl v2, .inl v3] ∧ zfx [67, 68, 69, 70, 71, 72, 73, 74, 76, 77, 78, 79, 80, 82, 83, 84, 86, 87, 98, 99, 105, 106, 3000075, 3000081] [7, 8, 20, 21, 22, 23, 41, 45, 46, 47, 48, 60, 68] μ μ' ∧ (1 ≤ v1 ∧ v1 ≤ 20000) ∧ (0 ≤ v2 ∧ v2 ≤ 20000) ∧ (0 ≤ v3 ∧ v3 ≤ 20000) ∧ (v1 = a1 ∧ v2 = zTop μ - a1) ∧ (zK1 μ μ' a1 v3) ∧ (v3 ≤ v2) ∧ n = (Int.toNat ((30000 - v3) * 10 + 9 + 9 * 4294967296))) ∧ (pc = 73 → ∃ (v1 : Int) (v2 : Int) (v3 : Int) (v4 : Int), vs = [.inr (.inr (66, 66)), .inl v1, .inl v2, .inl v3, .inl v4] ∧ zfx [67, 68, 69, 70, 71, 72, 73, 74, 76, 77, 78, 79, 80, 82, 83, 84, 86, 87, 98, 99, 105, 106, 3000075, 3000081] [7, 8, 20, 21, 22, 23, 41, 45, 46, 47, 48, 60, 68] μ μ' ∧ (1 ≤ v1 ∧ v1 ≤ 20000) ∧ (0 ≤ v2 ∧ v2 ≤ 20000) ∧ (0 ≤ v3 ∧ v3 ≤ 19999) ∧ (0 ≤ v4 ∧ v4 ≤ 4) ∧ (v1 = a1 ∧ v2 = zTop μ - a1) ∧ (zK2 μ μ' a1 v3 v4) ∧ (v3 < v2) ∧ (v4 ≤ μ.1 69 (a1 + v3)) ∧ n = (Int.toNat ((30000 - v3) * 10 + 4 - v4 + 9 * 4294967296))) ∧ (pc = 148 → ∃ (v1 : Int) (v2 : Int) (v3 : Int), vs = [.inr (.inr (66, 66)), .inl v1, .inl v2, .inl v3] ∧ zfx [67, 68, 69, 70, 71, 72, 73, 74, 76, 77, 78, 79, 80, 82, 83, 84, 86, 87, 98, 99, 105, 106, 3000075, 3000081] [7, 8, 20, 21, 22, 23, 41, 45, 46, 47, 48, 60, 68] μ μ' ∧ (1 ≤ v1 ∧ v1 ≤ 20000) ∧ (0 ≤ v2 ∧ v2 ≤ 20000) ∧ (0 ≤ v3 ∧ v3 ≤ 21) ∧ (v1 = a1 ∧ v2 = zTop μ - a1) ∧ (zKK μ μ' a1 v2 v3 0) ∧ (v3 ≤ C) ∧ (rNm μ μ' (v3) ∧ rPm μ μ' (0)) ∧ n = (Int.toNat ((30 - v3) * 1000 + 999 + 8 * 4294967296))) ∧ (pc = 219 → ∃ (v1 : Int) (v2 : Int) (v3 : Int) (v4 : Int), vs = [.inr (.inr (66, 66)), .inl v1, .inl v2, .inl v3, .inl v4] ∧ zfx [67, 68, 69, 70, 71, 72, 73, 74, 76, 77, 78, 79, 80, 82, 83, 84, 86, 87, 98, 99, 105, 106, 3000075, 3000081] [7, 8, 20, 21, 22, 23, 41, 45, 46, 47, 48, 60, 68] μ μ' ∧ (1 ≤ v1 ∧ v1 ≤ 20000) ∧ (0 ≤ v2 ∧ v2 ≤ 20000) ∧ (0 ≤ v3 ∧ v3 ≤ 20) ∧ (0 ≤ v4 ∧ v4 ≤ 4) ∧ (v1 = a1 ∧ v2 = zTop μ - a1) ∧ (zKK μ μ' a1 v2 v3 0) ∧ (zKc μ μ' a1 v3 v4 0) ∧ (v3 < C) ∧ (v4 ≤ μ.1 79 (21 + v3)) ∧ (rNm μ μ' (v3 + 1) ∧ rPm μ μ' (0)) ∧ n = (Int.toNat ((30 - v3) * 1000 + 500 - v4 + 8 * 4294967296))) ∧ (pc = 266 → ∃ (v1 : Int) (v2 : Int) (v3 : Int) (v4 : Int), vs = [.inr (.inr (66, 66)), .inl v1, .inl v2, .inl v3, .inl v4] ∧ zfx [67, 68, 69, 70, 71, 72, 73, 74, 76, 77, 78, 79, 80, 82, 83, 84, 86, 87, 98, 99, 105, 106, 3000075, 3000081] [7, 8, 20, 21, 22, 23, 41, 45, 46, 47, 48, 60, 68] μ μ' ∧ (1 ≤ v1 ∧ v1 ≤ 20000) ∧ (0 ≤ v2 ∧ v2 ≤ 20000) ∧ (0 ≤ v3 ∧ v3 ≤ 20) ∧ (0 ≤ v4 ∧ v4 ≤ 21) ∧ (v1 = a1 ∧ v2 = zTop μ - a1) ∧ (zKK μ μ' a1 v2 v3 0) ∧ (zKc μ μ' a1 v3 (μ.1 79 (21 + v3)) v4) ∧ (v3 < C) ∧ (rNm μ μ' (v3 + 1) ∧ rPm μ μ' (0)) ∧ n = (Int.toNat ((30 - v3) * 1000 + 100 - v4 + 8 * 4294967296))) ∧ (pc = 319 → ∃ (v1 : Int) (v2 : Int) (v3 : Int), vs = [.inr (.inr (66, 66)), .inl v1, .inl v2, .inl v3] ∧ zfx [67, 68, 69, 70, 71, 72, 73, 74, 76, 77, 78, 79, 80, 82, 83, 84, 86, 87, 98, 99, 105, 106, 3000075, 3000081] [7, 8, 20, 21, 22, 23, 41, 45, 46, 47, 48, 60, 68] μ μ' ∧ (1 ≤ v1 ∧ v1 ≤ 20000) ∧ (0 ≤ v2 ∧ v2 ≤ 20000) ∧ (0 ≤ v3 ∧ v3 ≤ 80) ∧ (v1 = a1 ∧ v2 = zTop μ - a1) ∧ (zKK μ μ' a1 v2 C v3) ∧ (v3 ≤ μ.1 66 ((27 : Nat) : Int)) ∧ (rNm μ μ' (C) ∧ rPm μ μ' (v3)) ∧ n = (Int.toNat ((100 - v3) * 1000 + 999 + 7 * 4294967296))) ∧ (pc = 375 → ∃ (v1 : Int) (v2 : Int) (v3 : Int) (v4 : Int), vs = [.inr (.inr (66, 66)), .inl v1, .inl v2, .inl v3, .inl v4] ∧ zfx [67, 68, 69, 70, 71, 72, 73, 74, 76, 77, 78, 79, 80, 82, 83, 84, 86, 87, 98, 99, 105, 106, 3000075, 3000081] [7, 8, 20, 21, 22, 23, 41, 45, 46, 47, 48, 60, 68] μ μ' ∧ (1 ≤ v1 ∧ v1 ≤ 20000) ∧ (0 ≤ v2 ∧ v2 ≤ 20000) ∧ (0 ≤ v3 ∧ v3 ≤ 79) ∧ (0 ≤ v4 ∧ v4 ≤ 2) ∧ (v1 = a1 ∧ v2 = zTop μ - a1) ∧ (zKK μ μ' a1 v2 C v3) ∧ (zKp μ μ' a1 v3 v4) ∧ (v3 < μ.1 66 ((27 : Nat) : Int)) ∧ (v4 ≤ μ.1 84 (80 + v3)) ∧ (rNm μ μ' (C) ∧ rPm μ μ' (v3 + 1)) ∧ n = (Int.toNat ((100 - v3) * 1000 + 500 - v4 + 7 * 4294967296))), ?_, ?_, ?_, ?_, ?_, ?_, ?_, ?_, trivial⟩
  · intro x6 hx6 kx6 lx6
    rw [wg3] at hx6
    refine Exists.intro (Int.toNat ((30000 - 0) * 10 + 9 + 9 * 4294967296)) ?_
    exact ⟨(fun _ => ⟨_, _, _, rfl, z0, ⟨by omega, by omega⟩, ⟨by omega, by omega⟩, ⟨by omega, by omega⟩, ⟨rfl, by omega⟩, (zK1_0 μ a1), (by omega), rfl⟩), (fun h => absurd h (by decide)), (fun h => absurd h (by decide)), (fun h => absurd h (by decide)), (fun h => absurd h (by decide)), (fun h => absurd h (by decide)), (fun h => absurd h (by decide))⟩
  · intro vs m0 n hI
    replace hI := hI.1 rfl
    clear z0
    obtain ⟨v1, v2, v3, rfl, z0, hv1, hv2, hv3, i0, i1, i2, rfl⟩ := hI
    obtain ⟨j1, j2⟩ := i0
    subst j1
    replace H69 := fun y p q => H69 v3 y p q (by omega)
    have E26 : m0.1 66 ((26 : Nat) : Int) = C := by rw [i1.1 66 (by decide)]; exact DD.2.2.1
    have E27 : m0.1 66 ((27 : Nat) : Int) = μ.1 66 ((27 : Nat) : Int) := by rw [i1.1 66 (by decide)]
    obtain ⟨g7, wg7⟩ : ∃ z : Int, m0.1 66 ((20 : Nat) : Int) = z := ⟨_, rfl⟩
    obtain ⟨g8, wg8⟩ : ∃ z : Int, m0.1 66 ((21 : Nat) : Int) = z := ⟨_, rfl⟩
    obtain ⟨g9, wg9⟩ : ∃ z : Int, m0.1 66 ((8 : Nat) : Int) = z := ⟨_, rfl⟩
    obtain ⟨g10, wg10⟩ : ∃ z : Int, m0.1 66 ((26 : Nat) : Int) = z := ⟨_, rfl⟩
    obtain ⟨g11, wg11⟩ : ∃ z : Int, m0.1 66 ((27 : Nat) : Int) = z := ⟨_, rfl⟩
    refine And.intro ⟨⟨by omega, by omega⟩, ⟨by omega, by omega⟩⟩ (And.intro (fun c12 => ?_) (fun c12 => ?_))
    · intro x13 hx13 kx13 lx13
      rw [wg10] at hx13
      refine And.intro ⟨by omega, by omega⟩ ?_
      intro m14 em14
      have z15 := zfx_f z0 em14 rfl
      have w16 : m14.1 66 ((20 : Nat) : Int) = x13 := by rw [em14]; exact zu_at
      have w17 : m14.1 66 ((21 : Nat) : Int) = g8 := by rw [em14]; exact (zu_nk (by decide)).trans wg8
      have w18 : m14.1 66 ((8 : Nat) : Int) = g9 := by rw [em14]; exact (zu_nk (by decide)).trans wg9
      have w19 : m14.1 66 ((26 : Nat) : Int) = g10 := by rw [em14]; exact (zu_nk (by decide)).trans wg10
      have w20 : m14.1 66 ((27 : Nat) : Int) = g11 := by rw [em14]; exact (zu_nk (by decide)).trans wg11
      intro x21 hx21 kx21 lx21
      rw [w20] at hx21
      refine And.intro ⟨by omega, by omega⟩ ?_
      intro m22 em22
      have z23 := zfx_f z15 em22 rfl
      have w24 : m22.1 66 ((20 : Nat) : Int) = x13 := by rw [em22]; exact (zu_nk (by decide)).trans w16
      have w25 : m22.1 66 ((21 : Nat) : Int) = x21 := by rw [em22]; exact zu_at
      have w26 : m22.1 66 ((8 : Nat) : Int) = g9 := by rw [em22]; exact (zu_nk (by decide)).trans w18
      have w27 : m22.1 66 ((26 : Nat) : Int) = g10 := by rw [em22]; exact (zu_nk (by decide)).trans w19
      have w28 : m22.1 66 ((27 : Nat) : Int) = g11 := by rw [em22]; exact (zu_nk (by decide)).trans w20
      intro x29 hx29 kx29 lx29
      refine And.intro ⟨by omega, by omega⟩ ?_
      intro m30 em30
      have z31 := zfx_f z23 em30 rfl
      have w32 : m30.1 66 ((20 : Nat) : Int) = x13 := by rw [em30]; exact (zu_nk (by decide)).trans w24
      have w33 : m30.1 66 ((21 : Nat) : Int) = x21 := by rw [em30]; exact (zu_nk (by decide)).trans w25
      have w34 : m30.1 66 ((8 : Nat) : Int) = g9 := by rw [em30]; exact (zu_nk (by decide)).trans w26
      have w35 : m30.1 66 ((26 : Nat) : Int) = g10 := by rw [em30]; exact (zu_nk (by decide)).trans w27
      have w36 : m30.1 66 ((27 : Nat) : Int) = g11 := by rw [em30]; exact (zu_nk (by decide)).trans w28
      have KK0 := zKK_0 (n := v2) (by rw [show v2 = v3 by omega]; exact i1) em14 (by omega) em22 (by omega) em30
      refine Exists.intro (Int.toNat ((30 - 0) * 1000 + 999 + 8 * 4294967296)) (And.intro (by (try rw [w32]) <;> (try rw [w33]) <;> (try rw [w34]) <;> (try rw [w35]) <;> (try rw [w36]) <;> (try rw [wg7]) <;> (try rw [wg8]) <;> (try rw [wg9]) <;> (try rw [wg10]) <;> (try rw [wg11]) <;> (try rw [wg1]) <;> (try rw [wg2]) <;> (try rw [wg3]) <;> (try rw [wg4]) <;> (try rw [wg5]) <;> omega) ?_)
      exact ⟨(fun h => absurd h (by decide)), (fun h => absurd h (by decide)), (fun _ => ⟨_, _, _, rfl, z31, ⟨by omega, by omega⟩, ⟨by omega, by omega⟩, ⟨by omega, by omega⟩, ⟨rfl, j2⟩, KK0, (by omega), ⟨rNm_0 (by rw [em30, zu_ne (by decide), em22, zu_ne (by decide), em14, zu_ne (by decide)]; exact i1.1 3000075 (Or.inr (by decide))), rPm_0 (by rw [em30, zu_ne (by decide), em22, zu_ne (by decide), em14, zu_ne (by decide)]; exact i1.1 3000081 (Or.inr (by decide))) (by rw [em30, zu_ne (by decide), em22, zu_ne (by decide), em14, zu_ne (by decide)]; exact i1.1 82 (Or.inr (by decide)))⟩, rfl⟩), (fun h => absurd h (by decide)), (fun h => absurd h (by decide)), (fun h => absurd h (by decide)), (fun h => absurd h (by decide))⟩
    · have NX := nd0 (v1 + v3) (by omega) (by omega)
      have WX := hp0.2.1.2.2 (v1 + v3) (by omega) (by omega)
      refine And.intro ⟨by omega, by omega⟩ ?_
      intro x37 hx37 kx37 lx37
      refine And.intro ⟨by omega, by omega⟩ (And.intro ⟨by omega, by omega⟩ ?_)
      intro m38 em38
      have z39 := zfx_r z0 em38 rfl (by decide)
      have w40 : m38.1 66 ((20 : Nat) : Int) = g7 := by rw [em38]; exact (congrFun (zu_ne (by decide)) _).trans wg7
      have w41 : m38.1 66 ((21 : Nat) : Int) = g8 := by rw [em38]; exact (congrFun (zu_ne (by decide)) _).trans wg8
      have w42 : m38.1 66 ((8 : Nat) : Int) = g9 := by rw [em38]; exact (congrFun (zu_ne (by decide)) _).trans wg9
      have w43 : m38.1 66 ((26 : Nat) : Int) = g10 := by rw [em38]; exact (congrFun (zu_ne (by decide)) _).trans wg10
      have w44 : m38.1 66 ((27 : Nat) : Int) = g11 := by rw [em38]; exact (congrFun (zu_ne (by decide)) _).trans wg11
      refine And.intro ⟨by omega, by omega⟩ ?_
      intro x45 hx45 kx45 lx45
      refine And.intro ⟨by omega, by omega⟩ (And.intro ⟨by omega, by omega⟩ ?_)
      intro m46 em46
      have z47 := zfx_r z39 em46 rfl (by decide)
      have w48 : m46.1 66 ((20 : Nat) : Int) = g7 := by rw [em46]; exact (congrFun (zu_ne (by decide)) _).trans w40
      have w49 : m46.1 66 ((21 : Nat) : Int) = g8 := by rw [em46]; exact (congrFun (zu_ne (by decide)) _).trans w41
      have w50 : m46.1 66 ((8 : Nat) : Int) = g9 := by rw [em46]; exact (congrFun (zu_ne (by decide)) _).trans w42
      have w51 : m46.1 66 ((26 : Nat) : Int) = g10 := by rw [em46]; exact (congrFun (zu_ne (by decide)) _).trans w43
      have w52 : m46.1 66 ((27 : Nat) : Int) = g11 := by rw [em46]; exact (congrFun (zu_ne (by decide)) _).trans w44
      refine And.intro ⟨by omega, by omega⟩ ?_
      intro x53 hx53 kx53 lx53
      refine And.intro ⟨by omega, by omega⟩ (And.intro ⟨by omega, by omega⟩ ?_)
      intro m54 em54
      have z55 := zfx_r z47 em54 rfl (by decide)
      have w56 : m54.1 66 ((20 : Nat) : Int) = g7 := by rw [em54]; exact (congrFun (zu_ne (by decide)) _).trans w48
      have w57 : m54.1 66 ((21 : Nat) : Int) = g8 := by rw [em54]; exact (congrFun (zu_ne (by decide)) _).trans w49
      have w58 : m54.1 66 ((8 : Nat) : Int) = g9 := by rw [em54]; exact (congrFun (zu_ne (by decide)) _).trans w50
      have w59 : m54.1 66 ((26 : Nat) : Int) = g10 := by rw [em54]; exact (congrFun (zu_ne (by decide)) _).trans w51
      have w60 : m54.1 66 ((27 : Nat) : Int) = g11 := by rw [em54]; exact (congrFun (zu_ne (by decide)) _).trans w52
      refine And.intro ⟨by omega, by omega⟩ ?_
      intro x61 hx61 kx61 lx61
      refine And.intro ⟨by omega, by omega⟩ (And.intro ⟨by omega, by omega⟩ ?_)
      intro m62 em62
      have z63 := zfx_r z55 em62 rfl (by decide)
      have w64 : m62.1 66 ((20 : Nat) : Int) = g7 := by rw [em62]; exact (congrFun (zu_ne (by decide)) _).trans w56
      have w65 : m62.1 66 ((21 : Nat) : Int) = g8 := by rw [em62]; exact (congrFun (zu_ne (by decide)) _).trans w57
      have w66 : m62.1 66 ((8 : Nat) : Int) = g9 := by rw [em62]; exact (congrFun (zu_ne (by decide)) _).trans w58
      have w67 : m62.1 66 ((26 : Nat) : Int) = g10 := by rw [em62]; exact (congrFun (zu_ne (by decide)) _).trans w59
      have w68 : m62.1 66 ((27 : Nat) : Int) = g11 := by rw [em62]; exact (congrFun (zu_ne (by decide)) _).trans w60
      have R := zK2_0 i1 hp1 H69 em38 em46 em54 em62 hx37 (by rw [hx45, em38, zu_ne (by decide)]) (by rw [hx53, em46, zu_ne (by decide), em38, zu_ne (by decide)]) (by rw [hx61, em54, zu_ne (by decide), em46, zu_ne (by decide), em38, zu_ne (by decide)]) (by omega)
      refine Exists.intro (Int.toNat ((30000 - v3) * 10 + 4 - 0 + 9 * 4294967296)) (And.intro (by (try rw [w64]) <;> (try rw [w65]) <;> (try rw [w66]) <;> (try rw [w67]) <;> (try rw [w68]) <;> (try rw [wg7]) <;> (try rw [wg8]) <;> (try rw [wg9]) <;> (try rw [wg10]) <;> (try rw [wg11]) <;> (try rw [wg1]) <;> (try rw [wg2]) <;> (try rw [wg3]) <;> (try rw [wg4]) <;> (try rw [wg5]) <;> omega) ?_)
      exact ⟨(fun h => absurd h (by decide)), (fun _ => ⟨_, _, _, _, rfl, z63, ⟨by omega, by omega⟩, ⟨by omega, by omega⟩, ⟨by omega, by omega⟩, ⟨by omega, by omega⟩, ⟨rfl, j2⟩, R, (by omega), (by have := NX.1; omega), rfl⟩), (fun h => absurd h (by decide)), (fun h => absurd h (by decide)), (fun h => absurd h (by decide)), (fun h => absurd h (by decide)), (fun h => absurd h (by decide))⟩
  · intro vs m0 n hI
    replace hI := hI.2.1 rfl
    clear z0
    obtain ⟨v1, v2, v3, v4, rfl, z0, hv1, hv2, hv3, hv4, i0, i1, i2, i3, rfl⟩ := hI
    obtain ⟨j1, j2⟩ := i0
    subst j1
    replace H69 := fun y p q => H69 v3 y p q (by omega)
    obtain ⟨g69, wg69⟩ : ∃ z : Int, m0.1 66 ((20 : Nat) : Int) = z := ⟨_, rfl⟩
    obtain ⟨g70, wg70⟩ : ∃ z : Int, m0.1 66 ((21 : Nat) : Int) = z := ⟨_, rfl⟩
    obtain ⟨g71, wg71⟩ : ∃ z : Int, m0.1 66 ((8 : Nat) : Int) = z := ⟨_, rfl⟩
    obtain ⟨g72, wg72⟩ : ∃ z : Int, m0.1 66 ((26 : Nat) : Int) = z := ⟨_, rfl⟩
    obtain ⟨g73, wg73⟩ : ∃ z : Int, m0.1 66 ((27 : Nat) : Int) = z := ⟨_, rfl⟩
    refine And.intro ⟨by omega, by omega⟩ ?_
    intro x74 hx74 kx74 lx74
    have X69 : x74 = μ.1 69 (v1 + v3) := by rw [hx74]; exact i1.2.2.2.2.1.2.2.1
    have NX := nd0 (v1 + v3) (by omega) (by omega)
    have N4 := NX.1
    refine And.intro ⟨⟨by omega, by omega⟩, ⟨by omega, by omega⟩⟩ (And.intro (fun c75 => ?_) (fun c75 => ?_))
    · refine Exists.intro (Int.toNat ((30000 - (v3 + 1)) * 10 + 9 + 9 * 4294967296)) (And.intro (by (try rw [wg69]) <;> (try rw [wg70]) <;> (try rw [wg71]) <;> (try rw [wg72]) <;> (try rw [wg73]) <;> (try rw [wg1]) <;> (try rw [wg2]) <;> (try rw [wg3]) <;> (try rw [wg4]) <;> (try rw [wg5]) <;> omega) ?_)
      exact ⟨(fun _ => ⟨_, _, _, rfl, z0, ⟨by omega, by omega⟩, ⟨by omega, by omega⟩, ⟨by omega, by omega⟩, ⟨rfl, j2⟩, (zK1_n i1 (by omega)), (by omega), rfl⟩), (fun h => absurd h (by decide)), (fun h => absurd h (by decide)), (fun h => absurd h (by decide)), (fun h => absurd h (by decide)), (fun h => absurd h (by decide)), (fun h => absurd h (by decide))⟩
    · refine And.intro ⟨by omega, by omega⟩ ?_
      intro x76 hx76 kx76 lx76
      have X70 : x76 = μ.1 70 (4 * (v1 + v3) + v4) := by rw [hx76]; exact i1.2.2.2.1 _ (by omega)
      have PL := (hp0.2.1.2.2 (v1 + v3) (by omega) (by omega)).1 v4 (by omega) (by omega)
      have PU := NX.2.1 v4 (by omega) (by omega)
      refine And.intro ⟨by omega, by omega⟩ (And.intro ⟨by omega, by omega⟩ ?_)
      intro m77 em77
      have z78 := zfx_r z0 em77 rfl (by decide)
      have w79 : m77.1 66 ((20 : Nat) : Int) = g69 := by rw [em77]; exact (congrFun (zu_ne (by decide)) _).trans wg69
      have w80 : m77.1 66 ((21 : Nat) : Int) = g70 := by rw [em77]; exact (congrFun (zu_ne (by decide)) _).trans wg70
      have w81 : m77.1 66 ((8 : Nat) : Int) = g71 := by rw [em77]; exact (congrFun (zu_ne (by decide)) _).trans wg71
      have w82 : m77.1 66 ((26 : Nat) : Int) = g72 := by rw [em77]; exact (congrFun (zu_ne (by decide)) _).trans wg72
      have w83 : m77.1 66 ((27 : Nat) : Int) = g73 := by rw [em77]; exact (congrFun (zu_ne (by decide)) _).trans wg73
      have R := zK2_s i1 hp1 (by omega) (by omega) H69 em77 (by omega) (show (x76 - v1) = m0.1 70 (4 * (v1 + v3) + v4) - v1 by rw [hx76])
      refine Exists.intro (Int.toNat ((30000 - v3) * 10 + 4 - (v4 + 1) + 9 * 4294967296)) (And.intro (by (try rw [w79]) <;> (try rw [w80]) <;> (try rw [w81]) <;> (try rw [w82]) <;> (try rw [w83]) <;> (try rw [wg69]) <;> (try rw [wg70]) <;> (try rw [wg71]) <;> (try rw [wg72]) <;> (try rw [wg73]) <;> (try rw [wg1]) <;> (try rw [wg2]) <;> (try rw [wg3]) <;> (try rw [wg4]) <;> (try rw [wg5]) <;> omega) ?_)
      exact ⟨(fun h => absurd h (by decide)), (fun _ => ⟨_, _, _, _, rfl, z78, ⟨by omega, by omega⟩, ⟨by omega, by omega⟩, ⟨by omega, by omega⟩, ⟨by omega, by omega⟩, ⟨rfl, j2⟩, R, (by omega), (by omega), rfl⟩), (fun h => absurd h (by decide)), (fun h => absurd h (by decide)), (fun h => absurd h (by decide)), (fun h => absurd h (by decide)), (fun h => absurd h (by decide))⟩
  · intro vs m0 n hI
    replace hI := hI.2.2.1 rfl
    clear z0
    obtain ⟨v1, v2, v3, rfl, z0, hv1, hv2, hv3, i0, i1, i2, i3, rfl⟩ := hI
    obtain ⟨j1, j2⟩ := i0
    subst j1
    replace H79 := fun (q : Int) (p : 0 ≤ q) (r : q < v3) => H79 q p (by omega)
    have E20 := i1.2.1.2.2.1
    obtain ⟨g84, wg84⟩ : ∃ z : Int, m0.1 66 ((20 : Nat) : Int) = z := ⟨_, rfl⟩
    obtain ⟨g85, wg85⟩ : ∃ z : Int, m0.1 66 ((21 : Nat) : Int) = z := ⟨_, rfl⟩
    obtain ⟨g86, wg86⟩ : ∃ z : Int, m0.1 66 ((8 : Nat) : Int) = z := ⟨_, rfl⟩
    obtain ⟨g87, wg87⟩ : ∃ z : Int, m0.1 66 ((26 : Nat) : Int) = z := ⟨_, rfl⟩
    obtain ⟨g88, wg88⟩ : ∃ z : Int, m0.1 66 ((27 : Nat) : Int) = z := ⟨_, rfl⟩
    intro x89 hx89 kx89 lx89
    rw [wg84] at hx89
    refine And.intro ⟨⟨by omega, by omega⟩, ⟨by omega, by omega⟩⟩ (And.intro (fun c90 => ?_) (fun c90 => ?_))
    · refine Exists.intro (Int.toNat ((100 - 0) * 1000 + 999 + 7 * 4294967296)) (And.intro (by (try rw [wg84]) <;> (try rw [wg85]) <;> (try rw [wg86]) <;> (try rw [wg87]) <;> (try rw [wg88]) <;> (try rw [wg1]) <;> (try rw [wg2]) <;> (try rw [wg3]) <;> (try rw [wg4]) <;> (try rw [wg5]) <;> omega) ?_)
      exact ⟨(fun h => absurd h (by decide)), (fun h => absurd h (by decide)), (fun h => absurd h (by decide)), (fun h => absurd h (by decide)), (fun h => absurd h (by decide)), (fun _ => ⟨_, _, _, rfl, z0, ⟨by omega, by omega⟩, ⟨by omega, by omega⟩, ⟨by omega, by omega⟩, ⟨rfl, j2⟩, (by rw [show C = v3 by omega]; exact i1), (by omega), ⟨by rw [show C = v3 by omega]; exact i3.1, i3.2⟩, rfl⟩), (fun h => absurd h (by decide))⟩
    · have TC := (hp0.2.2.1.1 v3 (by omega) (by omega)).1
      have TC1 := TC.1
      refine And.intro ⟨by omega, by omega⟩ ?_
      intro x91 hx91
      refine And.intro ⟨by omega, by omega⟩ ?_
      intro m92 em92
      have z93 := zfx_r z0 em92 rfl (by decide)
      have w94 : m92.1 66 ((20 : Nat) : Int) = g84 := by rw [em92]; exact (congrFun (zu_ne (by decide)) _).trans wg84
      have w95 : m92.1 66 ((21 : Nat) : Int) = g85 := by rw [em92]; exact (congrFun (zu_ne (by decide)) _).trans wg85
      have w96 : m92.1 66 ((8 : Nat) : Int) = g86 := by rw [em92]; exact (congrFun (zu_ne (by decide)) _).trans wg86
      have w97 : m92.1 66 ((26 : Nat) : Int) = g87 := by rw [em92]; exact (congrFun (zu_ne (by decide)) _).trans wg87
      have w98 : m92.1 66 ((27 : Nat) : Int) = g88 := by rw [em92]; exact (congrFun (zu_ne (by decide)) _).trans wg88
      refine And.intro ⟨by omega, by omega⟩ ?_
      intro x99 hx99 kx99 lx99
      refine And.intro ⟨by omega, by omega⟩ (And.intro ⟨by omega, by omega⟩ ?_)
      intro m100 em100
      have z101 := zfx_r z93 em100 rfl (by decide)
      have w102 : m100.1 66 ((20 : Nat) : Int) = g84 := by rw [em100]; exact (congrFun (zu_ne (by decide)) _).trans w94
      have w103 : m100.1 66 ((21 : Nat) : Int) = g85 := by rw [em100]; exact (congrFun (zu_ne (by decide)) _).trans w95
      have w104 : m100.1 66 ((8 : Nat) : Int) = g86 := by rw [em100]; exact (congrFun (zu_ne (by decide)) _).trans w96
      have w105 : m100.1 66 ((26 : Nat) : Int) = g87 := by rw [em100]; exact (congrFun (zu_ne (by decide)) _).trans w97
      have w106 : m100.1 66 ((27 : Nat) : Int) = g88 := by rw [em100]; exact (congrFun (zu_ne (by decide)) _).trans w98
      refine And.intro ⟨by omega, by omega⟩ ?_
      intro x107 hx107 kx107 lx107
      refine And.intro ⟨by omega, by omega⟩ (And.intro ⟨by omega, by omega⟩ ?_)
      intro m108 em108
      have z109 := zfx_r z101 em108 rfl (by decide)
      have w110 : m108.1 66 ((20 : Nat) : Int) = g84 := by rw [em108]; exact (congrFun (zu_ne (by decide)) _).trans w102
      have w111 : m108.1 66 ((21 : Nat) : Int) = g85 := by rw [em108]; exact (congrFun (zu_ne (by decide)) _).trans w103
      have w112 : m108.1 66 ((8 : Nat) : Int) = g86 := by rw [em108]; exact (congrFun (zu_ne (by decide)) _).trans w104
      have w113 : m108.1 66 ((26 : Nat) : Int) = g87 := by rw [em108]; exact (congrFun (zu_ne (by decide)) _).trans w105
      have w114 : m108.1 66 ((27 : Nat) : Int) = g88 := by rw [em108]; exact (congrFun (zu_ne (by decide)) _).trans w106
      refine And.intro ⟨by omega, by omega⟩ ?_
      intro x115 hx115 kx115 lx115
      refine And.intro ⟨by omega, by omega⟩ (And.intro ⟨by omega, by omega⟩ ?_)
      intro m116 em116
      have z117 := zfx_r z109 em116 rfl (by decide)
      have w118 : m116.1 66 ((20 : Nat) : Int) = g84 := by rw [em116]; exact (congrFun (zu_ne (by decide)) _).trans w110
      have w119 : m116.1 66 ((21 : Nat) : Int) = g85 := by rw [em116]; exact (congrFun (zu_ne (by decide)) _).trans w111
      have w120 : m116.1 66 ((8 : Nat) : Int) = g86 := by rw [em116]; exact (congrFun (zu_ne (by decide)) _).trans w112
      have w121 : m116.1 66 ((26 : Nat) : Int) = g87 := by rw [em116]; exact (congrFun (zu_ne (by decide)) _).trans w113
      have w122 : m116.1 66 ((27 : Nat) : Int) = g88 := by rw [em116]; exact (congrFun (zu_ne (by decide)) _).trans w114
      have R := zKc_0 (zKK_L i1 em92 (by decide)) ⟨by omega, by omega⟩ H79 em100 em108 em116 rfl rfl rfl hx99 hx107 hx115
      refine Exists.intro (Int.toNat ((30 - v3) * 1000 + 500 - 0 + 8 * 4294967296)) (And.intro (by (try rw [w118]) <;> (try rw [w119]) <;> (try rw [w120]) <;> (try rw [w121]) <;> (try rw [w122]) <;> (try rw [wg84]) <;> (try rw [wg85]) <;> (try rw [wg86]) <;> (try rw [wg87]) <;> (try rw [wg88]) <;> (try rw [wg1]) <;> (try rw [wg2]) <;> (try rw [wg3]) <;> (try rw [wg4]) <;> (try rw [wg5]) <;> omega) ?_)
      exact ⟨(fun h => absurd h (by decide)), (fun h => absurd h (by decide)), (fun h => absurd h (by decide)), (fun _ => ⟨_, _, _, _, rfl, z117, ⟨by omega, by omega⟩, ⟨by omega, by omega⟩, ⟨by omega, by omega⟩, ⟨by omega, by omega⟩, ⟨rfl, j2⟩, R.1, R.2, (by omega), (by omega), ⟨rNm_s i3.1 em92 hx91 (by omega) (by omega) (by rw [em116, zu_ne (by decide), em108, zu_ne (by decide), em100, zu_ne (by decide)]), rPm_f i3.2 (by rw [em116, zu_ne (by decide), em108, zu_ne (by decide), em100, zu_ne (by decide), em92, zu_ne (by decide)]) (by rw [em116, zu_ne (by decide), em108, zu_ne (by decide), em100, zu_ne (by decide), em92, zu_ne (by decide)])⟩, rfl⟩), (fun h => absurd h (by decide)), (fun h => absurd h (by decide)), (fun h => absurd h (by decide))⟩
  · intro vs m0 n hI
    replace hI := hI.2.2.2.1 rfl
    clear z0
    obtain ⟨v1, v2, v3, v4, rfl, z0, hv1, hv2, hv3, hv4, i0, i1, i2, i3, i4, i5, rfl⟩ := hI
    obtain ⟨j1, j2⟩ := i0
    subst j1
    replace H79 := fun (q : Int) (p : 0 ≤ q) (r : q < v3) => H79 q p (by omega)
    obtain ⟨g123, wg123⟩ : ∃ z : Int, m0.1 66 ((20 : Nat) : Int) = z := ⟨_, rfl⟩
    obtain ⟨g124, wg124⟩ : ∃ z : Int, m0.1 66 ((21 : Nat) : Int) = z := ⟨_, rfl⟩
    obtain ⟨g125, wg125⟩ : ∃ z : Int, m0.1 66 ((8 : Nat) : Int) = z := ⟨_, rfl⟩
    obtain ⟨g126, wg126⟩ : ∃ z : Int, m0.1 66 ((26 : Nat) : Int) = z := ⟨_, rfl⟩
    obtain ⟨g127, wg127⟩ : ∃ z : Int, m0.1 66 ((27 : Nat) : Int) = z := ⟨_, rfl⟩
    refine And.intro ⟨by omega, by omega⟩ ?_
    intro x128 hx128 kx128 lx128
    have X79 : x128 = μ.1 79 (21 + v3) := by rw [hx128]; exact i2.1.2.2
    have TC := (hp0.2.2.1.1 v3 (by omega) (by omega)).1
    have TC1 := TC.1.2.2.2.2
    refine And.intro ⟨⟨by omega, by omega⟩, ⟨by omega, by omega⟩⟩ (And.intro (fun c129 => ?_) (fun c129 => ?_))
    · refine Exists.intro (Int.toNat ((30 - v3) * 1000 + 100 - 0 + 8 * 4294967296)) (And.intro (by (try rw [wg123]) <;> (try rw [wg124]) <;> (try rw [wg125]) <;> (try rw [wg126]) <;> (try rw [wg127]) <;> (try rw [wg1]) <;> (try rw [wg2]) <;> (try rw [wg3]) <;> (try rw [wg4]) <;> (try rw [wg5]) <;> omega) ?_)
      exact ⟨(fun h => absurd h (by decide)), (fun h => absurd h (by decide)), (fun h => absurd h (by decide)), (fun h => absurd h (by decide)), (fun _ => ⟨_, _, _, _, rfl, z0, ⟨by omega, by omega⟩, ⟨by omega, by omega⟩, ⟨by omega, by omega⟩, ⟨by omega, by omega⟩, ⟨rfl, j2⟩, i1, (by rw [show μ.1 79 (21 + v3) = v4 by omega]; exact i2), (by omega), i5, rfl⟩), (fun h => absurd h (by decide)), (fun h => absurd h (by decide))⟩
    · refine And.intro ⟨by omega, by omega⟩ ?_
      intro x130 hx130 kx130 lx130
      have X78 : x130 = zXs μ v3 v4 := by unfold zXs; rw [hx130]; exact i1.2.2.2.2.2.1 _ (by omega)
      have TX := (TC.2 v4 (by omega) (by omega)).1.1
      refine And.intro ⟨by omega, by omega⟩ (And.intro ⟨by omega, by omega⟩ ?_)
      intro m131 em131
      have z132 := zfx_r z0 em131 rfl (by decide)
      have w133 : m131.1 66 ((20 : Nat) : Int) = g123 := by rw [em131]; exact (congrFun (zu_ne (by decide)) _).trans wg123
      have w134 : m131.1 66 ((21 : Nat) : Int) = g124 := by rw [em131]; exact (congrFun (zu_ne (by decide)) _).trans wg124
      have w135 : m131.1 66 ((8 : Nat) : Int) = g125 := by rw [em131]; exact (congrFun (zu_ne (by decide)) _).trans wg125
      have w136 : m131.1 66 ((26 : Nat) : Int) = g126 := by rw [em131]; exact (congrFun (zu_ne (by decide)) _).trans wg126
      have w137 : m131.1 66 ((27 : Nat) : Int) = g127 := by rw [em131]; exact (congrFun (zu_ne (by decide)) _).trans wg127
      have R := zKc_s i1 i2 ⟨by omega, by omega⟩ H79 ⟨by omega, by omega⟩ em131 (by omega) (show (x130 - v1) = m0.1 78 (4 * (21 + v3) + v4) - v1 by rw [hx130])
      refine Exists.intro (Int.toNat ((30 - v3) * 1000 + 500 - (v4 + 1) + 8 * 4294967296)) (And.intro (by (try rw [w133]) <;> (try rw [w134]) <;> (try rw [w135]) <;> (try rw [w136]) <;> (try rw [w137]) <;> (try rw [wg123]) <;> (try rw [wg124]) <;> (try rw [wg125]) <;> (try rw [wg126]) <;> (try rw [wg127]) <;> (try rw [wg1]) <;> (try rw [wg2]) <;> (try rw [wg3]) <;> (try rw [wg4]) <;> (try rw [wg5]) <;> omega) ?_)
      exact ⟨(fun h => absurd h (by decide)), (fun h => absurd h (by decide)), (fun h => absurd h (by decide)), (fun _ => ⟨_, _, _, _, rfl, z132, ⟨by omega, by omega⟩, ⟨by omega, by omega⟩, ⟨by omega, by omega⟩, ⟨by omega, by omega⟩, ⟨rfl, j2⟩, R.1, R.2, (by omega), (by omega), ⟨rNm_f i5.1 (by rw [em131, zu_ne (by decide)]), rPm_f i5.2 (by rw [em131, zu_ne (by decide)]) (by rw [em131, zu_ne (by decide)])⟩, rfl⟩), (fun h => absurd h (by decide)), (fun h => absurd h (by decide)), (fun h => absurd h (by decide))⟩
  · intro vs m0 n hI
    replace hI := hI.2.2.2.2.1 rfl
    clear z0
    obtain ⟨v1, v2, v3, v4, rfl, z0, hv1, hv2, hv3, hv4, i0, i1, i2, i3, i4, rfl⟩ := hI
    obtain ⟨j1, j2⟩ := i0
    subst j1
    replace H79 := fun (q : Int) (p : 0 ≤ q) (r : q < v3) => H79 q p (by omega)
    obtain ⟨g138, wg138⟩ : ∃ z : Int, m0.1 66 ((20 : Nat) : Int) = z := ⟨_, rfl⟩
    obtain ⟨g139, wg139⟩ : ∃ z : Int, m0.1 66 ((21 : Nat) : Int) = z := ⟨_, rfl⟩
    obtain ⟨g140, wg140⟩ : ∃ z : Int, m0.1 66 ((8 : Nat) : Int) = z := ⟨_, rfl⟩
    obtain ⟨g141, wg141⟩ : ∃ z : Int, m0.1 66 ((26 : Nat) : Int) = z := ⟨_, rfl⟩
    obtain ⟨g142, wg142⟩ : ∃ z : Int, m0.1 66 ((27 : Nat) : Int) = z := ⟨_, rfl⟩
    refine And.intro ⟨⟨by omega, by omega⟩, ⟨by omega, by omega⟩⟩ (And.intro (fun c143 => ?_) (fun c143 => ?_))
    · refine Exists.intro (Int.toNat ((30 - (v3 + 1)) * 1000 + 999 + 8 * 4294967296)) (And.intro (by (try rw [wg138]) <;> (try rw [wg139]) <;> (try rw [wg140]) <;> (try rw [wg141]) <;> (try rw [wg142]) <;> (try rw [wg1]) <;> (try rw [wg2]) <;> (try rw [wg3]) <;> (try rw [wg4]) <;> (try rw [wg5]) <;> omega) ?_)
      exact ⟨(fun h => absurd h (by decide)), (fun h => absurd h (by decide)), (fun _ => ⟨_, _, _, rfl, z0, ⟨by omega, by omega⟩, ⟨by omega, by omega⟩, ⟨by omega, by omega⟩, ⟨rfl, j2⟩, (zKK_up i1 (by have h21 : v4 = 21 := (by omega); rw [h21] at i2; exact i2)), (by omega), i4, rfl⟩), (fun h => absurd h (by decide)), (fun h => absurd h (by decide)), (fun h => absurd h (by decide)), (fun h => absurd h (by decide))⟩
    · refine And.intro ⟨by omega, by omega⟩ ?_
      intro x144 hx144 kx144 lx144
      have X80 : x144 = zXa μ v3 v4 := by unfold zXa; rw [hx144]; exact i1.2.2.2.2.2.2.1 _ (by omega)
      have TA : x144 < 0 ∨ (v1 ≤ x144 ∧ x144 ≤ 19999) := by rcases (hp0.2.2.1.1 v3 (by omega) (by omega)).2.1 v4 (by omega) (by omega) with q | q; (left; omega); (right; have h1 := q.1.1; omega)
      refine ⟨zk_X9_down, zm_X9_down hg d (by omega), _, _, rfl, ⟨by omega, by omega⟩, ⟨by omega, by omega⟩, ?_⟩
      intro x145 kx145 lx145 p146
      try rw [wg138] at p146
      try rw [wg139] at p146
      try rw [wg140] at p146
      try rw [wg141] at p146
      try rw [wg142] at p146
      try rw [wg1] at p146
      try rw [wg2] at p146
      try rw [wg3] at p146
      try rw [wg4] at p146
      try rw [wg5] at p146
      refine And.intro ⟨by omega, by omega⟩ (And.intro ⟨by omega, by omega⟩ ?_)
      intro m147 em147
      have z148 := zfx_r z0 em147 rfl (by decide)
      have w149 : m147.1 66 ((20 : Nat) : Int) = g138 := by rw [em147]; exact (congrFun (zu_ne (by decide)) _).trans wg138
      have w150 : m147.1 66 ((21 : Nat) : Int) = g139 := by rw [em147]; exact (congrFun (zu_ne (by decide)) _).trans wg139
      have w151 : m147.1 66 ((8 : Nat) : Int) = g140 := by rw [em147]; exact (congrFun (zu_ne (by decide)) _).trans wg140
      have w152 : m147.1 66 ((26 : Nat) : Int) = g141 := by rw [em147]; exact (congrFun (zu_ne (by decide)) _).trans wg141
      have w153 : m147.1 66 ((27 : Nat) : Int) = g142 := by rw [em147]; exact (congrFun (zu_ne (by decide)) _).trans wg142
      have R := zKc_d i1 i2 ⟨by omega, by omega⟩ H79 ⟨by omega, by omega⟩ em147 (by omega) (show x145 = _ by split <;> omega)
      refine Exists.intro (Int.toNat ((30 - v3) * 1000 + 100 - (v4 + 1) + 8 * 4294967296)) (And.intro (by (try rw [w149]) <;> (try rw [w150]) <;> (try rw [w151]) <;> (try rw [w152]) <;> (try rw [w153]) <;> (try rw [wg138]) <;> (try rw [wg139]) <;> (try rw [wg140]) <;> (try rw [wg141]) <;> (try rw [wg142]) <;> (try rw [wg1]) <;> (try rw [wg2]) <;> (try rw [wg3]) <;> (try rw [wg4]) <;> (try rw [wg5]) <;> omega) ?_)
      exact ⟨(fun h => absurd h (by decide)), (fun h => absurd h (by decide)), (fun h => absurd h (by decide)), (fun h => absurd h (by decide)), (fun _ => ⟨_, _, _, _, rfl, z148, ⟨by omega, by omega⟩, ⟨by omega, by omega⟩, ⟨by omega, by omega⟩, ⟨by omega, by omega⟩, ⟨rfl, j2⟩, R.1, R.2, (by omega), ⟨rNm_f i4.1 (by rw [em147, zu_ne (by decide)]), rPm_f i4.2 (by rw [em147, zu_ne (by decide)]) (by rw [em147, zu_ne (by decide)])⟩, rfl⟩), (fun h => absurd h (by decide)), (fun h => absurd h (by decide))⟩
  · intro vs m0 n hI
    replace hI := hI.2.2.2.2.2.1 rfl
    clear z0
    obtain ⟨v1, v2, v3, rfl, z0, hv1, hv2, hv3, i0, i1, i2, i3, rfl⟩ := hI
    obtain ⟨j1, j2⟩ := i0
    subst j1
    replace H84 := fun (c : Int) (p : 0 ≤ c) (q : c < v3) => H84 c p (by omega)
    have E21 := i1.2.1.2.2.2
    obtain ⟨g154, wg154⟩ : ∃ z : Int, m0.1 66 ((20 : Nat) : Int) = z := ⟨_, rfl⟩
    obtain ⟨g155, wg155⟩ : ∃ z : Int, m0.1 66 ((21 : Nat) : Int) = z := ⟨_, rfl⟩
    obtain ⟨g156, wg156⟩ : ∃ z : Int, m0.1 66 ((8 : Nat) : Int) = z := ⟨_, rfl⟩
    obtain ⟨g157, wg157⟩ : ∃ z : Int, m0.1 66 ((26 : Nat) : Int) = z := ⟨_, rfl⟩
    obtain ⟨g158, wg158⟩ : ∃ z : Int, m0.1 66 ((27 : Nat) : Int) = z := ⟨_, rfl⟩
    intro x159 hx159 kx159 lx159
    rw [wg155] at hx159
    refine And.intro ⟨⟨by omega, by omega⟩, ⟨by omega, by omega⟩⟩ (And.intro (fun c160 => ?_) (fun c160 => ?_))
    · have KF : zKK μ m0 v1 v2 C (μ.1 66 ((27 : Nat) : Int)) := by rw [show μ.1 66 ((27 : Nat) : Int) = v3 by omega]; exact i1
      have TB := zTb_cp hp0 KF (by omega)
      have TB1 := TB.1.1
      refine And.intro ⟨by omega, by omega⟩ ?_
      intro m161 em161
      have z162 := zfx_f z0 em161 rfl
      have w163 : m161.1 66 ((20 : Nat) : Int) = g154 := by rw [em161]; exact (zu_nk (by decide)).trans wg154
      have w164 : m161.1 66 ((21 : Nat) : Int) = g155 := by rw [em161]; exact (zu_nk (by decide)).trans wg155
      have w165 : m161.1 66 ((8 : Nat) : Int) = g156 := by rw [em161]; exact (zu_nk (by decide)).trans wg156
      have w166 : m161.1 66 ((26 : Nat) : Int) = g157 := by rw [em161]; exact (zu_nk (by decide)).trans wg157
      have w167 : m161.1 66 ((27 : Nat) : Int) = g158 := by rw [em161]; exact (zu_nk (by decide)).trans wg158
      have C1 : ∀ j : Nat, j ≠ 66 → m161.1 j = m0.1 j := fun j hj => by rw [em161, zu_ne hj]
      refine ⟨zk_X9_chainAgain, zm_X9_chainAgain hg d (by omega), _, _, rfl, ⟨by omega, by omega⟩, ⟨by omega, by omega⟩, (by omega), (fun x a b => zNd_same (fun j c d => C1 j (by omega)) (TB.2.1 x a b)), ?_⟩
      intro m168 qm168 p169 p170
      have z171 := zfx_t z162 qm168 rfl rfl
      have w172 : m168.1 66 ((20 : Nat) : Int) = g154 := (qm168.2.1 20 rfl).trans w163
      have w173 : m168.1 66 ((21 : Nat) : Int) = g155 := (qm168.2.1 21 rfl).trans w164
      have w174 : m168.1 66 ((26 : Nat) : Int) = g157 := (qm168.2.1 26 rfl).trans w166
      have w175 : m168.1 66 ((27 : Nat) : Int) = g158 := (qm168.2.1 27 rfl).trans w167
      obtain ⟨g176, wg176⟩ : ∃ z : Int, m168.1 66 ((8 : Nat) : Int) = z := ⟨_, rfl⟩
      refine ⟨zk_X9_forgetAsked2, zm_X9_forgetAsked2 hg d (by omega), rfl, ?_⟩
      intro m177 qm177 p178
      have z179 := zfx_t z171 qm177 rfl rfl
      have w180 : m177.1 66 ((20 : Nat) : Int) = g154 := (qm177.2.1 20 rfl).trans w172
      have w181 : m177.1 66 ((21 : Nat) : Int) = g155 := (qm177.2.1 21 rfl).trans w173
      have w182 : m177.1 66 ((8 : Nat) : Int) = g176 := (qm177.2.1 8 rfl).trans wg176
      have w183 : m177.1 66 ((26 : Nat) : Int) = g157 := (qm177.2.1 26 rfl).trans w174
      have w184 : m177.1 66 ((27 : Nat) : Int) = g158 := (qm177.2.1 27 rfl).trans w175
      have C3 : ∀ j : Nat, 67 ≤ j → j ≤ 71 ∨ 75 ≤ j → m177.1 j = m0.1 j := fun j a b => by rw [qm177.1 j (by omega) rfl, qm168.1 j (by omega) (zanyF (by simp <;> omega)), C1 j (by omega)]
      have G20 : m177.1 66 ((20 : Nat) : Int) = m0.1 66 ((20 : Nat) : Int) := by rw [qm177.2.1 20 rfl, qm168.2.1 20 rfl, em161, zu_nk (by decide)]
      have G21 : m177.1 66 ((21 : Nat) : Int) = m0.1 66 ((21 : Nat) : Int) := by rw [qm177.2.1 21 rfl, qm168.2.1 21 rfl, em161, zu_nk (by decide)]
      have G60 : m177.1 66 ((60 : Nat) : Int) = m0.1 66 ((60 : Nat) : Int) := by rw [qm177.2.1 60 rfl, qm168.2.1 60 rfl, em161, zu_nk (by decide)]
      have G68 : m177.1 66 ((68 : Nat) : Int) = m0.1 66 ((68 : Nat) : Int) := by rw [qm177.2.1 68 rfl, qm168.2.1 68 rfl, em161, zu_nk (by decide)]
      have T3 : zTop m177 = v2 := by rw [show zTop m177 = zTop m168 from qm177.2.1 8 rfl]; exact p170
      have N3 : zND m177 0 := zND_t.2 (by rw [show zTop m177 = zTop m168 from qm177.2.1 8 rfl]; exact zNDt_same (fun j a b => qm177.1 j (by omega) rfl) (zND_t.1 p169))
      have B3 : zTb m177 C (μ.1 66 ((27 : Nat) : Int)) v2 := zTb_old TB.1 (n := v2) (zOld_same (fun j a b => C3 j (by omega) (by omega))) (Int.le_refl _) TB.2.1 (fun j a b => C3 j (by omega) (by omega))
      have W3 : zWf m177 0 v2 C (μ.1 66 ((27 : Nat) : Int)) 0 (m177.1 77) := zWf_same TB.2.2 (fun j a b => C3 j (by omega) (by omega)) (C3 77 (by decide) (by decide))
      have F23 : m177.1 66 ((23 : Nat) : Int) = v2 := by rw [qm177.2.1 23 rfl, qm168.2.1 23 rfl, em161, zu_at]
      refine ⟨yk_X9_findWays, ym_X9_findWays hg d (by omega), _, _, _, rfl, (fun x a b => zNd_same (fun j c d => C3 j (by omega) (by omega)) (TB.2.1 x a b)), B3, W3, (by rw [G60, G68, C3 98 (by decide) (by decide), C3 105 (by decide) (by decide), KF.1.2.1, KF.1.2.2.1, KF.2.1.1, KF.2.1.2.1]; exact ⟨hp0.2.2.2.2.2.1, hp2.2.1⟩), (by rw [G60, G68, KF.2.1.1, KF.2.1.2.1]; exact ⟨⟨hp0.2.2.2.2.2.2, hp2.1⟩, hp2.2.2⟩), ⟨by rw [G20, KF.2.1.2.2.1]; exact DD.2.2.1.symm, by rw [G21, KF.2.1.2.2.2]⟩, ?_⟩
      intro m185 qm185 p186 p187 p188 p189 p190
      have z191 := zfx_t z179 qm185 rfl rfl
      have w192 : m185.1 66 ((20 : Nat) : Int) = g154 := (qm185.2.1 20 rfl).trans w180
      have w193 : m185.1 66 ((21 : Nat) : Int) = g155 := (qm185.2.1 21 rfl).trans w181
      have w194 : m185.1 66 ((8 : Nat) : Int) = g176 := (qm185.2.1 8 rfl).trans w182
      have w195 : m185.1 66 ((26 : Nat) : Int) = g157 := (qm185.2.1 26 rfl).trans w183
      have w196 : m185.1 66 ((27 : Nat) : Int) = g158 := (qm185.2.1 27 rfl).trans w184
      exact And.intro rfl (hQ _ z191 (zRI_tab (C := C) (P := μ.1 66 ((27 : Nat) : Int)) (n := v2) (zND_t.2 (by rw [show zTop m185 = zTop m177 from qm185.2.1 8 rfl]; exact zNDt_same (fun j a b => qm185.1 j (by omega) (zanyF (by simp <;> omega))) (zND_t.1 N3))) (by rw [show zTop m185 = zTop m177 from qm185.2.1 8 rfl]; exact T3) (zTb_old B3 (n := v2) (zOld_same (fun j a b => qm185.1 j (by omega) (zanyF (by simp <;> omega)))) (Int.le_refl _) (fun x a b => N3.2.1 x a (by omega)) (fun j a b => qm185.1 j (by omega) (zanyF (by simp <;> omega)))) (zWf_same W3 (fun j a b => qm185.1 j (by omega) (zanyF (by simp <;> omega))) (qm185.1 77 (by decide) rfl)) (by rw [qm185.2.1 20 rfl, G20, KF.2.1.2.2.1]; exact DD.2.2.1) (by rw [qm185.2.1 21 rfl, G21, KF.2.1.2.2.2]) (by rw [qm185.2.1 23 rfl]; exact F23) (by rw [qm185.2.1 45 rfl]; exact p178.1) (by rw [qm185.2.1 48 rfl]; exact p178.2.2.2) (by have h1 := p186; have h2 := hp0.2.2.2.2.2.2; rw [G60, KF.2.1.1] at h1; omega) hp3.2.2 p188 p189 (by have h1 := p187; have h2 := hp2.2.2; rw [G68, KF.2.1.2.1] at h1; omega) (fun p a b => by rw [qm185.1 84 (by decide) rfl, C3 84 (by decide) (by decide), (KF.2.2.2.1 p a b).1]; exact (hp0.2.2.1.2.1 p a b).1)) (by rw [qm185.2.1 20 rfl, G20, KF.2.1.2.2.1]) (fun c d c0 c1 d0 d1 => by rw [qm185.1 80 (by decide) rfl, C3 80 (by decide) (by decide), (KF.2.2.1 c c0 c1).2.2 d d0 (by omega)]; rcases (hp0.2.2.1.1 c c0 c1).2.1 d d0 d1 with q | q; (rw [q]; simp); (have h1 := q.1.1; split <;> omega)) ⟨fun c c0 c1 => by rw [qm185.1 76 (by decide) rfl, qm185.1 77 (by decide) rfl, qm185.1 79 (by decide) rfl, C3 76 (by decide) (by decide), C3 77 (by decide) (by decide), C3 79 (by decide) (by decide)]; exact (KF.2.2.1 c c0 c1).1, rNm_f i3.1 (by rw [qm185.1 3000075 (by decide) rfl, C3 3000075 (by decide) (by decide)]), rPm_f (by rw [show μ.1 66 ((27 : Nat) : Int) = v3 by omega]; exact i3.2) (by rw [qm185.1 3000081 (by decide) rfl, C3 3000081 (by decide) (by decide)]) (by rw [qm185.1 82 (by decide) rfl, C3 82 (by decide) (by decide)])⟩ (by rw [qm185.2.1 21 rfl, G21, KF.2.1.2.2.2]) ⟨⟨by rw [show zTop m185 = zTop m177 from qm185.2.1 8 rfl, T3]; exact j2, by rw [qm185.2.1 23 rfl, F23]; exact j2⟩, by rw [← j2]; exact zCp_f KF.1.1 (fun j a b => by rw [qm185.1 j (by omega) (zanyF (by simp <;> omega)), C3 j (by omega) (by omega)]), fun c c0 c1 => zKc_f (KF.2.2.1 c c0 c1) (fun j a b => by rw [qm185.1 j (by omega) (zanyF (by simp <;> omega)), C3 j (by omega) (by omega)]), fun q a b => zKp_f (KF.2.2.2.1 q a b) (by rw [qm185.1 83 (by decide) rfl, C3 83 (by decide) (by decide)]) (by rw [qm185.1 84 (by decide) rfl, C3 84 (by decide) (by decide)])⟩ (by rw [qm185.2.1 20 rfl, G20, KF.2.1.2.2.1, qm185.2.1 21 rfl, G21, KF.2.1.2.2.2, DD.2.2.1]; exact fG_self p190 (fun j hj => qm185.1 j (by omega) (zanyF (by simp <;> omega)))))
    · have TP := hp0.2.2.1.2.1 v3 (by omega) (by omega)
      refine And.intro ⟨by omega, by omega⟩ ?_
      intro x197 hx197
      refine And.intro ⟨by omega, by omega⟩ ?_
      intro m198 em198
      have z199 := zfx_r z0 em198 rfl (by decide)
      have w200 : m198.1 66 ((20 : Nat) : Int) = g154 := by rw [em198]; exact (congrFun (zu_ne (by decide)) _).trans wg154
      have w201 : m198.1 66 ((21 : Nat) : Int) = g155 := by rw [em198]; exact (congrFun (zu_ne (by decide)) _).trans wg155
      have w202 : m198.1 66 ((8 : Nat) : Int) = g156 := by rw [em198]; exact (congrFun (zu_ne (by decide)) _).trans wg156
      have w203 : m198.1 66 ((26 : Nat) : Int) = g157 := by rw [em198]; exact (congrFun (zu_ne (by decide)) _).trans wg157
      have w204 : m198.1 66 ((27 : Nat) : Int) = g158 := by rw [em198]; exact (congrFun (zu_ne (by decide)) _).trans wg158
      refine And.intro ⟨by omega, by omega⟩ ?_
      intro x205 hx205 kx205 lx205
      refine And.intro ⟨by omega, by omega⟩ (And.intro ⟨by omega, by omega⟩ ?_)
      intro m206 em206
      have z207 := zfx_r z199 em206 rfl (by decide)
      have w208 : m206.1 66 ((20 : Nat) : Int) = g154 := by rw [em206]; exact (congrFun (zu_ne (by decide)) _).trans w200
      have w209 : m206.1 66 ((21 : Nat) : Int) = g155 := by rw [em206]; exact (congrFun (zu_ne (by decide)) _).trans w201
      have w210 : m206.1 66 ((8 : Nat) : Int) = g156 := by rw [em206]; exact (congrFun (zu_ne (by decide)) _).trans w202
      have w211 : m206.1 66 ((26 : Nat) : Int) = g157 := by rw [em206]; exact (congrFun (zu_ne (by decide)) _).trans w203
      have w212 : m206.1 66 ((27 : Nat) : Int) = g158 := by rw [em206]; exact (congrFun (zu_ne (by decide)) _).trans w204
      refine And.intro ⟨by omega, by omega⟩ ?_
      intro x213 hx213 kx213 lx213
      refine And.intro ⟨by omega, by omega⟩ (And.intro ⟨by omega, by omega⟩ ?_)
      intro m214 em214
      have z215 := zfx_r z207 em214 rfl (by decide)
      have w216 : m214.1 66 ((20 : Nat) : Int) = g154 := by rw [em214]; exact (congrFun (zu_ne (by decide)) _).trans w208
      have w217 : m214.1 66 ((21 : Nat) : Int) = g155 := by rw [em214]; exact (congrFun (zu_ne (by decide)) _).trans w209
      have w218 : m214.1 66 ((8 : Nat) : Int) = g156 := by rw [em214]; exact (congrFun (zu_ne (by decide)) _).trans w210
      have w219 : m214.1 66 ((26 : Nat) : Int) = g157 := by rw [em214]; exact (congrFun (zu_ne (by decide)) _).trans w211
      have w220 : m214.1 66 ((27 : Nat) : Int) = g158 := by rw [em214]; exact (congrFun (zu_ne (by decide)) _).trans w212
      have R := zKp_0 (zKK_L i1 em198 (by decide)) ⟨by omega, by omega⟩ H84 em206 em214 rfl hx213
      refine Exists.intro (Int.toNat ((100 - v3) * 1000 + 500 - 0 + 7 * 4294967296)) (And.intro (by (try rw [w216]) <;> (try rw [w217]) <;> (try rw [w218]) <;> (try rw [w219]) <;> (try rw [w220]) <;> (try rw [wg154]) <;> (try rw [wg155]) <;> (try rw [wg156]) <;> (try rw [wg157]) <;> (try rw [wg158]) <;> (try rw [wg1]) <;> (try rw [wg2]) <;> (try rw [wg3]) <;> (try rw [wg4]) <;> (try rw [wg5]) <;> omega) ?_)
      exact ⟨(fun h => absurd h (by decide)), (fun h => absurd h (by decide)), (fun h => absurd h (by decide)), (fun h => absurd h (by decide)), (fun h => absurd h (by decide)), (fun h => absurd h (by decide)), (fun _ => ⟨_, _, _, _, rfl, z215, ⟨by omega, by omega⟩, ⟨by omega, by omega⟩, ⟨by omega, by omega⟩, ⟨by omega, by omega⟩, ⟨rfl, j2⟩, R.1, R.2, (by omega), (by have h1 := R.2.1; rw [em214, zu_at] at h1; omega), ⟨rNm_f i3.1 (by rw [em214, zu_ne (by decide), em206, zu_ne (by decide), em198, zu_ne (by decide)]), rPm_s i3.2 em198 hx197 em206 hx205 (by omega) (by omega) (by rw [em214, zu_ne (by decide)]) (by rw [em214, zu_ne (by decide)])⟩, rfl⟩)⟩
  · intro vs m0 n hI
    replace hI := hI.2.2.2.2.2.2 rfl
    clear z0
    obtain ⟨v1, v2, v3, v4, rfl, z0, hv1, hv2, hv3, hv4, i0, i1, i2, i3, i4, i5, rfl⟩ := hI
    obtain ⟨j1, j2⟩ := i0
    subst j1
    replace H84 := fun (c : Int) (p : 0 ≤ c) (q : c < v3) => H84 c p (by omega)
    obtain ⟨g221, wg221⟩ : ∃ z : Int, m0.1 66 ((20 : Nat) : Int) = z := ⟨_, rfl⟩
    obtain ⟨g222, wg222⟩ : ∃ z : Int, m0.1 66 ((21 : Nat) : Int) = z := ⟨_, rfl⟩
    obtain ⟨g223, wg223⟩ : ∃ z : Int, m0.1 66 ((8 : Nat) : Int) = z := ⟨_, rfl⟩
    obtain ⟨g224, wg224⟩ : ∃ z : Int, m0.1 66 ((26 : Nat) : Int) = z := ⟨_, rfl⟩
    obtain ⟨g225, wg225⟩ : ∃ z : Int, m0.1 66 ((27 : Nat) : Int) = z := ⟨_, rfl⟩
    refine And.intro ⟨by omega, by omega⟩ ?_
    intro x226 hx226 kx226 lx226
    have X84 : x226 = μ.1 84 (80 + v3) := by rw [hx226]; exact i2.1
    have TP := hp0.2.2.1.2.1 v3 (by omega) (by omega)
    refine And.intro ⟨⟨by omega, by omega⟩, ⟨by omega, by omega⟩⟩ (And.intro (fun c227 => ?_) (fun c227 => ?_))
    · refine Exists.intro (Int.toNat ((100 - (v3 + 1)) * 1000 + 999 + 7 * 4294967296)) (And.intro (by (try rw [wg221]) <;> (try rw [wg222]) <;> (try rw [wg223]) <;> (try rw [wg224]) <;> (try rw [wg225]) <;> (try rw [wg1]) <;> (try rw [wg2]) <;> (try rw [wg3]) <;> (try rw [wg4]) <;> (try rw [wg5]) <;> omega) ?_)
      exact ⟨(fun h => absurd h (by decide)), (fun h => absurd h (by decide)), (fun h => absurd h (by decide)), (fun h => absurd h (by decide)), (fun h => absurd h (by decide)), (fun _ => ⟨_, _, _, rfl, z0, ⟨by omega, by omega⟩, ⟨by omega, by omega⟩, ⟨by omega, by omega⟩, ⟨rfl, j2⟩, (zKK_upp i1 (by rw [show μ.1 84 (80 + v3) = v4 by omega]; exact i2)), (by omega), i5, rfl⟩), (fun h => absurd h (by decide))⟩
    · refine And.intro ⟨by omega, by omega⟩ ?_
      intro x228 hx228 kx228 lx228
      have X83 : x228 = μ.1 83 (2 * (80 + v3) + v4) := by rw [hx228]; exact i1.2.2.2.2.2.2.2.1 _ (by omega)
      have TX := (TP.2 v4 (by omega) (by omega)).1
      refine And.intro ⟨by omega, by omega⟩ (And.intro ⟨by omega, by omega⟩ ?_)
      intro m229 em229
      have z230 := zfx_r z0 em229 rfl (by decide)
      have w231 : m229.1 66 ((20 : Nat) : Int) = g221 := by rw [em229]; exact (congrFun (zu_ne (by decide)) _).trans wg221
      have w232 : m229.1 66 ((21 : Nat) : Int) = g222 := by rw [em229]; exact (congrFun (zu_ne (by decide)) _).trans wg222
      have w233 : m229.1 66 ((8 : Nat) : Int) = g223 := by rw [em229]; exact (congrFun (zu_ne (by decide)) _).trans wg223
      have w234 : m229.1 66 ((26 : Nat) : Int) = g224 := by rw [em229]; exact (congrFun (zu_ne (by decide)) _).trans wg224
      have w235 : m229.1 66 ((27 : Nat) : Int) = g225 := by rw [em229]; exact (congrFun (zu_ne (by decide)) _).trans wg225
      have R := zKp_s i1 i2 ⟨by omega, by omega⟩ H84 ⟨by omega, by omega⟩ em229 (by omega) (show (x228 - v1) = m0.1 83 (2 * (80 + v3) + v4) - v1 by rw [hx228])
      refine Exists.intro (Int.toNat ((100 - v3) * 1000 + 500 - (v4 + 1) + 7 * 4294967296)) (And.intro (by (try rw [w231]) <;> (try rw [w232]) <;> (try rw [w233]) <;> (try rw [w234]) <;> (try rw [w235]) <;> (try rw [wg221]) <;> (try rw [wg222]) <;> (try rw [wg223]) <;> (try rw [wg224]) <;> (try rw [wg225]) <;> (try rw [wg1]) <;> (try rw [wg2]) <;> (try rw [wg3]) <;> (try rw [wg4]) <;> (try rw [wg5]) <;> omega) ?_)
      exact ⟨(fun h => absurd h (by decide)), (fun h => absurd h (by decide)), (fun h => absurd h (by decide)), (fun h => absurd h (by decide)), (fun h => absurd h (by decide)), (fun h => absurd h (by decide)), (fun _ => ⟨_, _, _, _, rfl, z230, ⟨by omega, by omega⟩, ⟨by omega, by omega⟩, ⟨by omega, by omega⟩, ⟨by omega, by omega⟩, ⟨rfl, j2⟩, R.1, R.2, (by omega), (by omega), ⟨rNm_f i5.1 (by rw [em229, zu_ne (by decide)]), rPm_f i5.2 (by rw [em229, zu_ne (by decide)]) (by rw [em229, zu_ne (by decide)])⟩, rfl⟩)⟩
