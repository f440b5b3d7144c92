/-! ### the reference's table, its numbers -/
def rNg (cb pb : Int) (μ : zM) (B : yB) : Prop := (μ.1 66 ((24 : Nat) : Int) = cb ∧ μ.1 66 ((25 : Nat) : Int) = pb ∧ μ.1 66 ((26 : Nat) : Int) = B.1 0 0 ∧ μ.1 66 ((27 : Nat) : Int) = B.1 0 1 ∧ μ.1 66 ((38 : Nat) : Int) = B.1 0 2 ∧ μ.1 66 ((35 : Nat) : Int) = 0) ∧
  (∀ k : Int, 0 ≤ k → k < B.1 0 0 → μ.1 3000075 (cb + k) = B.1 1 k ∧ μ.1 76 (cb + k) = B.1 2 k ∧ μ.1 77 (cb + k) = B.1 3 k ∧ μ.1 79 (cb + k) = B.1 4 k) ∧
  ∀ p : Int, 0 ≤ p → p < B.1 0 1 → μ.1 3000081 (pb + p) = B.1 5 p ∧ (pb = 80 → μ.1 84 (80 + p) = B.1 6 p)
abbrev rNu (μ : zM) (B : yB) : Prop := rNg 21 80 μ B
theorem rNu_f {μ μ' : zM} {B : yB} {cb pb : Int} (h : rNg cb pb μ B) (hj : ∀ j : Nat, j = 3000075 ∨ j = 3000081 ∨ j = 76 ∨ j = 77 ∨ j = 79 ∨ j = 84 → μ'.1 j = μ.1 j) (hk : ∀ k : Nat, k = 24 ∨ k = 25 ∨ k = 26 ∨ k = 27 ∨ k = 38 ∨ k = 35 → μ'.1 66 ((k : Nat) : Int) = μ.1 66 ((k : Nat) : Int)) : rNg cb pb μ' B := by
  unfold rNg
  rw [hj 3000075 (by decide), hj 3000081 (by decide), hj 76 (by decide), hj 77 (by decide), hj 79 (by decide), hj 84 (by decide), hk 24 (by decide), hk 25 (by decide), hk 26 (by decide), hk 27 (by decide), hk 38 (by decide), hk 35 (by decide)]
  exact h
theorem rNu_n {μ μ' : zM} {B : yB} {cb pb : Int} {x : Int} (h : rNg cb pb μ B) (hj : ∀ j : Nat, j = 3000075 ∨ j = 3000081 ∨ j = 76 ∨ j = 77 ∨ j = 79 ∨ j = 84 → μ'.1 j = μ.1 j) (hk : ∀ k : Nat, k = 24 ∨ k = 25 ∨ k = 26 ∨ k = 27 ∨ k = 35 → μ'.1 66 ((k : Nat) : Int) = μ.1 66 ((k : Nat) : Int)) (hx : μ'.1 66 ((38 : Nat) : Int) = x) : rNg cb pb μ' (yN B 0 2 x) := by
  unfold rNg
  rw [hj 3000075 (by decide), hj 3000081 (by decide), hj 76 (by decide), hj 77 (by decide), hj 79 (by decide), hj 84 (by decide), hk 24 (by decide), hk 25 (by decide), hk 26 (by decide), hk 27 (by decide), hk 35 (by decide), hx, yN_ne (by decide), yN_ne (by decide), yN_at, yN_nk (by decide), yN_nk (by decide), yN_nk (by decide), yN_nk (by decide), yN_nk (by decide), yN_nk (by decide)]
  exact ⟨⟨h.1.1, h.1.2.1, h.1.2.2.1, h.1.2.2.2.1, rfl, h.1.2.2.2.2.2⟩, h.2⟩
theorem rNu_fp {μ : zM} {B : yB} {cb pb : Int} {x o v : Int} (h : rNg cb pb μ B) (hI : yI0 B) (ho : o = B.1 0 3) (hv : v = if o < 0 then -1 else yfd (fun k : Int => μ.1 3000081 (μ.1 66 ((25 : Nat) : Int) + k)) x (μ.1 76 (μ.1 66 ((24 : Nat) : Int) + o)) (μ.1 76 (μ.1 66 ((24 : Nat) : Int) + o) + μ.1 77 (μ.1 66 ((24 : Nat) : Int) + o))) : v = yfp B x := by
  rw [hv, h.1.1, h.1.2.1]
  unfold yfp
  rw [← ho]
  have hb := hI.1
  by_cases q : o < 0
  · rw [if_pos q, if_neg (by omega)]
  · have k := h.2.1 o (by omega) (by omega)
    have z := hI.2 o (by omega) (by omega)
    rw [if_neg q, if_pos (by omega), k.2.1, k.2.2.1]
    exact yfd_c (fun i a b => (h.2.2 i (by omega) (by omega)).1)
theorem rNu_fc {μ : zM} {B : yB} {cb pb : Int} {x v : Int} (h : rNg cb pb μ B) (hv : v = yfd (fun k : Int => μ.1 3000075 (μ.1 66 ((24 : Nat) : Int) + k)) x 0 (μ.1 66 ((26 : Nat) : Int))) : v = yfc B x := by
  rw [hv, h.1.1, h.1.2.2.1]
  exact yfd_c (fun i a b => (h.2.1 i (by omega) (by omega)).1)
/-- a FAULT has been found -/
def rFa (T : yT) (s : yS) (μ : zM) : Prop := ∃ (p x : Int) (B : yB), yR T s (20, p, x, [], B) ∧ μ.1 66 ((35 : Nat) : Int) = x ∧ μ.1 66 ((36 : Nat) : Int) = p
theorem rFa_f {T : yT} {μ μ' : zM} {p c : Int} {B' : yB} {s : yS} (h : rLx μ T p) (h0 : μ.1 66 ((35 : Nat) : Int) = 0) (hr : yR T s (yflt T B' p c)) (e : μ.1 66 ((35 : Nat) : Int) = 0 → μ'.1 66 ((35 : Nat) : Int) = (if μ.1 66 ((32 : Nat) : Int) = 261 then 1 else c) ∧ μ'.1 66 ((36 : Nat) : Int) = μ.1 66 ((33 : Nat) : Int)) : rFa T s μ' := by
  have e := e h0
  have k := rLx_k h
  refine ⟨_, _, _, hr, ?_, by rw [e.2]; exact h.2.2.2.1⟩
  rw [e.1]
  by_cases q : ykd T p = 1
  · rw [if_pos (by omega), if_pos q]
  · rw [if_neg (by omega), if_neg q]
theorem rFa_t {T : yT} {s s' : yS} {μ : zM} (h : yR T s s') (hf : rFa T s' μ) : rFa T s μ := by
  obtain ⟨p, x, B, h1, h2⟩ := hf
  exact ⟨p, x, B, yR_t h h1, h2⟩
/-- a NAME that may stand there -/
def rOk (T : yT) (p : Int) (B : yB) (fr : List yF) : Prop := ykd T p = 2 ∧ 0 ≤ yhd B (ynm T p).toInt ∧ (yW3 B fr = 0 ∧ (fr.length : Int) < 8 ∧ B.1 0 2 < 300) ∧ ¬ ((yW2 B fr ≠ 0 ∧ 32 ≤ yhd B (ynm T p).toInt) ∨ (yW2 B fr = 1 ∧ yhd B (ynm T p).toInt = B.1 0 3))
theorem rOk_mk {T : yT} {p : Int} {B : yB} {fr : List yF} (h2 : ykd T p = 2) (hh : 0 ≤ yhd B (ynm T p).toInt) (hn : B.1 0 2 < 300) (h8 : (fr.length : Int) < 8) (h6 : ¬ ((fr.length : Int) = 0 ∧ B.1 0 5 ≠ 0)) (h7 : ¬ ((fr.length : Int) = 0 ∧ ((B.1 0 4 = 0 ∧ 32 ≤ yhd B (ynm T p).toInt) ∨ (B.1 0 4 = 1 ∧ (32 ≤ yhd B (ynm T p).toInt ∨ yhd B (ynm T p).toInt = B.1 0 3))))) : rOk T p B fr := by
  have w := yW2_c (B := B) (fr := fr)
  refine ⟨h2, hh, ⟨?_, h8, hn⟩, by omega⟩
  unfold yW3
  split
  · rw [if_pos (by omega)]
  · rfl
theorem ym10r_6 {T : yT} {p w : Int} {fr : List yF} {B : yB} (h : ykd T p = 2) (h4 : 0 ≤ yhd B (ynm T p).toInt) (h6 : 300 ≤ B.1 0 2 ∨ 8 ≤ (fr.length : Int) ∨ ((fr.length : Int) = 0 ∧ B.1 0 5 ≠ 0)) : yms T (10, p, w, fr, B) = yflt T B p 6 := by
  show ym10 T p w fr B = _
  unfold ym10
  rw [if_neg (by omega), if_neg (by omega), if_pos (by omega)]
theorem ym10r_7 {T : yT} {p w : Int} {fr : List yF} {B : yB} (h : ykd T p = 2) (h4 : 0 ≤ yhd B (ynm T p).toInt) (h6 : ¬ (300 ≤ B.1 0 2 ∨ 8 ≤ (fr.length : Int) ∨ ((fr.length : Int) = 0 ∧ B.1 0 5 ≠ 0))) (h7 : (fr.length : Int) = 0 ∧ ((B.1 0 4 = 0 ∧ 32 ≤ yhd B (ynm T p).toInt) ∨ (B.1 0 4 = 1 ∧ (32 ≤ yhd B (ynm T p).toInt ∨ yhd B (ynm T p).toInt = B.1 0 3)))) : yms T (10, p, w, fr, B) = yflt T B p 7 := by
  show ym10 T p w fr B = _
  unfold ym10
  rw [if_neg (by omega), if_neg (by omega), if_neg (by omega), if_pos (by omega)]
theorem rsix {x : Int} {P : Int} (h : x = if P = 0 then 0 else 1) : (x = 0 ↔ P = 0) := by
  rw [h]
  split <;> omega
def yk_X9_openType : zC := fun As μ Q => ∃ (a1 : Int) (a2 : Int) (a3 : Int) (a4 : Int) (τ : yT) (p : Int) (B : yB) (w : Int) (fr : List yF) (cb : Int) (pb : Int), As = [.inr (.inr (66, 66)), .inl a1, .inl a2, .inl a3, .inl a4] ∧ ((-1) ≤ a1 ∧ a1 ≤ 20) ∧ (0 ≤ a2 ∧ a2 ≤ 4) ∧ (0 ≤ a3 ∧ a3 ≤ 8) ∧ (0 ≤ a4 ∧ a4 ≤ 1) ∧ (0 ≤ μ.1 66 ((33 : Nat) : Int) ∧ 0 ≤ μ.1 66 ((34 : Nat) : Int) ∧ μ.1 66 ((33 : Nat) : Int) + μ.1 66 ((34 : Nat) : Int) ≤ μ.1 66 ((31 : Nat) : Int) ∧ μ.1 66 ((31 : Nat) : Int) ≤ μ.1 66 ((30 : Nat) : Int) ∧ μ.1 66 ((30 : Nat) : Int) ≤ 800) ∧ (rLx μ τ p) ∧ (rNg cb pb μ B) ∧ (yI0 B ∧ a1 = B.1 0 3) ∧ (a2 = B.1 0 4 ∧ a3 = (fr.length : Int) ∧ a4 = (if B.1 0 5 = 0 then 0 else 1)) ∧ (∀ (v : Int) (μ' : zM), zfx [100, 101, 102] [31, 32, 33, 34, 35, 36, 38] μ μ' → 0 ≤ v → v ≤ 1 → (0 ≤ μ'.1 66 ((33 : Nat) : Int) ∧ 0 ≤ μ'.1 66 ((34 : Nat) : Int) ∧ μ'.1 66 ((33 : Nat) : Int) + μ'.1 66 ((34 : Nat) : Int) ≤ μ'.1 66 ((31 : Nat) : Int) ∧ μ'.1 66 ((31 : Nat) : Int) ≤ μ'.1 66 ((30 : Nat) : Int) ∧ μ'.1 66 ((30 : Nat) : Int) ≤ 800) → (μ'.1 66 ((30 : Nat) : Int) = μ.1 66 ((30 : Nat) : Int)) → ((v = 0 ∧ μ'.1 66 ((38 : Nat) : Int) = μ.1 66 ((38 : Nat) : Int)) ∨ (v = 1 ∧ μ'.1 66 ((38 : Nat) : Int) = μ.1 66 ((38 : Nat) : Int) + 1 ∧ μ.1 66 ((38 : Nat) : Int) ≤ 299 ∧ a3 ≤ 7 ∧ μ.1 66 ((32 : Nat) : Int) = 257 ∧ (μ'.1 66 ((32 : Nat) : Int) = 256 ∨ μ.1 66 ((31 : Nat) : Int) < μ'.1 66 ((31 : Nat) : Int)) ∧ μ.1 66 ((31 : Nat) : Int) ≤ μ'.1 66 ((31 : Nat) : Int))) → (v = 1 → μ'.1 102 a3 = 0 ∧ ((μ'.1 100 a3 = 1 ∧ 0 ≤ μ'.1 101 a3 ∧ μ'.1 101 a3 ≤ 79) ∨ (μ'.1 100 a3 = 0 ∧ 0 ≤ μ'.1 101 a3 ∧ μ'.1 101 a3 ≤ 20))) → (∀ q : Int, q ≠ a3 → μ'.1 100 q = μ.1 100 q ∧ μ'.1 101 q = μ.1 101 q ∧ μ'.1 102 q = μ.1 102 q) → (v = 1 → (μ'.1 100 a3 = 1 → 0 ≤ a1 ∧ μ.1 76 (μ.1 66 ((24 : Nat) : Int) + a1) ≤ μ'.1 101 a3 ∧ μ'.1 101 a3 < μ.1 76 (μ.1 66 ((24 : Nat) : Int) + a1) + μ.1 77 (μ.1 66 ((24 : Nat) : Int) + a1)) ∧ (μ'.1 100 a3 = 0 → μ'.1 101 a3 < μ.1 66 ((26 : Nat) : Int))) → (v = 1 → a3 = 0 → (a2 ≤ 1 → μ'.1 100 a3 = 0) ∧ (a2 = 1 → μ'.1 101 a3 ≠ a1) ∧ a4 = 0) → ((v = 0 ∧ rFa τ (10, p, w, fr, B) μ') ∨ (v = 1 ∧ rOk τ p B fr ∧ rLx μ' τ (ynx τ p) ∧ rNg cb pb μ' (yN B 0 2 (B.1 0 2 + 1)) ∧ μ'.1 102 a3 = 0 ∧ ((μ'.1 100 a3 = 1 ∧ yhd B (ynm τ p).toInt = 32 + μ'.1 101 a3) ∨ (μ'.1 100 a3 = 0 ∧ yhd B (ynm τ p).toInt = μ'.1 101 a3)))) → Q (some (.inl v)) μ')
set_option maxHeartbeats 4000000 in
theorem ym_X9_openType {g : zΓ} (hg : zg g) (d : Nat) (hd : 4 ≤ d) : zOk g d 139 yk_X9_openType := by
  obtain ⟨d, rfl⟩ : ∃ d', d = d' + 1 := ⟨d - 1, by omega⟩
  refine zOk_loop hg (show mt_tab[139]? = some mt_X9_openType from rfl) ([(62, [0, 1, 2, 3, 4, 5, 6]), (130, [0, 3, 5, 6])], []) 102 rfl fun As μ Q hC => ?_
  obtain ⟨a1, a2, a3, a4, τ, p, B, w, fr, cb, pb, rfl, ha1, ha2, ha3, ha4, hp0, hp1, hp2, hp3, hp4, hQ⟩ := hC
  obtain ⟨g1, wg1⟩ : ∃ z : Int, μ.1 66 ((31 : Nat) : Int) = z := ⟨_, rfl⟩
  obtain ⟨g2, wg2⟩ : ∃ z : Int, μ.1 66 ((30 : Nat) : Int) = z := ⟨_, rfl⟩
  obtain ⟨g3, wg3⟩ : ∃ z : Int, μ.1 66 ((33 : Nat) : Int) = z := ⟨_, rfl⟩
  obtain ⟨g4, wg4⟩ : ∃ z : Int, μ.1 66 ((34 : Nat) : Int) = z := ⟨_, rfl⟩
  obtain ⟨g5, wg5⟩ : ∃ z : Int, μ.1 66 ((32 : Nat) : Int) = z := ⟨_, rfl⟩
  obtain ⟨g6, wg6⟩ : ∃ z : Int, μ.1 66 ((38 : Nat) : Int) = z := ⟨_, rfl⟩
  try rw [wg1] at hp0
  try rw [wg2] at hp0
  try rw [wg3] at hp0
  try rw [wg4] at hp0
  try rw [wg5] at hp0
  try rw [wg6] at hp0
  try rw [wg1] at hp1
  try rw [wg2] at hp1
  try rw [wg3] at hp1
  try rw [wg4] at hp1
  try rw [wg5] at hp1
  try rw [wg6] at hp1
  try rw [wg1] at hp2
  try rw [wg2] at hp2
  try rw [wg3] at hp2
  try rw [wg4] at hp2
  try rw [wg5] at hp2
  try rw [wg6] at hp2
  try rw [wg1] at hp3
  try rw [wg2] at hp3
  try rw [wg3] at hp3
  try rw [wg4] at hp3
  try rw [wg5] at hp3
  try rw [wg6] at hp3
  try rw [wg1] at hp4
  try rw [wg2] at hp4
  try rw [wg3] at hp4
  try rw [wg4] at hp4
  try rw [wg5] at hp4
  try rw [wg6] at hp4
  have K0 := rLx_k hp1
  rw [wg5] at K0
  have RS := rsix hp4.2.2
  have N38 : g6 = B.1 0 2 := by rw [← wg6]; exact hp2.1.2.2.2.2.1
  have z0 : zfx [100, 101, 102] [31, 32, 33, 34, 35, 36, 38] μ μ := zfx_x μ
  refine ⟨rfl, fun pc vs μ' n => (pc = 62 → ∃ (v1 : Int) (v2 : Int) (v3 : Int) (v4 : Int) (v5 : Int) (v6 : Int), vs = [.inr (.inr (66, 66)), .inl v1, .inl v2, .inl v3, .inl v4, .inl v5, .inl v6] ∧ zfx [100, 101, 102] [31, 32, 33, 34, 35, 36, 38] μ μ' ∧ ((-1) ≤ v1 ∧ v1 ≤ 20) ∧ (0 ≤ v2 ∧ v2 ≤ 4) ∧ (0 ≤ v3 ∧ v3 ≤ 8) ∧ (0 ≤ v4 ∧ v4 ≤ 1) ∧ ((-1) ≤ v5 ∧ v5 ≤ 79) ∧ ((-1) ≤ v6 ∧ v6 ≤ 20) ∧ (v1 = a1 ∧ v2 = a2 ∧ v3 = a3 ∧ v4 = a4) ∧ (μ.1 66 ((32 : Nat) : Int) = 257) ∧ ((0 ≤ v5 ∧ yhd B (ynm τ p).toInt = 32 + v5 ∧ (0 ≤ a1 ∧ μ.1 76 (μ.1 66 ((24 : Nat) : Int) + a1) ≤ v5 ∧ v5 < μ.1 76 (μ.1 66 ((24 : Nat) : Int) + a1) + μ.1 77 (μ.1 66 ((24 : Nat) : Int) + a1))) ∨ (v5 < 0 ∧ yhd B (ynm τ p).toInt = v6 ∧ 0 ≤ v6 ∧ v6 < μ.1 66 ((26 : Nat) : Int))) ∧ (μ' = μ) ∧ n = (Int.toNat (90))) ∧ (pc = 130 → ∃ (v3 : Int) (v5 : Int) (v6 : Int), vs = [.inr (.inr (66, 66)), .inl v3, .inl v5, .inl v6] ∧ zfx [100, 101, 102] [31, 32, 33, 34, 35, 36, 38] μ μ' ∧ (0 ≤ v3 ∧ v3 ≤ 8) ∧ ((-1) ≤ v5 ∧ v5 ≤ 79) ∧ ((-1) ≤ v6 ∧ v6 ≤ 20) ∧ (v3 = a3) ∧ (μ.1 66 ((32 : Nat) : Int) = 257) ∧ ((0 ≤ v5 ∧ yhd B (ynm τ p).toInt = 32 + v5 ∧ (0 ≤ a1 ∧ μ.1 76 (μ.1 66 ((24 : Nat) : Int) + a1) ≤ v5 ∧ v5 < μ.1 76 (μ.1 66 ((24 : Nat) : Int) + a1) + μ.1 77 (μ.1 66 ((24 : Nat) : Int) + a1))) ∨ (v5 < 0 ∧ yhd B (ynm τ p).toInt = v6 ∧ 0 ≤ v6 ∧ v6 < μ.1 66 ((26 : Nat) : Int))) ∧ (a4 = 0 ∨ 0 ≤ a4) ∧ (rOk τ p B fr) ∧ (μ.1 66 ((38 : Nat) : Int) ≤ 299 ∧ a3 ≤ 7 ∧ (a3 = 0 → (a2 ≤ 1 → v5 < 0) ∧ (a2 = 1 → v6 ≠ a1) ∧ a4 = 0)) ∧ (μ' = μ) ∧ n = (Int.toNat (70))), ?_, ?_, ?_, trivial⟩
  · intro x7 hx7 kx7 lx7
    rw [wg5] at hx7
    refine And.intro ⟨⟨by omega, by omega⟩, ⟨by omega, by omega⟩⟩ (And.intro (fun c8 => ?_) (fun c8 => ?_))
    · refine ⟨yk_X9_name, ym_X9_name hg d (by omega), rfl, (by (try rw [wg1]) <;> (try rw [wg2]) <;> (try rw [wg3]) <;> (try rw [wg4]) <;> (try rw [wg5]) <;> (try rw [wg6]) <;> omega), ?_⟩
      intro j9 p10
      refine ⟨yk_X9_findParam, ym_X9_findParam hg d (by omega), _, _, rfl, ⟨by omega, by omega⟩, ?_⟩
      intro x11 kx11 lx11 p12 p13
      try rw [wg1] at p12
      try rw [wg2] at p12
      try rw [wg3] at p12
      try rw [wg4] at p12
      try rw [wg5] at p12
      try rw [wg6] at p12
      try rw [wg1] at p12
      try rw [wg2] at p12
      try rw [wg3] at p12
      try rw [wg4] at p12
      try rw [wg5] at p12
      try rw [wg6] at p12
      have FP : x11 = yfp B (ynm τ p).toInt := rNu_fp hp2 hp3.1 hp3.2 (by have h1 := p13; rw [show j9 = ynm τ p from rLx_n hp1 (by omega) p10] at h1; exact h1)
      refine And.intro ⟨by omega, by omega⟩ (And.intro (fun c14 => ?_) (fun c14 => ?_))
      · have HD : yhd B (ynm τ p).toInt = 32 + x11 := by unfold yhd; rw [if_pos (by omega), FP]
        refine And.intro ⟨by omega, by omega⟩ (And.intro (fun c15 => ?_) (fun c15 => ?_))
        · refine Exists.intro (Int.toNat (90)) ?_
          exact ⟨(fun _ => ⟨_, _, _, _, _, _, rfl, z0, ⟨by omega, by omega⟩, ⟨by omega, by omega⟩, ⟨by omega, by omega⟩, ⟨by omega, by omega⟩, ⟨by omega, by omega⟩, ⟨by omega, by omega⟩, (by (try rw [wg1]) <;> (try rw [wg2]) <;> (try rw [wg3]) <;> (try rw [wg4]) <;> (try rw [wg5]) <;> (try rw [wg6]) <;> omega), (by (try rw [wg1]) <;> (try rw [wg2]) <;> (try rw [wg3]) <;> (try rw [wg4]) <;> (try rw [wg5]) <;> (try rw [wg6]) <;> omega), (Or.inl ⟨by omega, HD, by have h0 := p12; omega⟩), rfl, rfl⟩), (fun h => absurd h (by decide))⟩
        · exfalso; omega
      · refine ⟨yk_X9_name, ym_X9_name hg d (by omega), rfl, (by (try rw [wg1]) <;> (try rw [wg2]) <;> (try rw [wg3]) <;> (try rw [wg4]) <;> (try rw [wg5]) <;> (try rw [wg6]) <;> omega), ?_⟩
        intro j16 p17
        refine ⟨yk_X9_findClass, ym_X9_findClass hg d (by omega), _, rfl, ?_⟩
        intro x18 kx18 lx18 p19 p20
        try rw [wg1] at p19
        try rw [wg2] at p19
        try rw [wg3] at p19
        try rw [wg4] at p19
        try rw [wg5] at p19
        try rw [wg6] at p19
        try rw [wg1] at p19
        try rw [wg2] at p19
        try rw [wg3] at p19
        try rw [wg4] at p19
        try rw [wg5] at p19
        try rw [wg6] at p19
        have FC : x18 = yfc B (ynm τ p).toInt := rNu_fc hp2 (by have h1 := p20; rw [show j16 = ynm τ p from rLx_n hp1 (by omega) p17] at h1; exact h1)
        have HD : yhd B (ynm τ p).toInt = x18 := by unfold yhd; rw [if_neg (by omega), FC]
        refine And.intro ⟨by omega, by omega⟩ (And.intro (fun c21 => ?_) (fun c21 => ?_))
        · exfalso; omega
        · refine And.intro ⟨by omega, by omega⟩ (And.intro (fun c22 => ?_) (fun c22 => ?_))
          · refine Exists.intro (Int.toNat (90)) ?_
            exact ⟨(fun _ => ⟨_, _, _, _, _, _, rfl, z0, ⟨by omega, by omega⟩, ⟨by omega, by omega⟩, ⟨by omega, by omega⟩, ⟨by omega, by omega⟩, ⟨by omega, by omega⟩, ⟨by omega, by omega⟩, (by (try rw [wg1]) <;> (try rw [wg2]) <;> (try rw [wg3]) <;> (try rw [wg4]) <;> (try rw [wg5]) <;> (try rw [wg6]) <;> omega), (by (try rw [wg1]) <;> (try rw [wg2]) <;> (try rw [wg3]) <;> (try rw [wg4]) <;> (try rw [wg5]) <;> (try rw [wg6]) <;> omega), (Or.inr ⟨by omega, HD, by omega, by have h0 := p19; omega⟩), rfl, rfl⟩), (fun h => absurd h (by decide))⟩
          · refine ⟨yk_X9_fail, ym_X9_fail hg d (by omega), _, rfl, ⟨by omega, by omega⟩, ?_⟩
            intro x23 m24 qm24 kx23 lx23 p25
            have z26 := zfx_t z0 qm24 rfl rfl
            have w27 : m24.1 66 ((31 : Nat) : Int) = g1 := (qm24.2.1 31 rfl).trans wg1
            have w28 : m24.1 66 ((30 : Nat) : Int) = g2 := (qm24.2.1 30 rfl).trans wg2
            have w29 : m24.1 66 ((33 : Nat) : Int) = g3 := (qm24.2.1 33 rfl).trans wg3
            have w30 : m24.1 66 ((34 : Nat) : Int) = g4 := (qm24.2.1 34 rfl).trans wg4
            have w31 : m24.1 66 ((32 : Nat) : Int) = g5 := (qm24.2.1 32 rfl).trans wg5
            have w32 : m24.1 66 ((38 : Nat) : Int) = g6 := (qm24.2.1 38 rfl).trans wg6
            exact And.intro (zrtb (by omega)) (And.intro ⟨by omega, by omega⟩ (hQ _ _ z26 (by omega) (by omega) (by (try rw [w27]) <;> (try rw [w28]) <;> (try rw [w29]) <;> (try rw [w30]) <;> (try rw [w31]) <;> (try rw [w32]) <;> (try rw [wg1]) <;> (try rw [wg2]) <;> (try rw [wg3]) <;> (try rw [wg4]) <;> (try rw [wg5]) <;> (try rw [wg6]) <;> omega) (by (try rw [w27]) <;> (try rw [w28]) <;> (try rw [w29]) <;> (try rw [w30]) <;> (try rw [w31]) <;> (try rw [w32]) <;> (try rw [wg1]) <;> (try rw [wg2]) <;> (try rw [wg3]) <;> (try rw [wg4]) <;> (try rw [wg5]) <;> (try rw [wg6]) <;> omega) (by (try rw [w27]) <;> (try rw [w28]) <;> (try rw [w29]) <;> (try rw [w30]) <;> (try rw [w31]) <;> (try rw [w32]) <;> (try rw [wg1]) <;> (try rw [wg2]) <;> (try rw [wg3]) <;> (try rw [wg4]) <;> (try rw [wg5]) <;> (try rw [wg6]) <;> omega) (fun h => by omega) (fun q _ => ⟨by rw [qm24.1 100 (by decide) rfl], by rw [qm24.1 101 (by decide) rfl], by rw [qm24.1 102 (by decide) rfl]⟩) (fun h => by omega) (fun h _ => by omega) (Or.inl ⟨by omega, rFa_f hp1 hp2.1.2.2.2.2.2 (yR_s (yR_r τ _) (ym10_4 (by omega) (by omega))) p25⟩)))
    · refine ⟨yk_X9_fail, ym_X9_fail hg d (by omega), _, rfl, ⟨by omega, by omega⟩, ?_⟩
      intro x33 m34 qm34 kx33 lx33 p35
      have z36 := zfx_t z0 qm34 rfl rfl
      have w37 : m34.1 66 ((31 : Nat) : Int) = g1 := (qm34.2.1 31 rfl).trans wg1
      have w38 : m34.1 66 ((30 : Nat) : Int) = g2 := (qm34.2.1 30 rfl).trans wg2
      have w39 : m34.1 66 ((33 : Nat) : Int) = g3 := (qm34.2.1 33 rfl).trans wg3
      have w40 : m34.1 66 ((34 : Nat) : Int) = g4 := (qm34.2.1 34 rfl).trans wg4
      have w41 : m34.1 66 ((32 : Nat) : Int) = g5 := (qm34.2.1 32 rfl).trans wg5
      have w42 : m34.1 66 ((38 : Nat) : Int) = g6 := (qm34.2.1 38 rfl).trans wg6
      exact And.intro (zrtb (by omega)) (And.intro ⟨by omega, by omega⟩ (hQ _ _ z36 (by omega) (by omega) (by (try rw [w37]) <;> (try rw [w38]) <;> (try rw [w39]) <;> (try rw [w40]) <;> (try rw [w41]) <;> (try rw [w42]) <;> (try rw [wg1]) <;> (try rw [wg2]) <;> (try rw [wg3]) <;> (try rw [wg4]) <;> (try rw [wg5]) <;> (try rw [wg6]) <;> omega) (by (try rw [w37]) <;> (try rw [w38]) <;> (try rw [w39]) <;> (try rw [w40]) <;> (try rw [w41]) <;> (try rw [w42]) <;> (try rw [wg1]) <;> (try rw [wg2]) <;> (try rw [wg3]) <;> (try rw [wg4]) <;> (try rw [wg5]) <;> (try rw [wg6]) <;> omega) (by (try rw [w37]) <;> (try rw [w38]) <;> (try rw [w39]) <;> (try rw [w40]) <;> (try rw [w41]) <;> (try rw [w42]) <;> (try rw [wg1]) <;> (try rw [wg2]) <;> (try rw [wg3]) <;> (try rw [wg4]) <;> (try rw [wg5]) <;> (try rw [wg6]) <;> omega) (fun h => by omega) (fun q _ => ⟨by rw [qm34.1 100 (by decide) rfl], by rw [qm34.1 101 (by decide) rfl], by rw [qm34.1 102 (by decide) rfl]⟩) (fun h => by omega) (fun h _ => by omega) (Or.inl ⟨by omega, rFa_f hp1 hp2.1.2.2.2.2.2 (yR_s (yR_r τ _) (ym10_2 (by omega))) p35⟩)))
  · intro vs m0 n hI
    replace hI := hI.1 rfl
    clear z0
    obtain ⟨v1, v2, v3, v4, v5, v6, rfl, z0, hv1, hv2, hv3, hv4, hv5, hv6, i0, i1, i2, i3, rfl⟩ := hI
    replace i3 := i3.symm
    subst i3
    intro x43 hx43 kx43 lx43
    rw [wg6] at hx43
    refine And.intro ⟨⟨by omega, by omega⟩, ⟨by omega, by omega⟩⟩ (And.intro (fun c44 => ?_) (fun c44 => ?_))
    · refine ⟨yk_X9_fail, ym_X9_fail hg d (by omega), _, rfl, ⟨by omega, by omega⟩, ?_⟩
      intro x45 m46 qm46 kx45 lx45 p47
      have z48 := zfx_t z0 qm46 rfl rfl
      have w49 : m46.1 66 ((31 : Nat) : Int) = g1 := (qm46.2.1 31 rfl).trans wg1
      have w50 : m46.1 66 ((30 : Nat) : Int) = g2 := (qm46.2.1 30 rfl).trans wg2
      have w51 : m46.1 66 ((33 : Nat) : Int) = g3 := (qm46.2.1 33 rfl).trans wg3
      have w52 : m46.1 66 ((34 : Nat) : Int) = g4 := (qm46.2.1 34 rfl).trans wg4
      have w53 : m46.1 66 ((32 : Nat) : Int) = g5 := (qm46.2.1 32 rfl).trans wg5
      have w54 : m46.1 66 ((38 : Nat) : Int) = g6 := (qm46.2.1 38 rfl).trans wg6
      exact And.intro (zrtb (by omega)) (And.intro ⟨by omega, by omega⟩ (hQ _ _ z48 (by omega) (by omega) (by (try rw [w49]) <;> (try rw [w50]) <;> (try rw [w51]) <;> (try rw [w52]) <;> (try rw [w53]) <;> (try rw [w54]) <;> (try rw [wg1]) <;> (try rw [wg2]) <;> (try rw [wg3]) <;> (try rw [wg4]) <;> (try rw [wg5]) <;> (try rw [wg6]) <;> omega) (by (try rw [w49]) <;> (try rw [w50]) <;> (try rw [w51]) <;> (try rw [w52]) <;> (try rw [w53]) <;> (try rw [w54]) <;> (try rw [wg1]) <;> (try rw [wg2]) <;> (try rw [wg3]) <;> (try rw [wg4]) <;> (try rw [wg5]) <;> (try rw [wg6]) <;> omega) (by (try rw [w49]) <;> (try rw [w50]) <;> (try rw [w51]) <;> (try rw [w52]) <;> (try rw [w53]) <;> (try rw [w54]) <;> (try rw [wg1]) <;> (try rw [wg2]) <;> (try rw [wg3]) <;> (try rw [wg4]) <;> (try rw [wg5]) <;> (try rw [wg6]) <;> omega) (fun h => by omega) (fun q _ => ⟨by rw [qm46.1 100 (by decide) rfl], by rw [qm46.1 101 (by decide) rfl], by rw [qm46.1 102 (by decide) rfl]⟩) (fun h => by omega) (fun h _ => by omega) (Or.inl ⟨by omega, rFa_f hp1 hp2.1.2.2.2.2.2 (yR_s (yR_r τ _) (ym10r_6 (by omega) (by omega) (by omega))) p47⟩)))
    · refine And.intro ⟨⟨by omega, by omega⟩, ⟨by omega, by omega⟩⟩ (And.intro (fun c55 => ?_) (fun c55 => ?_))
      · refine ⟨yk_X9_fail, ym_X9_fail hg d (by omega), _, rfl, ⟨by omega, by omega⟩, ?_⟩
        intro x56 m57 qm57 kx56 lx56 p58
        have z59 := zfx_t z0 qm57 rfl rfl
        have w60 : m57.1 66 ((31 : Nat) : Int) = g1 := (qm57.2.1 31 rfl).trans wg1
        have w61 : m57.1 66 ((30 : Nat) : Int) = g2 := (qm57.2.1 30 rfl).trans wg2
        have w62 : m57.1 66 ((33 : Nat) : Int) = g3 := (qm57.2.1 33 rfl).trans wg3
        have w63 : m57.1 66 ((34 : Nat) : Int) = g4 := (qm57.2.1 34 rfl).trans wg4
        have w64 : m57.1 66 ((32 : Nat) : Int) = g5 := (qm57.2.1 32 rfl).trans wg5
        have w65 : m57.1 66 ((38 : Nat) : Int) = g6 := (qm57.2.1 38 rfl).trans wg6
        exact And.intro (zrtb (by omega)) (And.intro ⟨by omega, by omega⟩ (hQ _ _ z59 (by omega) (by omega) (by (try rw [w60]) <;> (try rw [w61]) <;> (try rw [w62]) <;> (try rw [w63]) <;> (try rw [w64]) <;> (try rw [w65]) <;> (try rw [wg1]) <;> (try rw [wg2]) <;> (try rw [wg3]) <;> (try rw [wg4]) <;> (try rw [wg5]) <;> (try rw [wg6]) <;> omega) (by (try rw [w60]) <;> (try rw [w61]) <;> (try rw [w62]) <;> (try rw [w63]) <;> (try rw [w64]) <;> (try rw [w65]) <;> (try rw [wg1]) <;> (try rw [wg2]) <;> (try rw [wg3]) <;> (try rw [wg4]) <;> (try rw [wg5]) <;> (try rw [wg6]) <;> omega) (by (try rw [w60]) <;> (try rw [w61]) <;> (try rw [w62]) <;> (try rw [w63]) <;> (try rw [w64]) <;> (try rw [w65]) <;> (try rw [wg1]) <;> (try rw [wg2]) <;> (try rw [wg3]) <;> (try rw [wg4]) <;> (try rw [wg5]) <;> (try rw [wg6]) <;> omega) (fun h => by omega) (fun q _ => ⟨by rw [qm57.1 100 (by decide) rfl], by rw [qm57.1 101 (by decide) rfl], by rw [qm57.1 102 (by decide) rfl]⟩) (fun h => by omega) (fun h _ => by omega) (Or.inl ⟨by omega, rFa_f hp1 hp2.1.2.2.2.2.2 (yR_s (yR_r τ _) (ym10r_6 (by omega) (by omega) (by omega))) p58⟩)))
      · refine And.intro ⟨by omega, by omega⟩ (And.intro (fun c66 => ?_) (fun c66 => ?_))
        · refine And.intro ⟨by omega, by omega⟩ (And.intro (fun c67 => ?_) (fun c67 => ?_))
          · refine Exists.intro (Int.toNat (70)) (And.intro (by (try rw [wg1]) <;> (try rw [wg2]) <;> (try rw [wg3]) <;> (try rw [wg4]) <;> (try rw [wg5]) <;> (try rw [wg6]) <;> omega) ?_)
            exact ⟨(fun h => absurd h (by decide)), (fun _ => ⟨_, _, _, rfl, z0, ⟨by omega, by omega⟩, ⟨by omega, by omega⟩, ⟨by omega, by omega⟩, (by (try rw [wg1]) <;> (try rw [wg2]) <;> (try rw [wg3]) <;> (try rw [wg4]) <;> (try rw [wg5]) <;> (try rw [wg6]) <;> omega), (by (try rw [wg1]) <;> (try rw [wg2]) <;> (try rw [wg3]) <;> (try rw [wg4]) <;> (try rw [wg5]) <;> (try rw [wg6]) <;> omega), i2, (by (try rw [wg1]) <;> (try rw [wg2]) <;> (try rw [wg3]) <;> (try rw [wg4]) <;> (try rw [wg5]) <;> (try rw [wg6]) <;> omega), (rOk_mk (by omega) (by omega) (by omega) (by omega) (by omega) (by omega)), (by (try rw [wg1]) <;> (try rw [wg2]) <;> (try rw [wg3]) <;> (try rw [wg4]) <;> (try rw [wg5]) <;> (try rw [wg6]) <;> omega), rfl, rfl⟩)⟩
          · refine And.intro ⟨by omega, by omega⟩ (And.intro (fun c68 => ?_) (fun c68 => ?_))
            · refine And.intro ⟨⟨by omega, by omega⟩, ⟨by omega, by omega⟩⟩ (And.intro (fun c69 => ?_) (fun c69 => ?_))
              · refine Exists.intro (Int.toNat (70)) (And.intro (by (try rw [wg1]) <;> (try rw [wg2]) <;> (try rw [wg3]) <;> (try rw [wg4]) <;> (try rw [wg5]) <;> (try rw [wg6]) <;> omega) ?_)
                exact ⟨(fun h => absurd h (by decide)), (fun _ => ⟨_, _, _, rfl, z0, ⟨by omega, by omega⟩, ⟨by omega, by omega⟩, ⟨by omega, by omega⟩, (by (try rw [wg1]) <;> (try rw [wg2]) <;> (try rw [wg3]) <;> (try rw [wg4]) <;> (try rw [wg5]) <;> (try rw [wg6]) <;> omega), (by (try rw [wg1]) <;> (try rw [wg2]) <;> (try rw [wg3]) <;> (try rw [wg4]) <;> (try rw [wg5]) <;> (try rw [wg6]) <;> omega), i2, (by (try rw [wg1]) <;> (try rw [wg2]) <;> (try rw [wg3]) <;> (try rw [wg4]) <;> (try rw [wg5]) <;> (try rw [wg6]) <;> omega), (rOk_mk (by omega) (by omega) (by omega) (by omega) (by omega) (by omega)), (by (try rw [wg1]) <;> (try rw [wg2]) <;> (try rw [wg3]) <;> (try rw [wg4]) <;> (try rw [wg5]) <;> (try rw [wg6]) <;> omega), rfl, rfl⟩)⟩
              · refine And.intro ⟨by omega, by omega⟩ (And.intro (fun c70 => ?_) (fun c70 => ?_))
                · refine ⟨yk_X9_fail, ym_X9_fail hg d (by omega), _, rfl, ⟨by omega, by omega⟩, ?_⟩
                  intro x71 m72 qm72 kx71 lx71 p73
                  have z74 := zfx_t z0 qm72 rfl rfl
                  have w75 : m72.1 66 ((31 : Nat) : Int) = g1 := (qm72.2.1 31 rfl).trans wg1
                  have w76 : m72.1 66 ((30 : Nat) : Int) = g2 := (qm72.2.1 30 rfl).trans wg2
                  have w77 : m72.1 66 ((33 : Nat) : Int) = g3 := (qm72.2.1 33 rfl).trans wg3
                  have w78 : m72.1 66 ((34 : Nat) : Int) = g4 := (qm72.2.1 34 rfl).trans wg4
                  have w79 : m72.1 66 ((32 : Nat) : Int) = g5 := (qm72.2.1 32 rfl).trans wg5
                  have w80 : m72.1 66 ((38 : Nat) : Int) = g6 := (qm72.2.1 38 rfl).trans wg6
                  exact And.intro (zrtb (by omega)) (And.intro ⟨by omega, by omega⟩ (hQ _ _ z74 (by omega) (by omega) (by (try rw [w75]) <;> (try rw [w76]) <;> (try rw [w77]) <;> (try rw [w78]) <;> (try rw [w79]) <;> (try rw [w80]) <;> (try rw [wg1]) <;> (try rw [wg2]) <;> (try rw [wg3]) <;> (try rw [wg4]) <;> (try rw [wg5]) <;> (try rw [wg6]) <;> omega) (by (try rw [w75]) <;> (try rw [w76]) <;> (try rw [w77]) <;> (try rw [w78]) <;> (try rw [w79]) <;> (try rw [w80]) <;> (try rw [wg1]) <;> (try rw [wg2]) <;> (try rw [wg3]) <;> (try rw [wg4]) <;> (try rw [wg5]) <;> (try rw [wg6]) <;> omega) (by (try rw [w75]) <;> (try rw [w76]) <;> (try rw [w77]) <;> (try rw [w78]) <;> (try rw [w79]) <;> (try rw [w80]) <;> (try rw [wg1]) <;> (try rw [wg2]) <;> (try rw [wg3]) <;> (try rw [wg4]) <;> (try rw [wg5]) <;> (try rw [wg6]) <;> omega) (fun h => by omega) (fun q _ => ⟨by rw [qm72.1 100 (by decide) rfl], by rw [qm72.1 101 (by decide) rfl], by rw [qm72.1 102 (by decide) rfl]⟩) (fun h => by omega) (fun h _ => by omega) (Or.inl ⟨by omega, rFa_f hp1 hp2.1.2.2.2.2.2 (yR_s (yR_r τ _) (ym10r_7 (by omega) (by omega) (by omega) (by omega))) p73⟩)))
                · refine And.intro ⟨⟨by omega, by omega⟩, ⟨by omega, by omega⟩⟩ (And.intro (fun c81 => ?_) (fun c81 => ?_))
                  · refine Exists.intro (Int.toNat (70)) (And.intro (by (try rw [wg1]) <;> (try rw [wg2]) <;> (try rw [wg3]) <;> (try rw [wg4]) <;> (try rw [wg5]) <;> (try rw [wg6]) <;> omega) ?_)
                    exact ⟨(fun h => absurd h (by decide)), (fun _ => ⟨_, _, _, rfl, z0, ⟨by omega, by omega⟩, ⟨by omega, by omega⟩, ⟨by omega, by omega⟩, (by (try rw [wg1]) <;> (try rw [wg2]) <;> (try rw [wg3]) <;> (try rw [wg4]) <;> (try rw [wg5]) <;> (try rw [wg6]) <;> omega), (by (try rw [wg1]) <;> (try rw [wg2]) <;> (try rw [wg3]) <;> (try rw [wg4]) <;> (try rw [wg5]) <;> (try rw [wg6]) <;> omega), i2, (by (try rw [wg1]) <;> (try rw [wg2]) <;> (try rw [wg3]) <;> (try rw [wg4]) <;> (try rw [wg5]) <;> (try rw [wg6]) <;> omega), (rOk_mk (by omega) (by omega) (by omega) (by omega) (by omega) (by omega)), (by (try rw [wg1]) <;> (try rw [wg2]) <;> (try rw [wg3]) <;> (try rw [wg4]) <;> (try rw [wg5]) <;> (try rw [wg6]) <;> omega), rfl, rfl⟩)⟩
                  · refine ⟨yk_X9_fail, ym_X9_fail hg d (by omega), _, rfl, ⟨by omega, by omega⟩, ?_⟩
                    intro x82 m83 qm83 kx82 lx82 p84
                    have z85 := zfx_t z0 qm83 rfl rfl
                    have w86 : m83.1 66 ((31 : Nat) : Int) = g1 := (qm83.2.1 31 rfl).trans wg1
                    have w87 : m83.1 66 ((30 : Nat) : Int) = g2 := (qm83.2.1 30 rfl).trans wg2
                    have w88 : m83.1 66 ((33 : Nat) : Int) = g3 := (qm83.2.1 33 rfl).trans wg3
                    have w89 : m83.1 66 ((34 : Nat) : Int) = g4 := (qm83.2.1 34 rfl).trans wg4
                    have w90 : m83.1 66 ((32 : Nat) : Int) = g5 := (qm83.2.1 32 rfl).trans wg5
                    have w91 : m83.1 66 ((38 : Nat) : Int) = g6 := (qm83.2.1 38 rfl).trans wg6
                    exact And.intro (zrtb (by omega)) (And.intro ⟨by omega, by omega⟩ (hQ _ _ z85 (by omega) (by omega) (by (try rw [w86]) <;> (try rw [w87]) <;> (try rw [w88]) <;> (try rw [w89]) <;> (try rw [w90]) <;> (try rw [w91]) <;> (try rw [wg1]) <;> (try rw [wg2]) <;> (try rw [wg3]) <;> (try rw [wg4]) <;> (try rw [wg5]) <;> (try rw [wg6]) <;> omega) (by (try rw [w86]) <;> (try rw [w87]) <;> (try rw [w88]) <;> (try rw [w89]) <;> (try rw [w90]) <;> (try rw [w91]) <;> (try rw [wg1]) <;> (try rw [wg2]) <;> (try rw [wg3]) <;> (try rw [wg4]) <;> (try rw [wg5]) <;> (try rw [wg6]) <;> omega) (by (try rw [w86]) <;> (try rw [w87]) <;> (try rw [w88]) <;> (try rw [w89]) <;> (try rw [w90]) <;> (try rw [w91]) <;> (try rw [wg1]) <;> (try rw [wg2]) <;> (try rw [wg3]) <;> (try rw [wg4]) <;> (try rw [wg5]) <;> (try rw [wg6]) <;> omega) (fun h => by omega) (fun q _ => ⟨by rw [qm83.1 100 (by decide) rfl], by rw [qm83.1 101 (by decide) rfl], by rw [qm83.1 102 (by decide) rfl]⟩) (fun h => by omega) (fun h _ => by omega) (Or.inl ⟨by omega, rFa_f hp1 hp2.1.2.2.2.2.2 (yR_s (yR_r τ _) (ym10r_7 (by omega) (by omega) (by omega) (by omega))) p84⟩)))
            · refine And.intro ⟨by omega, by omega⟩ (And.intro (fun c92 => ?_) (fun c92 => ?_))
              · refine ⟨yk_X9_fail, ym_X9_fail hg d (by omega), _, rfl, ⟨by omega, by omega⟩, ?_⟩
                intro x93 m94 qm94 kx93 lx93 p95
                have z96 := zfx_t z0 qm94 rfl rfl
                have w97 : m94.1 66 ((31 : Nat) : Int) = g1 := (qm94.2.1 31 rfl).trans wg1
                have w98 : m94.1 66 ((30 : Nat) : Int) = g2 := (qm94.2.1 30 rfl).trans wg2
                have w99 : m94.1 66 ((33 : Nat) : Int) = g3 := (qm94.2.1 33 rfl).trans wg3
                have w100 : m94.1 66 ((34 : Nat) : Int) = g4 := (qm94.2.1 34 rfl).trans wg4
                have w101 : m94.1 66 ((32 : Nat) : Int) = g5 := (qm94.2.1 32 rfl).trans wg5
                have w102 : m94.1 66 ((38 : Nat) : Int) = g6 := (qm94.2.1 38 rfl).trans wg6
                exact And.intro (zrtb (by omega)) (And.intro ⟨by omega, by omega⟩ (hQ _ _ z96 (by omega) (by omega) (by (try rw [w97]) <;> (try rw [w98]) <;> (try rw [w99]) <;> (try rw [w100]) <;> (try rw [w101]) <;> (try rw [w102]) <;> (try rw [wg1]) <;> (try rw [wg2]) <;> (try rw [wg3]) <;> (try rw [wg4]) <;> (try rw [wg5]) <;> (try rw [wg6]) <;> omega) (by (try rw [w97]) <;> (try rw [w98]) <;> (try rw [w99]) <;> (try rw [w100]) <;> (try rw [w101]) <;> (try rw [w102]) <;> (try rw [wg1]) <;> (try rw [wg2]) <;> (try rw [wg3]) <;> (try rw [wg4]) <;> (try rw [wg5]) <;> (try rw [wg6]) <;> omega) (by (try rw [w97]) <;> (try rw [w98]) <;> (try rw [w99]) <;> (try rw [w100]) <;> (try rw [w101]) <;> (try rw [w102]) <;> (try rw [wg1]) <;> (try rw [wg2]) <;> (try rw [wg3]) <;> (try rw [wg4]) <;> (try rw [wg5]) <;> (try rw [wg6]) <;> omega) (fun h => by omega) (fun q _ => ⟨by rw [qm94.1 100 (by decide) rfl], by rw [qm94.1 101 (by decide) rfl], by rw [qm94.1 102 (by decide) rfl]⟩) (fun h => by omega) (fun h _ => by omega) (Or.inl ⟨by omega, rFa_f hp1 hp2.1.2.2.2.2.2 (yR_s (yR_r τ _) (ym10r_7 (by omega) (by omega) (by omega) (by omega))) p95⟩)))
              · refine And.intro ⟨⟨by omega, by omega⟩, ⟨by omega, by omega⟩⟩ (And.intro (fun c103 => ?_) (fun c103 => ?_))
                · refine Exists.intro (Int.toNat (70)) (And.intro (by (try rw [wg1]) <;> (try rw [wg2]) <;> (try rw [wg3]) <;> (try rw [wg4]) <;> (try rw [wg5]) <;> (try rw [wg6]) <;> omega) ?_)
                  exact ⟨(fun h => absurd h (by decide)), (fun _ => ⟨_, _, _, rfl, z0, ⟨by omega, by omega⟩, ⟨by omega, by omega⟩, ⟨by omega, by omega⟩, (by (try rw [wg1]) <;> (try rw [wg2]) <;> (try rw [wg3]) <;> (try rw [wg4]) <;> (try rw [wg5]) <;> (try rw [wg6]) <;> omega), (by (try rw [wg1]) <;> (try rw [wg2]) <;> (try rw [wg3]) <;> (try rw [wg4]) <;> (try rw [wg5]) <;> (try rw [wg6]) <;> omega), i2, (by (try rw [wg1]) <;> (try rw [wg2]) <;> (try rw [wg3]) <;> (try rw [wg4]) <;> (try rw [wg5]) <;> (try rw [wg6]) <;> omega), (rOk_mk (by omega) (by omega) (by omega) (by omega) (by omega) (by omega)), (by (try rw [wg1]) <;> (try rw [wg2]) <;> (try rw [wg3]) <;> (try rw [wg4]) <;> (try rw [wg5]) <;> (try rw [wg6]) <;> omega), rfl, rfl⟩)⟩
                · exfalso; omega
        · refine And.intro ⟨by omega, by omega⟩ (And.intro (fun c104 => ?_) (fun c104 => ?_))
          · refine And.intro ⟨by omega, by omega⟩ (And.intro (fun c105 => ?_) (fun c105 => ?_))
            · exfalso; omega
            · refine And.intro ⟨by omega, by omega⟩ (And.intro (fun c106 => ?_) (fun c106 => ?_))
              · refine And.intro ⟨⟨by omega, by omega⟩, ⟨by omega, by omega⟩⟩ (And.intro (fun c107 => ?_) (fun c107 => ?_))
                · refine Exists.intro (Int.toNat (70)) (And.intro (by (try rw [wg1]) <;> (try rw [wg2]) <;> (try rw [wg3]) <;> (try rw [wg4]) <;> (try rw [wg5]) <;> (try rw [wg6]) <;> omega) ?_)
                  exact ⟨(fun h => absurd h (by decide)), (fun _ => ⟨_, _, _, rfl, z0, ⟨by omega, by omega⟩, ⟨by omega, by omega⟩, ⟨by omega, by omega⟩, (by (try rw [wg1]) <;> (try rw [wg2]) <;> (try rw [wg3]) <;> (try rw [wg4]) <;> (try rw [wg5]) <;> (try rw [wg6]) <;> omega), (by (try rw [wg1]) <;> (try rw [wg2]) <;> (try rw [wg3]) <;> (try rw [wg4]) <;> (try rw [wg5]) <;> (try rw [wg6]) <;> omega), i2, (by (try rw [wg1]) <;> (try rw [wg2]) <;> (try rw [wg3]) <;> (try rw [wg4]) <;> (try rw [wg5]) <;> (try rw [wg6]) <;> omega), (rOk_mk (by omega) (by omega) (by omega) (by omega) (by omega) (by omega)), (by (try rw [wg1]) <;> (try rw [wg2]) <;> (try rw [wg3]) <;> (try rw [wg4]) <;> (try rw [wg5]) <;> (try rw [wg6]) <;> omega), rfl, rfl⟩)⟩
                · refine And.intro ⟨by omega, by omega⟩ (And.intro (fun c108 => ?_) (fun c108 => ?_))
                  · refine ⟨yk_X9_fail, ym_X9_fail hg d (by omega), _, rfl, ⟨by omega, by omega⟩, ?_⟩
                    intro x109 m110 qm110 kx109 lx109 p111
                    have z112 := zfx_t z0 qm110 rfl rfl
                    have w113 : m110.1 66 ((31 : Nat) : Int) = g1 := (qm110.2.1 31 rfl).trans wg1
                    have w114 : m110.1 66 ((30 : Nat) : Int) = g2 := (qm110.2.1 30 rfl).trans wg2
                    have w115 : m110.1 66 ((33 : Nat) : Int) = g3 := (qm110.2.1 33 rfl).trans wg3
                    have w116 : m110.1 66 ((34 : Nat) : Int) = g4 := (qm110.2.1 34 rfl).trans wg4
                    have w117 : m110.1 66 ((32 : Nat) : Int) = g5 := (qm110.2.1 32 rfl).trans wg5
                    have w118 : m110.1 66 ((38 : Nat) : Int) = g6 := (qm110.2.1 38 rfl).trans wg6
                    exact And.intro (zrtb (by omega)) (And.intro ⟨by omega, by omega⟩ (hQ _ _ z112 (by omega) (by omega) (by (try rw [w113]) <;> (try rw [w114]) <;> (try rw [w115]) <;> (try rw [w116]) <;> (try rw [w117]) <;> (try rw [w118]) <;> (try rw [wg1]) <;> (try rw [wg2]) <;> (try rw [wg3]) <;> (try rw [wg4]) <;> (try rw [wg5]) <;> (try rw [wg6]) <;> omega) (by (try rw [w113]) <;> (try rw [w114]) <;> (try rw [w115]) <;> (try rw [w116]) <;> (try rw [w117]) <;> (try rw [w118]) <;> (try rw [wg1]) <;> (try rw [wg2]) <;> (try rw [wg3]) <;> (try rw [wg4]) <;> (try rw [wg5]) <;> (try rw [wg6]) <;> omega) (by (try rw [w113]) <;> (try rw [w114]) <;> (try rw [w115]) <;> (try rw [w116]) <;> (try rw [w117]) <;> (try rw [w118]) <;> (try rw [wg1]) <;> (try rw [wg2]) <;> (try rw [wg3]) <;> (try rw [wg4]) <;> (try rw [wg5]) <;> (try rw [wg6]) <;> omega) (fun h => by omega) (fun q _ => ⟨by rw [qm110.1 100 (by decide) rfl], by rw [qm110.1 101 (by decide) rfl], by rw [qm110.1 102 (by decide) rfl]⟩) (fun h => by omega) (fun h _ => by omega) (Or.inl ⟨by omega, rFa_f hp1 hp2.1.2.2.2.2.2 (yR_s (yR_r τ _) (ym10r_7 (by omega) (by omega) (by omega) (by omega))) p111⟩)))
                  · refine And.intro ⟨⟨by omega, by omega⟩, ⟨by omega, by omega⟩⟩ (And.intro (fun c119 => ?_) (fun c119 => ?_))
                    · refine Exists.intro (Int.toNat (70)) (And.intro (by (try rw [wg1]) <;> (try rw [wg2]) <;> (try rw [wg3]) <;> (try rw [wg4]) <;> (try rw [wg5]) <;> (try rw [wg6]) <;> omega) ?_)
                      exact ⟨(fun h => absurd h (by decide)), (fun _ => ⟨_, _, _, rfl, z0, ⟨by omega, by omega⟩, ⟨by omega, by omega⟩, ⟨by omega, by omega⟩, (by (try rw [wg1]) <;> (try rw [wg2]) <;> (try rw [wg3]) <;> (try rw [wg4]) <;> (try rw [wg5]) <;> (try rw [wg6]) <;> omega), (by (try rw [wg1]) <;> (try rw [wg2]) <;> (try rw [wg3]) <;> (try rw [wg4]) <;> (try rw [wg5]) <;> (try rw [wg6]) <;> omega), i2, (by (try rw [wg1]) <;> (try rw [wg2]) <;> (try rw [wg3]) <;> (try rw [wg4]) <;> (try rw [wg5]) <;> (try rw [wg6]) <;> omega), (rOk_mk (by omega) (by omega) (by omega) (by omega) (by omega) (by omega)), (by (try rw [wg1]) <;> (try rw [wg2]) <;> (try rw [wg3]) <;> (try rw [wg4]) <;> (try rw [wg5]) <;> (try rw [wg6]) <;> omega), rfl, rfl⟩)⟩
                    · refine ⟨yk_X9_fail, ym_X9_fail hg d (by omega), _, rfl, ⟨by omega, by omega⟩, ?_⟩
                      intro x120 m121 qm121 kx120 lx120 p122
                      have z123 := zfx_t z0 qm121 rfl rfl
                      have w124 : m121.1 66 ((31 : Nat) : Int) = g1 := (qm121.2.1 31 rfl).trans wg1
                      have w125 : m121.1 66 ((30 : Nat) : Int) = g2 := (qm121.2.1 30 rfl).trans wg2
                      have w126 : m121.1 66 ((33 : Nat) : Int) = g3 := (qm121.2.1 33 rfl).trans wg3
                      have w127 : m121.1 66 ((34 : Nat) : Int) = g4 := (qm121.2.1 34 rfl).trans wg4
                      have w128 : m121.1 66 ((32 : Nat) : Int) = g5 := (qm121.2.1 32 rfl).trans wg5
                      have w129 : m121.1 66 ((38 : Nat) : Int) = g6 := (qm121.2.1 38 rfl).trans wg6
                      exact And.intro (zrtb (by omega)) (And.intro ⟨by omega, by omega⟩ (hQ _ _ z123 (by omega) (by omega) (by (try rw [w124]) <;> (try rw [w125]) <;> (try rw [w126]) <;> (try rw [w127]) <;> (try rw [w128]) <;> (try rw [w129]) <;> (try rw [wg1]) <;> (try rw [wg2]) <;> (try rw [wg3]) <;> (try rw [wg4]) <;> (try rw [wg5]) <;> (try rw [wg6]) <;> omega) (by (try rw [w124]) <;> (try rw [w125]) <;> (try rw [w126]) <;> (try rw [w127]) <;> (try rw [w128]) <;> (try rw [w129]) <;> (try rw [wg1]) <;> (try rw [wg2]) <;> (try rw [wg3]) <;> (try rw [wg4]) <;> (try rw [wg5]) <;> (try rw [wg6]) <;> omega) (by (try rw [w124]) <;> (try rw [w125]) <;> (try rw [w126]) <;> (try rw [w127]) <;> (try rw [w128]) <;> (try rw [w129]) <;> (try rw [wg1]) <;> (try rw [wg2]) <;> (try rw [wg3]) <;> (try rw [wg4]) <;> (try rw [wg5]) <;> (try rw [wg6]) <;> omega) (fun h => by omega) (fun q _ => ⟨by rw [qm121.1 100 (by decide) rfl], by rw [qm121.1 101 (by decide) rfl], by rw [qm121.1 102 (by decide) rfl]⟩) (fun h => by omega) (fun h _ => by omega) (Or.inl ⟨by omega, rFa_f hp1 hp2.1.2.2.2.2.2 (yR_s (yR_r τ _) (ym10r_7 (by omega) (by omega) (by omega) (by omega))) p122⟩)))
              · refine And.intro ⟨by omega, by omega⟩ (And.intro (fun c130 => ?_) (fun c130 => ?_))
                · refine ⟨yk_X9_fail, ym_X9_fail hg d (by omega), _, rfl, ⟨by omega, by omega⟩, ?_⟩
                  intro x131 m132 qm132 kx131 lx131 p133
                  have z134 := zfx_t z0 qm132 rfl rfl
                  have w135 : m132.1 66 ((31 : Nat) : Int) = g1 := (qm132.2.1 31 rfl).trans wg1
                  have w136 : m132.1 66 ((30 : Nat) : Int) = g2 := (qm132.2.1 30 rfl).trans wg2
                  have w137 : m132.1 66 ((33 : Nat) : Int) = g3 := (qm132.2.1 33 rfl).trans wg3
                  have w138 : m132.1 66 ((34 : Nat) : Int) = g4 := (qm132.2.1 34 rfl).trans wg4
                  have w139 : m132.1 66 ((32 : Nat) : Int) = g5 := (qm132.2.1 32 rfl).trans wg5
                  have w140 : m132.1 66 ((38 : Nat) : Int) = g6 := (qm132.2.1 38 rfl).trans wg6
                  exact And.intro (zrtb (by omega)) (And.intro ⟨by omega, by omega⟩ (hQ _ _ z134 (by omega) (by omega) (by (try rw [w135]) <;> (try rw [w136]) <;> (try rw [w137]) <;> (try rw [w138]) <;> (try rw [w139]) <;> (try rw [w140]) <;> (try rw [wg1]) <;> (try rw [wg2]) <;> (try rw [wg3]) <;> (try rw [wg4]) <;> (try rw [wg5]) <;> (try rw [wg6]) <;> omega) (by (try rw [w135]) <;> (try rw [w136]) <;> (try rw [w137]) <;> (try rw [w138]) <;> (try rw [w139]) <;> (try rw [w140]) <;> (try rw [wg1]) <;> (try rw [wg2]) <;> (try rw [wg3]) <;> (try rw [wg4]) <;> (try rw [wg5]) <;> (try rw [wg6]) <;> omega) (by (try rw [w135]) <;> (try rw [w136]) <;> (try rw [w137]) <;> (try rw [w138]) <;> (try rw [w139]) <;> (try rw [w140]) <;> (try rw [wg1]) <;> (try rw [wg2]) <;> (try rw [wg3]) <;> (try rw [wg4]) <;> (try rw [wg5]) <;> (try rw [wg6]) <;> omega) (fun h => by omega) (fun q _ => ⟨by rw [qm132.1 100 (by decide) rfl], by rw [qm132.1 101 (by decide) rfl], by rw [qm132.1 102 (by decide) rfl]⟩) (fun h => by omega) (fun h _ => by omega) (Or.inl ⟨by omega, rFa_f hp1 hp2.1.2.2.2.2.2 (yR_s (yR_r τ _) (ym10r_7 (by omega) (by omega) (by omega) (by omega))) p133⟩)))
                · refine And.intro ⟨⟨by omega, by omega⟩, ⟨by omega, by omega⟩⟩ (And.intro (fun c141 => ?_) (fun c141 => ?_))
                  · refine Exists.intro (Int.toNat (70)) (And.intro (by (try rw [wg1]) <;> (try rw [wg2]) <;> (try rw [wg3]) <;> (try rw [wg4]) <;> (try rw [wg5]) <;> (try rw [wg6]) <;> omega) ?_)
                    exact ⟨(fun h => absurd h (by decide)), (fun _ => ⟨_, _, _, rfl, z0, ⟨by omega, by omega⟩, ⟨by omega, by omega⟩, ⟨by omega, by omega⟩, (by (try rw [wg1]) <;> (try rw [wg2]) <;> (try rw [wg3]) <;> (try rw [wg4]) <;> (try rw [wg5]) <;> (try rw [wg6]) <;> omega), (by (try rw [wg1]) <;> (try rw [wg2]) <;> (try rw [wg3]) <;> (try rw [wg4]) <;> (try rw [wg5]) <;> (try rw [wg6]) <;> omega), i2, (by (try rw [wg1]) <;> (try rw [wg2]) <;> (try rw [wg3]) <;> (try rw [wg4]) <;> (try rw [wg5]) <;> (try rw [wg6]) <;> omega), (rOk_mk (by omega) (by omega) (by omega) (by omega) (by omega) (by omega)), (by (try rw [wg1]) <;> (try rw [wg2]) <;> (try rw [wg3]) <;> (try rw [wg4]) <;> (try rw [wg5]) <;> (try rw [wg6]) <;> omega), rfl, rfl⟩)⟩
                  · exfalso; omega
          · refine ⟨yk_X9_fail, ym_X9_fail hg d (by omega), _, rfl, ⟨by omega, by omega⟩, ?_⟩
            intro x142 m143 qm143 kx142 lx142 p144
            have z145 := zfx_t z0 qm143 rfl rfl
            have w146 : m143.1 66 ((31 : Nat) : Int) = g1 := (qm143.2.1 31 rfl).trans wg1
            have w147 : m143.1 66 ((30 : Nat) : Int) = g2 := (qm143.2.1 30 rfl).trans wg2
            have w148 : m143.1 66 ((33 : Nat) : Int) = g3 := (qm143.2.1 33 rfl).trans wg3
            have w149 : m143.1 66 ((34 : Nat) : Int) = g4 := (qm143.2.1 34 rfl).trans wg4
            have w150 : m143.1 66 ((32 : Nat) : Int) = g5 := (qm143.2.1 32 rfl).trans wg5
            have w151 : m143.1 66 ((38 : Nat) : Int) = g6 := (qm143.2.1 38 rfl).trans wg6
            exact And.intro (zrtb (by omega)) (And.intro ⟨by omega, by omega⟩ (hQ _ _ z145 (by omega) (by omega) (by (try rw [w146]) <;> (try rw [w147]) <;> (try rw [w148]) <;> (try rw [w149]) <;> (try rw [w150]) <;> (try rw [w151]) <;> (try rw [wg1]) <;> (try rw [wg2]) <;> (try rw [wg3]) <;> (try rw [wg4]) <;> (try rw [wg5]) <;> (try rw [wg6]) <;> omega) (by (try rw [w146]) <;> (try rw [w147]) <;> (try rw [w148]) <;> (try rw [w149]) <;> (try rw [w150]) <;> (try rw [w151]) <;> (try rw [wg1]) <;> (try rw [wg2]) <;> (try rw [wg3]) <;> (try rw [wg4]) <;> (try rw [wg5]) <;> (try rw [wg6]) <;> omega) (by (try rw [w146]) <;> (try rw [w147]) <;> (try rw [w148]) <;> (try rw [w149]) <;> (try rw [w150]) <;> (try rw [w151]) <;> (try rw [wg1]) <;> (try rw [wg2]) <;> (try rw [wg3]) <;> (try rw [wg4]) <;> (try rw [wg5]) <;> (try rw [wg6]) <;> omega) (fun h => by omega) (fun q _ => ⟨by rw [qm143.1 100 (by decide) rfl], by rw [qm143.1 101 (by decide) rfl], by rw [qm143.1 102 (by decide) rfl]⟩) (fun h => by omega) (fun h _ => by omega) (Or.inl ⟨by omega, rFa_f hp1 hp2.1.2.2.2.2.2 (yR_s (yR_r τ _) (ym10r_6 (by omega) (by omega) (by omega))) p144⟩)))
  · intro vs m0 n hI
    replace hI := hI.2 rfl
    clear z0
    obtain ⟨v3, v5, v6, rfl, z0, hv3, hv5, hv6, i0, i1, i2, i3, i4, i5, i6, rfl⟩ := hI
    replace i6 := i6.symm
    subst i6
    replace i0 := i0.symm
    subst i0
    intro x152 hx152 kx152 lx152
    rw [wg6] at hx152
    refine And.intro ⟨by omega, by omega⟩ ?_
    intro m153 em153
    have z154 := zfx_f z0 em153 rfl
    have w155 : m153.1 66 ((31 : Nat) : Int) = g1 := by rw [em153]; exact (zu_nk (by decide)).trans wg1
    have w156 : m153.1 66 ((30 : Nat) : Int) = g2 := by rw [em153]; exact (zu_nk (by decide)).trans wg2
    have w157 : m153.1 66 ((33 : Nat) : Int) = g3 := by rw [em153]; exact (zu_nk (by decide)).trans wg3
    have w158 : m153.1 66 ((34 : Nat) : Int) = g4 := by rw [em153]; exact (zu_nk (by decide)).trans wg4
    have w159 : m153.1 66 ((32 : Nat) : Int) = g5 := by rw [em153]; exact (zu_nk (by decide)).trans wg5
    have w160 : m153.1 66 ((38 : Nat) : Int) = (x152 + 1) := by rw [em153]; exact zu_at
    refine And.intro ⟨by omega, by omega⟩ (And.intro (fun c161 => ?_) (fun c161 => ?_))
    · refine And.intro ⟨by omega, by omega⟩ (And.intro ⟨by omega, by omega⟩ ?_)
      intro m162 em162
      have z163 := zfx_r z154 em162 rfl (by decide)
      have w164 : m162.1 66 ((31 : Nat) : Int) = g1 := by rw [em162]; exact (congrFun (zu_ne (by decide)) _).trans w155
      have w165 : m162.1 66 ((30 : Nat) : Int) = g2 := by rw [em162]; exact (congrFun (zu_ne (by decide)) _).trans w156
      have w166 : m162.1 66 ((33 : Nat) : Int) = g3 := by rw [em162]; exact (congrFun (zu_ne (by decide)) _).trans w157
      have w167 : m162.1 66 ((34 : Nat) : Int) = g4 := by rw [em162]; exact (congrFun (zu_ne (by decide)) _).trans w158
      have w168 : m162.1 66 ((32 : Nat) : Int) = g5 := by rw [em162]; exact (congrFun (zu_ne (by decide)) _).trans w159
      have w169 : m162.1 66 ((38 : Nat) : Int) = (x152 + 1) := by rw [em162]; exact (congrFun (zu_ne (by decide)) _).trans w160
      clear w155 w156 w157 w158 w159 w160
      refine And.intro ⟨by omega, by omega⟩ (And.intro (fun c170 => ?_) (fun c170 => ?_))
      · refine And.intro ⟨by omega, by omega⟩ (And.intro ⟨by omega, by omega⟩ ?_)
        intro m171 em171
        have z172 := zfx_r z163 em171 rfl (by decide)
        have w173 : m171.1 66 ((31 : Nat) : Int) = g1 := by rw [em171]; exact (congrFun (zu_ne (by decide)) _).trans w164
        have w174 : m171.1 66 ((30 : Nat) : Int) = g2 := by rw [em171]; exact (congrFun (zu_ne (by decide)) _).trans w165
        have w175 : m171.1 66 ((33 : Nat) : Int) = g3 := by rw [em171]; exact (congrFun (zu_ne (by decide)) _).trans w166
        have w176 : m171.1 66 ((34 : Nat) : Int) = g4 := by rw [em171]; exact (congrFun (zu_ne (by decide)) _).trans w167
        have w177 : m171.1 66 ((32 : Nat) : Int) = g5 := by rw [em171]; exact (congrFun (zu_ne (by decide)) _).trans w168
        have w178 : m171.1 66 ((38 : Nat) : Int) = (x152 + 1) := by rw [em171]; exact (congrFun (zu_ne (by decide)) _).trans w169
        clear w164 w165 w166 w167 w168 w169
        refine And.intro ⟨by omega, by omega⟩ (And.intro ⟨by omega, by omega⟩ ?_)
        intro m179 em179
        have z180 := zfx_r z172 em179 rfl (by decide)
        have w181 : m179.1 66 ((31 : Nat) : Int) = g1 := by rw [em179]; exact (congrFun (zu_ne (by decide)) _).trans w173
        have w182 : m179.1 66 ((30 : Nat) : Int) = g2 := by rw [em179]; exact (congrFun (zu_ne (by decide)) _).trans w174
        have w183 : m179.1 66 ((33 : Nat) : Int) = g3 := by rw [em179]; exact (congrFun (zu_ne (by decide)) _).trans w175
        have w184 : m179.1 66 ((34 : Nat) : Int) = g4 := by rw [em179]; exact (congrFun (zu_ne (by decide)) _).trans w176
        have w185 : m179.1 66 ((32 : Nat) : Int) = g5 := by rw [em179]; exact (congrFun (zu_ne (by decide)) _).trans w177
        have w186 : m179.1 66 ((38 : Nat) : Int) = (x152 + 1) := by rw [em179]; exact (congrFun (zu_ne (by decide)) _).trans w178
        clear w173 w174 w175 w176 w177 w178
        refine ⟨yk_X9_pass, ym_X9_pass hg d (by omega), rfl, (by (try rw [w181]) <;> (try rw [w182]) <;> (try rw [w183]) <;> (try rw [w184]) <;> (try rw [w185]) <;> (try rw [w186]) <;> (try rw [wg1]) <;> (try rw [wg2]) <;> (try rw [wg3]) <;> (try rw [wg4]) <;> (try rw [wg5]) <;> (try rw [wg6]) <;> omega), ?_⟩
        intro m187 qm187 p188 p189 p190 p191 p192
        have z193 := zfx_t z180 qm187 rfl rfl
        have w194 : m187.1 66 ((30 : Nat) : Int) = g2 := (qm187.2.1 30 rfl).trans w182
        have w195 : m187.1 66 ((38 : Nat) : Int) = (x152 + 1) := (qm187.2.1 38 rfl).trans w186
        obtain ⟨g196, wg196⟩ : ∃ z : Int, m187.1 66 ((31 : Nat) : Int) = z := ⟨_, rfl⟩
        obtain ⟨g197, wg197⟩ : ∃ z : Int, m187.1 66 ((33 : Nat) : Int) = z := ⟨_, rfl⟩
        obtain ⟨g198, wg198⟩ : ∃ z : Int, m187.1 66 ((34 : Nat) : Int) = z := ⟨_, rfl⟩
        obtain ⟨g199, wg199⟩ : ∃ z : Int, m187.1 66 ((32 : Nat) : Int) = z := ⟨_, rfl⟩
        try rw [wg196] at p188
        try rw [w194] at p188
        try rw [wg197] at p188
        try rw [wg198] at p188
        try rw [wg199] at p188
        try rw [w195] at p188
        try rw [w181] at p188
        try rw [w182] at p188
        try rw [w183] at p188
        try rw [w184] at p188
        try rw [w185] at p188
        try rw [w186] at p188
        try rw [wg1] at p188
        try rw [wg2] at p188
        try rw [wg3] at p188
        try rw [wg4] at p188
        try rw [wg5] at p188
        try rw [wg6] at p188
        try rw [wg196] at p189
        try rw [w194] at p189
        try rw [wg197] at p189
        try rw [wg198] at p189
        try rw [wg199] at p189
        try rw [w195] at p189
        try rw [w181] at p189
        try rw [w182] at p189
        try rw [w183] at p189
        try rw [w184] at p189
        try rw [w185] at p189
        try rw [w186] at p189
        try rw [wg1] at p189
        try rw [wg2] at p189
        try rw [wg3] at p189
        try rw [wg4] at p189
        try rw [wg5] at p189
        try rw [wg6] at p189
        try rw [wg196] at p190
        try rw [w194] at p190
        try rw [wg197] at p190
        try rw [wg198] at p190
        try rw [wg199] at p190
        try rw [w195] at p190
        try rw [w181] at p190
        try rw [w182] at p190
        try rw [w183] at p190
        try rw [w184] at p190
        try rw [w185] at p190
        try rw [w186] at p190
        try rw [wg1] at p190
        try rw [wg2] at p190
        try rw [wg3] at p190
        try rw [wg4] at p190
        try rw [wg5] at p190
        try rw [wg6] at p190
        try rw [wg196] at p191
        try rw [w194] at p191
        try rw [wg197] at p191
        try rw [wg198] at p191
        try rw [wg199] at p191
        try rw [w195] at p191
        try rw [w181] at p191
        try rw [w182] at p191
        try rw [w183] at p191
        try rw [w184] at p191
        try rw [w185] at p191
        try rw [w186] at p191
        try rw [wg1] at p191
        try rw [wg2] at p191
        try rw [wg3] at p191
        try rw [wg4] at p191
        try rw [wg5] at p191
        try rw [wg6] at p191
        clear w181 w182 w183 w184 w185 w186
        have R100 : ∀ q : Int, m187.1 100 q = if q = a3 then 0 else μ.1 100 q := fun q => by rw [qm187.1 100 (by decide) rfl, em179, zu_ne (by decide), em171, zu_ne (by decide), em162]; by_cases hq : q = a3 <;> first | (rw [if_pos hq, hq]; exact zu_at) | (rw [if_neg hq, zu_nk hq, em153, zu_ne (by decide)])
        have R101 : ∀ q : Int, m187.1 101 q = if q = a3 then v6 else μ.1 101 q := fun q => by rw [qm187.1 101 (by decide) rfl, em179, zu_ne (by decide), em171]; by_cases hq : q = a3 <;> first | (rw [if_pos hq, hq]; exact zu_at) | (rw [if_neg hq, zu_nk hq, em162, zu_ne (by decide), em153, zu_ne (by decide)])
        have R102 : ∀ q : Int, m187.1 102 q = if q = a3 then 0 else μ.1 102 q := fun q => by rw [qm187.1 102 (by decide) rfl, em179]; by_cases hq : q = a3 <;> first | (rw [if_pos hq, hq]; exact zu_at) | (rw [if_neg hq, zu_nk hq, em171, zu_ne (by decide), em162, zu_ne (by decide), em153, zu_ne (by decide)])
        have G4 : ∀ j : Nat, j ≠ 66 → j ≠ 100 → j ≠ 101 → j ≠ 102 → m179.1 j = μ.1 j := fun j a b c d => by rw [em179, zu_ne d, em171, zu_ne c, em162, zu_ne b, em153, zu_ne a]
        have G5 : ∀ k : Nat, k ≠ 38 → m179.1 66 ((k : Nat) : Int) = μ.1 66 ((k : Nat) : Int) := fun k a => by rw [em179, zu_ne (by decide), em171, zu_ne (by decide), em162, zu_ne (by decide), em153, zu_nk (by omega)]
        have L4 : rLx m179 τ p := rLx_f hp1 (G4 85 (by decide) (by decide) (by decide) (by decide)) (fun k a b => G5 k (by omega))
        have L5 := rLx_p L4 (qm187.1 85 (by decide) rfl) (qm187.2.1 30 rfl) p192
        have N5 : rNg cb pb m187 (yN B 0 2 (B.1 0 2 + 1)) := rNu_n hp2 (fun j hj => by rw [qm187.1 j (by rcases hj with h | h | h | h | h | h <;> rw [h] <;> decide) rfl]; exact G4 j (by omega) (by omega) (by omega) (by omega)) (fun k hk => by rw [qm187.2.1 k (by rcases hk with h | h | h | h | h <;> rw [h] <;> rfl)]; exact G5 k (by omega)) (by rw [qm187.2.1 38 rfl, em179, zu_ne (by decide), em171, zu_ne (by decide), em162, zu_ne (by decide), em153, zu_at]; omega)
        exact And.intro (zrtb (by omega)) (And.intro ⟨by omega, by omega⟩ (hQ _ _ z193 (by omega) (by omega) (by (try rw [wg196]) <;> (try rw [w194]) <;> (try rw [wg197]) <;> (try rw [wg198]) <;> (try rw [wg199]) <;> (try rw [w195]) <;> (try rw [wg1]) <;> (try rw [wg2]) <;> (try rw [wg3]) <;> (try rw [wg4]) <;> (try rw [wg5]) <;> (try rw [wg6]) <;> omega) (by (try rw [wg196]) <;> (try rw [w194]) <;> (try rw [wg197]) <;> (try rw [wg198]) <;> (try rw [wg199]) <;> (try rw [w195]) <;> (try rw [wg1]) <;> (try rw [wg2]) <;> (try rw [wg3]) <;> (try rw [wg4]) <;> (try rw [wg5]) <;> (try rw [wg6]) <;> omega) (by (try rw [wg196]) <;> (try rw [w194]) <;> (try rw [wg197]) <;> (try rw [wg198]) <;> (try rw [wg199]) <;> (try rw [w195]) <;> (try rw [wg1]) <;> (try rw [wg2]) <;> (try rw [wg3]) <;> (try rw [wg4]) <;> (try rw [wg5]) <;> (try rw [wg6]) <;> omega) (fun _ => by rw [R102, R100, R101, if_pos rfl, if_pos rfl, if_pos rfl]; omega) (fun q hq => ⟨by rw [R100, if_neg hq], by rw [R101, if_neg hq], by rw [R102, if_neg hq]⟩) (fun _ => by rw [R100, R101, if_pos rfl, if_pos rfl]; exact ⟨fun h => by omega, fun h => by omega⟩) (fun _ h0 => by rw [R100, R101, if_pos rfl, if_pos rfl]; have h1 := i5.2.2 (by omega); exact ⟨fun h => by omega, fun h => by omega, by omega⟩) (Or.inr ⟨rfl, i4, L5, N5, by rw [R102, if_pos rfl], by rw [R100, R101, if_pos rfl, if_pos rfl]; omega⟩)))
      · exfalso; omega
    · refine And.intro ⟨by omega, by omega⟩ (And.intro ⟨by omega, by omega⟩ ?_)
      intro m200 em200
      have z201 := zfx_r z154 em200 rfl (by decide)
      have w202 : m200.1 66 ((31 : Nat) : Int) = g1 := by rw [em200]; exact (congrFun (zu_ne (by decide)) _).trans w155
      have w203 : m200.1 66 ((30 : Nat) : Int) = g2 := by rw [em200]; exact (congrFun (zu_ne (by decide)) _).trans w156
      have w204 : m200.1 66 ((33 : Nat) : Int) = g3 := by rw [em200]; exact (congrFun (zu_ne (by decide)) _).trans w157
      have w205 : m200.1 66 ((34 : Nat) : Int) = g4 := by rw [em200]; exact (congrFun (zu_ne (by decide)) _).trans w158
      have w206 : m200.1 66 ((32 : Nat) : Int) = g5 := by rw [em200]; exact (congrFun (zu_ne (by decide)) _).trans w159
      have w207 : m200.1 66 ((38 : Nat) : Int) = (x152 + 1) := by rw [em200]; exact (congrFun (zu_ne (by decide)) _).trans w160
      clear w155 w156 w157 w158 w159 w160
      refine And.intro ⟨by omega, by omega⟩ (And.intro (fun c208 => ?_) (fun c208 => ?_))
      · exfalso; omega
      · refine And.intro ⟨by omega, by omega⟩ (And.intro ⟨by omega, by omega⟩ ?_)
        intro m209 em209
        have z210 := zfx_r z201 em209 rfl (by decide)
        have w211 : m209.1 66 ((31 : Nat) : Int) = g1 := by rw [em209]; exact (congrFun (zu_ne (by decide)) _).trans w202
        have w212 : m209.1 66 ((30 : Nat) : Int) = g2 := by rw [em209]; exact (congrFun (zu_ne (by decide)) _).trans w203
        have w213 : m209.1 66 ((33 : Nat) : Int) = g3 := by rw [em209]; exact (congrFun (zu_ne (by decide)) _).trans w204
        have w214 : m209.1 66 ((34 : Nat) : Int) = g4 := by rw [em209]; exact (congrFun (zu_ne (by decide)) _).trans w205
        have w215 : m209.1 66 ((32 : Nat) : Int) = g5 := by rw [em209]; exact (congrFun (zu_ne (by decide)) _).trans w206
        have w216 : m209.1 66 ((38 : Nat) : Int) = (x152 + 1) := by rw [em209]; exact (congrFun (zu_ne (by decide)) _).trans w207
        clear w202 w203 w204 w205 w206 w207
        refine And.intro ⟨by omega, by omega⟩ (And.intro ⟨by omega, by omega⟩ ?_)
        intro m217 em217
        have z218 := zfx_r z210 em217 rfl (by decide)
        have w219 : m217.1 66 ((31 : Nat) : Int) = g1 := by rw [em217]; exact (congrFun (zu_ne (by decide)) _).trans w211
        have w220 : m217.1 66 ((30 : Nat) : Int) = g2 := by rw [em217]; exact (congrFun (zu_ne (by decide)) _).trans w212
        have w221 : m217.1 66 ((33 : Nat) : Int) = g3 := by rw [em217]; exact (congrFun (zu_ne (by decide)) _).trans w213
        have w222 : m217.1 66 ((34 : Nat) : Int) = g4 := by rw [em217]; exact (congrFun (zu_ne (by decide)) _).trans w214
        have w223 : m217.1 66 ((32 : Nat) : Int) = g5 := by rw [em217]; exact (congrFun (zu_ne (by decide)) _).trans w215
        have w224 : m217.1 66 ((38 : Nat) : Int) = (x152 + 1) := by rw [em217]; exact (congrFun (zu_ne (by decide)) _).trans w216
        clear w211 w212 w213 w214 w215 w216
        refine ⟨yk_X9_pass, ym_X9_pass hg d (by omega), rfl, (by (try rw [w219]) <;> (try rw [w220]) <;> (try rw [w221]) <;> (try rw [w222]) <;> (try rw [w223]) <;> (try rw [w224]) <;> (try rw [wg1]) <;> (try rw [wg2]) <;> (try rw [wg3]) <;> (try rw [wg4]) <;> (try rw [wg5]) <;> (try rw [wg6]) <;> omega), ?_⟩
        intro m225 qm225 p226 p227 p228 p229 p230
        have z231 := zfx_t z218 qm225 rfl rfl
        have w232 : m225.1 66 ((30 : Nat) : Int) = g2 := (qm225.2.1 30 rfl).trans w220
        have w233 : m225.1 66 ((38 : Nat) : Int) = (x152 + 1) := (qm225.2.1 38 rfl).trans w224
        obtain ⟨g234, wg234⟩ : ∃ z : Int, m225.1 66 ((31 : Nat) : Int) = z := ⟨_, rfl⟩
        obtain ⟨g235, wg235⟩ : ∃ z : Int, m225.1 66 ((33 : Nat) : Int) = z := ⟨_, rfl⟩
        obtain ⟨g236, wg236⟩ : ∃ z : Int, m225.1 66 ((34 : Nat) : Int) = z := ⟨_, rfl⟩
        obtain ⟨g237, wg237⟩ : ∃ z : Int, m225.1 66 ((32 : Nat) : Int) = z := ⟨_, rfl⟩
        try rw [wg234] at p226
        try rw [w232] at p226
        try rw [wg235] at p226
        try rw [wg236] at p226
        try rw [wg237] at p226
        try rw [w233] at p226
        try rw [w219] at p226
        try rw [w220] at p226
        try rw [w221] at p226
        try rw [w222] at p226
        try rw [w223] at p226
        try rw [w224] at p226
        try rw [wg1] at p226
        try rw [wg2] at p226
        try rw [wg3] at p226
        try rw [wg4] at p226
        try rw [wg5] at p226
        try rw [wg6] at p226
        try rw [wg234] at p227
        try rw [w232] at p227
        try rw [wg235] at p227
        try rw [wg236] at p227
        try rw [wg237] at p227
        try rw [w233] at p227
        try rw [w219] at p227
        try rw [w220] at p227
        try rw [w221] at p227
        try rw [w222] at p227
        try rw [w223] at p227
        try rw [w224] at p227
        try rw [wg1] at p227
        try rw [wg2] at p227
        try rw [wg3] at p227
        try rw [wg4] at p227
        try rw [wg5] at p227
        try rw [wg6] at p227
        try rw [wg234] at p228
        try rw [w232] at p228
        try rw [wg235] at p228
        try rw [wg236] at p228
        try rw [wg237] at p228
        try rw [w233] at p228
        try rw [w219] at p228
        try rw [w220] at p228
        try rw [w221] at p228
        try rw [w222] at p228
        try rw [w223] at p228
        try rw [w224] at p228
        try rw [wg1] at p228
        try rw [wg2] at p228
        try rw [wg3] at p228
        try rw [wg4] at p228
        try rw [wg5] at p228
        try rw [wg6] at p228
        try rw [wg234] at p229
        try rw [w232] at p229
        try rw [wg235] at p229
        try rw [wg236] at p229
        try rw [wg237] at p229
        try rw [w233] at p229
        try rw [w219] at p229
        try rw [w220] at p229
        try rw [w221] at p229
        try rw [w222] at p229
        try rw [w223] at p229
        try rw [w224] at p229
        try rw [wg1] at p229
        try rw [wg2] at p229
        try rw [wg3] at p229
        try rw [wg4] at p229
        try rw [wg5] at p229
        try rw [wg6] at p229
        clear w219 w220 w221 w222 w223 w224
        have R100 : ∀ q : Int, m225.1 100 q = if q = a3 then 1 else μ.1 100 q := fun q => by rw [qm225.1 100 (by decide) rfl, em217, zu_ne (by decide), em209, zu_ne (by decide), em200]; by_cases hq : q = a3 <;> first | (rw [if_pos hq, hq]; exact zu_at) | (rw [if_neg hq, zu_nk hq, em153, zu_ne (by decide)])
        have R101 : ∀ q : Int, m225.1 101 q = if q = a3 then v5 else μ.1 101 q := fun q => by rw [qm225.1 101 (by decide) rfl, em217, zu_ne (by decide), em209]; by_cases hq : q = a3 <;> first | (rw [if_pos hq, hq]; exact zu_at) | (rw [if_neg hq, zu_nk hq, em200, zu_ne (by decide), em153, zu_ne (by decide)])
        have R102 : ∀ q : Int, m225.1 102 q = if q = a3 then 0 else μ.1 102 q := fun q => by rw [qm225.1 102 (by decide) rfl, em217]; by_cases hq : q = a3 <;> first | (rw [if_pos hq, hq]; exact zu_at) | (rw [if_neg hq, zu_nk hq, em209, zu_ne (by decide), em200, zu_ne (by decide), em153, zu_ne (by decide)])
        have G4 : ∀ j : Nat, j ≠ 66 → j ≠ 100 → j ≠ 101 → j ≠ 102 → m217.1 j = μ.1 j := fun j a b c d => by rw [em217, zu_ne d, em209, zu_ne c, em200, zu_ne b, em153, zu_ne a]
        have G5 : ∀ k : Nat, k ≠ 38 → m217.1 66 ((k : Nat) : Int) = μ.1 66 ((k : Nat) : Int) := fun k a => by rw [em217, zu_ne (by decide), em209, zu_ne (by decide), em200, zu_ne (by decide), em153, zu_nk (by omega)]
        have L4 : rLx m217 τ p := rLx_f hp1 (G4 85 (by decide) (by decide) (by decide) (by decide)) (fun k a b => G5 k (by omega))
        have L5 := rLx_p L4 (qm225.1 85 (by decide) rfl) (qm225.2.1 30 rfl) p230
        have N5 : rNg cb pb m225 (yN B 0 2 (B.1 0 2 + 1)) := rNu_n hp2 (fun j hj => by rw [qm225.1 j (by rcases hj with h | h | h | h | h | h <;> rw [h] <;> decide) rfl]; exact G4 j (by omega) (by omega) (by omega) (by omega)) (fun k hk => by rw [qm225.2.1 k (by rcases hk with h | h | h | h | h <;> rw [h] <;> rfl)]; exact G5 k (by omega)) (by rw [qm225.2.1 38 rfl, em217, zu_ne (by decide), em209, zu_ne (by decide), em200, zu_ne (by decide), em153, zu_at]; omega)
        exact And.intro (zrtb (by omega)) (And.intro ⟨by omega, by omega⟩ (hQ _ _ z231 (by omega) (by omega) (by (try rw [wg234]) <;> (try rw [w232]) <;> (try rw [wg235]) <;> (try rw [wg236]) <;> (try rw [wg237]) <;> (try rw [w233]) <;> (try rw [wg1]) <;> (try rw [wg2]) <;> (try rw [wg3]) <;> (try rw [wg4]) <;> (try rw [wg5]) <;> (try rw [wg6]) <;> omega) (by (try rw [wg234]) <;> (try rw [w232]) <;> (try rw [wg235]) <;> (try rw [wg236]) <;> (try rw [wg237]) <;> (try rw [w233]) <;> (try rw [wg1]) <;> (try rw [wg2]) <;> (try rw [wg3]) <;> (try rw [wg4]) <;> (try rw [wg5]) <;> (try rw [wg6]) <;> omega) (by (try rw [wg234]) <;> (try rw [w232]) <;> (try rw [wg235]) <;> (try rw [wg236]) <;> (try rw [wg237]) <;> (try rw [w233]) <;> (try rw [wg1]) <;> (try rw [wg2]) <;> (try rw [wg3]) <;> (try rw [wg4]) <;> (try rw [wg5]) <;> (try rw [wg6]) <;> omega) (fun _ => by rw [R102, R100, R101, if_pos rfl, if_pos rfl, if_pos rfl]; omega) (fun q hq => ⟨by rw [R100, if_neg hq], by rw [R101, if_neg hq], by rw [R102, if_neg hq]⟩) (fun _ => by rw [R100, R101, if_pos rfl, if_pos rfl]; exact ⟨fun h => by omega, fun h => by omega⟩) (fun _ h0 => by rw [R100, R101, if_pos rfl, if_pos rfl]; have h1 := i5.2.2 (by omega); exact ⟨fun h => by omega, fun h => by omega, by omega⟩) (Or.inr ⟨rfl, i4, L5, N5, by rw [R102, if_pos rfl], by rw [R100, R101, if_pos rfl, if_pos rfl]; omega⟩)))
