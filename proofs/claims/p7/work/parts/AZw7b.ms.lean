/-! ### the class's ways are measured -/
def zq7 (μ μ' : zM) : Prop := zqw μ μ' ∧ μ'.1 7 = μ.1 7
theorem zq7_r (μ : zM) : zq7 μ μ := ⟨zqw_r μ, rfl⟩
theorem zq7_t {a b c : zM} (h1 : zq7 a b) (h2 : zq7 b c) : zq7 a c := ⟨zqw_t h1.1 h2.1, h2.2.trans h1.2⟩
theorem zq7_s {μ μ' : zM} {t : Nat} (q : zle μ μ') (f : ∀ j : Nat, j ≠ t → μ'.1 j = μ.1 j) (g : μ'.2 = μ.2) (h3 : (6 ≤ t ∧ t ≤ 13) ∨ (52 ≤ t ∧ t < 66)) (h7 : 7 ≠ t := by decide) : zq7 μ μ' := ⟨zqw_s q f g h3, f 7 h7⟩
theorem zq7_u {μ μ' : zM} {t : Nat} {k x : Int} (he : μ' = zu μ t k x) (h1 : t < 66 ∨ (109 ≤ t ∧ t < 1000000) ∨ (3000000 ≤ t ∧ t < 3000066) ∨ (5000000 ≤ t ∧ t < 5000066)) (h2 : (t ≠ 26 ∧ t ≠ 44) ∨ k ≠ 5) (h3 : (6 ≤ t ∧ t ≤ 13) ∨ (52 ≤ t ∧ t < 66) := by decide) (h7 : 7 ≠ t := by decide) : zq7 μ μ' := ⟨zqw_u he h1 h2 h3, by rw [he, zu_ne h7]⟩
theorem zcp_q7 (μ : zM) : zq7 μ (zcp μ) := ⟨zcp_q μ, rfl⟩
/-! ### which PARAMETERS lead to which, on which ROUNDS they lie: the class -/
def cR (m : zM) (a b : Int) : Prop := 0 < m.1 8 (a * 80 + b)
def cW (m : zM) : Int → Int → Int := fun a b => m.1 7 (a * 80 + b)
def cL (m : zM) (a b : Int) : Prop := a = b ∨ cR m a b
theorem cL_f {μ m : zM} {a b : Int} (e : m.1 8 = μ.1 8) : cL m a b ↔ cL μ a b := by unfold cL cR; rw [e]
def cJ (μ m : zM) (i k j : Int) : Prop := ∀ a b : Int, 0 ≤ a → a < 80 → 0 ≤ b → b < 80 → (cR m a b ↔ cR μ a b ∨ (a = i ∧ b < j ∧ cR μ k b))
theorem cJ_0 {μ : zM} {i k : Int} : cJ μ μ i k 0 := fun a b a0 a1 b0 b1 => ⟨Or.inl, fun h => h.elim id (fun w => absurd w.2.1 (by omega))⟩
theorem cJ_n {μ m : zM} {i k j : Int} (h : cJ μ m i k j) (j0 : 0 ≤ j ∧ j < 80) (k0 : 0 ≤ k ∧ k < 80) (e : ¬ cR m k j) : cJ μ m i k (j + 1) := fun a b a0 a1 b0 b1 => by
  have n : ¬ cR μ k j := fun z => e ((h k j k0.1 k0.2 j0.1 j0.2).mpr (Or.inl z))
  refine (h a b a0 a1 b0 b1).trans ⟨?_, ?_⟩
  · rintro (z | ⟨z1, z2, z3⟩)
    · exact Or.inl z
    · exact Or.inr ⟨z1, by omega, z3⟩
  · rintro (z | ⟨z1, z2, z3⟩)
    · exact Or.inl z
    · by_cases q : b = j
      · rw [q] at z3; exact absurd z3 n
      · exact Or.inr ⟨z1, by omega, z3⟩
theorem cJ_s {μ m m' : zM} {i k j : Int} (h : cJ μ m i k j) (j0 : 0 ≤ j ∧ j < 80) (k0 : 0 ≤ k ∧ k < 80) (e : cR m k j) (w : m' = zu m 8 (i * 80 + j) 1) : cJ μ m' i k (j + 1) := fun a b a0 a1 b0 b1 => by
  have y : cR μ k j := by
    rcases (h k j k0.1 k0.2 j0.1 j0.2).mp e with z | ⟨z1, z2, z3⟩
    · exact z
    · exact z3
  by_cases c : a = i ∧ b = j
  · have v : cR m' a b := by unfold cR; rw [w, c.1, c.2, zu_at]; decide
    exact ⟨fun _ => Or.inr ⟨c.1, by omega, by rw [c.2]; exact y⟩, fun _ => v⟩
  · have v : cR m' a b ↔ cR m a b := by unfold cR; rw [w, zu_nk (fun z => c (by omega))]
    refine (v.trans (h a b a0 a1 b0 b1)).trans ⟨?_, ?_⟩
    · rintro (z | ⟨z1, z2, z3⟩)
      · exact Or.inl z
      · exact Or.inr ⟨z1, by omega, z3⟩
    · rintro (z | ⟨z1, z2, z3⟩)
      · exact Or.inl z
      · exact Or.inr ⟨z1, by omega, z3⟩
def gk_X7_joinReach : zC := fun As μ Q => ∃ (a1 : Int) (a2 : Int) (a3 : Int), As = [.inr (.inr (6, 6)), .inl a1, .inl a2, .inl a3] ∧ (0 ≤ a1 ∧ a1 < 80) ∧ (0 ≤ a2 ∧ a2 < 80) ∧ (0 ≤ a3 ∧ a3 ≤ 80) ∧ (∀ (μ' : zM), zq7 μ μ' → (∀ j : Nat, j ≠ 8 → μ'.1 j = μ.1 j) → cJ μ μ' a1 a2 a3 → Q none μ')
set_option maxHeartbeats 4000000 in
theorem gm_X7_joinReach {g : zΓ} (hg : zg g) (d : Nat) (hd : 2 ≤ d) : zOk g d 93 gk_X7_joinReach := by
  obtain ⟨d, rfl⟩ : ∃ d', d = d' + 1 := ⟨d - 1, by omega⟩
  refine zOk_loop hg (show mt_tab[93]? = some mt_X7_joinReach from rfl) ([(3, [0, 1, 2, 3, 4])], []) 31 rfl fun As μ Q hC => ?_
  obtain ⟨a1, a2, a3, rfl, ha1, ha2, ha3, hQ⟩ := hC
  have z0 : zq7 μ μ := zq7_r μ
  refine ⟨rfl, fun pc vs μ' n => ∃ (v4 : Int), vs = [.inr (.inr (6, 6)), .inl a1, .inl a2, .inl a3, .inl v4] ∧ zq7 μ μ' ∧ (0 ≤ v4 ∧ v4 ≤ a3) ∧ (∀ j : Nat, j ≠ 8 → μ'.1 j = μ.1 j) ∧ cJ μ μ' a1 a2 v4 ∧ n = (Int.toNat (2147483648 - v4)), ?_, ?_, trivial⟩
  · refine Exists.intro (Int.toNat (2147483648 - 0)) ?_
    exact ⟨_, rfl, z0, ⟨Int.le_refl _, ha3.1⟩, fun _ _ => rfl, cJ_0, rfl⟩
  · intro vs m0 n hI
    clear z0
    obtain ⟨v4, rfl, z0, hv4, fr, J, rfl⟩ := hI
    refine And.intro ⟨⟨by omega, by omega⟩, ⟨by omega, by omega⟩⟩ (And.intro (fun c1 => ?_) (fun c1 => ?_))
    · have e : v4 = a3 := by omega
      rw [e] at J
      exact And.intro rfl (hQ _ z0 fr J)
    · refine ⟨zk_X8_at, zm_X8_at hg d (by omega), _, _, _, rfl, ⟨by omega, by omega⟩, ?_⟩
      intro x4 kx4 lx4 fx4 gx4
      have hx4 : x4 = m0.1 8 (a2 * 80 + v4) := (fx4 ⟨by omega, by omega⟩).1
      refine And.intro ⟨by omega, by omega⟩ (And.intro (fun c5 => ?_) (fun c5 => ?_))
      · refine Exists.intro (Int.toNat (2147483648 - (v4 + 1))) (And.intro (by omega) ?_)
        exact ⟨_, rfl, z0, ⟨by omega, by omega⟩, fr, cJ_n J ⟨by omega, by omega⟩ ha2 (by unfold cR; rw [← hx4]; omega), rfl⟩
      · refine ⟨yk_X8_set, ym_X8_set hg d (by omega), _, _, _, _, rfl, ⟨by omega, by omega⟩, ?_⟩
        refine And.intro ⟨by omega, by omega⟩ (And.intro ⟨by omega, by omega⟩ ?_)
        intro m8 qm8 em8
        have z9 := zq7_t z0 (zq7_s qm8 (fun j hj => by rw [em8, zu_ne hj]) (by rw [em8]; rfl) (by decide))
        refine Exists.intro (Int.toNat (2147483648 - (v4 + 1))) (And.intro (by omega) ?_)
        exact ⟨_, rfl, z9, ⟨by omega, by omega⟩, fun j hj => by rw [em8, zu_ne hj]; exact fr j hj, cJ_s J ⟨by omega, by omega⟩ ha2 (by unfold cR; rw [← hx4]; omega) em8, rfl⟩
def cE (μ : zM) : Int → Int → Prop := fun a b => 1 ≤ cW μ a b
def cRg (m : zM) (E : Int → Int → Prop) (n : Int) (k : Nat) (i : Int) : Prop := ∀ a b : Int, 0 ≤ a → a < n → 0 ≤ b → b < n → (a < i → (cR m a b ↔ wW E (k + 1) a b)) ∧ (¬ a < i → (cR m a b ↔ wW E k a b))
theorem cRg_0 {μ : zM} {n : Int} : cRg (zcp μ) (cE μ) n 0 0 := fun a b a0 a1 b0 b1 => ⟨fun z => by exfalso; omega, fun _ => by
  show 0 < (zcp μ).1 8 (a * 80 + b) ↔ 1 ≤ μ.1 7 (a * 80 + b)
  rw [zcp_8]
  exact ⟨fun h => by omega, fun h => by omega⟩⟩
theorem cRg_k {m : zM} {E : Int → Int → Prop} {n : Int} {k : Nat} {i : Int} (h : cRg m E n k i) (hi : n ≤ i) : cRg m E n (k + 1) 0 := fun a b a0 a1 b0 b1 => ⟨fun z => by exfalso; omega, fun _ => (h a b a0 a1 b0 b1).1 (by omega)⟩
theorem cRg_n {m : zM} {E : Int → Int → Prop} {n : Int} {k : Nat} {i : Int} (h : cRg m E n k i) (i0 : 0 ≤ i ∧ i < n) (hk : (k : Int) < n) (e : ¬ cR m i k) : cRg m E n k (i + 1) := fun a b a0 a1 b0 b1 => by
  have nk : ¬ wW E k i k := fun z => e (((h i k i0.1 i0.2 (by omega) hk).2 (by omega)).mpr z)
  have w := h a b a0 a1 b0 b1
  refine ⟨fun z => ?_, fun z => w.2 (by omega)⟩
  by_cases c : a = i
  · subst c
    exact (w.2 (by omega)).trans (Iff.trans ⟨Or.inl, fun q => q.elim id (fun q => absurd q.1 nk)⟩ wW_i.symm)
  · exact w.1 (by omega)
theorem cRg_s {m m' : zM} {E : Int → Int → Prop} {n : Int} {k : Nat} {i : Int} (h : cRg m E n k i) (hn : n ≤ 80) (i0 : 0 ≤ i ∧ i < n) (hk : (k : Int) < n) (e : cR m i k) (J : cJ m m' i k n) : cRg m' E n k (i + 1) := fun a b a0 a1 b0 b1 => by
  have yk : wW E k i k := ((h i k i0.1 i0.2 (by omega) hk).2 (by omega)).mp e
  have w := h a b a0 a1 b0 b1
  have j := J a b a0 (by omega) b0 (by omega)
  have wk := h k b (by omega) hk b0 b1
  have ek : cR m k b ↔ wW E k k b := by
    by_cases z : (k : Int) < i
    · exact (wk.1 z).trans wW_kq
    · exact wk.2 z
  by_cases c : a = i
  · subst c
    refine ⟨fun _ => ?_, fun z => by exfalso; omega⟩
    have w2 := w.2 (by omega)
    refine j.trans (Iff.trans ⟨?_, ?_⟩ wW_i.symm)
    · rintro (q | ⟨-, -, q⟩)
      · exact Or.inl (w2.mp q)
      · exact Or.inr ⟨yk, ek.mp q⟩
    · rintro (q | ⟨-, q⟩)
      · exact Or.inl (w2.mpr q)
      · exact Or.inr ⟨rfl, b1, ek.mpr q⟩
  · have j' : cR m' a b ↔ cR m a b := j.trans ⟨fun q => q.elim id (fun q => absurd q.1 c), Or.inl⟩
    exact ⟨fun z => j'.trans (w.1 (by omega)), fun z => j'.trans (w.2 (by omega))⟩
def gk_X7_closeReach : zC := fun As μ Q => ∃ (a1 : Int), As = [.inr (.inr (6, 6)), .inl a1] ∧ (0 ≤ a1 ∧ a1 ≤ 80) ∧ (∀ (μ' : zM), zq7 μ μ' → (∀ j : Nat, j ≠ 8 → μ'.1 j = μ.1 j) → cRg μ' (cE μ) a1 a1.toNat 0 → Q none μ')
set_option maxHeartbeats 4000000 in
theorem gcr_q7 {g : zΓ} (hg : zg g) (d : Nat) (hd : 2 ≤ d) (a1 : Int) (ha1 : 0 ≤ a1 ∧ a1 ≤ 80) (E : Int → Int → Prop) (μ : zM) (H0 : cRg μ E a1 0 0) (Q : Option zV → zM → Prop) (hQ : ∀ μ' : zM, zq7 μ μ' → (∀ j : Nat, j ≠ 8 → μ'.1 j = μ.1 j) → cRg μ' E a1 a1.toNat 0 → Q none μ') : ∃ Inv : Nat → List zV → zM → Nat → Prop, zw (zOk g d) mt_X7_closeReach ([(20, [0, 1, 2]), (27, [0, 1, 2, 3])], []) (fun pc vs μ' => ∃ n, Inv pc vs μ' n) Q (fun _ _ => False) 60 false (zsuf 18 mt_X7_closeReach.2.2.2.2.1) [(0, .inr (.inr (6, 6))), (1, .inl a1)] [] μ ∧
      zAll [(20, [0, 1, 2]), (27, [0, 1, 2, 3])] (fun pc ks => ∀ vs μ' n, Inv pc vs μ' n → zw (zOk g d) mt_X7_closeReach ([(20, [0, 1, 2]), (27, [0, 1, 2, 3])], []) (fun pc' vs' μ'' => ∃ n', n' < n ∧ Inv pc' vs' μ'' n') Q (fun _ _ => False) 60 true (zsuf pc mt_X7_closeReach.2.2.2.2.1) (zzip ks vs) [] μ') := by
  have z0 := zq7_r μ
  refine ⟨fun pc vs μ' n => (pc = 20 → ∃ (v2 : Int), vs = [.inr (.inr (6, 6)), .inl a1, .inl v2] ∧ zq7 μ μ' ∧ (0 ≤ v2 ∧ v2 ≤ a1) ∧ (∀ j : Nat, j ≠ 8 → μ'.1 j = μ.1 j) ∧ cRg μ' E a1 v2.toNat 0 ∧ n = (Int.toNat ((2147483648 - v2) * 4294967296 + 4294967295))) ∧ (pc = 27 → ∃ (v2 : Int) (v3 : Int), vs = [.inr (.inr (6, 6)), .inl a1, .inl v2, .inl v3] ∧ zq7 μ μ' ∧ (0 ≤ v2 ∧ v2 < a1) ∧ (0 ≤ v3 ∧ v3 ≤ a1) ∧ (∀ j : Nat, j ≠ 8 → μ'.1 j = μ.1 j) ∧ cRg μ' E a1 v2.toNat v3 ∧ n = (Int.toNat ((2147483648 - v2) * 4294967296 + (2147483648 - v3)))), ?_, ?_, ?_, trivial⟩
  · refine Exists.intro (Int.toNat ((2147483648 - 0) * 4294967296 + 4294967295)) ?_
    exact ⟨(fun _ => ⟨_, rfl, z0, ⟨by omega, by omega⟩, fun _ _ => rfl, H0, rfl⟩), (fun h => absurd h (by decide))⟩
  · intro vs m0 n hI
    replace hI := hI.1 rfl
    clear z0
    obtain ⟨v2, rfl, z0, hv2, fr, H, rfl⟩ := hI
    refine And.intro ⟨⟨by omega, by omega⟩, ⟨by omega, by omega⟩⟩ (And.intro (fun c1 => ?_) (fun c1 => ?_))
    · have e : v2 = a1 := by omega
      rw [e] at H
      exact And.intro rfl (hQ _ z0 fr H)
    · refine Exists.intro (Int.toNat ((2147483648 - v2) * 4294967296 + (2147483648 - 0))) (And.intro (by omega) ?_)
      exact ⟨(fun h => absurd h (by decide)), (fun _ => ⟨_, _, rfl, z0, ⟨by omega, by omega⟩, ⟨by omega, by omega⟩, fr, H, rfl⟩)⟩
  · intro vs m0 n hI
    replace hI := hI.2 rfl
    clear z0
    obtain ⟨v2, v3, rfl, z0, hv2, hv3, fr, H, rfl⟩ := hI
    have cast : ((v2.toNat : Nat) : Int) = v2 := by omega
    refine And.intro ⟨⟨by omega, by omega⟩, ⟨by omega, by omega⟩⟩ (And.intro (fun c2 => ?_) (fun c2 => ?_))
    · refine Exists.intro (Int.toNat ((2147483648 - (v2 + 1)) * 4294967296 + 4294967295)) (And.intro (by omega) ?_)
      exact ⟨(fun _ => ⟨_, rfl, z0, ⟨by omega, by omega⟩, fr, by rw [show (v2 + 1).toNat = v2.toNat + 1 by omega]; exact cRg_k H (by omega), rfl⟩), (fun h => absurd h (by decide))⟩
    · refine ⟨zk_X8_at, zm_X8_at hg d (by omega), _, _, _, rfl, ⟨by omega, by omega⟩, ?_⟩
      intro x5 kx5 lx5 fx5 gx5
      have hx5 : x5 = m0.1 8 (v3 * 80 + v2) := (fx5 ⟨by omega, by omega⟩).1
      refine And.intro ⟨by omega, by omega⟩ (And.intro (fun c6 => ?_) (fun c6 => ?_))
      · refine Exists.intro (Int.toNat ((2147483648 - v2) * 4294967296 + (2147483648 - (v3 + 1)))) (And.intro (by omega) ?_)
        exact ⟨(fun h => absurd h (by decide)), (fun _ => ⟨_, _, rfl, z0, hv2, ⟨by omega, by omega⟩, fr, cRg_n H ⟨by omega, by omega⟩ (by omega) (by rw [cast]; unfold cR; rw [← hx5]; omega), rfl⟩)⟩
      · refine ⟨gk_X7_joinReach, gm_X7_joinReach hg d (by omega), _, _, _, rfl, ⟨by omega, by omega⟩, ⟨by omega, by omega⟩, ⟨by omega, by omega⟩, ?_⟩
        intro m7 qm7 fm7 J
        have z8 := zq7_t z0 qm7
        refine Exists.intro (Int.toNat ((2147483648 - v2) * 4294967296 + (2147483648 - (v3 + 1)))) (And.intro (by omega) ?_)
        exact ⟨(fun h => absurd h (by decide)), (fun _ => ⟨_, _, rfl, z8, hv2, ⟨by omega, by omega⟩, fun j hj => (fm7 j hj).trans (fr j hj), cRg_s H ha1.2 ⟨by omega, by omega⟩ (by omega) (by rw [cast]; unfold cR; rw [← hx5]; omega) (by rw [cast]; exact J), rfl⟩)⟩
theorem gm_X7_closeReach {g : zΓ} (hg : zg g) (d : Nat) (hd : 3 ≤ d) : zOk g d 92 gk_X7_closeReach := by
  obtain ⟨d, rfl⟩ : ∃ d', d = d' + 1 := ⟨d - 1, by omega⟩
  have hM : mt_tab[92]? = some mt_X7_closeReach := rfl
  have hG := zg_go hg
  have hmem := List.mem_of_getElem? (zg_at hg hM)
  refine zOk_of hG (zg_at hg hM) fun As μ Q w hw hr hC => ?_
  obtain ⟨a1, rfl, ha1, hQ⟩ := hC
  refine ⟨rfl, ?_⟩
  obtain ⟨c6, q6, fs, rfl, fl, f1, f2, f3⟩ := hw.2.2.1 6 _ (show znth zcl 6 = some (.inl 7) from rfl)
  cases (show some zfl7 = some fl from f1)
  have len : fs.length = 4 := f2
  obtain ⟨v0, hv0⟩ : ∃ v, fs[0]? = some v := ⟨fs[0], by simp [len]⟩
  obtain ⟨v1, hv1⟩ : ∃ v, fs[1]? = some v := ⟨fs[1], by simp [len]⟩
  obtain ⟨j0, rfl, -, rfl⟩ := f3 0 (.inr (.inr (.inl (1, 7)))) v0 rfl hv0
  obtain ⟨j1, rfl, -, rfl⟩ := f3 1 (.inr (.inr (.inl (2, 8)))) v1 rfl hv1
  obtain ⟨c7, q7, -, a, rfl, -⟩ := hw.2.2.1 7 _ (show znth zcl 7 = some (.inr (0, 6400, -2147483648, 2147483647)) from rfl)
  obtain ⟨c8, q8, -, b, rfl, -⟩ := hw.2.2.1 8 _ (show znth zcl 8 = some (.inr (0, 6400, -2147483648, 2147483647)) from rfl)
  have hl8 : 8 < w.1.length := (List.getElem?_eq_some_iff.mp q8).1
  have ld : ∀ st : List Value, mx_loc 4 (.aload_n 0) [(0, .ref 6), (1, .int (Int32.ofInt a1))] st = some ([(0, .ref 6), (1, .int (Int32.ofInt a1))], .ref 6 :: st) := fun st => rfl
  refine zE_step (zs_loc (i := .aload_n 0) hG hmem rfl rfl (ld _)) ?_
  refine zE_step (zs_mem (i := .getfield 9) hG hmem rfl rfl rfl rfl (zgetf (tt := 0) (ci := 7) (kf := 0) rfl q6 hv0 rfl)) ?_
  refine zE_step (zs_pure (i := .iconst 0) hG hmem rfl rfl) ?_
  refine zE_step (zs_loc (i := .aload_n 0) hG hmem rfl rfl (ld _)) ?_
  refine zE_step (zs_mem (i := .getfield 15) hG hmem rfl rfl rfl rfl (zgetf (tt := 0) (ci := 7) (kf := 1) rfl q6 hv1 rfl)) ?_
  refine zE_step (zs_pure (i := .iconst 0) hG hmem rfl rfl) ?_
  refine zE_step (zs_loc (i := .aload_n 0) hG hmem rfl rfl (ld _)) ?_
  refine zE_step (zs_mem (i := .getfield 15) hG hmem rfl rfl rfl rfl (zgetf (tt := 0) (ci := 7) (kf := 1) rfl q6 hv1 rfl)) ?_
  have al : ∀ st : List Value, mx_mem g.1 none mt_X7_closeReach.2.2.2.2.2.2 mt_X7_closeReach.2.2.2.2.2.1 .arraylength (.ref 8 :: st) w = some (.int (Int32.ofNat 6400) :: st, w) := fun st => by
    simp only [mx_mem, q8]
    rfl
  refine zE_step (zs_mem (i := .arraylength) hG hmem rfl rfl rfl rfl (al _)) ?_
  have jp : mo_copy (15, [(0, .ref 6), (1, .int (Int32.ofInt a1))], [.int (Int32.ofNat 6400), .int (Int32.ofInt 0), .ref 8, .int (Int32.ofInt 0), .ref 7], w) = some (18, [(0, .ref 6), (1, .int (Int32.ofInt a1))], [], (w.1.set 8 (.inr ((0, 6400), .inl a)), w.2)) := by
    unfold mo_copy
    dsimp only
    rw [q7]
    dsimp only
    rw [q8]
    rfl
  refine zE_step (σ1 := (18, [(0, .ref 6), (1, .int (Int32.ofInt a1))], [], (w.1.set 8 (.inr ((0, 6400), .inl a)), w.2))) ⟨⟨by simp, Nat.le_refl _⟩, fun p e R s m args below meth c H0 X => (mo_copy_jmp X _ _ jp).2⟩ ?_
  obtain ⟨Inv, h1, h2⟩   := gcr_q7 hg d (by omega) a1 ha1 (cE μ) (zcp μ) cRg_0 Q (fun μ' hz f R => hQ μ' (zq7_t (zcp_q7 μ) hz) (fun j hj => (f j hj).trans (zcp_n hj)) R)
  obtain ⟨q, r, e1, e2⟩ := zw_ok (sc := none) (w := (w.1.set 8 (.inr ((0, 6400), .inl a)), w.2)) hG hmem (fun _ _ q => q) 60 h1 (zsuf_suf _ _) (zRep_copy hw q7 hl8) ⟨List.forall_mem_cons.mpr ⟨by show 6 < 1048576; omega, List.forall_mem_cons.mpr ⟨True.intro, fun _ q => by cases q⟩⟩, fun v hv => by cases hv⟩
  have e3 := zsuf_pc e1
  rw [e3] at e2
  obtain ⟨σ', μ', g1, g2, g3⟩ := e2
  rcases g3 with ⟨ks', vs', k1, k2, k3, k4, k5, n', hI'⟩ | g3 | g3
  · exact zE_step g1 (zloop hG hmem (fun _ _ q => q) (fun pc ks vs μ' n e1 _ e3 => zAll_at h2 e1 vs μ' n e3) n' σ' μ' ks' vs' k1 k2 k3 k4 k5 g2 hI')
  · exact ⟨σ', μ', g1, g2, Or.inr (Or.inl g3)⟩
  · exact ⟨σ', μ', g1, g2, Or.inr (Or.inr g3)⟩
def gk_X7_leads : zC := fun As μ Q => ∃ (a1 : Int) (a2 : Int), As = [.inr (.inr (6, 6)), .inl a1, .inl a2] ∧ (0 ≤ a1 ∧ a1 < 80) ∧ (0 ≤ a2 ∧ a2 < 80) ∧ (∀ (v : Int), 0 ≤ v → v ≤ 1 → ((v = 1 ∧ cL μ a1 a2) ∨ (v = 0 ∧ ¬ cL μ a1 a2)) → Q (some (.inl v)) μ)
set_option maxHeartbeats 4000000 in
theorem gm_X7_leads {g : zΓ} (hg : zg g) (d : Nat) (hd : 2 ≤ d) : zOk g d 96 gk_X7_leads := by
  obtain ⟨d, rfl⟩ : ∃ d', d = d' + 1 := ⟨d - 1, by omega⟩
  refine zOk_straight hg (show mt_tab[96]? = some mt_X7_leads from rfl) [] 21 rfl fun As μ Q hC => ?_
  obtain ⟨a1, a2, rfl, ha1, ha2, hQ⟩ := hC
  refine ⟨rfl, ?_⟩
  refine And.intro ⟨⟨by omega, by omega⟩, ⟨by omega, by omega⟩⟩ (And.intro (fun c1 => ?_) (fun c1 => ?_))
  · exact And.intro (zrtb (by omega)) (And.intro ⟨by omega, by omega⟩ (hQ _ (by omega) (by omega) (Or.inl ⟨rfl, Or.inl c1⟩)))
  · refine ⟨zk_X8_at, zm_X8_at hg d (by omega), _, _, _, rfl, ⟨by omega, by omega⟩, ?_⟩
    intro x4 kx4 lx4 fx4 gx4
    have hx4 : x4 = μ.1 8 (a1 * 80 + a2) := (fx4 ⟨by omega, by omega⟩).1
    refine And.intro ⟨by omega, by omega⟩ (And.intro (fun c5 => ?_) (fun c5 => ?_))
    · exact And.intro (zrtb (by omega)) (And.intro ⟨by omega, by omega⟩ (hQ _ (by omega) (by omega) (Or.inr ⟨rfl, fun q => q.elim (fun z => absurd z c1) (fun z => by unfold cR at z; rw [← hx4] at z; omega)⟩)))
    · exact And.intro (zrtb (by omega)) (And.intro ⟨by omega, by omega⟩ (hQ _ (by omega) (by omega) (Or.inl ⟨rfl, Or.inr (by unfold cR; rw [← hx4]; omega)⟩)))
def cM (μ m : zM) (p v : Int) : Prop := ∀ r : Int, 0 ≤ r → r < 80 → (m.1 9 r = 1 ↔ μ.1 9 r = 1 ∨ (r < v ∧ cL μ p r ∧ cL μ r p)) ∧ (m.1 9 r = 0 ∨ m.1 9 r = 1)
theorem cM_0 {μ : zM} {p : Int} (h : ∀ r : Int, 0 ≤ r → r < 80 → μ.1 9 r = 0 ∨ μ.1 9 r = 1) : cM μ μ p 0 := fun r a b => ⟨⟨Or.inl, fun z => z.elim id (fun z => absurd z.1 (by omega))⟩, h r a b⟩
theorem cM_x {μ : zM} {p v r : Int} (e : r ≠ v ∨ ¬ (cL μ p v ∧ cL μ v p)) : (μ.1 9 r = 1 ∨ (r < v ∧ cL μ p r ∧ cL μ r p)) ↔ (μ.1 9 r = 1 ∨ (r < v + 1 ∧ cL μ p r ∧ cL μ r p)) := by
  constructor
  · rintro (z | ⟨z1, z2⟩)
    · exact Or.inl z
    · exact Or.inr ⟨by omega, z2⟩
  · rintro (z | ⟨z1, z2⟩)
    · exact Or.inl z
    · by_cases q : r = v
      · rw [q] at z2
        rcases e with e | e
        · exact absurd q e
        · exact absurd z2 e
      · exact Or.inr ⟨by omega, z2⟩
theorem cM_n {μ m : zM} {p v : Int} (h : cM μ m p v) (e : ¬ (cL μ p v ∧ cL μ v p)) : cM μ m p (v + 1) := fun r a b => ⟨(h r a b).1.trans (cM_x (Or.inr e)), (h r a b).2⟩
theorem cM_s {μ m m' : zM} {p v : Int} (h : cM μ m p v) (e : cL μ p v ∧ cL μ v p) (w : m' = zu m 9 v 1) : cM μ m' p (v + 1) := fun r a b => by
  by_cases q : r = v
  · have x : m'.1 9 r = 1 := by rw [w, q, zu_at]
    exact ⟨⟨fun _ => Or.inr ⟨by omega, by rw [q]; exact e⟩, fun _ => x⟩, Or.inr x⟩
  · have x : m'.1 9 r = m.1 9 r := by rw [w, zu_nk q]
    rw [x]
    exact ⟨(h r a b).1.trans (cM_x (Or.inl q)), (h r a b).2⟩
def gk_X7_markRound : zC := fun As μ Q => ∃ (a1 : Int) (a2 : Int), As = [.inr (.inr (6, 6)), .inl a1, .inl a2] ∧ (0 ≤ a1 ∧ a1 < 80) ∧ (0 ≤ a2 ∧ a2 ≤ 80) ∧ (∀ r : Int, 0 ≤ r → r < 80 → μ.1 9 r = 0 ∨ μ.1 9 r = 1) ∧ (∀ (μ' : zM), zq7 μ μ' → (∀ j : Nat, j ≠ 9 → μ'.1 j = μ.1 j) → cM μ μ' a1 a2 → Q none μ')
set_option maxHeartbeats 4000000 in
theorem gm_X7_markRound {g : zΓ} (hg : zg g) (d : Nat) (hd : 3 ≤ d) : zOk g d 95 gk_X7_markRound := by
  obtain ⟨d, rfl⟩ : ∃ d', d = d' + 1 := ⟨d - 1, by omega⟩
  refine zOk_loop hg (show mt_tab[95]? = some mt_X7_markRound from rfl) ([(2, [0, 1, 2, 3])], []) 28 rfl fun As μ Q hC => ?_
  obtain ⟨a1, a2, rfl, ha1, ha2, h9, hQ⟩ := hC
  have z0 : zq7 μ μ := zq7_r μ
  refine ⟨rfl, fun pc vs μ' n => ∃ (v3 : Int), vs = [.inr (.inr (6, 6)), .inl a1, .inl a2, .inl v3] ∧ zq7 μ μ' ∧ (0 ≤ v3 ∧ v3 ≤ a2) ∧ (∀ j : Nat, j ≠ 9 → μ'.1 j = μ.1 j) ∧ cM μ μ' a1 v3 ∧ n = (Int.toNat (2147483648 - v3)), ?_, ?_, trivial⟩
  · refine Exists.intro (Int.toNat (2147483648 - 0)) ?_
    exact ⟨_, rfl, z0, ⟨Int.le_refl _, ha2.1⟩, fun _ _ => rfl, cM_0 h9, rfl⟩
  · intro vs m0 n hI
    clear z0
    obtain ⟨v3, rfl, z0, hv3, fr, M, rfl⟩ := hI
    have f8 := fr 8 (by decide)
    refine And.intro ⟨⟨by omega, by omega⟩, ⟨by omega, by omega⟩⟩ (And.intro (fun c1 => ?_) (fun c1 => ?_))
    · have e : v3 = a2 := by omega
      rw [e] at M
      exact And.intro rfl (hQ _ z0 fr M)
    · refine ⟨gk_X7_leads, gm_X7_leads hg d (by omega), _, _, rfl, ⟨by omega, by omega⟩, ⟨by omega, by omega⟩, ?_⟩
      intro x2 kx2 lx2 p2
      rw [cL_f f8] at p2
      refine And.intro ⟨by omega, by omega⟩ (And.intro (fun c3 => ?_) (fun c3 => ?_))
      · refine Exists.intro (Int.toNat (2147483648 - (v3 + 1))) (And.intro (by omega) ?_)
        exact ⟨_, rfl, z0, ⟨by omega, by omega⟩, fr, cM_n M (fun q => by rcases p2 with w | w; (have := w.1; omega); exact w.2 q.1), rfl⟩
      · refine ⟨gk_X7_leads, gm_X7_leads hg d (by omega), _, _, rfl, ⟨by omega, by omega⟩, ⟨by omega, by omega⟩, ?_⟩
        intro x4 kx4 lx4 p4
        rw [cL_f f8] at p4
        refine And.intro ⟨by omega, by omega⟩ (And.intro (fun c5 => ?_) (fun c5 => ?_))
        · refine Exists.intro (Int.toNat (2147483648 - (v3 + 1))) (And.intro (by omega) ?_)
          exact ⟨_, rfl, z0, ⟨by omega, by omega⟩, fr, cM_n M (fun q => by rcases p4 with w | w; (have := w.1; omega); exact w.2 q.2), rfl⟩
        · refine ⟨yk_X8_set, ym_X8_set hg d (by omega), _, _, _, _, rfl, ⟨by omega, by omega⟩, ?_⟩
          refine And.intro ⟨by omega, by omega⟩ (And.intro ⟨by omega, by omega⟩ ?_)
          intro m6 qm6 em6
          have z7 := zq7_t z0 (zq7_s qm6 (fun j hj => by rw [em6, zu_ne hj]) (by rw [em6]; rfl) (by decide))
          refine Exists.intro (Int.toNat (2147483648 - (v3 + 1))) (And.intro (by omega) ?_)
          exact ⟨_, rfl, z7, ⟨by omega, by omega⟩, fun j hj => by rw [em6, zu_ne hj]; exact fr j hj, cM_s M ⟨by rcases p2 with w | w; exact w.2; (exfalso; have := w.1; omega), by rcases p4 with w | w; exact w.2; (exfalso; have := w.1; omega)⟩ em6, rfl⟩
def cGx (μ : zM) (n v2 v3 r : Int) : Prop := r < n ∧ ∃ p q : Int, (0 ≤ p ∧ p < n) ∧ (0 ≤ q ∧ q < n) ∧ (p < v2 ∨ (p = v2 ∧ q < v3)) ∧ cW μ p q = 2 ∧ cL μ q p ∧ cL μ p r ∧ cL μ r p
theorem cGx_c {μ : zM} {n v2 v3 u2 u3 r : Int} (h : ∀ p q : Int, 0 ≤ p → p < n → 0 ≤ q → q < n → cW μ p q = 2 → cL μ q p → ((p < v2 ∨ (p = v2 ∧ q < v3)) ↔ (p < u2 ∨ (p = u2 ∧ q < u3)))) : cGx μ n v2 v3 r ↔ cGx μ n u2 u3 r := by
  constructor
  · rintro ⟨a, p, q, hp, hq, b, c, d⟩
    exact ⟨a, p, q, hp, hq, (h p q hp.1 hp.2 hq.1 hq.2 c d.1).mp b, c, d⟩
  · rintro ⟨a, p, q, hp, hq, b, c, d⟩
    exact ⟨a, p, q, hp, hq, (h p q hp.1 hp.2 hq.1 hq.2 c d.1).mpr b, c, d⟩
def cMk (μ m : zM) (n v2 v3 : Int) : Prop := ∀ r : Int, 0 ≤ r → r < 80 → (m.1 9 r = 1 ↔ cGx μ n v2 v3 r) ∧ (m.1 9 r = 0 ∨ m.1 9 r = 1)
theorem cMk_0 {μ : zM} {n : Int} (h : ∀ r : Int, 0 ≤ r → r < 80 → μ.1 9 r = 0) : cMk μ μ n 0 0 := fun r a b => by
  have z := h r a b
  refine ⟨⟨fun q => by exfalso; omega, ?_⟩, Or.inl z⟩
  rintro ⟨-, p, q, hp, hq, c, -⟩
  exfalso
  omega
theorem cMk_p {μ m : zM} {n v2 v3 : Int} (h : cMk μ m n v2 v3) (e : n ≤ v3) : cMk μ m n (v2 + 1) 0 := fun r a b => ⟨(h r a b).1.trans (cGx_c (fun p q p0 p1 q0 q1 _ _ => ⟨fun z => by omega, fun z => by omega⟩)), (h r a b).2⟩
theorem cMk_n {μ m : zM} {n v2 v3 : Int} (h : cMk μ m n v2 v3) (e : ¬ (cW μ v2 v3 = 2 ∧ cL μ v3 v2)) : cMk μ m n v2 (v3 + 1) := fun r a b => ⟨(h r a b).1.trans (cGx_c (fun p q p0 p1 q0 q1 c d => ⟨fun z => by omega, fun z => by
  by_cases y : p = v2 ∧ q = v3
  · obtain ⟨y1, y2⟩ := y
    rw [y1, y2] at c d
    exact absurd ⟨c, d⟩ e
  · omega⟩)), (h r a b).2⟩
theorem cMk_f {μ m m' : zM} {n v2 v3 : Int} (h : cMk μ m n v2 v3) (e : m'.1 9 = m.1 9) : cMk μ m' n v2 v3 := fun r a b => by rw [e]; exact h r a b
theorem cMk_y {μ m m' : zM} {n v2 v3 : Int} (h : cMk μ m n v2 v3) (hv2 : 0 ≤ v2 ∧ v2 < n) (hv3 : 0 ≤ v3 ∧ v3 < n) (e : cW μ v2 v3 = 2) (e2 : cL μ v3 v2) (c8 : m.1 8 = μ.1 8) (H : cM m m' v2 n) : cMk μ m' n v2 (v3 + 1) := fun r a b => by
  have w := (h r a b).1
  have k := H r a b
  refine ⟨k.1.trans ⟨?_, ?_⟩, k.2⟩
  · rintro (z | ⟨q0, q1, q2⟩)
    · obtain ⟨q0, p, q, hp, hq, b', c, d⟩ := w.mp z
      exact ⟨q0, p, q, hp, hq, by omega, c, d⟩
    · exact ⟨q0, v2, v3, hv2, hv3, Or.inr ⟨rfl, by omega⟩, e, e2, (cL_f c8).mp q1, (cL_f c8).mp q2⟩
  · rintro ⟨q0, p, q, hp, hq, b', c, d⟩
    by_cases z : p = v2 ∧ q = v3
    · rw [z.1] at d
      exact Or.inr ⟨q0, (cL_f c8).mpr d.2.1, (cL_f c8).mpr d.2.2⟩
    · exact Or.inl (w.mpr ⟨q0, p, q, hp, hq, by omega, c, d⟩)
def gk_X7_markRounds : zC := fun As μ Q => ∃ (a1 : Int), As = [.inr (.inr (6, 6)), .inl a1] ∧ (0 ≤ a1 ∧ a1 ≤ 80) ∧ (∀ r : Int, 0 ≤ r → r < 80 → μ.1 9 r = 0) ∧ (∀ (μ' : zM), zq7 μ μ' → cMk μ μ' a1 a1 0 → Q none μ')
set_option maxHeartbeats 4000000 in
theorem gm_X7_markRounds {g : zΓ} (hg : zg g) (d : Nat) (hd : 4 ≤ d) : zOk g d 94 gk_X7_markRounds := by
  obtain ⟨d, rfl⟩ : ∃ d', d = d' + 1 := ⟨d - 1, by omega⟩
  refine zOk_loop hg (show mt_tab[94]? = some mt_X7_markRounds from rfl) ([(2, [0, 1, 2]), (9, [0, 1, 2, 3])], []) 42 rfl fun As μ Q hC => ?_
  obtain ⟨a1, rfl, ha1, h9, hQ⟩ := hC
  have z0 : zq7 μ μ := zq7_r μ
  refine ⟨rfl, fun pc vs μ' n => (pc = 2 → ∃ (v2 : Int), vs = [.inr (.inr (6, 6)), .inl a1, .inl v2] ∧ zq7 μ μ' ∧ (0 ≤ v2 ∧ v2 ≤ a1) ∧ (∀ j : Nat, j ≠ 9 → j ≠ 6 → μ'.1 j = μ.1 j) ∧ cMk μ μ' a1 v2 0 ∧ n = (Int.toNat ((2147483648 - v2) * 4294967296 + 4294967295))) ∧ (pc = 9 → ∃ (v2 : Int) (v3 : Int), vs = [.inr (.inr (6, 6)), .inl a1, .inl v2, .inl v3] ∧ zq7 μ μ' ∧ (0 ≤ v2 ∧ v2 < a1) ∧ (0 ≤ v3 ∧ v3 ≤ a1) ∧ (∀ j : Nat, j ≠ 9 → j ≠ 6 → μ'.1 j = μ.1 j) ∧ cMk μ μ' a1 v2 v3 ∧ n = (Int.toNat ((2147483648 - v2) * 4294967296 + (2147483648 - v3)))), ?_, ?_, ?_, trivial⟩
  · refine Exists.intro (Int.toNat ((2147483648 - 0) * 4294967296 + 4294967295)) ?_
    exact ⟨(fun _ => ⟨_, rfl, z0, ⟨Int.le_refl _, ha1.1⟩, fun _ _ _ => rfl, cMk_0 h9, rfl⟩), (fun h => absurd h (by decide))⟩
  · intro vs m0 n hI
    replace hI := hI.1 rfl
    clear z0
    obtain ⟨v2, rfl, z0, hv2, fr, M, rfl⟩ := hI
    refine And.intro ⟨⟨by omega, by omega⟩, ⟨by omega, by omega⟩⟩ (And.intro (fun c1 => ?_) (fun c1 => ?_))
    · have e : v2 = a1 := by omega
      rw [e] at M
      exact And.intro rfl (hQ _ z0 M)
    · refine Exists.intro (Int.toNat ((2147483648 - v2) * 4294967296 + (2147483648 - 0))) (And.intro (by omega) ?_)
      exact ⟨(fun h => absurd h (by decide)), (fun _ => ⟨_, _, rfl, z0, ⟨by omega, by omega⟩, ⟨by omega, by omega⟩, fr, M, rfl⟩)⟩
  · intro vs m0 n hI
    replace hI := hI.2 rfl
    clear z0
    obtain ⟨v2, v3, rfl, z0, hv2, hv3, fr, M, rfl⟩ := hI
    have f8 := fr 8 (by decide) (by decide)
    refine And.intro ⟨⟨by omega, by omega⟩, ⟨by omega, by omega⟩⟩ (And.intro (fun c2 => ?_) (fun c2 => ?_))
    · refine Exists.intro (Int.toNat ((2147483648 - (v2 + 1)) * 4294967296 + 4294967295)) (And.intro (by omega) ?_)
      exact ⟨(fun _ => ⟨_, rfl, z0, ⟨by omega, by omega⟩, fr, cMk_p M (by omega), rfl⟩), (fun h => absurd h (by decide))⟩
    · refine ⟨zk_X8_at, zm_X8_at hg d (by omega), _, _, _, rfl, ⟨by omega, by omega⟩, ?_⟩
      intro x5 kx5 lx5 fx5 gx5
      have hx5 : cW μ v2 v3 = x5 := by unfold cW; rw [← fr 7 (by decide) (by decide)]; exact (fx5 ⟨by omega, by omega⟩).1.symm
      refine And.intro ⟨⟨by omega, by omega⟩, ⟨by omega, by omega⟩⟩ (And.intro (fun c6 => ?_) (fun c6 => ?_))
      · refine Exists.intro (Int.toNat ((2147483648 - v2) * 4294967296 + (2147483648 - (v3 + 1)))) (And.intro (by omega) ?_)
        exact ⟨(fun h => absurd h (by decide)), (fun _ => ⟨_, _, rfl, z0, hv2, ⟨by omega, by omega⟩, fr, cMk_n M (fun q => by have := q.1; omega), rfl⟩)⟩
      · refine ⟨gk_X7_leads, gm_X7_leads hg d (by omega), _, _, rfl, ⟨by omega, by omega⟩, ⟨by omega, by omega⟩, ?_⟩
        intro x7 kx7 lx7 p7
        rw [cL_f f8] at p7
        refine And.intro ⟨by omega, by omega⟩ (And.intro (fun c8 => ?_) (fun c8 => ?_))
        · refine Exists.intro (Int.toNat ((2147483648 - v2) * 4294967296 + (2147483648 - (v3 + 1)))) (And.intro (by omega) ?_)
          exact ⟨(fun h => absurd h (by decide)), (fun _ => ⟨_, _, rfl, z0, hv2, ⟨by omega, by omega⟩, fr, cMk_n M (fun q => by rcases p7 with w | w; (have := w.1; omega); exact w.2 q.2), rfl⟩)⟩
        · refine And.intro ⟨by omega, by omega⟩ ?_
          intro m9 em9
          have z10 := zq7_t z0 (zq7_u em9 (Or.inl (by decide)) (Or.inl ⟨by decide, by decide⟩))
          have f9 : ∀ j : Nat, j ≠ 6 → m9.1 j = m0.1 j := fun j hj => by rw [em9, zu_ne hj]
          have M9 := cMk_f M (f9 9 (by decide))
          refine ⟨gk_X7_markRound, gm_X7_markRound hg d (by omega), _, _, rfl, ⟨by omega, by omega⟩, ⟨by omega, by omega⟩, (fun r a b => (M9 r a b).2), ?_⟩
          intro m11 qm11 fm11 K
          have z12 := zq7_t z10 qm11
          refine Exists.intro (Int.toNat ((2147483648 - v2) * 4294967296 + (2147483648 - (v3 + 1)))) (And.intro (by omega) ?_)
          exact ⟨(fun h => absurd h (by decide)), (fun _ => ⟨_, _, rfl, z12, hv2, ⟨by omega, by omega⟩, (fun j a b => ((fm11 j a).trans (f9 j b)).trans (fr j a b)), cMk_y M9 hv2 ⟨by omega, by omega⟩ (by omega) (by rcases p7 with w | w; exact w.2; (exfalso; have := w.1; omega)) ((f9 8 (by decide)).trans f8) K, rfl⟩)⟩
def cOn (m : zM) (n : Int) : Prop := ∀ r : Int, 0 ≤ r → r < n → (m.1 9 r = 1 ↔ wGc (cW m) n.toNat r) ∧ (m.1 9 r = 0 ∨ m.1 9 r = 1)
theorem cOn_f {m m' : zM} {n : Int} (h : cOn m n) (e7 : m'.1 7 = m.1 7) (e9 : m'.1 9 = m.1 9) : cOn m' n := by
  unfold cOn cW
  rw [e7, e9]
  exact h
theorem cOn_mk {ν μ m : zM} {n : Int} (hn : 0 ≤ n ∧ n ≤ 80) (e7 : μ.1 7 = ν.1 7) (c7 : m.1 7 = μ.1 7) (R : cRg μ (cE ν) n n.toNat 0) (H : cMk μ m n n 0) : cOn m n := fun r r0 r1 => by
  have cast : ((n.toNat : Nat) : Int) = n := by omega
  have hw : cW μ = cW m := by unfold cW; rw [c7]
  have hE : cE ν = fun a b => 1 ≤ cW m a b := by rw [← hw]; unfold cE cW; rw [e7]
  rw [hE] at R
  have L : ∀ a b : Int, 0 ≤ a → a < n → 0 ≤ b → b < n → (cL μ a b ↔ wL (fun a b => 1 ≤ cW m a b) n.toNat a b) := fun a b a0 a1 b0 b1 => by
    have w := (R a b a0 a1 b0 b1).2 (by omega)
    unfold cL wL
    rw [w]
  have h := H r r0 (by omega)
  refine ⟨h.1.trans ⟨?_, ?_⟩, h.2⟩
  · rintro ⟨-, p, q, hp, hq, -, c, d1, d2, d3⟩
    rw [hw] at c
    exact ⟨p, q, by rw [cast]; exact hp, by rw [cast]; exact hq, c, (L q p hq.1 hq.2 hp.1 hp.2).mp d1, (L p r hp.1 hp.2 r0 r1).mp d2, (L r p r0 r1 hp.1 hp.2).mp d3⟩
  · rintro ⟨p, q, hp, hq, c, d1, d2, d3⟩
    rw [cast] at hp hq
    rw [← hw] at c
    exact ⟨r1, p, q, hp, hq, Or.inl hp.2, c, (L q p hq.1 hq.2 hp.1 hp.2).mpr d1, (L p r hp.1 hp.2 r0 r1).mpr d2, (L r p r0 r1 hp.1 hp.2).mpr d3⟩
def cWf (m : zM) (B : yB) : Prop := cWe m B ∧ cOn m (B.1 0 1)
theorem cWf_f {m m' : zM} {B : yB} (w : cWf m B) (e : m'.1 7 = m.1 7) (e9 : m'.1 9 = m.1 9) : cWf m' B := ⟨cWe_f w.1 e, cOn_f w.2 e e9⟩
def vk_X8_isClass : zC := fun As μ Q => ∃ (a1 : Int), As = [.inl a1] ∧ ((-2147483648) ≤ a1 ∧ a1 ≤ 2147483647) ∧ (∀ (v : Int), 0 ≤ v → v ≤ 1 → ((v = 1 ∧ (0 ≤ a1 ∧ a1 < 21)) ∨ (v = 0 ∧ ¬ (0 ≤ a1 ∧ a1 < 21))) → Q (some (.inl v)) μ)
set_option maxHeartbeats 4000000 in
theorem vm_X8_isClass {g : zΓ} (hg : zg g) (d : Nat) (hd : 1 ≤ d) : zOk g d 114 vk_X8_isClass := by
  obtain ⟨d, rfl⟩ : ∃ d', d = d' + 1 := ⟨d - 1, by omega⟩
  refine zOk_straight hg (show mt_tab[114]? = some mt_X8_isClass from rfl) [] 14 rfl fun As μ Q hC => ?_
  obtain ⟨a1, rfl, ha1, hQ⟩ := hC
  refine ⟨rfl, ?_⟩
  refine And.intro ⟨by omega, by omega⟩ (And.intro (fun c1 => ?_) (fun c1 => ?_))
  · exact And.intro (zrtb (by omega)) (And.intro ⟨by omega, by omega⟩ (hQ _ (by omega) (by omega) (by first | exact Or.inl ⟨rfl, by omega⟩ | exact Or.inr ⟨rfl, by omega⟩)))
  · refine And.intro ⟨⟨by omega, by omega⟩, ⟨by omega, by omega⟩⟩ (And.intro (fun c2 => ?_) (fun c2 => ?_))
    · exact And.intro (zrtb (by omega)) (And.intro ⟨by omega, by omega⟩ (hQ _ (by omega) (by omega) (by first | exact Or.inl ⟨rfl, by omega⟩ | exact Or.inr ⟨rfl, by omega⟩)))
    · exact And.intro (zrtb (by omega)) (And.intro ⟨by omega, by omega⟩ (hQ _ (by omega) (by omega) (by first | exact Or.inl ⟨rfl, by omega⟩ | exact Or.inr ⟨rfl, by omega⟩)))
def gk_X7_addWays : zC := fun As μ Q => ∃ (a1 : Nat) (a2 a3 a4 : Int), As = [.inr (.inr (6, 6)), .inr (.inr (a1, 25)), .inl a2, .inl a3, .inl a4] ∧ (a1 = 25 ∨ a1 = 43) ∧ (0 ≤ a2 ∧ a2 ≤ a3 ∧ a3 ≤ 300) ∧ (0 ≤ a4 ∧ a4 < 80) ∧ vRg μ ∧ (∀ (μ' : zM), zqw μ μ' → (∀ j : Nat, j ≠ 7 → μ'.1 j = μ.1 j) → (∀ g : Int, ((g = 2 ∧ 1 < a3 - a2) ∨ (g = 1 ∧ a3 - a2 ≤ 1)) → vWa μ μ' a1 a2 a3 a4 g) → Q none μ')
set_option maxHeartbeats 4000000 in
theorem gm_X7_addWays {g : zΓ} (hg : zg g) (d : Nat) (hd : 2 ≤ d) : zOk g d 91 gk_X7_addWays := by
  obtain ⟨d, rfl⟩ : ∃ d', d = d' + 1 := ⟨d - 1, by omega⟩
  refine zOk_loop hg (show mt_tab[91]? = some mt_X7_addWays from rfl) ([(17, [0, 1, 3, 4, 5, 6])], []) 47 rfl fun As μ Q hC => ?_
  obtain ⟨a1, a2, a3, a4, rfl, ha1, ha2, ha4, hrg, hQ⟩ := hC
  have z0 : zqw μ μ := zqw_r μ
  have a7 : a1 ≠ 7 := by omega
  refine ⟨rfl, fun pc vs μ' n => ∃ (v5 v6 : Int), vs = [.inr (.inr (6, 6)), .inr (.inr (a1, 25)), .inl a3, .inl a4, .inl v5, .inl v6] ∧ zqw μ μ' ∧ (∀ j : Nat, j ≠ 7 → μ'.1 j = μ.1 j) ∧ ((v5 = 2 ∧ 1 < a3 - a2) ∨ (v5 = 1 ∧ a3 - a2 ≤ 1)) ∧ (a2 ≤ v6 ∧ v6 ≤ a3) ∧ vWa μ μ' a1 a2 v6 a4 v5 ∧ n = (Int.toNat (2147483648 - v6)), ?_, ?_, trivial⟩
  · refine And.intro ⟨⟨by omega, by omega⟩, ⟨by omega, by omega⟩⟩ (And.intro (fun c2 => ?_) (fun c2 => ?_))
    · refine Exists.intro (Int.toNat (2147483648 - a2)) ?_
      exact ⟨_, _, rfl, z0, fun _ _ => rfl, Or.inr ⟨rfl, c2⟩, ⟨Int.le_refl _, ha2.2.1⟩, vWa_0 hrg, rfl⟩
    · refine Exists.intro (Int.toNat (2147483648 - a2)) ?_
      exact ⟨_, _, rfl, z0, fun _ _ => rfl, Or.inl ⟨rfl, c2⟩, ⟨Int.le_refl _, ha2.2.1⟩, vWa_0 hrg, rfl⟩
  · intro vs m0 n hI
    clear z0
    obtain ⟨v5, v6, rfl, z0, fr, h5, h6, W, rfl⟩ := hI
    refine And.intro ⟨⟨by omega, by omega⟩, ⟨by omega, by omega⟩⟩ (And.intro (fun c3 => ?_) (fun c3 => ?_))
    · refine And.intro rfl (hQ _ z0 fr (fun g hg' => ?_))
      have e1 : g = v5 := by omega
      have e2 : v6 = a3 := by omega
      rw [e1, ← e2]; exact W
    · refine ⟨zk_X8_at, zm_X8_at hg d (by omega), _, _, _, rfl, ⟨by omega, by omega⟩, ?_⟩
      refine And.intro ha1 ?_
      intro x5 kx5 lx5 fx5 gx5
      have hx5 : x5 = μ.1 a1 v6 := by rw [← fr a1 a7]; exact (fx5 ⟨by omega, by omega⟩).1
      refine ⟨yk_X8_isParameter, ym_X8_isParameter hg d (by omega), _, rfl, ⟨by omega, by omega⟩, ?_⟩
      intro x6 kx6 lx6 p6
      refine And.intro ⟨by omega, by omega⟩ (And.intro (fun c7 => ?_) (fun c7 => ?_))
      · refine Exists.intro (Int.toNat (2147483648 - (v6 + 1))) (And.intro (by omega) ?_)
        exact ⟨_, _, rfl, z0, fr, h5, ⟨by omega, by omega⟩, vWa_n W (by rw [← hx5]; omega), rfl⟩
      · refine ⟨zk_X8_at, zm_X8_at hg d (by omega), _, _, _, rfl, ⟨by omega, by omega⟩, ?_⟩
        intro x11 kx11 lx11 fx11 gx11
        have hx11 : x11 = m0.1 7 ((x5 - 32) * 80 + a4) := (fx11 ⟨by omega, by omega⟩).1
        refine ⟨zk_J9_max_7cf53, zm_J9_max_7cf53 hg d (by omega), _, _, rfl, ⟨by omega, by omega⟩, ⟨by omega, by omega⟩, ?_⟩
        intro x12 kx12 lx12 p13 p14 p15
        refine ⟨yk_X8_set, ym_X8_set hg d (by omega), _, _, _, _, rfl, ⟨by omega, by omega⟩, ?_⟩
        refine And.intro ⟨by omega, by omega⟩ (And.intro ⟨by omega, by omega⟩ ?_)
        intro m16 qm16 em16
        have z17 := zqw_t z0 (zqw_s qm16 (fun j hj => by rw [em16, zu_ne hj]) (by rw [em16]; rfl) (by decide))
        refine Exists.intro (Int.toNat (2147483648 - (v6 + 1))) (And.intro (by omega) ?_)
        exact ⟨_, _, rfl, z17, fun j hj => by rw [em16, zu_ne hj]; exact fr j hj, h5, ⟨by omega, by omega⟩, vWa_s W h6.1 ha4 (by omega) ⟨by omega, by omega⟩ hx5.symm em16 p13 (by rw [← hx11]; exact p14) (by rw [← hx11]; exact p15), rfl⟩
def yMe (μ : zM) (t : Nat) (B : yB) : Prop := yRB μ t B ∧ yRS μ t (B.1 0 2) B ∧ yCv μ t (B.1 0 2) B ∧ μ.1 t ((14 : Nat) : Int) = B.1 0 2 ∧ (0 ≤ B.1 0 2 ∧ B.1 0 2 ≤ 300) ∧ yI0 B
def gk_X7_measure : zC := fun As μ Q => ∃ (a1 : Nat) (B : yB), As = [.inr (.inr (6, 6)), .inr (.inr (a1, 14))] ∧ (a1 = 14 ∨ a1 = 32) ∧ yMe μ a1 B ∧ (μ.2 7 = 6400 ∧ μ.2 9 = 80) ∧ yGd B ∧ (∀ (μ' : zM), zqw μ μ' → cWf μ' B → Q none μ')
set_option maxHeartbeats 4000000 in
theorem gm_X7_measure {g : zΓ} (hg : zg g) (d : Nat) (hd : 5 ≤ d) : zOk g d 90 gk_X7_measure := by
  obtain ⟨d, rfl⟩ : ∃ d', d = d' + 1 := ⟨d - 1, by omega⟩
  refine zOk_loop hg (show mt_tab[90]? = some mt_X7_measure from rfl) ([(23, [0, 1, 2]), (48, [0, 1, 2, 3, 4, 5])], []) 72 rfl fun As μ Q hC => ?_
  obtain ⟨a1, B, rfl, ha1, ⟨hB, hS, hC, h14, hN, hI0⟩, ⟨h7, h9z⟩, hG, hQ⟩ := hC
  have z0 : zqw μ μ := zqw_r μ
  have C21 := hI0.1.1.2
  refine ⟨rfl, fun pc vs μ' n => (pc = 23 → ∃ (v2 : Int), vs = [.inr (.inr (6, 6)), .inr (.inr (a1, 14)), .inl v2] ∧ zqw μ μ' ∧ (0 ≤ v2 ∧ v2 ≤ B.1 0 2) ∧ yWa μ μ' a1 B v2 ∧ (∀ k : Int, 0 ≤ k → k < 80 → μ'.1 9 k = 0) ∧ n = (Int.toNat ((2147483648 - v2) * 4294967296 + 4294967295))) ∧ (pc = 48 → ∃ (v2 : Int) (v3 : Int) (v4 : Int) (v5 : Int), vs = [.inr (.inr (6, 6)), .inr (.inr (a1, 14)), .inl v2, .inl v3, .inl v4, .inl v5] ∧ zqw μ μ' ∧ (0 ≤ v2 ∧ v2 < B.1 0 2) ∧ (∃ as : List (List Int), yAt μ a1 B (B.1 0 2) v2 v3 as ∧ (0 ≤ v5 ∧ v5 ≤ as.length) ∧ v4 = v2 + 1 + ((as.take v5.toNat).flatten.length : Int) ∧ yWb μ μ' a1 B v2 v3 as v5.toNat) ∧ (∀ k : Int, 0 ≤ k → k < 80 → μ'.1 9 k = 0) ∧ n = (Int.toNat ((2147483648 - v2) * 4294967296 + (2147483648 - v5)))), ?_, ?_, ?_, trivial⟩
  · refine ⟨_, zOk_tag (ym_J7_fill_53178 hg d (by omega)), [.inr (.inr (7, 1001)), .inl 0], rfl, _, _, rfl, (Or.inr ⟨by decide, by decide⟩), ⟨by omega, by omega⟩, (show _ ∧ _ from ⟨by omega, by omega⟩), (by decide), ?_⟩
    intro m1 qm1 pm1
    have z2 := zqw_t z0 (zqw_s qm1.1 pm1.1 qm1.2 (by decide))
    refine ⟨_, zOk_tag (ym_J7_fill_53178 hg d (by omega)), [.inr (.inr (9, 1001)), .inl 0], rfl, _, _, rfl, (Or.inr ⟨by decide, by decide⟩), ⟨by omega, by omega⟩, (show _ ∧ _ from ⟨by omega, by omega⟩), (by decide), ?_⟩
    intro m3 qm3 pm3
    have z4 := zqw_t z2 (zqw_s qm3.1 pm3.1 qm3.2 (by decide))
    refine And.intro ⟨by omega, by omega⟩ ?_
    intro m5 em5
    have z6 := zqw_t z4 (zqw_u em5 (Or.inl (by decide)) (Or.inl ⟨by decide, by decide⟩))
    refine Exists.intro (Int.toNat ((2147483648 - 0) * 4294967296 + 4294967295)) ?_
    exact ⟨(fun _ => ⟨_, rfl, z6, ⟨Int.le_refl _, hN.1⟩, yWa_0 (fun k k0 k1 => by rw [em5, zu_ne (by decide), pm3.1 7 (by decide)]; exact pm1.2 k k0 (by rw [h7]; exact k1)), (fun k k0 k1 => by rw [em5, zu_ne (by decide)]; exact pm3.2 k k0 (by rw [qm1.2, h9z]; exact k1)), rfl⟩), (fun h => absurd h (by decide))⟩
  · intro vs m0 n hI
    replace hI := hI.1 rfl
    clear z0
    obtain ⟨v2, rfl, z0, hv2, W, N9, rfl⟩ := hI
    refine And.intro ha1 ?_
    intro x7 hx7 kx7 lx7
    have X7 : x7 = B.1 0 2 := by rw [hx7, z0.2 a1 (by omega)]; exact h14
    refine And.intro ⟨⟨by omega, by omega⟩, ⟨by omega, by omega⟩⟩ (And.intro (fun c8 => ?_) (fun c8 => ?_))
    · refine And.intro ha1 ?_
      intro x9 hx9 kx9 lx9
      have X9 : x9 = B.1 0 1 := by rw [hx9, z0.2 a1 (by omega)]; exact hB.1.2.1
      have P80 := hI0.1.2.2
      refine ⟨gk_X7_closeReach, gm_X7_closeReach hg d (by omega), _, rfl, ⟨by omega, by omega⟩, ?_⟩
      intro m10 qm10 fm10 R
      refine And.intro ha1 ?_
      intro x12 hx12 kx12 lx12
      have X12 : x12 = B.1 0 1 := by rw [hx12, qm10.1.2 a1 (by omega), z0.2 a1 (by omega)]; exact hB.1.2.1
      refine ⟨gk_X7_markRounds, gm_X7_markRounds hg d (by omega), _, rfl, ⟨by omega, by omega⟩, (fun r a b => by rw [fm10 9 (by decide)]; exact N9 r a b), ?_⟩
      intro m13 qm13 K
      have V2 : v2 = B.1 0 2 := by omega
      rw [V2] at W
      rw [X9] at R
      rw [X12] at K
      exact And.intro rfl (hQ _ (zqw_t (zqw_t z0 qm10.1) qm13.1) ⟨cWe_mk hS (yWa_f (yWa_f W qm10.2) qm13.2), cOn_mk ⟨by omega, by omega⟩ qm10.2 qm13.2 R K⟩)
    · refine And.intro ha1 ?_
      refine ⟨zk_X8_at, zm_X8_at hg d (by omega), _, _, _, rfl, ⟨by omega, by omega⟩, ?_⟩
      refine And.intro (zfa (o := 11) (y2 := 25) ha1 rfl) ?_
      intro x15 kx15 lx15 fx15 gx15
      obtain ⟨h, as, AT⟩ := yAt_mk hI0 hG hS hC hv2.1 (show v2 < B.1 0 2 by omega)
      have X15 : x15 = h := by rw [(fx15 ⟨by omega, by omega⟩).1, z0.2 _ (by simp only [Nat.add_eq]; omega)]; exact (yRow_c.mp AT.1.2.2).1
      refine Exists.intro (Int.toNat ((2147483648 - v2) * 4294967296 + (2147483648 - 0))) (And.intro (by omega) ?_)
      exact ⟨(fun h => absurd h (by decide)), (fun _ => ⟨_, _, _, _, rfl, z0, ⟨hv2.1, by omega⟩, ⟨as, by rw [X15]; exact AT, ⟨Int.le_refl _, by omega⟩, by simp, yWb_0 W⟩, N9, rfl⟩)⟩
  · intro vs m0 n hI
    replace hI := hI.2 rfl
    clear z0
    obtain ⟨v2, v3, v4, v5, rfl, z0, hv2, ⟨as, AT, hv5, hv4, W⟩, N9, rfl⟩ := hI
    have hk := AT.2.2.2.1
    unfold yhk at hk
    have hlen := AT.2.1
    have h4 := yar_4 hI0 v3
    have ha5 : v5.toNat ≤ as.length := by omega
    refine ⟨vk_X8_isClass, vm_X8_isClass hg d (by omega), _, rfl, ⟨by omega, by omega⟩, ?_⟩
    intro x16 kx16 lx16 p16
    refine And.intro ⟨by omega, by omega⟩ (And.intro (fun c17 => ?_) (fun c17 => ?_))
    · refine Exists.intro (Int.toNat ((2147483648 - (v2 + 1)) * 4294967296 + 4294967295)) (And.intro (by omega) ?_)
      exact ⟨(fun _ => ⟨_, rfl, z0, ⟨by omega, by omega⟩, yWa_s hS AT hv2.1 W (fun q => by exfalso; omega), N9, rfl⟩), (fun h => absurd h (by decide))⟩
    · have hh : 0 ≤ v3 ∧ v3 < B.1 0 0 := by omega
      refine And.intro ha1 ⟨yk_X4_arity, ym_X4_arity hg d (by omega), _, _, rfl, ha1, ⟨by omega, by omega⟩, ?_⟩
      intro x18 kx18 lx18 p18
      have TB := hB.2.1 v3 hh.1 hh.2
      have yv : yar B v3 = B.1 3 v3 := by unfold yar; rw [if_pos hh]
      have X18 : x18 = as.length := by
        rw [p18, z0.2 a1 (by omega), z0.2 _ (by simp only [Nat.add_eq]; omega), hB.1.1, if_pos hh, TB.1.2.2.1, hlen, yv]
      refine And.intro ⟨⟨by omega, by omega⟩, ⟨by omega, by omega⟩⟩ (And.intro (fun c19 => ?_) (fun c19 => ?_))
      · refine Exists.intro (Int.toNat ((2147483648 - (v2 + 1)) * 4294967296 + 4294967295)) (And.intro (by omega) ?_)
        exact ⟨(fun _ => ⟨_, rfl, z0, ⟨by omega, by omega⟩, yWa_s hS AT hv2.1 W (fun q => by omega), N9, rfl⟩), (fun h => absurd h (by decide))⟩
      · have hj : v5.toNat < as.length := by omega
        obtain ⟨AJ, AO, AL⟩ := yAt_j AT hj
        have AJ1 := AJ.1
        have AJ2 := AJ.2.1
        rw [← hv4] at AJ AJ1 AJ2
        have e11 : m0.1 (Nat.add a1 11) = μ.1 (Nat.add a1 11) := z0.2 _ (by simp only [Nat.add_eq]; omega)
        have e14 : m0.1 a1 ((14 : Nat) : Int) = B.1 0 2 := by rw [z0.2 a1 (by omega)]; exact h14
        have TO : yTo m0 (Nat.add a1 11) v4 (m0.1 a1 ((14 : Nat) : Int)) (as.getD v5.toNat []) := ⟨AJ.1, by rw [e14]; exact AJ.2.1, yRow_e AJ.2.2 e11⟩
        refine And.intro ha1 ⟨yk_X4_endOfPart, ym_X4_endOfPart hg d (by omega), _, _, (as.getD v5.toNat []), (yar B), rfl, ha1, ⟨by omega, by omega⟩, TO, (by rw [e14]; exact hN.2), (fun x => by rw [z0.2 a1 (by omega), z0.2 _ (by simp only [Nat.add_eq]; omega), hB.1.1]; unfold yar; by_cases q : 0 ≤ x ∧ x < B.1 0 0; (rw [if_pos q, if_pos q]; exact (hB.2.1 x q.1 q.2).1.2.2.1); rw [if_neg q, if_neg q]), AO, ?_⟩
        intro x20 kx20 lx20 p20
        refine And.intro ha1 ?_
        refine And.intro ha1 ?_
        refine ⟨zk_X8_at, zm_X8_at hg d (by omega), _, _, _, rfl, ⟨by omega, by omega⟩, ?_⟩
        refine And.intro (zfa (o := 2) (y2 := 16) ha1 rfl) ?_
        intro x21 kx21 lx21 fx21 gx21
        have X21 : x21 = B.1 2 v3 := by rw [(fx21 ⟨by omega, by omega⟩).1, z0.2 _ (by simp only [Nat.add_eq]; omega)]; exact TB.1.2.1
        have TI := hI0.2 v3 hh.1 hh.2
        have TP := hI0.1.2.2
        refine ⟨gk_X7_addWays, gm_X7_addWays hg d (by omega), _, _, _, _, rfl, (zfa (o := 11) (y2 := 25) ha1 rfl), ⟨by omega, by omega, by omega⟩, ⟨by omega, by omega⟩, yWb_r W, ?_⟩
        intro m23 qm23 fr23 p23
        have z24 := zqw_t z0 qm23
        have tn : (v5 + 1).toNat = v5.toNat + 1 := by omega
        refine Exists.intro (Int.toNat ((2147483648 - v2) * 4294967296 + (2147483648 - (v5 + 1)))) (And.intro (by omega) ?_)
        refine ⟨(fun h => absurd h (by decide)), (fun _ => ⟨_, _, _, _, rfl, z24, hv2, ⟨as, AT, ⟨by omega, by omega⟩, by rw [tn, AL]; omega, ?_⟩, (fun k a b => by rw [fr23 9 (by decide)]; exact N9 k a b), rfl⟩)⟩
        rw [tn]
        by_cases q : 1 < x20 - v4
        · exact yWb_s AT ⟨hh.1, by omega⟩ hj W (p23 2 (Or.inl ⟨rfl, q⟩)) e11 hv4 p20 (by omega) (Or.inl ⟨rfl, q⟩)
        · exact yWb_s AT ⟨hh.1, by omega⟩ hj W (p23 1 (Or.inr ⟨rfl, by omega⟩)) e11 hv4 p20 (by omega) (Or.inr ⟨rfl, by omega⟩)
def wk_X7_measure : zC := fun As μ Q => ∃ (a1 : Nat) (B : yB), As = [.inr (.inr (6, 6)), .inr (.inr (a1, 14))] ∧ (a1 = 14 ∨ a1 = 32) ∧ yMe μ a1 B ∧ (∀ (μ' : zM), zqw μ μ' → (yGd B → cWf μ' B) → Q none μ')
theorem wm_X7_measure {g : zΓ} (hg : zg g) (d : Nat) (hd : 5 ≤ d) : zOk g d 90 wk_X7_measure := fun As μ Q w hw hr hC => by
  obtain ⟨a1, B, e, ha1, hM, hQ⟩ := hC
  obtain ⟨c7, q7, h7, -⟩ := hw.2.2.1 7 _ (show znth zcl 7 = some (.inr (0, 6400, -2147483648, 2147483647)) from rfl)
  obtain ⟨c9, q9, h9, -⟩ := hw.2.2.1 9 _ (show znth zcl 9 = some (.inr (0, 80, -2147483648, 2147483647)) from rfl)
  by_cases q : yGd B
  · exact gm_X7_measure hg d hd As μ Q w hw hr ⟨a1, B, e, ha1, hM, ⟨h7, h9⟩, q, fun μ' z c => hQ μ' z (fun _ => c)⟩
  · exact xm_X7_measure hg d hd As μ Q w hw hr ⟨a1, e, ha1, fun μ' z => hQ μ' z (fun h => absurd h q)⟩
