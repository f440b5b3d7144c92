def yCw (μ : zM) (t : Nat) (B : yB) : Prop := yCv μ t (B.1 0 2) B ∧ μ.1 t ((14 : Nat) : Int) = B.1 0 2
def wk_X4_startOver : zC := fun As μ Q => ∃ (t : Nat) (c : Nat), As = [.inr (.inr (t, 14))] ∧ (t = 14 ∨ t = 32) ∧ (μ.2 (Nat.add t 14) = 441) ∧ (yCo μ (Nat.add t 12) c ∧ 1024 ≤ μ.2 c) ∧ (zcq μ) ∧ (∀ (μ' : zM), zle μ μ' → (yRV μ' t ∧ (∀ j : Nat, j < 14 ∨ j = 50 → μ'.1 j = μ.1 j)) → (∀ j : Nat, zob t j → μ'.1 j = μ.1 j) → (μ'.1 t ((14 : Nat) : Int) = 0) → (zox t μ μ') → Q none μ')
set_option maxHeartbeats 4000000 in
theorem wm_X4_startOver {g : zΓ} (hg : zg g) (d : Nat) (hd : 5 ≤ d) : zOk g d 55 wk_X4_startOver := by
  obtain ⟨d, rfl⟩ : ∃ d', d = d' + 1 := ⟨d - 1, by omega⟩
  refine zOk_straight hg (show mt_tab[55]? = some mt_X4_startOver from rfl) [] 28 rfl fun As μ Q hC => ?_
  obtain ⟨t, c, rfl, ht, hp0, hp1, hp2, hQ⟩ := hC
  have N1 : ∀ a : Nat, a ≤ 20 → Nat.add t a ≠ Nat.add 3000000 (Nat.add t 1) := fun a ha => show t + a ≠ 3000000 + (t + 1) by omega
  refine ⟨rfl, ?_⟩
  have z0 : zle μ μ := zle_r μ
  refine And.intro ht ?_
  refine And.intro ⟨by omega, by omega⟩ ?_
  intro m1 em1
  have z2 := zle_0 z0 (zl0_f em1 ht (by decide) (Or.inl (by decide)))
  refine And.intro ht ?_
  refine And.intro ⟨by omega, by omega⟩ ?_
  intro m3 em3
  have z4 := zle_0 z2 (zl0_f em3 ht (by decide) (Or.inl (by decide)))
  refine And.intro ht ?_
  refine And.intro ⟨by omega, by omega⟩ ?_
  intro m5 em5
  have z6 := zle_0 z4 (zl0_f em5 ht (by decide) (Or.inl (by decide)))
  have E3 : m5 = zu (zu (zu μ t ((12 : Nat) : Int) 0) t ((13 : Nat) : Int) 0) t ((14 : Nat) : Int) 0 := by rw [em5, em3, em1]
  have T2 : m5.2 = μ.2 := by rw [E3]; rfl
  refine And.intro ht ?_
  refine And.intro (zfa (o := 12) (y2 := 26) ht rfl) ⟨yk_X1_startOver, ym_X1_startOver hg d (by omega), _, rfl, (zfa (o := 12) (y2 := 26) ht rfl), (by rw [T2]; exact hp0), ?_⟩
  intro m7 qm7 p8
  have z9 := zle_0 z6 qm7
  have S4 := p8
  have Q4 := qm7.2
  have T12 : m7.1 t ((12 : Nat) : Int) = 0 := by rw [S4.2.2.1 t (show t ≠ t + 12 by omega) (show t ≠ t + 14 by omega), E3, zu_nk (by decide), zu_nk (by decide), zu_at]
  refine And.intro ht ⟨yk_X4_addClass, ym_X4_addClass hg d (by omega), _, _, rfl, ht, (by rw [T12]; decide), ?_⟩
  intro x10 m11 qm11 kx10 lx10 p12 p13
  have z14 := zle_0 z9 qm11
  have E5 := p13
  have Q5 := qm11.2
  have N12 : m11.1 (Nat.add t 12) = m7.1 (Nat.add t 12) := by rw [E5]; unfold yacM; rw [zu_ne (show t + 12 ≠ t by omega), zu_ne (show t + 12 ≠ t + 4 by omega), zu_ne (show t + 12 ≠ t + 3 by omega), zu_ne (show t + 12 ≠ t + 2 by omega), zu_ne (N1 12 (by decide))]
  have CO : yCo m11 (Nat.add t 12) c := ⟨⟨by rw [N12, S4.2.1 _ (by decide), E3, zu_ne (show t + 12 ≠ t by omega), zu_ne (show t + 12 ≠ t by omega), zu_ne (show t + 12 ≠ t by omega)]; exact hp1.1.1.1, hp1.1.1.2⟩, hp1.1.2⟩
  have U5 : m11.1 (Nat.add t 12) ((6 : Nat) : Int) = 0 := by rw [N12]; exact S4.1
  have M5 : m11.2 c = μ.2 c := by rw [Q5, Q4, T2]
  have C1 := hp1.2
  refine And.intro ht ?_
  refine And.intro (zfa (o := 12) (y2 := 26) ht rfl) ⟨yk_X1_addOwn, ym_X1_addOwn hg d (by omega), _, _, _, _, _, rfl, (zfa (o := 12) (y2 := 26) ht rfl), ⟨by omega, by omega⟩, ⟨by omega, by omega⟩, ⟨by omega, by omega⟩, CO, ⟨by omega, by omega, by omega⟩, (zcq_t hp2 z14), ?_⟩
  intro m15 qm15 p16
  have z17 := zle_t z14 qm15
  have OX : zox t μ m15 := by
    have o1 : zox t μ m11 := by
      refine zox_c (fun j hj => ?_) (by rw [Q5, Q4, T2]) (fun s hs => ?_)
      · rw [E5]; unfold yacM; rw [zu_ne (by first | omega | (simp only [Nat.add_eq]; omega)), zu_ne (by first | omega | (simp only [Nat.add_eq]; omega)), zu_ne (by first | omega | (simp only [Nat.add_eq]; omega)), zu_ne (by first | omega | (simp only [Nat.add_eq]; omega)), zu_ne (by first | omega | (simp only [Nat.add_eq]; omega)), S4.2.2.1 j (by simp only [Nat.add_eq]; omega) (by simp only [Nat.add_eq]; omega), E3, zu_ne (by omega), zu_ne (by omega), zu_ne (by omega)]
      · have n11 : m11.1 s = m7.1 s := by rw [E5]; unfold yacM; rw [zu_ne (by first | omega | (simp only [Nat.add_eq]; omega)), zu_ne (by first | omega | (simp only [Nat.add_eq]; omega)), zu_ne (by first | omega | (simp only [Nat.add_eq]; omega)), zu_ne (by first | omega | (simp only [Nat.add_eq]; omega)), zu_ne (by first | omega | (simp only [Nat.add_eq]; omega))]
        rw [n11]
        by_cases q : s = Nat.add t 12
        · rw [q, S4.2.1 _ (by decide), E3, zu_ne (show t + 12 ≠ t by omega), zu_ne (show t + 12 ≠ t by omega), zu_ne (show t + 12 ≠ t by omega)]
        · rw [S4.2.2.1 s q (by simp only [Nat.add_eq]; omega), E3, zu_ne (by omega), zu_ne (by omega), zu_ne (by omega)]
    obtain ⟨c', e16⟩ := p16
    exact zox_t o1 (fun _ => e16.1.1.2)
  exact And.intro rfl (hQ _ z17 (yRV_mk ht E3 ⟨S4.1, S4.2.2.1, S4.2.2.2⟩ E5 (by decide) p16 (by decide) rfl) (fun j hj => by obtain ⟨c', e16⟩ := p16; unfold zob at hj; rw [e16.1.1.1 j (by simp only [Nat.add_eq]; omega), E5]; unfold yacM; rw [zu_ne (by first | omega | (simp only [Nat.add_eq]; omega)), zu_ne (by first | omega | (simp only [Nat.add_eq]; omega)), zu_ne (by first | omega | (simp only [Nat.add_eq]; omega)), zu_ne (by first | omega | (simp only [Nat.add_eq]; omega)), zu_ne (by first | omega | (simp only [Nat.add_eq]; omega)), S4.2.2.1 j (by first | omega | (simp only [Nat.add_eq]; omega)) (by first | omega | (simp only [Nat.add_eq]; omega)), E3, zu_ne (by omega), zu_ne (by omega), zu_ne (by omega)]) (by obtain ⟨c', e16⟩ := p16; rw [e16.1.1.1 t (by simp only [Nat.add_eq]; omega), E5]; unfold yacM; rw [zu_nk (by decide), zu_ne (show t ≠ t + 4 by omega), zu_ne (show t ≠ t + 3 by omega), zu_ne (show t ≠ t + 2 by omega), zu_ne (show t ≠ Nat.add 3000000 (Nat.add t 1) by simp only [Nat.add_eq]; omega), S4.2.2.1 t (show t ≠ t + 12 by omega) (show t ≠ t + 14 by omega), E3, zu_at]) OX)
def zrw (T : Nat) (μ μ' : zM) : Prop := zle μ μ' ∧ μ'.1 50 ((3 : Nat) : Int) = (Nat.add T 11 : Nat) ∧ (∀ j : Nat, zob T j → μ'.1 j = μ.1 j) ∧ zox T μ μ'
theorem zrw_t {T : Nat} {a b c : zM} (hT : T = 14 ∨ T = 32) (h1 : zrw T a b) (h2 : zfR T b c) : zrw T a c := by
  have q := h2.2 (by unfold zoq zob; rw [h1.2.1]; simp only [Nat.add_eq]; omega)
  exact ⟨zle_t h1.1 h2.1, q.1.trans h1.2.1, fun j hj => (q.2.1 j hj).trans (h1.2.2.1 j hj), zox_t h1.2.2.2 q.2.2.1⟩
def wk_X3_readTable : zC := fun As μ Q => ∃ (a1 : Nat) (c : Nat), As = [.inr (.inr (50, 50)), .inr (.inr (a1, 14))] ∧ (a1 = 14 ∨ a1 = 32) ∧ (∀ i : Int, 0 ≤ i → i < μ.1 1 ((4 : Nat) : Int) → 0 ≤ μ.1 2 i ∧ μ.1 2 i ≤ 255) ∧ (0 ≤ μ.1 1 ((4 : Nat) : Int) ∧ μ.1 1 ((4 : Nat) : Int) ≤ 800) ∧ (μ.2 (Nat.add a1 14) = 441) ∧ (yCo μ (Nat.add a1 12) c ∧ 1024 ≤ μ.2 c) ∧ (μ.1 0 ((4 : Nat) : Int) = a1) ∧ (zcq μ) ∧ (∀ (v : Int) (μ' : zM), zle μ μ' → 0 ≤ v → v ≤ 1 → ((v = 1 ∧ ∃ p B, yR ((μ.1 2, μ.1 1 ((4 : Nat) : Int)) : yT) (0, 0, 0, [], yB0) (21, p, 0, [], B) ∧ yRC ((μ.1 2, μ.1 1 ((4 : Nat) : Int)) : yT) μ' p B a1 (Nat.add a1 11) ∧ yCw μ' a1 B) ∨ (v = 0 ∧ yFa ((μ.1 2, μ.1 1 ((4 : Nat) : Int)) : yT) (0, 0, 0, [], yB0) μ')) → (μ'.1 1 ((4 : Nat) : Int) = 0) → (∀ j : Nat, zob a1 j → μ'.1 j = μ.1 j) → (zox a1 μ μ') → Q (some (.inl v)) μ')
set_option maxHeartbeats 4000000 in
theorem wm_X3_readTable {g : zΓ} (hg : zg g) (d : Nat) (hd : 31 ≤ d) : zOk g d 38 wk_X3_readTable := by
  obtain ⟨d, rfl⟩ : ∃ d', d = d' + 1 := ⟨d - 1, by omega⟩
  refine zOk_loop hg (show mt_tab[38]? = some mt_X3_readTable from rfl) ([(15, [0, 2])], []) 34 rfl fun As μ Q hC => ?_
  obtain ⟨a1, c, rfl, ha1, hp0, hp1, hp2, hp3, hp4, hp5, hQ⟩ := hC
  have z0 : zle μ μ := zle_r μ
  refine ⟨rfl, fun pc vs μ' n => ∃ (v2 : Int), vs = [.inr (.inr (50, 50)), .inl v2] ∧ zrw a1 μ μ' ∧ (0 ≤ v2 ∧ v2 ≤ 20) ∧ (∃ p B, yR ((μ.1 2, μ.1 1 ((4 : Nat) : Int)) : yT) (0, 0, 0, [], yB0) (0, p, 0, [], B) ∧ (yRC ((μ.1 2, μ.1 1 ((4 : Nat) : Int)) : yT) μ' p B a1 (Nat.add a1 11) ∧ μ'.1 50 ((10 : Nat) : Int) = 0 ∧ yCv μ' a1 (B.1 0 2) B) ∧ B.1 0 0 = v2 + 1) ∧ (μ'.1 1 ((4 : Nat) : Int) = 0) ∧ n = (Int.toNat (2147483648 - v2)), ?_, ?_, trivial⟩
  · refine And.intro ha1 ⟨wk_X4_startOver, wm_X4_startOver hg d (by omega), _, _, rfl, ha1, hp2, hp3, (zcq_t hp5 z0), ?_⟩
    intro m1 qm1 p2 pf p14 px
    have z3 := zle_t z0 qm1
    have P0 := p2
    have T0 : ((m1.1 2, m1.1 1 ((4 : Nat) : Int)) : yT) = (μ.1 2, μ.1 1 ((4 : Nat) : Int)) := by rw [P0.2 2 (by decide), P0.2 1 (by decide)]
    refine And.intro ha1 ?_
    refine ⟨_, zOk_tag (ym_X3_start hg d (by omega)), [.inr (.inr (50, 50)), .inr (.inr (a1, 14)), .inr (.inr ((Nat.add a1 11), 200))], rfl, _, _, rfl, ha1, (z200_f (zfa (o := 11) (y2 := 25) ha1 rfl)), (by rw [P0.2 2 (by decide), P0.2 1 (by decide)]; exact hp0), (by rw [P0.2 1 (by decide)]; exact hp1), ?_⟩
    intro m4 qm4 p5
    have z6 : zrw a1 μ m4 := ⟨zle_0 z3 qm4, p5.2.2.1.2.1, fun j hj => (p5.2.1 j (by unfold zob at hj; omega) (by unfold zob at hj; omega) (by unfold zob at hj; omega) (by unfold zob at hj; omega) (by unfold zob at hj; omega) (by unfold zob at hj; omega)).trans (pf j hj), zox_t px (zox_c (fun j hj => p5.2.1 j (by omega) (by omega) (by omega) (by omega) (by omega) (by omega)) qm4.2 (fun s hs => by rw [p5.2.1 s (by omega) (by omega) (by omega) (by omega) (by omega) (by omega)]))⟩
    have P1 := p5
    rw [T0] at P1
    have C0 := yRC_0 ha1 P0.1 P1.1 P1.2.1 ⟨P1.2.2.1.1, P1.2.2.1.2.1, P1.2.2.1.2.2.1, P1.2.2.1.2.2.2.1⟩ qm4.2 (by rw [P0.2 0 (by decide)]; exact hp4) P1.2.2.1.2.2.2.2.1
    refine Exists.intro (Int.toNat (2147483648 - 0)) ?_
    exact ⟨_, rfl, z6, ⟨by omega, by omega⟩, ⟨0, yB0, yR_r _ _, ⟨C0, P1.2.2.1.2.2.2.2.2, yCv_0⟩, rfl⟩, P1.2.2.2, rfl⟩
  · intro vs m0 n hI
    clear z0
    obtain ⟨v2, rfl, z0, hv2, i0, iL, rfl⟩ := hI
    obtain ⟨p0, B0, R0, C0, N0⟩ := i0
    have NB := C0.1.2.2.1.1.2.2.1
    refine And.intro ⟨⟨by omega, by omega⟩, ⟨by omega, by omega⟩⟩ (And.intro (fun c7 => ?_) (fun c7 => ?_))
    · exfalso; omega
    · refine ⟨wk_X3_declaration, wm_X3_declaration hg d (by omega), _, _, _, _, a1, rfl, yInv_00, R0, C0, (zcq_t hp5 z0.1), ?_⟩
      intro x8 m9 qm9 kx8 lx8 p10
      have z11 := zrw_t ha1 z0 (qm9 a1 rfl)
      have L11 : m9.1 1 ((4 : Nat) : Int) = 0 := by have h0 := (qm9 a1 rfl).1.2.2.2.1; omega
      refine And.intro ⟨by omega, by omega⟩ (And.intro (fun c12 => ?_) (fun c12 => ?_))
      · obtain ⟨p1, B1, R1, C1, N1⟩ := (by rcases p10 with h0 | h0; exact h0.2; (exfalso; omega) : ∃ p' B', yR _ _ (9, p', 0, [], B') ∧ (yRC _ m9 p' B' a1 (Nat.add a1 11) ∧ m9.1 50 ((10 : Nat) : Int) = 0 ∧ yCv m9 a1 (B'.1 0 2) B' ∧ m9.1 a1 ((14 : Nat) : Int) = B'.1 0 2) ∧ B'.1 0 0 = B0.1 0 0 + 1)
        have K1 := yTI_k C1.1
        have NB1 := C1.1.2.2.1.1.2.2.1
        intro x13 hx13 kx13 lx13
        refine And.intro ⟨by omega, by omega⟩ (And.intro (fun c14 => ?_) (fun c14 => ?_))
        · refine Exists.intro (Int.toNat (2147483648 - (v2 + 1))) (And.intro (by omega) ?_)
          exact ⟨_, rfl, z11, ⟨by omega, by omega⟩, ⟨_, _, yR_s R1 (ym9_b (by omega)), ⟨C1.1, C1.2.1, C1.2.2.1⟩, by omega⟩, L11, rfl⟩
        · exact And.intro (zrtb (by omega)) (And.intro ⟨by omega, by omega⟩ (hQ _ _ z11.1 (by omega) (by omega) (Or.inl ⟨rfl, _, _, yR_s R1 (ym9_a (by omega)), C1.1, C1.2.2⟩) L11 z11.2.2.1 z11.2.2.2))
      · exact And.intro (zrtb (by omega)) (And.intro ⟨by omega, by omega⟩ (hQ _ _ z11.1 (by omega) (by omega) (Or.inr ⟨rfl, by rcases p10 with h0 | h0; (exfalso; omega); exact h0.2⟩) L11 z11.2.2.1 z11.2.2.2))
/-- what is compared of a table -/
def yTab (μ : zM) (t : Nat) (B : yB) : Prop := yRB μ t B ∧ ∀ k d : Int, 0 ≤ k → k < 21 → 0 ≤ d → d < 21 → μ.1 (Nat.add t 14) (k * 21 + d) = ((B.2 2 k d).flatten.length : Int)
theorem yTab_fr {μ μ' : zM} {t : Nat} {B : yB} (h : yTab μ t B) (ht : t = 14 ∨ t = 32) (f : ∀ j : Nat, (t ≤ j ∧ j < t + 17) ∨ (3000000 + t ≤ j ∧ j < 3000000 + t + 17) → μ'.1 j = μ.1 j) : yTab μ' t B := by
  obtain ⟨h1, h2⟩ := h
  refine ⟨?_, fun k d a b c e => by rw [f _ (by simp only [Nat.add_eq]; omega)]; exact h2 k d a b c e⟩
  unfold yRB at h1 ⊢
  rw [f t (by omega)]
  rw [f (Nat.add 3000000 (Nat.add t 1)) (by simp only [Nat.add_eq]; omega), f (Nat.add t 2) (by simp only [Nat.add_eq]; omega), f (Nat.add t 3) (by simp only [Nat.add_eq]; omega), f (Nat.add t 4) (by simp only [Nat.add_eq]; omega), f (Nat.add 3000000 (Nat.add t 6)) (by simp only [Nat.add_eq]; omega), f (Nat.add t 7) (by simp only [Nat.add_eq]; omega), f (Nat.add t 8) (by simp only [Nat.add_eq]; omega)]
  exact h1
theorem yRS_g {μ μ' : zM} {t : Nat} {n : Int} {B : yB} (ht : t = 14 ∨ t = 32) (h : yRS μ t n B) (f : ∀ j : Nat, (t ≤ j ∧ j < t + 17) ∨ (3000000 + t ≤ j ∧ j < 3000000 + t + 17) → μ'.1 j = μ.1 j) : yRS μ' t n B :=
  yRS_fr h (f _ (Or.inl (show t ≤ t + 5 ∧ t + 5 < t + 17 by omega))) (f _ (Or.inl (show t ≤ t + 9 ∧ t + 9 < t + 17 by omega))) (f _ (Or.inl (show t ≤ t + 10 ∧ t + 10 < t + 17 by omega))) (fun x _ _ => by rw [f _ (Or.inl (show t ≤ t + 11 ∧ t + 11 < t + 17 by omega))]) rfl rfl (Int.le_refl _) (fun _ _ => rfl) rfl
theorem yRS_m {T : yT} {μ : zM} {p : Int} {B : yB} {t q : Nat} (h : yRC T μ p B t q) : yRS μ t 300 B :=
  yRS_fr h.2.2.2.1 rfl rfl rfl (fun _ _ _ => rfl) rfl rfl (by have := h.2.1.2.2.2.2.2; unfold ynn; split <;> omega) (fun _ _ => rfl) rfl
theorem yRS_0 {μ : zM} {t : Nat} : yRS μ t 300 yB0 := ⟨fun k i _ _ c d => absurd d (by show ¬ i < 0; omega), fun p i a b _ _ => absurd b (by show ¬ p < 0; omega)⟩
/-- what is ABOVE, as a table's cells have it -/
def yCd (μ : zM) (t : Nat) (B : yB) : Prop := yRO μ t (B.2 2) ∧ (0 ≤ μ.1 (Nat.add t 12) ((6 : Nat) : Int) ∧ μ.1 (Nat.add t 12) ((6 : Nat) : Int) ≤ μ.2 (μ.1 (Nat.add t 12) ((5 : Nat) : Int)).toNat ∧ yCC μ t)
theorem yCd_f {μ m : zM} {t : Nat} {B : yB} (h : yCd μ t B) (ht : t = 14 ∨ t = 32) (f : ∀ j : Nat, (14 ≤ j ∧ j < 52) ∨ (109 ≤ j ∧ j < 1000000) → m.1 j = μ.1 j) (e : m.2 = μ.2) : yCd m t B := by
  obtain ⟨h3, h4, h5, h6⟩ := h
  have e12 : m.1 (Nat.add t 12) = μ.1 (Nat.add t 12) := f _ (by simp only [Nat.add_eq]; omega)
  have ec : m.1 (μ.1 (Nat.add t 12) ((5 : Nat) : Int)).toNat = μ.1 (μ.1 (Nat.add t 12) ((5 : Nat) : Int)).toNat := f _ (by unfold yCC at h6; omega)
  refine ⟨fun k d a b c d' => ?_, by rw [e12]; exact h4, by rw [e12, e]; exact h5, by unfold yCC; rw [e12]; exact h6⟩
  have h := h3 k d a b c d'
  rw [f (Nat.add t 14) (by simp only [Nat.add_eq]; omega), f (Nat.add t 13) (by simp only [Nat.add_eq]; omega), e12]
  exact ⟨h.1, fun n => ⟨(h.2 n).1, (h.2 n).2.1, yRow_e (h.2 n).2.2 ec⟩⟩
def wk_X8_read : zC := fun As μ Q => As = [.inr (.inr (0, 0))] ∧ (∀ i : Int, 0 ≤ i → i < μ.1 1 ((4 : Nat) : Int) → 0 ≤ μ.1 2 i ∧ μ.1 2 i ≤ 255) ∧ (0 ≤ μ.1 1 ((4 : Nat) : Int) ∧ μ.1 1 ((4 : Nat) : Int) ≤ 800) ∧ (μ.2 28 = 441 ∧ μ.2 46 = 441) ∧ (∀ t : Nat, (t = 14 ∨ t = 32) → ∃ c, yCo μ (Nat.add t 12) c ∧ 1024 ≤ μ.2 c) ∧ (zcq μ) ∧ (∀ (v : Int) (μ' : zM), zle μ μ' → (-2147483648) ≤ v → v ≤ 2147483647 → ((∃ p B, yR ((μ.1 2, μ.1 1 ((4 : Nat) : Int)) : yT) (0, 0, 0, [], yB0) (21, p, 0, [], B) ∧ v = B.1 0 0 ∧ μ'.1 0 ((7 : Nat) : Int) = 0 ∧ (μ'.1 0 ((3 : Nat) : Int) = μ.1 0 ((4 : Nat) : Int) ∧ μ'.1 0 ((4 : Nat) : Int) = μ.1 0 ((3 : Nat) : Int)) ∧ ∀ s : Nat, (s : Int) = μ.1 0 ((4 : Nat) : Int) → (s = 14 ∨ s = 32) ∧ yTab μ' s B ∧ yRS μ' s 300 B ∧ (yGd B → cWf μ' B) ∧ yCd μ' s B) ∨ (∃ p x B, yR ((μ.1 2, μ.1 1 ((4 : Nat) : Int)) : yT) (0, 0, 0, [], yB0) (20, p, x, [], B) ∧ v = -10 - p ∧ μ'.1 0 ((7 : Nat) : Int) = x ∧ (μ'.1 0 ((3 : Nat) : Int) = μ.1 0 ((3 : Nat) : Int) ∧ μ'.1 0 ((4 : Nat) : Int) = μ.1 0 ((4 : Nat) : Int)) ∧ (∀ s : Nat, (s : Int) = μ.1 0 ((4 : Nat) : Int) → ∀ j : Nat, j ≠ 0 → zob s j → μ'.1 j = μ.1 j) ∧ μ'.1 7 = μ.1 7)) → (μ'.1 1 ((4 : Nat) : Int) = 0) → (∀ s : Nat, (s : Int) = μ.1 0 ((4 : Nat) : Int) → (s = 14 ∨ s = 32) ∧ zox s μ μ') → Q (some (.inl v)) μ')
set_option maxHeartbeats 4000000 in
theorem wm_X8_read {g : zΓ} (hg : zg g) (d : Nat) (hd : 32 ≤ d) : zOk g d 99 wk_X8_read := by
  obtain ⟨d, rfl⟩ : ∃ d', d = d' + 1 := ⟨d - 1, by omega⟩
  refine zOk_straight hg (show mt_tab[99]? = some mt_X8_read from rfl) [] 49 rfl fun As μ Q hC => ?_
  obtain ⟨rfl, hp0, hp1, hp2, hp3, hp4, hQ⟩ := hC
  refine ⟨rfl, ?_⟩
  have z0 : zle μ μ := zle_r μ
  intro t1 et1 ht1
  have HT : t1 = 14 ∨ t1 = 32 := ht1.1
  obtain ⟨c0, CC0⟩ := hp3 t1 HT
  refine ⟨wk_X3_readTable, wm_X3_readTable hg d (by omega), _, _, rfl, ht1.1, hp0, hp1, (by rcases HT with h0 | h0 <;> rw [h0]; exact hp2.1; exact hp2.2), CC0, (by omega), (zcq_t hp4 z0), ?_⟩
  intro x2 m3 qm3 kx2 lx2 p4 pL pF pX
  have p7 : m3.1 7 = μ.1 7 := pF 7 (Or.inr (Or.inl ⟨HT, by decide, by decide⟩))
  have z5 := zle_t z0 qm3
  have PR := p4
  intro x6 hx6 kx6 lx6
  refine And.intro ⟨by omega, by omega⟩ ?_
  intro m7 em7
  have z8 := zle_0 z5 (zl0_u em7 (Or.inl (by decide)) (Or.inl ⟨by decide, by decide⟩))
  have G2 : ∀ j : Nat, j ≠ 0 → m7.1 j = m3.1 j := fun j hj => by rw [em7, zu_ne hj]
  refine And.intro ⟨by omega, by omega⟩ (And.intro (fun c9 => ?_) (fun c9 => ?_))
  · obtain ⟨pf, Bf, RF, CF, CV, L14⟩ := (by rcases PR with h0 | h0; exact h0.2; (exfalso; omega) : ∃ p B, yR _ _ (21, p, 0, [], B) ∧ yRC _ m3 p B t1 (Nat.add t1 11) ∧ yCw m3 t1 B)
    intro t10 et10 ht10
    intro t11 et11 ht11
    refine And.intro ⟨ht11.1, trivial⟩ ?_
    intro m12 em12
    have z13 := zle_0 z8 (zl0_u em12 (Or.inl (by decide)) (Or.inl ⟨by decide, by decide⟩))
    refine And.intro ⟨ht10.1, trivial⟩ ?_
    intro m14 em14
    have z15 := zle_0 z13 (zl0_u em14 (Or.inl (by decide)) (Or.inl ⟨by decide, by decide⟩))
    have SPE : t11 = t1 := by have h0 := et11; have h1 := (CF.2.2.2.2.1 rfl).2.1.2.2.2 rfl; rw [em7, zu_nk (by decide), h1] at h0; omega
    have G4 : ∀ j : Nat, j ≠ 0 → m14.1 j = m3.1 j := fun j hj => by rw [em14, zu_ne hj, em12, zu_ne hj]; exact G2 j hj
    have T4 : m14.1 0 ((3 : Nat) : Int) = (t1 : Int) := by rw [em14, zu_nk (by decide), em12, zu_at]; omega
    intro t16 et16 ht16
    have T5 : t16 = t1 := by have h0 := et16; rw [T4] at h0; omega
    have I21 : yI0 Bf := (by rcases yInv_R yInv_00 RF with q | q; exact absurd (show (21 : Nat) = 20 from q) (by decide); exact q.1)
    have RS2 : yRS m3 t1 (Bf.1 0 2) Bf := by have h0 := CF.2.2.2.1; unfold ynn at h0; rw [if_pos rfl] at h0; exact h0
    have FG : ∀ j : Nat, (t1 ≤ j ∧ j < t1 + 17) ∨ (3000000 + t1 ≤ j ∧ j < 3000000 + t1 + 17) → m14.1 j = m3.1 j := fun j hj => G4 j (by omega)
    have ME : yMe m14 t16 Bf := by
      rw [T5]
      exact ⟨(yTab_fr (μ := m3) ⟨CF.2.2.1, fun k d a b c e => ((CF.2.2.2.2.1 rfl).1 k d a b c e).1⟩ HT FG).1, yRS_g HT RS2 FG, yCv_f CV (FG _ (by simp only [Nat.add_eq]; omega)) (FG _ (by simp only [Nat.add_eq]; omega)), by rw [FG t1 (by omega)]; exact L14, CF.2.1.2.2.2.2.2, I21⟩
    refine ⟨wk_X7_measure, wm_X7_measure hg d (by omega), _, _, rfl, ht16.1, ME, ?_⟩
    intro m17 qm17 w17
    have z18 := zle_0 z15 qm17.1
    intro t19 et19 ht19
    refine ⟨xk_X0_startOver, xm_X0_startOver hg d (by omega), _, _, rfl, ht19.1, ⟨by omega, by omega⟩, ?_⟩
    intro m20 qm20
    have z21 := zle_0 z18 qm20.1
    intro t22 et22 ht22
    have T6 : t22 = t1 := by have h0 := et22; rw [qm20.2 0 (by decide), qm17.2 0 (by decide), T4] at h0; omega
    refine And.intro ht22.1 ?_
    intro x23 hx23 kx23 lx23
    have X6 : x23 = Bf.1 0 0 := by rw [hx23, T6, qm20.2 _ (by omega), qm17.2 _ (by omega), G4 _ (by omega)]; exact CF.2.2.1.1.1
    have FJ : ∀ j : Nat, (14 ≤ j ∧ j < 52) ∨ (109 ≤ j ∧ j < 1000000) → m20.1 j = m3.1 j := fun j hj => by rw [qm20.2 j (by omega), qm17.2 j (by omega), G4 j (by omega)]
    have F2 : m20.2 = m3.2 := by rw [qm20.1.2, qm17.1.2, em14, em12, em7]; rfl
    have CD : yCd m20 t1 Bf := yCd_f ⟨(CF.2.2.2.2.1 rfl).1, (CF.2.2.2.2.1 rfl).2.1.1, (CF.2.2.2.2.1 rfl).2.1.2.2.1, (CF.2.2.2.2.1 rfl).2.2⟩ HT FJ F2
    have OXF : zox t1 μ m20 := zox_t pX (zox_c (fun j hj => FJ j (by omega)) F2 (fun s hs => by rw [FJ s (by omega)]))
    exact And.intro trivial (And.intro ⟨by omega, by omega⟩ (hQ _ _ z21 (by omega) (by omega) (Or.inl ⟨pf, Bf, RF, X6, by rw [qm20.2 0 (by decide), qm17.2 0 (by decide), em14, zu_nk (by decide), em12, zu_nk (by decide), em7, zu_at, hx6]; exact CF.2.2.2.2.2, ⟨by rw [qm20.2 0 (by decide), qm17.2 0 (by decide), T4]; omega, by rw [qm20.2 0 (by decide), qm17.2 0 (by decide), em14, zu_at]; have h0 := et10; rw [em7, zu_nk (by decide), pF 0 (Or.inl rfl)] at h0; omega⟩, fun s hs => by have hs1 : s = t1 := (by omega); rw [hs1]; exact ⟨HT, yTab_fr (μ := m3) ⟨CF.2.2.1, fun k d a b c e => ((CF.2.2.2.2.1 rfl).1 k d a b c e).1⟩ HT (fun j hj => by rw [qm20.2 j (by omega), qm17.2 j (by omega), G4 j (by omega)]), yRS_g HT (yRS_m CF) (fun j hj => by rw [qm20.2 j (by omega), qm17.2 j (by omega), G4 j (by omega)]), fun hg9 => cWf_f (w17 hg9) (qm20.2 7 (by decide)), CD⟩⟩) (by rw [qm20.2 1 (by decide), qm17.2 1 (by decide), G4 1 (by decide)]; exact pL) (fun s hs => by have hs1 : s = t1 := (by omega); rw [hs1]; exact ⟨HT, OXF⟩)))
  · obtain ⟨pf, xf, Bf, RF, F8, F9⟩ := (by rcases PR with h0 | h0; (exfalso; omega); exact h0.2 : yFa _ _ m3)
    intro x24 hx24 kx24 lx24
    have PB := yPo_20 hp1 RF
    have X9 : x24 = pf := by rw [hx24, G2 50 (by decide)]; exact F9
    exact And.intro trivial (And.intro ⟨by omega, by omega⟩ (hQ _ _ z8 (by omega) (by omega) (Or.inr ⟨pf, xf, Bf, RF, by omega, by rw [em7, zu_at, hx6]; exact F8, ⟨by rw [em7, zu_nk (by decide), pF 0 (Or.inl rfl)], by rw [em7, zu_nk (by decide), pF 0 (Or.inl rfl)]⟩, (fun s hs j j0 hj => by have hs1 : s = t1 := (by omega); rw [hs1] at hj; rw [G2 j j0]; exact pF j hj), by rw [G2 7 (by decide)]; exact p7⟩) (by rw [G2 1 (by decide)]; exact pL) (fun s hs => by have hs1 : s = t1 := (by omega); rw [hs1]; exact ⟨HT, zox_t pX (zox_u em7)⟩)))
