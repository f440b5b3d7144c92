/-! ### above, as the class answers -/
theorem ysub_m {f x : Int} {as : List (List Int)} {l : List Int} (h : x ∈ ysub f as l) : (x ∈ l ∧ ¬ (32 ≤ x ∧ x < 112)) ∨ ∃ i : Nat, x ∈ as.getD i [] := by
  unfold ysub at h
  obtain ⟨y, hy, hx⟩ := List.mem_flatMap.mp h
  split at hx
  · exact Or.inr ⟨_, hx⟩
  · rename_i q
    have e : x = y := by simpa using hx
    subst e
    exact Or.inl ⟨hy, q⟩
theorem ycap_m {c x : Int} {as : List (List Int)} {i : Nat} (h : x ∈ (ycap c as).getD i []) : i < as.length ∧ (x = 300 + ycn c as i ∨ x ∈ as.getD i []) := by
  by_cases q : i < as.length
  · refine ⟨q, ?_⟩
    rw [ycap_g q] at h
    split at h
    · left; simpa using h
    · exact Or.inr h
  · rw [List.getD_eq_getElem?_getD, List.getElem?_eq_none (by rw [ycap_l]; omega)] at h
    simp at h
/-- what is written has heads that may stand there -/
theorem aRes_v {B : yB} {L l : List Int} {k : Int} {R : Option (List Int)} (h : aRes B L k R) (e : R = some l) (hI : yI0 B) (hG : yGo B) (hk : 0 ≤ k ∧ k < B.1 0 0) (hL : ∀ x ∈ L, yhv B x) (h4 : ∀ x : Int, yar B x ≤ 4) : ∀ x ∈ l, yhv B x := by
  have i1 := hI.1.1
  rcases h with ⟨a1, a2⟩ | ⟨a1, a2, a3⟩ | ⟨a1, a2, a3, a4⟩ | ⟨a1, a2, a3, a4, as, a5, a6, a7, a8⟩
  · rw [a2] at e
    cases e
    intro x hx
    have : x = 0 := by simpa using hx
    left; omega
  · rw [a3] at e
    cases e
    exact hL
  · rw [a4] at e; cases e
  · rw [a8] at e
    cases e
    intro x hx
    rcases ysub_m hx with ⟨w, nw⟩ | ⟨i, w⟩
    · have g := (hG _ k a3.1 a3.2 hk.1 (by omega) a4).2 x w
      unfold yhk at g
      rcases g with g | g | g
      · exact Or.inl g
      · exact absurd g nw
      · exact Or.inr (Or.inr (Or.inl g))
    · obtain ⟨hi, u⟩ := ycap_m w
      rcases u with u | u
      · have b := ycn_b 0 as i
        have := h4 (L.headD 0)
        right; right; right; omega
      · refine hL x ?_
        rw [a5]
        exact List.mem_cons_of_mem _ (List.mem_flatten.mpr ⟨_, rgd hi, u⟩)
def aAn (B : yB) (R : Option (List Int)) : Int := match R with
  | none => 0
  | some l => pM (yco B l)
/-- what above answers, with the FAULT it tells -/
def yAv (T : yT) (B : yB) (x v : Int) : Prop := (x ≠ 0 ∧ ∃ l, yQp T B x l ∧ v = (Int32.ofInt (-10 - l)).toInt) ∨ (x = 0 ∧ yQp T B 0 0 ∧ ∃ (o k : Int) (L : List Int) (R : Option (List Int)), yPl T B o L k ∧ aRes B L k R ∧ v = aAn B R)
theorem yAv_one {T : yT} {B : yB} {x x' v v' : Int} (a : yAv T B x v) (b : yAv T B x' v') : x = x' ∧ v = v' := by
  rcases a with ⟨a1, l, a2, a3⟩ | ⟨a1, a2, o, k, L, R, a3, a4, a5⟩ <;> rcases b with ⟨b1, l', b2, b3⟩ | ⟨b1, b2, o', k', L', R', b3, b4, b5⟩
  · have q := yQp_one a2 b2
    exact ⟨q.1, by rw [a3, b3, q.2]⟩
  · have q := yQp_one a2 b2
    exact absurd q.1 a1
  · have q := yQp_one a2 b2
    exact absurd q.1.symm b1
  · obtain ⟨e1, e2, e3⟩ := yPl_one a3 b3
    subst e1 e2 e3
    rw [aRes_one a4 b4] at a5
    exact ⟨by omega, by rw [a5, b5]⟩
theorem zq0_K {a b : zM} (h : zfK a b) : zq0 a b := ⟨h.1, fun j hj => h.2.1 j (by omega)⟩
theorem zq0_P {a b : zM} (h : zfP a b) : zq0 a b := ⟨h.1, fun j hj => h.2.1 j (by omega)⟩
theorem zq0_W {a b : zM} (h : zfW2 a b) : zq0 a b := ⟨h.1, fun j hj => h.2 j (by omega)⟩
theorem zq0_S {a b : zM} (h : zl0 a b ∧ ∀ j : Nat, (j < 52 ∨ 66 ≤ j) → b.1 j = a.1 j) : zq0 a b := ⟨h.1, fun j hj => h.2 j (by omega)⟩
theorem aSz_w {μ : zM} {w : mW} (hw : zRep μ w) : aSz μ := by
  obtain ⟨-, -, h56, -⟩ := hw.2.2.1 56 _ (show znth zcl 56 = some (.inr (0, 4, -2147483648, 2147483647)) from rfl)
  obtain ⟨-, -, h58, -⟩ := hw.2.2.1 58 _ (show znth zcl 58 = some (.inr (0, 164, -2147483648, 2147483647)) from rfl)
  obtain ⟨-, -, h64, -⟩ := hw.2.2.1 64 _ (show znth zcl 64 = some (.inr (0, 2048, -2147483648, 2147483647)) from rfl)
  obtain ⟨-, -, h25, -⟩ := hw.2.2.1 25 _ (show znth zcl 25 = some (.inr (0, 300, -2147483648, 2147483647)) from rfl)
  obtain ⟨-, -, h43, -⟩ := hw.2.2.1 43 _ (show znth zcl 43 = some (.inr (0, 300, -2147483648, 2147483647)) from rfl)
  obtain ⟨-, -, h51, -⟩ := hw.2.2.1 51 _ (show znth zcl 51 = some (.inr (0, 300, -2147483648, 2147483647)) from rfl)
  exact ⟨⟨h56, h58, h64⟩, h25, h43, h51⟩
theorem aT_q {μ m : zM} {t : Nat} {B : yB} (h : aT μ t B) (q : zqy μ m) : aT m t B := by
  obtain ⟨ht, h1, h2, h3, h4, h5, h6⟩ := h
  have f : ∀ j : Nat, zyj j → m.1 j = μ.1 j := q.2.2
  have ff : ∀ j : Nat, (t ≤ j ∧ j < t + 17) ∨ (3000000 + t ≤ j ∧ j < 3000000 + t + 17) → m.1 j = μ.1 j := fun j hj => f j (by unfold zyj; omega)
  have e12 : m.1 (Nat.add t 12) = μ.1 (Nat.add t 12) := ff _ (by simp only [Nat.add_eq]; omega)
  have e13 : m.1 (Nat.add t 13) = μ.1 (Nat.add t 13) := ff _ (by simp only [Nat.add_eq]; omega)
  have e14 : m.1 (Nat.add t 14) = μ.1 (Nat.add t 14) := ff _ (by simp only [Nat.add_eq]; omega)
  have ec : m.1 (μ.1 (Nat.add t 12) ((5 : Nat) : Int)).toNat = μ.1 (μ.1 (Nat.add t 12) ((5 : Nat) : Int)).toNat := f _ (by unfold yCC at h6; unfold zyj; omega)
  refine ⟨ht, yRB_g ht h1 ff, yRS_g ht h2 ff, fun k d a b c d' => ?_, by rw [e12]; exact h4, by rw [e12, q.1.2]; exact h5, by unfold yCC; rw [e12]; exact h6⟩
  have w := h3 k d a b c d'
  rw [e14, e13, e12]
  exact ⟨w.1, fun q => ⟨(w.2 q).1, (w.2 q).2.1, yRow_e (w.2 q).2.2 ec⟩⟩
def gk_X8_above : zC := fun As μ Q => ∃ (B : yB), As = [.inr (.inr (0, 0))] ∧ (∀ i : Int, 0 ≤ i → i < μ.1 1 ((4 : Nat) : Int) → 0 ≤ μ.1 2 i ∧ μ.1 2 i ≤ 255) ∧ (0 ≤ μ.1 1 ((4 : Nat) : Int) ∧ μ.1 1 ((4 : Nat) : Int) ≤ 800) ∧ (∀ t : Nat, (t : Int) = μ.1 0 ((3 : Nat) : Int) → aT μ t B) ∧ aB B ∧ aSz μ ∧ (∀ (v : Int) (μ' : zM), zqy μ μ' → (-2147483648) ≤ v → v ≤ 2147483647 → (μ'.1 1 ((4 : Nat) : Int) = 0) → (yAv ((μ.1 2, μ.1 1 ((4 : Nat) : Int)) : yT) B (μ'.1 0 ((7 : Nat) : Int)) v) → Q (some (.inl v)) μ')
set_option maxHeartbeats 4000000 in
theorem gm_X8_above {g : zΓ} (hg : zg g) (d : Nat) (hd : 30 ≤ d) : zOk g d 107 gk_X8_above := by
  obtain ⟨d, rfl⟩ : ∃ d', d = d' + 1 := ⟨d - 1, by omega⟩
  refine zOk_straight hg (show mt_tab[107]? = some mt_X8_above from rfl) [36] 68 rfl fun As μ Q hC => ?_
  obtain ⟨B, rfl, hp0, hp1, hpT, hB, hS, hQ⟩ := hC
  refine ⟨rfl, ?_⟩
  have z0 : zqy μ μ := zqy_r μ
  intro t1 et1 ht1
  have T1 := hpT t1 et1
  have hI := hB.1
  refine ⟨gk_X3_readPlace, gm_X3_readPlace hg d (by omega), _, B, rfl, ht1.1, hp0, hp1, ⟨T1.2.1, T1.2.2.1⟩, hI, ?_⟩
  intro x2 m3 qm3 kx2 lx2 p4
  have L4 := qm3.2
  have z5 := zqy_t z0 (zqy_x qm3.1)
  intro x6 hx6 kx6 lx6
  refine And.intro ⟨by omega, by omega⟩ ?_
  intro m7 em7
  have z8 := zqy_t z5 (zqy_u em7 (Or.inl (by decide)) (Or.inl ⟨by decide, by decide⟩))
  have c7 : ∀ j : Nat, j ≠ 0 → m7.1 j = m3.1 j := fun j hj => by rw [em7, zu_ne hj]
  have f7 : m7.1 0 ((7 : Nat) : Int) = m3.1 50 ((8 : Nat) : Int) := by rw [em7, zu_at]; exact hx6
  have t7 : m7.1 0 ((3 : Nat) : Int) = t1 := by rw [z8.2.1.1]; exact et1.symm
  have L7 : m7.1 1 ((4 : Nat) : Int) = 0 := by rw [c7 1 (by decide)]; exact L4
  refine And.intro ⟨by omega, by omega⟩ (And.intro (fun c9 => ?_) (fun c9 => ?_))
  · obtain ⟨-, QP, F8, o, k, L, PL, TD⟩ := (by rcases p4 with h0 | h0; exact h0; (exfalso; have := h0.1; omega) : x2 = 1 ∧ _ ∧ _ ∧ _)
    obtain ⟨d3, ⟨d4, LL⟩, d5, d6, d7⟩ := TD
    have ho : -1 ≤ o ∧ o < B.1 0 0 := by
      obtain ⟨p, p1, n1, f, a1, -⟩ := PL
      exact yqo_o a1 (yqo_i a1 hI.1.1.1)
    have PG := yPl_G PL hI ho
    have Lk : 0 ≤ k := by obtain ⟨p, p1, n1, f, -, -, -, -, a5⟩ := PL; exact a5
    intro t10 et10 ht10
    have q10 : t10 = t1 := by rw [t7] at et10; omega
    subst q10
    intro x11 hx11 kx11 lx11
    have X11 : x11 = o := by rw [hx11, c7 50 (by decide)]; exact d5
    refine ⟨gk_X0_startOver, gm_X0_startOver hg d (by omega), t10, x11, B, rfl, aT_q T1 z8, hB, by rw [X11]; exact ho, aSz_f hS z8.1.2, ?_⟩
    intro m12 q12 ok12 f12 any12 ow12 n12
    have z13 := zqy_t z8 (zqy_0 (zq0_S q12))
    have T12 : aT m12 t10 B := aT_f (aT_q T1 z8) q12.2 q12.1.2
    have S12 : aSz m12 := aSz_f hS z13.1.2
    rw [X11] at ow12
    intro t14 et14 ht14
    have q14 : t14 = 51 := by rw [q12.2 50 (by omega), c7 50 (by decide), d3] at et14; omega
    subst q14
    intro x15 hx15 kx15 lx15
    have X15 : x15 = (L.length : Int) := by rw [hx15, q12.2 50 (by omega), c7 50 (by decide)]; exact d4
    have R15 : yRow m12 51 0 L := yRow_e d7 (by rw [q12.2 51 (by omega), c7 51 (by decide)])
    have hcl := hI.1.1
    refine ⟨_, zOk_tag (gm_X0_nodeOf hg d (by omega)), [.inr (.inr (52, 52)), .inr (.inr (51, 1001)), .inl 0, .inl x15], rfl, 51, 0, x15, t10, yar B, L, aFs B o, aNs B o, rfl, (zIa_200 ht14.1), ⟨by omega, by omega⟩, ⟨X15, by omega⟩, Or.inl (by decide), by rw [S12.2.2.2]; omega, S12.1.1, R15, PG.1, ok12, ⟨by omega, by omega⟩, ow12, (fun h hm h1 h2 => ?_), ?_⟩
    · have w := PG.2.2.1 h hm h1 h2
      refine ⟨yar_n (by omega) (by omega) (by omega) (by omega), ?_, ?_⟩
      · unfold aFs; rw [if_neg (by omega)]; omega
      · unfold aFs aNs; rw [if_neg (by omega), if_neg (by omega)]; omega
    intro x16 m17 q17 ok17 d17 n17 e17
    have z18 := zqy_t z13 (zqy_0 (zq0_P q17))
    intro x19 hx19 kx19 lx19
    have X19 : x19 = k := by rw [hx19, q17.2.1 50 (by omega), q12.2 50 (by omega), c7 50 (by decide)]; exact d6
    have F17 : m17.1 52 = m12.1 52 := q17.2.1 52 (by omega)
    have any17 : tE m17 (yar B) (m17.1 52 ((9 : Nat) : Int)) [0] := by rw [F17]; exact tE_old d17 ok12.2.2.2.2 any12
    have T17 : aT m17 t10 B := aT_f T12 (fun j hj => q17.2.1 j (by omega)) q17.1.2
    have S17 : aSz m17 := aSz_f S12 q17.1.2
    refine ⟨gk_X0_nodeAbove, gm_X0_nodeAbove hg d (by omega), x16, x19, t10, B, L, rfl, ⟨by omega, by omega⟩, T17, hB, S17, ok17, by rw [F17]; exact f12.1, any17, e17, by have := PG.2.1; omega, by rw [F17]; exact f12.2, ⟨by omega, by omega⟩, ?_⟩
    intro x20 m21 z21 b20 ok21 r21
    obtain ⟨R, AR, r21⟩ := r21
    rw [X19] at AR
    have z22 := zqy_t z18 (zqy_0 (zq0_K z21))
    have T21 : aT m21 t10 B := aT_f T17 (fun j hj => z21.2.1 j (by omega)) z21.1.2
    have G0 : m21.1 0 = m7.1 0 := by rw [z21.2.1 0 (by omega), q17.2.1 0 (by omega), q12.2 0 (by omega)]
    have G1 : m21.1 1 = m7.1 1 := by rw [z21.2.1 1 (by omega), q17.2.1 1 (by omega), q12.2 1 (by omega)]
    have x0 : m21.1 0 ((7 : Nat) : Int) = 0 := by rw [G0, f7]; exact F8
    refine And.intro ⟨⟨by omega, by omega⟩, ⟨by omega, by omega⟩⟩ (And.intro (fun c23 => ?_) (fun c23 => ?_))
    · refine And.intro ⟨by omega, by omega⟩ (And.intro (fun c24 => ?_) (fun c24 => ?_))
      · obtain ⟨l, eR, E⟩ : ∃ l, R = some l ∧ tE m21 (yar B) x20 l := by
          rcases r21 with q | q
          · exfalso; have := q.2; omega
          · exact q
        have VV := aRes_v AR eR hI hB.2.2.2.2.2 ⟨Lk, PG.2.2.2.1⟩ PG.2.2.2.2 (fun x => (yar_b T21.2.1 x).2)
        intro t25 et25 ht25
        have q25 : t25 = t10 := by rw [G0, t7] at et25; omega
        subst q25
        refine ⟨gk_X2_writeType, gm_X2_writeType hg d (by omega), t25, x20, B, l, rfl, ok21, T21.2.1, E, VV, ?_⟩
        intro x26 m27 f27 v27 l27
        have z29 := zqy_t z22 (zqy_0 (zq0_W f27))
        have pb := pM_b (x := yco B l) (yco_p (fun h a b => (T21.2.1.2.1 h a b).2.1.2.1) l)
        exact And.intro trivial (And.intro ⟨by omega, by omega⟩ (hQ _ _ z29 (by omega) (by omega) (by rw [f27.2 1 (by omega), G1]; exact L7) (Or.inr ⟨by rw [f27.2 0 (by omega)]; exact x0, QP, o, k, L, R, PL, AR, by rw [v27, eR]; rfl⟩)))
      · have eR : R = none := by
          rcases r21 with q | ⟨l, q, E⟩
          · exact q.1
          · exfalso; have := E.1; omega
        exact And.intro trivial (And.intro ⟨by omega, by omega⟩ (hQ _ _ z22 (by omega) (by omega) (by rw [G1]; exact L7) (Or.inr ⟨x0, QP, o, k, L, R, PL, AR, by rw [eR]; rfl⟩)))
    · exfalso; omega
  · obtain ⟨-, x, l, QP, F8, F9, xn⟩ := (by rcases p4 with h0 | h0; (exfalso; have := h0.1; omega); exact h0 : x2 = 0 ∧ _)
    intro x30 hx30 kx30 lx30
    have X30 : x30 = l := by rw [hx30, c7 50 (by decide)]; exact F9
    intro x31 hx31 kx31 lx31
    have V : x31 = (Int32.ofInt (-10 - l)).toInt := by rw [hx31, X30]
    exact And.intro trivial (And.intro ⟨by omega, by omega⟩ (hQ _ _ z8 (by omega) (by omega) L7 (Or.inl ⟨by rw [f7, F8]; exact xn, l, by rw [f7, F8]; exact QP, V⟩)))
