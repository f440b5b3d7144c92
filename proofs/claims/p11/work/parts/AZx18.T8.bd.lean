/-! ### ARGS that are unknown become NEW variables: the class -/
theorem tOk_g {m m' : zM} {t : Nat} {A : Int → Int} (h : tOk m t A) (c : ∀ i : Nat, (i < 52 ∨ 59 ≤ i) → m'.1 i = m.1 i) : tOk m' t A ∧ tOd m m' ∧ (tn m' = tn m ∧ tp m' = tp m) := by
  have n : tn m' = tn m := by unfold tn; rw [c 59 (by omega)]
  have p : tp m' = tp m := by unfold tp; rw [c 59 (by omega)]
  refine ⟨⟨h.1, by rw [c 59 (by omega)]; exact h.2.1, ?_, h.2.2.2.1, tW_c (fun i hi => c i (by omega)) h.2.2.2.2⟩, ⟨⟨by omega, by omega⟩, fun x _ _ => ⟨by rw [c 60 (by omega)], by rw [c 61 (by omega)]⟩, fun q _ _ => by rw [c 63 (by omega)]⟩, n, p⟩
  rw [h.2.2.1]
  have ht := h.1
  funext y
  unfold tA
  rw [c t (by omega), c (Nat.add t 3) (by simp only [Nat.add_eq]; omega)]
def zfB (v : Int) (μ μ' : zM) : Prop := zfK μ μ' ∧ (μ'.1 58 = μ.1 58 ∧ μ'.1 55 = μ.1 55) ∧ μ'.1 52 ((13 : Nat) : Int) = μ.1 52 ((13 : Nat) : Int) ∧ ∀ x : Int, x ≠ v → μ'.1 53 x = μ.1 53 x
theorem zfB_r (v : Int) (μ : zM) : zfB v μ μ := ⟨zfK_r μ, ⟨rfl, rfl⟩, rfl, fun _ _ => rfl⟩
theorem zfB_t {v : Int} {a b c : zM} (h1 : zfB v a b) (h2 : zfB v b c) : zfB v a c := ⟨zfK_t h1.1 h2.1, ⟨h2.2.1.1.trans h1.2.1.1, h2.2.1.2.trans h1.2.1.2⟩, h2.2.2.1.trans h1.2.2.1, fun x hx => (h2.2.2.2 x hx).trans (h1.2.2.2 x hx)⟩
theorem zfB_P {v : Int} {a b : zM} (h : zfP a b) : zfB v a b := ⟨zfK_P h, ⟨h.2.1 58 (by omega), h.2.1 55 (by omega)⟩, by rw [h.2.1 52 (by omega)], fun x _ => by rw [h.2.1 53 (by omega)]⟩
theorem zfB_c {v x : Int} {a b : zM} (q : zl0 a b) (e : b = zu a 52 ((14 : Nat) : Int) x) : zfB v a b := ⟨zfK_u q e (by omega), ⟨by rw [e, zu_ne (by decide)], by rw [e, zu_ne (by decide)]⟩, by rw [e, zu_nk (by decide)], fun x _ => by rw [e, zu_ne (by decide)]⟩
theorem aBd_o {m m' : zM} {t : Nat} {A : Int → Int} {v x : Int} (h : tOk m t A) (q : zl0 m m') (e : m' = aBd m v x) : tOk m' t A ∧ tOd m m' ∧ (tn m' = tn m ∧ tp m' = tp m) ∧ zfB v m m' ∧ m'.1 53 v = m.1 53 v + 1 ∧ m'.1 52 = m.1 52 := by
  have c : ∀ i : Nat, i ≠ 53 → i ≠ 54 → m'.1 i = m.1 i := fun i h1 h2 => by rw [e]; unfold aBd; rw [zu_ne h1, zu_ne h2]
  obtain ⟨o, d, n⟩ := tOk_g h (fun i hi => c i (by omega) (by omega))
  refine ⟨o, d, n, ⟨⟨q, fun j hj => c j (by omega) (by omega), fun i _ => by rw [c 52 (by decide) (by decide)], by rw [c 59 (by decide) (by decide)]⟩, ⟨c 58 (by decide) (by decide), c 55 (by decide) (by decide)⟩, by rw [c 52 (by decide) (by decide)], fun y hy => ?_⟩, ?_, c 52 (by decide) (by decide)⟩
  · rw [e]; unfold aBd; rw [zu_nk hy, zu_ne (by decide)]
  · rw [e]; unfold aBd; rw [zu_at]
/-- s is a node of class c with these ARGS -/
def aNd (m : zM) (A : Int → Int) (s c : Int) (as : List (List Int)) : Prop := (0 ≤ s ∧ s < tn m) ∧ m.1 60 s = c ∧ (as.length : Int) = A c ∧ ∀ i : Nat, i < as.length → tE m A (m.1 63 (m.1 61 s + i)) (as.getD i [])
theorem aNd_o {μ m : zM} {A : Int → Int} {s c : Int} {as : List (List Int)} (h : aNd μ A s c as) (w : tW μ A) (o : tOd μ m) : aNd m A s c as := by
  obtain ⟨h1, h2, h3, h4⟩ := h
  have p := o.1
  have q := o.2.1 s h1.1 h1.2
  have W := w.2.2.1 s h1.1 h1.2
  have W1 := W.1
  rw [h2] at W1
  refine ⟨⟨h1.1, by omega⟩, by rw [q.1]; exact h2, h3, fun i hi => ?_⟩
  rw [q.2, o.2.2 _ (by omega) (by omega)]
  exact tE_old o w (h4 i hi)
theorem tE_60 {m : zM} {A : Int → Int} {x : Int} {l : List Int} (h : tE m A x l) : m.1 60 x = l.headD 0 := by
  obtain ⟨as, e, -⟩ := tE_h h
  rw [e]; rfl
def gk_X0_bind : zC := fun As μ Q => ∃ (a1 : Int) (a2 : Int) (a3 : Int) (t : Nat) (B : yB) (c : Int) (v : Int) (as : List (List Int)) (cs : List (List Int)), As = [.inr (.inr (52, 52)), .inl a1, .inl a2, .inl a3] ∧ (0 ≤ a2 ∧ a2 < as.length) ∧ (0 ≤ a3 ∧ a3 + 4 ≤ 164) ∧ aT μ t B ∧ aB B ∧ aSz μ ∧ tOk μ t (yar B) ∧ μ.1 52 ((7 : Nat) : Int) = t ∧ aNd μ (yar B) a1 c as ∧ (0 ≤ c ∧ c < B.1 0 0) ∧ (cs.length = as.length ∧ ∀ j : Nat, j < cs.length → tE μ (yar B) (μ.1 58 (a3 + j)) (cs.getD j [])) ∧ cs.getD a2.toNat [] = [300 + v] ∧ (0 ≤ v ∧ v < 300) ∧ μ.1 53 v = 0 ∧ (0 ≤ μ.1 52 ((14 : Nat) : Int) ∧ μ.1 52 ((14 : Nat) : Int) + 600 ≤ 6000) ∧ (tn μ + 600 ≤ 7000 ∧ tp μ + 600 ≤ 7000) ∧ (∀ (μ' : zM), zfB v μ μ' → tOk μ' t (yar B) → tOd μ μ' → (tn μ' ≤ tn μ + 600 ∧ tp μ' ≤ tp μ + 600) → (μ.1 52 ((14 : Nat) : Int) ≤ μ'.1 52 ((14 : Nat) : Int) ∧ μ'.1 52 ((14 : Nat) : Int) ≤ μ.1 52 ((14 : Nat) : Int) + 600) → Q (some (.inl 1)) μ')
set_option maxHeartbeats 4000000 in
theorem gm_X0_bind {g : zΓ} (hg : zg g) (d : Nat) (hd : 4 ≤ d) : zOk g d 10 gk_X0_bind := by
  obtain ⟨d, rfl⟩ : ∃ d', d = d' + 1 := ⟨d - 1, by omega⟩
  refine zOk_loop hg (show mt_tab[10]? = some mt_X0_bind from rfl) ([(94, [0, 3, 4, 6, 7, 8])], []) 110 rfl fun As μ Q hC => ?_
  obtain ⟨a1, a2, a3, t, B, c, v, as, cs, rfl, ha2, ha3, hT, hB, hS, ok, h52, nd, hc, ⟨hcl, hcs⟩, hcv, hv, h53, hto, hcap, hQ⟩ := hC
  have W := ok.2.2.2.2
  have nn := W.1
  have pp := W.2.1
  have hB21 := hT.2.1.1.2.2.1
  have bc := hT.2.1.2.1 c hc.1 hc.2
  have la : (as.length : Int) = B.1 3 c := by rw [nd.2.2.1]; unfold yar; rw [if_pos hc]
  have P80 := hB.1.1
  have ht := hT.1
  have nd1 := nd.1
  have p0 : 0 ≤ B.1 2 c + a2 ∧ B.1 2 c + a2 < B.1 0 1 := by omega
  have pb := hT.2.1.2.2 (B.1 2 c + a2) p0.1 p0.2
  have fr := hcs a2.toNat (by omega)
  rw [show ((a2.toNat : Nat) : Int) = a2 by omega, hcv] at fr
  have fr1 := fr.1
  have part := nd.2.2.2 a2.toNat (by omega)
  rw [show ((a2.toNat : Nat) : Int) = a2 by omega] at part
  refine ⟨rfl, fun pc vs μ' n => ∃ (v8 : Int), vs = [.inr (.inr (52, 52)), .inl a3, .inl v, .inl (B.1 2 c), .inl (B.1 2 c + a2), .inl v8] ∧ (0 ≤ v8 ∧ v8 ≤ B.1 6 (B.1 2 c + a2)) ∧ zfB v μ μ' ∧ tOk μ' t (yar B) ∧ tOd μ μ' ∧ (tn μ' ≤ tn μ + 300 * v8 ∧ tp μ' ≤ tp μ + 300 * v8) ∧ (μ.1 52 ((14 : Nat) : Int) ≤ μ'.1 52 ((14 : Nat) : Int) ∧ μ'.1 52 ((14 : Nat) : Int) ≤ μ.1 52 ((14 : Nat) : Int) + 300 * v8) ∧ (0 ≤ μ'.1 53 v ∧ μ'.1 53 v ≤ 1 + v8) ∧ n = (Int.toNat (2147483648 - v8)), ?_, ?_, trivial⟩
  · refine ⟨zk_X8_at, zm_X8_at hg d (by omega), _, _, _, rfl, ⟨by omega, by omega⟩, ?_⟩
    intro x1 kx1 lx1 fx1 gx1
    have X1 : x1 = μ.1 58 (a3 + a2) := (fx1 ⟨by omega, by omega⟩).1
    refine ⟨gk_X6_head, gm_X6_head hg d (by omega), _, rfl, ⟨by omega, by omega, by omega⟩, ?_⟩
    intro x2 kx2 lx2 hx2
    have X2 : x2 = 300 + v := by rw [hx2, X1]; exact tE_60 fr
    refine ⟨gk_X6_part, gm_X6_part hg d (by omega), a1, a2, yar B, rfl, nd.1, ⟨ha2.1, by rw [nd.2.1, ← nd.2.2.1]; exact ha2.2⟩, W, ?_⟩
    intro x4 kx4 hx4
    rw [← hx4] at part
    refine ⟨gk_X6_head, gm_X6_head hg d (by omega), _, rfl, ⟨by omega, by omega, by omega⟩, ?_⟩
    intro x5 kx5 lx5 hx5
    refine And.intro ⟨⟨by omega, by omega⟩, ⟨by omega, by omega⟩⟩ (And.intro (fun c6 => ?_) (fun c6 => ?_))
    · intro t7 et7 ht7
      have q7 : t7 = t := by omega
      subst q7
      refine And.intro ht7.1 ?_
      refine ⟨gk_X6_head, gm_X6_head hg d (by omega), _, rfl, ⟨by omega, by omega, by omega⟩, ?_⟩
      intro x8 kx8 lx8 hx8
      have X8 : x8 = c := hx8.trans nd.2.1
      refine ⟨zk_X8_at, zm_X8_at hg d (by omega), _, _, _, rfl, ⟨by omega, by omega⟩, ?_⟩
      refine And.intro (zfa (o := 2) (y2 := 16) ht7.1 rfl) ?_
      intro x9 kx9 lx9 fx9 gx9
      have X9 : x9 = B.1 2 c := by rw [(fx9 ⟨by omega, by omega⟩).1, X8]; exact bc.1.2.1
      refine Exists.intro (Int.toNat (2147483648 - 0)) ?_
      exact ⟨0, by rw [X9, X2, show 300 + v - 300 = v by omega], ⟨by omega, by omega⟩, zfB_r v μ, ok, tOd_r μ, ⟨by omega, by omega⟩, ⟨by omega, by omega⟩, ⟨by omega, by omega⟩, rfl⟩
    · have e5 : x5 = 201 := by omega
      refine ⟨gk_X6_part, gm_X6_part hg d (by omega), x4, 0, yar B, rfl, part.1, ⟨by omega, by rw [← hx5, e5]; unfold yar; rw [if_neg (by omega), if_pos (by omega)]; omega⟩, W, ?_⟩
      intro x11 kx11 hx11
      refine ⟨gk_X0_addBound, gm_X0_addBound hg d (by omega), _, _, rfl, ⟨by omega, by omega⟩, ⟨by omega, by omega⟩, ⟨by rw [show x2 - 300 = v by omega]; omega, by rw [show x2 - 300 = v by omega]; omega⟩, ?_⟩
      intro m12 q12 em12
      rw [show x2 - 300 = v by omega] at em12
      obtain ⟨o12, d12, n12, z12, b12, f12⟩ := aBd_o ok q12 em12
      intro t14 et14 ht14
      have q14 : t14 = t := by rw [f12] at et14; omega
      subst q14
      refine And.intro ht14.1 ?_
      have nd12 := aNd_o nd W d12
      refine ⟨gk_X6_head, gm_X6_head hg d (by omega), _, rfl, ⟨by omega, nd12.1.2, by omega⟩, ?_⟩
      intro x15 kx15 lx15 hx15
      have X15 : x15 = c := hx15.trans nd12.2.1
      refine ⟨zk_X8_at, zm_X8_at hg d (by omega), _, _, _, rfl, ⟨by omega, by omega⟩, ?_⟩
      refine And.intro (zfa (o := 2) (y2 := 16) ht14.1 rfl) ?_
      intro x16 kx16 lx16 fx16 gx16
      have X16 : x16 = B.1 2 c := by rw [(fx16 ⟨by omega, by omega⟩).1, X15, z12.1.2.1 (Nat.add t14 2) (by simp only [Nat.add_eq]; omega)]; exact bc.1.2.1
      refine Exists.intro (Int.toNat (2147483648 - 0)) ?_
      exact ⟨0, by rw [X16, X2, show 300 + v - 300 = v by omega], ⟨by omega, by omega⟩, z12, o12, d12, ⟨by omega, by omega⟩, by rw [f12]; exact ⟨by omega, by omega⟩, ⟨by omega, by omega⟩, rfl⟩
  · intro vs m0 n hI
    obtain ⟨v8, rfl, hv8, z0, ok0, od0, cn, ct, cb, rfl⟩ := hI
    have hT0 : aT m0 t B := aT_f hT (fun j hj => z0.1.2.1 j (by omega)) z0.1.1.2
    have W0 := ok0.2.2.2.2
    have nn0 := W0.1
    have pc0 := hT0.2.1.2.2 (B.1 2 c + a2) p0.1 p0.2
    have h52' : m0.1 52 ((7 : Nat) : Int) = t := (z0.1.2.2.1 _ (by decide)).trans h52
    intro t18 et18 ht18
    have q18 : t18 = t := by omega
    subst q18
    refine And.intro ht18.1 ?_
    refine ⟨zk_X8_at, zm_X8_at hg d (by omega), _, _, _, rfl, ⟨by omega, by omega⟩, ?_⟩
    refine And.intro (zfa (o := 8) (y2 := 22) ht18.1 rfl) ?_
    intro x19 kx19 lx19 fx19 gx19
    have X19 : x19 = B.1 6 (B.1 2 c + a2) := by rw [(fx19 ⟨by omega, by omega⟩).1]; exact pc0.1.2.2
    refine And.intro ⟨⟨by omega, by omega⟩, ⟨by omega, by omega⟩⟩ (And.intro (fun c20 => ?_) (fun c20 => ?_))
    · refine ⟨zk_X8_at, zm_X8_at hg d (by omega), _, _, _, rfl, ⟨by omega, by omega⟩, ?_⟩
      intro x21 kx21 lx21 fx21 gx21
      have X21 : x21 = m0.1 53 v := (fx21 ⟨by omega, by omega⟩).1
      refine And.intro ⟨by omega, by omega⟩ (And.intro (fun c22 => ?_) (fun c22 => ?_))
      · exact And.intro (zrtb (by omega)) (And.intro ⟨by omega, by omega⟩ (hQ _ z0 ok0 od0 ⟨by omega, by omega⟩ ⟨by omega, by omega⟩))
      · intro x23 hx23 kx23 lx23
        refine ⟨gk_X0_addBound, gm_X0_addBound hg d (by omega), _, _, rfl, ⟨by omega, by omega⟩, ⟨by omega, by omega⟩, ⟨by omega, by omega⟩, ?_⟩
        intro m24 q24 em24
        obtain ⟨o24, d24, n24, z24, b24, f24⟩ := aBd_o ok0 q24 em24
        exact And.intro (zrtb (by omega)) (And.intro ⟨by omega, by omega⟩ (hQ _ (zfB_t z0 z24) o24 (tOd_t od0 d24) ⟨by omega, by omega⟩ (by rw [f24]; exact ⟨by omega, by omega⟩)))
    · obtain ⟨r1, r2, r3, r4⟩ := hT0.2.2.1.2 (B.1 2 c + a2) v8 p0.1 p0.2 hv8.1 (by omega)
      have y1 := (hB.2.2.1.2 (B.1 2 c + a2) v8 p0.1 p0.2 hv8.1 (by omega)).1
      have y2 := hB.2.2.2.1 c (B.1 2 c + a2) hc.1 hc.2 (by omega) (by omega) v8 hv8.1 (by omega)
      intro t28 et28 ht28
      have q28 : t28 = t18 := by omega
      subst q28
      refine And.intro ht18.1 ?_
      refine ⟨zk_X8_at, zm_X8_at hg d (by omega), _, _, _, rfl, ⟨by omega, by omega⟩, ?_⟩
      refine And.intro (zfa (o := 10) (y2 := 24) ht18.1 rfl) ?_
      intro x29 kx29 lx29 fx29 gx29
      have X29 : x29 = ((B.2 0 (B.1 2 c + a2) v8).flatten.length : Int) := by rw [(fx29 ⟨by omega, by omega⟩).1]; exact r1
      refine ⟨gk_X0_count, gm_X0_count hg d (by omega), _, rfl, ⟨by omega, by omega⟩, ⟨by omega, by omega⟩, ?_⟩
      intro m31 q31 em31
      obtain ⟨o31, d31, n31⟩ := tOk_g ok0 (m' := m31) (fun i hi => by rw [em31, zu_ne (by omega)])
      have z31 : zfB v m0 m31 := zfB_c q31 em31
      have t31 : m31.1 52 ((14 : Nat) : Int) = m0.1 52 ((14 : Nat) : Int) + x29 := by rw [em31, zu_at]
      have b31 : m31.1 53 v = m0.1 53 v := by rw [em31, zu_ne (by decide)]
      have hT31 : aT m31 t28 B := aT_f hT0 (fun j hj => z31.1.2.1 j (by omega)) z31.1.1.2
      have h52'' : m31.1 52 ((7 : Nat) : Int) = t28 := (z31.1.2.2.1 _ (by decide)).trans h52'
      refine And.intro ⟨by omega, by omega⟩ (And.intro (fun c33 => ?_) (fun c33 => ?_))
      · intro t34 et34 ht34
        have q34 : t34 = t28 := by omega
        subst q34
        refine And.intro ht18.1 ?_
        intro t35 et35 ht35
        have q35 : t35 = t34 := by omega
        subst q35
        refine And.intro ht18.1 ?_
        refine ⟨zk_X8_at, zm_X8_at hg d (by omega), _, _, _, rfl, ⟨by omega, by omega⟩, ?_⟩
        refine And.intro (zfa (o := 9) (y2 := 23) ht18.1 rfl) ?_
        intro x36 kx36 lx36 fx36 gx36
        have X36 : x36 = m0.1 (Nat.add t35 9) ((B.1 2 c + a2) * 2 + v8) := by rw [(fx36 ⟨by omega, by omega⟩).1, em31, zu_ne (by simp only [Nat.add_eq]; omega)]
        have L3 : m31.2 (Nat.add t35 11) = 300 := by
          rw [z31.1.1.2, z0.1.1.2]
          rcases ht18.1 with rfl | rfl
          · exact hS.2.1
          · exact hS.2.2.1
        have R4 : yRow m31 (Nat.add t35 11) x36 (B.2 0 (B.1 2 c + a2) v8).flatten := by rw [X36]; exact yRow_e r4 (by rw [em31, zu_ne (by simp only [Nat.add_eq]; omega)])
        have od31 := tOd_t od0 d31
        refine ⟨_, zOk_tag (gm_X6_put hg d (by omega)), [.inr (.inr (59, 59)), .inr (.inr ((Nat.add t35 11), 1001)), .inl x36, .inl x29, .inr (.inr (58, 1001)), .inl a3, .inl (B.1 2 c)], rfl, _, _, _, 58, a3, B.1 2 c, t35, yar B, (B.2 0 (B.1 2 c + a2) v8).flatten, cs, rfl, (zIa_f (zfa (o := 11) (y2 := 25) ht18.1 rfl) (by decide) (by decide)), ⟨by omega, by omega⟩, ⟨X29, by omega⟩, (Or.inr ⟨by decide, by decide⟩), ⟨by omega, by omega⟩, ⟨by omega, by omega⟩, ⟨Or.inl (by simp only [Nat.add_eq]; omega), Or.inl (by decide)⟩, by rw [L3]; omega, R4, y1, o31, ⟨by omega, by omega⟩, (fun h hm h1 h2 => ?_), ?_⟩
        · have y := y2 h hm h1 h2
          refine ⟨yar_n hB21.2 (by omega) (by omega) (by omega), ⟨by omega, by rw [z31.1.1.2, z0.1.1.2, hS.1.2.1]; omega⟩, ?_⟩
          have f := hcs (h - 32 - B.1 2 c).toNat (by omega)
          rw [show (((h - 32 - B.1 2 c).toNat : Nat) : Int) = h - 32 - B.1 2 c by omega] at f
          rw [show m31.1 58 = μ.1 58 by rw [em31, zu_ne (by decide), z0.2.1.1]]
          exact tE_old od31 W f
        · intro x37 m38 q38 o38 d38 c38 e38
          have n38 := e38.1
          have k38 := o38.2.2.2.2.1
          have b38 : m38.1 53 = m31.1 53 := q38.2.1 53 (by omega)
          have t38 : m38.1 52 = m31.1 52 := q38.2.1 52 (by omega)
          refine ⟨gk_X0_addBound, gm_X0_addBound hg d (by omega), _, _, rfl, ⟨by omega, by omega⟩, ⟨by omega, by omega⟩, by rw [b38, b31]; exact ⟨by omega, by omega⟩, ?_⟩
          intro m41 q41 em41
          obtain ⟨o41, d41, n41, z41, b41, f41⟩ := aBd_o o38 q41 em41
          rw [b38, b31] at b41
          refine Exists.intro (Int.toNat (2147483648 - (v8 + 1))) (And.intro (by omega) ?_)
          exact ⟨_, rfl, ⟨by omega, by omega⟩, zfB_t (zfB_t (zfB_t z0 z31) (zfB_P q38)) z41, o41, tOd_t od31 (tOd_t d38 d41), ⟨by omega, by omega⟩, by rw [f41, t38, t31]; exact ⟨by omega, by omega⟩, ⟨by omega, by omega⟩, rfl⟩
      · exfalso; omega
