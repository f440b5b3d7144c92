/-! ### what is ABOVE: room, TYPES put behind the others -/
/-- the other table's code cell stays -/
def yOc (μ μ' : zM) (t : Nat) : Prop := ∀ s c : Nat, (s = 26 ∨ s = 44) → s ≠ t → (c = 31 ∨ c = 49 ∨ (109 ≤ c ∧ c < 1000000)) → (μ.1 s ((5 : Nat) : Int)).toNat = c → (μ.1 t ((5 : Nat) : Int)).toNat ≠ c → (μ'.1 c = μ.1 c ∧ μ'.2 c = μ.2 c) ∧ (μ'.1 s ((5 : Nat) : Int)).toNat = c ∧ (μ'.1 t ((5 : Nat) : Int)).toNat ≠ c
theorem yOc_r (μ : zM) (t : Nat) : yOc μ μ t := fun _ _ _ _ _ e n => ⟨⟨rfl, rfl⟩, e, n⟩
theorem yOc_t {a b c : zM} {t : Nat} (h1 : yOc a b t) (h2 : yOc b c t) : yOc a c t := fun s x hs hn v e n => by
  obtain ⟨⟨p1, p2⟩, p3, p4⟩ := h1 s x hs hn v e n
  obtain ⟨⟨q1, q2⟩, q3, q4⟩ := h2 s x hs hn v p3 p4
  exact ⟨⟨q1.trans p1, q2.trans p2⟩, q3, q4⟩
theorem yOc_c {μ m : zM} {t : Nat} (ht : t = 26 ∨ t = 44) (hc : ∀ j : Nat, j = 31 ∨ j = 49 ∨ (109 ≤ j ∧ j < 1000000) → (μ.1 t ((5 : Nat) : Int)).toNat ≠ j → m.1 j = μ.1 j) (h2 : m.2 = μ.2) (h5 : ∀ s : Nat, s = 26 ∨ s = 44 → m.1 s ((5 : Nat) : Int) = μ.1 s ((5 : Nat) : Int)) : yOc μ m t := fun s c hs hn v e n =>
  ⟨⟨hc c v n, by rw [h2]⟩, by rw [h5 s hs]; exact e, by rw [h5 t ht]; exact n⟩
def yFr (μ μ' : zM) (t : Nat) : Prop := (∀ j : Nat, (j < 109 ∧ j ≠ t ∧ j ≠ t + 1 ∧ j ≠ t + 2 ∧ j ≠ 31 ∧ j ≠ 49) ∨ 3000000 ≤ j → μ'.1 j = μ.1 j) ∧ yOc μ μ' t
def yOv (μ μ' : zM) (t c : Nat) (n : Int) (l : List Int) : Prop := yFr μ μ' t ∧ (∀ k : Int, k ≠ ((5 : Nat) : Int) → k ≠ ((6 : Nat) : Int) → μ'.1 t k = μ.1 t k) ∧ yCo μ' t c ∧ (∀ x : Int, 0 ≤ x → x < μ.1 t ((6 : Nat) : Int) → μ'.1 c x = μ.1 (μ.1 t ((5 : Nat) : Int)).toNat x) ∧ yRow μ' c (μ.1 t ((6 : Nat) : Int)) l ∧ μ'.1 t ((6 : Nat) : Int) = μ.1 t ((6 : Nat) : Int) + l.length ∧ μ.1 t ((6 : Nat) : Int) + n ≤ μ'.2 c
def ySt (μ μ' : zM) (t : Nat) : Prop := μ'.1 (Nat.add t 1) = μ.1 (Nat.add t 1) ∧ μ'.1 (Nat.add t 2) = μ.1 (Nat.add t 2)
def yS1 (μ μ' : zM) (t : Nat) (i n : Int) : Prop := (∀ k : Int, μ'.1 (Nat.add t 1) k = if k = i then μ.1 t ((6 : Nat) : Int) else μ.1 (Nat.add t 1) k) ∧ ∀ k : Int, μ'.1 (Nat.add t 2) k = if k = i then n else μ.1 (Nat.add t 2) k
theorem yOv_k {μ m1 : zM} {t c : Nat} {n : Int} (hc : yCo μ t c) (hu : μ.1 t ((6 : Nat) : Int) ≤ μ.2 c) (h : yMk μ m1 t n) : ∃ c', yOv μ m1 t c' n [] ∧ ySt μ m1 t := by
  have ec : (μ.1 t ((5 : Nat) : Int)).toNat = c := by rw [← hc.1.1]; rfl
  have ht := hc.2
  rcases h with ⟨rfl, h⟩ | ⟨J, n2, rfl, hJ, ho, h, h'⟩
  · rw [ec] at h
    exact ⟨c, ⟨⟨fun _ _ => rfl, yOc_r _ _⟩, fun _ _ _ => rfl, hc, fun x _ _ => by rw [ec], yRow_nil, by simp, h⟩, rfl, rfl⟩
  · have OC : yOc μ (zu (zrn μ J (μ.1 t ((5 : Nat) : Int)).toNat (μ.2 (μ.1 t ((5 : Nat) : Int)).toNat) n2) t ((5 : Nat) : Int) J) t := fun s c' hs hn v e n => by
      have nJ : c' ≠ J := fun q => ho s hs (by rw [e, q])
      refine ⟨⟨?_, ?_⟩, ?_, ?_⟩
      · rw [zu_ne (by omega), zrn_n nJ (by omega)]
      · exact zrn_2 (μ := μ) (j := (μ.1 t ((5 : Nat) : Int)).toNat) (n1 := μ.2 (μ.1 t ((5 : Nat) : Int)).toNat) (n2 := n2) nJ
      · rw [zu_ne hn, zrn_n (by omega) (by omega)]; exact e
      · rw [zu_at]; exact fun q => nJ (by omega)
    rw [ec] at h' OC ⊢
    refine ⟨J, ⟨⟨fun j hj => ?_, OC⟩, fun k hk hk' => ?_, ⟨⟨?_, ?_⟩, ht⟩, fun x x0 x1 => ?_, yRow_nil, ?_, ?_⟩, ?_, ?_⟩
    · rw [zu_ne (by omega), zrn_n (by omega) (by omega)]
    · rw [zu_nk hk, zrn_n (by omega) (by omega)]
    · rw [zu_at]
    · omega
    · rw [zu_ne (by omega), ec]
      show (if J = J then (if x < _ then _ else _) else _) = _
      rw [if_pos rfl, if_pos (by omega)]
    · rw [zu_nk (by decide), zrn_n (by omega) (by omega)]; simp
    · show _ ≤ (zrn μ J c (μ.2 c) n2).2 J
      rw [zrn_J]; exact h
    · rw [zu_ne (show t + 1 ≠ t by omega), zrn_n (show t + 1 ≠ J by omega) (show t + 1 ≠ 2000000 by omega)]
    · rw [zu_ne (show t + 2 ≠ t by omega), zrn_n (show t + 2 ≠ J by omega) (show t + 2 ≠ 2000000 by omega)]
theorem yOv_a {μ m0 m1 : zM} {t c : Nat} {n : Int} {l l' : List Int} (h : yOv μ m0 t c n l) (ha : yAp m0 m1 t c l') : yOv μ m1 t c n (l ++ l') ∧ m1.1 (Nat.add t 1) = m0.1 (Nat.add t 1) ∧ m1.1 (Nat.add t 2) = m0.1 (Nat.add t 2) := by
  obtain ⟨a1, a2, a3, a4, a5, a6, a7⟩ := h
  obtain ⟨b1, b2, b3, b4, b5, b6⟩ := ha
  have hc := a3.1.2
  have ht := a3.2
  have ec : (m0.1 t ((5 : Nat) : Int)).toNat = c := by rw [← a3.1.1]; rfl
  refine ⟨⟨⟨fun j hj => ?_, yOc_t a1.2 (yOc_c ht (fun j hj n => b1 j (by omega) (by omega)) b6 (fun s hs => by by_cases q : s = t; (rw [q]; exact b2 _ (by decide)); rw [b1 s q (by omega)]))⟩, fun k k5 k6 => ?_, ⟨⟨?_, hc⟩, ht⟩, fun x x0 x1 => ?_, ?_, ?_, ?_⟩, b1 _ (show t + 1 ≠ t by omega) (show t + 1 ≠ c by omega), b1 _ (show t + 2 ≠ t by omega) (show t + 2 ≠ c by omega)⟩
  · rw [b1 j (by omega) (by omega)]; exact a1.1 j hj
  · rw [b2 k k6]; exact a2 k k5 k6
  · rw [b2 _ (by decide)]; exact a3.1.1
  · rw [b4 x (by rw [a6]; omega)]; exact a4 x x0 x1
  · refine yRow_app.mpr ⟨yRow_fr a5 (fun j hj => b4 _ (by rw [a6]; omega)), ?_⟩
    rw [a6] at b5
    exact b5
  · rw [b3, a6, List.length_append]; omega
  · rw [b6]; exact a7
theorem yS1_a {μ m0 m1 : zM} {t : Nat} {i n : Int} (h : yS1 μ m0 t i n) (h1 : m1.1 (Nat.add t 1) = m0.1 (Nat.add t 1)) (h2 : m1.1 (Nat.add t 2) = m0.1 (Nat.add t 2)) : yS1 μ m1 t i n := by
  unfold yS1
  rw [h1, h2]
  exact h
theorem yOv_s {μ m0 m1 m2 : zM} {t c : Nat} {n i s n' : Int} {l : List Int} (h : yOv μ m0 t c n l) (h0 : ySt μ m0 t) (hs : s = μ.1 t ((6 : Nat) : Int)) (e1 : m1 = zu m0 (Nat.add t 1) i s) (e2 : m2 = zu m1 (Nat.add t 2) i n') : yOv μ m2 t c n l ∧ yS1 μ m2 t i n' := by
  obtain ⟨a1, a2, a3, a4, a5, a6, a7⟩ := h
  have hc := a3.1.2
  have ht := a3.2
  have hj : ∀ j : Nat, j ≠ t + 1 → j ≠ t + 2 → m2.1 j = m0.1 j := fun j j1 j2 => by rw [e2, zu_ne j2, e1, zu_ne j1]
  have h2 : m2.2 = m0.2 := by rw [e2, e1]; rfl
  have hcc : m2.1 c = m0.1 c := hj c (by omega) (by omega)
  have htt : m2.1 t = m0.1 t := hj t (by omega) (by omega)
  refine ⟨⟨⟨fun j q => by rw [hj j (by omega) (by omega)]; exact a1.1 j q, yOc_t a1.2 (yOc_c ht (fun j q _ => hj j (by omega) (by omega)) h2 (fun s hs => by rw [hj s (by omega) (by omega)]))⟩, fun k k5 k6 => by rw [htt]; exact a2 k k5 k6, ⟨⟨by rw [htt]; exact a3.1.1, hc⟩, ht⟩, fun x x0 x1 => by rw [hcc]; exact a4 x x0 x1, yRow_e a5 hcc, by rw [htt]; exact a6, by rw [h2]; exact a7⟩, fun k => ?_, fun k => ?_⟩
  · rw [e2, zu_ne (show t + 1 ≠ t + 2 by omega), e1, ← h0.1, ← hs]
    by_cases q : k = i
    · rw [if_pos q, q, zu_at]
    · rw [if_neg q, zu_nk q]
  · rw [e2]
    by_cases q : k = i
    · rw [if_pos q, q, zu_at]
    · rw [if_neg q, zu_nk q, e1, zu_ne (show t + 2 ≠ t + 1 by omega), h0.2]
/-- all is as before but for the room -/
def yKp (μ μ' : zM) (t : Nat) : Prop := ∃ c, (yOv μ μ' t c 0 [] ∧ ySt μ μ' t)
theorem yKp_k {μ m0 m1 : zM} {t c : Nat} {n : Int} {l : List Int} {x : Int} (h : yOv μ m0 t c n l) (h0 : ySt μ m0 t) (hn : 0 ≤ n) (hx : x = μ.1 t ((6 : Nat) : Int)) (e : m1 = zu m0 t ((6 : Nat) : Int) x) : yKp μ m1 t := by
  obtain ⟨a1, a2, a3, a4, a5, a6, a7⟩ := h
  have hc := a3.1.2
  have ht := a3.2
  refine ⟨c, ⟨⟨fun j q => ?_, yOc_t a1.2 (yOc_c ht (fun j q _ => by rw [e, zu_ne (by omega)]) (by rw [e]; rfl) (fun s hs => by rw [e]; by_cases q : s = t; (rw [q, zu_nk (by decide)]); rw [zu_ne q]))⟩, fun k k5 k6 => ?_, ⟨⟨?_, hc⟩, ht⟩, fun x x0 x1 => ?_, yRow_nil, ?_, ?_⟩, ?_, ?_⟩
  · rw [e, zu_ne (by omega)]; exact a1.1 j q
  · rw [e, zu_nk k6]; exact a2 k k5 k6
  · rw [e, zu_nk (by decide)]; exact a3.1.1
  · rw [e, zu_ne (by omega)]; exact a4 x x0 x1
  · rw [e, zu_at, hx]; simp
  · rw [e]; show _ ≤ m0.2 c; omega
  · rw [e, zu_ne (show t + 1 ≠ t by omega)]; exact h0.1
  · rw [e, zu_ne (show t + 2 ≠ t by omega)]; exact h0.2
theorem yKp_r {μ : zM} {t c : Nat} (hc : yCo μ t c) (hu : μ.1 t ((6 : Nat) : Int) ≤ μ.2 c) : yKp μ μ t :=
  ⟨c, ⟨⟨fun _ _ => rfl, yOc_r _ _⟩, fun _ _ _ => rfl, hc, fun x _ _ => by rw [show (μ.1 t ((5 : Nat) : Int)).toNat = c by rw [← hc.1.1]; rfl], yRow_nil, by simp, by omega⟩, rfl, rfl⟩
/-- a pair's TYPE is put behind the others -/
def yPu (μ μ' : zM) (t : Nat) (i : Int) (l : List Int) : Prop := ∃ c, yOv μ μ' t c l.length l ∧ yS1 μ μ' t i l.length
theorem ysub_app (f : Int) (as : List (List Int)) (l m : List Int) : ysub f as (l ++ m) = ysub f as l ++ ysub f as m := by simp [ysub]
theorem ysub_le {f : Int} {as : List (List Int)} {l : List Int} (n : Nat) : (ysub f as (l.take n)).length ≤ (ysub f as l).length := by
  have h := congrArg (fun q => (ysub f as q).length) (List.take_append_drop n l)
  rw [ysub_app, List.length_append] at h
  omega
theorem yAs_fr {μ μ' : zM} {t q : Nat} {as : List (List Int)} (h : yAs μ t q as) (hf : yFr μ μ' t) (ht : t = 26 ∨ t = 44) (hq : q = 25 ∨ q = 43) : yAs μ' t q as := by
  refine ⟨h.1, fun j hj => ?_⟩
  rw [hf.1 (Nat.add t 4) (Or.inl (show t + 4 < 109 ∧ t + 4 ≠ t ∧ t + 4 ≠ t + 1 ∧ t + 4 ≠ t + 2 ∧ t + 4 ≠ 31 ∧ t + 4 ≠ 49 by omega)), hf.1 (Nat.add t 3) (Or.inl (show t + 3 < 109 ∧ t + 3 ≠ t ∧ t + 3 ≠ t + 1 ∧ t + 3 ≠ t + 2 ∧ t + 3 ≠ 31 ∧ t + 3 ≠ 49 by omega))]
  have := h.2 j hj
  refine ⟨this.1, this.2.1, this.2.2.1, yRow_e this.2.2.2 (hf.1 q (Or.inl (by omega)))⟩
theorem yKp_v {μ m0 m1 : zM} {t c : Nat} {n : Int} {l : List Int} {x : Int} (h : yOv μ m0 t c n l) (h0 : ySt μ m0 t) (hl : (l.length : Int) ≤ n) (hu : 0 ≤ μ.1 t ((6 : Nat) : Int)) (e : m1 = zu m0 t ((6 : Nat) : Int) x) : yCo m1 t c ∧ yTo m1 c (μ.1 t ((6 : Nat) : Int)) (m1.2 c) l ∧ (∀ (s : Int) (r : List Int), yTo μ (μ.1 t ((5 : Nat) : Int)).toNat s (μ.1 t ((6 : Nat) : Int)) r → yTo m1 c s (m1.2 c) r) ∧ ySt μ m1 t := by
  obtain ⟨a1, a2, a3, a4, a5, a6, a7⟩ := h
  have hc := a3.1.2
  have ht := a3.2
  have e2 : m1.2 = m0.2 := by rw [e]; rfl
  have ecc : m1.1 c = m0.1 c := by rw [e, zu_ne (by omega)]
  refine ⟨⟨⟨?_, hc⟩, ht⟩, ⟨hu, ?_, yRow_e a5 ecc⟩, fun s r hr => ⟨hr.1, ?_, ?_⟩, ?_, ?_⟩
  · rw [e, zu_nk (by decide)]; exact a3.1.1
  · rw [e2]; omega
  · have := hr.2.1; rw [e2]; omega
  · intro j hj
    have h1 := hr.1
    have h2 := hr.2.1
    rw [ecc, a4 _ (by omega) (by omega)]
    exact hr.2.2 j hj
  · rw [e, zu_ne (show t + 1 ≠ t by omega)]; exact h0.1
  · rw [e, zu_ne (show t + 2 ≠ t by omega)]; exact h0.2
def yk_X1_inherit : zC := fun As μ Q => ∃ (t : Nat) (a1 : Int) (a2 : Int) (a3 : Int) (a4 : Nat) (c : Nat) (l : List Int) (σ : Int) (as : List (List Int)) (ol : List Int), As = [.inr (.inr (t, 26)), .inl a1, .inl a2, .inl a3, .inr (.inr (a4, 25))] ∧ (t = 26 ∨ t = 44) ∧ (0 ≤ a1 ∧ a1 ≤ 440) ∧ (0 ≤ a2 ∧ a2 ≤ 440) ∧ (0 ≤ a3 ∧ a3 ≤ 80) ∧ (a4 = 25 ∨ a4 = 43) ∧ (yCo μ t c) ∧ (μ.1 (Nat.add t 1) a2 = σ ∧ μ.1 (Nat.add t 2) a2 = (l.length : Int)) ∧ (yTo μ c σ (μ.1 t ((6 : Nat) : Int)) l) ∧ (yAs μ t a4 as) ∧ (l.length ≤ 200 ∧ μ.1 t ((6 : Nat) : Int) + 200 ≤ 88400 ∧ μ.1 t ((6 : Nat) : Int) ≤ μ.2 c) ∧ (yVl a3 as l) ∧ (μ.1 (Nat.add t 2) a1 = (ol.length : Int) ∧ ol.length ≤ 200 ∧ (ol ≠ [] → yTo μ c (μ.1 (Nat.add t 1) a1) (μ.1 t ((6 : Nat) : Int)) ol)) ∧ (zcq μ) ∧ (∀ (v : Int) (μ' : zM), zle μ μ' → 0 ≤ v → v ≤ 1 → ((v = 0 ∧ (200 < (ysub a3 as l).length ∨ (ol ≠ [] ∧ ol ≠ ysub a3 as l)) ∧ yKp μ μ' t) ∨ (v = 1 ∧ (ysub a3 as l).length ≤ 200 ∧ ((ol ≠ [] ∧ ol = ysub a3 as l ∧ yKp μ μ' t) ∨ (ol = [] ∧ yPu μ μ' t a1 (ysub a3 as l))))) → Q (some (.inl v)) μ')
set_option maxHeartbeats 4000000 in
theorem ym_X1_inherit {g : zΓ} (hg : zg g) (d : Nat) (hd : 4 ≤ d) : zOk g d 23 yk_X1_inherit := by
  obtain ⟨d, rfl⟩ : ∃ d', d = d' + 1 := ⟨d - 1, by omega⟩
  refine zOk_loop hg (show mt_tab[23]? = some mt_X1_inherit from rfl) ([(59, [0, 1, 3, 4, 5, 6, 7, 8])], []) 94 rfl fun As μ Q hC => ?_
  obtain ⟨t, a1, a2, a3, a4, c, l, σ, as, ol, rfl, ht, ha1, ha2, ha3, ha4, hp0, hp1, hp2, hp3, hp4, hp5, hp6, hp7, hQ⟩ := hC
  have z0 : zle μ μ := zle_r μ
  refine ⟨rfl, fun pc vs μ' n => ∃ (v1 : Int) (v3 : Int) (v5 : Int) (v6 : Int) (v7 : Int) (v8 : Int), vs = [.inr (.inr (t, 26)), .inl v1, .inl v3, .inr (.inr (a4, 25)), .inl v5, .inl v6, .inl v7, .inl v8] ∧ zle μ μ' ∧ (0 ≤ v1 ∧ v1 ≤ 440) ∧ (0 ≤ v3 ∧ v3 ≤ 80) ∧ (0 ≤ v5 ∧ v5 ≤ 200) ∧ (0 ≤ v6 ∧ v6 ≤ 88400) ∧ (0 ≤ v7 ∧ v7 ≤ 88400) ∧ (0 ≤ v8 ∧ v8 ≤ 88401) ∧ (v1 = a1 ∧ v3 = a3 ∧ (v5 = ((ysub a3 as l).length : Int)) ∧ v6 = μ.1 t ((6 : Nat) : Int) ∧ v7 = σ + l.length ∧ σ ≤ v8 ∧ v8 ≤ v7) ∧ (∃ c1, yOv μ μ' t c1 v5 (ysub a3 as (l.take (v8 - σ).toNat)) ∧ ySt μ μ' t) ∧ n = (Int.toNat (2147483648 - v8)), ?_, ?_, trivial⟩
  · refine And.intro ht ⟨yk_X1_sizeWithArgs, ym_X1_sizeWithArgs hg d (by omega), _, _, _, _, _, _, _, _, rfl, ht, ⟨by omega, by omega⟩, ⟨by omega, by omega⟩, hp0, hp1, ⟨hp2.1, by have h0 := hp2.2.1; have h1 := hp4.2.2; omega, hp2.2.2⟩, hp3, ⟨hp4.1, by have h0 := hp2.2.1; have h1 := hp4.2.1; omega⟩, hp5, ?_⟩
    intro x1 kx1 lx1 p2
    have A1 := hp2.1
    have A2 := hp2.2.1
    have A3 := hp1.2
    have PZ := p2
    refine And.intro ⟨⟨by omega, by omega⟩, ⟨by omega, by omega⟩⟩ (And.intro (fun c3 => ?_) (fun c3 => ?_))
    · refine And.intro ht ⟨yk_X1_makeRoom, ym_X1_makeRoom hg d (by omega), _, _, rfl, ht, ⟨by omega, by omega⟩, ⟨by omega, by have h1 := hp4.2.1; omega⟩, (zcq_t hp7 z0), ?_⟩
      intro m4 qm4 p5
      have z6 := zle_t z0 qm4
      obtain ⟨c1, O1, S1⟩ := yOv_k hp0 hp4.2.2 p5
      have U1 : m4.1 t ((6 : Nat) : Int) = μ.1 t ((6 : Nat) : Int) := by have h0 := O1.2.2.2.2.2.1; simpa using h0
      refine And.intro ht ?_
      intro x7 hx7 kx7 lx7
      refine And.intro ht ?_
      refine ⟨zk_X8_at, zm_X8_at hg d (by omega), _, _, _, rfl, ⟨by omega, by omega⟩, ?_⟩
      refine And.intro (zfa (o := 1) (y2 := 27) ht rfl) ?_
      intro x8 kx8 lx8 fx8 gx8
      have hx8 : x8 = m4.1 (Nat.add t 1) a2 := (fx8 ⟨by omega, by omega⟩).1
      have ix8 := (fx8 ⟨by omega, by omega⟩).2
      have X38 : x8 = σ := by rw [hx8, S1.1]; exact hp1.1
      refine And.intro ht ?_
      refine ⟨zk_X8_at, zm_X8_at hg d (by omega), _, _, _, rfl, ⟨by omega, by omega⟩, ?_⟩
      refine And.intro (zfa (o := 2) (y2 := 28) ht rfl) ?_
      intro x9 kx9 lx9 fx9 gx9
      have hx9 : x9 = m4.1 (Nat.add t 2) a2 := (fx9 ⟨by omega, by omega⟩).1
      have ix9 := (fx9 ⟨by omega, by omega⟩).2
      have X46 : x9 = (l.length : Int) := by rw [hx9, S1.2]; exact hp1.2
      refine And.intro ht ?_
      refine ⟨zk_X8_at, zm_X8_at hg d (by omega), _, _, _, rfl, ⟨by omega, by omega⟩, ?_⟩
      refine And.intro (zfa (o := 1) (y2 := 27) ht rfl) ?_
      intro x10 kx10 lx10 fx10 gx10
      have hx10 : x10 = m4.1 (Nat.add t 1) a2 := (fx10 ⟨by omega, by omega⟩).1
      have ix10 := (fx10 ⟨by omega, by omega⟩).2
      have X57 : x10 = σ := by rw [hx10, S1.1]; exact hp1.1
      refine Exists.intro (Int.toNat (2147483648 - x10)) ?_
      exact ⟨_, _, _, _, _, _, rfl, z6, ⟨by omega, by omega⟩, ⟨by omega, by omega⟩, ⟨by omega, by omega⟩, ⟨by omega, by omega⟩, ⟨by omega, by omega⟩, ⟨by omega, by omega⟩, (by omega), ⟨c1, by rw [show (x10 - σ).toNat = 0 by omega]; exact O1, S1⟩, rfl⟩
    · exact And.intro (zrtb (by omega)) (And.intro ⟨by omega, by omega⟩ (hQ _ _ z0 (by omega) (by omega) (Or.inl ⟨rfl, Or.inl (by omega), yKp_r hp0 hp4.2.2⟩)))
  · intro vs m0 n hI
    clear z0
    obtain ⟨v1, v3, v5, v6, v7, v8, rfl, z0, hv1, hv3, hv5, hv6, hv7, hv8, i0, i1, rfl⟩ := hI
    obtain ⟨c1, O1, S1⟩ := i1
    obtain ⟨j1, j3, j5, j6, j7, j8⟩ := i0
    subst j1
    subst j3
    have A1 := hp2.1
    have A2 := hp2.2.1
    have A7 := O1.2.2.2.2.2.2
    have A6 := O1.2.2.2.2.2.1
    refine And.intro ⟨⟨by omega, by omega⟩, ⟨by omega, by omega⟩⟩ (And.intro (fun c11 => ?_) (fun c11 => ?_))
    · rw [ytk_all (by omega)] at O1
      refine And.intro ht ?_
      refine ⟨zk_X8_at, zm_X8_at hg d (by omega), _, _, _, rfl, ⟨by omega, by omega⟩, ?_⟩
      refine And.intro (zfa (o := 2) (y2 := 28) ht rfl) ?_
      intro x12 kx12 lx12 fx12 gx12
      have hx12 : x12 = m0.1 (Nat.add t 2) v1 := (fx12 ⟨by omega, by omega⟩).1
      have ix12 := (fx12 ⟨by omega, by omega⟩).2
      have XO : x12 = (ol.length : Int) := by rw [hx12, S1.2]; exact hp6.1
      refine And.intro ⟨by omega, by omega⟩ (And.intro (fun c13 => ?_) (fun c13 => ?_))
      · have NO : ol = [] := List.length_eq_zero_iff.mp (by omega)
        refine And.intro ht ?_
        refine ⟨yk_X8_set, ym_X8_set hg d (by omega), _, _, _, _, rfl, ⟨by omega, by omega⟩, ?_⟩
        refine And.intro (zfa (o := 1) (y2 := 27) ht rfl) ?_
        refine And.intro ⟨by omega, by omega⟩ (And.intro ⟨by omega, by omega⟩ ?_)
        intro m14 qm14 em14
        have z15 := zle_0 z0 ⟨qm14, by rw [em14]; rfl⟩
        refine And.intro ht ?_
        refine ⟨yk_X8_set, ym_X8_set hg d (by omega), _, _, _, _, rfl, ⟨by omega, by omega⟩, ?_⟩
        refine And.intro (zfa (o := 2) (y2 := 28) ht rfl) ?_
        refine And.intro ⟨by omega, by omega⟩ (And.intro ⟨by omega, by omega⟩ ?_)
        intro m16 qm16 em16
        have z17 := zle_0 z15 ⟨qm16, by rw [em16]; rfl⟩
        have PU := yOv_s O1 S1 (show v6 = μ.1 t ((6 : Nat) : Int) by omega) em14 em16
        rw [j5] at PU
        exact And.intro (zrtb (by omega)) (And.intro ⟨by omega, by omega⟩ (hQ _ _ z17 (by omega) (by omega) (Or.inr ⟨rfl, by omega, Or.inr ⟨NO, _, PU⟩⟩)))
      · have NO : ol ≠ [] := by intro h0; rw [h0] at XO; simp at XO; omega
        have TO := hp6.2.2 NO
        have T1 := TO.1
        have T2 := TO.2.1
        refine And.intro ht ?_
        refine And.intro ⟨by omega, by omega⟩ ?_
        intro m18 em18
        have z19 := zle_0 z0 (zl0_f em18 ht (by decide) (Or.inr (by decide)))
        have KP := yKp_k O1 S1 (by omega) (show v6 = μ.1 t ((6 : Nat) : Int) by omega) em18
        have KV := yKp_v O1 S1 (by omega) (by omega) em18
        rw [show (μ.1 t ((5 : Nat) : Int)).toNat = c by rw [← hp0.1.1]; rfl] at KV
        refine And.intro ht ?_
        refine ⟨zk_X8_at, zm_X8_at hg d (by omega), _, _, _, rfl, ⟨by omega, by omega⟩, ?_⟩
        refine And.intro (zfa (o := 1) (y2 := 27) ht rfl) ?_
        intro x20 kx20 lx20 fx20 gx20
        have hx20 : x20 = m18.1 (Nat.add t 1) v1 := (fx20 ⟨by omega, by omega⟩).1
        have ix20 := (fx20 ⟨by omega, by omega⟩).2
        have X1 : x20 = μ.1 (Nat.add t 1) v1 := by rw [hx20, KV.2.2.2.1]
        refine And.intro ht ?_
        refine ⟨zk_X8_at, zm_X8_at hg d (by omega), _, _, _, rfl, ⟨by omega, by omega⟩, ?_⟩
        refine And.intro (zfa (o := 2) (y2 := 28) ht rfl) ?_
        intro x21 kx21 lx21 fx21 gx21
        have hx21 : x21 = m18.1 (Nat.add t 2) v1 := (fx21 ⟨by omega, by omega⟩).1
        have ix21 := (fx21 ⟨by omega, by omega⟩).2
        have X2 : x21 = (ol.length : Int) := by rw [hx21, KV.2.2.2.2]; exact hp6.1
        refine And.intro ht ⟨yk_X1_isSame, ym_X1_isSame hg d (by omega), _, _, _, _, _, _, _, _, rfl, ht, ⟨by omega, by omega⟩, ⟨by omega, by omega⟩, ⟨by omega, by omega⟩, ⟨by omega, by omega⟩, KV.1, (by rw [X1]; exact KV.2.2.1 _ _ TO), (by rw [show v6 = μ.1 t ((6 : Nat) : Int) by omega]; exact KV.2.1), X2, j5, ?_⟩
        intro x22 kx22 lx22 p23
        exact And.intro (zrtb (by omega)) (And.intro ⟨by omega, by omega⟩ (hQ _ _ z19 (by omega) (by omega) (by rcases p23 with h0 | h0; exact Or.inr ⟨h0.1, by omega, Or.inl ⟨NO, h0.2, KP⟩⟩; exact Or.inl ⟨h0.1, Or.inr ⟨NO, h0.2⟩, KP⟩)))
    · refine And.intro ht ?_
      intro t24 et24 ht24
      have E1 : t24 = c1 := by have h0 := O1.2.2.1.1.1; omega
      subst E1
      refine ⟨zk_X8_at, zm_X8_at hg d (by omega), _, _, _, rfl, ⟨by omega, by omega⟩, ?_⟩
      refine And.intro ht24.1 ?_
      intro n25 hn25 kn25 ln25
      intro x26 kx26 lx26 fx26 gx26
      have hx26 : x26 = m0.1 t24 v8 := (fx26 ⟨by omega, by omega⟩).1
      have ix26 := (fx26 ⟨by omega, by omega⟩).2
      have HX : x26 = l.getD (v8 - σ).toNat 0 := by rw [hx26, O1.2.2.2.1 v8 (by omega) (by omega), show (μ.1 t ((5 : Nat) : Int)).toNat = c by rw [← hp0.1.1]; rfl]; exact yRow_v hp2.2.2 (by omega) (by omega)
      have HM : x26 ∈ l := by rw [HX]; exact ytk_m (by omega) (by omega)
      have SI := ysub_i (f := v3) (as := as) (l := l) (v := v8) (s := σ) (by omega) (by omega)
      rw [← HX] at SI
      have LE := ysub_le (f := v3) (as := as) (l := l) (v8 + 1 - σ).toNat
      rw [SI, List.length_append] at LE
      unfold ys1 at SI LE
      refine ⟨yk_X8_isParameter, ym_X8_isParameter hg d (by omega), _, rfl, ⟨by omega, by omega⟩, ?_⟩
      intro x27 kx27 lx27 p28
      refine And.intro ⟨by omega, by omega⟩ (And.intro (fun c29 => ?_) (fun c29 => ?_))
      · have bc29 := yp0 p28 c29
        rw [if_neg bc29] at SI LE
        simp only [List.length_cons, List.length_nil] at LE
        refine And.intro ht ⟨yk_X1_write, ym_X1_write hg d (by omega), _, _, _, rfl, ht, ⟨by omega, by omega⟩, O1.2.2.1, (by rw [A6]; omega), ?_⟩
        intro m30 qm30 p31
        have z32 := zle_0 z0 qm30
        have OA := yOv_a O1 p31
        rw [← SI] at OA
        refine Exists.intro (Int.toNat (2147483648 - (v8 + 1))) (And.intro (by omega) ?_)
        exact ⟨_, _, _, _, _, _, rfl, z32, ⟨by omega, by omega⟩, ⟨by omega, by omega⟩, ⟨by omega, by omega⟩, ⟨by omega, by omega⟩, ⟨by omega, by omega⟩, ⟨by omega, by omega⟩, (by omega), ⟨_, OA.1, OA.2.1.trans S1.1, OA.2.2.trans S1.2⟩, rfl⟩
      · have bc29 := yp1 p28 c29
        rw [if_pos bc29] at SI LE
        have HV := hp5 x26 HM (by omega) (by omega)
        have H4 := hp3.1
        have AL := yAs_l (yAs_fr hp3 O1.1 ht ha4) HV.1 HV.2
        refine And.intro ht ⟨yk_X1_writeArg, ym_X1_writeArg hg d (by omega), _, _, _, _, _, _, rfl, ht, ⟨by omega, by omega⟩, ha4, O1.2.2.1, (by rw [A6]; omega), ⟨rfl, AL.1⟩, AL.2, ?_⟩
        intro m33 qm33 p34
        have z35 := zle_0 z0 qm33
        have OA := yOv_a O1 p34
        rw [← SI] at OA
        refine Exists.intro (Int.toNat (2147483648 - (v8 + 1))) (And.intro (by omega) ?_)
        exact ⟨_, _, _, _, _, _, rfl, z35, ⟨by omega, by omega⟩, ⟨by omega, by omega⟩, ⟨by omega, by omega⟩, ⟨by omega, by omega⟩, ⟨by omega, by omega⟩, ⟨by omega, by omega⟩, (by omega), ⟨_, OA.1, OA.2.1.trans S1.1, OA.2.2.trans S1.2⟩, rfl⟩
