/-! ### what is found above a class: the class's own type -/
theorem zsz_leaf {m : zM} {x : Int} (h : zNd m x) (hc : m.1 69 x = 0) : m.1 71 x = 1 := by
  have := h.2.2.2.2
  rw [hc] at this
  rw [this]
  rfl
theorem zsm_le1 {f : Int → Int} : ∀ {n : Nat}, (∀ i : Int, 0 ≤ i → i < (n : Int) → f i ≤ 1) → zsm f n ≤ 1 + (n : Int)
  | 0, _ => by show (1 : Int) ≤ 1 + ((0 : Nat) : Int); omega
  | n + 1, h => by
    have h1 := zsm_le1 (n := n) (fun i a b => h i a (by omega))
    have h2 := h ((n : Nat) : Int) (by omega) (by omega)
    show zsm f n + f ((n : Nat) : Int) ≤ 1 + ((n + 1 : Nat) : Int)
    omega
def zP1 (μ m : zM) (lo c P k : Int) : Prop := (zND m lo ∧ zUq m lo ∧ zOld μ m (zTop μ) ∧ zTop μ ≤ zTop m ∧ zTop m ≤ zTop μ + k ∧ zWf m lo (zTop m) (c + 1) P 0 (zXn μ)) ∧ ((∀ q : Int, q < 21 * (21 + c) → m.1 80 q = μ.1 80 q) ∧ ∀ d : Int, 0 ≤ d → d ≤ 20 → m.1 80 (21 * (21 + c) + d) = -1) ∧ ∀ j : Int, 0 ≤ j → j < k → (lo ≤ m.1 99 j ∧ m.1 99 j < zTop m) ∧ m.1 67 (m.1 99 j) = 1 ∧ m.1 68 (m.1 99 j) = zXf μ c + j
theorem zP1_0 {μ m : zM} {lo c P : Int} (hn : zND μ lo) (hu : zUq μ lo) (hw : zWf μ lo (zTop μ) (c + 1) P 0 (zXn μ)) (hc : ∀ j : Nat, j ≠ 80 → m.1 j = μ.1 j) (h1 : ∀ q : Int, q < 21 * (21 + c) → m.1 80 q = μ.1 80 q) (h2 : ∀ d : Int, 0 ≤ d → d ≤ 20 → m.1 80 (21 * (21 + c) + d) = -1) : zP1 μ m lo c P 0 := by
  have ht : zTop m = zTop μ := congrFun (hc 66 (by decide)) _
  exact ⟨⟨zND_t.2 (by rw [ht]; exact zNDt_same (fun j a b => hc j (by omega)) (zND_t.1 hn)), zUq_c hu (fun j a b => hc j (by omega)) ht, zOld_same (fun j a b => hc j (by omega)), by omega, by omega, by rw [ht]; exact zWf_same hw (fun j a b => hc j (by omega)) rfl⟩, ⟨h1, h2⟩, fun j a b => by omega⟩
theorem zP1_s {μ m m' m2 : zM} {lo c P k v x k2 : Int} {p : Int → Int} (h : zP1 μ m lo c P k) (k0 : 0 ≤ k) (hv : v = zXf μ c + k) (hP : v < P) (hd : zMd m m' lo 1 v 0 p x) (h80 : m'.1 80 = m.1 80) (h99 : m'.1 99 = m.1 99) (e : m2 = zu m' 99 k2 x) (hk : k2 = k) : zP1 μ m2 lo c P (k + 1) := by
  obtain ⟨⟨f1, f2, f3, f4, f5, f6⟩, ⟨g1, g2⟩, hj⟩ := h
  have l0 := f1.1.1
  have c2 : ∀ j : Nat, j ≠ 99 → m2.1 j = m'.1 j := fun j hj => by rw [e, zu_ne hj]
  have tp2 : zTop m2 = zTop m' := congrFun (c2 66 (by decide)) _
  have tp := zMd_tp hd
  have xr := zMd_x hd f1
  have W := zWf_mk l0 f6 f1 hd (zW1_like hd.2.1 (fun i a b => by omega) (fun q => by omega) (fun _ => ⟨hP, rfl⟩) (fun q => by omega) (fun q => by omega) (fun q => by omega))
  have U := zUq_mk l0 f2 f1 hd
  refine ⟨⟨zND_t.2 (by rw [tp2]; exact zNDt_same (fun j a b => c2 j (by omega)) (zND_t.1 hd.1)), zUq_c U (fun j a b => c2 j (by omega)) tp2, zOld_t (zOld_t f3 hd.2.2.2 f4) (zOld_same (fun j a b => c2 j (by omega))) (Int.le_refl _), by omega, by omega, by rw [tp2]; exact zWf_same W (fun j a b => c2 j (by omega)) rfl⟩, ⟨fun q hq => by rw [c2 80 (by decide), h80]; exact g1 q hq, fun d a b => by rw [c2 80 (by decide), h80]; exact g2 d a b⟩, fun j a b => ?_⟩
  rw [tp2, c2 67 (by decide), c2 68 (by decide)]
  by_cases q : j = k
  · rw [e, q, hk, zu_at]
    exact ⟨xr, hd.2.1.1, by rw [hd.2.1.2.1]; exact hv⟩
  · rw [e, zu_nk (by omega), h99]
    obtain ⟨a1, a2, a3⟩ := hj j a (by omega)
    have o := hd.2.2.2 _ (by omega) a1.2
    rw [o.1, o.2.1]
    exact ⟨⟨a1.1, by omega⟩, a2, a3⟩
theorem zP1_f {μ m m' : zM} {lo c P k : Int} (h : zP1 μ m lo c P k) (hc : ∀ j : Nat, j ≠ 74 → m'.1 j = m.1 j) : zP1 μ m' lo c P k := by
  have ht : zTop m' = zTop m := congrFun (hc 66 (by decide)) _
  obtain ⟨⟨f1, f2, f3, f4, f5, f6⟩, ⟨g1, g2⟩, hj⟩ := h
  refine ⟨⟨zND_t.2 (by rw [ht]; exact zNDt_same (fun j a b => hc j (by omega)) (zND_t.1 f1)), zUq_c f2 (fun j a b => hc j (by omega)) ht, zOld_t f3 (zOld_same (fun j a b => hc j (by omega))) (Int.le_refl _), by omega, by omega, by rw [ht]; exact zWf_same f6 (fun j a b => hc j (by omega)) rfl⟩, ?_, ?_⟩
  · rw [hc 80 (by decide)]; exact ⟨g1, g2⟩
  · rw [hc 99 (by decide), hc 67 (by decide), hc 68 (by decide), ht]; exact hj
set_option maxHeartbeats 1000000 in
theorem zRv_mk {μ m1 m2 m3 m4 ν : zM} {lo c P n x y k1 k2 : Int} {p : Int → Int} (h : zP1 μ m1 lo c P n) (hn : n = zXn μ c) (hp : ∀ j : Int, 0 ≤ j → j < n → m1.1 74 j = m1.1 99 j) (hx : zMd m1 m2 lo 0 c n (m1.1 74) x) (e3 : m3 = zu m2 80 k1 x) (hk1 : k1 = 21 * (21 + c) + c) (hy : zMd m3 m4 lo 0 0 0 p y) (e5 : ν = zu m4 80 k2 y) (hk2 : k2 = 21 * (21 + c)) (h2 : m2.1 80 = m1.1 80) (h4 : m4.1 80 = m3.1 80) (hcell : ∀ j : Nat, 76 ≤ j → j ≤ 84 → j ≠ 80 → ν.1 j = μ.1 j) (hc : 1 ≤ c ∧ c ≤ 20) (hTP : zTP μ lo c P) (hCl : zCl μ lo c P) (ndμ : ∀ x : Int, 0 ≤ x → x < zTop μ → zNd μ x)
    (hb : zTop μ + zXn μ c + 1 + μ.1 79 (21 + c) * zWs μ c.toNat ≤ 19999) : zRv μ ν lo c P ∧ zWs ν c.toNat = zWs μ c.toNat := by
  obtain ⟨⟨f1, f2, f3, f4, f5, f6⟩, ⟨g1, g2⟩, hj⟩ := h
  have l0 := f1.1.1
  have cl4 := hCl.1
  have c3 : ∀ j : Nat, j ≠ 80 → m3.1 j = m2.1 j := fun j hj => by rw [e3, zu_ne hj]
  have c5 : ∀ j : Nat, j ≠ 80 → ν.1 j = m4.1 j := fun j hj => by rw [e5, zu_ne hj]
  have tp3 : zTop m3 = zTop m2 := congrFun (c3 66 (by decide)) _
  have tp5 : zTop ν = zTop m4 := congrFun (c5 66 (by decide)) _
  have t2 := zMd_tp hx
  have xr := zMd_x hx f1
  have any0 := (hTP.1 0 (by omega) (by omega)).2
  have z77 : zXn μ 0 = 0 := by unfold zXn; rw [show (21 + 0 : Int) = 21 by omega]; exact hTP.2.2
  -- nodes behind the first
  have W2 := zWf_mk l0 f6 f1 hx (zW1_like hx.2.1 (fun i a b => by rw [hp i a b]; exact (hj i a b).1.1) (fun _ => ⟨by omega, hn⟩) (fun q => by omega) (fun q => by omega) (fun q => by omega) (fun q => by omega))
  have U2 := zUq_mk l0 f2 f1 hx
  have N3 : zND m3 lo := zND_t.2 (by rw [tp3]; exact zNDt_same (fun j a b => c3 j (by omega)) (zND_t.1 hx.1))
  have U3 := zUq_c U2 (fun j a b => c3 j (by omega)) tp3
  have W3 : zWf m3 lo (zTop m3) (c + 1) P 0 (zXn μ) := by rw [tp3]; exact zWf_same W2 (fun j a b => c3 j (by omega)) rfl
  have O2 : zOld μ m2 (zTop μ) := zOld_t f3 hx.2.2.2 f4
  have O3 : zOld μ m3 (zTop μ) := zOld_t O2 (zOld_same (fun j a b => c3 j (by omega))) (Int.le_refl _)
  have t4 : zTop m4 = zTop m3 := by
    rcases hy.2.2.1 with q | ⟨-, -, q⟩
    · exact q.1
    · exfalso
      rcases any0.1 0 (by omega) (by omega) with r | r
      · have := any0.2.2.2; omega
      · have a0 := any0.2.2.2
        have A := r.1
        have aT := A.1.2
        have o := O3 _ a0 aT
        refine q (zXa μ 0 0) A.1.1 (by omega) ⟨by rw [o.1]; exact A.2.1, by rw [o.2.1]; exact A.2.2.1, by rw [o.2.2.1, A.2.2.2.2.1]; exact z77, fun i a b => by omega⟩
  have yr := zMd_x hy N3
  have W4 := zWf_mk l0 W3 N3 hy (zW1_like hy.2.1 (fun i a b => by omega) (fun _ => ⟨by omega, z77.symm⟩) (fun q => by omega) (fun q => by omega) (fun q => by omega) (fun q => by omega))
  have U4 := zUq_mk l0 U3 N3 hy
  have N5 : zND ν lo := zND_t.2 (by rw [tp5]; exact zNDt_same (fun j a b => c5 j (by omega)) (zND_t.1 hy.1))
  have O5 : zOld μ ν (zTop μ) := zOld_t (zOld_t O3 hy.2.2.2 (by omega)) (zOld_same (fun j a b => c5 j (by omega))) (Int.le_refl _)
  have n77 : zXn ν = zXn μ := by funext q; unfold zXn; rw [hcell 77 (by omega) (by omega) (by omega)]
  have n76 : ∀ q : Int, zXf ν q = zXf μ q := fun q => by unfold zXf; rw [hcell 76 (by omega) (by omega) (by omega)]
  have W5 : zWf ν lo (zTop ν) (c + 1) P 0 (zXn ν) := by rw [tp5, n77]; exact zWf_same W4 (fun j a b => c5 j (by omega)) rfl
  -- what x is, in the end
  have ox : ν.1 67 x = 0 ∧ ν.1 68 x = c ∧ ν.1 69 x = n ∧ ∀ i : Int, 0 ≤ i → i < n → ν.1 70 (4 * x + i) = m1.1 99 i := by
    have o4 := hy.2.2.2 x (by omega) (by omega)
    have n4 : n ≤ 4 := by omega
    rw [c5 67 (by decide), c5 68 (by decide), c5 69 (by decide), c5 70 (by decide), o4.1, o4.2.1, o4.2.2.1, c3 67 (by decide), c3 68 (by decide), c3 69 (by decide)]
    refine ⟨hx.2.1.1, hx.2.1.2.1, hx.2.1.2.2.1, fun i a b => ?_⟩
    rw [o4.2.2.2.2 i a (by omega), c3 70 (by decide), hx.2.1.2.2.2 i a b, hp i a b]
  have oy : ν.1 67 y = 0 ∧ ν.1 68 y = 0 ∧ ν.1 69 y = 0 := by
    rw [c5 67 (by decide), c5 68 (by decide), c5 69 (by decide)]
    exact ⟨hy.2.1.1, hy.2.1.2.1, hy.2.1.2.2.1⟩
  have pj : ∀ j : Int, 0 ≤ j → j < n → (lo ≤ m1.1 99 j ∧ m1.1 99 j < zTop m1) ∧ ν.1 67 (m1.1 99 j) = 1 ∧ ν.1 68 (m1.1 99 j) = zXf μ c + j ∧ ν.1 69 (m1.1 99 j) = 0 := fun j a b => by
    obtain ⟨a1, a2, a3⟩ := hj j a b
    have o2 := hx.2.2.2 _ (by omega) a1.2
    have o4 := hy.2.2.2 (m1.1 99 j) (by omega) (by omega)
    have cn := ((f6 _ a1.1 a1.2).2.2.1 a2).2
    rw [c5 67 (by decide), c5 68 (by decide), c5 69 (by decide), o4.1, o4.2.1, o4.2.2.1, c3 67 (by decide), c3 68 (by decide), c3 69 (by decide), o2.1, o2.2.1, o2.2.2.1]
    exact ⟨a1, a2, a3, cn⟩
  have row : ∀ q : Int, ν.1 80 q = if q = k2 then y else if q = k1 then x else m1.1 80 q := fun q => by
    rw [e5]
    by_cases q1 : q = k2
    · rw [if_pos q1, q1, zu_at]
    · rw [if_neg q1, zu_nk q1, h4, e3]
      by_cases q2 : q = k1
      · rw [if_pos q2, q2, zu_at]
      · rw [if_neg q2, zu_nk q2, h2]
  have ac : zXa ν c c = x := by unfold zXa; rw [row, if_neg (by omega), if_pos (by omega)]
  have a0 : zXa ν c 0 = y := by unfold zXa; rw [row, if_pos (by omega)]
  have ad : ∀ d : Int, 0 ≤ d → d ≤ 20 → d ≠ c → d ≠ 0 → zXa ν c d = -1 := fun d q1 q2 q3 q4 => by unfold zXa; rw [row, if_neg (by omega), if_neg (by omega)]; exact g2 d q1 q2
  have szx : ν.1 71 x ≤ 300 := by
    have nx := (N5.2.1 x (by omega) (by omega)).2.2.2.2
    rw [ox.2.2.1] at nx
    have h5 := zsm_le1 (f := fun i => ν.1 71 (ν.1 70 (4 * x + i))) (n := n.toNat) (fun i a b => by
      show ν.1 71 (ν.1 70 (4 * x + i)) ≤ 1
      rw [ox.2.2.2 i a (by omega)]
      have q := pj i a (by omega)
      rw [zsz_leaf (N5.2.1 _ (by omega) (by omega)) q.2.2.2]
      exact Int.le_refl _)
    have h6 := zcap_le (zsm (fun i => ν.1 71 (ν.1 70 (4 * x + i))) n.toNat)
    omega
  have szy : ν.1 71 y ≤ 300 := by rw [zsz_leaf (N5.2.1 y (by omega) (by omega)) oy.2.2]; omega
  have ex : zAe ν lo c c x := by
    refine ⟨⟨xr.1, by omega⟩, ox.1, ox.2.1, Int.le_refl _, by rw [ox.2.2.1, n77]; exact hn, fun i a b => ?_, ⟨fun z => z = x ∨ ∃ j : Int, 0 ≤ j ∧ j < n ∧ z = m1.1 99 j, Or.inl rfl, fun z hz => ?_⟩⟩
    · rw [ox.2.2.1] at b
      rw [ox.2.2.2 i a b, (pj i a b).2.1]
      omega
    · rcases hz with e | ⟨j, j0, j1, e⟩
      · subst e
        exact ⟨fun q => by rw [ox.1] at q; omega, fun i a b => Or.inr ⟨i, a, by rw [ox.2.2.1] at b; exact b, ox.2.2.2 i a (by rw [ox.2.2.1] at b; exact b)⟩⟩
      · subst e
        have q := pj j j0 j1
        exact ⟨fun _ => by rw [q.2.2.1, n76, n77]; omega, fun i a b => by rw [q.2.2.2] at b; omega⟩
  have ey : zAe ν lo c 0 y := by
    refine ⟨⟨yr.1, by omega⟩, oy.1, oy.2.1, by omega, by rw [oy.2.2, n77]; exact z77.symm, fun i a b => by rw [oy.2.2] at b; omega, ⟨fun z => z = y, rfl, fun z hz => ?_⟩⟩
    subst hz
    exact ⟨fun q => by rw [oy.1] at q; omega, fun i a b => by rw [oy.2.2] at b; omega⟩
  have hE : zEq μ ν c P := ⟨fun q hq => by rw [hcell 76 (by omega) (by omega) (by omega), hcell 77 (by omega) (by omega) (by omega), hcell 79 (by omega) (by omega) (by omega)]; exact ⟨rfl, rfl, rfl⟩, fun q hq => by rw [hcell 78 (by omega) (by omega) (by omega)], fun q hq => by rw [row, if_neg (by omega), if_neg (by omega)]; exact g1 q hq, fun q _ hq => by rw [hcell 83 (by omega) (by omega) (by omega)], fun q _ hq => by rw [hcell 84 (by omega) (by omega) (by omega)]⟩
  have tle : zTop μ ≤ zTop ν := by omega
  have T5 := zTP_old (P' := P) l0 ndμ O5 tle hE ⟨hc.1, by omega⟩ (Int.le_refl _) (fun p a b => by omega) hTP
  have C5 : zCl ν lo c P := by
    unfold zCl
    rw [n76, n77, hcell 79 (by omega) (by omega) (by omega)]
    refine ⟨hCl.1, fun i a b => ?_⟩
    have es : zXs ν c i = zXs μ c i := by unfold zXs; rw [hcell 78 (by omega) (by omega) (by omega)]
    rw [es]
    obtain ⟨q1, q2, q3, q4⟩ := hCl.2 i a b
    have hx0 : 0 ≤ zXs μ c i := by have := q1.1.1; omega
    exact ⟨zTx_old q1 l0 O5 tle, by rw [(O5 _ hx0 q1.1.2).2.1]; exact q2, zA2_old q3 ndμ ⟨hx0, q1.1.2⟩ O5, zPar_old q4 O5 ndμ hx0 q1.1.2⟩
  have ws : zWs ν c.toNat = zWs μ c.toNat := zWs_old l0 O5 (fun q => by rw [hcell 78 (by omega) (by omega) (by omega)]) (fun q => by rw [hcell 79 (by omega) (by omega) (by omega)]) (fun f a b => (hTP.1 f a (by omega)).1)
  refine ⟨⟨⟨⟨N5, zUq_c U4 (fun j a b => c5 j (by omega)) tp5, W5⟩, hc, T5, C5, ⟨by rw [ac]; omega, fun i a b => ?_, by rw [a0]; omega⟩, fun d a b => ?_, fun d a b q => ?_⟩, O5, ⟨tle, by omega⟩, hcell, ?_⟩, ws⟩
  · rw [n77] at b
    rw [ac, ox.2.2.2 i a (by omega), n76]
    have q := pj i a (by omega)
    exact ⟨q.2.1, q.2.2.1⟩
  · by_cases q1 : d = c
    · rw [q1, ac]; exact Or.inr ⟨ex, szx⟩
    · by_cases q2 : d = 0
      · rw [q2, a0]; exact Or.inr ⟨ey, szy⟩
      · exact Or.inl (ad d a b q1 q2)
  · by_cases q1 : d = c
    · exact Or.inl q1
    · by_cases q2 : d = 0
      · exact Or.inr q2
      · have := ad d a b q1 q2
        omega
  · rw [ws, hcell 79 (by omega) (by omega) (by omega)]
    omega
