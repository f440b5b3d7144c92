/-! ### declarations, one behind the other -/
theorem zar3 {k W : Int} (k0 : 0 ≤ k) (k4 : k ≤ 4) (w0 : 0 ≤ W) (h : W + k ≤ 300) : k * W ≤ 1184 := by
  rcases (show k = 0 ∨ k = 1 ∨ k = 2 ∨ k = 3 ∨ k = 4 by omega) with e | e | e | e | e <;> subst e <;> omega
def zDS (m : zM) (lo n : Int) : Prop := (m.1 66 ((24 : Nat) : Int) = 21 ∧ m.1 66 ((25 : Nat) : Int) = 80 ∧ m.1 66 ((26 : Nat) : Int) = n ∧ 1 ≤ n ∧ n ≤ 21 ∧ 0 ≤ m.1 66 ((27 : Nat) : Int) ∧ m.1 66 ((27 : Nat) : Int) ≤ 4 * (n - 1) ∧ 0 ≤ m.1 66 ((38 : Nat) : Int) ∧ m.1 66 ((38 : Nat) : Int) ≤ 300 ∧ 0 ≤ lo ∧ lo ≤ 12982 ∧ m.1 79 21 = 0) ∧ (zND m lo ∧ zUq m lo ∧ zWf m lo (zTop m) n (m.1 66 ((27 : Nat) : Int)) 0 (zXn m)) ∧ zTP m lo n (m.1 66 ((27 : Nat) : Int)) ∧ zWs m n.toNat ≤ m.1 66 ((38 : Nat) : Int) ∧
  zTop m - lo ≤ 1 + m.1 66 ((38 : Nat) : Int) + m.1 66 ((27 : Nat) : Int) + (n - 1) + (if n ≤ 2 then 0 else 299 * (n - 2)) ∧ (∀ x : Int, 0 ≤ x → x < 20000 → m.1 98 x ≤ m.1 66 ((60 : Nat) : Int)) ∧ 0 ≤ m.1 66 ((60 : Nat) : Int)
/-- class n is being told: its head and its supers are there -/
def zD2 (μ m : zM) (lo n : Int) : Prop := (m.1 66 ((24 : Nat) : Int) = 21 ∧ m.1 66 ((25 : Nat) : Int) = 80 ∧ m.1 66 ((26 : Nat) : Int) = n + 1 ∧ n ≤ 20 ∧ m.1 66 ((27 : Nat) : Int) = μ.1 66 ((27 : Nat) : Int) + zXn m n ∧ 0 ≤ zXf m n ∧ 0 ≤ zXn m n ∧ zXn m n ≤ 4 ∧ μ.1 66 ((38 : Nat) : Int) ≤ m.1 66 ((38 : Nat) : Int) ∧ m.1 66 ((38 : Nat) : Int) ≤ 300 ∧ zXf m n + zXn m n ≤ m.1 66 ((27 : Nat) : Int)) ∧ (zND m lo ∧ zUq m lo ∧ zWf m lo (zTop m) (n + 1) (m.1 66 ((27 : Nat) : Int)) 0 (zXn m)) ∧ zTP m lo n (m.1 66 ((27 : Nat) : Int)) ∧ zCl m lo n (m.1 66 ((27 : Nat) : Int)) ∧
  (zOld μ m (zTop μ) ∧ zTop μ ≤ zTop m ∧ zTop m - zTop μ ≤ m.1 66 ((38 : Nat) : Int) - μ.1 66 ((38 : Nat) : Int)) ∧ (m.1 98 = μ.1 98 ∧ m.1 66 ((60 : Nat) : Int) = μ.1 66 ((60 : Nat) : Int)) ∧ (zWs m n.toNat = zWs μ n.toNat ∧ zW1s m n ≤ m.1 66 ((38 : Nat) : Int) - μ.1 66 ((38 : Nat) : Int)) ∧ m.1 79 21 = μ.1 79 21
theorem zWf_up {μ m : zM} {lo hi n P P' : Int} (h : zWf μ lo hi n P 0 (zXn μ)) (hc : ∀ j : Nat, 67 ≤ j → j ≤ 70 → m.1 j = μ.1 j) (h77 : ∀ q : Int, q < 21 + n → m.1 77 q = μ.1 77 q) (hP : P ≤ P') : zWf m lo hi (n + 1) P' 0 (zXn m) := by
  intro x a b
  obtain ⟨w1, w2, w3, w4, w5, w6⟩ := h x a b
  unfold zW1
  rw [hc 67 (by omega) (by omega), hc 68 (by omega) (by omega), hc 69 (by omega) (by omega), hc 70 (by omega) (by omega)]
  refine ⟨w1, fun e => ⟨by have := (w2 e).1; omega, ?_⟩, fun e => ⟨by have := (w3 e).1; omega, (w3 e).2⟩, w4, w5, w6⟩
  rw [(w2 e).2]
  unfold zXn
  rw [h77 _ (by have := (w2 e).1; omega)]
theorem zD2_head {μ m : zM} {lo n : Int} (h : zDS μ lo n) (hH : zHd μ m n) (hn : n ≤ 20) (hc : ∀ j : Nat, 67 ≤ j → j ≤ 73 → m.1 j = μ.1 j) (h78 : m.1 78 = μ.1 78) (h80 : m.1 80 = μ.1 80) (h83 : m.1 83 = μ.1 83) (h98 : m.1 98 = μ.1 98) (f : ∀ k : Nat, k = 8 ∨ k = 24 ∨ k = 25 ∨ k = 38 ∨ k = 60 → m.1 66 ((k : Nat) : Int) = μ.1 66 ((k : Nat) : Int)) : zD2 μ m lo n ∧ m.1 79 (21 + n) = 0 := by
  obtain ⟨⟨a1, a2, a3, a4, a5, a6, a7, a8, a9, a10, a11, a12⟩, ⟨b1, b2, b3⟩, c, d, e, g⟩ := h
  obtain ⟨⟨i1, i2, i3, i4, i5, i6⟩, k1, k2, k3⟩ := hH
  have tp : zTop m = zTop μ := f 8 (by decide)
  have ho : zOld μ m (zTop μ) := zOld_same (fun j p q => hc j p (by omega))
  have hE : zEq μ m n (μ.1 66 ((27 : Nat) : Int)) := ⟨fun q hq => k1 q hq, fun q _ => by rw [h78], fun q _ => by rw [h80], fun q _ _ => by rw [h83], fun q _ hq => k2 q hq⟩
  have T := zTP_old (P' := m.1 66 ((27 : Nat) : Int)) a10 b1.2.1 ho (by omega) hE ⟨a4, by omega⟩ (by omega) k3 c
  have n1 : zXn m n = m.1 77 (21 + n) := rfl
  have n2 : zXf m n = m.1 76 (21 + n) := rfl
  have C : zCl m lo n (m.1 66 ((27 : Nat) : Int)) := ⟨by omega, fun i p q => by rw [i2] at q; omega⟩
  have ws : zWs m n.toNat = zWs μ n.toNat := by
    have key : ∀ k : Nat, (k : Int) ≤ n → zWs m k = zWs μ k := fun k => by
      induction k with
      | zero => exact fun _ => rfl
      | succ k ih =>
        intro hk
        show zWs m k + zW1s m ((k : Nat) : Int) = zWs μ k + zW1s μ ((k : Nat) : Int)
        rw [ih (by omega)]
        congr 1
        unfold zW1s zXs
        rw [(k1 (21 + ((k : Nat) : Int)) (by omega)).2.2, h78, hc 71 (by omega) (by omega)]
    exact key _ (by omega)
  refine ⟨⟨⟨by rw [f 24 (by decide)]; exact a1, by rw [f 25 (by decide)]; exact a2, i6, hn, by omega, by omega, by omega, by omega, by rw [f 38 (by decide)]; exact Int.le_refl _, by rw [f 38 (by decide)]; exact a9, by omega⟩, ⟨zND_t.2 (by rw [tp]; exact zNDt_same hc (zND_t.1 b1)), zUq_c b2 (fun j p q => hc j p (by omega)) tp, by rw [tp]; exact zWf_up b3 (fun j p q => hc j p (by omega)) (fun q hq => (k1 q hq).2.1) (by omega)⟩, T, C, ⟨ho, by omega, by rw [f 38 (by decide)]; omega⟩, ⟨h98, f 60 (by decide)⟩, ⟨ws, ?_⟩, (k1 21 (by omega)).2.2⟩, i2⟩
  rw [f 38 (by decide)]
  unfold zW1s
  rw [i2]
  show (1 : Int) - 1 ≤ _
  omega
/-- types have been read, rows 78, 79, 83, 84 written -/
theorem zD2_te {μ m m' : zM} {lo n : Int} (h0 : 0 ≤ lo) (n0 : 1 ≤ n) (h : zD2 μ m lo n) (hE : zTE m m' lo (n + 1) (m.1 66 ((27 : Nat) : Int)) 0 (zXn m)) (hB : zBd m' lo (m.1 66 ((27 : Nat) : Int))) (hC : zCl m' lo n (m.1 66 ((27 : Nat) : Int)) ∧ zW1s m' n ≤ m'.1 66 ((38 : Nat) : Int) - μ.1 66 ((38 : Nat) : Int)) (h76 : m'.1 76 = m.1 76) (h77 : m'.1 77 = m.1 77) (h80 : m'.1 80 = m.1 80) (h78 : ∀ q : Int, q < 4 * (21 + n) → m'.1 78 q = m.1 78 q) (h79 : ∀ q : Int, q ≠ 21 + n → m'.1 79 q = m.1 79 q) (h98 : m'.1 98 = m.1 98) (f : ∀ k : Nat, k = 24 ∨ k = 25 ∨ k = 26 ∨ k = 27 ∨ k = 60 → m'.1 66 ((k : Nat) : Int) = m.1 66 ((k : Nat) : Int)) (h38 : m'.1 66 ((38 : Nat) : Int) ≤ 300) : zD2 μ m' lo n := by
  obtain ⟨⟨a1, a2, a3, a4, a5, a6, a7, a8, a9, a10, a11⟩, ⟨b1, b2, b3⟩, c, d, ⟨e1, e2, e3⟩, ⟨g1, g2⟩, ⟨w1, w2⟩, v79⟩ := h
  obtain ⟨⟨t1, t2, t3, t4, t5⟩, t6, t7⟩ := hE
  have n77 : zXn m' = zXn m := by funext q; unfold zXn; rw [h77]
  have n76 : zXf m' n = zXf m n := by unfold zXf; rw [h76]
  have hQ : zEq m m' n (-1000) := ⟨fun q hq => by rw [h76, h77]; exact ⟨rfl, rfl, h79 q (by omega)⟩, h78, fun q _ => by rw [h80], fun q q0 q1 => by omega, fun q q0 q1 => by omega⟩
  have T : zTP m' lo n (m.1 66 ((27 : Nat) : Int)) := ⟨fun q q0 q1 => ⟨zCl_old h0 b1.2.1 t3 t4 hQ (Int.le_refl _) ⟨q0, q1⟩ (c.1 q q0 q1).1, zAr_old h0 b1.2.1 t3 t4 hQ (by omega) ⟨q0, q1⟩ (fun f f0 f1 => (c.1 f f0 (by omega)).1) (c.1 q q0 q1).2⟩, hB, by rw [h77]; exact c.2.2⟩
  have ws : zWs m' n.toNat = zWs m n.toNat := by
    have key : ∀ k : Nat, (k : Int) ≤ n → zWs m' k = zWs m k := fun k => by
      induction k with
      | zero => exact fun _ => rfl
      | succ k ih =>
        intro hk
        show zWs m' k + zW1s m' ((k : Nat) : Int) = zWs m k + zW1s m ((k : Nat) : Int)
        rw [ih (by omega)]
        congr 1
        have C := (c.1 ((k : Nat) : Int) (by omega) (by omega)).1
        unfold zW1s
        rw [h79 _ (by omega)]
        congr 1
        refine zsm_eq (fun i p q => ?_)
        have gg := (C.2 i p (by omega)).1.1
        have c4 := C.1.2.2.2.2.2
        have es : zXs m' ((k : Nat) : Int) i = zXs m ((k : Nat) : Int) i := h78 _ (by omega)
        show m'.1 71 (zXs m' ((k : Nat) : Int) i) = m.1 71 (zXs m ((k : Nat) : Int) i)
        rw [es, (t3 _ (by omega) gg.2).2.2.2.1]
    exact key _ (by omega)
  unfold zTn at t6 t7
  unfold zD2
  rw [f 24 (by decide), f 25 (by decide), f 26 (by decide), f 27 (by decide), f 60 (by decide), n77, n76, h98, ws]
  exact ⟨⟨a1, a2, a3, a4, a5, a6, a7, a8, by omega, h38, a11⟩, ⟨t1, t5 b2, t2⟩, T, hC.1, ⟨zOld_t e1 t3 e2, by omega, by omega⟩, ⟨g1, g2⟩, ⟨w1, hC.2⟩, by rw [h79 21 (by omega)]; exact v79⟩
/-- nothing of it has changed -/
theorem zD2_fr {μ m m' : zM} {lo n : Int} (h0 : 0 ≤ lo) (n0 : 1 ≤ n) (h : zD2 μ m lo n) (hc : ∀ j : Nat, 67 ≤ j → j ≤ 84 → j ≠ 74 → m'.1 j = m.1 j) (h98 : m'.1 98 = m.1 98) (f : ∀ k : Nat, k = 8 ∨ k = 24 ∨ k = 25 ∨ k = 26 ∨ k = 27 ∨ k = 38 ∨ k = 60 → m'.1 66 ((k : Nat) : Int) = m.1 66 ((k : Nat) : Int)) : zD2 μ m' lo n := by
  have tp : zTop m' = zTop m := f 8 (by decide)
  have D := h
  obtain ⟨⟨a1, a2, a3, a4, a5, a6, a7, a8, a9, a10, a11⟩, ⟨b1, b2, b3⟩, c, d, ⟨e1, e2, e3⟩, ⟨g1, g2⟩, ⟨w1, w2⟩, v79⟩ := h
  have ho : zOld m m' (zTop m) := zOld_same (fun j p q => hc j p (by omega) (by omega))
  have hE : zTE m m' lo (n + 1) (m.1 66 ((27 : Nat) : Int)) 0 (zXn m) := zTE_fr (zTE_r b1 b3) (fun j p q => hc j p (by omega) (by omega)) (f 8 (by decide)) (f 38 (by decide))
  have cc : zCl m' lo n (m.1 66 ((27 : Nat) : Int)) ∧ zW1s m' n = zW1s m n := by
    have s := zSp_fr (μ := m) (m := m) (m' := m') (lo := lo) (c := n) (P := m.1 66 ((27 : Nat) : Int))
    have hCl : zCl m' lo n (m.1 66 ((27 : Nat) : Int)) := by
      unfold zCl zXf zXn zXs zTx zA2
      rw [tp, hc 67 (by omega) (by omega) (by omega), hc 68 (by omega) (by omega) (by omega), hc 69 (by omega) (by omega) (by omega), hc 70 (by omega) (by omega) (by omega), hc 71 (by omega) (by omega) (by omega), hc 76 (by omega) (by omega) (by omega), hc 77 (by omega) (by omega) (by omega), hc 78 (by omega) (by omega) (by omega), hc 79 (by omega) (by omega) (by omega)]
      exact ⟨d.1, fun i p q => ⟨(d.2 i p q).1, (d.2 i p q).2.1, (d.2 i p q).2.2.1, zPar_same (d.2 i p q).2.2.2 (hc 67 (by omega) (by omega) (by omega)) (hc 68 (by omega) (by omega) (by omega)) (hc 69 (by omega) (by omega) (by omega)) (hc 70 (by omega) (by omega) (by omega))⟩⟩
    exact ⟨hCl, zW1s_old d h0 ho (hc 78 (by omega) (by omega) (by omega)) (hc 79 (by omega) (by omega) (by omega))⟩
  refine zD2_te h0 n0 D hE ?_ ⟨cc.1, by rw [cc.2, f 38 (by decide)]; exact w2⟩ (hc 76 (by omega) (by omega) (by omega)) (hc 77 (by omega) (by omega) (by omega)) (hc 80 (by omega) (by omega) (by omega)) (fun q _ => by rw [hc 78 (by omega) (by omega) (by omega)]) (fun q _ => by rw [hc 79 (by omega) (by omega) (by omega)]) h98 (fun k hk => f k (by omega)) (by rw [f 38 (by decide)]; exact a10)
  exact zBd_old (m := m') c.2.1 h0 ho (by omega) (hc 83 (by omega) (by omega) (by omega)) (hc 84 (by omega) (by omega) (by omega))
/-- what findAbove asks -/
theorem zD2_pre {μ m : zM} {lo n : Int} (hD : zDS μ lo n) (h : zD2 μ m lo n) : zTop m + zXn m n + 1 + m.1 79 (21 + n) * zWs m n.toNat ≤ 19999 ∧ m.1 66 ((27 : Nat) : Int) ≤ 80 ∧ m.1 66 ((8 : Nat) : Int) - m.1 66 ((38 : Nat) : Int) ≤ 19699 := by
  obtain ⟨⟨p1, p2, p3, p4, p5, p6, p7, p8, p9, p10, p11, p12⟩, -, q1, q2, q3, -⟩ := hD
  obtain ⟨⟨a1, a2, a3, a4, a5, a6, a7, a8, a9, a10, a11⟩, ⟨b1, b2, b3⟩, c, d, ⟨e1, e2, e3⟩, ⟨g1, g2⟩, ⟨w1, w2⟩, v79⟩ := h
  have k1 := zW1_ge d p10 b1.2.1
  have k2 := d.1.2.2.2.2
  have w0 := zWs_nn p10 b1.2.1 (n := n.toNat) (P := m.1 66 ((27 : Nat) : Int)) (fun f a b => (c.1 f a (by omega)).1)
  have k3 := zar3 k2.1 k2.2 w0 (by omega)
  have tt : zTop m = m.1 66 ((8 : Nat) : Int) := rfl
  split at q3
  · exact ⟨by omega, by omega, by omega⟩
  · exact ⟨by omega, by omega, by omega⟩
theorem zD2_post {μ m m' : zM} {lo n : Int} (hD : zDS μ lo n) (h : zD2 μ m lo n) (h1 : zND m' lo ∧ zOld m m' (zTop m) ∧ zTop m ≤ zTop m') (h2 : (zUq m' lo ∧ zWf m' lo (zTop m') (n + 1) (m.1 66 ((27 : Nat) : Int)) 0 (zXn m') ∧ zTP m' lo (n + 1) (m.1 66 ((27 : Nat) : Int))) ∧ zTop m' ≤ zTop m + zXn m n + 1 + (if m.1 79 (21 + n) = 0 then 0 else zWs m n.toNat)) (h60 : m.1 66 ((60 : Nat) : Int) ≤ m'.1 66 ((60 : Nat) : Int)) (h98 : ∀ x : Int, 0 ≤ x → x < 20000 → m'.1 98 x ≤ m'.1 66 ((60 : Nat) : Int)) (hc : ∀ j : Nat, 76 ≤ j → j ≤ 79 → m'.1 j = m.1 j) (f : ∀ k : Nat, k = 24 ∨ k = 25 ∨ k = 26 ∨ k = 27 ∨ k = 38 → m'.1 66 ((k : Nat) : Int) = m.1 66 ((k : Nat) : Int)) : zDS m' lo (n + 1) := by
  have PRE := zD2_pre hD h
  obtain ⟨⟨p1, p2, p3, p4, p5, p6, p7, p8, p9, p10, p11, p12⟩, -, q1, q2, q3, q4, q5⟩ := hD
  obtain ⟨⟨a1, a2, a3, a4, a5, a6, a7, a8, a9, a10, a11⟩, ⟨b1, b2, b3⟩, c, d, ⟨e1, e2, e3⟩, ⟨g1, g2⟩, ⟨w1, w2⟩, v79⟩ := h
  have k1 := zW1_ge d p10 b1.2.1
  have k2 := d.1.2.2.2.2
  have wsn : zWs m' n.toNat = zWs m n.toNat := zWs_old p10 h1.2.1 (fun q => by rw [hc 78 (by omega) (by omega)]) (fun q => by rw [hc 79 (by omega) (by omega)]) (fun f a b => (c.1 f a (by omega)).1)
  have w1n : zW1s m' n = zW1s m n := zW1s_old d p10 h1.2.1 (hc 78 (by omega) (by omega)) (hc 79 (by omega) (by omega))
  have wss : zWs m' (n + 1).toNat = zWs m' n.toNat + zW1s m' n := by
    rw [show (n + 1).toNat = n.toNat + 1 by omega]
    show zWs m' n.toNat + zW1s m' ((n.toNat : Nat) : Int) = _
    rw [Int.toNat_of_nonneg (by omega)]
  have w10 : n = 1 → zWs m n.toNat = 0 := fun e => by
    rw [w1, e]
    show (0 : Int) + zW1s μ ((0 : Nat) : Int) = 0
    unfold zW1s
    rw [show (21 + ((0 : Nat) : Int)) = 21 from rfl, p12]
    show (0 : Int) + (1 - 1) = 0
    omega
  unfold zDS
  rw [f 24 (by decide), f 25 (by decide), f 26 (by decide), f 27 (by decide), f 38 (by decide), wss, wsn, w1n, hc 79 (by omega) (by omega), v79]
  refine ⟨⟨a1, a2, a3, by omega, by omega, by omega, by omega, by omega, a10, p10, p11, p12⟩, ⟨h1.1, h2.1.1, h2.1.2.1⟩, h2.1.2.2, by omega, ?_, h98, by omega⟩
  have t2 := h2.2
  split at q3 <;> split at t2 <;> split
  all_goals omega
def zNo (μ m : zM) (lo : Int) : Prop := zND m lo ∧ zOld μ m (zTop μ) ∧ zTop μ ≤ zTop m
theorem zNo_r {μ : zM} {lo : Int} (h : zND μ lo) : zNo μ μ lo := ⟨h, zOld_r _ _, Int.le_refl _⟩
theorem zNo_fr {μ m m' : zM} {lo : Int} (h : zNo μ m lo) (hc : ∀ j : Nat, 67 ≤ j → j ≤ 73 → m'.1 j = m.1 j) (f8 : m'.1 66 ((8 : Nat) : Int) = m.1 66 ((8 : Nat) : Int)) : zNo μ m' lo := by
  have tp : zTop m' = zTop m := f8
  exact ⟨zND_t.2 (by rw [tp]; exact zNDt_same hc (zND_t.1 h.1)), zOld_t h.2.1 (zOld_same (fun j p q => hc j p (by omega))) (Int.le_refl _), by have := h.2.2; omega⟩
theorem zNo_te {μ m m' : zM} {lo C Pn F : Int} {cf : Int → Int} (h : zNo μ m lo) (hE : zTE m m' lo C Pn F cf) : zNo μ m' lo := ⟨hE.1.1, zOld_t h.2.1 hE.1.2.2.1 h.2.2, by have := h.2.2; have := hE.1.2.2.2.1; omega⟩
theorem zNo_t {μ m m' : zM} {lo : Int} (h : zNo μ m lo) (h1 : zND m' lo ∧ zOld m m' (zTop m) ∧ zTop m ≤ zTop m') : zNo μ m' lo := ⟨h1.1, zOld_t h.2.1 h1.2.1 h.2.2, by have := h.2.2; have := h1.2.2; omega⟩
theorem zrm_q {m m' : zM} (f : ∀ k : Nat, k = 30 ∨ k = 31 ∨ k = 32 → m'.1 66 ((k : Nat) : Int) = m.1 66 ((k : Nat) : Int)) : zrm m' ≤ zrm m := by
  unfold zrm
  rw [f 30 (by decide), f 31 (by decide), f 32 (by decide)]
  exact Int.le_refl _
theorem zrm_p {m m' : zM} (h0 : m.1 66 ((32 : Nat) : Int) ≠ 256) (h1 : m'.1 66 ((30 : Nat) : Int) = m.1 66 ((30 : Nat) : Int)) (h2 : m'.1 66 ((32 : Nat) : Int) = 256 ∨ m.1 66 ((31 : Nat) : Int) < m'.1 66 ((31 : Nat) : Int)) (h3 : m.1 66 ((31 : Nat) : Int) ≤ m'.1 66 ((31 : Nat) : Int)) : zrm m' < zrm m := by
  unfold zrm
  rw [h1, if_neg h0]
  split
  · omega
  · rcases h2 with c | c
    · contradiction
    · omega
theorem zDS_fr {m m' : zM} {lo n : Int} (h : zDS m lo n) (hc : ∀ j : Nat, 67 ≤ j → j ≤ 84 → m'.1 j = m.1 j) (h98 : m'.1 98 = m.1 98) (f : ∀ k : Nat, k = 8 ∨ k = 24 ∨ k = 25 ∨ k = 26 ∨ k = 27 ∨ k = 38 ∨ k = 60 → m'.1 66 ((k : Nat) : Int) = m.1 66 ((k : Nat) : Int)) : zDS m' lo n := by
  have tp : zTop m' = zTop m := f 8 (by decide)
  have n77 : zXn m' = zXn m := by funext q; unfold zXn; rw [hc 77 (by omega) (by omega)]
  obtain ⟨a, ⟨b1, b2, b3⟩, c, d, e, g1, g2⟩ := h
  have ho : zOld m m' (zTop m) := zOld_same (fun j p q => hc j p (by omega))
  have T := zTP_old (P' := m.1 66 ((27 : Nat) : Int)) a.2.2.2.2.2.2.2.2.2.1 b1.2.1 ho (by omega) (zEq_all (fun j p q => hc j (by omega) q)) ⟨a.2.2.2.1, a.2.2.2.2.1⟩ (Int.le_refl _) (fun p q r => by omega) c
  have ws : ∀ k : Nat, zWs m' k = zWs m k := fun k => by
    induction k with
    | zero => rfl
    | succ k ih =>
      show zWs m' k + zW1s m' ((k : Nat) : Int) = zWs m k + zW1s m ((k : Nat) : Int)
      rw [ih]
      congr 1
      unfold zW1s zXs
      rw [hc 71 (by omega) (by omega), hc 78 (by omega) (by omega), hc 79 (by omega) (by omega)]
  unfold zDS
  rw [f 24 (by decide), f 25 (by decide), f 26 (by decide), f 27 (by decide), f 38 (by decide), f 60 (by decide), hc 79 (by omega) (by omega), h98, tp, n77, ws]
  exact ⟨a, ⟨zND_t.2 (by rw [tp]; exact zNDt_same (fun j p q => hc j p (by omega)) (zND_t.1 b1)), zUq_c b2 (fun j p q => hc j p (by omega)) tp, zWf_same b3 (fun j p q => hc j p (by omega)) rfl⟩, T, d, e, g1, g2⟩
