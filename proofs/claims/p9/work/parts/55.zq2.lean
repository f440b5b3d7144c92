/-! ### small ones about questions -/
theorem zTs_fr {m m' : zM} {tt x : Int} (h : zTs m tt x) (h71 : m'.1 71 = m.1 71) : zTs m' tt x := by unfold zTs; rw [h71]; exact h
theorem zCt_fr {m m' : zM} {w : Int} (h : zCt m w) (hc : ∀ j : Nat, 67 ≤ j → j ≤ 70 → m'.1 j = m.1 j) (f8 : m'.1 66 ((8 : Nat) : Int) = m.1 66 ((8 : Nat) : Int)) : zCt m' w := by
  have ht : zTop m' = zTop m := f8
  unfold zCt
  rw [ht, hc 67 (by omega) (by omega), hc 69 (by omega) (by omega), hc 70 (by omega) (by omega)]
  exact h
theorem zTb_ab {m : zM} {C Pn tt c d x : Int} (h : zTb m C Pn tt) (c0 : 0 ≤ c) (c1 : c < C) (d0 : 0 ≤ d) (d1 : d ≤ 20) (hx : x = m.1 80 (21 * c + d)) (x0 : 0 ≤ x) : zTs m tt x ∧ m.1 67 x = 0 ∧ m.1 68 x = d ∧ ∀ i : Int, 0 ≤ i → i < m.1 69 x → m.1 67 (m.1 70 (4 * x + i)) ≤ 2 := by
  subst hx
  rcases h.2.2.2.2.1 c d c0 c1 d0 d1 with q | q
  · omega
  · exact q
theorem zQI_top {m : zM} {C Pn tt : Int} (h : zQI m C Pn tt) (hb : zTop m ≤ tt + 300 + 2 * m.1 66 ((45 : Nat) : Int) + m.1 66 ((48 : Nat) : Int)) (hF : m.1 66 ((45 : Nat) : Int) ≤ 300) (hp : m.1 66 ((48 : Nat) : Int) ≤ 6000) : zTop m ≤ 13000 := by
  have := h.2.1.1
  omega
