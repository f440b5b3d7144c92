/-! ### a call of the class whose answer is known -/
theorem zl_ivkV {g : zΓ} {d : Nat} {MW M : mM} {sc : Option Nat} {pc ix a n : Nat} {z : Int} {lv : List (Nat × Value)} {rest As : List Value} {w w' : mW} {v : Option Value} (hg : zg g) (hW : mx_wok (fun a => mt_tab[a]?.map (fun M => M.1)) MW) (hmet : zMet g d a (.ref 0 :: As) w v w') (hmono : w.1.length ≤ w'.1.length ∧ w.2 ≤ w'.2)
    (hl : MW.2.2.2.2.1.lookup pc = some (.invokevirtual ix)) (hlk : MW.2.2.2.2.2.1.lookup ix = some (2, a, n, z)) (hM : mt_tab[a]? = some M) (hmd : M.2.2.1.2.2.2.2 = 0) (hn : M.2.2.1.2.2.1 = n) (hci : M.2.2.1.2.2.2.1 = 8) (hAs : As.length = n) (hrest : Nat.ble ((rest.map fun v => v.category).sum) 8 = true) (h0 : ∃ fs, w.1[0]? = some (.inl (8, fs))) :
    zG g d MW sc (pc, lv, As.reverse ++ .ref 0 :: rest, w) (pc + 3, lv, v.toList ++ rest, w') := by
  obtain ⟨call, c1, c2⟩ := zpt_ex hmet
  obtain ⟨fs, h0⟩ := h0
  refine zl_step (call := call) hg hW c2 ?_
  have e1 : mx_pure (.invokevirtual ix) (As.reverse ++ .ref 0 :: rest) = none := rfl
  have e2 : mx_loc MW.2.2.1.1 (.invokevirtual ix) lv (As.reverse ++ .ref 0 :: rest) = none := rfl
  have e3 : mx_br g.1 pc (.invokevirtual ix) (As.reverse ++ .ref 0 :: rest) = none := rfl
  have e4 : mx_mem g.1 sc MW.2.2.2.2.2.2 MW.2.2.2.2.2.1 (.invokevirtual ix) (As.reverse ++ .ref 0 :: rest) w = none := rfl
  have t1 : (As.reverse ++ .ref 0 :: rest).drop n = .ref 0 :: rest := by rw [← hAs, ← List.length_reverse]; exact List.drop_left
  have t2 : (As.reverse ++ .ref 0 :: rest).take n = As.reverse := by rw [← hAs, ← List.length_reverse]; exact List.take_left
  have t3 : Nat.ble n (As.reverse ++ Value.ref 0 :: rest).length = true := Nat.ble_eq_true_of_le (by simp; omega)
  have t4 : mx_isO w 0 0 8 = true := by unfold mx_isO; rw [h0]; rfl
  have t5 : (Nat.ble w.1.length w'.1.length && Nat.ble w.2 w'.2) = true := by rw [Nat.ble_eq_true_of_le hmono.1, Nat.ble_eq_true_of_le hmono.2]; rfl
  have e5 : mx_ivk mt_tab call MW.2.2.2.2.2.1 (.invokevirtual ix) (As.reverse ++ .ref 0 :: rest) w = some (v.toList ++ rest, w') := by
    unfold mx_ivk
    dsimp only
    rw [hlk]
    dsimp only
    rw [hM]
    dsimp only
    rw [hmd, hn, hci, t1, t2, t3, List.reverse_reverse]
    dsimp only
    rw [hrest, t4, c1]
    dsimp only
    rw [t5]
    simp
  unfold mx_step; dsimp only; rw [hl]; dsimp only; rw [e1]; dsimp only; rw [e2]; dsimp only; rw [e3]; dsimp only; rw [e4]; dsimp only; rw [e5]
