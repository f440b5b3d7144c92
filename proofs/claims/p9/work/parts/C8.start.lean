theorem ml_len : ml_w1.1.length = 109 := by decide +kernel
theorem ml_sz : ml_w1.2 = 357940 := by decide +kernel
set_option maxRecDepth 1000000 in
theorem ml_pes : zpes ml_w1 0 zcl ml_w1.1 = true := by decide +kernel
theorem ml_rep : zRep (zpc ml_w1) ml_w1 := zpc_rep ml_len ml_pes
theorem ml_row {t n : Nat} {a : mI} {k : Int} (ht : t < 2000000) (h : ml_w1.1[t]? = some (.inr ((0, n), .inl a))) : (zpc ml_w1).1 t k = (mx_g a k.toNat).toInt := by
  rw [zpc_v ht, h]
  rfl
theorem ml_z0 (k : Nat) : (mx_g ((0, []) : mI) k).toInt = 0 := rfl
theorem ml_73 (h : Int) (h0 : 0 ≤ h) : (zpc ml_w1).1 73 h = if h = 0 then 0 else -1 := by
  rw [ml_row (by decide) (show ml_w1.1[73]? = some (.inr ((0, 2048), .inl ((-1), [(0, 0)]))) from rfl)]
  by_cases e : h = 0
  · rw [if_pos e, e]; rfl
  · rw [if_neg e]
    have : h.toNat ≠ 0 := by omega
    unfold mx_g
    have e2 : (h.toNat == 0) = false := by simp; omega
    simp [List.lookup, e2]
theorem ml_v (t : Nat) (k : Nat) (v : Int) (h : (decide ((zpc ml_w1).1 t (k : Int) = v)) = true) : (zpc ml_w1).1 t (k : Int) = v := of_decide_eq_true h
theorem ml_A0 : zA0 (zpc ml_w1) := by
  have t8 : zTop (zpc ml_w1) = 1 := ml_v 66 8 1 (by decide +kernel)
  have k67 : (zpc ml_w1).1 67 0 = 0 := ml_v 67 0 0 (by decide +kernel)
  have k68 : (zpc ml_w1).1 68 0 = 0 := ml_v 68 0 0 (by decide +kernel)
  have k69 : (zpc ml_w1).1 69 0 = 0 := ml_v 69 0 0 (by decide +kernel)
  have k71 : (zpc ml_w1).1 71 0 = 1 := ml_v 71 0 1 (by decide +kernel)
  have k72 : (zpc ml_w1).1 72 0 = -1 := ml_v 72 0 (-1) (by decide +kernel)
  have sx : zsx (zpc ml_w1) 0 = 0 := by
    unfold zsx
    rw [k67, k68, k69]
    rfl
  refine ⟨⟨⟨by omega, by omega⟩, fun x a b => ?_, fun h a b => ?_, fun x a b => ?_, fun x a b => ?_⟩, t8, ⟨k67, k68, k69⟩, ⟨ml_v 76 0 0 (by decide +kernel), ml_v 77 0 0 (by decide +kernel), ml_v 79 0 0 (by decide +kernel), ml_v 80 0 0 (by decide +kernel)⟩, fun d a b => ?_, ml_v 66 20 1 (by decide +kernel), ml_v 66 21 0 (by decide +kernel)⟩
  · rw [show x = 0 by omega]
    refine ⟨by omega, fun i i0 i1 => by omega, fun _ => by omega, fun _ => by omega, ?_⟩
    rw [k69, k71]
    rfl
  · rw [ml_73 h a]
    by_cases e : h = 0
    · rw [if_pos e]
      exact ⟨by omega, fun _ => ⟨by omega, by rw [sx]; omega⟩⟩
    · rw [if_neg e]
      exact ⟨by omega, fun q => by omega⟩
  · rw [show x = 0 by omega, sx, ml_73 0 (by omega), if_pos rfl]
    omega
  · rw [show x = 0 by omega, k72]
    exact ⟨by omega, fun q => by omega, fun y c d => by omega⟩
  · obtain ⟨n, rfl⟩ : ∃ n : Nat, d = n := ⟨d.toNat, by omega⟩
    have hn : 1 ≤ n ∧ n ≤ 20 := by omega
    have key : ∀ n : Fin 21, 1 ≤ n.val → (zpc ml_w1).1 80 ((n.val : Nat) : Int) = -1 := by decide +kernel
    exact key ⟨n, by omega⟩ hn.1
theorem ml_RI : zRI (zpc ml_w1) (1000000 * (((0 : Nat) : Int) + 1)) := by
  have f60 : (zpc ml_w1).1 66 ((60 : Nat) : Int) = 0 := ml_v 66 60 0 (by decide +kernel)
  have f68 : (zpc ml_w1).1 66 ((68 : Nat) : Int) = 0 := ml_v 66 68 0 (by decide +kernel)
  refine zA0_RI ml_A0 (ml_v 66 23 1 (by decide +kernel)) (ml_v 66 45 0 (by decide +kernel)) (ml_v 66 48 0 (by decide +kernel)) (by rw [f60]; omega) (by omega) (fun x a b => ?_) (fun x a b => ?_) (by rw [f68]; omega)
  · rw [f60, ml_row (by decide) (show ml_w1.1[98]? = some (.inr ((0, 20000), .inl (0, []))) from rfl), ml_z0]
    omega
  · rw [f68, ml_row (by decide) (show ml_w1.1[105]? = some (.inr ((0, 20000), .inl (0, []))) from rfl), ml_z0]
    omega
theorem ml_tab : yTab (zpc ml_w1) 14 yB0 := by
  refine ⟨⟨⟨ml_v 14 12 1 (by decide +kernel), ml_v 14 13 0 (by decide +kernel), by decide, by decide⟩, fun k a b => ?_, fun p a b => ?_⟩, fun k d a b c e => ?_⟩
  · have hk : k = 0 := by have : k < 1 := b; omega
    subst hk
    exact ⟨⟨ml_v 3000015 0 4288121 (by decide +kernel), ml_v 16 0 0 (by decide +kernel), ml_v 17 0 0 (by decide +kernel), ml_v 18 0 0 (by decide +kernel)⟩, by decide, by decide⟩
  · exfalso; have : p < 0 := b; omega
  · obtain ⟨k, rfl⟩ : ∃ n : Nat, k = n := ⟨k.toNat, by omega⟩
    obtain ⟨d, rfl⟩ : ∃ n : Nat, d = n := ⟨d.toNat, by omega⟩
    have key : ∀ k d : Fin 21, (zpc ml_w1).1 28 (((k.val * 21 + d.val : Nat)) : Int) = (((yB0.2 2 (k.val : Int) (d.val : Int)).flatten.length : Nat) : Int) := by decide +kernel
    have q := key ⟨k, by omega⟩ ⟨d, by omega⟩
    rw [show ((k : Int) * 21 + (d : Int)) = ((k * 21 + d : Nat) : Int) by push_cast; rfl]
    exact q
theorem ml_tq : rTq (zpc ml_w1) yB0 := by
  refine ⟨⟨ml_v 66 20 1 (by decide +kernel), ml_v 66 21 0 (by decide +kernel)⟩, fun k a b => ?_, fun p a b => absurd b (by show ¬ p < 0; omega)⟩
  rw [yB0_1 a b]
  exact ⟨ml_v 3000075 0 4288121 (by decide +kernel), ml_v 76 0 0 (by decide +kernel), ml_v 77 0 0 (by decide +kernel), ml_v 79 0 0 (by decide +kernel)⟩
theorem ml_aT : aT (zpc ml_w1) 14 yB0 := by
  have c31 : (zpc ml_w1).1 26 ((5 : Nat) : Int) = 31 := ml_v 26 5 31 (by decide +kernel)
  have c31' : (zpc ml_w1).1 (Nat.add 14 12) ((5 : Nat) : Int) = 31 := c31
  have u1 : (zpc ml_w1).1 (Nat.add 14 12) ((6 : Nat) : Int) = 1 := ml_v 26 6 1 (by decide +kernel)
  refine ⟨Or.inl rfl, ml_tab.1, yRS_0, fun k d a b c e => ⟨ml_tab.2 k d a b c e, fun ne => ?_⟩, by rw [u1]; decide, ?_, ?_⟩
  · have k0 : k = 0 ∧ d = 0 := by
      by_cases q : k = 0 ∧ d = 0
      · exact q
      · exfalso; exact ne (by simp [yB0]; omega)
    obtain ⟨rfl, rfl⟩ := k0
    have s0 : (zpc ml_w1).1 (Nat.add 14 13) (0 * 21 + 0) = 0 := ml_v 27 0 0 (by decide +kernel)
    have r0 : (zpc ml_w1).1 31 0 = 0 := ml_v 31 0 0 (by decide +kernel)
    rw [c31', u1, s0]
    refine ⟨by decide, by decide, fun i hi => ?_⟩
    have i0 : i = 0 := by have : i < 1 := hi; omega
    subst i0
    exact r0
  · rw [u1, c31']; exact of_decide_eq_true (show decide ((1 : Int) ≤ (zpc ml_w1).2 31) = true by decide +kernel)
  · unfold yCC; rw [c31']; left; rfl
theorem ml_lB : lB (zpc ml_w1) := by
  refine ⟨yB0, ⟨14, 32, ⟨(ml_v 0 3 14 (by decide +kernel)).symm, (ml_v 0 4 32 (by decide +kernel)).symm, Or.inl ⟨rfl, rfl⟩⟩, ml_aT, ?_⟩, ⟨ml_tq, rPc_0 ml_RI ml_tq, by rw [show (zpc ml_w1).1 66 ((23 : Nat) : Int) = 1 from ml_v 66 23 1 (by decide +kernel)]; exact fun x y a b c d _ => by omega, aW_0 ml_RI ml_tq aB_0.1 aB_0.2.1 aB_0.2.2.2.1⟩, aB_0⟩
  have c31 : (zpc ml_w1).1 (Nat.add 14 12) ((5 : Nat) : Int) = 31 := ml_v 26 5 31 (by decide +kernel)
  have c49 : (zpc ml_w1).1 (Nat.add 32 12) ((5 : Nat) : Int) = 49 := ml_v 44 5 49 (by decide +kernel)
  rw [c31, c49]
  decide
theorem ml_lI : lI 0 (zpc ml_w1) ml_w1 := by
  have f29 : (zpc ml_w1).1 66 ((29 : Nat) : Int) = 0 := ml_v 66 29 0 (by decide +kernel)
  have f4 : (zpc ml_w1).1 1 ((4 : Nat) : Int) = 0 := ml_v 1 4 0 (by decide +kernel)
  refine ⟨ml_rep, ml_RI, by rw [f29, f4], by rw [f4]; omega, ?_, ?_, lT_0 f4, ml_lB⟩
  · have := (zL_le ml_rep).2
    have h := ml_rep.2.1.1
    rw [ml_len] at h
    omega
  · exact of_decide_eq_true (show decide ((zpc ml_w1).1 2000000 1 - zS (zpc ml_w1) ≤ 400000 + 6 * ((0 : Nat) : Int)) = true by decide +kernel)
