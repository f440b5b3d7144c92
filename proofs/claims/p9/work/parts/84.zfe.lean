/-! ### what is found above a class: before and behind -/
theorem zWs_old {μ m : zM} {lo P : Int} (h0 : 0 ≤ lo) (ho : zOld μ m (zTop μ)) (hc : ∀ q : Int, m.1 78 q = μ.1 78 q) (h79 : ∀ q : Int, m.1 79 q = μ.1 79 q) : ∀ {n : Nat}, (∀ f : Int, 0 ≤ f → f < (n : Int) → zCl μ lo f P) → zWs m n = zWs μ n
  | 0, _ => rfl
  | n + 1, h => by
    show zWs m n + zW1s m ((n : Nat) : Int) = zWs μ n + zW1s μ ((n : Nat) : Int)
    rw [zWs_old h0 ho hc h79 (n := n) (fun f a b => h f a (by omega))]
    congr 1
    unfold zW1s
    rw [h79]
    congr 1
    refine zsm_eq (fun i a b => ?_)
    have g := ((h ((n : Nat) : Int) (by omega) (by omega)).2 i a (by omega)).1.1
    have e : zXs m ((n : Nat) : Int) i = zXs μ ((n : Nat) : Int) i := hc _
    show m.1 71 (zXs m ((n : Nat) : Int) i) = μ.1 71 (zXs μ ((n : Nat) : Int) i)
    rw [e, (ho _ (by omega) g.2).2.2.2.1]
theorem zWs_nn {ν : zM} {lo P : Int} (h0 : 0 ≤ lo) (nd : ∀ x : Int, 0 ≤ x → x < zTop ν → zNd ν x) {n : Nat} (h : ∀ f : Int, 0 ≤ f → f < (n : Int) → zCl ν lo f P) : 0 ≤ zWs ν n := by
  have := zLa_len h0 nd h
  omega
/-- between the start and the loop -/
def zRv (μ ν : zM) (lo c P : Int) : Prop := zBs ν lo c P ∧ zOld μ ν (zTop μ) ∧ (zTop μ ≤ zTop ν ∧ zTop ν ≤ zTop μ + zXn μ c + 1) ∧ (∀ j : Nat, 76 ≤ j → j ≤ 84 → j ≠ 80 → ν.1 j = μ.1 j) ∧ zTop ν + ν.1 79 (21 + c) * zWs ν c.toNat ≤ 19999
theorem zFA_bd {μ ν m m' : zM} {lo c P i d g J st : Int} (hR : zRv μ ν lo c P) (hF : zFA ν m lo c P i d g J) (hJ1 : J ≤ i + 1) (i0 : 0 ≤ i) (i1 : i < ν.1 79 (21 + c)) (e0 : 0 ≤ zXe ν c i) (d0 : 0 ≤ d) (d1 : d ≤ 20) (t0 : 0 ≤ zXa ν (zXe ν c i) d)
    (hS : zSJ m m' lo st (zXf ν (zXe ν c i)) (zXn ν (zXe ν c i)) (zXs ν c i) (fun y => y ∈ zsb m 20000 (zXa ν (zXe ν c i) d))) (hu : zUq m lo → zUq m' lo) : zTop m' ≤ 19999 := by
  have hB := hR.1
  obtain ⟨W, D, L⟩ := zFA_lab hB hF hJ1 i0 i1 e0 d0 d1 t0 hS (hu hF.1.2.1)
  have l0 := hB.1.1.1.1
  have hC : ∀ f : Int, 0 ≤ f → f < c → zCl ν lo f P := fun f a b => (hB.2.2.1.1 f a b).1
  have h1 := zLb_cnt l0 hB.1.1.2.1 hC (by have := hB.2.1.1; omega) (by omega) D L
  have h2 := zWs_nn l0 hB.1.1.2.1 (n := c.toNat) (P := P) (fun f a b => hC f a (by omega))
  have h3 : (i + 1) * zWs ν c.toNat ≤ ν.1 79 (21 + c) * zWs ν c.toNat := Int.mul_le_mul_of_nonneg_right (by omega) h2
  have h4 := hR.2.2.2.2
  omega
theorem zFA_top {μ ν m : zM} {lo c P i d g J : Int} (hR : zRv μ ν lo c P) (hF : zFA ν m lo c P i d g J) (hJ0 : 0 ≤ J) (hJ1 : J ≤ ν.1 79 (21 + c)) : zTop m ≤ 19999 := by
  have hB := hR.1
  have l0 := hB.1.1.1.1
  have hC : ∀ f : Int, 0 ≤ f → f < c → zCl ν lo f P := fun f a b => (hB.2.2.1.1 f a b).1
  have h1 := zLb_cnt l0 hB.1.1.2.1 hC (by have := hB.2.1.1; omega) hJ0 (zFA_dt hF) hF.2.2.2.2.1
  have h2 := zWs_nn l0 hB.1.1.2.1 (n := c.toNat) (P := P) (fun f a b => hC f a (by omega))
  have h3 : J * zWs ν c.toNat ≤ ν.1 79 (21 + c) * zWs ν c.toNat := Int.mul_le_mul_of_nonneg_right hJ1 h2
  have h4 := hR.2.2.2.2
  omega
/-- one class more -/
theorem zFA_fin {μ ν m : zM} {lo c P I : Int} (hR : zRv μ ν lo c P) (hW : zWs ν c.toNat = zWs μ c.toNat) (hF : zFA ν m lo c P I 0 1 I) (hI : I = ν.1 79 (21 + c)) (h83 : m.1 83 = μ.1 83) (h84 : m.1 84 = μ.1 84) : (zUq m lo ∧ zWf m lo (zTop m) (c + 1) P 0 (zXn m) ∧ zTP m lo (c + 1) P) ∧ zTop m ≤ zTop μ + zXn μ c + 1 + (if μ.1 79 (21 + c) = 0 then 0 else zWs μ c.toNat) := by
  have hB := hR.1
  have l0 := hB.1.1.1.1
  have c79 := hB.2.2.2.1.1.2.2.2.2.1
  have hb := zFA_top hR hF (by omega) (by omega)
  have hAr := zFA_end hB hF hI (by omega)
  have hcn := zFA_cnt hB hF (by omega) (by omega)
  obtain ⟨-, r2, r3, r4, r5⟩ := hR
  obtain ⟨⟨f1, f2, f3, f4, f5⟩, ⟨fa, fb⟩, -, -, -, -⟩ := hF
  have n77 : zXn m = zXn ν := by funext q; unfold zXn; rw [fa 77 (by omega) (by omega)]
  have e79 : ν.1 79 = μ.1 79 := r4 79 (by omega) (by omega) (by omega)
  have hE : zEq ν m c P := ⟨fun q hq => by rw [fa 76 (by omega) (by omega), fa 77 (by omega) (by omega), fa 79 (by omega) (by omega)]; exact ⟨rfl, rfl, rfl⟩, fun q hq => by rw [fa 78 (by omega) (by omega)], fb, fun q _ hq => by rw [h83, r4 83 (by omega) (by omega) (by omega)], fun q _ hq => by rw [h84, r4 84 (by omega) (by omega) (by omega)]⟩
  have T := zTP_old (P' := P) l0 hB.1.1.2.1 f3 f4 hE ⟨hB.2.1.1, by have := hB.2.1.2; omega⟩ (Int.le_refl _) (fun p a b => by omega) hB.2.2.1
  have Cc : zCl m lo c P := by
    have h := hB.2.2.2.1
    have e1 : zXf m c = zXf ν c := by unfold zXf; rw [fa 76 (by omega) (by omega)]
    have e2 : zXn m c = zXn ν c := by rw [n77]
    unfold zCl
    rw [e1, e2, fa 79 (by omega) (by omega)]
    refine ⟨h.1, fun i a b => ?_⟩
    have es : zXs m c i = zXs ν c i := by unfold zXs; rw [fa 78 (by omega) (by omega)]
    rw [es]
    obtain ⟨g1, g2, g3, g4⟩ := h.2 i a b
    have hx : 0 ≤ zXs ν c i := by have := g1.1.1; omega
    exact ⟨zTx_old g1 l0 f3 f4, by rw [(f3 _ hx g1.1.2).2.1]; exact g2, zA2_old g3 hB.1.1.2.1 ⟨hx, g1.1.2⟩ f3, zPar_old g4 f3 hB.1.1.2.1 hx g1.1.2⟩
  refine ⟨⟨f2, by rw [n77]; exact f5, fun q a b => ?_, T.2.1, T.2.2⟩, ?_⟩
  · by_cases e : q = c
    · rw [e]; exact ⟨Cc, hAr⟩
    · exact T.1 q a (by omega)
  · rw [hW, hI, e79] at hcn
    omega
theorem zFA_J {ν m : zM} {lo c P i d g J J' : Int} (h : zFA ν m lo c P i d g J) (hJ : J ≤ J') : zFA ν m lo c P i d g J' := by
  obtain ⟨h1, h2, h3, h4, h5, h6⟩ := h
  exact ⟨h1, h2, h3, h4, fun z a b => zLb_old h1.1.1.1 h1.1.2.1 (zOld_r _ _) (Int.le_refl _) hJ (h5 z a b), h6⟩
