/-! ### closeReach: a row is laid over another, then the loops -/
def mo_copy (σ : mS) : Option mS := if Nat.beq σ.1 15 then (match σ.2.2.1 with
    | [.int n, .int dp, .ref g, .int sp, .ref j] => match σ.2.2.2.1[j]? with
      | some (.inr ((k, n1), .inl a)) => match σ.2.2.2.1[g]? with
        | some (.inr ((k2, n2), .inl _)) => if decide (sp = 0) && decide (dp = 0) && Nat.beq k 0 && Nat.beq k2 0 && Nat.beq n1 n2 && Nat.ble n1 1000000 && decide (n = Int32.ofNat n1) then some (18, σ.2.1, [], (σ.2.2.2.1.set g (.inr ((0, n2), .inl a)), σ.2.2.2.2)) else none
        | _ => none
      | _ => none
    | _ => none) else none
theorem dX7_closeReach_15 : decode cX7_closeReach 15 = .ok (.invokestatic 85, 3) := by decide +kernel
section ZCP
variable {l : Launch} {r : Nat → Value} {B : Nat} {D : va_G} {cy : Nat → ClassId}
variable {p : Program} {e : Env} {R : Room} {s : State} {m : MethodId} {args : Array Value} {below : List Frame} {meth : Method} {c : Code} {H0 : Heap}
set_option maxHeartbeats 4000000 in
theorem mo_copy_jmp {kb : mK} {sc : Option Nat} {d : Nat} (X : mx_X kb p R s m meth c D cy r B mt_X7_closeReach sc H0 d) : mx_Jmp p l e R s m args below meth c D cy r B H0 4 mo_copy := by
  obtain ⟨hx, hb, hml, hown, hE, hK, hr, hsc, hnm, hfr, hlo, hkb⟩ := X
  intro σ σ' h
  obtain ⟨pc, lv, st, w⟩ := σ
  unfold mo_copy at h
  dsimp only at h
  split at h
  · rename_i hpc
    have hpc := Nat.eq_of_beq_eq_true hpc
    subst hpc
    split at h
    · rename_i n dp g sp j
      split at h
      · rename_i k n1 a hj
        split at h
        · rename_i k2 n2 b hg
          split at h
          · rename_i hc
            simp only [Bool.and_eq_true, decide_eq_true_eq] at hc
            cases h
            obtain ⟨⟨⟨⟨⟨⟨c1, c2⟩, c3⟩, c4⟩, c5⟩, c6⟩, c7⟩ := hc
            have c3 : k = 0 := Nat.eq_of_beq_eq_true c3
            have c4 : k2 = 0 := Nat.eq_of_beq_eq_true c4
            have c5 : n1 = n2 := Nat.eq_of_beq_eq_true c5
            have c6 := Nat.le_of_ble_eq_true c6
            subst c1 c2 c3 c4 c5
            refine ⟨⟨by simp, Nat.le_refl _⟩, ?_⟩
            intro Q n0 z0 k0 k1 H ls locs hl hR hS hn0 hz0 hrc hrs kk
            intro T hT XX
            have hc0 : H[B + j]? = some (vp_cell (cy 0) (n1, .inl (mx_g a))) := hR.2.2 _ _ hj rfl
            have hc1 : H[B + g]? = some (vp_cell (cy 0) (n1, .inl (mx_g b))) := hR.2.2 _ _ hg rfl
            obtain ⟨-, k0, hk0, cm0, hkk0⟩ := (hK.2 0 _ rfl).1 n1 (fun q => .int (mx_g a q))
            obtain ⟨-, k1, hk1, cm1, hkk1⟩ := (hK.2 0 _ rfl).1 n1 (fun q => .int (mx_g b q))
            have hcl : n.toNatClampNeg = n1 := by rw [c7]; exact nI_clamp (by omega)
            have hti : n.toInt = (n1 : Int) := by rw [c7]; exact nI_toInt (by omega)
            have z0c : (0 : Int32).toNatClampNeg = 0 := by decide
            have hnw : nativeFrameWords "java/lang/System" "arraycopy" 5 + 11 ≤ 40 := by decide +kernel
            obtain ⟨vm', X', step⟩ := XX.arraycopy hx hown (mx_at_use (q := 918) (w := .methodLink RX7 85 arraycopyName) (by decide +kernel) hE) (mx_at_use (q := 344) (by decide +kernel) hE) (mx_at_use (q := 343) (by decide +kernel) hE) (mx_at_use (q := 153) (by decide +kernel) hE) (src := B + j) (dst := B + g) (cs := vp_cell (cy 0) (n1, .inl (mx_g a))) (cd := vp_cell (cy 0) (n1, .inl (mx_g b))) (srcPos := 0) (destPos := 0) (n := n) (by rw [hT]; exact hc0) (by rw [hT]; exact hc1)
              (fun _ h => by cases h) (fun _ h => by cases h) (fun h => by cases h) (fun h => by cases h) hk0 hk1 hkk0 hkk1 (by show (refKind FieldType.int != refKind FieldType.int || !refKind FieldType.int && FieldType.int != FieldType.int) = false; decide) (by decide) (by decide) (by rw [c7]; exact nI_pos (by omega))
              (by rw [hti]; show ¬ _ > ((arrV (cy 0) n1 (fun q => .int (mx_g a q))).slots.size : Int); rw [arrV_size]; show ¬ ((0 : Int32).toInt + (n1 : Int) > (n1 : Int)); rw [show (0 : Int32).toInt = 0 from by decide]; omega)
              (by rw [hti]; show ¬ _ > ((arrV (cy 0) n1 (fun q => .int (mx_g b q))).slots.size : Int); rw [arrV_size]; show ¬ ((0 : Int32).toInt + (n1 : Int) > (n1 : Int)); rw [show (0 : Int32).toInt = 0 from by decide]; omega)
              (fun vm₁ _ i hi => by
                have e : (vp_cell (cy 0) (n1, .inl (mx_g a))).slots.getD ((0 : Int32).toNatClampNeg + i) .null = .int (mx_g a ((0 : Int32).toNatClampNeg + i)) := by
                  show (arrV (cy 0) n1 (fun q => .int (mx_g a q))).slots.getD _ _ = _
                  rw [Array.getD_eq_getD_getElem?, arrV_read _ _ (by rw [z0c]; omega)]
                  rfl
                refine ⟨?_, ?_⟩
                · rw [e]; rfl
                · rw [e]; exact trivial)
              (g := F0 m 15 ls (([.int n, .int 0, .ref g, .int 0, .ref j] : List Value).map (mx_v r))) rfl (by rw [hml]; exact hl.1) (rest := []) (by show [Value.int n, .int 0, r g, .int 0, r j] = _; rw [hR.ref hr hj, hR.ref hr hg]) (by rw [hb]; exact dX7_closeReach_15) (by omega) (by show 2 * 0 + 0 + (nativeFrameWords "java/lang/System" "arraycopy" 5 + 11) ≤ _; omega)
            have e1 : copied (vp_cell (cy 0) (n1, .inl (mx_g a))) (vp_cell (cy 0) (n1, .inl (mx_g b))) 0 0 n = vp_cell (cy 0) (n1, .inl (va_cpy (mx_g a) (mx_g b) (0 : Int32).toNatClampNeg (0 : Int32).toNatClampNeg n.toNatClampNeg)) := va_copied (fun z => .int z) (cy 0) (cy 0) (mx_g a) (mx_g b) (by rw [z0c, hcl]; omega)
            have e2 : vp_cell (cy 0) (n1, .inl (va_cpy (mx_g a) (mx_g b) (0 : Int32).toNatClampNeg (0 : Int32).toNatClampNeg n.toNatClampNeg)) = vp_cell (cy 0) (n1, .inl (mx_g a)) := by
              rw [vp_cell_i, vp_cell_i]
              unfold arrV
              congr 2
              funext q
              simp [va_cpy, z0c, hcl, q.isLt]
            rw [e1, e2] at X' step
            have hl1 : B + g < H.size := (Array.getElem?_eq_some_iff.mp hc1).1
            have hheap : ((T.setVm vm').setCell (B + g) (vp_cell (cy 0) (n1, .inl (mx_g a)))).heap = H.setIfInBounds (B + g) (vp_cell (cy 0) (n1, .inl (mx_g a))) := by rw [← hT]; rfl
            have oq : ∀ q : Nat, q ≠ B + g → (H.setIfInBounds (B + g) (vp_cell (cy 0) (n1, .inl (mx_g a))))[q]? = H[q]? := fun q hq => by simp [Array.getElem?_setIfInBounds, Ne.symm hq]
            simp only [List.length_set] at kk
            obtain ⟨t, a1, b1⟩ := kk ls _ _ hl (hR.set hg (by simp) oq (c' := .inr ((0, n1), .inl a)) (show (H.setIfInBounds (B + g) _)[B + g]? = some _ by simp [Array.getElem?_setIfInBounds, hl1])) ⟨by simp; exact hS.1, fun q g1 g2 => by
                rw [oq q (fun e => g2 (by rw [e]; exact Nat.le_add_right B g))]
                exact hS.2.1 q g1 g2, fun q hq => by
                rcases List.mem_append.mp hq with h | h
                · exact hS.2.2 q h
                · obtain ⟨z, -, hz⟩ := List.mem_map.mp h
                  rw [← hz]
                  exact Nat.le_add_right B g⟩ _ hheap X'
            exact ⟨t, step t a1, b1⟩
          · cases h
        · cases h
      · cases h
    · cases h
  · cases h
end ZCP
def zcp (μ : zM) : zM := (fun i q => if i = 8 then μ.1 7 q else μ.1 i q, μ.2)
theorem zcp_8 (μ : zM) : (zcp μ).1 8 = μ.1 7 := by funext q; simp [zcp]
theorem zcp_n {μ : zM} {i : Nat} (h : i ≠ 8) : (zcp μ).1 i = μ.1 i := by funext q; simp [zcp, h]
theorem zcp_l (μ : zM) : zl0 μ (zcp μ) := by
  refine ⟨⟨fun i a b => zcp_n (by omega), ?_, ?_, Or.inl (by rw [zcp_n (by decide)]), fun i a b => ⟨zcp_n (by omega), zcp_n (by omega)⟩⟩, rfl⟩
  · unfold zL; rw [zcp_n (by decide), zcp_n (by decide), zcp_n (by decide)]; exact Int.le_refl _
  · unfold zS; rw [zcp_n (by decide), zcp_n (by decide), zcp_n (by decide)]; exact Int.le_refl _
theorem zRep_copy {μ : zM} {w : mW} {a : mI} (h : zRep μ w) (h7 : w.1[7]? = some (.inr ((0, 6400), .inl a))) (hl : 8 < w.1.length) : zRep (zcp μ) (w.1.set 8 (.inr ((0, 6400), .inl a)), w.2) := by
  obtain ⟨g1, g2, g3, g4⟩ := h
  have r7 : zRw μ 7 6400 (-2147483648) 2147483647 a := by
    obtain ⟨c', e1, e2, a', e3, e4⟩ := g3 7 _ (show znth zcl 7 = some (.inr (0, 6400, -2147483648, 2147483647)) from rfl)
    rw [e3] at e1
    cases h7.symm.trans e1
    exact e4
  refine ⟨⟨by simpa using g1.1, fun t n a8 ha q hq => by
    dsimp only at ha
    rw [zcp_n (by omega)]
    by_cases e : t = 8
    · subst e
      rw [show (w.1.set 8 (.inr ((0, 6400), .inl a)))[8]? = some (.inr ((0, 6400), .inl a)) by simp [hl]] at ha
      cases ha
    · rw [List.getElem?_set_ne (Ne.symm e)] at ha
      exact g1.2.1 t n a8 ha q hq, fun t ci fs ha k v hv => by
    dsimp only at ha
    rw [zcp_n (by omega)]
    by_cases e : t = 8
    · subst e
      rw [show (w.1.set 8 (.inr ((0, 6400), .inl a)))[8]? = some (.inr ((0, 6400), .inl a)) by simp [hl]] at ha
      cases ha
    · rw [List.getElem?_set_ne (Ne.symm e)] at ha
      exact g1.2.2 t ci fs ha k v hv⟩, ?_, fun t d hd => ?_, fun t hd => ?_⟩
  · rw [zcp_n (by decide)]; simpa using g2
  · by_cases ht : t = 8
    · subst ht
      obtain ⟨c', e1, e2⟩ := g3 8 d hd
      cases (show some (Sum.inr (0, 6400, -2147483648, 2147483647) : zD) = some d from hd)
      refine ⟨_, by simp [hl], e2.1, a, rfl, fun q hq => ?_⟩
      rw [zcp_8]
      exact r7 q hq
    · obtain ⟨c', e1, e2⟩ := g3 t d hd
      refine ⟨c', by dsimp only; rw [List.getElem?_set_ne (Ne.symm ht)]; exact e1, ?_⟩
      unfold zCe zFt zRw at e2 ⊢
      rw [zcp_n ht]
      exact e2
  · have ht : t ≠ 8 := by have := hd.1; omega
    obtain ⟨n, a', e1, e2, e3⟩ := g4 t hd
    refine ⟨n, a', by dsimp only; rw [List.getElem?_set_ne (Ne.symm ht)]; exact e1, e2, fun q hq => ?_⟩
    rw [zcp_n ht]
    exact e3 q hq
theorem zgetf {kb : mK} {sc ini : Option Nat} {lk : List (Nat × mL)} {ix tt ci kf t : Nat} {z : Int} {st fs : List Value} {w : mW} {v : Value} (h1 : lk.lookup ix = some (tt, ci, kf, z)) (h2 : w.1[t]? = some (.inl (ci, fs))) (h3 : fs[kf]? = some v) (h4 : Nat.ble tt 1 = true) : mx_mem kb sc ini lk (.getfield ix) (.ref t :: st) w = some (v :: st, w) := by
  simp only [mx_mem, h1, h2, h3, h4, Nat.beq_refl, Bool.and_self, if_true]
