/-! ### the law's calls of the reference -/
def zk_X9_thrownV : zC := fun As μ Q => As = [.inr (.inr (66, 66))] ∧ (∀ (v : Int), (-2147483648) ≤ v → v ≤ 2147483647 → v = μ.1 66 ((54 : Nat) : Int) → Q (some (.inl v)) μ)
theorem zm_X9_thrownV {g : zΓ} (hg : zg g) (d : Nat) (hd : 1 ≤ d) : zOk g d 191 zk_X9_thrownV := by
  obtain ⟨d, rfl⟩ : ∃ d', d = d' + 1 := ⟨d - 1, by omega⟩
  refine zOk_straight hg (show mt_tab[191]? = some mt_X9_thrown from rfl) [] 10 rfl fun As μ Q hC => ?_
  obtain ⟨rfl, hQ⟩ := hC
  refine ⟨rfl, ?_⟩
  intro x1 hx1 kx1 lx1
  exact And.intro trivial (And.intro ⟨by omega, by omega⟩ (hQ _ (by omega) (by omega) hx1))
/-- what the reference leaves alone -/
def lF (μ μ' : zM) : Prop := μ'.1 1 = μ.1 1 ∧ μ'.1 26 = μ.1 26 ∧ μ'.1 44 = μ.1 44 ∧ μ'.1 2000000 = μ.1 2000000 ∧ μ'.2 = μ.2 ∧ μ'.1 2 = μ.1 2 ∧ (∀ j : Nat, j < 66 ∨ (3000000 ≤ j ∧ j < 3000066) → μ'.1 j = μ.1 j) ∧ μ'.1 3000108 = μ.1 3000108
theorem lF_z {ws fs : List Nat} {μ μ' : zM} (z : zfx ws fs μ μ') (h : (ws.all (fun r => (Nat.ble 66 r && Nat.ble r 200) || (Nat.ble 3000066 r && Nat.ble r 3000107))) = true) : lF μ μ' := by
  have k : ∀ j : Nat, (j < 66 ∨ 200 < j) → (j < 3000066 ∨ 3000107 < j) → ws.any (fun r => Nat.beq j r) = false := fun j a b => by
    rw [List.any_eq_false]
    intro r hr
    have q := List.all_eq_true.mp h r hr
    simp only [Bool.or_eq_true, Bool.and_eq_true, Nat.ble_eq] at q
    intro e
    have e := Nat.eq_of_beq_eq_true e
    omega
  exact ⟨z.1 1 (by decide) (k 1 (by omega) (by omega)), z.1 26 (by decide) (k 26 (by omega) (by omega)), z.1 44 (by decide) (k 44 (by omega) (by omega)), z.1 2000000 (by decide) (k 2000000 (by omega) (by omega)), z.2.2, z.1 2 (by decide) (k 2 (by omega) (by omega)), fun j hj => z.1 j (by omega) (k j (by omega) (by omega)), z.1 3000108 (by decide) (k 3000108 (by omega) (by omega))⟩
theorem lF_r (μ : zM) : lF μ μ := ⟨rfl, rfl, rfl, rfl, rfl, rfl, fun _ _ => rfl, rfl⟩
theorem lRI {μ μ' : zM} {K : Int} (h : zRI μ K) (hk : lK μ μ') : zRI μ' K :=
  zRI_fr h (fun j a b => hk.1 j (by omega) (by omega)) (fun j a b => hk.1 j (by omega) (by omega)) (fun j a b => hk.1 j (by omega) (by omega)) (hk.1 98 (by omega) (by omega)) (hk.1 105 (by omega) (by omega)) (fun k _ => by rw [hk.1 66 (by omega) (by omega)])
set_option maxRecDepth 100000 in
set_option maxHeartbeats 2000000 in
theorem lr_feed {g : zΓ} {x : lE} {L : Nat} (hg : zg g) (C : lC g x L) {X : Int64} {x2 : Int32} {w : mW} {μ : zM} {K : Int} {lv : List (Nat × Value)} (hw : zRep μ w) (hI : zRI μ K) (h29 : 0 ≤ μ.1 66 ((29 : Nat) : Int) ∧ μ.1 66 ((29 : Nat) : Int) ≤ 800) :
    ∃ (st' : List zV) (μ' : zM) (w' : mW), lG g x (168, lv, [.int x2, .long X, .ref 66], w) (171, lv, st'.map zt, w') ∧ zRep μ' w' ∧ (∃ v : Int, st' = [.inl v]) ∧ lF μ μ' ∧ zRI μ' K ∧ rKq μ μ' ∧ ((1 ≤ x2.toInt ∧ x2.toInt ≤ 8 ∧ μ.1 66 ((29 : Nat) : Int) + x2.toInt ≤ 800 → μ'.1 66 ((29 : Nat) : Int) = μ.1 66 ((29 : Nat) : Int) + x2.toInt) ∧ (¬ (1 ≤ x2.toInt ∧ x2.toInt ≤ 8 ∧ μ.1 66 ((29 : Nat) : Int) + x2.toInt ≤ 800) → μ'.1 66 ((29 : Nat) : Int) = μ.1 66 ((29 : Nat) : Int))) ∧ (1 ≤ x2.toInt ∧ x2.toInt ≤ 8 ∧ μ.1 66 ((29 : Nat) : Int) + x2.toInt ≤ 800 → μ'.1 85 = rtp (μ.1 85) (μ.1 66 ((29 : Nat) : Int)) (μ.1 66 ((29 : Nat) : Int) + x2.toInt) (μ.1 66 ((29 : Nat) : Int) + x2.toInt - 1) (rby X)) ∧ (¬ (1 ≤ x2.toInt ∧ x2.toInt ≤ 8 ∧ μ.1 66 ((29 : Nat) : Int) + x2.toInt ≤ 800) → μ'.1 85 = μ.1 85) := by
  have e : ([.inl x2.toInt, .inr (.inl X), .inr (.inr (66, 66))] : List zV).map zt = [.int x2, .long X, .ref 66] := by simp [zt]
  obtain ⟨st', μ', w', h1, h2, h3, h4⟩ := zl_call (sc := some L) (lv := lv) (pc := 168) (ix := 57) (md := 0) (i := .invokevirtual 57) (st := [.inl x2.toInt, .inr (.inl X), .inr (.inr (66, 66))]) (k := fun st' μ' => (∃ v : Int, st' = [.inl v]) ∧ lF μ μ' ∧ zRI μ' K ∧ rKq μ μ' ∧ ((1 ≤ x2.toInt ∧ x2.toInt ≤ 8 ∧ μ.1 66 ((29 : Nat) : Int) + x2.toInt ≤ 800 → μ'.1 66 ((29 : Nat) : Int) = μ.1 66 ((29 : Nat) : Int) + x2.toInt) ∧ (¬ (1 ≤ x2.toInt ∧ x2.toInt ≤ 8 ∧ μ.1 66 ((29 : Nat) : Int) + x2.toInt ≤ 800) → μ'.1 66 ((29 : Nat) : Int) = μ.1 66 ((29 : Nat) : Int))) ∧ (1 ≤ x2.toInt ∧ x2.toInt ≤ 8 ∧ μ.1 66 ((29 : Nat) : Int) + x2.toInt ≤ 800 → μ'.1 85 = rtp (μ.1 85) (μ.1 66 ((29 : Nat) : Int)) (μ.1 66 ((29 : Nat) : Int) + x2.toInt) (μ.1 66 ((29 : Nat) : Int) + x2.toInt - 1) (rby X)) ∧ (¬ (1 ≤ x2.toInt ∧ x2.toInt ≤ 8 ∧ μ.1 66 ((29 : Nat) : Int) + x2.toInt ≤ 800) → μ'.1 85 = μ.1 85)) hg mw_L_law (Or.inl ⟨rfl, rfl⟩) rfl hw (List.forall_mem_cons.mpr ⟨True.intro, (List.forall_mem_cons.mpr ⟨True.intro, (List.forall_mem_cons.mpr ⟨by show 66 < 1048576; omega, (fun _ q => by cases q)⟩)⟩)⟩)
    ⟨yk_X9_feed, ym_X9_feed hg 200 (by omega), X, x2.toInt, rfl, zR_i x2, h29, fun v μ' z a b c e => ⟨⟨v, rfl⟩, lF_z z rfl, zRI_z hI z rfl rfl, rKq_z (z.2.1 21 rfl) (z.1 82 (by decide) rfl) (z.1 84 (by decide) rfl) (z.1 3000081 (by decide) rfl) (z.1 86 (by decide) rfl) (z.1 87 (by decide) rfl), ⟨fun h => by omega, fun h => by omega⟩, e⟩⟩
  rw [e] at h1
  exact ⟨st', μ', w', lG_z C h1, h2, h4⟩
set_option maxRecDepth 100000 in
set_option maxHeartbeats 2000000 in
theorem lr_read {g : zΓ} {x : lE} {L : Nat} (hg : zg g) (C : lC g x L)  {w : mW} {μ : zM} {K : Int} {lv : List (Nat × Value)} (hw : zRep μ w) (hI : zRI μ K) (hK : K + 1010000 ≤ 1999990000) :
    ∃ (st' : List zV) (μ' : zM) (w' : mW), lG g x (182, lv, [.ref 66], w) (185, lv, st'.map zt, w') ∧ zRep μ' w' ∧ (∃ v : Int, st' = [.inl v] ∧ ((∃ p B, yR ((μ.1 85, μ.1 66 ((29 : Nat) : Int)) : yT) (0, 0, 0, [], yB0) (21, p, 0, [], B) ∧ v = B.1 0 0 ∧ (rTb μ' B ∧ rTq μ' B) ∧ μ'.1 66 ((37 : Nat) : Int) = 0 ∧ (rPc μ' B (zTop μ') ∧ zUq μ' 0 ∧ rWf μ' B ∧ yGd B) ∧ (rPa μ' B ∧ rRc μ' (B.1 0 1))) ∨ (∃ p x B, yR ((μ.1 85, μ.1 66 ((29 : Nat) : Int)) : yT) (0, 0, 0, [], yB0) (20, p, x, [], B) ∧ v = -10 - p ∧ (rKp μ μ' ∧ μ'.1 66 ((21 : Nat) : Int) = μ.1 66 ((21 : Nat) : Int) ∧ ∀ q : Int, q < 80 → μ'.1 3000081 q = μ.1 3000081 q) ∧ μ'.1 66 ((37 : Nat) : Int) = x ∧ (μ'.1 86 = μ.1 86 ∧ μ'.1 87 = μ.1 87) ∧ ∀ q : Int, q < 80 → μ'.1 82 q = μ.1 82 q ∧ μ'.1 84 q = μ.1 84 q))) ∧ lF μ μ' ∧ zRI μ' (K + 1000000) ∧ (μ'.1 66 ((29 : Nat) : Int) = 0) ∧ μ'.1 85 = μ.1 85 := by
  have e : ([.inr (.inr (66, 66))] : List zV).map zt = [.ref 66] := by simp [zt]
  obtain ⟨st', μ', w', h1, h2, h3, h4⟩ := zl_call (sc := some L) (lv := lv) (pc := 182) (ix := 62) (md := 0) (i := .invokevirtual 62) (st := [.inr (.inr (66, 66))]) (k := fun st' μ' => (∃ v : Int, st' = [.inl v] ∧ ((∃ p B, yR ((μ.1 85, μ.1 66 ((29 : Nat) : Int)) : yT) (0, 0, 0, [], yB0) (21, p, 0, [], B) ∧ v = B.1 0 0 ∧ (rTb μ' B ∧ rTq μ' B) ∧ μ'.1 66 ((37 : Nat) : Int) = 0 ∧ (rPc μ' B (zTop μ') ∧ zUq μ' 0 ∧ rWf μ' B ∧ yGd B) ∧ (rPa μ' B ∧ rRc μ' (B.1 0 1))) ∨ (∃ p x B, yR ((μ.1 85, μ.1 66 ((29 : Nat) : Int)) : yT) (0, 0, 0, [], yB0) (20, p, x, [], B) ∧ v = -10 - p ∧ (rKp μ μ' ∧ μ'.1 66 ((21 : Nat) : Int) = μ.1 66 ((21 : Nat) : Int) ∧ ∀ q : Int, q < 80 → μ'.1 3000081 q = μ.1 3000081 q) ∧ μ'.1 66 ((37 : Nat) : Int) = x ∧ (μ'.1 86 = μ.1 86 ∧ μ'.1 87 = μ.1 87) ∧ ∀ q : Int, q < 80 → μ'.1 82 q = μ.1 82 q ∧ μ'.1 84 q = μ.1 84 q))) ∧ lF μ μ' ∧ zRI μ' (K + 1000000) ∧ (μ'.1 66 ((29 : Nat) : Int) = 0) ∧ μ'.1 85 = μ.1 85) hg mw_L_law (Or.inl ⟨rfl, rfl⟩) rfl hw (List.forall_mem_cons.mpr ⟨by show 66 < 1048576; omega, (fun _ q => by cases q)⟩)
    ⟨yk_X9_read, ym_X9_read hg 200 (by omega), K, rfl, hI, hK, fun v μ' z _ _ hr h9 hv => ⟨⟨v, rfl, hv⟩, lF_z z rfl, hr, h9, z.1 85 (by decide) rfl⟩⟩
  rw [e] at h1
  exact ⟨st', μ', w', lG_z C h1, h2, h4⟩
set_option maxRecDepth 100000 in
set_option maxHeartbeats 2000000 in
theorem lr_fault {g : zΓ} {x : lE} {L : Nat} (hg : zg g) (C : lC g x L)  {w : mW} {μ : zM} {K : Int} {lv : List (Nat × Value)} (hw : zRep μ w) (hI : zRI μ K) :
    ∃ (st' : List zV) (μ' : zM) (w' : mW), lG g x (195, lv, [.ref 66], w) (198, lv, st'.map zt, w') ∧ zRep μ' w' ∧ (∃ v : Int, st' = [.inl v]) ∧ lF μ μ' ∧ zRI μ' K ∧ (μ'.1 66 ((29 : Nat) : Int) = μ.1 66 ((29 : Nat) : Int)) ∧ μ'.1 85 = μ.1 85 ∧ rKq μ μ' := by
  have e : ([.inr (.inr (66, 66))] : List zV).map zt = [.ref 66] := by simp [zt]
  obtain ⟨st', μ', w', h1, h2, h3, h4⟩ := zl_call (sc := some L) (lv := lv) (pc := 195) (ix := 66) (md := 0) (i := .invokevirtual 66) (st := [.inr (.inr (66, 66))]) (k := fun st' μ' => (∃ v : Int, st' = [.inl v]) ∧ lF μ μ' ∧ zRI μ' K ∧ (μ'.1 66 ((29 : Nat) : Int) = μ.1 66 ((29 : Nat) : Int)) ∧ μ'.1 85 = μ.1 85 ∧ rKq μ μ') hg mw_L_law (Or.inl ⟨rfl, rfl⟩) rfl hw (List.forall_mem_cons.mpr ⟨by show 66 < 1048576; omega, (fun _ q => by cases q)⟩)
    ⟨zk_X9_fault, zm_X9_fault hg 200 (by omega), rfl, fun v μ' z _ _ => ⟨⟨v, rfl⟩, lF_z z rfl, zRI_z hI z rfl rfl, z.2.1 29 rfl, z.1 85 (by decide) rfl, rKq_z (z.2.1 21 rfl) (z.1 82 (by decide) rfl) (z.1 84 (by decide) rfl) (z.1 3000081 (by decide) rfl) (z.1 86 (by decide) rfl) (z.1 87 (by decide) rfl)⟩⟩
  rw [e] at h1
  exact ⟨st', μ', w', lG_z C h1, h2, h4⟩
set_option maxRecDepth 100000 in
set_option maxHeartbeats 2000000 in
theorem lr_cls {g : zΓ} {x : lE} {L : Nat} (hg : zg g) (C : lC g x L) {x1 : Int32} {x2 : Int32} {w : mW} {μ : zM} {K : Int} {lv : List (Nat × Value)} (hw : zRep μ w) (hI : zRI μ K) :
    ∃ (st' : List zV) (μ' : zM) (w' : mW), lG g x (234, lv, [.int x2, .int x1, .ref 66], w) (237, lv, st'.map zt, w') ∧ zRep μ' w' ∧ (∃ v : Int64, st' = [.inr (.inl v)]) ∧ lF μ μ' ∧ zRI μ' K ∧ (μ'.1 66 ((29 : Nat) : Int) = μ.1 66 ((29 : Nat) : Int)) ∧ μ'.1 85 = μ.1 85 ∧ rKq μ μ' := by
  have e : ([.inl x2.toInt, .inl x1.toInt, .inr (.inr (66, 66))] : List zV).map zt = [.int x2, .int x1, .ref 66] := by simp [zt]
  obtain ⟨st', μ', w', h1, h2, h3, h4⟩ := zl_call (sc := some L) (lv := lv) (pc := 234) (ix := 70) (md := 0) (i := .invokevirtual 70) (st := [.inl x2.toInt, .inl x1.toInt, .inr (.inr (66, 66))]) (k := fun st' μ' => (∃ v : Int64, st' = [.inr (.inl v)]) ∧ lF μ μ' ∧ zRI μ' K ∧ (μ'.1 66 ((29 : Nat) : Int) = μ.1 66 ((29 : Nat) : Int)) ∧ μ'.1 85 = μ.1 85 ∧ rKq μ μ') hg mw_L_law (Or.inl ⟨rfl, rfl⟩) rfl hw (List.forall_mem_cons.mpr ⟨True.intro, (List.forall_mem_cons.mpr ⟨True.intro, (List.forall_mem_cons.mpr ⟨by show 66 < 1048576; omega, (fun _ q => by cases q)⟩)⟩)⟩)
    ⟨zk_X9_cls, zm_X9_cls hg 200 (by omega), x1.toInt, x2.toInt, rfl, zR_i x1, zR_i x2, fun v μ' z => ⟨⟨v, rfl⟩, lF_z z rfl, zRI_z hI z rfl rfl, z.2.1 29 rfl, z.1 85 (by decide) rfl, rKq_z (z.2.1 21 rfl) (z.1 82 (by decide) rfl) (z.1 84 (by decide) rfl) (z.1 3000081 (by decide) rfl) (z.1 86 (by decide) rfl) (z.1 87 (by decide) rfl)⟩⟩
  rw [e] at h1
  exact ⟨st', μ', w', lG_z C h1, h2, h4⟩
set_option maxRecDepth 100000 in
set_option maxHeartbeats 2000000 in
theorem lr_isAbove {g : zΓ} {x : lE} {L : Nat} (hg : zg g) (C : lC g x L) {x1 : Int32} {x2 : Int32} {w : mW} {μ : zM} {K : Int} {lv : List (Nat × Value)} (hw : zRep μ w) (hI : zRI μ K) :
    ∃ (st' : List zV) (μ' : zM) (w' : mW), lG g x (274, lv, [.int x2, .int x1, .ref 66], w) (277, lv, st'.map zt, w') ∧ zRep μ' w' ∧ (∃ v : Int, st' = [.inl v]) ∧ lF μ μ' ∧ zRI μ' K ∧ (μ'.1 66 ((29 : Nat) : Int) = μ.1 66 ((29 : Nat) : Int)) ∧ μ'.1 85 = μ.1 85 ∧ rKq μ μ' := by
  have e : ([.inl x2.toInt, .inl x1.toInt, .inr (.inr (66, 66))] : List zV).map zt = [.int x2, .int x1, .ref 66] := by simp [zt]
  obtain ⟨st', μ', w', h1, h2, h3, h4⟩ := zl_call (sc := some L) (lv := lv) (pc := 274) (ix := 73) (md := 0) (i := .invokevirtual 73) (st := [.inl x2.toInt, .inl x1.toInt, .inr (.inr (66, 66))]) (k := fun st' μ' => (∃ v : Int, st' = [.inl v]) ∧ lF μ μ' ∧ zRI μ' K ∧ (μ'.1 66 ((29 : Nat) : Int) = μ.1 66 ((29 : Nat) : Int)) ∧ μ'.1 85 = μ.1 85 ∧ rKq μ μ') hg mw_L_law (Or.inl ⟨rfl, rfl⟩) rfl hw (List.forall_mem_cons.mpr ⟨True.intro, (List.forall_mem_cons.mpr ⟨True.intro, (List.forall_mem_cons.mpr ⟨by show 66 < 1048576; omega, (fun _ q => by cases q)⟩)⟩)⟩)
    ⟨zk_X9_isAbove, zm_X9_isAbove hg 200 (by omega), x1.toInt, x2.toInt, rfl, zR_i x1, zR_i x2, fun v μ' z _ _ => ⟨⟨v, rfl⟩, lF_z z rfl, zRI_z hI z rfl rfl, z.2.1 29 rfl, z.1 85 (by decide) rfl, rKq_z (z.2.1 21 rfl) (z.1 82 (by decide) rfl) (z.1 84 (by decide) rfl) (z.1 3000081 (by decide) rfl) (z.1 86 (by decide) rfl) (z.1 87 (by decide) rfl)⟩⟩
  rw [e] at h1
  exact ⟨st', μ', w', lG_z C h1, h2, h4⟩
set_option maxRecDepth 100000 in
set_option maxHeartbeats 2000000 in
theorem lr_parameter {g : zΓ} {x : lE} {L : Nat} (hg : zg g) (C : lC g x L) {x1 : Int32} {x2 : Int32} {w : mW} {μ : zM} {K : Int} {lv : List (Nat × Value)} (hw : zRep μ w) (hI : zRI μ K) :
    ∃ (st' : List zV) (μ' : zM) (w' : mW), lG g x (314, lv, [.int x2, .int x1, .ref 66], w) (317, lv, st'.map zt, w') ∧ zRep μ' w' ∧ (∃ v : Int64, st' = [.inr (.inl v)] ∧ (((0 ≤ x1.toInt ∧ x1.toInt < μ.1 66 ((21 : Nat) : Int)) ∧ (0 ≤ x2.toInt ∧ x2.toInt ≤ 3) ∧ μ'.1 66 ((54 : Nat) : Int) = 0 ∧ rkpa μ x1.toInt x2.toInt v) ∨ (¬ (0 ≤ x1.toInt ∧ x1.toInt < μ.1 66 ((21 : Nat) : Int)) ∧ μ'.1 66 ((54 : Nat) : Int) = 1) ∨ ((0 ≤ x1.toInt ∧ x1.toInt < μ.1 66 ((21 : Nat) : Int)) ∧ ¬ (0 ≤ x2.toInt ∧ x2.toInt ≤ 3) ∧ μ'.1 66 ((54 : Nat) : Int) = 2))) ∧ lF μ μ' ∧ zRI μ' K ∧ (μ'.1 66 ((29 : Nat) : Int) = μ.1 66 ((29 : Nat) : Int)) ∧ μ'.1 85 = μ.1 85 ∧ rKq μ μ' := by
  have e : ([.inl x2.toInt, .inl x1.toInt, .inr (.inr (66, 66))] : List zV).map zt = [.int x2, .int x1, .ref 66] := by simp [zt]
  obtain ⟨st', μ', w', h1, h2, h3, h4⟩ := zl_call (sc := some L) (lv := lv) (pc := 314) (ix := 76) (md := 0) (i := .invokevirtual 76) (st := [.inl x2.toInt, .inl x1.toInt, .inr (.inr (66, 66))]) (k := fun st' μ' => (∃ v : Int64, st' = [.inr (.inl v)] ∧ (((0 ≤ x1.toInt ∧ x1.toInt < μ.1 66 ((21 : Nat) : Int)) ∧ (0 ≤ x2.toInt ∧ x2.toInt ≤ 3) ∧ μ'.1 66 ((54 : Nat) : Int) = 0 ∧ rkpa μ x1.toInt x2.toInt v) ∨ (¬ (0 ≤ x1.toInt ∧ x1.toInt < μ.1 66 ((21 : Nat) : Int)) ∧ μ'.1 66 ((54 : Nat) : Int) = 1) ∨ ((0 ≤ x1.toInt ∧ x1.toInt < μ.1 66 ((21 : Nat) : Int)) ∧ ¬ (0 ≤ x2.toInt ∧ x2.toInt ≤ 3) ∧ μ'.1 66 ((54 : Nat) : Int) = 2))) ∧ lF μ μ' ∧ zRI μ' K ∧ (μ'.1 66 ((29 : Nat) : Int) = μ.1 66 ((29 : Nat) : Int)) ∧ μ'.1 85 = μ.1 85 ∧ rKq μ μ') hg mw_L_law (Or.inl ⟨rfl, rfl⟩) rfl hw (List.forall_mem_cons.mpr ⟨True.intro, (List.forall_mem_cons.mpr ⟨True.intro, (List.forall_mem_cons.mpr ⟨by show 66 < 1048576; omega, (fun _ q => by cases q)⟩)⟩)⟩)
    ⟨yk_X9_parameter, ym_X9_parameter hg 200 (by omega), x1.toInt, x2.toInt, rfl, zR_i x1, zR_i x2, fun v μ' z hv => ⟨⟨v, rfl, hv⟩, lF_z z rfl, zRI_z hI z rfl rfl, z.2.1 29 rfl, z.1 85 (by decide) rfl, rKq_z (z.2.1 21 rfl) (z.1 82 (by decide) rfl) (z.1 84 (by decide) rfl) (z.1 3000081 (by decide) rfl) (z.1 86 (by decide) rfl) (z.1 87 (by decide) rfl)⟩⟩
  rw [e] at h1
  exact ⟨st', μ', w', lG_z C h1, h2, h4⟩
set_option maxRecDepth 100000 in
set_option maxHeartbeats 2000000 in
theorem lr_thrown {g : zΓ} {x : lE} {L : Nat} (hg : zg g) (C : lC g x L)  {w : mW} {μ : zM} {K : Int} {lv : List (Nat × Value)} (hw : zRep μ w) (hI : zRI μ K) :
    ∃ (st' : List zV) (μ' : zM) (w' : mW), lG g x (320, lv, [.ref 66], w) (323, lv, st'.map zt, w') ∧ zRep μ' w' ∧ (∃ v : Int, st' = [.inl v] ∧ v = μ.1 66 ((54 : Nat) : Int) ∧ μ' = μ) ∧ lF μ μ' ∧ zRI μ' K ∧ μ'.1 66 ((29 : Nat) : Int) = μ.1 66 ((29 : Nat) : Int) := by
  have e : ([.inr (.inr (66, 66))] : List zV).map zt = [.ref 66] := by simp [zt]
  obtain ⟨st', μ', w', h1, h2, h3, h4⟩ := zl_call (sc := some L) (lv := lv) (pc := 320) (ix := 77) (md := 0) (i := .invokevirtual 77) (st := [.inr (.inr (66, 66))]) (k := fun st' μ' => (∃ v : Int, st' = [.inl v] ∧ v = μ.1 66 ((54 : Nat) : Int) ∧ μ' = μ) ∧ lF μ μ' ∧ zRI μ' K ∧ μ'.1 66 ((29 : Nat) : Int) = μ.1 66 ((29 : Nat) : Int)) hg mw_L_law (Or.inl ⟨rfl, rfl⟩) rfl hw (List.forall_mem_cons.mpr ⟨by show 66 < 1048576; omega, (fun _ q => by cases q)⟩)
    ⟨zk_X9_thrownV, zm_X9_thrownV hg 200 (by omega), rfl, fun v _ _ e => ⟨⟨v, rfl, e, rfl⟩, lF_r μ, hI, rfl⟩⟩
  rw [e] at h1
  exact ⟨st', μ', w', lG_z C h1, h2, h4⟩
set_option maxRecDepth 100000 in
set_option maxHeartbeats 2000000 in
theorem lr_way {g : zΓ} {x : lE} {L : Nat} (hg : zg g) (C : lC g x L) {x1 : Int32} {x2 : Int32} {w : mW} {μ : zM} {K : Int} {lv : List (Nat × Value)} (hw : zRep μ w) (hI : zRI μ K) :
    ∃ (st' : List zV) (μ' : zM) (w' : mW), lG g x (381, lv, [.int x2, .int x1, .ref 66], w) (384, lv, st'.map zt, w') ∧ zRep μ' w' ∧ (∃ v : Int, st' = [.inl v]) ∧ lF μ μ' ∧ zRI μ' K ∧ (μ'.1 66 ((29 : Nat) : Int) = μ.1 66 ((29 : Nat) : Int)) ∧ μ'.1 85 = μ.1 85 ∧ rKq μ μ' := by
  have e : ([.inl x2.toInt, .inl x1.toInt, .inr (.inr (66, 66))] : List zV).map zt = [.int x2, .int x1, .ref 66] := by simp [zt]
  obtain ⟨st', μ', w', h1, h2, h3, h4⟩ := zl_call (sc := some L) (lv := lv) (pc := 381) (ix := 82) (md := 0) (i := .invokevirtual 82) (st := [.inl x2.toInt, .inl x1.toInt, .inr (.inr (66, 66))]) (k := fun st' μ' => (∃ v : Int, st' = [.inl v]) ∧ lF μ μ' ∧ zRI μ' K ∧ (μ'.1 66 ((29 : Nat) : Int) = μ.1 66 ((29 : Nat) : Int)) ∧ μ'.1 85 = μ.1 85 ∧ rKq μ μ') hg mw_L_law (Or.inl ⟨rfl, rfl⟩) rfl hw (List.forall_mem_cons.mpr ⟨True.intro, (List.forall_mem_cons.mpr ⟨True.intro, (List.forall_mem_cons.mpr ⟨by show 66 < 1048576; omega, (fun _ q => by cases q)⟩)⟩)⟩)
    ⟨zk_X9_way, zm_X9_way hg 200 (by omega), x1.toInt, x2.toInt, rfl, zR_i x1, zR_i x2, fun v μ' z _ _ => ⟨⟨v, rfl⟩, lF_z z rfl, zRI_z hI z rfl rfl, z.2.1 29 rfl, z.1 85 (by decide) rfl, rKq_z (z.2.1 21 rfl) (z.1 82 (by decide) rfl) (z.1 84 (by decide) rfl) (z.1 3000081 (by decide) rfl) (z.1 86 (by decide) rfl) (z.1 87 (by decide) rfl)⟩⟩
  rw [e] at h1
  exact ⟨st', μ', w', lG_z C h1, h2, h4⟩
set_option maxRecDepth 100000 in
set_option maxHeartbeats 2000000 in
theorem lr_ask {g : zΓ} {x : lE} {L : Nat} (hg : zg g) (C : lC g x L) {x1 : Int32} {w : mW} {μ : zM} {K : Int} {lv : List (Nat × Value)} (hw : zRep μ w) (hI : zRI μ K) (hK : K + 6000 ≤ 1999990000) :
    ∃ (st' : List zV) (μ' : zM) (w' : mW), lG g x (409, lv, [.int x1, .ref 66], w) (412, lv, st'.map zt, w') ∧ zRep μ' w' ∧ (∃ v : Int, st' = [.inl v]) ∧ lF μ μ' ∧ zRI μ' (K + 6000) ∧ (((0 ≤ x1.toInt ∧ x1.toInt ≤ 3000 → μ'.1 66 ((29 : Nat) : Int) = 0) ∧ (x1.toInt < 0 ∨ 3000 < x1.toInt → μ'.1 66 ((29 : Nat) : Int) = μ.1 66 ((29 : Nat) : Int)))) ∧ μ'.1 85 = μ.1 85 ∧ rKq μ μ' := by
  have e : ([.inl x1.toInt, .inr (.inr (66, 66))] : List zV).map zt = [.int x1, .ref 66] := by simp [zt]
  obtain ⟨st', μ', w', h1, h2, h3, h4⟩ := zl_call (sc := some L) (lv := lv) (pc := 409) (ix := 86) (md := 0) (i := .invokevirtual 86) (st := [.inl x1.toInt, .inr (.inr (66, 66))]) (k := fun st' μ' => (∃ v : Int, st' = [.inl v]) ∧ lF μ μ' ∧ zRI μ' (K + 6000) ∧ (((0 ≤ x1.toInt ∧ x1.toInt ≤ 3000 → μ'.1 66 ((29 : Nat) : Int) = 0) ∧ (x1.toInt < 0 ∨ 3000 < x1.toInt → μ'.1 66 ((29 : Nat) : Int) = μ.1 66 ((29 : Nat) : Int)))) ∧ μ'.1 85 = μ.1 85 ∧ rKq μ μ') hg mw_L_law (Or.inl ⟨rfl, rfl⟩) rfl hw (List.forall_mem_cons.mpr ⟨True.intro, (List.forall_mem_cons.mpr ⟨by show 66 < 1048576; omega, (fun _ q => by cases q)⟩)⟩)
    ⟨zk_X9_ask, zm_X9_ask hg 200 (by omega), x1.toInt, K, rfl, zR_i x1, hI, hK, fun v μ' z _ _ hr h9 => ⟨⟨v, rfl⟩, lF_z z rfl, hr, h9, z.1 85 (by decide) rfl, rKq_z (z.2.1 21 rfl) (z.1 82 (by decide) rfl) (z.1 84 (by decide) rfl) (z.1 3000081 (by decide) rfl) (z.1 86 (by decide) rfl) (z.1 87 (by decide) rfl)⟩⟩
  rw [e] at h1
  exact ⟨st', μ', w', lG_z C h1, h2, h4⟩
set_option maxRecDepth 100000 in
set_option maxHeartbeats 2000000 in
theorem lr_told {g : zΓ} {x : lE} {L : Nat} (hg : zg g) (C : lC g x L) {x1 : Int32} {w : mW} {μ : zM} {K : Int} {lv : List (Nat × Value)} (hw : zRep μ w) (hI : zRI μ K) :
    ∃ (st' : List zV) (μ' : zM) (w' : mW), lG g x (437, lv, [.int x1, .ref 66], w) (440, lv, st'.map zt, w') ∧ zRep μ' w' ∧ (∃ v : Int, st' = [.inl v]) ∧ lF μ μ' ∧ zRI μ' K ∧ (μ'.1 66 ((29 : Nat) : Int) = μ.1 66 ((29 : Nat) : Int)) ∧ μ'.1 85 = μ.1 85 ∧ rKq μ μ' := by
  have e : ([.inl x1.toInt, .inr (.inr (66, 66))] : List zV).map zt = [.int x1, .ref 66] := by simp [zt]
  obtain ⟨st', μ', w', h1, h2, h3, h4⟩ := zl_call (sc := some L) (lv := lv) (pc := 437) (ix := 89) (md := 0) (i := .invokevirtual 89) (st := [.inl x1.toInt, .inr (.inr (66, 66))]) (k := fun st' μ' => (∃ v : Int, st' = [.inl v]) ∧ lF μ μ' ∧ zRI μ' K ∧ (μ'.1 66 ((29 : Nat) : Int) = μ.1 66 ((29 : Nat) : Int)) ∧ μ'.1 85 = μ.1 85 ∧ rKq μ μ') hg mw_L_law (Or.inl ⟨rfl, rfl⟩) rfl hw (List.forall_mem_cons.mpr ⟨True.intro, (List.forall_mem_cons.mpr ⟨by show 66 < 1048576; omega, (fun _ q => by cases q)⟩)⟩)
    ⟨zk_X9_told, zm_X9_told hg 200 (by omega), x1.toInt, rfl, zR_i x1, fun v μ' z _ _ => ⟨⟨v, rfl⟩, lF_z z rfl, zRI_z hI z rfl rfl, z.2.1 29 rfl, z.1 85 (by decide) rfl, rKq_z (z.2.1 21 rfl) (z.1 82 (by decide) rfl) (z.1 84 (by decide) rfl) (z.1 3000081 (by decide) rfl) (z.1 86 (by decide) rfl) (z.1 87 (by decide) rfl)⟩⟩
  rw [e] at h1
  exact ⟨st', μ', w', lG_z C h1, h2, h4⟩
set_option maxRecDepth 100000 in
set_option maxHeartbeats 2000000 in
theorem lr_above {g : zΓ} {x : lE} {L : Nat} (hg : zg g) (C : lC g x L)  {w : mW} {μ : zM} {K : Int} {lv : List (Nat × Value)} (hw : zRep μ w) (hI : zRI μ K) (hK : K + 6000 ≤ 1999990000) :
    ∃ (st' : List zV) (μ' : zM) (w' : mW), lG g x (451, lv, [.ref 66], w) (454, lv, st'.map zt, w') ∧ zRep μ' w' ∧ (∃ v : Int, st' = [.inl v]) ∧ lF μ μ' ∧ zRI μ' (K + 6000) ∧ (μ'.1 66 ((29 : Nat) : Int) = 0) ∧ μ'.1 85 = μ.1 85 ∧ rKq μ μ' := by
  have e : ([.inr (.inr (66, 66))] : List zV).map zt = [.ref 66] := by simp [zt]
  obtain ⟨st', μ', w', h1, h2, h3, h4⟩ := zl_call (sc := some L) (lv := lv) (pc := 451) (ix := 93) (md := 0) (i := .invokevirtual 93) (st := [.inr (.inr (66, 66))]) (k := fun st' μ' => (∃ v : Int, st' = [.inl v]) ∧ lF μ μ' ∧ zRI μ' (K + 6000) ∧ (μ'.1 66 ((29 : Nat) : Int) = 0) ∧ μ'.1 85 = μ.1 85 ∧ rKq μ μ') hg mw_L_law (Or.inl ⟨rfl, rfl⟩) rfl hw (List.forall_mem_cons.mpr ⟨by show 66 < 1048576; omega, (fun _ q => by cases q)⟩)
    ⟨zk_X9_above, zm_X9_above hg 200 (by omega), K, rfl, hI, hK, fun v μ' z _ _ hr h9 => ⟨⟨v, rfl⟩, lF_z z rfl, hr, h9, z.1 85 (by decide) rfl, rKq_z (z.2.1 21 rfl) (z.1 82 (by decide) rfl) (z.1 84 (by decide) rfl) (z.1 3000081 (by decide) rfl) (z.1 86 (by decide) rfl) (z.1 87 (by decide) rfl)⟩⟩
  rw [e] at h1
  exact ⟨st', μ', w', lG_z C h1, h2, h4⟩
set_option maxRecDepth 100000 in
set_option maxHeartbeats 2000000 in
theorem lr_variable {g : zΓ} {x : lE} {L : Nat} (hg : zg g) (C : lC g x L) {x1 : Int32} {x2 : Int32} {w : mW} {μ : zM} {K : Int} {lv : List (Nat × Value)} (hw : zRep μ w) (hI : zRI μ K) :
    ∃ (st' : List zV) (μ' : zM) (w' : mW), lG g x (490, lv, [.int x2, .int x1, .ref 66], w) (493, lv, st'.map zt, w') ∧ zRep μ' w' ∧ (∃ v : Int, st' = [.inl v]) ∧ lF μ μ' ∧ zRI μ' K ∧ (μ'.1 66 ((29 : Nat) : Int) = μ.1 66 ((29 : Nat) : Int)) ∧ μ'.1 85 = μ.1 85 ∧ rKq μ μ' := by
  have e : ([.inl x2.toInt, .inl x1.toInt, .inr (.inr (66, 66))] : List zV).map zt = [.int x2, .int x1, .ref 66] := by simp [zt]
  obtain ⟨st', μ', w', h1, h2, h3, h4⟩ := zl_call (sc := some L) (lv := lv) (pc := 490) (ix := 96) (md := 0) (i := .invokevirtual 96) (st := [.inl x2.toInt, .inl x1.toInt, .inr (.inr (66, 66))]) (k := fun st' μ' => (∃ v : Int, st' = [.inl v]) ∧ lF μ μ' ∧ zRI μ' K ∧ (μ'.1 66 ((29 : Nat) : Int) = μ.1 66 ((29 : Nat) : Int)) ∧ μ'.1 85 = μ.1 85 ∧ rKq μ μ') hg mw_L_law (Or.inl ⟨rfl, rfl⟩) rfl hw (List.forall_mem_cons.mpr ⟨True.intro, (List.forall_mem_cons.mpr ⟨True.intro, (List.forall_mem_cons.mpr ⟨by show 66 < 1048576; omega, (fun _ q => by cases q)⟩)⟩)⟩)
    ⟨zk_X9_variable, zm_X9_variable hg 200 (by omega), x1.toInt, x2.toInt, K, rfl, zR_i x1, zR_i x2, hI, fun v μ' z _ _ hr => ⟨⟨v, rfl⟩, lF_z z rfl, hr, z.2.1 29 rfl, z.1 85 (by decide) rfl, rKq_z (z.2.1 21 rfl) (z.1 82 (by decide) rfl) (z.1 84 (by decide) rfl) (z.1 3000081 (by decide) rfl) (z.1 86 (by decide) rfl) (z.1 87 (by decide) rfl)⟩⟩
  rw [e] at h1
  exact ⟨st', μ', w', lG_z C h1, h2, h4⟩
set_option maxRecDepth 100000 in
set_option maxHeartbeats 2000000 in
theorem lr_written {g : zΓ} {x : lE} {L : Nat} (hg : zg g) (C : lC g x L) {x1 : Int32} {w : mW} {μ : zM} {K : Int} {lv : List (Nat × Value)} (hw : zRep μ w) (hI : zRI μ K) :
    ∃ (st' : List zV) (μ' : zM) (w' : mW), lG g x (518, lv, [.int x1, .ref 66], w) (521, lv, st'.map zt, w') ∧ zRep μ' w' ∧ (∃ v : Int, st' = [.inl v]) ∧ lF μ μ' ∧ zRI μ' K ∧ (μ'.1 66 ((29 : Nat) : Int) = μ.1 66 ((29 : Nat) : Int)) ∧ μ'.1 85 = μ.1 85 ∧ rKq μ μ' := by
  have e : ([.inl x1.toInt, .inr (.inr (66, 66))] : List zV).map zt = [.int x1, .ref 66] := by simp [zt]
  obtain ⟨st', μ', w', h1, h2, h3, h4⟩ := zl_call (sc := some L) (lv := lv) (pc := 518) (ix := 99) (md := 0) (i := .invokevirtual 99) (st := [.inl x1.toInt, .inr (.inr (66, 66))]) (k := fun st' μ' => (∃ v : Int, st' = [.inl v]) ∧ lF μ μ' ∧ zRI μ' K ∧ (μ'.1 66 ((29 : Nat) : Int) = μ.1 66 ((29 : Nat) : Int)) ∧ μ'.1 85 = μ.1 85 ∧ rKq μ μ') hg mw_L_law (Or.inl ⟨rfl, rfl⟩) rfl hw (List.forall_mem_cons.mpr ⟨True.intro, (List.forall_mem_cons.mpr ⟨by show 66 < 1048576; omega, (fun _ q => by cases q)⟩)⟩)
    ⟨zk_X9_written, zm_X9_written hg 200 (by omega), x1.toInt, rfl, zR_i x1, fun v μ' z _ _ => ⟨⟨v, rfl⟩, lF_z z rfl, zRI_z hI z rfl rfl, z.2.1 29 rfl, z.1 85 (by decide) rfl, rKq_z (z.2.1 21 rfl) (z.1 82 (by decide) rfl) (z.1 84 (by decide) rfl) (z.1 3000081 (by decide) rfl) (z.1 86 (by decide) rfl) (z.1 87 (by decide) rfl)⟩⟩
  rw [e] at h1
  exact ⟨st', μ', w', lG_z C h1, h2, h4⟩
set_option maxRecDepth 100000 in
set_option maxHeartbeats 2000000 in
theorem lr_clear {g : zΓ} {x : lE} {L : Nat} (hg : zg g) (C : lC g x L)  {w : mW} {μ : zM} {K : Int} {lv : List (Nat × Value)} (hw : zRep μ w) (hI : zRI μ K) (hK : K + 6000 ≤ 1999990000) :
    ∃ (st' : List zV) (μ' : zM) (w' : mW), lG g x (531, lv, [.ref 66], w) (534, lv, st'.map zt, w') ∧ zRep μ' w' ∧ (st' = []) ∧ lF μ μ' ∧ zRI μ' (K + 6000) ∧ (μ'.1 66 ((29 : Nat) : Int) = 0) ∧ μ'.1 85 = μ.1 85 ∧ μ'.1 66 ((21 : Nat) : Int) = 0 := by
  have e : ([.inr (.inr (66, 66))] : List zV).map zt = [.ref 66] := by simp [zt]
  obtain ⟨st', μ', w', h1, h2, h3, h4⟩ := zl_call (sc := some L) (lv := lv) (pc := 531) (ix := 103) (md := 0) (i := .invokevirtual 103) (st := [.inr (.inr (66, 66))]) (k := fun st' μ' => (st' = []) ∧ lF μ μ' ∧ zRI μ' (K + 6000) ∧ (μ'.1 66 ((29 : Nat) : Int) = 0) ∧ μ'.1 85 = μ.1 85 ∧ μ'.1 66 ((21 : Nat) : Int) = 0) hg mw_L_law (Or.inl ⟨rfl, rfl⟩) rfl hw (List.forall_mem_cons.mpr ⟨by show 66 < 1048576; omega, (fun _ q => by cases q)⟩)
    ⟨yk_X9_clear, ym_X9_clear hg 200 (by omega), K + 6000, rfl, hI.1.1.2.2.2.2.2.2, ⟨hI.1.2.2.2.2.1.1, by have := hI.1.2.2.2.2.1.2; have := hI.1.2.2.2.1.2; omega⟩, ⟨hI.2.1, hI.2.2.1, by have := hI.2.2.2.1; omega⟩, hK, fun μ' z hr h9 h20 hA h21 hW => ⟨rfl, lF_z z rfl, hr, h9, z.1 85 (by decide) rfl, h21.1⟩⟩
  rw [e] at h1
  exact ⟨st', μ', w', lG_z C h1, h2, h4⟩
