/-! ### the class's ways are measured -/
def zq7 (μ μ' : zM) : Prop := zqw μ μ' ∧ μ'.1 7 = μ.1 7
theorem zq7_r (μ : zM) : zq7 μ μ := ⟨zqw_r μ, rfl⟩
theorem zq7_t {a b c : zM} (h1 : zq7 a b) (h2 : zq7 b c) : zq7 a c := ⟨zqw_t h1.1 h2.1, h2.2.trans h1.2⟩
theorem zq7_s {μ μ' : zM} {t : Nat} (q : zle μ μ') (f : ∀ j : Nat, j ≠ t → μ'.1 j = μ.1 j) (g : μ'.2 = μ.2) (h3 : (6 ≤ t ∧ t ≤ 13) ∨ (52 ≤ t ∧ t < 66)) (h7 : 7 ≠ t := by decide) : zq7 μ μ' := ⟨zqw_s q f g h3, f 7 h7⟩
theorem zq7_u {μ μ' : zM} {t : Nat} {k x : Int} (he : μ' = zu μ t k x) (h1 : t < 66 ∨ (109 ≤ t ∧ t < 1000000) ∨ (3000000 ≤ t ∧ t < 3000066) ∨ (5000000 ≤ t ∧ t < 5000066)) (h2 : (t ≠ 26 ∧ t ≠ 44) ∨ k ≠ 5) (h3 : (6 ≤ t ∧ t ≤ 13) ∨ (52 ≤ t ∧ t < 66) := by decide) (h7 : 7 ≠ t := by decide) : zq7 μ μ' := ⟨zqw_u he h1 h2 h3, by rw [he, zu_ne h7]⟩
theorem zcp_q7 (μ : zM) : zq7 μ (zcp μ) := ⟨zcp_q μ, rfl⟩
def vk_X7_joinReach : zC := fun As μ Q => ∃ (a1 : Int) (a2 : Int) (a3 : Int), As = [.inr (.inr (6, 6)), .inl a1, .inl a2, .inl a3] ∧ ((-2147483648) ≤ a1 ∧ a1 ≤ 2147483647) ∧ ((-2147483648) ≤ a2 ∧ a2 ≤ 2147483647) ∧ ((-2147483648) ≤ a3 ∧ a3 ≤ 2147483647) ∧ (∀ (μ' : zM), zq7 μ μ' → Q none μ')
set_option maxHeartbeats 4000000 in
theorem vm_X7_joinReach {g : zΓ} (hg : zg g) (d : Nat) (hd : 2 ≤ d) : zOk g d 93 vk_X7_joinReach := by
  obtain ⟨d, rfl⟩ : ∃ d', d = d' + 1 := ⟨d - 1, by omega⟩
  refine zOk_loop hg (show mt_tab[93]? = some mt_X7_joinReach from rfl) ([(3, [0, 1, 2, 3, 4])], [16, 19, 33, 36]) 31 rfl fun As μ Q hC => ?_
  obtain ⟨a1, a2, a3, rfl, ha1, ha2, ha3, hQ⟩ := hC
  have z0 : zq7 μ μ := zq7_r μ
  refine ⟨rfl, fun pc vs μ' n => ∃ (v1 : Int) (v2 : Int) (v3 : Int) (v4 : Int), vs = [.inr (.inr (6, 6)), .inl v1, .inl v2, .inl v3, .inl v4] ∧ zq7 μ μ' ∧ ((-2147483648) ≤ v1 ∧ v1 ≤ 2147483647) ∧ ((-2147483648) ≤ v2 ∧ v2 ≤ 2147483647) ∧ ((-2147483648) ≤ v3 ∧ v3 ≤ 2147483647) ∧ (0 ≤ v4 ∧ v4 ≤ 2147483647) ∧ n = (Int.toNat (2147483648 - v4)), ?_, ?_, trivial⟩
  · refine Exists.intro (Int.toNat (2147483648 - 0)) ?_
    exact ⟨_, _, _, _, rfl, z0, ⟨by omega, by omega⟩, ⟨by omega, by omega⟩, ⟨by omega, by omega⟩, ⟨by omega, by omega⟩, rfl⟩
  · intro vs m0 n hI
    clear z0
    obtain ⟨v1, v2, v3, v4, rfl, z0, hv1, hv2, hv3, hv4, rfl⟩ := hI
    refine And.intro ⟨⟨by omega, by omega⟩, ⟨by omega, by omega⟩⟩ (And.intro (fun c1 => ?_) (fun c1 => ?_))
    · exact And.intro rfl (hQ _ z0)
    · intro x2 hx2 kx2 lx2
      intro x3 hx3 kx3 lx3
      refine ⟨zk_X8_at, zm_X8_at hg d (by omega), _, _, _, rfl, ⟨by omega, by omega⟩, ?_⟩
      intro x4 kx4 lx4 fx4 gx4
      refine And.intro ⟨by omega, by omega⟩ (And.intro (fun c5 => ?_) (fun c5 => ?_))
      · refine Exists.intro (Int.toNat (2147483648 - (v4 + 1))) (And.intro (by omega) ?_)
        exact ⟨_, _, _, _, rfl, z0, ⟨by omega, by omega⟩, ⟨by omega, by omega⟩, ⟨by omega, by omega⟩, ⟨by omega, by omega⟩, rfl⟩
      · intro x6 hx6 kx6 lx6
        intro x7 hx7 kx7 lx7
        refine ⟨zk_X8_set, zm_X8_set hg d (by omega), _, _, _, _, rfl, ⟨by omega, by omega⟩, ?_⟩
        refine And.intro ⟨by omega, by omega⟩ ?_
        intro m8 qm8 fm8 gm8
        have z9 := zq7_t z0 (zq7_s qm8 fm8 gm8 (by decide))
        refine Exists.intro (Int.toNat (2147483648 - (v4 + 1))) (And.intro (by omega) ?_)
        exact ⟨_, _, _, _, rfl, z9, ⟨by omega, by omega⟩, ⟨by omega, by omega⟩, ⟨by omega, by omega⟩, ⟨by omega, by omega⟩, rfl⟩
def vk_X7_closeReach : zC := fun As μ Q => ∃ (a1 : Int), As = [.inr (.inr (6, 6)), .inl a1] ∧ ((-2147483648) ≤ a1 ∧ a1 ≤ 2147483647) ∧ (∀ (μ' : zM), zq7 μ μ' → Q none μ')
theorem zcr_q7 {g : zΓ} (hg : zg g) (d : Nat) (hd : 2 ≤ d) (a1 : Int) (ha1 : (-2147483648) ≤ a1 ∧ a1 ≤ 2147483647) (μ : zM) (Q : Option zV → zM → Prop) (hQ : ∀ μ' : zM, zq7 μ μ' → Q none μ') : ∃ Inv : Nat → List zV → zM → Nat → Prop, zw (zOk g d) mt_X7_closeReach ([(20, [0, 1, 2]), (27, [0, 1, 2, 3])], [39, 41]) (fun pc vs μ' => ∃ n, Inv pc vs μ' n) Q (fun _ _ => False) 60 false (zsuf 18 mt_X7_closeReach.2.2.2.2.1) [(0, .inr (.inr (6, 6))), (1, .inl a1)] [] μ ∧
      zAll [(20, [0, 1, 2]), (27, [0, 1, 2, 3])] (fun pc ks => ∀ vs μ' n, Inv pc vs μ' n → zw (zOk g d) mt_X7_closeReach ([(20, [0, 1, 2]), (27, [0, 1, 2, 3])], [39, 41]) (fun pc' vs' μ'' => ∃ n', n' < n ∧ Inv pc' vs' μ'' n') Q (fun _ _ => False) 60 true (zsuf pc mt_X7_closeReach.2.2.2.2.1) (zzip ks vs) [] μ') := by
  have z0 := zq7_r μ
  refine ⟨fun pc vs μ' n => (pc = 20 → ∃ (v1 : Int) (v2 : Int), vs = [.inr (.inr (6, 6)), .inl v1, .inl v2] ∧ zq7 μ μ' ∧ ((-2147483648) ≤ v1 ∧ v1 ≤ 2147483647) ∧ (0 ≤ v2 ∧ v2 ≤ 2147483647) ∧ n = (Int.toNat ((2147483648 - v2) * 4294967296 + 4294967295))) ∧ (pc = 27 → ∃ (v1 : Int) (v2 : Int) (v3 : Int), vs = [.inr (.inr (6, 6)), .inl v1, .inl v2, .inl v3] ∧ zq7 μ μ' ∧ ((-2147483648) ≤ v1 ∧ v1 ≤ 2147483647) ∧ (0 ≤ v2 ∧ v2 ≤ 2147483646) ∧ (0 ≤ v3 ∧ v3 ≤ 2147483647) ∧ n = (Int.toNat ((2147483648 - v2) * 4294967296 + (2147483648 - v3)))), ?_, ?_, ?_, trivial⟩
  · refine Exists.intro (Int.toNat ((2147483648 - 0) * 4294967296 + 4294967295)) ?_
    exact ⟨(fun _ => ⟨_, _, rfl, z0, ⟨by omega, by omega⟩, ⟨by omega, by omega⟩, rfl⟩), (fun h => absurd h (by decide))⟩
  · intro vs m0 n hI
    replace hI := hI.1 rfl
    clear z0
    obtain ⟨v1, v2, rfl, z0, hv1, hv2, rfl⟩ := hI
    refine And.intro ⟨⟨by omega, by omega⟩, ⟨by omega, by omega⟩⟩ (And.intro (fun c1 => ?_) (fun c1 => ?_))
    · exact And.intro rfl (hQ _ z0)
    · refine Exists.intro (Int.toNat ((2147483648 - v2) * 4294967296 + (2147483648 - 0))) (And.intro (by omega) ?_)
      exact ⟨(fun h => absurd h (by decide)), (fun _ => ⟨_, _, _, rfl, z0, ⟨by omega, by omega⟩, ⟨by omega, by omega⟩, ⟨by omega, by omega⟩, rfl⟩)⟩
  · intro vs m0 n hI
    replace hI := hI.2 rfl
    clear z0
    obtain ⟨v1, v2, v3, rfl, z0, hv1, hv2, hv3, rfl⟩ := hI
    refine And.intro ⟨⟨by omega, by omega⟩, ⟨by omega, by omega⟩⟩ (And.intro (fun c2 => ?_) (fun c2 => ?_))
    · refine Exists.intro (Int.toNat ((2147483648 - (v2 + 1)) * 4294967296 + 4294967295)) (And.intro (by omega) ?_)
      exact ⟨(fun _ => ⟨_, _, rfl, z0, ⟨by omega, by omega⟩, ⟨by omega, by omega⟩, rfl⟩), (fun h => absurd h (by decide))⟩
    · intro x3 hx3 kx3 lx3
      intro x4 hx4 kx4 lx4
      refine ⟨zk_X8_at, zm_X8_at hg d (by omega), _, _, _, rfl, ⟨by omega, by omega⟩, ?_⟩
      intro x5 kx5 lx5 fx5 gx5
      refine And.intro ⟨by omega, by omega⟩ (And.intro (fun c6 => ?_) (fun c6 => ?_))
      · refine Exists.intro (Int.toNat ((2147483648 - v2) * 4294967296 + (2147483648 - (v3 + 1)))) (And.intro (by omega) ?_)
        exact ⟨(fun h => absurd h (by decide)), (fun _ => ⟨_, _, _, rfl, z0, ⟨by omega, by omega⟩, ⟨by omega, by omega⟩, ⟨by omega, by omega⟩, rfl⟩)⟩
      · refine ⟨vk_X7_joinReach, vm_X7_joinReach hg d (by omega), _, _, _, rfl, ⟨by omega, by omega⟩, ⟨by omega, by omega⟩, ⟨by omega, by omega⟩, ?_⟩
        intro m7 qm7
        have z8 := zq7_t z0 qm7
        refine Exists.intro (Int.toNat ((2147483648 - v2) * 4294967296 + (2147483648 - (v3 + 1)))) (And.intro (by omega) ?_)
        exact ⟨(fun h => absurd h (by decide)), (fun _ => ⟨_, _, _, rfl, z8, ⟨by omega, by omega⟩, ⟨by omega, by omega⟩, ⟨by omega, by omega⟩, rfl⟩)⟩
theorem vm_X7_closeReach {g : zΓ} (hg : zg g) (d : Nat) (hd : 3 ≤ d) : zOk g d 92 vk_X7_closeReach := by
  obtain ⟨d, rfl⟩ : ∃ d', d = d' + 1 := ⟨d - 1, by omega⟩
  have hM : mt_tab[92]? = some mt_X7_closeReach := rfl
  have hG := zg_go hg
  have hmem := List.mem_of_getElem? (zg_at hg hM)
  refine zOk_of hG (zg_at hg hM) fun As μ Q w hw hr hC => ?_
  obtain ⟨a1, rfl, ha1, hQ⟩ := hC
  refine ⟨rfl, ?_⟩
  obtain ⟨c6, q6, fs, rfl, fl, f1, f2, f3⟩ := hw.2.2.1 6 _ (show znth zcl 6 = some (.inl 7) from rfl)
  cases (show some zfl7 = some fl from f1)
  have len : fs.length = 4 := f2
  obtain ⟨v0, hv0⟩ : ∃ v, fs[0]? = some v := ⟨fs[0], by simp [len]⟩
  obtain ⟨v1, hv1⟩ : ∃ v, fs[1]? = some v := ⟨fs[1], by simp [len]⟩
  obtain ⟨j0, rfl, -, rfl⟩ := f3 0 (.inr (.inr (.inl (1, 7)))) v0 rfl hv0
  obtain ⟨j1, rfl, -, rfl⟩ := f3 1 (.inr (.inr (.inl (2, 8)))) v1 rfl hv1
  obtain ⟨c7, q7, -, a, rfl, -⟩ := hw.2.2.1 7 _ (show znth zcl 7 = some (.inr (0, 6400, -2147483648, 2147483647)) from rfl)
  obtain ⟨c8, q8, -, b, rfl, -⟩ := hw.2.2.1 8 _ (show znth zcl 8 = some (.inr (0, 6400, -2147483648, 2147483647)) from rfl)
  have hl8 : 8 < w.1.length := (List.getElem?_eq_some_iff.mp q8).1
  have ld : ∀ st : List Value, mx_loc 4 (.aload_n 0) [(0, .ref 6), (1, .int (Int32.ofInt a1))] st = some ([(0, .ref 6), (1, .int (Int32.ofInt a1))], .ref 6 :: st) := fun st => rfl
  refine zE_step (zs_loc (i := .aload_n 0) hG hmem rfl rfl (ld _)) ?_
  refine zE_step (zs_mem (i := .getfield 9) hG hmem rfl rfl rfl rfl (zgetf (tt := 0) (ci := 7) (kf := 0) rfl q6 hv0 rfl)) ?_
  refine zE_step (zs_pure (i := .iconst 0) hG hmem rfl rfl) ?_
  refine zE_step (zs_loc (i := .aload_n 0) hG hmem rfl rfl (ld _)) ?_
  refine zE_step (zs_mem (i := .getfield 15) hG hmem rfl rfl rfl rfl (zgetf (tt := 0) (ci := 7) (kf := 1) rfl q6 hv1 rfl)) ?_
  refine zE_step (zs_pure (i := .iconst 0) hG hmem rfl rfl) ?_
  refine zE_step (zs_loc (i := .aload_n 0) hG hmem rfl rfl (ld _)) ?_
  refine zE_step (zs_mem (i := .getfield 15) hG hmem rfl rfl rfl rfl (zgetf (tt := 0) (ci := 7) (kf := 1) rfl q6 hv1 rfl)) ?_
  have al : ∀ st : List Value, mx_mem g.1 none mt_X7_closeReach.2.2.2.2.2.2 mt_X7_closeReach.2.2.2.2.2.1 .arraylength (.ref 8 :: st) w = some (.int (Int32.ofNat 6400) :: st, w) := fun st => by
    simp only [mx_mem, q8]
    rfl
  refine zE_step (zs_mem (i := .arraylength) hG hmem rfl rfl rfl rfl (al _)) ?_
  have jp : mo_copy (15, [(0, .ref 6), (1, .int (Int32.ofInt a1))], [.int (Int32.ofNat 6400), .int (Int32.ofInt 0), .ref 8, .int (Int32.ofInt 0), .ref 7], w) = some (18, [(0, .ref 6), (1, .int (Int32.ofInt a1))], [], (w.1.set 8 (.inr ((0, 6400), .inl a)), w.2)) := by
    unfold mo_copy
    dsimp only
    rw [q7]
    dsimp only
    rw [q8]
    rfl
  refine zE_step (σ1 := (18, [(0, .ref 6), (1, .int (Int32.ofInt a1))], [], (w.1.set 8 (.inr ((0, 6400), .inl a)), w.2))) ⟨⟨by simp, Nat.le_refl _⟩, fun p e R s m args below meth c H0 X => (mo_copy_jmp X _ _ jp).2⟩ ?_
  obtain ⟨Inv, h1, h2⟩   := zcr_q7 hg d (by omega) a1 ha1 (zcp μ) Q (fun μ' hz => hQ μ' (zq7_t (zcp_q7 μ) hz))
  obtain ⟨q, r, e1, e2⟩ := zw_ok (sc := none) (w := (w.1.set 8 (.inr ((0, 6400), .inl a)), w.2)) hG hmem (fun _ _ q => q) 60 h1 (zsuf_suf _ _) (zRep_copy hw q7 hl8) ⟨List.forall_mem_cons.mpr ⟨by show 6 < 1048576; omega, List.forall_mem_cons.mpr ⟨True.intro, fun _ q => by cases q⟩⟩, fun v hv => by cases hv⟩
  have e3 := zsuf_pc e1
  rw [e3] at e2
  obtain ⟨σ', μ', g1, g2, g3⟩ := e2
  rcases g3 with ⟨ks', vs', k1, k2, k3, k4, k5, n', hI'⟩ | g3 | g3
  · exact zE_step g1 (zloop hG hmem (fun _ _ q => q) (fun pc ks vs μ' n e1 _ e3 => zAll_at h2 e1 vs μ' n e3) n' σ' μ' ks' vs' k1 k2 k3 k4 k5 g2 hI')
  · exact ⟨σ', μ', g1, g2, Or.inr (Or.inl g3)⟩
  · exact ⟨σ', μ', g1, g2, Or.inr (Or.inr g3)⟩
def vk_X7_markRound : zC := fun As μ Q => ∃ (a1 : Int) (a2 : Int), As = [.inr (.inr (6, 6)), .inl a1, .inl a2] ∧ ((-2147483648) ≤ a1 ∧ a1 ≤ 2147483647) ∧ ((-2147483648) ≤ a2 ∧ a2 ≤ 2147483647) ∧ (∀ (μ' : zM), zq7 μ μ' → Q none μ')
set_option maxHeartbeats 4000000 in
theorem vm_X7_markRound {g : zΓ} (hg : zg g) (d : Nat) (hd : 3 ≤ d) : zOk g d 95 vk_X7_markRound := by
  obtain ⟨d, rfl⟩ : ∃ d', d = d' + 1 := ⟨d - 1, by omega⟩
  refine zOk_loop hg (show mt_tab[95]? = some mt_X7_markRound from rfl) ([(2, [0, 1, 2, 3])], []) 28 rfl fun As μ Q hC => ?_
  obtain ⟨a1, a2, rfl, ha1, ha2, hQ⟩ := hC
  have z0 : zq7 μ μ := zq7_r μ
  refine ⟨rfl, fun pc vs μ' n => ∃ (v1 : Int) (v2 : Int) (v3 : Int), vs = [.inr (.inr (6, 6)), .inl v1, .inl v2, .inl v3] ∧ zq7 μ μ' ∧ ((-2147483648) ≤ v1 ∧ v1 ≤ 2147483647) ∧ ((-2147483648) ≤ v2 ∧ v2 ≤ 2147483647) ∧ (0 ≤ v3 ∧ v3 ≤ 2147483647) ∧ n = (Int.toNat (2147483648 - v3)), ?_, ?_, trivial⟩
  · refine Exists.intro (Int.toNat (2147483648 - 0)) ?_
    exact ⟨_, _, _, rfl, z0, ⟨by omega, by omega⟩, ⟨by omega, by omega⟩, ⟨by omega, by omega⟩, rfl⟩
  · intro vs m0 n hI
    clear z0
    obtain ⟨v1, v2, v3, rfl, z0, hv1, hv2, hv3, rfl⟩ := hI
    refine And.intro ⟨⟨by omega, by omega⟩, ⟨by omega, by omega⟩⟩ (And.intro (fun c1 => ?_) (fun c1 => ?_))
    · exact And.intro rfl (hQ _ z0)
    · refine ⟨zk_X7_leads, zm_X7_leads hg d (by omega), _, _, rfl, ⟨by omega, by omega⟩, ⟨by omega, by omega⟩, ?_⟩
      intro x2 kx2 lx2
      refine And.intro ⟨by omega, by omega⟩ (And.intro (fun c3 => ?_) (fun c3 => ?_))
      · refine Exists.intro (Int.toNat (2147483648 - (v3 + 1))) (And.intro (by omega) ?_)
        exact ⟨_, _, _, rfl, z0, ⟨by omega, by omega⟩, ⟨by omega, by omega⟩, ⟨by omega, by omega⟩, rfl⟩
      · refine ⟨zk_X7_leads, zm_X7_leads hg d (by omega), _, _, rfl, ⟨by omega, by omega⟩, ⟨by omega, by omega⟩, ?_⟩
        intro x4 kx4 lx4
        refine And.intro ⟨by omega, by omega⟩ (And.intro (fun c5 => ?_) (fun c5 => ?_))
        · refine Exists.intro (Int.toNat (2147483648 - (v3 + 1))) (And.intro (by omega) ?_)
          exact ⟨_, _, _, rfl, z0, ⟨by omega, by omega⟩, ⟨by omega, by omega⟩, ⟨by omega, by omega⟩, rfl⟩
        · refine ⟨zk_X8_set, zm_X8_set hg d (by omega), _, _, _, _, rfl, ⟨by omega, by omega⟩, ?_⟩
          refine And.intro ⟨by omega, by omega⟩ ?_
          intro m6 qm6 fm6 gm6
          have z7 := zq7_t z0 (zq7_s qm6 fm6 gm6 (by decide))
          refine Exists.intro (Int.toNat (2147483648 - (v3 + 1))) (And.intro (by omega) ?_)
          exact ⟨_, _, _, rfl, z7, ⟨by omega, by omega⟩, ⟨by omega, by omega⟩, ⟨by omega, by omega⟩, rfl⟩
def vk_X7_markRounds : zC := fun As μ Q => ∃ (a1 : Int), As = [.inr (.inr (6, 6)), .inl a1] ∧ ((-2147483648) ≤ a1 ∧ a1 ≤ 2147483647) ∧ (∀ (μ' : zM), zq7 μ μ' → Q none μ')
set_option maxHeartbeats 4000000 in
theorem vm_X7_markRounds {g : zΓ} (hg : zg g) (d : Nat) (hd : 4 ≤ d) : zOk g d 94 vk_X7_markRounds := by
  obtain ⟨d, rfl⟩ : ∃ d', d = d' + 1 := ⟨d - 1, by omega⟩
  refine zOk_loop hg (show mt_tab[94]? = some mt_X7_markRounds from rfl) ([(2, [0, 1, 2]), (9, [0, 1, 2, 3])], [21, 23]) 42 rfl fun As μ Q hC => ?_
  obtain ⟨a1, rfl, ha1, hQ⟩ := hC
  have z0 : zq7 μ μ := zq7_r μ
  refine ⟨rfl, fun pc vs μ' n => (pc = 2 → ∃ (v1 : Int) (v2 : Int), vs = [.inr (.inr (6, 6)), .inl v1, .inl v2] ∧ zq7 μ μ' ∧ ((-2147483648) ≤ v1 ∧ v1 ≤ 2147483647) ∧ (0 ≤ v2 ∧ v2 ≤ 2147483647) ∧ n = (Int.toNat ((2147483648 - v2) * 4294967296 + 4294967295))) ∧ (pc = 9 → ∃ (v1 : Int) (v2 : Int) (v3 : Int), vs = [.inr (.inr (6, 6)), .inl v1, .inl v2, .inl v3] ∧ zq7 μ μ' ∧ ((-2147483648) ≤ v1 ∧ v1 ≤ 2147483647) ∧ (0 ≤ v2 ∧ v2 ≤ 2147483646) ∧ (0 ≤ v3 ∧ v3 ≤ 2147483647) ∧ n = (Int.toNat ((2147483648 - v2) * 4294967296 + (2147483648 - v3)))), ?_, ?_, ?_, trivial⟩
  · refine Exists.intro (Int.toNat ((2147483648 - 0) * 4294967296 + 4294967295)) ?_
    exact ⟨(fun _ => ⟨_, _, rfl, z0, ⟨by omega, by omega⟩, ⟨by omega, by omega⟩, rfl⟩), (fun h => absurd h (by decide))⟩
  · intro vs m0 n hI
    replace hI := hI.1 rfl
    clear z0
    obtain ⟨v1, v2, rfl, z0, hv1, hv2, rfl⟩ := hI
    refine And.intro ⟨⟨by omega, by omega⟩, ⟨by omega, by omega⟩⟩ (And.intro (fun c1 => ?_) (fun c1 => ?_))
    · exact And.intro rfl (hQ _ z0)
    · refine Exists.intro (Int.toNat ((2147483648 - v2) * 4294967296 + (2147483648 - 0))) (And.intro (by omega) ?_)
      exact ⟨(fun h => absurd h (by decide)), (fun _ => ⟨_, _, _, rfl, z0, ⟨by omega, by omega⟩, ⟨by omega, by omega⟩, ⟨by omega, by omega⟩, rfl⟩)⟩
  · intro vs m0 n hI
    replace hI := hI.2 rfl
    clear z0
    obtain ⟨v1, v2, v3, rfl, z0, hv1, hv2, hv3, rfl⟩ := hI
    refine And.intro ⟨⟨by omega, by omega⟩, ⟨by omega, by omega⟩⟩ (And.intro (fun c2 => ?_) (fun c2 => ?_))
    · refine Exists.intro (Int.toNat ((2147483648 - (v2 + 1)) * 4294967296 + 4294967295)) (And.intro (by omega) ?_)
      exact ⟨(fun _ => ⟨_, _, rfl, z0, ⟨by omega, by omega⟩, ⟨by omega, by omega⟩, rfl⟩), (fun h => absurd h (by decide))⟩
    · intro x3 hx3 kx3 lx3
      intro x4 hx4 kx4 lx4
      refine ⟨zk_X8_at, zm_X8_at hg d (by omega), _, _, _, rfl, ⟨by omega, by omega⟩, ?_⟩
      intro x5 kx5 lx5 fx5 gx5
      refine And.intro ⟨⟨by omega, by omega⟩, ⟨by omega, by omega⟩⟩ (And.intro (fun c6 => ?_) (fun c6 => ?_))
      · refine Exists.intro (Int.toNat ((2147483648 - v2) * 4294967296 + (2147483648 - (v3 + 1)))) (And.intro (by omega) ?_)
        exact ⟨(fun h => absurd h (by decide)), (fun _ => ⟨_, _, _, rfl, z0, ⟨by omega, by omega⟩, ⟨by omega, by omega⟩, ⟨by omega, by omega⟩, rfl⟩)⟩
      · refine ⟨zk_X7_leads, zm_X7_leads hg d (by omega), _, _, rfl, ⟨by omega, by omega⟩, ⟨by omega, by omega⟩, ?_⟩
        intro x7 kx7 lx7
        refine And.intro ⟨by omega, by omega⟩ (And.intro (fun c8 => ?_) (fun c8 => ?_))
        · refine Exists.intro (Int.toNat ((2147483648 - v2) * 4294967296 + (2147483648 - (v3 + 1)))) (And.intro (by omega) ?_)
          exact ⟨(fun h => absurd h (by decide)), (fun _ => ⟨_, _, _, rfl, z0, ⟨by omega, by omega⟩, ⟨by omega, by omega⟩, ⟨by omega, by omega⟩, rfl⟩)⟩
        · refine And.intro ⟨by omega, by omega⟩ ?_
          intro m9 em9
          have z10 := zq7_t z0 (zq7_u em9 (Or.inl (by decide)) (Or.inl ⟨by decide, by decide⟩))
          refine ⟨vk_X7_markRound, vm_X7_markRound hg d (by omega), _, _, rfl, ⟨by omega, by omega⟩, ⟨by omega, by omega⟩, ?_⟩
          intro m11 qm11
          have z12 := zq7_t z10 qm11
          refine Exists.intro (Int.toNat ((2147483648 - v2) * 4294967296 + (2147483648 - (v3 + 1)))) (And.intro (by omega) ?_)
          exact ⟨(fun h => absurd h (by decide)), (fun _ => ⟨_, _, _, rfl, z12, ⟨by omega, by omega⟩, ⟨by omega, by omega⟩, ⟨by omega, by omega⟩, rfl⟩)⟩
def vk_X8_isClass : zC := fun As μ Q => ∃ (a1 : Int), As = [.inl a1] ∧ ((-2147483648) ≤ a1 ∧ a1 ≤ 2147483647) ∧ (∀ (v : Int), 0 ≤ v → v ≤ 1 → ((v = 1 ∧ (0 ≤ a1 ∧ a1 < 21)) ∨ (v = 0 ∧ ¬ (0 ≤ a1 ∧ a1 < 21))) → Q (some (.inl v)) μ)
set_option maxHeartbeats 4000000 in
theorem vm_X8_isClass {g : zΓ} (hg : zg g) (d : Nat) (hd : 1 ≤ d) : zOk g d 114 vk_X8_isClass := by
  obtain ⟨d, rfl⟩ : ∃ d', d = d' + 1 := ⟨d - 1, by omega⟩
  refine zOk_straight hg (show mt_tab[114]? = some mt_X8_isClass from rfl) [] 14 rfl fun As μ Q hC => ?_
  obtain ⟨a1, rfl, ha1, hQ⟩ := hC
  refine ⟨rfl, ?_⟩
  refine And.intro ⟨by omega, by omega⟩ (And.intro (fun c1 => ?_) (fun c1 => ?_))
  · exact And.intro (zrtb (by omega)) (And.intro ⟨by omega, by omega⟩ (hQ _ (by omega) (by omega) (by first | exact Or.inl ⟨rfl, by omega⟩ | exact Or.inr ⟨rfl, by omega⟩)))
  · refine And.intro ⟨⟨by omega, by omega⟩, ⟨by omega, by omega⟩⟩ (And.intro (fun c2 => ?_) (fun c2 => ?_))
    · exact And.intro (zrtb (by omega)) (And.intro ⟨by omega, by omega⟩ (hQ _ (by omega) (by omega) (by first | exact Or.inl ⟨rfl, by omega⟩ | exact Or.inr ⟨rfl, by omega⟩)))
    · exact And.intro (zrtb (by omega)) (And.intro ⟨by omega, by omega⟩ (hQ _ (by omega) (by omega) (by first | exact Or.inl ⟨rfl, by omega⟩ | exact Or.inr ⟨rfl, by omega⟩)))
def gk_X7_addWays : zC := fun As μ Q => ∃ (a1 : Nat) (a2 a3 a4 : Int), As = [.inr (.inr (6, 6)), .inr (.inr (a1, 25)), .inl a2, .inl a3, .inl a4] ∧ (a1 = 25 ∨ a1 = 43) ∧ (0 ≤ a2 ∧ a2 ≤ a3 ∧ a3 ≤ 300) ∧ (0 ≤ a4 ∧ a4 < 80) ∧ vRg μ ∧ (∀ (μ' : zM), zqw μ μ' → (∀ g : Int, ((g = 2 ∧ 1 < a3 - a2) ∨ (g = 1 ∧ a3 - a2 ≤ 1)) → vWa μ μ' a1 a2 a3 a4 g) → Q none μ')
set_option maxHeartbeats 4000000 in
theorem gm_X7_addWays {g : zΓ} (hg : zg g) (d : Nat) (hd : 2 ≤ d) : zOk g d 91 gk_X7_addWays := by
  obtain ⟨d, rfl⟩ : ∃ d', d = d' + 1 := ⟨d - 1, by omega⟩
  refine zOk_loop hg (show mt_tab[91]? = some mt_X7_addWays from rfl) ([(17, [0, 1, 3, 4, 5, 6])], []) 47 rfl fun As μ Q hC => ?_
  obtain ⟨a1, a2, a3, a4, rfl, ha1, ha2, ha4, hrg, hQ⟩ := hC
  have z0 : zqw μ μ := zqw_r μ
  have a7 : a1 ≠ 7 := by omega
  refine ⟨rfl, fun pc vs μ' n => ∃ (v5 v6 : Int), vs = [.inr (.inr (6, 6)), .inr (.inr (a1, 25)), .inl a3, .inl a4, .inl v5, .inl v6] ∧ zqw μ μ' ∧ (∀ j : Nat, j ≠ 7 → μ'.1 j = μ.1 j) ∧ ((v5 = 2 ∧ 1 < a3 - a2) ∨ (v5 = 1 ∧ a3 - a2 ≤ 1)) ∧ (a2 ≤ v6 ∧ v6 ≤ a3) ∧ vWa μ μ' a1 a2 v6 a4 v5 ∧ n = (Int.toNat (2147483648 - v6)), ?_, ?_, trivial⟩
  · refine And.intro ⟨⟨by omega, by omega⟩, ⟨by omega, by omega⟩⟩ (And.intro (fun c2 => ?_) (fun c2 => ?_))
    · refine Exists.intro (Int.toNat (2147483648 - a2)) ?_
      exact ⟨_, _, rfl, z0, fun _ _ => rfl, Or.inr ⟨rfl, c2⟩, ⟨Int.le_refl _, ha2.2.1⟩, vWa_0 hrg, rfl⟩
    · refine Exists.intro (Int.toNat (2147483648 - a2)) ?_
      exact ⟨_, _, rfl, z0, fun _ _ => rfl, Or.inl ⟨rfl, c2⟩, ⟨Int.le_refl _, ha2.2.1⟩, vWa_0 hrg, rfl⟩
  · intro vs m0 n hI
    clear z0
    obtain ⟨v5, v6, rfl, z0, fr, h5, h6, W, rfl⟩ := hI
    refine And.intro ⟨⟨by omega, by omega⟩, ⟨by omega, by omega⟩⟩ (And.intro (fun c3 => ?_) (fun c3 => ?_))
    · refine And.intro rfl (hQ _ z0 (fun g hg' => ?_))
      have e1 : g = v5 := by omega
      have e2 : v6 = a3 := by omega
      rw [e1, ← e2]; exact W
    · refine ⟨zk_X8_at, zm_X8_at hg d (by omega), _, _, _, rfl, ⟨by omega, by omega⟩, ?_⟩
      refine And.intro ha1 ?_
      intro x5 kx5 lx5 fx5 gx5
      have hx5 : x5 = μ.1 a1 v6 := by rw [← fr a1 a7]; exact (fx5 ⟨by omega, by omega⟩).1
      refine ⟨yk_X8_isParameter, ym_X8_isParameter hg d (by omega), _, rfl, ⟨by omega, by omega⟩, ?_⟩
      intro x6 kx6 lx6 p6
      refine And.intro ⟨by omega, by omega⟩ (And.intro (fun c7 => ?_) (fun c7 => ?_))
      · refine Exists.intro (Int.toNat (2147483648 - (v6 + 1))) (And.intro (by omega) ?_)
        exact ⟨_, _, rfl, z0, fr, h5, ⟨by omega, by omega⟩, vWa_n W (by rw [← hx5]; omega), rfl⟩
      · refine ⟨zk_X8_at, zm_X8_at hg d (by omega), _, _, _, rfl, ⟨by omega, by omega⟩, ?_⟩
        intro x11 kx11 lx11 fx11 gx11
        have hx11 : x11 = m0.1 7 ((x5 - 32) * 80 + a4) := (fx11 ⟨by omega, by omega⟩).1
        refine ⟨zk_J9_max_7cf53, zm_J9_max_7cf53 hg d (by omega), _, _, rfl, ⟨by omega, by omega⟩, ⟨by omega, by omega⟩, ?_⟩
        intro x12 kx12 lx12 p13 p14 p15
        refine ⟨yk_X8_set, ym_X8_set hg d (by omega), _, _, _, _, rfl, ⟨by omega, by omega⟩, ?_⟩
        refine And.intro ⟨by omega, by omega⟩ (And.intro ⟨by omega, by omega⟩ ?_)
        intro m16 qm16 em16
        have z17 := zqw_t z0 (zqw_s qm16 (fun j hj => by rw [em16, zu_ne hj]) (by rw [em16]; rfl) (by decide))
        refine Exists.intro (Int.toNat (2147483648 - (v6 + 1))) (And.intro (by omega) ?_)
        exact ⟨_, _, rfl, z17, fun j hj => by rw [em16, zu_ne hj]; exact fr j hj, h5, ⟨by omega, by omega⟩, vWa_s W h6.1 ha4 (by omega) ⟨by omega, by omega⟩ hx5.symm em16 p13 (by rw [← hx11]; exact p14) (by rw [← hx11]; exact p15), rfl⟩
def yMe (μ : zM) (t : Nat) (B : yB) : Prop := yRB μ t B ∧ yRS μ t (B.1 0 2) B ∧ yCv μ t (B.1 0 2) B ∧ μ.1 t ((14 : Nat) : Int) = B.1 0 2 ∧ (0 ≤ B.1 0 2 ∧ B.1 0 2 ≤ 300) ∧ yI0 B
def gk_X7_measure : zC := fun As μ Q => ∃ (a1 : Nat) (B : yB), As = [.inr (.inr (6, 6)), .inr (.inr (a1, 14))] ∧ (a1 = 14 ∨ a1 = 32) ∧ yMe μ a1 B ∧ μ.2 7 = 6400 ∧ yGd B ∧ (∀ (μ' : zM), zqw μ μ' → cWf μ' B → Q none μ')
set_option maxHeartbeats 4000000 in
theorem gm_X7_measure {g : zΓ} (hg : zg g) (d : Nat) (hd : 5 ≤ d) : zOk g d 90 gk_X7_measure := by
  obtain ⟨d, rfl⟩ : ∃ d', d = d' + 1 := ⟨d - 1, by omega⟩
  refine zOk_loop hg (show mt_tab[90]? = some mt_X7_measure from rfl) ([(23, [0, 1, 2]), (48, [0, 1, 2, 3, 4, 5])], []) 72 rfl fun As μ Q hC => ?_
  obtain ⟨a1, B, rfl, ha1, ⟨hB, hS, hC, h14, hN, hI0⟩, h7, hG, hQ⟩ := hC
  have z0 : zqw μ μ := zqw_r μ
  have C21 := hI0.1.1.2
  refine ⟨rfl, fun pc vs μ' n => (pc = 23 → ∃ (v2 : Int), vs = [.inr (.inr (6, 6)), .inr (.inr (a1, 14)), .inl v2] ∧ zqw μ μ' ∧ (0 ≤ v2 ∧ v2 ≤ B.1 0 2) ∧ yWa μ μ' a1 B v2 ∧ n = (Int.toNat ((2147483648 - v2) * 4294967296 + 4294967295))) ∧ (pc = 48 → ∃ (v2 : Int) (v3 : Int) (v4 : Int) (v5 : Int), vs = [.inr (.inr (6, 6)), .inr (.inr (a1, 14)), .inl v2, .inl v3, .inl v4, .inl v5] ∧ zqw μ μ' ∧ (0 ≤ v2 ∧ v2 < B.1 0 2) ∧ (∃ as : List (List Int), yAt μ a1 B (B.1 0 2) v2 v3 as ∧ (0 ≤ v5 ∧ v5 ≤ as.length) ∧ v4 = v2 + 1 + ((as.take v5.toNat).flatten.length : Int) ∧ yWb μ μ' a1 B v2 v3 as v5.toNat) ∧ n = (Int.toNat ((2147483648 - v2) * 4294967296 + (2147483648 - v5)))), ?_, ?_, ?_, trivial⟩
  · refine ⟨_, zOk_tag (ym_J7_fill_53178 hg d (by omega)), [.inr (.inr (7, 1001)), .inl 0], rfl, _, _, rfl, (Or.inr ⟨by decide, by decide⟩), ⟨by omega, by omega⟩, (show _ ∧ _ from ⟨by omega, by omega⟩), (by decide), ?_⟩
    intro m1 qm1 pm1
    have z2 := zqw_t z0 (zqw_s qm1.1 pm1.1 qm1.2 (by decide))
    refine ⟨_, zOk_tag (ym_J7_fill_53178 hg d (by omega)), [.inr (.inr (9, 1001)), .inl 0], rfl, _, _, rfl, (Or.inr ⟨by decide, by decide⟩), ⟨by omega, by omega⟩, (show _ ∧ _ from ⟨by omega, by omega⟩), (by decide), ?_⟩
    intro m3 qm3 pm3
    have z4 := zqw_t z2 (zqw_s qm3.1 pm3.1 qm3.2 (by decide))
    refine And.intro ⟨by omega, by omega⟩ ?_
    intro m5 em5
    have z6 := zqw_t z4 (zqw_u em5 (Or.inl (by decide)) (Or.inl ⟨by decide, by decide⟩))
    refine Exists.intro (Int.toNat ((2147483648 - 0) * 4294967296 + 4294967295)) ?_
    exact ⟨(fun _ => ⟨_, rfl, z6, ⟨Int.le_refl _, hN.1⟩, yWa_0 (fun k k0 k1 => by rw [em5, zu_ne (by decide), pm3.1 7 (by decide)]; exact pm1.2 k k0 (by rw [h7]; exact k1)), rfl⟩), (fun h => absurd h (by decide))⟩
  · intro vs m0 n hI
    replace hI := hI.1 rfl
    clear z0
    obtain ⟨v2, rfl, z0, hv2, W, rfl⟩ := hI
    refine And.intro ha1 ?_
    intro x7 hx7 kx7 lx7
    have X7 : x7 = B.1 0 2 := by rw [hx7, z0.2 a1 (by omega)]; exact h14
    refine And.intro ⟨⟨by omega, by omega⟩, ⟨by omega, by omega⟩⟩ (And.intro (fun c8 => ?_) (fun c8 => ?_))
    · refine And.intro ha1 ?_
      intro x9 hx9 kx9 lx9
      refine ⟨vk_X7_closeReach, vm_X7_closeReach hg d (by omega), _, rfl, ⟨by omega, by omega⟩, ?_⟩
      intro m10 qm10
      refine And.intro ha1 ?_
      intro x12 hx12 kx12 lx12
      refine ⟨vk_X7_markRounds, vm_X7_markRounds hg d (by omega), _, rfl, ⟨by omega, by omega⟩, ?_⟩
      intro m13 qm13
      have V2 : v2 = B.1 0 2 := by omega
      rw [V2] at W
      exact And.intro rfl (hQ _ (zqw_t (zqw_t z0 qm10.1) qm13.1) (cWf_mk hS (yWa_f (yWa_f W qm10.2) qm13.2)))
    · refine And.intro ha1 ?_
      refine ⟨zk_X8_at, zm_X8_at hg d (by omega), _, _, _, rfl, ⟨by omega, by omega⟩, ?_⟩
      refine And.intro (zfa (o := 11) (y2 := 25) ha1 rfl) ?_
      intro x15 kx15 lx15 fx15 gx15
      obtain ⟨h, as, AT⟩ := yAt_mk hI0 hG hS hC hv2.1 (show v2 < B.1 0 2 by omega)
      have X15 : x15 = h := by rw [(fx15 ⟨by omega, by omega⟩).1, z0.2 _ (by simp only [Nat.add_eq]; omega)]; exact (yRow_c.mp AT.1.2.2).1
      refine Exists.intro (Int.toNat ((2147483648 - v2) * 4294967296 + (2147483648 - 0))) (And.intro (by omega) ?_)
      exact ⟨(fun h => absurd h (by decide)), (fun _ => ⟨_, _, _, _, rfl, z0, ⟨hv2.1, by omega⟩, ⟨as, by rw [X15]; exact AT, ⟨Int.le_refl _, by omega⟩, by simp, yWb_0 W⟩, rfl⟩)⟩
  · intro vs m0 n hI
    replace hI := hI.2 rfl
    clear z0
    obtain ⟨v2, v3, v4, v5, rfl, z0, hv2, ⟨as, AT, hv5, hv4, W⟩, rfl⟩ := hI
    have hk := AT.2.2.2.1
    unfold yhk at hk
    have hlen := AT.2.1
    have h4 := yar_4 hI0 v3
    have ha5 : v5.toNat ≤ as.length := by omega
    refine ⟨vk_X8_isClass, vm_X8_isClass hg d (by omega), _, rfl, ⟨by omega, by omega⟩, ?_⟩
    intro x16 kx16 lx16 p16
    refine And.intro ⟨by omega, by omega⟩ (And.intro (fun c17 => ?_) (fun c17 => ?_))
    · refine Exists.intro (Int.toNat ((2147483648 - (v2 + 1)) * 4294967296 + 4294967295)) (And.intro (by omega) ?_)
      exact ⟨(fun _ => ⟨_, rfl, z0, ⟨by omega, by omega⟩, yWa_s hS AT hv2.1 W (fun q => by exfalso; omega), rfl⟩), (fun h => absurd h (by decide))⟩
    · have hh : 0 ≤ v3 ∧ v3 < B.1 0 0 := by omega
      refine And.intro ha1 ⟨yk_X4_arity, ym_X4_arity hg d (by omega), _, _, rfl, ha1, ⟨by omega, by omega⟩, ?_⟩
      intro x18 kx18 lx18 p18
      have TB := hB.2.1 v3 hh.1 hh.2
      have yv : yar B v3 = B.1 3 v3 := by unfold yar; rw [if_pos hh]
      have X18 : x18 = as.length := by
        rw [p18, z0.2 a1 (by omega), z0.2 _ (by simp only [Nat.add_eq]; omega), hB.1.1, if_pos hh, TB.1.2.2.1, hlen, yv]
      refine And.intro ⟨⟨by omega, by omega⟩, ⟨by omega, by omega⟩⟩ (And.intro (fun c19 => ?_) (fun c19 => ?_))
      · refine Exists.intro (Int.toNat ((2147483648 - (v2 + 1)) * 4294967296 + 4294967295)) (And.intro (by omega) ?_)
        exact ⟨(fun _ => ⟨_, rfl, z0, ⟨by omega, by omega⟩, yWa_s hS AT hv2.1 W (fun q => by omega), rfl⟩), (fun h => absurd h (by decide))⟩
      · have hj : v5.toNat < as.length := by omega
        obtain ⟨AJ, AO, AL⟩ := yAt_j AT hj
        have AJ1 := AJ.1
        have AJ2 := AJ.2.1
        rw [← hv4] at AJ AJ1 AJ2
        have e11 : m0.1 (Nat.add a1 11) = μ.1 (Nat.add a1 11) := z0.2 _ (by simp only [Nat.add_eq]; omega)
        have e14 : m0.1 a1 ((14 : Nat) : Int) = B.1 0 2 := by rw [z0.2 a1 (by omega)]; exact h14
        have TO : yTo m0 (Nat.add a1 11) v4 (m0.1 a1 ((14 : Nat) : Int)) (as.getD v5.toNat []) := ⟨AJ.1, by rw [e14]; exact AJ.2.1, yRow_e AJ.2.2 e11⟩
        refine And.intro ha1 ⟨yk_X4_endOfPart, ym_X4_endOfPart hg d (by omega), _, _, (as.getD v5.toNat []), (yar B), rfl, ha1, ⟨by omega, by omega⟩, TO, (by rw [e14]; exact hN.2), (fun x => by rw [z0.2 a1 (by omega), z0.2 _ (by simp only [Nat.add_eq]; omega), hB.1.1]; unfold yar; by_cases q : 0 ≤ x ∧ x < B.1 0 0; (rw [if_pos q, if_pos q]; exact (hB.2.1 x q.1 q.2).1.2.2.1); rw [if_neg q, if_neg q]), AO, ?_⟩
        intro x20 kx20 lx20 p20
        refine And.intro ha1 ?_
        refine And.intro ha1 ?_
        refine ⟨zk_X8_at, zm_X8_at hg d (by omega), _, _, _, rfl, ⟨by omega, by omega⟩, ?_⟩
        refine And.intro (zfa (o := 2) (y2 := 16) ha1 rfl) ?_
        intro x21 kx21 lx21 fx21 gx21
        have X21 : x21 = B.1 2 v3 := by rw [(fx21 ⟨by omega, by omega⟩).1, z0.2 _ (by simp only [Nat.add_eq]; omega)]; exact TB.1.2.1
        have TI := hI0.2 v3 hh.1 hh.2
        have TP := hI0.1.2.2
        refine ⟨gk_X7_addWays, gm_X7_addWays hg d (by omega), _, _, _, _, rfl, (zfa (o := 11) (y2 := 25) ha1 rfl), ⟨by omega, by omega, by omega⟩, ⟨by omega, by omega⟩, yWb_r W, ?_⟩
        intro m23 qm23 p23
        have z24 := zqw_t z0 qm23
        have tn : (v5 + 1).toNat = v5.toNat + 1 := by omega
        refine Exists.intro (Int.toNat ((2147483648 - v2) * 4294967296 + (2147483648 - (v5 + 1)))) (And.intro (by omega) ?_)
        refine ⟨(fun h => absurd h (by decide)), (fun _ => ⟨_, _, _, _, rfl, z24, hv2, ⟨as, AT, ⟨by omega, by omega⟩, by rw [tn, AL]; omega, ?_⟩, rfl⟩)⟩
        rw [tn]
        by_cases q : 1 < x20 - v4
        · exact yWb_s AT ⟨hh.1, by omega⟩ hj W (p23 2 (Or.inl ⟨rfl, q⟩)) e11 hv4 p20 (by omega) (Or.inl ⟨rfl, q⟩)
        · exact yWb_s AT ⟨hh.1, by omega⟩ hj W (p23 1 (Or.inr ⟨rfl, by omega⟩)) e11 hv4 p20 (by omega) (Or.inr ⟨rfl, by omega⟩)
def wk_X7_measure : zC := fun As μ Q => ∃ (a1 : Nat) (B : yB), As = [.inr (.inr (6, 6)), .inr (.inr (a1, 14))] ∧ (a1 = 14 ∨ a1 = 32) ∧ yMe μ a1 B ∧ (∀ (μ' : zM), zqw μ μ' → (yGd B → cWf μ' B) → Q none μ')
theorem wm_X7_measure {g : zΓ} (hg : zg g) (d : Nat) (hd : 5 ≤ d) : zOk g d 90 wk_X7_measure := fun As μ Q w hw hr hC => by
  obtain ⟨a1, B, e, ha1, hM, hQ⟩ := hC
  obtain ⟨c7, q7, h7, -⟩ := hw.2.2.1 7 _ (show znth zcl 7 = some (.inr (0, 6400, -2147483648, 2147483647)) from rfl)
  by_cases q : yGd B
  · exact gm_X7_measure hg d hd As μ Q w hw hr ⟨a1, B, e, ha1, hM, h7, q, fun μ' z c => hQ μ' z (fun _ => c)⟩
  · exact xm_X7_measure hg d hd As μ Q w hw hr ⟨a1, e, ha1, fun μ' z => hQ μ' z (fun h => absurd h q)⟩
