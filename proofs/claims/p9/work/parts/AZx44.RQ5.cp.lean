/-! ### captured, by rows -/
def qMq (N : List (List qR × qR)) (o : Option (Int × List (List qR × qR))) : Option (Int × List (List qR × qR)) := match o with
  | none => none
  | some (g, b) => some (g, N ++ b)
theorem qMq_0 (o : Option (Int × List (List qR × qR))) : o = qMq [] o := by
  rcases o with _ | ⟨g, b⟩
  · rfl
  · rfl
theorem qMq_n {B : yB} {c : Int} {cs : List qR} {N : List (List qR × qR)} {i g : Int} : qMq N (qCb B c cs [] i g) = some (g, N) := by
  show some (g, N ++ []) = _
  rw [List.append_nil]
theorem qCb_0 {B : yB} {c : Int} {cs : List qR} : ∀ {as : List qR} {i g : Int}, (∀ a ∈ as, ¬ ywl a = true) → qCb B c cs as i g = some (g, [])
  | [], _, _, _ => rfl
  | a :: as, i, g, h => by
    rw [qCb, if_neg (h a List.mem_cons_self)]
    exact qCb_0 (fun b hb => h b (List.mem_cons_of_mem _ hb))
theorem qCb_w {B : yB} {c : Int} {cs : List qR} {a : qR} {as : List qR} {i g : Int} (h : ¬ ywl a = true) : qCb B c cs (a :: as) i g = qCb B c cs as (i + 1) g := by rw [qCb, if_neg h]
theorem qCb_f {B : yB} {c : Int} {cs : List qR} {a : qR} {as : List qR} {i g : Int} (h : ywl a = true) (q : qBd (B.1 2 c) cs (qPb B (B.1 2 c + i)) g = none) : qCb B c cs (a :: as) i g = none := by rw [qCb, if_pos h, q]
theorem qCb_s {B : yB} {c : Int} {cs : List qR} {a : qR} {as : List qR} {i g g1 : Int} {bs : List qR} (h : ywl a = true) (q : qBd (B.1 2 c) cs (qPb B (B.1 2 c + i)) g = some (g1, bs)) : qCb B c cs (a :: as) i g = qMq [(qNb a bs, qDn a)] (qCb B c cs as (i + 1) g1) := by
  rw [qCb, if_pos h, q]
  show (match qCb B c cs as (i + 1) g1 with
        | none => none
        | some (g2, N) => some (g2, (qNb a bs, qDn a) :: N)) = _
  rcases qCb B c cs as (i + 1) g1 with _ | ⟨g2, N⟩
  · rfl
  · rfl
theorem qMq_s {N : List (List qR × qR)} {b : List qR × qR} {o : Option (Int × List (List qR × qR))} : qMq N (qMq [b] o) = qMq (N ++ [b]) o := by
  rcases o with _ | ⟨g, M⟩
  · rfl
  · show some (g, N ++ ([b] ++ M)) = some (g, (N ++ [b]) ++ M)
    rw [List.append_assoc]
theorem qNb_ne (a : qR) (bs : List qR) : qNb a bs ≠ [] := by
  unfold qNb
  split
  · simp
  · assumption
theorem rVn_s {m : zM} {N : List (List qR × qR)} {b : List qR × qR} (h : rVn m N) (hb : rV1 m N.length b) (hn : b.1 ≠ []) : rVn m (N ++ [b]) := fun k hk => by
  have hk : k < N.length + 1 := by simpa using hk
  by_cases q : k < N.length
  · rw [List.getD_eq_getElem?_getD, List.getElem?_append_left q, ← List.getD_eq_getElem?_getD]
    exact h k q
  · have e : k = N.length := by omega
    rw [List.getD_eq_getElem?_getD, List.getElem?_append_right (by omega), e]
    simpa using And.intro hb hn
def hk_X9_captured : zC := fun As μ Q => ∃ (a1 : Int) (C : Int) (Pn : Int) (tt : Int) (K : Int) (as : List (List Int)) (B : yB) (S : qS), As = [.inr (.inr (66, 66)), .inl a1] ∧ (0 ≤ a1 ∧ a1 ≤ 19999) ∧ (zQS μ C Pn tt K) ∧ (a1 < zTop μ ∧ μ.1 67 a1 = 0) ∧ ((as.length : Int) = μ.1 69 a1 ∧ ∀ i : Nat, i < as.length → rEf μ (μ.1 70 (4 * a1 + i)) (as.getD i [])) ∧ (rQt μ B C Pn tt ∧ zUq μ 0 ∧ rVs μ S) ∧ (∀ (v : Int) (μ' : zM), zfx [67, 68, 69, 70, 71, 72, 73, 74, 88, 89, 90, 97, 98, 99, 107] [8, 45, 48, 60] μ μ' → (-1) ≤ v → v ≤ 19999 → (zQS μ' C Pn tt K) → (zQx μ μ') → ((v = -1 ∧ qCp B S (μ.1 68 a1) as = none) ∨ (0 ≤ v ∧ (zCt μ' v ∧ μ'.1 68 v = μ.1 68 a1) ∧ zUq μ' 0 ∧ ∃ S1, qCp B S (μ.1 68 a1) as = some (S1, ycap (μ.1 66 ((45 : Nat) : Int)) as) ∧ rVs μ' S1 ∧ (as.length : Int) = μ'.1 69 v ∧ ∀ j : Nat, j < as.length → rEf μ' (μ'.1 70 (4 * v + j)) ((ycap (μ.1 66 ((45 : Nat) : Int)) as).getD j []))) → Q (some (.inl v)) μ')
set_option maxHeartbeats 4000000 in
theorem hm_X9_captured {g : zΓ} (hg : zg g) (d : Nat) (hd : 6 ≤ d) : zOk g d 163 hk_X9_captured := by
  obtain ⟨d, rfl⟩ : ∃ d', d = d' + 1 := ⟨d - 1, by omega⟩
  refine zOk_loop hg (show mt_tab[163]? = some mt_X9_captured from rfl) ([(20, [0, 1, 2, 3, 4, 5]), (82, [0]), (136, [0, 1, 2, 3, 5, 6]), (234, [0, 1, 2, 3, 5, 6]), (276, [0, 1, 2, 3, 6, 7, 8])], []) 195 rfl fun As μ Q hC => ?_
  obtain ⟨a1, C, Pn, tt, K, as, B, S, rfl, ha1, hp0, hp1, ⟨hp2, hp3⟩, ⟨hT, hU, hV⟩, hQ⟩ := hC
  have ZK : ∀ n : Nat, n ≤ as.length → (((as.take n).countP ywl : Nat) : Int) = zqc μ a1 n := fun n hn => by
    have q := zqc_y (c := μ.1 66 ((45 : Nat) : Int)) hp3 n hn
    unfold ycn at q
    omega
  have ZA : ((as.countP ywl : Nat) : Int) = zqc μ a1 as.length := by
    have q := ZK as.length (Nat.le_refl _)
    rw [List.take_length] at q
    exact q
  have LS := hV.1.2.2
  have ZQ := zqc_y (c := μ.1 66 ((45 : Nat) : Int)) hp3
  have NDA := hp0.1.1.2.1
  have HC := (hp0.1.2.2.2.2.1 a1 (by omega) hp1.1).2.1 hp1.2
  have HB := hp0.1.2.1.1
  have HQR := zQS_r hp0
  have HN := (hp0.1.1.2.1 a1 (by omega) hp1.1).1
  obtain ⟨g1, wg1⟩ : ∃ z : Int, μ.1 66 ((45 : Nat) : Int) = z := ⟨_, rfl⟩
  have z0 : zfx [67, 68, 69, 70, 71, 72, 73, 74, 88, 89, 90, 97, 98, 99, 107] [8, 45, 48, 60] μ μ := zfx_x μ
  refine ⟨rfl, fun pc vs μ' n => (pc = 20 → ∃ (v1 : Int) (v2 : Int) (v3 : Int) (v4 : Int) (v5 : Int), vs = [.inr (.inr (66, 66)), .inl v1, .inl v2, .inl v3, .inl v4, .inl v5] ∧ zfx [67, 68, 69, 70, 71, 72, 73, 74, 88, 89, 90, 97, 98, 99, 107] [8, 45, 48, 60] μ μ' ∧ (0 ≤ v1 ∧ v1 ≤ 19999) ∧ (0 ≤ v2 ∧ v2 ≤ 299) ∧ (0 ≤ v3 ∧ v3 ≤ 4) ∧ (0 ≤ v4 ∧ v4 ≤ 4) ∧ (0 ≤ v5 ∧ v5 ≤ 4) ∧ (μ' = μ) ∧ (v1 = a1 ∧ v2 = μ.1 68 a1 ∧ v3 = μ.1 69 a1 ∧ v5 ≤ v3) ∧ (v4 = zqc μ a1 v5.toNat) ∧ (0 ≤ v4 ∧ v4 ≤ v5) ∧ n = (Int.toNat (2147483648 - v5 + 4 * 4294967296))) ∧ (pc = 82 → vs = [.inr (.inr (66, 66))] ∧ zfx [67, 68, 69, 70, 71, 72, 73, 74, 88, 89, 90, 97, 98, 99, 107] [8, 45, 48, 60] μ μ' ∧ (zQI μ' C Pn tt) ∧ (zQx μ μ') ∧ (μ'.1 66 ((48 : Nat) : Int) = μ.1 66 ((48 : Nat) : Int)) ∧ (μ'.1 66 ((45 : Nat) : Int) ≤ 300) ∧ (qCp B S (μ.1 68 a1) as = none) ∧ n = (Int.toNat (301 - μ'.1 66 ((45 : Nat) : Int)))) ∧ (pc = 136 → ∃ (v1 : Int) (v2 : Int) (v3 : Int) (v5 : Int) (v6 : Int), vs = [.inr (.inr (66, 66)), .inl v1, .inl v2, .inl v3, .inl v5, .inl v6] ∧ zfx [67, 68, 69, 70, 71, 72, 73, 74, 88, 89, 90, 97, 98, 99, 107] [8, 45, 48, 60] μ μ' ∧ (0 ≤ v1 ∧ v1 ≤ 19999) ∧ (0 ≤ v2 ∧ v2 ≤ 20) ∧ (0 ≤ v3 ∧ v3 ≤ 4) ∧ (0 ≤ v5 ∧ v5 ≤ 300) ∧ (0 ≤ v6 ∧ v6 ≤ 4) ∧ (v1 = a1 ∧ v2 = μ.1 68 a1 ∧ v3 = μ.1 69 a1 ∧ v5 = μ.1 66 ((45 : Nat) : Int) ∧ v6 ≤ v3) ∧ (zQI μ' C Pn tt) ∧ (zQp μ μ' 0) ∧ (μ'.1 66 ((45 : Nat) : Int) = μ.1 66 ((45 : Nat) : Int) + zqc μ a1 v6.toNat) ∧ (μ'.1 66 ((48 : Nat) : Int) = μ.1 66 ((48 : Nat) : Int) ∧ μ.1 66 ((45 : Nat) : Int) + zqc μ a1 v3.toNat ≤ 300 ∧ 1 ≤ zqc μ a1 v3.toNat) ∧ (∀ u : Int, μ.1 66 ((45 : Nat) : Int) ≤ u → u < μ'.1 66 ((45 : Nat) : Int) → μ'.1 89 u = 0 ∧ μ'.1 90 u = -1) ∧ (∀ j : Int, 0 ≤ j → j < v6 → zTy μ' (μ'.1 107 j)) ∧ (∀ j : Int, 0 ≤ j → j < v6 → rEf μ' (μ'.1 107 j) ((ycap (μ.1 66 ((45 : Nat) : Int)) as).getD j.toNat [])) ∧ (zUq μ' 0) ∧ n = (Int.toNat (2147483648 - v6 + 3 * 4294967296))) ∧ (pc = 234 → ∃ (v1 : Int) (v2 : Int) (v3 : Int) (v5 : Int) (v6 : Int), vs = [.inr (.inr (66, 66)), .inl v1, .inl v2, .inl v3, .inl v5, .inl v6] ∧ zfx [67, 68, 69, 70, 71, 72, 73, 74, 88, 89, 90, 97, 98, 99, 107] [8, 45, 48, 60] μ μ' ∧ (0 ≤ v1 ∧ v1 ≤ 19999) ∧ (0 ≤ v2 ∧ v2 ≤ 20) ∧ (0 ≤ v3 ∧ v3 ≤ 4) ∧ (0 ≤ v5 ∧ v5 ≤ 300) ∧ (0 ≤ v6 ∧ v6 ≤ 4) ∧ (v1 = a1 ∧ v2 = μ.1 68 a1 ∧ v3 = μ.1 69 a1 ∧ v5 = μ.1 66 ((45 : Nat) : Int) ∧ v6 ≤ v3) ∧ (zQI μ' C Pn tt) ∧ (zQp μ μ' 0) ∧ (μ'.1 66 ((45 : Nat) : Int) = μ.1 66 ((45 : Nat) : Int) + zqc μ a1 v3.toNat) ∧ (μ'.1 66 ((48 : Nat) : Int) = μ.1 66 ((48 : Nat) : Int) ∧ μ.1 66 ((45 : Nat) : Int) + zqc μ a1 v3.toNat ≤ 300 ∧ 1 ≤ zqc μ a1 v3.toNat) ∧ (∀ u : Int, μ.1 66 ((45 : Nat) : Int) ≤ u → u < μ'.1 66 ((45 : Nat) : Int) → μ'.1 89 u = 0 ∧ μ'.1 90 u = -1) ∧ (∀ j : Int, 0 ≤ j → j < v3 → zTy μ' (μ'.1 107 j)) ∧ (∀ j : Int, 0 ≤ j → j < v6 → μ'.1 74 j = μ'.1 107 j) ∧ (∀ j : Int, 0 ≤ j → j < v3 → rEf μ' (μ'.1 107 j) ((ycap (μ.1 66 ((45 : Nat) : Int)) as).getD j.toNat [])) ∧ (zUq μ' 0) ∧ n = (Int.toNat (2147483648 - v6 + 2 * 4294967296))) ∧ (pc = 276 → ∃ (v1 : Int) (v2 : Int) (v3 : Int) (v6 : Int) (v7 : Int) (v8 : Int), vs = [.inr (.inr (66, 66)), .inl v1, .inl v2, .inl v3, .inl v6, .inl v7, .inl v8] ∧ zfx [67, 68, 69, 70, 71, 72, 73, 74, 88, 89, 90, 97, 98, 99, 107] [8, 45, 48, 60] μ μ' ∧ (0 ≤ v1 ∧ v1 ≤ 19999) ∧ (0 ≤ v2 ∧ v2 ≤ 20) ∧ (0 ≤ v3 ∧ v3 ≤ 4) ∧ (0 ≤ v6 ∧ v6 ≤ 19999) ∧ (0 ≤ v7 ∧ v7 ≤ 300) ∧ (0 ≤ v8 ∧ v8 ≤ 4) ∧ (v1 = a1 ∧ v2 = μ.1 68 a1 ∧ v3 = μ.1 69 a1 ∧ v8 ≤ v3) ∧ (zQI μ' C Pn tt) ∧ (zQp μ μ' 1) ∧ (μ'.1 66 ((45 : Nat) : Int) = μ.1 66 ((45 : Nat) : Int) + zqc μ a1 v3.toNat) ∧ (μ'.1 66 ((48 : Nat) : Int) ≤ 6000 ∧ μ.1 66 ((45 : Nat) : Int) + zqc μ a1 v3.toNat ≤ 300 ∧ 1 ≤ zqc μ a1 v3.toNat) ∧ (∀ u : Int, v7 ≤ u → u < μ'.1 66 ((45 : Nat) : Int) → μ'.1 89 u = 0 ∧ μ'.1 90 u = -1) ∧ (zCt μ' v6 ∧ μ'.1 68 v6 = v2) ∧ (v7 = μ.1 66 ((45 : Nat) : Int) + zqc μ a1 v8.toNat) ∧ ((as.length : Int) = μ'.1 69 v6 ∧ ∀ j : Nat, j < as.length → rEf μ' (μ'.1 70 (4 * v6 + j)) ((ycap (μ.1 66 ((45 : Nat) : Int)) as).getD j [])) ∧ (zUq μ' 0) ∧ (∃ N, qCb B (μ.1 68 a1) (ycap (μ.1 66 ((45 : Nat) : Int)) as) as 0 S.2.1 = qMq N (qCb B (μ.1 68 a1) (ycap (μ.1 66 ((45 : Nat) : Int)) as) (as.drop v8.toNat) v8 (μ'.1 66 ((48 : Nat) : Int))) ∧ rVn μ' (S.2.2 ++ N) ∧ (N.length : Int) = zqc μ a1 v8.toNat) ∧ n = (Int.toNat (2147483648 - v8))), ?_, ?_, ?_, ?_, ?_, ?_, trivial⟩
  · refine And.intro ⟨by omega, by omega⟩ ?_
    intro x2 hx2 kx2 lx2
    refine And.intro ⟨by omega, by omega⟩ ?_
    intro x3 hx3 kx3 lx3
    refine Exists.intro (Int.toNat (2147483648 - 0 + 4 * 4294967296)) ?_
    exact ⟨(fun _ => ⟨_, _, _, _, _, rfl, z0, ⟨by omega, by omega⟩, ⟨by omega, by omega⟩, ⟨by omega, by omega⟩, ⟨by omega, by omega⟩, ⟨by omega, by omega⟩, rfl, ⟨rfl, by omega, by omega, by omega⟩, rfl, ⟨by omega, by omega⟩, rfl⟩), (fun h => absurd h (by decide)), (fun h => absurd h (by decide)), (fun h => absurd h (by decide)), (fun h => absurd h (by decide))⟩
  · intro vs m0 n hI
    replace hI := hI.1 rfl
    clear z0
    obtain ⟨v1, v2, v3, v4, v5, rfl, z0, hv1, hv2, hv3, hv4, hv5, i0, i1, i2, i3, rfl⟩ := hI
    subst i0
    obtain ⟨j1, j2, j3, j4⟩ := i1
    subst j1
    obtain ⟨g4, wg4⟩ : ∃ z : Int, m0.1 66 ((45 : Nat) : Int) = z := ⟨_, rfl⟩
    refine And.intro ⟨⟨by omega, by omega⟩, ⟨by omega, by omega⟩⟩ (And.intro (fun c5 => ?_) (fun c5 => ?_))
    · have V5 : v5 = v3 := by omega
      rw [V5] at i2
      refine And.intro ⟨by omega, by omega⟩ (And.intro (fun c6 => ?_) (fun c6 => ?_))
      · intro x7 hx7 kx7 lx7
        rw [wg4] at hx7
        refine And.intro ⟨⟨by omega, by omega⟩, ⟨by omega, by omega⟩⟩ (And.intro (fun c8 => ?_) (fun c8 => ?_))
        · intro x9 hx9 kx9 lx9
          rw [wg4] at hx9
          refine Exists.intro (Int.toNat (2147483648 - 0 + 3 * 4294967296)) (And.intro (by (try rw [wg4]) <;> (try rw [wg1]) <;> omega) ?_)
          exact ⟨(fun h => absurd h (by decide)), (fun h => absurd h (by decide)), (fun _ => ⟨_, _, _, _, _, rfl, z0, ⟨by omega, by omega⟩, ⟨by omega, by omega⟩, ⟨by omega, by omega⟩, ⟨by omega, by omega⟩, ⟨by omega, by omega⟩, ⟨rfl, by omega, by omega, by omega, by omega⟩, hp0.1, (zQp_r _), (show m0.1 66 ((45 : Nat) : Int) = m0.1 66 ((45 : Nat) : Int) + 0 by omega), ⟨rfl, by omega, by omega⟩, (fun u a b => by omega), (fun j a b => by omega), (fun j a b => by omega), hU, rfl⟩), (fun h => absurd h (by decide)), (fun h => absurd h (by decide))⟩
        · refine Exists.intro (Int.toNat (301 - m0.1 66 ((45 : Nat) : Int))) (And.intro (by (try rw [wg4]) <;> (try rw [wg1]) <;> omega) ?_)
          exact ⟨(fun h => absurd h (by decide)), (fun _ => ⟨rfl, z0, hp0.1, (zQx_r _), rfl, (by omega), (by unfold qCp; rw [if_pos]; rw [ZA, show as.length = v3.toNat by omega, ← i2]; omega), rfl⟩), (fun h => absurd h (by decide)), (fun h => absurd h (by decide)), (fun h => absurd h (by decide))⟩
      · have NW : ∀ j : Nat, j < as.length → ¬ ywl (as.getD j []) = true := fun j hj q => by
          have k2 := zqc_k (n := v3.toNat) (m := m0) (s := v1) (by omega) j (by omega) (by omega)
          have k3 := (rHf_w (hp3 j hj)).mpr q
          omega
        exact And.intro trivial (And.intro ⟨by omega, by omega⟩ (hQ _ _ z0 (by omega) (by omega) hp0 (zQx_r _) (Or.inr ⟨by omega, ⟨⟨⟨by omega, hp1.1⟩, hp1.2, fun i a b => zqc_k (n := v3.toNat) (by omega) i a (by omega)⟩, rfl⟩, hU, S, by unfold qCp; rw [if_neg (by rw [ZA, show as.length = v3.toNat by omega, ← i2]; omega), LS, qCb_0 (fun a ha => by obtain ⟨i, h1, h2⟩ := rmem ha; rw [← h2]; exact NW i h1)]; show some ((S.1, S.2.1, S.2.2 ++ []), _) = _; rw [List.append_nil], hV, hp2, fun j hj => by rw [ycap_g hj, if_neg (NW j hj)]; exact hp3 j hj⟩)))
    · refine And.intro ⟨by omega, by omega⟩ ?_
      intro x10 hx10 kx10 lx10
      refine And.intro ⟨by omega, by omega⟩ ?_
      intro x11 hx11 kx11 lx11
      refine And.intro ⟨⟨by omega, by omega⟩, ⟨by omega, by omega⟩⟩ (And.intro (fun c12 => ?_) (fun c12 => ?_))
      · refine Exists.intro (Int.toNat (2147483648 - (v5 + 1) + 4 * 4294967296)) (And.intro (by (try rw [wg4]) <;> (try rw [wg1]) <;> omega) ?_)
        exact ⟨(fun _ => ⟨_, _, _, _, _, rfl, z0, ⟨by omega, by omega⟩, ⟨by omega, by omega⟩, ⟨by omega, by omega⟩, ⟨by omega, by omega⟩, ⟨by omega, by omega⟩, rfl, ⟨rfl, by omega, by omega, by omega⟩, (by rw [zqc_s _ _ (by omega), ← i2, ← hx10, ← hx11]; split <;> omega), ⟨by omega, by omega⟩, rfl⟩), (fun h => absurd h (by decide)), (fun h => absurd h (by decide)), (fun h => absurd h (by decide)), (fun h => absurd h (by decide))⟩
      · refine Exists.intro (Int.toNat (2147483648 - (v5 + 1) + 4 * 4294967296)) (And.intro (by (try rw [wg4]) <;> (try rw [wg1]) <;> omega) ?_)
        exact ⟨(fun _ => ⟨_, _, _, _, _, rfl, z0, ⟨by omega, by omega⟩, ⟨by omega, by omega⟩, ⟨by omega, by omega⟩, ⟨by omega, by omega⟩, ⟨by omega, by omega⟩, rfl, ⟨rfl, by omega, by omega, by omega⟩, (by rw [zqc_s _ _ (by omega), ← i2, ← hx10, ← hx11]; split <;> omega), ⟨by omega, by omega⟩, rfl⟩), (fun h => absurd h (by decide)), (fun h => absurd h (by decide)), (fun h => absurd h (by decide)), (fun h => absurd h (by decide))⟩
  · intro vs m0 n hI
    replace hI := hI.2.1 rfl
    clear z0
    obtain ⟨rfl, z0, i0, i1, i2, i3, i3q, rfl⟩ := hI
    obtain ⟨g13, wg13⟩ : ∃ z : Int, m0.1 66 ((45 : Nat) : Int) = z := ⟨_, rfl⟩
    intro x14 hx14 kx14 lx14
    rw [wg13] at hx14
    refine And.intro ⟨⟨by omega, by omega⟩, ⟨by omega, by omega⟩⟩ (And.intro (fun c15 => ?_) (fun c15 => ?_))
    · exact And.intro trivial (And.intro ⟨by omega, by omega⟩ (hQ _ _ z0 (by omega) (by omega) (zQS_x hp0 i0 i1 (by omega) (by rw [i2]; have := HQR.2.1; omega)) i1 (Or.inl ⟨rfl, i3q⟩)))
    · intro x16 hx16 kx16 lx16
      rw [wg13] at hx16
      refine And.intro ⟨by omega, by omega⟩ (And.intro ⟨by omega, by omega⟩ ?_)
      intro m17 em17
      have z18 := zfx_r z0 em17 rfl (by decide)
      have w19 : m17.1 66 ((45 : Nat) : Int) = g13 := by rw [em17]; exact (congrFun (zu_ne (by decide)) _).trans wg13
      intro x20 hx20 kx20 lx20
      rw [w19] at hx20
      refine And.intro ⟨by omega, by omega⟩ (And.intro ⟨by omega, by omega⟩ ?_)
      intro m21 em21
      have z22 := zfx_r z18 em21 rfl (by decide)
      have w23 : m21.1 66 ((45 : Nat) : Int) = g13 := by rw [em21]; exact (congrFun (zu_ne (by decide)) _).trans w19
      clear w19
      intro x24 hx24 kx24 lx24
      rw [w23] at hx24
      refine And.intro ⟨by omega, by omega⟩ ?_
      intro m25 em25
      have z26 := zfx_f z22 em25 rfl
      have w27 : m25.1 66 ((45 : Nat) : Int) = (x24 + 1) := by rw [em25]; exact zu_at
      clear w23
      rw [show x20 = x16 by omega] at em21
      have R := zQI_new i0 (show x16 = m0.1 66 ((45 : Nat) : Int) by omega) (by omega) em17 em21 em25 (by omega)
      refine Exists.intro (Int.toNat (301 - m25.1 66 ((45 : Nat) : Int))) (And.intro (by (try rw [w27]) <;> (try rw [wg13]) <;> (try rw [wg1]) <;> omega) ?_)
      exact ⟨(fun h => absurd h (by decide)), (fun _ => ⟨rfl, z26, R.1, (zQx_t i1 (zQp_x R.2.1 (by have := R.2.1.2.2.1.1; omega))), (by rw [em25, zu_nk (by decide), em21, zu_ne (by decide), em17, zu_ne (by decide)]; exact i2), (by (try rw [w27]) <;> (try rw [wg13]) <;> (try rw [wg1]) <;> omega), i3q, rfl⟩), (fun h => absurd h (by decide)), (fun h => absurd h (by decide)), (fun h => absurd h (by decide))⟩
  · intro vs m0 n hI
    replace hI := hI.2.2.1 rfl
    clear z0
    obtain ⟨v1, v2, v3, v5, v6, rfl, z0, hv1, hv2, hv3, hv5, hv6, i0, i1, i2, i3, i4, i5, i6, r6, u6, rfl⟩ := hI
    obtain ⟨j1, j2, j3, j5, j6⟩ := i0
    subst j1
    have ND := hp0.1.1.2.1 v1 (by omega) hp1.1
    have O1 := fun i (a : (0 : Int) ≤ i) (b : i < 4) => (i2.1 v1 (by omega) hp1.1).2.2.2.2 i a b
    obtain ⟨g28, wg28⟩ : ∃ z : Int, m0.1 66 ((45 : Nat) : Int) = z := ⟨_, rfl⟩
    refine And.intro ⟨⟨by omega, by omega⟩, ⟨by omega, by omega⟩⟩ (And.intro (fun c29 => ?_) (fun c29 => ?_))
    · refine Exists.intro (Int.toNat (2147483648 - 0 + 2 * 4294967296)) (And.intro (by (try rw [wg28]) <;> (try rw [wg1]) <;> omega) ?_)
      exact ⟨(fun h => absurd h (by decide)), (fun h => absurd h (by decide)), (fun h => absurd h (by decide)), (fun _ => ⟨_, _, _, _, _, rfl, z0, ⟨by omega, by omega⟩, ⟨by omega, by omega⟩, ⟨by omega, by omega⟩, ⟨by omega, by omega⟩, ⟨by omega, by omega⟩, ⟨rfl, j2, j3, j5, by omega⟩, i1, i2, (by rw [show v3 = v6 by omega]; exact i3), i4, i5, (fun j a b => i6 j a (by omega)), (fun j a b => by omega), (fun j a b => r6 j a (by omega)), u6, rfl⟩), (fun h => absurd h (by decide))⟩
    · refine And.intro ⟨by omega, by omega⟩ ?_
      intro x30 hx30 kx30 lx30
      have A70 : x30 = μ.1 70 (4 * v1 + v6) := by rw [hx30]; exact O1 v6 (by omega) (by omega)
      have AR := ND.2.1 v6 (by omega) (by omega)
      rw [← A70] at AR
      refine And.intro ⟨by omega, by omega⟩ ?_
      intro x31 hx31 kx31 lx31
      have AK : x31 = μ.1 67 x30 := by rw [hx31]; exact (i2.1 x30 AR.1 (by omega)).1
      have Z : zqc μ v1 (v6 + 1).toNat = zqc μ v1 v6.toNat + (if 3 ≤ x31 then 1 else 0) := by rw [zqc_s μ v1 (by omega), ← A70, ← AK]
      have ZM := zqc_m μ v1 (a := (v6 + 1).toNat) (b := v3.toNat) (by omega)
      have l6 : v6.toNat < as.length := by omega
      have E6 := hp3 v6.toNat l6
      rw [show ((v6.toNat : Nat) : Int) = v6 by omega, ← A70] at E6
      have W6 := rHf_w E6
      have N6 : ycn (μ.1 66 ((45 : Nat) : Int)) as v6.toNat = μ.1 66 ((45 : Nat) : Int) + zqc μ v1 v6.toNat := ZQ v6.toNat (by omega)
      refine And.intro ⟨⟨by omega, by omega⟩, ⟨by omega, by omega⟩⟩ (And.intro (fun c32 => ?_) (fun c32 => ?_))
      · rw [if_neg (by omega)] at Z
        refine And.intro ⟨by omega, by omega⟩ (And.intro ⟨by omega, by omega⟩ ?_)
        intro m33 em33
        have z34 := zfx_r z0 em33 rfl (by decide)
        have w35 : m33.1 66 ((45 : Nat) : Int) = g28 := by rw [em33]; exact (congrFun (zu_ne (by decide)) _).trans wg28
        refine Exists.intro (Int.toNat (2147483648 - (v6 + 1) + 3 * 4294967296)) (And.intro (by (try rw [w35]) <;> (try rw [wg28]) <;> (try rw [wg1]) <;> omega) ?_)
        exact ⟨(fun h => absurd h (by decide)), (fun h => absurd h (by decide)), (fun _ => ⟨_, _, _, _, _, rfl, z34, ⟨by omega, by omega⟩, ⟨by omega, by omega⟩, ⟨by omega, by omega⟩, ⟨by omega, by omega⟩, ⟨by omega, by omega⟩, ⟨rfl, j2, j3, j5, by omega⟩, (zQI_fr i1 (fun j a b => by rw [em33, zu_ne (by omega)]) (fun j a b => by rw [em33, zu_ne (by omega)]) (fun j a b => by rw [em33, zu_ne (by omega)]) (by rw [em33, zu_ne (by decide)]) (by rw [em33, zu_ne (by decide)]) (by rw [em33, zu_ne (by decide)]) (by rw [em33, zu_ne (by decide)])), (zQp_fr i2 (fun j a b => by rw [em33, zu_ne (by omega)]) (fun j a b => by rw [em33, zu_ne (by omega)]) (by rw [em33, zu_ne (by decide)])), (by rw [em33, zu_ne (by decide), Z]; omega), ⟨by rw [em33, zu_ne (by decide)]; exact i4.1, i4.2⟩, (fun u a b => by rw [em33, zu_ne (by decide)] at b; have q := i5 u a b; exact ⟨by rw [em33, zu_ne (by decide)]; exact q.1, by rw [em33, zu_ne (by decide)]; exact q.2⟩), (fun j a b => by have ty : ∀ y : Int, zTy m0 y → zTy m33 y := (fun y hy => zTy_same hy (by rw [em33, zu_ne (by decide)]) (by rw [em33, zu_ne (by decide)])); by_cases hj : j = v6 <;> first | (rw [hj, em33, zu_at, ← em33]; exact ty _ ⟨⟨by omega, by have := i2.2.1; omega⟩, by omega⟩) | (rw [em33, zu_nk hj, ← em33]; exact ty _ (i6 j a (by omega)))), (fun j a b => by have cc : ∀ q : Nat, 67 ≤ q → q ≤ 70 → m33.1 q = m0.1 q := (fun q a b => by rw [em33, zu_ne (by omega)]); by_cases hj : j = v6 <;> first | (rw [hj, em33, zu_at, ← em33, ycap_g l6, if_neg (fun z => by have := W6.mpr z; omega)]; exact rEf_c cc (rEf_old i2.1 NDA AR.1 (by omega) E6)) | (rw [em33, zu_nk hj, ← em33]; exact rEf_c cc (r6 j a (by omega)))), (zUq_c u6 (fun j a b => by rw [em33, zu_ne (by omega)]) (by show m33.1 66 ((8 : Nat) : Int) = _; rw [em33, zu_ne (by decide)]; rfl)), rfl⟩), (fun h => absurd h (by decide)), (fun h => absurd h (by decide))⟩
      · rw [if_pos (by omega)] at Z
        intro x36 hx36 kx36 lx36
        rw [wg28] at hx36
        refine And.intro ⟨by omega, by omega⟩ (And.intro ⟨by omega, by omega⟩ ?_)
        intro m37 em37
        have z38 := zfx_r z0 em37 rfl (by decide)
        have w39 : m37.1 66 ((45 : Nat) : Int) = g28 := by rw [em37]; exact (congrFun (zu_ne (by decide)) _).trans wg28
        intro x40 hx40 kx40 lx40
        rw [w39] at hx40
        refine And.intro ⟨by omega, by omega⟩ (And.intro ⟨by omega, by omega⟩ ?_)
        intro m41 em41
        have z42 := zfx_r z38 em41 rfl (by decide)
        have w43 : m41.1 66 ((45 : Nat) : Int) = g28 := by rw [em41]; exact (congrFun (zu_ne (by decide)) _).trans w39
        clear w39
        intro x44 hx44 kx44 lx44
        rw [w43] at hx44
        rw [show x40 = x36 by omega] at em41
        have QA := zQI_89 (v := x36) (n := 0) i1 em37 ⟨by omega, by omega⟩ (fun i a b => by omega)
        have QB := zQI_90 (v := x36) (x := -1) QA em41 (fun a => by omega)
        have TB : zTop m41 = zTop m0 := by unfold zTop; rw [em41, zu_ne (by decide), em37, zu_ne (by decide)]
        have TC : zTop m0 ≤ 13300 := by have h1 := zQS_top hp0; have h2 := i2.2.2.2.2.1; omega
        refine ⟨zk_X9_make, zm_X9_make hg d (by omega), _, _, _, _, rfl, ⟨by omega, by omega⟩, ⟨by omega, by omega⟩, ⟨by omega, by omega⟩, QB.1, (show zTop m41 ≤ 19999 by omega), ⟨fun h => absurd h (by decide), fun h => absurd h (by decide)⟩, (fun i a b => by omega), ?_⟩
        intro x45 m46 qm46 kx45 lx45 p47 p48 p49 p50
        have z51 := zfx_t z42 qm46 rfl rfl
        have w52 : m46.1 66 ((45 : Nat) : Int) = g28 := (qm46.2.1 45 rfl).trans w43
        clear w43
        refine And.intro ⟨by omega, by omega⟩ (And.intro ⟨by omega, by omega⟩ ?_)
        intro m53 em53
        have z54 := zfx_r z51 em53 rfl (by decide)
        have w55 : m53.1 66 ((45 : Nat) : Int) = g28 := by rw [em53]; exact (congrFun (zu_ne (by decide)) _).trans w52
        clear w52
        intro x56 hx56 kx56 lx56
        rw [w55] at hx56
        refine And.intro ⟨by omega, by omega⟩ ?_
        intro m57 em57
        have z58 := zfx_f z54 em57 rfl
        have w59 : m57.1 66 ((45 : Nat) : Int) = (x56 + 1) := by rw [em57]; exact zu_at
        clear w55
        rw [show x44 = x36 by omega] at p48 p49
        have R := zQ_fresh i1 (show x36 = m0.1 66 ((45 : Nat) : Int) by omega) (by omega) em37 em41 (zMd_of p47 p48 p49 p50) (fun j a b => qm46.1 j (by omega) (zanyF (by simp <;> omega))) (qm46.2.1 45 rfl) (qm46.2.1 48 rfl) (qm46.2.1 60 rfl) em53 em57 (by omega)
        have R7 : ∀ j : Int, j ≠ v6 → m57.1 107 j = m0.1 107 j := fun j hj => by rw [em57, zu_ne (by decide), em53, zu_nk hj, qm46.1 107 (by decide) rfl, em41, zu_ne (by decide), em37, zu_ne (by decide)]
        have R8 : m57.1 107 v6 = x45 := by rw [em57, zu_ne (by decide), em53, zu_at]
        have R9 : m57.1 66 ((48 : Nat) : Int) = m0.1 66 ((48 : Nat) : Int) := by rw [em57, zu_nk (by decide), em53, zu_ne (by decide), qm46.2.1 48 rfl, em41, zu_ne (by decide), em37, zu_ne (by decide)]
        have R10 : ∀ u : Int, u ≠ x36 → m57.1 89 u = m0.1 89 u := fun u hu => by rw [em57, zu_ne (by decide), em53, zu_ne (by decide), qm46.1 89 (by decide) rfl, em41, zu_ne (by decide), em37, zu_nk hu]
        have R11 : ∀ u : Int, u ≠ x36 → m57.1 90 u = m0.1 90 u := fun u hu => by rw [em57, zu_ne (by decide), em53, zu_ne (by decide), qm46.1 90 (by decide) rfl, em41, zu_nk hu, em37, zu_ne (by decide)]
        have R12 : m57.1 90 x36 = -1 := by rw [em57, zu_ne (by decide), em53, zu_ne (by decide), qm46.1 90 (by decide) rfl, em41, zu_at]
        have U57 : zUq m57 0 := zUq_c (zUq_mk (Int.le_refl 0) (zUq_c u6 (fun j a b => by rw [em41, zu_ne (by omega), em37, zu_ne (by omega)]) TB) QB.1 (zMd_of p47 p48 p49 p50)) (fun j a b => by rw [em57, zu_ne (by omega), em53, zu_ne (by omega)]) (by show m57.1 66 ((8 : Nat) : Int) = m46.1 66 ((8 : Nat) : Int); rw [em57, zu_nk (by decide), em53, zu_ne (by decide)])
        have O57 : zOld m0 m57 (zTop m0) := R.2.1.1
        have X45 : rEf m57 x45 [300 + x36] := by
          have l := p48
          have c57 : ∀ q : Nat, 67 ≤ q → q ≤ 70 → m57.1 q = m46.1 q := fun q a b => by rw [em57, zu_ne (by omega), em53, zu_ne (by omega)]
          refine rEf_c c57 (rEf_mk (as := []) (n := 0) (Or.inr ⟨l.1, by rw [l.2.1], by rw [l.2.1]; omega⟩) l.2.2.1 rfl (fun i hi => absurd hi (by simp)))
        refine Exists.intro (Int.toNat (2147483648 - (v6 + 1) + 3 * 4294967296)) (And.intro (by (try rw [w59]) <;> (try rw [wg28]) <;> (try rw [wg1]) <;> omega) ?_)
        exact ⟨(fun h => absurd h (by decide)), (fun h => absurd h (by decide)), (fun _ => ⟨_, _, _, _, _, rfl, z58, ⟨by omega, by omega⟩, ⟨by omega, by omega⟩, ⟨by omega, by omega⟩, ⟨by omega, by omega⟩, ⟨by omega, by omega⟩, ⟨rfl, j2, j3, j5, by omega⟩, R.1, (zQp_t i2 R.2.1 (by omega)), (by rw [Z]; (try rw [w59]) <;> (try rw [wg28]) <;> (try rw [wg1]) <;> omega), ⟨R9.trans i4.1, i4.2⟩, (fun u a b => by by_cases hu : u = x36 <;> first | (rw [hu]; exact ⟨R.2.2.1, R12⟩) | (rw [R10 u hu, R11 u hu]; exact i5 u a (by have hb := b; rw [w59] at hb; omega))), (fun j a b => by by_cases hj : j = v6 <;> first | (rw [hj, R8]; exact R.2.2.2) | (rw [R7 j hj]; exact zTy_old (i6 j a (by omega)) R.2.1.1 R.2.1.2.1)), (fun j a b => by by_cases hj : j = v6 <;> first | (rw [hj, R8, ycap_g l6, if_pos (W6.mp (by omega)), N6, show μ.1 66 ((45 : Nat) : Int) + zqc μ v1 v6.toNat = x36 by omega]; exact X45) | (rw [R7 j hj]; have ty := i6 j a (by omega); exact rEf_old O57 i1.1.2.1 ty.1.1 ty.1.2 (r6 j a (by omega)))), U57, rfl⟩), (fun h => absurd h (by decide)), (fun h => absurd h (by decide))⟩
  · intro vs m0 n hI
    replace hI := hI.2.2.2.1 rfl
    clear z0
    obtain ⟨v1, v2, v3, v5, v6, rfl, z0, hv1, hv2, hv3, hv5, hv6, i0, i1, i2, i3, i4, i5, i6, i7, r7, u7, rfl⟩ := hI
    obtain ⟨j1, j2, j3, j5, j6⟩ := i0
    subst j1
    have ND := hp0.1.1.2.1 v1 (by omega) hp1.1
    have O1 := fun i (a : (0 : Int) ≤ i) (b : i < 4) => (i2.1 v1 (by omega) hp1.1).2.2.2.2 i a b
    obtain ⟨g60, wg60⟩ : ∃ z : Int, m0.1 66 ((45 : Nat) : Int) = z := ⟨_, rfl⟩
    refine And.intro ⟨⟨by omega, by omega⟩, ⟨by omega, by omega⟩⟩ (And.intro (fun c61 => ?_) (fun c61 => ?_))
    · have TC : zTop m0 ≤ 13300 := by have h1 := zQS_top hp0; have h2 := i2.2.2.2.2.1; omega
      refine ⟨zk_X9_make, zm_X9_make hg d (by omega), _, _, _, _, rfl, ⟨by omega, by omega⟩, ⟨by omega, by omega⟩, ⟨by omega, by omega⟩, i1.1, (show zTop m0 ≤ 19999 by omega), ⟨fun _ => by omega, fun h => absurd h (by decide)⟩, (fun i a b => by rw [i7 i a (by omega)]; exact (i6 i a b).1), ?_⟩
      intro x62 m63 qm63 kx62 lx62 p64 p65 p66 p67
      have z68 := zfx_t z0 qm63 rfl rfl
      have w69 : m63.1 66 ((45 : Nat) : Int) = g60 := (qm63.2.1 45 rfl).trans wg60
      have V6 : v6 = v3 := by omega
      have R := zQ_with i1 (by omega) (show v3 = m0.1 77 v2 by rw [show m0.1 77 = μ.1 77 from z0.1 77 (by decide) rfl, j2, j3]; exact HC.2) (fun i a b => by rw [i7 i a (by omega)]; exact i6 i a b) (zMd_of p64 p65 p66 p67) (fun j a b => qm63.1 j (by omega) (zanyF (by simp <;> omega))) (qm63.2.1 45 rfl) (qm63.2.1 48 rfl) (qm63.2.1 60 rfl)
      refine Exists.intro (Int.toNat (2147483648 - 0)) (And.intro (by (try rw [w69]) <;> (try rw [wg60]) <;> (try rw [wg1]) <;> omega) ?_)
      exact ⟨(fun h => absurd h (by decide)), (fun h => absurd h (by decide)), (fun h => absurd h (by decide)), (fun h => absurd h (by decide)), (fun _ => ⟨_, _, _, _, _, _, rfl, z68, ⟨by omega, by omega⟩, ⟨by omega, by omega⟩, ⟨by omega, by omega⟩, ⟨by omega, by omega⟩, ⟨by omega, by omega⟩, ⟨by omega, by omega⟩, ⟨rfl, j2, j3, by omega⟩, R.1, (zQp_t i2 R.2.1 (by omega)), (by rw [qm63.2.1 45 rfl]; exact i3), ⟨by rw [qm63.2.1 48 rfl]; have := HQR.2.1; omega, i4.2⟩, (fun u a b => by rw [qm63.2.1 45 rfl] at b; rw [qm63.1 89 (by decide) rfl, qm63.1 90 (by decide) rfl]; exact i5 u (by omega) b), ⟨R.2.2.1, R.2.2.2⟩, (show v5 = μ.1 66 ((45 : Nat) : Int) + 0 by omega), ⟨by rw [p65.2.2.1]; omega, fun j hj => by rw [p65.2.2.2 j (by omega) (by omega), i7 j (by omega) (by omega)]; have ty := i6 j (by omega) (by omega); have r := r7 j (by omega) (by omega); rw [show ((j : Int)).toNat = j by omega] at r; exact rEf_old p67 i1.1.2.1 ty.1.1 ty.1.2 r⟩, (zUq_mk (Int.le_refl 0) u7 i1.1 (zMd_of p64 p65 p66 p67)), ⟨[], by rw [qm63.2.1 48 rfl, i4.1, ← hV.1.2.1]; exact qMq_0 _, by rw [List.append_nil]; exact rVn_x (rVn_x hV.2 hp0.1 (by omega) i2.1 (fun v a b => i2.2.2.2.2.2 v a (by omega))) i1 (by have := i2.2.2.1.1; omega) p67 (fun v a b => by rw [qm63.1 88 (by decide) rfl, qm63.1 89 (by decide) rfl, qm63.1 90 (by decide) rfl]; exact ⟨rfl, rfl, fun _ _ _ => rfl⟩), rfl⟩, rfl⟩)⟩
    · refine And.intro ⟨by omega, by omega⟩ ?_
      intro x70 hx70 kx70 lx70
      refine And.intro ⟨by omega, by omega⟩ (And.intro ⟨by omega, by omega⟩ ?_)
      intro m71 em71
      have z72 := zfx_r z0 em71 rfl (by decide)
      have w73 : m71.1 66 ((45 : Nat) : Int) = g60 := by rw [em71]; exact (congrFun (zu_ne (by decide)) _).trans wg60
      refine Exists.intro (Int.toNat (2147483648 - (v6 + 1) + 2 * 4294967296)) (And.intro (by (try rw [w73]) <;> (try rw [wg60]) <;> (try rw [wg1]) <;> omega) ?_)
      exact ⟨(fun h => absurd h (by decide)), (fun h => absurd h (by decide)), (fun h => absurd h (by decide)), (fun _ => ⟨_, _, _, _, _, rfl, z72, ⟨by omega, by omega⟩, ⟨by omega, by omega⟩, ⟨by omega, by omega⟩, ⟨by omega, by omega⟩, ⟨by omega, by omega⟩, ⟨rfl, j2, j3, j5, by omega⟩, (zQI_fr i1 (fun j a b => by rw [em71, zu_ne (by omega)]) (fun j a b => by rw [em71, zu_ne (by omega)]) (fun j a b => by rw [em71, zu_ne (by omega)]) (by rw [em71, zu_ne (by decide)]) (by rw [em71, zu_ne (by decide)]) (by rw [em71, zu_ne (by decide)]) (by rw [em71, zu_ne (by decide)])), (zQp_fr i2 (fun j a b => by rw [em71, zu_ne (by omega)]) (fun j a b => by rw [em71, zu_ne (by omega)]) (by rw [em71, zu_ne (by decide)])), (by rw [em71, zu_ne (by decide)]; exact i3), ⟨by rw [em71, zu_ne (by decide)]; exact i4.1, i4.2⟩, (fun u a b => by rw [em71, zu_ne (by decide)] at b; have q := i5 u a b; exact ⟨by rw [em71, zu_ne (by decide)]; exact q.1, by rw [em71, zu_ne (by decide)]; exact q.2⟩), (fun j a b => by rw [em71, zu_ne (by decide), ← em71]; exact zTy_same (i6 j a b) (by rw [em71, zu_ne (by decide)]) (by rw [em71, zu_ne (by decide)])), (fun j a b => by rw [em71, zu_ne (show (107 : Nat) ≠ 74 by decide)]; by_cases hj : j = v6 <;> first | (rw [hj, zu_at, hx70]) | (rw [zu_nk hj]; exact i7 j a (by omega))), (fun j a b => by rw [em71, zu_ne (show (107 : Nat) ≠ 74 by decide), ← em71]; exact rEf_c (fun q a b => by rw [em71, zu_ne (by omega)]) (r7 j a b)), (zUq_c u7 (fun j a b => by rw [em71, zu_ne (by omega)]) (by show m71.1 66 ((8 : Nat) : Int) = _; rw [em71, zu_ne (by decide)]; rfl)), rfl⟩), (fun h => absurd h (by decide))⟩
  · intro vs m0 n hI
    replace hI := hI.2.2.2.2 rfl
    clear z0
    obtain ⟨v1, v2, v3, v6, v7, v8, rfl, z0, hv1, hv2, hv3, hv6, hv7, hv8, i0, i1, i2, i3, i4, i5, i6, i7, r8, u8, ⟨N, q8, n8, l8⟩, rfl⟩ := hI
    obtain ⟨j1, j2, j3, j6⟩ := i0
    subst j1
    have ND := hp0.1.1.2.1 v1 (by omega) hp1.1
    have O1 := fun i (a : (0 : Int) ≤ i) (b : i < 4) => (i2.1 v1 (by omega) hp1.1).2.2.2.2 i a b
    obtain ⟨g74, wg74⟩ : ∃ z : Int, m0.1 66 ((45 : Nat) : Int) = z := ⟨_, rfl⟩
    refine And.intro ⟨⟨by omega, by omega⟩, ⟨by omega, by omega⟩⟩ (And.intro (fun c75 => ?_) (fun c75 => ?_))
    · exact And.intro trivial (And.intro ⟨by omega, by omega⟩ (hQ _ _ z0 (by omega) (by omega) (zQS_x hp0 i1 (zQp_x i2 (by omega)) (by omega) i4.1) (zQp_x i2 (by omega)) (Or.inr ⟨by omega, ⟨i6.1, by rw [i6.2]; omega⟩, u8, (S.1, m0.1 66 ((48 : Nat) : Int), S.2.2 ++ N), by unfold qCp; rw [if_neg (by rw [ZA, show as.length = v3.toNat by omega]; omega), LS, q8, show as.drop v8.toNat = [] from List.drop_eq_nil_of_le (by omega), qMq_n], ⟨⟨by rw [z0.2.1 46 rfl]; exact hV.1.1, rfl, by rw [List.length_append, i3, show v3 = v8 by omega, ← l8]; show ((S.2.2.length + N.length : Nat) : Int) = _; omega⟩, n8⟩, r8⟩)))
    · refine And.intro ⟨by omega, by omega⟩ ?_
      intro x76 hx76 kx76 lx76
      have A70 : x76 = μ.1 70 (4 * v1 + v8) := by rw [hx76]; exact O1 v8 (by omega) (by omega)
      have AR := ND.2.1 v8 (by omega) (by omega)
      rw [← A70] at AR
      refine And.intro ⟨by omega, by omega⟩ ?_
      intro x77 hx77 kx77 lx77
      have AK : x77 = μ.1 67 x76 := by rw [hx77]; exact (i2.1 x76 AR.1 (by omega)).1
      have Z : zqc μ v1 (v8 + 1).toNat = zqc μ v1 v8.toNat + (if 3 ≤ x77 then 1 else 0) := by rw [zqc_s μ v1 (by omega), ← A70, ← AK]
      have ZM := zqc_m μ v1 (a := (v8 + 1).toNat) (b := v3.toNat) (by omega)
      have l9 : v8.toNat < as.length := by omega
      have E8 := hp3 v8.toNat l9
      rw [show ((v8.toNat : Nat) : Int) = v8 by omega, ← A70] at E8
      have W8 := rHf_w E8
      have D8 : as.drop v8.toNat = as.getD v8.toNat [] :: as.drop (v8 + 1).toNat := by
        rw [List.drop_eq_getElem_cons l9, show (v8 + 1).toNat = v8.toNat + 1 by omega, List.getD_eq_getElem?_getD, List.getElem?_eq_getElem l9]
        rfl
      rw [D8] at q8
      refine And.intro ⟨⟨by omega, by omega⟩, ⟨by omega, by omega⟩⟩ (And.intro (fun c78 => ?_) (fun c78 => ?_))
      · rw [if_neg (by omega)] at Z
        refine Exists.intro (Int.toNat (2147483648 - (v8 + 1))) (And.intro (by (try rw [wg74]) <;> (try rw [wg1]) <;> omega) ?_)
        exact ⟨(fun h => absurd h (by decide)), (fun h => absurd h (by decide)), (fun h => absurd h (by decide)), (fun h => absurd h (by decide)), (fun _ => ⟨_, _, _, _, _, _, rfl, z0, ⟨by omega, by omega⟩, ⟨by omega, by omega⟩, ⟨by omega, by omega⟩, ⟨by omega, by omega⟩, ⟨by omega, by omega⟩, ⟨by omega, by omega⟩, ⟨rfl, j2, j3, by omega⟩, i1, i2, i3, i4, i5, i6, (by rw [Z]; omega), r8, u8, ⟨N, by rw [q8, qCb_w (fun z => by have := W8.mpr z; omega)], n8, by rw [Z]; omega⟩, rfl⟩)⟩
      · rw [if_pos (by omega)] at Z
        have ZS := zQS_x hp0 i1 (zQp_x i2 (by omega)) (by omega) i4.1
        refine ⟨hk_X9_bind, hm_X9_bind hg d (by omega), _, _, _, _, _, _, _, _, _, B, as.getD v8.toNat [], ycap (μ.1 66 ((45 : Nat) : Int)) as, rfl, ⟨by omega, by omega⟩, ⟨by omega, by omega⟩, ⟨by omega, by omega⟩, ⟨by omega, by omega⟩, ⟨by omega, by omega⟩, ZS, i6, ⟨by omega, (i5 v7 (by omega) (by omega)).1⟩, (show x76 < zTop m0 by have := i2.2.1; omega), ⟨by omega, by rw [show m0.1 77 = μ.1 77 from z0.1 77 (by decide) rfl, j2, ← HC.2, ← j3]; omega⟩, ⟨rQt_x hT hp0.1 i2.1 (fun j a b => z0.1 j (by omega) (zanyF (by simp <;> omega))), u8⟩, ⟨rEf_old i2.1 NDA AR.1 (by omega) E8, W8.mp (by omega), (i5 v7 (by omega) (by omega)).2⟩, ⟨by rw [ycap_l]; exact r8.1, fun j hj => r8.2 j (by rw [ycap_l] at hj; exact hj)⟩, ?_⟩
        intro x79 m80 qm80 kx79 lx79 p81 p82 p83 p83u p83b
        have T76 := hT.2.1 v2 (by omega) (by omega)
        have z84 := zfx_t z0 qm80 rfl rfl
        have w85 : m80.1 66 ((45 : Nat) : Int) = g74 := (qm80.2.1 45 rfl).trans wg74
        have W2 := zQp_y i2 p82 (by have Z0 := zqc_0 μ v1 v8.toNat; omega)
        have W45 := p82.2.2.1.1
        refine And.intro ⟨by omega, by omega⟩ (And.intro (fun c86 => ?_) (fun c86 => ?_))
        · refine Exists.intro (Int.toNat (2147483648 - (v8 + 1))) (And.intro (by (try rw [w85]) <;> (try rw [wg74]) <;> (try rw [wg1]) <;> omega) ?_)
          exact ⟨(fun h => absurd h (by decide)), (fun h => absurd h (by decide)), (fun h => absurd h (by decide)), (fun h => absurd h (by decide)), (fun _ => ⟨_, _, _, _, _, _, rfl, z84, ⟨by omega, by omega⟩, ⟨by omega, by omega⟩, ⟨by omega, by omega⟩, ⟨by omega, by omega⟩, ⟨by omega, by omega⟩, ⟨by omega, by omega⟩, ⟨rfl, j2, j3, by omega⟩, p81, W2, (by rw [W45]; exact i3), ⟨p83, i4.2⟩, (fun u a b => by rw [W45] at b; rw [(p82.2.2.2.2.2 u (by omega) (by omega)).1, (p82.2.2.2.2.2 u (by omega) (by omega)).2.1]; exact i5 u (by omega) b), ⟨zCt_old i6.1 i1.1.2.1 p82.1 p82.2.1, by rw [(p82.1 v6 i6.1.1.1 i6.1.1.2).2.1]; exact i6.2⟩, (by rw [Z]; omega), ⟨by rw [(p82.1 v6 i6.1.1.1 i6.1.1.2).2.2.1]; exact r8.1, fun j hj => by have j4 := r8.1; have n6 := i1.1.2.1 v6 i6.1.1.1 i6.1.1.2; have n61 := n6.1.2; have n62 := n6.2.1 j (by omega) (by omega); rw [(p82.1 v6 i6.1.1.1 i6.1.1.2).2.2.2.2 j (by omega) (by omega)]; exact rEf_old p82.1 i1.1.2.1 n62.1 (by have := i6.1.1.2; omega) (r8.2 j hj)⟩, p83u, (by
            rcases p83b with ⟨h0, _⟩ | ⟨_, g1', bs, q1, q2, q3⟩
            · exfalso; omega
            · have LN : (((S.2.2 ++ N).length : Nat) : Int) = v7 := by rw [List.length_append]; show ((S.2.2.length + N.length : Nat) : Int) = _; omega
              refine ⟨N ++ [(qNb (as.getD v8.toNat []) bs, qDn (as.getD v8.toNat []))], ?_, ?_, ?_⟩
              · rw [j2] at q1
                rw [q8, qCb_s (W8.mp (by omega)) q1, q2, qMq_s]
              · rw [← List.append_assoc]
                refine rVn_s (rVn_x n8 i1 (by omega) p82.1 (fun v a b => p82.2.2.2.2.2 v a (by omega))) ?_ (qNb_ne _ _)
                rw [LN]
                exact q3
              · rw [List.length_append, Z]
                show ((N.length + 1 : Nat) : Int) = _
                omega), rfl⟩)⟩
        · exact And.intro trivial (And.intro ⟨by omega, by omega⟩ (hQ _ _ z84 (by omega) (by omega) (zQS_x hp0 p81 (zQp_x W2 (by omega)) (by omega) p83) (zQp_x W2 (by omega)) (Or.inl ⟨rfl, by
            rcases p83b with ⟨_, q1⟩ | ⟨h1, _⟩
            · rw [j2] at q1
              unfold qCp
              rw [if_neg (by rw [ZA, show as.length = v3.toNat by omega]; omega), LS, q8, qCb_f (W8.mp (by omega)) q1]
              rfl
            · exfalso; omega⟩)))
