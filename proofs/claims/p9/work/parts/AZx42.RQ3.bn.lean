/-! ### bind of the reference, by rows -/
theorem rEf_hd {m : zM} {x : Int} {l : List Int} (h : rEf m x l) : rHf m x (l.headD 0) := by
  obtain ⟨hd, as, e1, e2, -⟩ := rEf_h h
  rw [e1]
  exact e2
theorem rEf_w1 {m : zM} {x : Int} {l : List Int} (h : rEf m x l) (n : m.1 69 x = 1) : rEf m (m.1 70 (4 * x)) l.tail := by
  obtain ⟨hd, as, e1, e2, e3, e5⟩ := rEf_h h
  have e0 := e5 0 (by omega)
  obtain ⟨r, er⟩ : ∃ r, as = [r] := List.length_eq_one_iff.mp (by omega)
  rw [e1, er]
  rw [er, show 4 * x + ((0 : Nat) : Int) = 4 * x by omega] at e0
  simpa using e0
def qMp (bs : List qR) (o : Option (Int × List qR)) : Option (Int × List qR) := match o with
  | none => none
  | some (g, b) => some (g, bs ++ b)
theorem qMp_0 (o : Option (Int × List qR)) : o = qMp [] o := by
  rcases o with _ | ⟨g, b⟩
  · rfl
  · rfl
theorem qMp_n {f : Int} {cs : List qR} (bs : List qR) (g : Int) : qMp bs (qBd f cs [] g) = some (g, bs) := by
  show some (g, bs ++ []) = _
  rw [List.append_nil]
theorem qMp_c {f : Int} {cs bs : List qR} {r : qR} {rs : List qR} {g : Int} (h : g + (r.length : Int) ≤ 6000) : qMp bs (qBd f cs (r :: rs) g) = qMp (bs ++ [ysub f cs r]) (qBd f cs rs (g + (r.length : Int))) := by
  rw [qBd, if_neg (by omega)]
  rcases qBd f cs rs (g + (r.length : Int)) with _ | ⟨g', b⟩
  · rfl
  · show some (g', bs ++ (ysub f cs r :: b)) = some (g', (bs ++ [ysub f cs r]) ++ b)
    rw [List.append_assoc]
    rfl
theorem qMp_f {f : Int} {cs bs : List qR} {r : qR} {rs : List qR} {g : Int} (h : 6000 < g + (r.length : Int)) : qMp bs (qBd f cs (r :: rs) g) = none := by
  rw [qBd, if_pos h]
  rfl
theorem qPb_d {B : yB} {p b : Int} (b0 : 0 ≤ b) (h : b < B.1 6 p) : (qPb B p).drop b.toNat = (B.2 0 p b).flatten :: (qPb B p).drop (b + 1).toNat := by
  unfold qPb
  have hl : b.toNat < ((List.range (B.1 6 p).toNat).map (fun i : Nat => (B.2 0 p i).flatten)).length := by rw [List.length_map, List.length_range]; omega
  rw [List.drop_eq_getElem_cons hl, show (b + 1).toNat = b.toNat + 1 by omega, List.getElem_map, List.getElem_range, show ((b.toNat : Nat) : Int) = b by omega]
theorem qPb_e {B : yB} {p b : Int} (h : B.1 6 p ≤ b) : (qPb B p).drop b.toNat = [] := by
  apply List.drop_eq_nil_of_le
  unfold qPb
  rw [List.length_map, List.length_range]
  omega
theorem qNb_n {a : qR} {bs : List qR} (h : ¬ (qUp a ++ bs = [])) : qNb a bs = qUp a ++ bs := by
  unfold qNb
  rw [if_neg h]
theorem rV1_add {m m3 m4 m5 : zM} {C Pn tt v i k4 k5 x : Int} {b : List qR × qR} {r : qR} (h : rV1 m v b) (hQ : zQI m C Pn tt) (hv : 0 ≤ v ∧ v < m.1 66 ((45 : Nat) : Int)) (ho : zOld m m3 (zTop m)) (c : m3.1 88 = m.1 88 ∧ m3.1 89 = m.1 89 ∧ m3.1 90 = m.1 90) (e4 : m4 = zu m3 88 k4 x) (hk4 : k4 = 3 * v + i) (hi : i = m.1 89 v) (hi2 : i ≤ 2) (e5 : m5 = zu m4 89 v k5) (hk5 : k5 = i + 1) (E : rEf m3 x r) : rV1 m5 v (b.1 ++ [r], b.2) := by
  obtain ⟨⟨h1, h2⟩, h3⟩ := h
  obtain ⟨n1, n2, n3⟩ := hQ.2.2.2.2.2.1 v hv.1 hv.2
  have nd := hQ.1.2.1
  have cc : ∀ j : Nat, 67 ≤ j → j ≤ 70 → m5.1 j = m3.1 j := fun j a b => by rw [e5, zu_ne (by omega), e4, zu_ne (by omega)]
  refine ⟨⟨?_, fun j hj => ?_⟩, ?_⟩
  · show ((b.1 ++ [r]).length : Int) = _
    rw [List.length_append, e5, zu_at]
    simp
    omega
  · have hj : j < b.1.length + 1 := by simpa using hj
    show rEf m5 (m5.1 88 (3 * v + j)) ((b.1 ++ [r]).getD j [])
    by_cases q : j < b.1.length
    · rw [List.getD_eq_getElem?_getD, List.getElem?_append_left q, ← List.getD_eq_getElem?_getD]
      have ty := n2 j (by omega) (by omega)
      rw [e5, zu_ne (by decide), e4, zu_nk (by omega), ← e4, ← e5, c.1]
      exact rEf_c cc (rEf_old ho nd ty.1.1 ty.1.2 (h2 j q))
    · have ej : j = b.1.length := by omega
      rw [List.getD_eq_getElem?_getD, List.getElem?_append_right (by omega), ej]
      rw [show m5.1 88 (3 * v + ((b.1.length : Nat) : Int)) = x by rw [e5, zu_ne (by decide), e4, show 3 * v + ((b.1.length : Nat) : Int) = k4 by omega, zu_at]]
      simpa using rEf_c cc E
  · show (b.2 = [] ∧ m5.1 90 v < 0) ∨ (0 ≤ m5.1 90 v ∧ rEf m5 (m5.1 90 v) b.2)
    rw [show m5.1 90 = m.1 90 by rw [e5, zu_ne (by decide), e4, zu_ne (by decide), c.2.2]]
    rcases h3 with q | ⟨q1, q2⟩
    · exact Or.inl q
    · have ty := n3 q1
      exact Or.inr ⟨q1, rEf_c cc (rEf_old ho nd ty.1.1 ty.1.2 q2)⟩
def hk_X9_bind : zC := fun As μ Q => ∃ (a1 : Int) (a2 : Int) (a3 : Int) (a4 : Int) (a5 : Int) (C : Int) (Pn : Int) (tt : Int) (K : Int) (B : yB) (al : qR) (cs : List qR), As = [.inr (.inr (66, 66)), .inl a1, .inl a2, .inl a3, .inl a4, .inl a5] ∧ (0 ≤ a1 ∧ a1 ≤ 299) ∧ (0 ≤ a2 ∧ a2 ≤ 19999) ∧ (0 ≤ a3 ∧ a3 ≤ 20) ∧ (0 ≤ a4 ∧ a4 ≤ 3) ∧ (0 ≤ a5 ∧ a5 ≤ 19999) ∧ (zQS μ C Pn tt K) ∧ (zCt μ a5 ∧ μ.1 68 a5 = a3) ∧ (a1 < μ.1 66 ((45 : Nat) : Int) ∧ μ.1 89 a1 = 0) ∧ (a2 < zTop μ) ∧ (a3 < C ∧ a4 < μ.1 77 a3) ∧ (rQt μ B C Pn tt ∧ zUq μ 0) ∧ (rEf μ a2 al ∧ ywl al = true ∧ μ.1 90 a1 = -1) ∧ ((cs.length : Int) = μ.1 69 a5 ∧ ∀ j : Nat, j < cs.length → rEf μ (μ.1 70 (4 * a5 + j)) (cs.getD j [])) ∧ (∀ (v : Int) (μ' : zM), zfx [67, 68, 69, 70, 71, 72, 73, 74, 88, 89, 90, 97, 98, 99] [8, 48, 60] μ μ' → 0 ≤ v → v ≤ 1 → (zQI μ' C Pn tt) → (zQy μ μ' a1) → (μ'.1 66 ((48 : Nat) : Int) ≤ 6000) → (zUq μ' 0) → ((v = 0 ∧ qBd (B.1 2 a3) cs (qPb B (B.1 2 a3 + a4)) (μ.1 66 ((48 : Nat) : Int)) = none) ∨ (v = 1 ∧ ∃ g1 bs, qBd (B.1 2 a3) cs (qPb B (B.1 2 a3 + a4)) (μ.1 66 ((48 : Nat) : Int)) = some (g1, bs) ∧ μ'.1 66 ((48 : Nat) : Int) = g1 ∧ rV1 μ' a1 (qNb al bs, qDn al))) → Q (some (.inl v)) μ')
set_option maxHeartbeats 4000000 in
theorem hm_X9_bind {g : zΓ} (hg : zg g) (d : Nat) (hd : 5 ≤ d) : zOk g d 164 hk_X9_bind := by
  obtain ⟨d, rfl⟩ : ∃ d', d = d' + 1 := ⟨d - 1, by omega⟩
  refine zOk_loop hg (show mt_tab[164]? = some mt_X9_bind from rfl) ([(71, [0, 1, 3, 5, 6, 7])], []) 143 rfl fun As μ Q hC => ?_
  obtain ⟨a1, a2, a3, a4, a5, C, Pn, tt, K, B, al, cs, rfl, ha1, ha2, ha3, ha4, ha5, hp0, hp1, hp2, hp3, hp4, ⟨hT, hU⟩, ⟨hE, hW, hF⟩, ⟨hc1, hc2⟩, hQ⟩ := hC
  have W1 := (hp0.1.2.2.2.2.1 a2 (by omega) hp3).2.2.2.2.2
  have T76 := hT.2.1 a3 (by omega) hp4.1
  have KH := rEf_hd hE
  have KW := (rHf_w hE).mpr hW
  have AL : (μ.1 67 a2 = 4 → qUp al = [al.tail] ∧ qDn al = [] ∧ rEf μ (μ.1 70 (4 * a2)) al.tail) ∧ (μ.1 67 a2 = 5 → qUp al = [] ∧ qDn al = al.tail ∧ rEf μ (μ.1 70 (4 * a2)) al.tail) ∧ (μ.1 67 a2 ≠ 4 → μ.1 67 a2 ≠ 5 → qUp al = [] ∧ qDn al = []) := by
    unfold rHf rHd at KH
    unfold qUp qDn
    refine ⟨fun k => ?_, fun k => ?_, fun k k' => ?_⟩
    · rw [if_pos (by omega), if_neg (by omega)]
      exact ⟨rfl, rfl, rEf_w1 hE (W1 (Or.inl k)).1⟩
    · rw [if_neg (by omega), if_pos (by omega)]
      exact ⟨rfl, rfl, rEf_w1 hE (W1 (Or.inr k)).1⟩
    · rw [if_neg (by omega), if_neg (by omega)]
      exact ⟨rfl, rfl⟩
  have HTC := hp0.1.2.1.2.1 a3 (by omega) hp4.1
  have HBR := hp0.1.2.1.1
  have HQR := zQS_r hp0
  have z0 : zfx [67, 68, 69, 70, 71, 72, 73, 74, 88, 89, 90, 97, 98, 99] [8, 48, 60] μ μ := zfx_x μ
  refine ⟨rfl, fun pc vs μ' n => ∃ (v1 : Int) (v3 : Int) (v5 : Int) (v6 : Int) (v7 : Int), vs = [.inr (.inr (66, 66)), .inl v1, .inl v3, .inl v5, .inl v6, .inl v7] ∧ zfx [67, 68, 69, 70, 71, 72, 73, 74, 88, 89, 90, 97, 98, 99] [8, 48, 60] μ μ' ∧ (0 ≤ v1 ∧ v1 ≤ 299) ∧ (0 ≤ v3 ∧ v3 ≤ 20) ∧ (0 ≤ v5 ∧ v5 ≤ 19999) ∧ (0 ≤ v6 ∧ v6 ≤ 79) ∧ (0 ≤ v7 ∧ v7 ≤ 2) ∧ (v1 = a1 ∧ v3 = a3 ∧ v5 = a5 ∧ v6 = μ.1 76 a3 + a4) ∧ (zQI μ' C Pn tt) ∧ (zQy μ μ' a1) ∧ (μ'.1 66 ((48 : Nat) : Int) ≤ 6000) ∧ (μ'.1 89 a1 ≤ 1 + v7) ∧ (v6 < Pn ∧ 0 ≤ v7) ∧ (zUq μ' 0) ∧ (∃ bs, qBd (B.1 2 a3) cs (qPb B (B.1 2 a3 + a4)) (μ.1 66 ((48 : Nat) : Int)) = qMp bs (qBd (B.1 2 a3) cs ((qPb B (B.1 2 a3 + a4)).drop v7.toNat) (μ'.1 66 ((48 : Nat) : Int))) ∧ rV1 μ' a1 (qUp al ++ bs, qDn al)) ∧ n = (Int.toNat (2147483648 - v7)), ?_, ?_, trivial⟩
  · refine And.intro ⟨by omega, by omega⟩ ?_
    intro x1 hx1 kx1 lx1
    refine And.intro ⟨⟨by omega, by omega⟩, ⟨by omega, by omega⟩⟩ (And.intro (fun c2 => ?_) (fun c2 => ?_))
    · refine And.intro ⟨by omega, by omega⟩ ?_
      intro x3 hx3 kx3 lx3
      refine And.intro ⟨⟨by omega, by omega⟩, ⟨by omega, by omega⟩⟩ (And.intro (fun c4 => ?_) (fun c4 => ?_))
      · refine And.intro ⟨by omega, by omega⟩ ?_
        intro x5 hx5 kx5 lx5
        refine Exists.intro (Int.toNat (2147483648 - 0)) ?_
        exact ⟨_, _, _, _, _, rfl, z0, ⟨by omega, by omega⟩, ⟨by omega, by omega⟩, ⟨by omega, by omega⟩, ⟨by omega, by omega⟩, ⟨by omega, by omega⟩, ⟨rfl, rfl, rfl, by omega⟩, hp0.1, (zQy_r μ a1), (by omega), (by omega), ⟨by omega, by omega⟩, hU, ⟨[], qMp_0 _, by have A := AL.2.2 (by omega) (by omega); rw [A.1, A.2]; exact ⟨⟨by rw [hp2.2]; rfl, fun i hi => absurd hi (by simp)⟩, Or.inl ⟨rfl, by omega⟩⟩⟩, rfl⟩
      · refine And.intro ⟨by omega, by omega⟩ ?_
        intro x6 hx6 kx6 lx6
        refine And.intro ⟨by omega, by omega⟩ (And.intro ⟨by omega, by omega⟩ ?_)
        intro m7 em7
        have z8 := zfx_r z0 em7 rfl (by decide)
        have QC := zQI_90 hp0.1 em7 (fun _ => by rw [hx6]; exact zQI_wild hp0.1 ⟨by omega, by exact hp3⟩ (Or.inr (by omega)))
        have YC := zQy_w (i := 0) (zQy_r μ a1) em7 (Or.inr ⟨Or.inr rfl, rfl⟩)
        refine And.intro ⟨by omega, by omega⟩ ?_
        intro x9 hx9 kx9 lx9
        rw [show m7.1 76 = μ.1 76 from z8.1 76 (by decide) rfl] at hx9
        refine Exists.intro (Int.toNat (2147483648 - 0)) ?_
        exact ⟨_, _, _, _, _, rfl, z8, ⟨by omega, by omega⟩, ⟨by omega, by omega⟩, ⟨by omega, by omega⟩, ⟨by omega, by omega⟩, ⟨by omega, by omega⟩, ⟨rfl, rfl, rfl, by omega⟩, QC, YC, (by rw [em7, zu_ne (by decide)]; omega), (by rw [em7, zu_ne (by decide)]; omega), ⟨by omega, by omega⟩, (zUq_c hU (fun j a b => by rw [em7, zu_ne (by omega)]) (by show m7.1 66 ((8 : Nat) : Int) = _; rw [em7, zu_ne (by decide)]; rfl)), ⟨[], by rw [show m7.1 66 = μ.1 66 by rw [em7, zu_ne (by decide)]]; exact qMp_0 _, by have A := AL.2.1 (by omega); rw [A.1, A.2.1]; exact ⟨⟨by rw [em7, zu_ne (by decide), hp2.2]; rfl, fun i hi => absurd hi (by simp)⟩, Or.inr ⟨by rw [em7, zu_at]; omega, by rw [show m7.1 90 a1 = x6 by rw [em7, zu_at], hx6]; exact rEf_c (fun j a b => by rw [em7, zu_ne (by omega)]) A.2.2⟩⟩⟩, rfl⟩
    · refine And.intro ⟨by omega, by omega⟩ ?_
      intro x10 hx10 kx10 lx10
      refine And.intro ⟨by omega, by omega⟩ (And.intro ⟨by omega, by omega⟩ ?_)
      intro m11 em11
      have z12 := zfx_r z0 em11 rfl (by decide)
      have QA := zQI_88 (v := a1) (i := 0) hp0.1 em11 (by omega) ⟨by omega, by omega⟩ (Or.inl (by omega))
      have YA := zQy_w (i := 0) (zQy_r μ a1) em11 (Or.inl ⟨rfl, by omega, by omega, by omega⟩)
      refine And.intro ⟨by omega, by omega⟩ (And.intro ⟨by omega, by omega⟩ ?_)
      intro m13 em13
      have z14 := zfx_r z12 em13 rfl (by decide)
      have TA : zTy m11 x10 := by rw [hx10]; exact zTy_same (zQI_wild hp0.1 ⟨by omega, hp3⟩ (Or.inl (by omega))) (by rw [em11, zu_ne (by decide)]) (by rw [em11, zu_ne (by decide)])
      have QB := zQI_89 QA em13 ⟨by omega, by omega⟩ (fun i a b => by rw [show 3 * a1 + i = (3 * a1) by omega, em11, zu_at, ← em11]; exact TA)
      have YB := zQy_w (i := 0) YA em13 (Or.inr ⟨Or.inl rfl, rfl⟩)
      refine And.intro ⟨by omega, by omega⟩ ?_
      intro x15 hx15 kx15 lx15
      refine And.intro ⟨⟨by omega, by omega⟩, ⟨by omega, by omega⟩⟩ (And.intro (fun c16 => ?_) (fun c16 => ?_))
      · refine And.intro ⟨by omega, by omega⟩ ?_
        intro x17 hx17 kx17 lx17
        rw [show m13.1 76 = μ.1 76 from z14.1 76 (by decide) rfl] at hx17
        refine Exists.intro (Int.toNat (2147483648 - 0)) ?_
        exact ⟨_, _, _, _, _, rfl, z14, ⟨by omega, by omega⟩, ⟨by omega, by omega⟩, ⟨by omega, by omega⟩, ⟨by omega, by omega⟩, ⟨by omega, by omega⟩, ⟨rfl, rfl, rfl, by omega⟩, QB, YB, (by rw [em13, zu_ne (by decide), em11, zu_ne (by decide)]; omega), (by rw [em13, zu_at]; omega), ⟨by omega, by omega⟩, (zUq_c hU (fun j a b => by rw [em13, zu_ne (by omega), em11, zu_ne (by omega)]) (by show m13.1 66 ((8 : Nat) : Int) = _; rw [em13, zu_ne (by decide), em11, zu_ne (by decide)]; rfl)), ⟨[], by rw [show m13.1 66 = μ.1 66 by rw [em13, zu_ne (by decide), em11, zu_ne (by decide)]]; exact qMp_0 _, by have A := AL.1 (by omega); rw [A.1, A.2.1]; exact rV1_add (b := ([], [])) (i := 0) ⟨⟨by rw [hp2.2]; rfl, fun i hi => absurd hi (by simp)⟩, Or.inl ⟨rfl, by omega⟩⟩ hp0.1 ⟨by omega, by omega⟩ (zOld_r _ _) ⟨rfl, rfl, rfl⟩ em11 (by omega) (by omega) (by omega) em13 (by omega) (by rw [hx10]; exact A.2.2)⟩, rfl⟩
      · exfalso; rw [em13, zu_ne (by decide), em11, zu_ne (by decide)] at hx15; omega
  · intro vs m0 n hI
    clear z0
    obtain ⟨v1, v3, v5, v6, v7, rfl, z0, hv1, hv3, hv5, hv6, hv7, i0, i1, i2, i3, i4, i5, u5, ⟨bs, q5, r5⟩, rfl⟩ := hI
    obtain ⟨j1, j3, j5, j6⟩ := i0
    subst j1 j3 j5
    have e6 : v6 = B.1 2 v3 + a4 := by rw [← T76.1]; omega
    have T0 := rQt_x hT hp0.1 i2.1 (fun j a b => z0.1 j (by omega) (zanyF (by simp <;> omega)))
    have P84 := (T0.2.2.1.2.2.2 v6 (by omega) (by rw [← T0.1.2]; omega)).1
    have NF := (i1.2.2.2.2.2.1 v1 (by omega) (by have := i2.2.2.1.1; omega)).1
    have AN := (zQI_any i1).1.1.1
    refine And.intro ⟨by omega, by omega⟩ ?_
    intro x22 hx22 kx22 lx22
    refine And.intro ⟨⟨by omega, by omega⟩, ⟨by omega, by omega⟩⟩ (And.intro (fun c23 => ?_) (fun c23 => ?_))
    · refine And.intro ⟨by omega, by omega⟩ ?_
      intro x24 hx24 kx24 lx24
      refine And.intro ⟨by omega, by omega⟩ (And.intro (fun c25 => ?_) (fun c25 => ?_))
      · exact And.intro (zrtb (by omega)) (And.intro ⟨by omega, by omega⟩ (hQ _ _ z0 (by omega) (by omega) i1 i2 i3 u5 (Or.inr ⟨rfl, _, bs, by rw [q5, qPb_e (show B.1 6 (B.1 2 v3 + a4) ≤ v7 by rw [← e6, ← P84]; omega)]; exact qMp_n _ _, rfl, by rw [qNb_n (fun q => by have r1 : ((qUp al ++ bs).length : Int) = m0.1 89 v1 := r5.1.1; rw [q] at r1; simp at r1; omega)]; exact r5⟩)))
      · refine And.intro ⟨by omega, by omega⟩ ?_
        intro x26 hx26 kx26 lx26
        refine And.intro ⟨by omega, by omega⟩ (And.intro ⟨by omega, by omega⟩ ?_)
        intro m27 em27
        have z28 := zfx_r z0 em27 rfl (by decide)
        refine And.intro ⟨by omega, by omega⟩ (And.intro ⟨by omega, by omega⟩ ?_)
        intro m29 em29
        have z30 := zfx_r z28 em29 rfl (by decide)
        have QE := zQI_88 (v := v1) (i := 0) i1 em27 (by omega) ⟨by omega, by omega⟩ (Or.inl (by omega))
        have YE := zQy_w (i := 0) i2 em27 (Or.inl ⟨rfl, by omega, by omega, by omega⟩)
        have TA : zTy m27 x26 := by rw [hx26]; exact zTy_same (zQI_any i1).1 (by rw [em27, zu_ne (by decide)]) (by rw [em27, zu_ne (by decide)])
        have QF := zQI_89 QE em29 ⟨by omega, by omega⟩ (fun i a b => by rw [show 3 * v1 + i = (3 * v1) by omega, em27, zu_at, ← em27]; exact TA)
        have YF := zQy_w (i := 0) YE em29 (Or.inr ⟨Or.inl rfl, rfl⟩)
        exact And.intro (zrtb (by omega)) (And.intro ⟨by omega, by omega⟩ (hQ _ _ z30 (by omega) (by omega) QF YF (by rw [em29, zu_ne (by decide), em27, zu_ne (by decide)]; exact i3) (zUq_c u5 (fun j a b => by rw [em29, zu_ne (by omega), em27, zu_ne (by omega)]) (by show m29.1 66 ((8 : Nat) : Int) = _; rw [em29, zu_ne (by decide), em27, zu_ne (by decide)]; rfl)) (Or.inr ⟨rfl, _, bs, by rw [q5, qPb_e (show B.1 6 (B.1 2 v3 + a4) ≤ v7 by rw [← e6, ← P84]; omega)]; exact qMp_n _ _, by rw [em29, zu_ne (by decide), em27, zu_ne (by decide)], by have r1 : ((qUp al ++ bs).length : Int) = m0.1 89 v1 := r5.1.1; have r2 : qUp al ++ bs = [] := List.eq_nil_of_length_eq_zero (by omega); rw [r2] at r5; unfold qNb; rw [if_pos r2]; exact rV1_add (i := 0) r5 i1 ⟨by omega, by have := i2.2.2.1.1; omega⟩ (zOld_r _ _) ⟨rfl, rfl, rfl⟩ em27 (by omega) (by omega) (by omega) em29 (by omega) (by rw [hx26]; exact rEf_of T0.2.2.2.1.2)⟩)))
    · refine And.intro ⟨by omega, by omega⟩ ?_
      intro x31 hx31 kx31 lx31
      have HT := i1.2.1.2.2.2.1 v6 v7 (by omega) (by omega) (by omega) (by omega)
      rw [show 2 * v6 + v7 = ((2 * v6) + v7) by omega, ← hx31] at HT
      have v7b : v7 < B.1 6 v6 := by omega
      have RB := (T0.2.2.1.2.1 v6 v7 (by omega) (by rw [← T0.1.2]; omega) (by omega) v7b)
      rw [← hx31] at RB
      obtain ⟨kk, EB⟩ := RB.2
      have SZ := rC_sz i1.1.2.1 kk x31 _ RB.1.1 (by have h1 := RB.1.2; have h2 := i1.2.2.1; omega) (by have h1 := HT.1.2; omega) EB
      have DB := qPb_d (B := B) (p := v6) (b := v7) (by omega) v7b
      rw [← e6] at q5
      intro x32 hx32 kx32 lx32
      refine And.intro ⟨by omega, by omega⟩ ?_
      intro x33 hx33 kx33 lx33
      refine And.intro ⟨⟨by omega, by omega⟩, ⟨by omega, by omega⟩⟩ (And.intro (fun c34 => ?_) (fun c34 => ?_))
      · intro x35 hx35 kx35 lx35
        refine And.intro ⟨by omega, by omega⟩ ?_
        intro x36 hx36 kx36 lx36
        refine And.intro ⟨by omega, by omega⟩ ?_
        intro m37 em37
        have z38 := zfx_f z0 em37 rfl
        refine And.intro ⟨by omega, by omega⟩ ?_
        intro x39 hx39 kx39 lx39
        rw [em37, zu_ne (by decide)] at hx39
        refine And.intro ⟨by omega, by omega⟩ ?_
        intro x40 hx40 kx40 lx40
        rw [show m37.1 76 = μ.1 76 from z38.1 76 (by decide) rfl] at hx40
        refine And.intro ⟨by omega, by omega⟩ ?_
        intro x41 hx41 kx41 lx41
        rw [show m37.1 77 = μ.1 77 from z38.1 77 (by decide) rfl] at hx41
        have HW : zCt m0 v5 := zCt_old hp1.1 hp0.1.1.2.1 i2.1 i2.2.1
        have HM : zTop m0 ≤ 13000 := by have h1 := zQS_top hp0; have h2 := i2.2.2.2.2.1; have h3 := hp0.2.2.2.1; have h4 := zQS_r hp0; have h5 := hp0.2.1; have h6 := i1.2.1.1; omega
        have Q1 := zQI_fr (m' := m37) i1 (fun j a b => by rw [em37, zu_ne (by omega)]) (fun j a b => by rw [em37, zu_ne (by omega)]) (fun j a b => by rw [em37, zu_ne (by omega)]) (by rw [em37, zu_ne (by decide)]) (by rw [em37]; exact zu_nk (by decide)) (by rw [em37]; exact zu_nk (by decide)) (by rw [em37]; exact zu_nk (by decide))
        have HT1 := zTs_fr (m' := m37) HT.1 (by rw [em37, zu_ne (by decide)])
        have HW1 := zCt_fr (m' := m37) HW (fun j a b => by rw [em37, zu_ne (by omega)]) (by rw [em37]; exact zu_nk (by decide))
        have E8 : zTop m37 = zTop m0 := by show m37.1 66 ((8 : Nat) : Int) = m0.1 66 ((8 : Nat) : Int); rw [em37]; exact zu_nk (by decide)
        have E60 : m37.1 66 ((60 : Nat) : Int) = m0.1 66 ((60 : Nat) : Int) := (by rw [em37]; exact zu_nk (by decide))
        have S60 : 0 ≤ m0.1 66 ((60 : Nat) : Int) ∧ m0.1 66 ((60 : Nat) : Int) ≤ 2000000000 := by have h2 := i2; have h4 := hp0.2.2.2.2; unfold zQy at h2; omega
        have K0 : v3 = m0.1 68 v5 := by rw [(i2.1 v5 hp1.1.1.1 hp1.1.1.2).2.1]; omega
        have K := zQ_pre Q1 (by omega) HT1 HW1 (c := v3) (n := x41) (by rw [em37, zu_ne (by decide)]; exact K0) (by rw [hx41, z38.1 77 (by decide) rfl])
        refine ⟨zk_X9_substitute2, zm_X9_substitute2 hg d (by omega), _, _, _, _, _, _, _, rfl, ⟨by omega, by omega⟩, ⟨by omega, by omega⟩, ⟨by omega, by omega⟩, ⟨by omega, by omega⟩, K.1, K.2.1, rfl, ⟨by omega, by omega⟩, K.2.2.1, K.2.2.2.1, (fun m h _ => K.2.2.2.2.1 _ _ m h), K.2.2.2.2.2.1, ?_⟩
        intro x42 m43 qm43 kx42 lx42 p44 p45 p46 p47 p47u
        have z48 := zfx_t z38 qm43 rfl rfl
        refine And.intro ⟨by omega, by omega⟩ (And.intro ⟨by omega, by omega⟩ ?_)
        intro m49 em49
        have z50 := zfx_r z48 em49 rfl (by decide)
        refine And.intro ⟨by omega, by omega⟩ ?_
        intro x51 hx51 kx51 lx51
        rw [em49, zu_ne (by decide), qm43.1 89 (by decide) rfl, em37, zu_ne (by decide)] at hx51
        refine And.intro ⟨by omega, by omega⟩ (And.intro ⟨by omega, by omega⟩ ?_)
        intro m52 em52
        have z53 := zfx_r z50 em52 rfl (by decide)
        have R := zQ_bd (i := x39) i1 HM HT.1 (by omega) HW (by rw [K.2.2.2.2.2.2.2, em37, zu_ne (by decide)]) ⟨by omega, by have := i2.2.2.1.1; omega⟩ hx39 (by omega) em37 (by omega) p44 rfl p46 p47 (fun j a b => qm43.1 j (by omega) (zanyF (by simp <;> omega))) (qm43.2.1 45 rfl) (qm43.2.1 48 rfl) p45.1 p45.2 em49 (by omega) em52 (by omega)
        have U52 : zUq m52 0 := zUq_c (p47u (zUq_c u5 (fun j a b => by rw [em37, zu_ne (by omega)]) E8)) (fun j a b => by rw [em52, zu_ne (by omega), em49, zu_ne (by omega)]) (by show m52.1 66 ((8 : Nat) : Int) = _; rw [em52, zu_ne (by decide), em49, zu_ne (by decide)]; rfl)
        have c37 : ∀ j : Nat, j ≠ 66 → m37.1 j = m0.1 j := fun j hj => by rw [em37, zu_ne hj]
        have RS := zQ_sub Q1 (by omega) HT1 HW1 K.2.2.2.2.2.2.2 p44 rfl p46 p47 (fun j a b => qm43.1 j (by omega) (zanyF (by simp <;> omega))) (qm43.2.1 45 rfl)
        have O43 : zOld m0 m43 (zTop m0) := zOld_l (fun j a b => c37 j (by omega)) (by rw [← E8]; exact RS.2.1)
        have n5 : (cs.length : Int) = m0.1 69 v5 := by rw [(i2.1 v5 hp1.1.1.1 hp1.1.1.2).2.2.1]; exact hc1
        have RW : rEf m43 x42 (ysub (B.1 2 v3) cs (B.2 0 v6 v7).flatten) := by
          have q := rEf_put (cs := cs) Q1 RS.1 p44 p45.1 ⟨HT1.1.1, by have h1 := HT1.1.2; have h2 := i1.2.2.1; rw [E8]; omega⟩ (by rw [E8]; exact HW.1) RS.2.1 RS.2.2.1 (rE_c (fun j a b => c37 j (by omega)) RB.2) (fun h hh a b => by
            have w := qY_yG (k := v3) (by omega) (by rw [← T0.1.1]; omega) T0.2.2.2.2.2.1.1.2 (T0.2.2.2.2.1.1 v3 v6 v7 (by omega) (by rw [← T0.1.1]; omega) (by omega) (by rw [e6]; have := T76.2; omega) (by omega) v7b) h hh a b
            rw [hx40, hx41, T76.1, T76.2]; exact w) (by have k8 := K.2.2.2.2.2.2.2; rw [c37 69 (by decide)] at k8; omega) K.2.2.2.2.2.2.2 (fun j hj => by
            have nd := hp0.1.1.2.1 v5 hp1.1.1.1 hp1.1.1.2
            have n1 := nd.1.2
            have n2 := nd.2.1 j (by omega) (by omega)
            rw [c37 70 (by decide), (i2.1 v5 hp1.1.1.1 hp1.1.1.2).2.2.2.2 j (by omega) (by omega)]
            exact rEf_c (fun j a b => c37 j (by omega)) (rEf_old i2.1 hp0.1.1.2.1 n2.1 (by have := hp1.1.1.2; omega) (hc2 j hj)))
          rw [← p45.2, hx40, T76.1] at q
          exact q
        have V52 := rV1_add (r := ysub (B.1 2 v3) cs (B.2 0 v6 v7).flatten) r5 i1 ⟨by omega, by have := i2.2.2.1.1; omega⟩ O43 ⟨by rw [qm43.1 88 (by decide) rfl, c37 88 (by decide)], by rw [qm43.1 89 (by decide) rfl, c37 89 (by decide)], by rw [qm43.1 90 (by decide) rfl, c37 90 (by decide)]⟩ em49 (i := x39) (by omega) hx39 (by omega) em52 (by omega) RW
        have F52 : m52.1 66 ((48 : Nat) : Int) = m0.1 66 ((48 : Nat) : Int) + m0.1 71 x31 := by rw [em52, zu_ne (by decide), em49, zu_ne (by decide), qm43.2.1 48 rfl, em37, zu_at]; omega
        have R48 : m52.1 66 ((48 : Nat) : Int) ≤ 6000 := by rw [em52, zu_ne (by decide), em49, zu_ne (by decide), qm43.2.1 48 rfl, em37, zu_at]; omega
        refine Exists.intro (Int.toNat (2147483648 - (v7 + 1))) (And.intro (by omega) ?_)
        exact ⟨_, _, _, _, _, rfl, z53, ⟨by omega, by omega⟩, ⟨by omega, by omega⟩, ⟨by omega, by omega⟩, ⟨by omega, by omega⟩, ⟨by omega, by omega⟩, ⟨rfl, rfl, rfl, by omega⟩, R.1, (zQy_t i2 R.2.1), R48, (by rw [R.2.2]; omega), ⟨by omega, by omega⟩, U52, ⟨bs ++ [ysub (B.1 2 v3) cs (B.2 0 v6 v7).flatten], by rw [← e6, q5, DB, qMp_c (by omega), F52, ← SZ], by rw [← List.append_assoc]; exact V52⟩, rfl⟩
      · exact And.intro (zrtb (by omega)) (And.intro ⟨by omega, by omega⟩ (hQ _ _ z0 (by omega) (by omega) i1 i2 i3 u5 (Or.inl ⟨rfl, by rw [← e6, q5, DB, qMp_f (by omega)]⟩)))
