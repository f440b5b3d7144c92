/-! ### a class's own TYPE -/
def yow (k f n : Int) : List Int := k :: (List.range n.toNat).map (fun (i : Nat) => 32 + f + (i : Int))
theorem yow_s {k f v : Int} (h : 0 ≤ v) : yow k f (v + 1) = yow k f v ++ [32 + f + v] := by
  unfold yow
  rw [show (v + 1).toNat = v.toNat + 1 by omega, List.range_succ, List.map_append]
  simp [show max v 0 = v by omega]
theorem yow_l {k f v : Int} (h : 0 ≤ v) : ((yow k f v).length : Int) = v + 1 := by
  unfold yow
  rw [List.length_cons, List.length_map, List.length_range]
  omega
/-- parts: how many are open behind these heads -/
def ybl (A : Int → Int) (l : List Int) : Int := 1 + (l.map (fun h => A h - 1)).sum
theorem ybl_n (A : Int → Int) (l : List Int) (x : Int) : ybl A (l ++ [x]) = ybl A l + (A x - 1) := by simp [ybl]; omega
def yone (A : Int → Int) (l : List Int) : Prop := ybl A l = 0 ∧ ∀ n : Nat, n < l.length → 1 ≤ ybl A (l.take n)
theorem ybl_i {A : Int → Int} {l : List Int} {v s : Int} (h0 : s ≤ v) (h : v < s + l.length) : ybl A (l.take (v + 1 - s).toNat) = ybl A (l.take (v - s).toNat) + (A (l.getD (v - s).toNat 0) - 1) := by rw [ytk_i h0 h, ybl_n]
theorem yone_0 {A : Int → Int} {l : List Int} {v s : Int} (h : yone A l) (h0 : s ≤ v) (h1 : v ≤ s + l.length) (hz : ybl A (l.take (v - s).toNat) = 0) : v = s + l.length := by
  by_cases q : v = s + l.length
  · exact q
  · have := h.2 (v - s).toNat (by omega)
    omega
theorem yone_1 {A : Int → Int} {l : List Int} {v s : Int} (h : yone A l) (h1 : v ≤ s + l.length) (hz : ybl A (l.take (v - s).toNat) ≠ 0) : v < s + l.length := by
  by_cases q : v = s + l.length
  · exfalso
    rw [List.take_of_length_le (by omega)] at hz
    exact hz h.1
  · omega
theorem yone_p {A : Int → Int} {l : List Int} (h : yone A l) : 0 < l.length := by
  rcases l with _ | ⟨a, r⟩
  · exact absurd h.1 (by simp [ybl])
  · simp
def yk_X1_addOwn : zC := fun As μ Q => ∃ (t : Nat) (a1 : Int) (a2 : Int) (a3 : Int) (c : Nat), As = [.inr (.inr (t, 26)), .inl a1, .inl a2, .inl a3] ∧ (t = 26 ∨ t = 44) ∧ (0 ≤ a1 ∧ a1 ≤ 20) ∧ (0 ≤ a2 ∧ a2 ≤ 80) ∧ (0 ≤ a3 ∧ a3 ≤ 4) ∧ (yCo μ t c) ∧ (μ.1 t ((6 : Nat) : Int) ≤ μ.2 c ∧ 0 ≤ μ.1 t ((6 : Nat) : Int) ∧ μ.1 t ((6 : Nat) : Int) + 200 ≤ 88400) ∧ (zcq μ) ∧ (∀ (μ' : zM), zle μ μ' → (yPu μ μ' t (a1 * 21 + a1) (yow a1 a2 a3)) → Q none μ')
set_option maxHeartbeats 4000000 in
theorem ym_X1_addOwn {g : zΓ} (hg : zg g) (d : Nat) (hd : 4 ≤ d) : zOk g d 21 yk_X1_addOwn := by
  obtain ⟨d, rfl⟩ : ∃ d', d = d' + 1 := ⟨d - 1, by omega⟩
  refine zOk_loop hg (show mt_tab[21]? = some mt_X1_addOwn from rfl) ([(48, [0, 2, 3, 4])], []) 49 rfl fun As μ Q hC => ?_
  obtain ⟨t, a1, a2, a3, c, rfl, ht, ha1, ha2, ha3, hp0, hp1, hp2, hQ⟩ := hC
  have z0 : zle μ μ := zle_r μ
  refine ⟨rfl, fun pc vs μ' n => ∃ (v2 : Int) (v3 : Int) (v4 : Int), vs = [.inr (.inr (t, 26)), .inl v2, .inl v3, .inl v4] ∧ zle μ μ' ∧ (0 ≤ v2 ∧ v2 ≤ 80) ∧ (0 ≤ v3 ∧ v3 ≤ 4) ∧ (0 ≤ v4 ∧ v4 ≤ 5) ∧ (v2 = a2 ∧ v3 = a3 ∧ v4 ≤ a3) ∧ (∃ c1, yOv μ μ' t c1 (a3 + 1) (yow a1 a2 v4) ∧ yS1 μ μ' t (a1 * 21 + a1) (a3 + 1)) ∧ n = (Int.toNat (2147483648 - v4)), ?_, ?_, trivial⟩
  · refine And.intro ht ⟨yk_X1_makeRoom, ym_X1_makeRoom hg d (by omega), _, _, rfl, ht, ⟨by omega, by omega⟩, ⟨by omega, by omega⟩, (zcq_t hp2 z0), ?_⟩
    intro m1 qm1 p2
    have z3 := zle_t z0 qm1
    obtain ⟨c1, O1, S1⟩ := yOv_k hp0 hp1.1 p2
    have U1 : m1.1 t ((6 : Nat) : Int) = μ.1 t ((6 : Nat) : Int) := by have h0 := O1.2.2.2.2.2.1; simpa using h0
    refine And.intro ht ?_
    refine And.intro ht ?_
    intro x4 hx4 kx4 lx4
    refine ⟨yk_X8_set, ym_X8_set hg d (by omega), _, _, _, _, rfl, ⟨by omega, by omega⟩, ?_⟩
    refine And.intro (zfa (o := 1) (y2 := 27) ht rfl) ?_
    refine And.intro ⟨by omega, by omega⟩ (And.intro ⟨by omega, by omega⟩ ?_)
    intro m5 qm5 em5
    have z6 := zle_0 z3 ⟨qm5, by rw [em5]; rfl⟩
    refine And.intro ht ?_
    refine ⟨yk_X8_set, ym_X8_set hg d (by omega), _, _, _, _, rfl, ⟨by omega, by omega⟩, ?_⟩
    refine And.intro (zfa (o := 2) (y2 := 28) ht rfl) ?_
    refine And.intro ⟨by omega, by omega⟩ (And.intro ⟨by omega, by omega⟩ ?_)
    intro m7 qm7 em7
    have z8 := zle_0 z6 ⟨qm7, by rw [em7]; rfl⟩
    have PS := yOv_s O1 S1 (show x4 = μ.1 t ((6 : Nat) : Int) by omega) em5 em7
    have A6 := PS.1.2.2.2.2.2.1
    have A7 := PS.1.2.2.2.2.2.2
    simp only [List.length_nil] at A6
    refine And.intro ht ⟨yk_X1_write, ym_X1_write hg d (by omega), _, _, _, rfl, ht, ⟨by omega, by omega⟩, PS.1.2.2.1, (by rw [A6]; omega), ?_⟩
    intro m9 qm9 p10
    have z11 := zle_0 z8 qm9
    have OA := yOv_a PS.1 p10
    refine Exists.intro (Int.toNat (2147483648 - 0)) ?_
    exact ⟨_, _, _, rfl, z11, ⟨by omega, by omega⟩, ⟨by omega, by omega⟩, ⟨by omega, by omega⟩, (by omega), ⟨_, OA.1, yS1_a PS.2 OA.2.1 OA.2.2⟩, rfl⟩
  · intro vs m0 n hI
    clear z0
    obtain ⟨v2, v3, v4, rfl, z0, hv2, hv3, hv4, i0, i1, rfl⟩ := hI
    obtain ⟨c1, O1, S1⟩ := i1
    have YL := yow_l (k := a1) (f := a2) (v := v4) (by omega)
    have A6 := O1.2.2.2.2.2.1
    have A7 := O1.2.2.2.2.2.2
    refine And.intro ⟨⟨by omega, by omega⟩, ⟨by omega, by omega⟩⟩ (And.intro (fun c12 => ?_) (fun c12 => ?_))
    · have V4 : v4 = a3 := by omega
      subst V4
      exact And.intro rfl (hQ _ z0 ⟨c1, by rw [YL]; exact ⟨O1, S1⟩⟩)
    · refine And.intro ht ⟨yk_X1_write, ym_X1_write hg d (by omega), _, _, _, rfl, ht, ⟨by omega, by omega⟩, O1.2.2.1, (by rw [A6]; omega), ?_⟩
      intro m13 qm13 p14
      have z15 := zle_0 z0 qm13
      have OA := yOv_a O1 p14
      rw [show (32 : Int) + v2 + v4 = 32 + a2 + v4 by omega, ← yow_s (by omega)] at OA
      refine Exists.intro (Int.toNat (2147483648 - (v4 + 1))) (And.intro (by omega) ?_)
      exact ⟨_, _, _, rfl, z15, ⟨by omega, by omega⟩, ⟨by omega, by omega⟩, ⟨by omega, by omega⟩, (by omega), ⟨_, OA.1, yS1_a S1 OA.2.1 OA.2.2⟩, rfl⟩
def yk_X1_addAny : zC := fun As μ Q => ∃ (t : Nat) (a1 : Int) (c : Nat), As = [.inr (.inr (t, 26)), .inl a1] ∧ (t = 26 ∨ t = 44) ∧ (0 ≤ a1 ∧ a1 ≤ 20) ∧ (yCo μ t c) ∧ (μ.1 t ((6 : Nat) : Int) ≤ μ.2 c ∧ 0 ≤ μ.1 t ((6 : Nat) : Int) ∧ μ.1 t ((6 : Nat) : Int) + 200 ≤ 88400) ∧ (zcq μ) ∧ (∀ (μ' : zM), zle μ μ' → ((μ.1 (Nat.add t 2) (a1 * 21 + 0) ≠ 0 ∧ μ' = μ) ∨ (μ.1 (Nat.add t 2) (a1 * 21 + 0) = 0 ∧ yPu μ μ' t (a1 * 21 + 0) [0])) → Q none μ')
set_option maxHeartbeats 4000000 in
theorem ym_X1_addAny {g : zΓ} (hg : zg g) (d : Nat) (hd : 4 ≤ d) : zOk g d 22 yk_X1_addAny := by
  obtain ⟨d, rfl⟩ : ∃ d', d = d' + 1 := ⟨d - 1, by omega⟩
  refine zOk_straight hg (show mt_tab[22]? = some mt_X1_addAny from rfl) [] 40 rfl fun As μ Q hC => ?_
  obtain ⟨t, a1, c, rfl, ht, ha1, hp0, hp1, hp2, hQ⟩ := hC
  refine ⟨rfl, ?_⟩
  have z0 : zle μ μ := zle_r μ
  refine And.intro ht ?_
  refine ⟨zk_X8_at, zm_X8_at hg d (by omega), _, _, _, rfl, ⟨by omega, by omega⟩, ?_⟩
  refine And.intro (zfa (o := 2) (y2 := 28) ht rfl) ?_
  intro x1 kx1 lx1 fx1 gx1
  have hx1 : x1 = μ.1 (Nat.add t 2) ((a1 * 21) + 0) := (fx1 ⟨by omega, by omega⟩).1
  have ix1 := (fx1 ⟨by omega, by omega⟩).2
  refine And.intro ⟨by omega, by omega⟩ (And.intro (fun c2 => ?_) (fun c2 => ?_))
  · exact And.intro rfl (hQ _ z0 (Or.inl ⟨by omega, rfl⟩))
  · refine And.intro ht ⟨yk_X1_makeRoom, ym_X1_makeRoom hg d (by omega), _, _, rfl, ht, ⟨by omega, by omega⟩, ⟨by omega, by omega⟩, (zcq_t hp2 z0), ?_⟩
    intro m3 qm3 p4
    have z5 := zle_t z0 qm3
    obtain ⟨c1, O1, S1⟩ := yOv_k hp0 hp1.1 p4
    have U1 : m3.1 t ((6 : Nat) : Int) = μ.1 t ((6 : Nat) : Int) := by have h0 := O1.2.2.2.2.2.1; simpa using h0
    refine And.intro ht ?_
    refine And.intro ht ?_
    intro x6 hx6 kx6 lx6
    refine ⟨yk_X8_set, ym_X8_set hg d (by omega), _, _, _, _, rfl, ⟨by omega, by omega⟩, ?_⟩
    refine And.intro (zfa (o := 1) (y2 := 27) ht rfl) ?_
    refine And.intro ⟨by omega, by omega⟩ (And.intro ⟨by omega, by omega⟩ ?_)
    intro m7 qm7 em7
    have z8 := zle_0 z5 ⟨qm7, by rw [em7]; rfl⟩
    refine And.intro ht ?_
    refine ⟨yk_X8_set, ym_X8_set hg d (by omega), _, _, _, _, rfl, ⟨by omega, by omega⟩, ?_⟩
    refine And.intro (zfa (o := 2) (y2 := 28) ht rfl) ?_
    refine And.intro ⟨by omega, by omega⟩ (And.intro ⟨by omega, by omega⟩ ?_)
    intro m9 qm9 em9
    have z10 := zle_0 z8 ⟨qm9, by rw [em9]; rfl⟩
    have PS := yOv_s O1 S1 (show x6 = μ.1 t ((6 : Nat) : Int) by omega) em7 em9
    have A6 := PS.1.2.2.2.2.2.1
    have A7 := PS.1.2.2.2.2.2.2
    simp only [List.length_nil] at A6
    refine And.intro ht ⟨yk_X1_write, ym_X1_write hg d (by omega), _, _, _, rfl, ht, ⟨by omega, by omega⟩, PS.1.2.2.1, (by rw [A6]; omega), ?_⟩
    intro m11 qm11 p12
    have z13 := zle_0 z10 qm11
    have OA := yOv_a PS.1 p12
    exact And.intro rfl (hQ _ z13 (Or.inr ⟨by omega, _, OA.1, yS1_a PS.2 OA.2.1 OA.2.2⟩))
def yk_X4_endOfPart : zC := fun As μ Q => ∃ (t : Nat) (a1 : Int) (l : List Int) (A : Int → Int), As = [.inr (.inr (t, 14)), .inl a1] ∧ (t = 14 ∨ t = 32) ∧ (0 ≤ a1 ∧ a1 ≤ 300) ∧ (yTo μ (Nat.add t 11) a1 (μ.1 t ((14 : Nat) : Int)) l) ∧ (μ.1 t ((14 : Nat) : Int) ≤ 300) ∧ (∀ x : Int, (if 0 ≤ x ∧ x < μ.1 t ((12 : Nat) : Int) then μ.1 (Nat.add t 3) x else if x = 201 ∨ x = 202 then 1 else 0) = A x) ∧ (yone A l) ∧ (∀ (v : Int), 0 ≤ v → v ≤ 301 → (v = a1 + l.length) → Q (some (.inl v)) μ)
set_option maxHeartbeats 4000000 in
theorem ym_X4_endOfPart {g : zΓ} (hg : zg g) (d : Nat) (hd : 2 ≤ d) : zOk g d 64 yk_X4_endOfPart := by
  obtain ⟨d, rfl⟩ : ∃ d', d = d' + 1 := ⟨d - 1, by omega⟩
  refine zOk_loop hg (show mt_tab[64]? = some mt_X4_endOfPart from rfl) ([(4, [0, 2, 3])], []) 35 rfl fun As μ Q hC => ?_
  obtain ⟨t, a1, l, A, rfl, ht, ha1, hp0, hp1, hp2, hp3, hQ⟩ := hC
  have H1 := hp0.2.1
  refine ⟨rfl, fun pc vs μ' n => ∃ (v2 : Int) (v3 : Int), vs = [.inr (.inr (t, 14)), .inl v2, .inl v3] ∧ μ' = μ ∧ (1 ≤ v2 ∧ v2 ≤ 901) ∧ (0 ≤ v3 ∧ v3 ≤ 300) ∧ (v2 = ybl A (l.take (v3 - a1).toNat)) ∧ (v3 < a1 + l.length) ∧ (a1 ≤ v3 ∧ v2 ≤ 1 + 3 * (v3 - a1) ∧ 1 ≤ v2) ∧ n = (Int.toNat (2147483648 - v3)), ?_, ?_, trivial⟩
  · refine Exists.intro (Int.toNat (2147483648 - a1)) ?_
    exact ⟨_, _, rfl, rfl, ⟨by omega, by omega⟩, ⟨by omega, by omega⟩, (by rw [show (a1 - a1).toNat = 0 by omega]; rfl), (by have h0 := yone_p hp3; omega), (by omega), rfl⟩
  · intro vs m0 n hI
    obtain ⟨v2, v3, rfl, em0, hv2, hv3, i0, i1, i2, rfl⟩ := hI
    replace em0 := em0.symm
    subst em0
    refine And.intro ht ?_
    intro x1 hx1 kx1 lx1
    refine And.intro ⟨⟨by omega, by omega⟩, ⟨by omega, by omega⟩⟩ (And.intro (fun c2 => ?_) (fun c2 => ?_))
    · exfalso; omega
    · refine And.intro ht ?_
      refine ⟨zk_X8_at, zm_X8_at hg d (by omega), _, _, _, rfl, ⟨by omega, by omega⟩, ?_⟩
      refine And.intro (zfa (o := 11) (y2 := 25) ht rfl) ?_
      intro x3 kx3 lx3 fx3 gx3
      have hx3 : x3 = μ.1 (Nat.add t 11) v3 := (fx3 ⟨by omega, by omega⟩).1
      have ix3 := (fx3 ⟨by omega, by omega⟩).2
      have HX : x3 = l.getD (v3 - a1).toNat 0 := by rw [hx3]; exact yRow_v hp0.2.2 (by omega) (by omega)
      refine And.intro ht ⟨yk_X4_arity, ym_X4_arity hg d (by omega), _, _, rfl, ht, ⟨by omega, by omega⟩, ?_⟩
      intro x4 kx4 lx4 p5
      have AX := p5
      rw [hp2] at AX
      have BI := ybl_i (A := A) (l := l) (v := v3) (s := a1) (by omega) (by omega)
      rw [← HX, ← AX] at BI
      refine And.intro ⟨by omega, by omega⟩ (And.intro (fun c6 => ?_) (fun c6 => ?_))
      · refine Exists.intro (Int.toNat (2147483648 - (v3 + 1))) (And.intro (by omega) ?_)
        exact ⟨_, _, rfl, rfl, ⟨by omega, by omega⟩, ⟨by omega, by omega⟩, (by rw [BI]; omega), (yone_1 hp3 (by omega) (by rw [BI]; omega)), (by have h0 := hp3.2 (v3 + 1 - a1).toNat (by have h1 := yone_1 hp3 (v := v3 + 1) (s := a1) (by omega) (by rw [BI]; omega); omega); rw [BI] at h0; omega), rfl⟩
      · exact And.intro trivial (And.intro ⟨by omega, by omega⟩ (hQ _ (by omega) (by omega) (yone_0 hp3 (by omega) (by omega) (by rw [BI]; omega))))
