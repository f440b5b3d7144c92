/-! ### what is found above a class, step by step -/
def zBs (ν : zM) (lo c P : Int) : Prop := (zND ν lo ∧ zUq ν lo ∧ zWf ν lo (zTop ν) (c + 1) P 0 (zXn ν)) ∧ (1 ≤ c ∧ c ≤ 20) ∧ zTP ν lo c P ∧ zCl ν lo c P ∧ zOw ν c ∧ (∀ d : Int, 0 ≤ d → d ≤ 20 → zXa ν c d = -1 ∨ (zAe ν lo c d (zXa ν c d) ∧ ν.1 71 (zXa ν c d) ≤ 300)) ∧ ∀ d : Int, 0 ≤ d → d ≤ 20 → 0 ≤ zXa ν c d → d = c ∨ d = 0
def zPr (i d j f : Int) : Prop := j < i ∨ (j = i ∧ f < d)
def zGd (ν m : zM) (c i d : Int) : Prop := (∀ d' : Int, 0 ≤ d' → d' ≤ 20 → 0 ≤ zXa m c d' → m.1 71 (zXa m c d') ≤ 300) ∧
  (∀ j f : Int, 0 ≤ j → j < ν.1 79 (21 + c) → 0 ≤ f → f ≤ 20 → zPr i d j f → 0 ≤ zXe ν c j → 0 ≤ zXa ν (zXe ν c j) f → zSR m (zXf ν (zXe ν c j)) (zXn ν (zXe ν c j)) (zXs ν c j) (zXa ν (zXe ν c j) f) (zXa m c f) ∧ 0 ≤ zXa m c f) ∧
  (∀ d' : Int, 0 ≤ d' → d' ≤ 20 → 0 ≤ zXa m c d' → d' = c ∨ d' = 0 ∨ ∃ j : Int, 0 ≤ j ∧ j < ν.1 79 (21 + c) ∧ 0 ≤ zXe ν c j ∧ 0 ≤ zXa ν (zXe ν c j) d' ∧ zPr i d j d')
def zFA (ν m : zM) (lo c P i d g J : Int) : Prop := (zND m lo ∧ zUq m lo ∧ zOld ν m (zTop ν) ∧ zTop ν ≤ zTop m ∧ zWf m lo (zTop m) (c + 1) P 0 (zXn ν)) ∧ ((∀ j : Nat, 76 ≤ j → j ≤ 79 → m.1 j = ν.1 j) ∧ ∀ q : Int, q < 21 * (21 + c) → m.1 80 q = ν.1 80 q) ∧
  (∀ d' : Int, 0 ≤ d' → d' ≤ 20 → zXa m c d' = -1 ∨ zAe m lo c d' (zXa m c d')) ∧ (zXa m c c = zXa ν c c ∧ 0 ≤ zXa m c 0) ∧ (∀ z : Int, zTop ν ≤ z → z < zTop m → zLb ν m lo c J z) ∧ (g = 1 → zGd ν m c i d)
theorem zBs_s {ν : zM} {lo c P i : Int} (h : zBs ν lo c P) (i0 : 0 ≤ i) (i1 : i < ν.1 79 (21 + c)) : zTx ν lo (zXs ν c i) ∧ zXe ν c i < c ∧ zA2 ν (zXs ν c i) ∧ zPar ν (zXf ν c) (zXf ν c + zXn ν c) (zXs ν c i) ∧ ν.1 69 (zXs ν c i) = zXn ν (zXe ν c i) := by
  obtain ⟨g1, g2, g3, g4⟩ := h.2.2.2.1.2 i i0 i1
  exact ⟨g1, g2, g3, g4, ((h.1.2.2 _ g1.1.1 g1.1.2).2.1 g1.2.2).2⟩
theorem zBs_t {ν : zM} {lo c P e d : Int} (h : zBs ν lo c P) (e0 : 0 ≤ e) (e1 : e < c) (d0 : 0 ≤ d) (d1 : d ≤ 20) (t0 : 0 ≤ zXa ν e d) : zAe ν lo e d (zXa ν e d) ∧ ν.1 71 (zXa ν e d) ≤ 300 ∧ ∀ σ : Int, σ ∈ zsb ν 20000 (zXa ν e d) → zGl ν e σ := by
  rcases (h.2.2.1.1 e e0 e1).2.1 d d0 d1 with q | q
  · omega
  · exact q
theorem zsb_lo {m : zM} {lo : Int} (nd : ∀ x : Int, 0 ≤ x → x < zTop m → zNd m x) (h0 : 0 ≤ lo) (wf : ∀ x : Int, lo ≤ x → x < zTop m → ∀ i : Int, 0 ≤ i → i < m.1 69 x → lo ≤ m.1 70 (4 * x + i)) : ∀ (k : Nat) (x y : Int), lo ≤ x → x < zTop m → y ∈ zsb m k x → lo ≤ y ∧ y < zTop m
  | 0, x, y, h1, h2, hy => by
    have e : y = x := List.mem_singleton.mp hy
    omega
  | k + 1, x, y, h1, h2, hy => by
    rcases zsb_mem.mp hy with e | ⟨i, i0, i1, i2⟩
    · omega
    · have p := (nd x (by omega) h2).2.1 i i0 i1
      exact zsb_lo nd h0 wf k _ y (wf x h1 h2 i i0 i1) (by omega) i2
theorem zWf_lo {m : zM} {lo hi C Pn F : Int} {cf : Int → Int} (h : zWf m lo hi C Pn F cf) : ∀ x : Int, lo ≤ x → x < hi → ∀ i : Int, 0 ≤ i → i < m.1 69 x → lo ≤ m.1 70 (4 * x + i) := fun x a b i c d => (h x a b).1 i c d
theorem zsb_sub {m : zM} {S : Int → Prop} (hS : ∀ x : Int, S x → ∀ i : Int, 0 ≤ i → i < m.1 69 x → S (m.1 70 (4 * x + i))) : ∀ (k : Nat) (a y : Int), S a → y ∈ zsb m k a → S y
  | 0, a, y, h, hy => by
    have e : y = a := List.mem_singleton.mp hy
    rw [e]; exact h
  | k + 1, a, y, h, hy => by
    rcases zsb_mem.mp hy with e | ⟨i, i0, i1, i2⟩
    · rw [e]; exact h
    · exact zsb_sub hS k _ y (hS a h i i0 i1) i2
/-- what a type put anew is given -/
theorem zFA_pre {ν m : zM} {lo c P i d g J : Int} (hB : zBs ν lo c P) (hF : zFA ν m lo c P i d g J) (i0 : 0 ≤ i) (i1 : i < ν.1 79 (21 + c)) (e0 : 0 ≤ zXe ν c i) (d0 : 0 ≤ d) (d1 : d ≤ 20) (t0 : 0 ≤ zXa ν (zXe ν c i) d) :
    (0 ≤ lo ∧ (0 ≤ zXs ν c i ∧ zXs ν c i < zTop m) ∧ zXa ν (zXe ν c i) d < zTop m) ∧ zXn ν (zXe ν c i) = m.1 69 (zXs ν c i) ∧ (∀ j : Int, 0 ≤ j → j < zXn ν (zXe ν c i) → lo ≤ m.1 70 (4 * zXs ν c i + j) ∧ m.1 67 (m.1 70 (4 * zXs ν c i + j)) ≤ 2) ∧ zsb m 20000 (zXa ν (zXe ν c i) d) = zsb ν 20000 (zXa ν (zXe ν c i) d) ∧
    (∀ y : Int, y ∈ zsb m 20000 (zXa ν (zXe ν c i) d) → lo ≤ y ∧ y < zTop ν) ∧ (∀ y : Int, y ∈ zsb m 20000 (zXa ν (zXe ν c i) d) → m.1 67 y = 1 → 0 ≤ m.1 68 y - zXf ν (zXe ν c i) ∧ m.1 68 y - zXf ν (zXe ν c i) < zXn ν (zXe ν c i)) ∧ (m.1 71 (zXa ν (zXe ν c i) d) ≤ 300 ∧ m.1 67 (zXa ν (zXe ν c i) d) = 0 ∧ m.1 68 (zXa ν (zXe ν c i) d) = d ∧ m.1 69 (zXa ν (zXe ν c i) d) = zXn ν d ∧ zA2 m (zXa ν (zXe ν c i) d)) ∧ d < c := by
  have l0 := hB.1.1.1.1
  have S := zBs_s hB i0 i1
  have T := zBs_t hB e0 S.2.1 d0 d1 t0
  obtain ⟨⟨f1, f2, f3, f4, f5⟩, -⟩ := hF
  have s0 : 0 ≤ zXs ν c i := by have := S.1.1.1; omega
  have sT := S.1.1.2
  have tT := T.1.1.2
  have os := f3 _ s0 sT
  have ot := f3 _ t0 tT
  have e1 := zsb_old f3 hB.1.1.2.1 20000 _ t0 tT
  refine ⟨⟨l0, ⟨s0, by omega⟩, by omega⟩, by rw [os.2.2.1, S.2.2.2.2], fun j a b => ?_, e1, fun y hy => ?_, fun y hy hk => ?_, ⟨by rw [ot.2.2.2.1]; exact T.2.1, by rw [ot.1]; exact T.1.2.1, by rw [ot.2.1]; exact T.1.2.2.1, by rw [ot.2.2.1]; exact T.1.2.2.2.2.1, zA2_old T.1.2.2.2.2.2.1 hB.1.1.2.1 ⟨t0, tT⟩ f3⟩, by have := T.1.2.2.2.1; have := S.2.1; omega⟩
  · have hc : j < m.1 69 (zXs ν c i) := by rw [os.2.2.1, S.2.2.2.2]; exact b
    exact ⟨(f5 _ S.1.1.1 (by omega)).1 j a hc, zA2_old S.2.2.1 hB.1.1.2.1 ⟨s0, sT⟩ f3 j a hc⟩
  · rw [e1] at hy
    exact zsb_lo hB.1.1.2.1 l0 (zWf_lo hB.1.2.2) 20000 _ y T.1.1.1 tT hy
  · rw [e1] at hy
    have r := zsb_lo hB.1.1.2.1 l0 (zWf_lo hB.1.2.2) 20000 _ y T.1.1.1 tT hy
    have oy := f3 y (by omega) r.2
    rw [oy.1] at hk
    have := zPar_k (zPar_sb 20000 _ y T.1.2.2.2.2.2.2 hy) hk
    rw [oy.2.1]
    omega
theorem zFA_lab {ν m m' : zM} {lo c P i d g J st : Int} (hB : zBs ν lo c P) (hF : zFA ν m lo c P i d g J) (hJ1 : J ≤ i + 1) (i0 : 0 ≤ i) (i1 : i < ν.1 79 (21 + c)) (e0 : 0 ≤ zXe ν c i) (d0 : 0 ≤ d) (d1 : d ≤ 20) (t0 : 0 ≤ zXa ν (zXe ν c i) d)
    (hS : zSJ m m' lo st (zXf ν (zXe ν c i)) (zXn ν (zXe ν c i)) (zXs ν c i) (fun y => y ∈ zsb m 20000 (zXa ν (zXe ν c i) d))) (hu : zUq m' lo) : zWf m' lo (zTop m') (c + 1) P 0 (zXn ν) ∧ zDt m' lo ∧ ∀ z : Int, zTop ν ≤ z → z < zTop m' → zLb ν m' lo c (i + 1) z := by
  obtain ⟨⟨l0, hw, ht⟩, hn, hwa, hsb, hlo, hpar, -, -⟩ := zFA_pre hB hF i0 i1 e0 d0 d1 t0
  have S := zBs_s hB i0 i1
  have T := zBs_t hB e0 S.2.1 d0 d1 t0
  obtain ⟨⟨f1, f2, f3, f4, f5⟩, -, -, -, fl, -⟩ := hF
  have W := zSJ_wf hS f5 f1 (fun x hx => (hlo x hx).1) hw (by omega) hwa
  have D : zDt m' lo := ⟨hS.1, hu, zWf_lo W⟩
  have ho' : zOld ν m' (zTop ν) := zOld_t f3 hS.2.1 f4
  have tt := hS.2.2.1
  refine ⟨W, D, fun z z0 z1 => ?_⟩
  by_cases hz : z < zTop m
  · exact zLb_old l0 f1.2.1 hS.2.1 tt hJ1 (fl z z0 hz)
  · obtain ⟨x, c1, c2, c3, c4, c5, c6⟩ := hS.2.2.2.2.1 z (by omega) z1
    have px := hS.2.2.2.2.2 x c1 c2 c3
    have xr := hlo x px
    have SR := zSJ_SR hS f1.2.1 hpar ⟨c1, c2⟩ c3
    rw [c4] at SR
    have px' : x ∈ zsb ν 20000 (zXa ν (zXe ν c i) d) := by rw [← hsb]; exact px
    have ox := ho' x c1 xr.2
    have sT := S.1.1.2
    have os := ho' _ hw.1 sT
    have fT := hB.1.1.1.2
    rcases T.2.2 x px' with h | h | h | ⟨f, x0, g1, g2, g3, g4⟩
    · exfalso
      have own := (hB.2.2.1.1 _ e0 S.2.1).2.2
      have A := (zBs_t hB e0 S.2.1 e0 (by have := S.2.1; have := hB.2.1.2; omega) own.1).1
      have oa := ho' _ own.1 A.1.2
      have nA := hB.1.1.2.1 _ own.1 A.1.2
      have aT := A.1.2
      have e := zdet D ⟨c1, by omega⟩ SR (y' := zXs ν c i) (by
        rw [h]
        refine zSR_own (by rw [oa.1]; exact A.2.1) (by rw [os.1]; exact S.1.2.2) (by rw [os.2.1, oa.2.1, A.2.2.1]; rfl) (by rw [os.2.2.1, oa.2.2.1, S.2.2.2.2, A.2.2.2.2.1]) (by rw [oa.2.2.1]; exact A.2.2.2.2.1) (fun k k0 k1 => ?_)
        have h4 := nA.1.2
        have hc := A.2.2.2.2.1
        have p := nA.2.1 k k0 (by omega)
        rw [oa.2.2.2.2 k k0 (by omega), (ho' _ p.1 (by omega)).1, (ho' _ p.1 (by omega)).2.1]
        exact own.2.1 k k0 k1) ⟨by omega, z1⟩ ⟨S.1.1.1, by omega⟩
      omega
    · rw [← ox.1] at h; exact absurd h c5
    · exfalso
      have own := (hB.2.2.1.1 _ e0 S.2.1).2.2
      have A := (zBs_t hB e0 S.2.1 (d := 0) (by omega) (by omega) own.2.2).1
      have h77 := hB.2.2.1.2.2
      have hc := A.2.2.2.2.1
      rw [ox.2.2.1, h, hc] at c6
      have : zXn ν 0 = 0 := by unfold zXn; rw [show (21 + 0 : Int) = 21 by omega]; exact h77
      omega
    · have xr0 := zXm_rng l0 hB.1.1.2.1 (hB.2.2.1.1 f g1.1 (by have := S.2.1; omega)).1 g3
      have A := (zBs_t hB e0 S.2.1 (d := f) g1.1 (by have := S.2.1; have := hB.2.1.2; omega) g2).1
      have aT := A.1.2
      have oa := ho' _ g2 aT
      refine ⟨(i, f, x0), ⟨⟨i0, by show i < i + 1; omega⟩, e0⟩, ⟨g1.1, by show f < c; have := S.2.1; omega⟩, g3, ⟨by omega, z1⟩, ⟨xr0.1, by show x0 < _; omega⟩, ⟨⟨g2, by show zXa ν (zXe ν c i) f < _; omega⟩, ?_⟩, ⟨⟨hw.1, by show zXs ν c i < _; omega⟩, ?_⟩, x, ⟨xr.1, by omega⟩, ?_, SR⟩
      · show zXn ν f ≤ m'.1 69 (zXa ν (zXe ν c i) f)
        rw [oa.2.2.1, A.2.2.2.2.1]
        exact Int.le_refl _
      · show zXn ν (zXe ν c i) ≤ m'.1 69 (zXs ν c i)
        rw [os.2.2.1, S.2.2.2.2]
        exact Int.le_refl _
      · exact zSR_old ho' hB.1.1.2.1 g4 xr0 ⟨c1, xr.2⟩ ⟨g2, aT⟩ (by rw [A.2.2.2.2.1]; exact Int.le_refl _)
