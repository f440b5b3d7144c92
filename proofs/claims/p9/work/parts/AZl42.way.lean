/-! ### ways of a TYPE -/
/-- a way from PARAMETER p to q, in a row of heads; with more than p alone where g -/
def yWy (A fi : Int → Int) (L : List Int) (p q : Int) (g : Prop) : Prop := ∃ (a b : List Int) (h : Int) (as : List (List Int)) (j : Nat), L = a ++ (h :: as.flatten) ++ b ∧ (0 ≤ h ∧ h < 32) ∧ (as.length : Int) = A h ∧ (∀ x ∈ as, yone A x) ∧ j < as.length ∧ q = fi h + j ∧ 32 + p ∈ as.getD j [] ∧ (g → 1 < (as.getD j []).length)
/-- the same of nodes -/
def rWy (m : zM) (fi : Int → Int) (x p q : Int) (g : Prop) : Prop := ∃ (k : Nat) (y i : Int) (j : Nat) (z : Int), rRe m k x y ∧ m.1 67 y = 0 ∧ (0 ≤ i ∧ i < m.1 69 y) ∧ q = fi (m.1 68 y) + i ∧ rRe m j (m.1 70 (4 * y + i)) z ∧ m.1 67 z = 1 ∧ m.1 68 z = p ∧ (g → z ≠ m.1 70 (4 * y + i))
theorem rRe_lo {m : zM} {lo T : Int} (wf : rLo m lo T) : ∀ (k : Nat) (x y : Int), lo ≤ x → x < T → rRe m k x y → lo ≤ y ∧ y < T
  | 0, x, y, x0, x1, h => by
    have h : x = y := h
    rw [← h]; exact ⟨x0, x1⟩
  | k + 1, x, y, x0, x1, h => by
    rcases h with h | ⟨i, i0, i1, h⟩
    · rw [← h]; exact ⟨x0, x1⟩
    · have w := wf x x0 x1 i i0 i1
      exact rRe_lo wf k _ y w.1 w.2 h
theorem rE_p1 {m : zM} {z p : Int} (hp : 0 ≤ p ∧ p < 80) (h : rE m z [32 + p]) : m.1 67 z = 1 ∧ m.1 68 z = p := by
  obtain ⟨k, h⟩ := h
  cases k with
  | zero => exact h.elim
  | succ k =>
    obtain ⟨hd, as, e1, e2, -⟩ := h
    have : 32 + p = hd := (List.cons.inj e1).1
    rcases e2 with c | c | c | c | c <;> omega
theorem rE_hd {m : zM} {y h : Int} {as : List (List Int)} {A : Int → Int} {lo T : Int} (wf : rLo m lo T) (hA : rAr m A lo T) (y0 : lo ≤ y) (y1 : y < T) (ha : ∀ x ∈ as, yone A x) (hl : (as.length : Int) = A h) (he : rE m y (h :: as.flatten)) : rHd m y h ∧ (as.length : Int) = m.1 69 y ∧ ∀ i : Nat, i < as.length → rE m (m.1 70 (4 * y + i)) (as.getD i []) := by
  obtain ⟨k, he⟩ := he
  cases k with
  | zero => exact he.elim
  | succ k =>
    obtain ⟨hd, bs, e1, e2, e3, e5⟩ := he
    have f1 : h = hd := (List.cons.inj e1).1
    have f2 : as.flatten = bs.flatten := (List.cons.inj e1).2
    subst f1
    have n1 := hA y y0 y1 h e2
    have hb : ∀ x ∈ bs, yone A x := fun x hx => by
      obtain ⟨i, h1, h2⟩ := rmem hx
      rw [← h2]
      have w := wf y y0 y1 i (by omega) (by omega)
      exact rC_one wf hA k _ _ w.1 w.2 (e5 i h1)
    have e : as = bs := yone_fe as bs ha hb (by omega) f2
    subst e
    exact ⟨e2, e3, fun i hi => ⟨k, e5 i hi⟩⟩
theorem rWy_y {m : zM} {A fi : Int → Int} {lo x p q : Int} {g : Prop} {L : List Int} (hu : zUq m lo) (hA0 : ∀ h, 0 ≤ A h) (hAp : ∀ v, 0 ≤ v → v < 80 → A (32 + v) = 0) (wf : rLo m lo (zTop m)) (hA : rAr m A lo (zTop m)) (x0 : lo ≤ x) (x1 : x < zTop m) (hx : rE m x L) (hp : 0 ≤ p ∧ p < 80) : rWy m fi x p q g ↔ yWy A fi L p q g := by
  obtain ⟨K, hx⟩ := hx
  have one : yone A [32 + p] := by
    refine ⟨?_, fun n hn => ?_⟩
    · show 1 + ([32 + p].map (fun h => A h - 1)).sum = 0
      rw [List.map_cons, List.map_nil, List.sum_cons, List.sum_nil, hAp p hp.1 hp.2]; omega
    · have : n = 0 := by simpa using hn
      subst this
      show 1 ≤ 1 + (([] : List Int).map (fun h => A h - 1)).sum
      rw [List.map_nil, List.sum_nil]; omega
  constructor
  · rintro ⟨k, y, i, j, z, r1, k0, ⟨i0, i1⟩, hq, r2, k1, v1, hg⟩
    obtain ⟨l, a, b, hl, e⟩ := rC_in k K x y L hx r1
    have y01 := rRe_lo wf k x y x0 x1 r1
    obtain ⟨ky, hl'⟩ := hl
    cases ky with
    | zero => exact hl'.elim
    | succ ky =>
      obtain ⟨hd, as, e1, e2, e3, e5⟩ := hl'
      have hi : i.toNat < as.length := by omega
      have c5 := e5 i.toNat hi
      rw [show ((i.toNat : Nat) : Int) = i by omega] at c5
      have hh : m.1 68 y = hd ∧ 0 ≤ hd ∧ hd < 32 := by rcases e2 with c | c | c | c | c <;> omega
      obtain ⟨lz, a', b', hz, ez⟩ := rC_in j ky _ z _ c5 r2
      have wa := wf y y01.1 y01.2 i i0 i1
      have z01 := rRe_lo wf j _ z wa.1 wa.2 r2
      have elz : lz = [32 + p] := by
        obtain ⟨kz, hz⟩ := hz
        cases kz with
        | zero => exact hz.elim
        | succ kz =>
          obtain ⟨hd', bs, f1, f2, f3, -⟩ := hz
          have n1 := hA z z01.1 z01.2 hd' f2
          have hh' : hd' = 32 + p := by rcases f2 with c | c | c | c | c <;> omega
          rw [hh', hAp p hp.1 hp.2] at n1
          have : bs = [] := List.length_eq_zero_iff.mp (by omega)
          rw [f1, this, hh']; rfl
      have ha : ∀ w ∈ as, yone A w := fun w hw => by
        obtain ⟨n, h1, h2⟩ := rmem hw
        rw [← h2]
        have w' := wf y y01.1 y01.2 n (by omega) (by omega)
        exact rC_one wf hA ky _ _ w'.1 w'.2 (e5 n h1)
      refine ⟨a, b, hd, as, i.toNat, by rw [e, e1], ⟨hh.2.1, hh.2.2⟩, by rw [e3, hA y y01.1 y01.2 hd e2], ha, hi, by rw [hq, hh.1]; omega, ?_, fun hgg => ?_⟩
      · rw [ez, elz]; simp
      · have ne := hg hgg
        have pos : 0 < (as.getD i.toNat []).length := yone_p (ha _ (rgd hi))
        by_cases c : (as.getD i.toNat []).length = 1
        · exfalso
          rw [ez, elz] at c
          have : a' = [] ∧ b' = [] := by
            simp at c
            constructor <;> apply List.length_eq_zero_iff.mp <;> omega
          rw [this.1, this.2, elz] at ez
          refine ne (rE_nd hu wf hA z01.1 z01.2 wa.1 wa.2 (l := [32 + p]) (by rw [← elz]; exact hz) ?_)
          have : as.getD i.toNat [] = [32 + p] := by rw [ez]; simp
          rw [← this]
          exact ⟨ky, c5⟩
        · omega
  · rintro ⟨a, b, h, as, j, e, hh, hl, ha, hj, hq, hm, hg⟩
    obtain ⟨k, y, r1, y01, hy⟩ := rC_oc hA0 wf hA K x L a (h :: as.flatten) b x0 x1 hx (yone_h hl ha) e
    obtain ⟨f1, f2, f3⟩ := rE_hd wf hA y01.1 y01.2 ha hl hy
    have hk : m.1 67 y = 0 ∧ m.1 68 y = h := by rcases f1 with c | c | c | c | c <;> omega
    have wa := wf y y01.1 y01.2 j (by omega) (by omega)
    obtain ⟨s, t, est⟩ := List.append_of_mem hm
    obtain ⟨ka, ca⟩ := f3 j hj
    obtain ⟨n, z, r2, z01, hz⟩ := rC_oc hA0 wf hA ka _ _ s [32 + p] t wa.1 wa.2 ca one (by rw [est]; simp)
    have zz := rE_p1 hp hz
    refine ⟨k, y, j, n, z, r1, hk.1, ⟨by omega, by omega⟩, by rw [hk.2]; exact hq, r2, zz.1, zz.2, fun hgg ez => ?_⟩
    have len := hg hgg
    have := rE_fn hz (by rw [ez]; exact ⟨ka, ca⟩)
    rw [← this] at len
    simp at len
