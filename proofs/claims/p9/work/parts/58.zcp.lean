/-! ### unknown arguments become variables -/
def zqc (m : zM) (s : Int) : Nat → Int
  | 0 => 0
  | i + 1 => zqc m s i + (if 3 ≤ m.1 67 (m.1 70 (4 * s + ((i : Nat) : Int))) then 1 else 0)
theorem zqc_s (m : zM) (s : Int) {i : Int} (h : 0 ≤ i) : zqc m s (i + 1).toNat = zqc m s i.toNat + (if 3 ≤ m.1 67 (m.1 70 (4 * s + i)) then 1 else 0) := by
  rw [show (i + 1).toNat = i.toNat + 1 by omega]
  show zqc m s i.toNat + (if 3 ≤ m.1 67 (m.1 70 (4 * s + ((i.toNat : Nat) : Int))) then 1 else 0) = _
  rw [Int.toNat_of_nonneg h]
theorem zqc_m (m : zM) (s : Int) : ∀ {a b : Nat}, a ≤ b → zqc m s a ≤ zqc m s b
  | a, 0, h => by rw [show a = 0 by omega]; exact Int.le_refl _
  | a, b + 1, h => by
    by_cases e : a = b + 1
    · rw [e]; exact Int.le_refl _
    · have := zqc_m m s (a := a) (b := b) (by omega)
      show zqc m s a ≤ zqc m s b + (if 3 ≤ m.1 67 (m.1 70 (4 * s + ((b : Nat) : Int))) then 1 else 0)
      split <;> omega
theorem zqc_0 (m : zM) (s : Int) (n : Nat) : 0 ≤ zqc m s n := zqc_m m s (Nat.zero_le n)
def zQp (μ m : zM) (e : Int) : Prop := zOld μ m (zTop μ) ∧ zTop μ ≤ zTop m ∧ (μ.1 66 ((45 : Nat) : Int) ≤ m.1 66 ((45 : Nat) : Int) ∧ μ.1 66 ((48 : Nat) : Int) ≤ m.1 66 ((48 : Nat) : Int) ∧ μ.1 66 ((60 : Nat) : Int) ≤ m.1 66 ((60 : Nat) : Int)) ∧ m.1 66 ((60 : Nat) : Int) - μ.1 66 ((60 : Nat) : Int) ≤ m.1 66 ((48 : Nat) : Int) - μ.1 66 ((48 : Nat) : Int) ∧
  zTop m - zTop μ ≤ (m.1 66 ((45 : Nat) : Int) - μ.1 66 ((45 : Nat) : Int)) + e + (m.1 66 ((48 : Nat) : Int) - μ.1 66 ((48 : Nat) : Int)) ∧ ∀ v : Int, 0 ≤ v → v < μ.1 66 ((45 : Nat) : Int) → m.1 89 v = μ.1 89 v ∧ m.1 90 v = μ.1 90 v ∧ ∀ i : Int, 0 ≤ i → i < 3 → m.1 88 (3 * v + i) = μ.1 88 (3 * v + i)
theorem zQp_r (μ : zM) : zQp μ μ 0 := ⟨zOld_r _ _, Int.le_refl _, ⟨Int.le_refl _, Int.le_refl _, Int.le_refl _⟩, by omega, by omega, fun _ _ _ => ⟨rfl, rfl, fun _ _ _ => rfl⟩⟩
theorem zQp_t {x y z : zM} {a b c : Int} (h1 : zQp x y a) (h2 : zQp y z b) (hc : c = a + b) : zQp x z c := by
  obtain ⟨a1, a2, a3, a4, a5, a6⟩ := h1
  obtain ⟨b1, b2, b3, b4, b5, b6⟩ := h2
  refine ⟨zOld_t a1 b1 a2, by omega, ⟨by omega, by omega, by omega⟩, by omega, by omega, fun v v0 v1 => ?_⟩
  obtain ⟨c1, c2, c3⟩ := a6 v v0 v1
  obtain ⟨d1, d2, d3⟩ := b6 v v0 (by omega)
  exact ⟨d1.trans c1, d2.trans c2, fun i i0 i1 => (d3 i i0 i1).trans (c3 i i0 i1)⟩
theorem zQp_y {x y z : zM} {a v : Int} (h1 : zQp x y a) (h2 : zQy y z v) (hv : x.1 66 ((45 : Nat) : Int) ≤ v) : zQp x z a := by
  obtain ⟨a1, a2, a3, a4, a5, a6⟩ := h1
  obtain ⟨b1, b2, b3, b4, b5, b6⟩ := h2
  refine ⟨zOld_t a1 b1 a2, by omega, ⟨by omega, by omega, by omega⟩, by omega, by omega, fun u v0 v1 => ?_⟩
  obtain ⟨c1, c2, c3⟩ := a6 u v0 v1
  obtain ⟨d1, d2, d3⟩ := b6 u v0 (by omega)
  exact ⟨d1.trans c1, d2.trans c2, fun i i0 i1 => (d3 i i0 i1).trans (c3 i i0 i1)⟩
theorem zQp_fr {μ m m' : zM} {e : Int} (h : zQp μ m e) (hc : ∀ j : Nat, 67 ≤ j → j ≤ 71 → m'.1 j = m.1 j) (hv : ∀ j : Nat, 88 ≤ j → j ≤ 90 → m'.1 j = m.1 j) (h66 : m'.1 66 = m.1 66) : zQp μ m' e := by
  refine zQp_t h ⟨zOld_same hc, ?_, ?_, ?_, ?_, fun v _ _ => ?_⟩ (b := 0) (by omega)
  · unfold zTop; rw [h66]; exact Int.le_refl _
  · rw [h66]; exact ⟨Int.le_refl _, Int.le_refl _, Int.le_refl _⟩
  · rw [h66]; omega
  · unfold zTop; rw [h66]; omega
  · rw [hv 88 (by omega) (by omega), hv 89 (by omega) (by omega), hv 90 (by omega) (by omega)]
    exact ⟨rfl, rfl, fun _ _ _ => rfl⟩
theorem zQp_x {μ m : zM} {e : Int} (h : zQp μ m e) (he : e ≤ m.1 66 ((45 : Nat) : Int) - μ.1 66 ((45 : Nat) : Int)) : zQx μ m := by
  obtain ⟨a1, a2, a3, a4, a5, a6⟩ := h
  exact ⟨a1, a2, a3, a4, by omega, a6⟩
/-- one more variable, without bounds -/
theorem zQI_new {m m1 m2 m3 : zM} {C Pn tt F F3 : Int} (h : zQI m C Pn tt) (hF : F = m.1 66 ((45 : Nat) : Int)) (h0 : 0 ≤ F) (e1 : m1 = zu m 89 F 0) (e2 : m2 = zu m1 90 F (-1)) (e3 : m3 = zu m2 66 ((45 : Nat) : Int) F3) (hF3 : F3 = F + 1) : zQI m3 C Pn tt ∧ zQp m m3 0 ∧ m3.1 89 F = 0 := by
  have c : ∀ j : Nat, j ≠ 66 → j ≠ 89 → j ≠ 90 → m3.1 j = m.1 j := fun j a b c => by rw [e3, zu_ne a, e2, zu_ne c, e1, zu_ne b]
  have f : ∀ k : Nat, k ≠ 45 → m3.1 66 ((k : Nat) : Int) = m.1 66 ((k : Nat) : Int) := fun k hk => by rw [e3, zu_nk (by omega), e2, zu_ne (by decide), e1, zu_ne (by decide)]
  have f45 : m3.1 66 ((45 : Nat) : Int) = F + 1 := by rw [e3, zu_at, hF3]
  have n89 : ∀ u : Int, m3.1 89 u = if u = F then 0 else m.1 89 u := fun u => by
    rw [e3, zu_ne (by decide), e2, zu_ne (by decide), e1]
    by_cases q : u = F
    · rw [if_pos q, q, zu_at]
    · rw [if_neg q, zu_nk q]
  have n90 : ∀ u : Int, m3.1 90 u = if u = F then -1 else m.1 90 u := fun u => by
    rw [e3, zu_ne (by decide), e2]
    by_cases q : u = F
    · rw [if_pos q, q, zu_at]
    · rw [if_neg q, zu_nk q, e1, zu_ne (by decide)]
  have ty : ∀ y : Int, zTy m y → zTy m3 y := fun y hy => zTy_same hy (c 67 (by decide) (by decide) (by decide)) (f 8 (by decide))
  have hnf : zNf m3 (F + 1) := by
    intro u u0 u1
    rw [n89, n90, c 88 (by decide) (by decide) (by decide)]
    by_cases q : u = F
    · rw [if_pos q, if_pos q]
      exact ⟨⟨by omega, by omega⟩, fun i a b => by omega, fun a => by omega⟩
    · rw [if_neg q, if_neg q]
      obtain ⟨g1, g2, g3⟩ := h.2.2.2.2.2.1 u u0 (by omega)
      exact ⟨g1, fun i a b => ty _ (g2 i a b), fun a => ty _ (g3 a)⟩
  refine ⟨zQI_nf h (fun j a b => c j (by omega) (by omega) (by omega)) (fun j a b => c j (by omega) (by omega) (by omega)) (by rw [f45]; exact hnf) (c 98 (by decide) (by decide) (by decide)) (f 8 (by decide)) (by rw [f45]; omega) (f 60 (by decide)), ⟨zOld_same (fun j a b => c j (by omega) (by omega) (by omega)), ?_, ?_, ?_, ?_, fun v v0 v1 => ?_⟩, by rw [n89, if_pos rfl]⟩
  · unfold zTop; rw [f 8 (by decide)]; exact Int.le_refl _
  · rw [f45, f 48 (by decide), f 60 (by decide)]; exact ⟨by omega, Int.le_refl _, Int.le_refl _⟩
  · rw [f 48 (by decide), f 60 (by decide)]; omega
  · unfold zTop; rw [f45, f 48 (by decide), f 8 (by decide)]; omega
  · rw [n89, n90, c 88 (by decide) (by decide) (by decide), if_neg (by omega), if_neg (by omega)]
    exact ⟨rfl, rfl, fun _ _ _ => rfl⟩
/-- its node -/
theorem zQI_node {m m' : zM} {C Pn tt k v n x F' : Int} {p : Int → Int} (h : zQI m C Pn tt) (hd : zMd m m' 0 k v n p x) (hx : zW1 m' 0 C Pn F' (m.1 77) x) (hF : m.1 66 ((45 : Nat) : Int) ≤ F') (hf : ∀ j : Nat, 75 ≤ j → j ≤ 98 → m'.1 j = m.1 j) (f45 : m'.1 66 ((45 : Nat) : Int) = m.1 66 ((45 : Nat) : Int)) (f60 : m'.1 66 ((60 : Nat) : Int) = m.1 66 ((60 : Nat) : Int)) :
    zND m' 0 ∧ zTb m' C Pn tt ∧ tt ≤ zTop m' ∧ zWf m' 0 tt C Pn 0 (m'.1 77) ∧ zWf m' 0 (zTop m') C Pn F' (m'.1 77) ∧ zNf m' (m'.1 66 ((45 : Nat) : Int)) ∧ ∀ x : Int, 0 ≤ x → x < 20000 → m'.1 98 x ≤ m'.1 66 ((60 : Nat) : Int) := by
  obtain ⟨h1, h2, h3, h4, h5, h6, h7⟩ := h
  have ht : zTop m ≤ zTop m' := by rcases hd.2.2.1 with q | q <;> omega
  have ho := hd.2.2.2
  have h77 := hf 77 (by omega) (by omega)
  refine ⟨hd.1, zTb_old h2 ho h3 h1.2.1 (fun j a b => hf j (by omega) (by omega)), by omega, ?_, ?_, ?_, ?_⟩
  · rw [h77]
    exact fun x a b => zW1_old ho a (by omega) (h1.2.1 x a (by omega)) (h4 x a b)
  · rw [h77]
    refine zWf_mk (Int.le_refl _) (fun y a b => ?_) h1 hd hx
    obtain ⟨w1, w2, w3, w4, w5⟩ := h5 y a b
    exact ⟨w1, w2, w3, fun q => ⟨by have := (w4 q).1; omega, (w4 q).2⟩, w5⟩
  · rw [f45]
    exact zNf_old h6 ho ht (hf 88 (by omega) (by omega)) (hf 89 (by omega) (by omega)) (hf 90 (by omega) (by omega))
  · rw [hf 98 (by omega) (by omega), f60]; exact h7
theorem zMd_tp {μ m : zM} {lo k v n x : Int} {p : Int → Int} (h : zMd μ m lo k v n p x) : zTop μ ≤ zTop m ∧ zTop m ≤ zTop μ + 1 ∧ x < zTop m := by
  rcases h.2.2.1 with q | q <;> omega
/-- a new variable with its node, written down as what stands for a '?' -/
theorem zQ_fresh {m m1 m2 m3 m4 m5 : zM} {C Pn tt F x i k5 : Int} {p : Int → Int} (h : zQI m C Pn tt) (hF : F = m.1 66 ((45 : Nat) : Int)) (h0 : 0 ≤ F) (e1 : m1 = zu m 89 F 0) (e2 : m2 = zu m1 90 F (-1)) (hd : zMd m2 m3 0 2 F 0 p x) (hf : ∀ j : Nat, 75 ≤ j → j ≤ 98 → m3.1 j = m2.1 j) (f45 : m3.1 66 ((45 : Nat) : Int) = m2.1 66 ((45 : Nat) : Int)) (f48 : m3.1 66 ((48 : Nat) : Int) = m2.1 66 ((48 : Nat) : Int)) (f60 : m3.1 66 ((60 : Nat) : Int) = m2.1 66 ((60 : Nat) : Int)) (e4 : m4 = zu m3 107 i x) (e5 : m5 = zu m4 66 ((45 : Nat) : Int) k5) (hk : k5 = F + 1) :
    zQI m5 C Pn tt ∧ zQp m m5 0 ∧ m5.1 89 F = 0 ∧ zTy m5 x := by
  have c2 : ∀ j : Nat, j ≠ 89 → j ≠ 90 → m2.1 j = m.1 j := fun j a b => by rw [e2, zu_ne b, e1, zu_ne a]
  have t2 : zTop m2 = zTop m := congrFun (c2 66 (by decide) (by decide)) _
  have Q1 := zQI_89 (v := F) (n := 0) h e1 ⟨by omega, by omega⟩ (fun i a b => by omega)
  have Q2 := zQI_90 (v := F) (x := -1) Q1 e2 (fun a => by omega)
  have hx : zW1 m3 0 C Pn (F + 1) (m2.1 77) x := zW1_like hd.2.1 (fun i a b => by omega) (fun q => by omega) (fun q => by omega) (fun _ => ⟨by omega, rfl⟩) (fun q => by omega) (fun q => by omega)
  have g45 : m2.1 66 ((45 : Nat) : Int) = F := by rw [c2 66 (by decide) (by decide), hF]
  obtain ⟨a1, a2, a3, a4, a5, a6, a7⟩ := zQI_node (F' := F + 1) Q2 hd hx (by omega) hf f45 f60
  have c5 : ∀ j : Nat, j ≠ 66 → j ≠ 107 → m5.1 j = m3.1 j := fun j a b => by rw [e5, zu_ne a, e4, zu_ne b]
  have f5 : ∀ k : Nat, k ≠ 45 → m5.1 66 ((k : Nat) : Int) = m3.1 66 ((k : Nat) : Int) := fun k hk => by rw [e5, zu_nk (by omega), e4, zu_ne (by decide)]
  have g5 : m5.1 66 ((45 : Nat) : Int) = F + 1 := by rw [e5, zu_at, hk]
  have t5 : zTop m5 = zTop m3 := f5 8 (by decide)
  have ho5 : zOld m3 m5 (zTop m3) := zOld_same (fun j a b => c5 j (by omega) (by omega))
  have n89 : m3.1 89 = m1.1 89 := by rw [hf 89 (by omega) (by omega), e2, zu_ne (by decide)]
  have n90 : m3.1 90 = m2.1 90 := hf 90 (by omega) (by omega)
  have hnf : zNf m5 (F + 1) := by
    intro u u0 u1
    rw [c5 88 (by decide) (by decide), c5 89 (by decide) (by decide), c5 90 (by decide) (by decide)]
    have ty : ∀ y : Int, zTy m3 y → zTy m5 y := fun y hy => zTy_same hy (c5 67 (by decide) (by decide)) (f5 8 (by decide))
    by_cases q : u = F
    · rw [q, n89, n90, e1, zu_at, e2, zu_at]
      exact ⟨⟨by omega, by omega⟩, fun i a b => by omega, fun a => by omega⟩
    · obtain ⟨g1, g2, g3⟩ := a6 u u0 (by omega)
      exact ⟨g1, fun i a b => ty _ (g2 i a b), fun a => ty _ (g3 a)⟩
  have tp := zMd_tp hd
  refine ⟨⟨zND_t.2 (by rw [t5]; exact zNDt_same (fun j a b => c5 j (by omega) (by omega)) (zND_t.1 a1)), zTb_old a2 ho5 a3 a1.2.1 (fun j a b => c5 j (by omega) (by omega)), by omega, zWf_same a4 (fun j a b => c5 j (by omega) (by omega)) (c5 77 (by decide) (by decide)), ?_, by rw [g5]; exact hnf, ?_⟩, ⟨?_, by omega, ?_, ?_, ?_, fun v v0 v1 => ?_⟩, ?_, ?_⟩
  · rw [t5, g5]; exact zWf_same a5 (fun j a b => c5 j (by omega) (by omega)) (c5 77 (by decide) (by decide))
  · rw [c5 98 (by decide) (by decide), f5 60 (by decide)]; exact a7
  · have o2 : zOld m m2 (zTop m) := zOld_same (fun j a b => c2 j (by omega) (by omega))
    have o3 := hd.2.2.2
    rw [t2] at o3
    exact zOld_t (zOld_t o2 o3 (Int.le_refl _)) ho5 (by omega)
  · rw [g5, f5 48 (by decide), f5 60 (by decide), f48, f60, c2 66 (by decide) (by decide)]
    exact ⟨by omega, Int.le_refl _, Int.le_refl _⟩
  · rw [f5 48 (by decide), f5 60 (by decide), f48, f60, c2 66 (by decide) (by decide)]; omega
  · rw [g5, f5 48 (by decide), f48, c2 66 (by decide) (by decide)]; omega
  · rw [c5 88 (by decide) (by decide), c5 89 (by decide) (by decide), c5 90 (by decide) (by decide), n89, n90, hf 88 (by omega) (by omega), c2 88 (by decide) (by decide), e1, zu_nk (by omega), e2, zu_nk (by omega), e1, zu_ne (by decide)]
    exact ⟨rfl, rfl, fun _ _ _ => rfl⟩
  · rw [c5 89 (by decide) (by decide), n89, e1, zu_at]
  · have l := hd.2.1.1
    have x0 : 0 ≤ x := by rcases hd.2.2.1 with q | q <;> have := h.1.1 <;> omega
    exact ⟨⟨x0, by omega⟩, by rw [c5 67 (by decide) (by decide), l]; omega⟩
/-- the type with all of them -/
theorem zQ_with {m m' : zM} {C Pn tt c n x : Int} {p : Int → Int} (h : zQI m C Pn tt) (hc : c < C) (hn : n = m.1 77 c) (hp : ∀ i : Int, 0 ≤ i → i < n → zTy m (p i)) (hd : zMd m m' 0 0 c n p x) (hf : ∀ j : Nat, 75 ≤ j → j ≤ 98 → m'.1 j = m.1 j) (f45 : m'.1 66 ((45 : Nat) : Int) = m.1 66 ((45 : Nat) : Int)) (f48 : m'.1 66 ((48 : Nat) : Int) = m.1 66 ((48 : Nat) : Int)) (f60 : m'.1 66 ((60 : Nat) : Int) = m.1 66 ((60 : Nat) : Int)) : zQI m' C Pn tt ∧ zQp m m' 1 ∧ zCt m' x ∧ m'.1 68 x = c := by
  have hx : zW1 m' 0 C Pn (m.1 66 ((45 : Nat) : Int)) (m.1 77) x := zW1_like hd.2.1 (fun i a b => (hp i a b).1.1) (fun q => ⟨hc, hn⟩) (fun q => by omega) (fun q => by omega) (fun q => by omega) (fun q => by omega)
  have A := zQI_node h hd hx (Int.le_refl _) hf f45 f60
  rw [← f45] at A
  have tp := zMd_tp hd
  have l := hd.2.1
  have x0 : 0 ≤ x := by rcases hd.2.2.1 with q | q <;> have := h.1.1 <;> omega
  refine ⟨A, ⟨hd.2.2.2, by omega, by rw [f45, f48, f60]; exact ⟨Int.le_refl _, Int.le_refl _, Int.le_refl _⟩, by rw [f48, f60]; omega, by rw [f45, f48]; omega, fun v _ _ => ?_⟩, ⟨⟨x0, tp.2.2⟩, l.1, fun i a b => ?_⟩, l.2.1⟩
  · rw [hf 88 (by omega) (by omega), hf 89 (by omega) (by omega), hf 90 (by omega) (by omega)]
    exact ⟨rfl, rfl, fun _ _ _ => rfl⟩
  · rw [l.2.2.1] at b
    rw [l.2.2.2 i a b]
    exact (zTy_old (hp i a b) hd.2.2.2 tp.1).2
theorem zMd_of {m m' : zM} {lo k v n x : Int} {p : Int → Int} (h0 : zND m' lo) (h1 : zlike m' x k v n p) (h2 : (zTop m' = zTop m ∧ lo ≤ x ∧ x < zTop m) ∨ (zTop m' = zTop m + 1 ∧ x = zTop m ∧ ∀ y : Int, lo ≤ y → y < zTop m → ¬ zlike m y k v n p)) (h3 : zOld m m' (zTop m)) : zMd m m' lo k v n p x := ⟨h0, h1, h2, h3⟩
theorem zqc_k {m : zM} {s : Int} : ∀ {n : Nat}, zqc m s n = 0 → ∀ i : Int, 0 ≤ i → i < (n : Int) → m.1 67 (m.1 70 (4 * s + i)) ≤ 2
  | 0, _, i, a, b => by omega
  | n + 1, h, i, a, b => by
    unfold zqc at h
    have h0 := zqc_0 m s n
    by_cases e : i = ((n : Nat) : Int)
    · subst e
      split at h <;> omega
    · refine zqc_k (n := n) ?_ i a (by omega)
      split at h <;> omega
