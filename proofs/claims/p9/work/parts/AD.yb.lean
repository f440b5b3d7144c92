/-! ### bytes, searches, answers that are yes or no -/
theorem yp1 {v : Int} {P : Prop} (h : (v = 1 ∧ P) ∨ (v = 0 ∧ ¬ P)) (c : ¬ v = 0) : P := by
  rcases h with h | h
  · exact h.2
  · exact absurd h.1 c
theorem yp0 {v : Int} {P : Prop} (h : (v = 1 ∧ P) ∨ (v = 0 ∧ ¬ P)) (c : v = 0) : ¬ P := by
  rcases h with h | h
  · omega
  · exact h.2
theorem ylc (x y : Int64) : (lg_cmp x y).toInt = 0 ↔ x = y := by
  unfold lg_cmp
  constructor
  · intro h
    split at h
    · exact absurd h (by decide)
    · split at h
      · assumption
      · exact absurd h (by decide)
  · intro h
    subst h
    simp
theorem ylc0 {v : Int} {x y : Int64} (h : v = (lg_cmp x y).toInt) (c : v = 0) : x = y := (ylc x y).mp (by omega)
theorem ylcn {v : Int} {x y : Int64} (h : v = (lg_cmp x y).toInt) (c : ¬ v = 0) : ¬ x = y := fun q => c (by rw [h]; exact (ylc x y).mpr q)
theorem yru_go {p : Int → Bool} {T : yT} {i : Int} (h : i < T.2) (h2 : p (T.1 i) = true) : yru p T i = yru p T (i + 1) := by
  unfold yru
  obtain ⟨m, hm⟩ : ∃ m, (T.2 - i).toNat = m + 1 := ⟨(T.2 - i).toNat - 1, by omega⟩
  rw [hm, show (T.2 - (i + 1)).toNat = m by omega]
  show (if i < T.2 ∧ p (T.1 i) = true then _ else _) = _
  rw [if_pos ⟨h, h2⟩]
theorem yru_st {p : Int → Bool} {T : yT} {i : Int} (h : ¬ (i < T.2 ∧ p (T.1 i) = true)) : yru p T i = i := by
  unfold yru
  cases (T.2 - i).toNat with
  | zero => rfl
  | succ m => show (if i < T.2 ∧ p (T.1 i) = true then _ else _) = _; rw [if_neg h]
theorem yru_B (p : Int → Bool) (T : yT) : ∀ (f : Nat) (i : Int), i ≤ yruF p T f i ∧ (i ≤ T.2 → yruF p T f i ≤ T.2)
  | 0, i => ⟨Int.le_refl _, fun h => h⟩
  | f + 1, i => by
    unfold yruF
    split
    · rename_i h
      have := yru_B p T f (i + 1)
      exact ⟨by omega, fun _ => this.2 (by omega)⟩
    · exact ⟨Int.le_refl _, fun h => h⟩
theorem yru_ge (p : Int → Bool) (T : yT) (i : Int) : i ≤ yru p T i := (yru_B p T _ i).1
theorem yru_le {p : Int → Bool} {T : yT} {i : Int} (h : i ≤ T.2) : yru p T i ≤ T.2 := (yru_B p T _ i).2 h
theorem yfd_no {f : Int → Int} {x lo hi : Int} (h : hi ≤ lo) : yfd f x lo hi = -1 := by
  unfold yfd
  rw [show (hi - lo).toNat = 0 by omega]
  rfl
theorem yfd_at {f : Int → Int} {x lo hi : Int} (h : lo < hi) (e : f lo = x) : yfd f x lo hi = lo := by
  unfold yfd
  obtain ⟨m, hm⟩ : ∃ m, (hi - lo).toNat = m + 1 := ⟨(hi - lo).toNat - 1, by omega⟩
  rw [hm]
  show (if lo < hi then (if f lo = x then lo else _) else _) = _
  rw [if_pos h, if_pos e]
theorem yfd_go {f : Int → Int} {x lo hi : Int} (h : lo < hi) (e : f lo ≠ x) : yfd f x lo hi = yfd f x (lo + 1) hi := by
  unfold yfd
  obtain ⟨m, hm⟩ : ∃ m, (hi - lo).toNat = m + 1 := ⟨(hi - lo).toNat - 1, by omega⟩
  rw [hm, show (hi - (lo + 1)).toNat = m by omega]
  show (if lo < hi then (if f lo = x then lo else _) else _) = _
  rw [if_pos h, if_neg e]
theorem yfF_B (f : Int → Int) (x hi : Int) : ∀ (m : Nat) (k : Int), yfF f x hi m k = -1 ∨ (k ≤ yfF f x hi m k ∧ yfF f x hi m k < hi ∧ f (yfF f x hi m k) = x)
  | 0, k => Or.inl rfl
  | m + 1, k => by
    unfold yfF
    split
    · split
      · rename_i h1 h2
        exact Or.inr ⟨Int.le_refl _, h1, h2⟩
      · rcases yfF_B f x hi m (k + 1) with h | h
        · exact Or.inl h
        · exact Or.inr ⟨by omega, h.2⟩
    · exact Or.inl rfl
theorem yfd_B (f : Int → Int) (x lo hi : Int) : yfd f x lo hi = -1 ∨ (lo ≤ yfd f x lo hi ∧ yfd f x lo hi < hi ∧ f (yfd f x lo hi) = x) := yfF_B f x hi _ lo
theorem yfF_c {f g : Int → Int} {x hi : Int} : ∀ (m : Nat) (k : Int), (∀ i, k ≤ i → i < hi → f i = g i) → yfF f x hi m k = yfF g x hi m k
  | 0, k, _ => rfl
  | m + 1, k, h => by
    unfold yfF
    split
    · rename_i h1
      rw [h k (Int.le_refl _) h1, yfF_c m (k + 1) (fun i a b => h i (by omega) b)]
    · rfl
/-- only what stands between counts -/
theorem yfd_c {f g : Int → Int} {x lo hi : Int} (h : ∀ i, lo ≤ i → i < hi → f i = g i) : yfd f x lo hi = yfd g x lo hi := yfF_c _ lo h
theorem yru_F {p : Int → Bool} {T T' : yT} (h0 : T.2 = T'.2) : ∀ (f : Nat) (i : Int), (∀ k, i ≤ k → k < T.2 → T.1 k = T'.1 k) → yruF p T f i = yruF p T' f i
  | 0, i, _ => rfl
  | f + 1, i, h => by
    unfold yruF
    by_cases q : i < T.2
    · rw [← h0, h i (Int.le_refl _) q, yru_F h0 f (i + 1) (fun k a b => h k (by omega) b)]
    · rw [if_neg (fun c => q c.1), if_neg (fun c => q (by rw [h0]; exact c.1))]
def yk_X8_set : zC := fun As μ Q => ∃ (t y : Nat) (i x : Int), As = [.inr (.inr (t, y)), .inl i, .inl x] ∧ zR i ∧ zrowc μ y t (fun n lo hi => (lo ≤ x ∧ x ≤ hi) ∧ (0 ≤ i ∧ i < n) ∧ ∀ μ' : zM, zle μ μ' → μ' = zu μ t i x → Q none μ')
theorem ym_X8_set {g : zΓ} (hg : zg g) (d : Nat) (hd : 1 ≤ d) : zOk g d 113 yk_X8_set := by
  obtain ⟨d, rfl⟩ : ∃ d', d = d' + 1 := ⟨d - 1, by omega⟩
  refine zOk_of (zg_go hg) (zg_at hg (show mt_tab[113]? = some mt_X8_set from rfl)) fun As μ Q w hw hr hC => ?_
  obtain ⟨t, y, i, x, rfl, hi, hrow⟩ := hC
  obtain ⟨hrow, f0, f1, f2, f3, f4⟩ := zrowc_ok hrow
  obtain ⟨h1, n, lo, hi', e1, e2, e3, hx, hin, hQ⟩ := zrow_ok hw hrow
  refine ⟨rfl, ?_⟩
  refine zretag (As := [.inr (.inr (t, 1001)), .inl i, .inl x]) hg (show mt_tab[113]? = some mt_X8_set from rfl) [] 30 hw (List.forall_mem_cons.mpr ⟨hr (.inr (.inr (t, y))) List.mem_cons_self, List.forall_mem_cons.mpr ⟨True.intro, List.forall_mem_cons.mpr ⟨True.intro, fun _ q => by cases q⟩⟩⟩) rfl ?_
  refine And.intro hi (And.intro (fun c => ?_) (fun c => ?_))
  · omega
  · refine And.intro h1 ?_
    intro z hz hz0 hz1
    refine And.intro (And.intro hi ⟨by omega, by omega⟩) (And.intro (fun c => ?_) (fun c => ?_))
    · omega
    · refine And.intro h1 (And.intro ⟨by omega, by omega⟩ (And.intro (e3 f0 x hx.1 hx.2) ?_))
      intro μ' hμ
      exact And.intro rfl (hQ _ (zle_u hμ (by omega) (Or.inl ⟨f2, f3⟩) (Or.inl f4)) hμ)
