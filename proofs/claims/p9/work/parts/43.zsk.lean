/-! ### the piles of a type put anew -/
theorem zSJ_0 {μ m : zM} {lo s f n w : Int} {P : Int → Prop} (hn : zND m lo) (h5 : ∀ j : Nat, 67 ≤ j → j ≤ 71 → m.1 j = μ.1 j) (ht : zTop m = zTop μ) (hb : zTop μ ≤ 20000) (hf : ∀ x : Int, 0 ≤ x → x < 20000 → m.1 98 x < s) : zSJ μ m lo s f n w P := by
  refine ⟨hn, fun x a b => ?_, by omega, fun x a b c => ?_, fun z a b => by omega, fun x a b c => ?_⟩
  · rw [h5 67 (by omega) (by omega), h5 68 (by omega) (by omega), h5 69 (by omega) (by omega), h5 70 (by omega) (by omega), h5 71 (by omega) (by omega)]
    exact ⟨rfl, rfl, rfl, rfl, fun _ _ _ => rfl⟩
  · have := hf x a (by omega); omega
  · have := hf x a (by omega); omega
theorem zSJ_same {μ m m' : zM} {lo s f n w : Int} {P : Int → Prop} (h : ∀ j : Nat, j ≠ 99 → m'.1 j = m.1 j) (hJ : zSJ μ m lo s f n w P) : zSJ μ m' lo s f n w P := by
  obtain ⟨j1, j2, j3, j4, j5, j6⟩ := hJ
  have ht : zTop m' = zTop m := congrFun (h 66 (by decide)) _
  refine ⟨zND_t.2 (by rw [ht]; exact zNDt_same (fun j a b => h j (by omega)) (zND_t.1 j1)), ?_, by omega, ?_, ?_, ?_⟩
  · unfold zOld
    rw [h 67 (by decide), h 68 (by decide), h 69 (by decide), h 70 (by decide), h 71 (by decide)]
    exact j2
  · unfold zBI zB1 zlike
    rw [h 67 (by decide), h 68 (by decide), h 69 (by decide), h 70 (by decide), h 97 (by decide), h 98 (by decide), ht]
    exact j4
  · unfold zNew
    rw [h 67 (by decide), h 69 (by decide), h 97 (by decide), h 98 (by decide), ht]
    exact j5
  · rw [h 98 (by decide)]
    exact j6
def zmA (m : zM) (s p : Int) : Nat := 8 * (zcn (m.1 98) s 20000 * 100000 + (if p ≤ 0 then 0 else if m.1 98 (m.1 99 (p - 1)) = s then 30000 + p.toNat else (m.1 99 (p - 1)).toNat)) + 7
def zmB (m : zM) (s x i : Int) : Nat := 8 * (zcn (m.1 98) s 20000 * 100000 + x.toNat) + (4 - i).toNat
theorem zmA_le {m : zM} {s p : Int} (hp : p ≤ 20000) (hx : 0 < p → m.1 99 (p - 1) ≤ 19999) : zmA m s p ≤ 8 * (zcn (m.1 98) s 20000 * 100000 + 50000) + 7 := by
  unfold zmA
  split
  · omega
  · split
    · omega
    · have := hx (by omega); omega
theorem zmA_pop {m : zM} {s p : Int} (h0 : 0 < p) (hs : m.1 98 (m.1 99 (p - 1)) = s) (hx : 1 < p → m.1 99 (p - 1 - 1) ≤ 19999) : zmA m s (p - 1) < zmA m s p := by
  unfold zmA
  rw [if_neg (show ¬ p ≤ 0 by omega), if_pos hs]
  split
  · omega
  · split
    · omega
    · have := hx (by omega); omega
theorem zmB_in {m : zM} {s p x i : Int} (h0 : 0 < p) (hx : m.1 99 (p - 1) = x) (hs : m.1 98 x ≠ s) (hi : 0 ≤ i) : zmB m s x i < zmA m s p := by
  unfold zmA zmB
  rw [if_neg (show ¬ p ≤ 0 by omega), hx, if_neg hs]
  omega
theorem zmA_down {m : zM} {s p x i : Int} (h0 : 0 < p) (hx : 0 ≤ m.1 99 (p - 1)) (h1 : m.1 99 (p - 1) < x) (hs : m.1 98 (m.1 99 (p - 1)) ≠ s) : zmA m s p < zmB m s x i := by
  unfold zmA zmB
  rw [if_neg (show ¬ p ≤ 0 by omega), if_neg hs]
  omega
theorem zmB_next {m m' : zM} {s x i : Int} (h : m'.1 98 = m.1 98) (hi : i < 4) : zmB m' s x (i + 1) < zmB m s x i := by
  unfold zmB
  rw [h]
  omega
theorem zmA_done {m m' : zM} {s p x i : Int} (hx : 0 ≤ x ∧ x < 20000) (h1 : m.1 98 x ≠ s) (h2 : m'.1 98 x = s) (h3 : ∀ q : Int, q ≠ x → m'.1 98 q = m.1 98 q) (hp : p ≤ 20000) (hq : 0 < p → m'.1 99 (p - 1) ≤ 19999) : zmA m' s p < zmB m s x i := by
  have := zmA_le (s := s) hp hq
  have := zcn_less hx.1 h1 h2 h3 (n := 20000) (by omega)
  unfold zmB
  omega
theorem zsm_s {f : Int → Int} {i : Int} (hi : 0 ≤ i) : zsm f (i + 1).toNat = zsm f i.toNat + f i := by
  rw [show (i + 1).toNat = i.toNat + 1 by omega]
  show zsm f i.toNat + f ((i.toNat : Nat) : Int) = _
  rw [Int.toNat_of_nonneg hi]
theorem zsm_mono {f : Int → Int} {m : Nat} : ∀ {n : Nat}, m ≤ n → (∀ l : Int, 0 ≤ l → l < (n : Int) → 1 ≤ f l) → zsm f m ≤ zsm f n
  | 0, h, _ => by
    have : m = 0 := by omega
    rw [this]; exact Int.le_refl _
  | n + 1, h, hf => by
    by_cases e : m = n + 1
    · rw [e]; exact Int.le_refl _
    · have h1 := zsm_mono (n := n) (m := m) (by omega) (fun l a b => hf l a (by omega))
      have h2 := hf ((n : Nat) : Int) (by omega) (by omega)
      show zsm f m ≤ zsm f n + f ((n : Nat) : Int)
      omega
theorem zpush {f : Int → Int} {c i p j z R : Int} (h1 : ∀ l : Int, 0 ≤ l → l < c → 1 ≤ f l) (hi : 0 ≤ i ∧ i < c) (hz : z = zcap (zsm f c.toNat)) (hr : j + z ≤ R) (hj : 0 ≤ j) (hR : R ≤ 19999) (hp : p ≤ j + zsm f i.toNat) : p + f i ≤ R ∧ p + 1 ≤ j + zsm f (i + 1).toNat ∧ 1 ≤ f i := by
  have h2 := zsm_mono (f := f) (m := (i + 1).toNat) (n := c.toNat) (by omega) (fun l a b => h1 l a (by omega))
  have h3 := h1 i hi.1 hi.2
  rw [zsm_s hi.1] at h2 ⊢
  have h4 : zcap (zsm f c.toNat) ≤ 19999 := by omega
  have h5 : zcap (zsm f c.toNat) = zsm f c.toNat := by
    unfold zcap at h4 ⊢
    split at h4
    · omega
    · rename_i q; rw [if_neg q]
  omega
