/-! ### a table that is being read -/
def zXa (m : zM) (c d : Int) : Int := m.1 80 (21 * (21 + c) + d)
def zXf (m : zM) (c : Int) : Int := m.1 76 (21 + c)
def zXn (m : zM) (c : Int) : Int := m.1 77 (21 + c)
def zXs (m : zM) (c i : Int) : Int := m.1 78 (4 * (21 + c) + i)
def zXm (m : zM) (f x : Int) : Prop := ∃ i : Int, 0 ≤ i ∧ i < m.1 79 (21 + f) ∧ x ∈ zsb m 20000 (zXs m f i)
def zA2 (m : zM) (x : Int) : Prop := ∀ i : Int, 0 ≤ i → i < m.1 69 x → m.1 67 (m.1 70 (4 * x + i)) ≤ 2
def zTx (m : zM) (lo x : Int) : Prop := (lo ≤ x ∧ x < zTop m) ∧ m.1 71 x ≤ 300 ∧ m.1 67 x = 0
/-- a part of what is above class c: of which label -/
def zGl (m : zM) (c σ : Int) : Prop := σ = zXa m c c ∨ m.1 67 σ = 1 ∨ σ = zXa m c 0 ∨ ∃ f x : Int, (0 ≤ f ∧ f ≤ c) ∧ 0 ≤ zXa m c f ∧ zXm m f x ∧ zSR m (zXf m f) (zXn m f) (zXa m c f) x σ
def zCl (m : zM) (lo c P : Int) : Prop := (0 ≤ zXf m c ∧ 0 ≤ zXn m c ∧ zXn m c ≤ 4 ∧ zXf m c + zXn m c ≤ P ∧ 0 ≤ m.1 79 (21 + c) ∧ m.1 79 (21 + c) ≤ 4) ∧ ∀ i : Int, 0 ≤ i → i < m.1 79 (21 + c) → zTx m lo (zXs m c i) ∧ m.1 68 (zXs m c i) < c ∧ zA2 m (zXs m c i) ∧ zPar m (zXf m c) (zXf m c + zXn m c) (zXs m c i)
def zAe (m : zM) (lo c d a : Int) : Prop := (lo ≤ a ∧ a < zTop m) ∧ m.1 67 a = 0 ∧ m.1 68 a = d ∧ d ≤ c ∧ m.1 69 a = zXn m d ∧ zA2 m a ∧ zPar m (zXf m c) (zXf m c + zXn m c) a
def zOw (m : zM) (c : Int) : Prop := 0 ≤ zXa m c c ∧ (∀ i : Int, 0 ≤ i → i < zXn m c → m.1 67 (m.1 70 (4 * zXa m c c + i)) = 1 ∧ m.1 68 (m.1 70 (4 * zXa m c c + i)) = zXf m c + i) ∧ 0 ≤ zXa m c 0
def zAr (m : zM) (lo c : Int) : Prop := (∀ d : Int, 0 ≤ d → d ≤ 20 → zXa m c d = -1 ∨ (zAe m lo c d (zXa m c d) ∧ m.1 71 (zXa m c d) ≤ 300 ∧ ∀ σ : Int, σ ∈ zsb m 20000 (zXa m c d) → zGl m c σ)) ∧ zOw m c
def zTP (m : zM) (lo n P : Int) : Prop := (∀ c : Int, 0 ≤ c → c < n → zCl m lo c P ∧ zAr m lo c) ∧ (∀ p : Int, 0 ≤ p → p < P → m.1 84 (80 + p) ≤ 2 ∧ ∀ i : Int, 0 ≤ i → i < m.1 84 (80 + p) → zTx m lo (m.1 83 (2 * (80 + p) + i))) ∧ m.1 77 21 = 0
/-- the table's cells below class n and parameter P -/
def zEq (μ m : zM) (n P : Int) : Prop := (∀ q : Int, q < 21 + n → m.1 76 q = μ.1 76 q ∧ m.1 77 q = μ.1 77 q ∧ m.1 79 q = μ.1 79 q) ∧ (∀ q : Int, q < 4 * (21 + n) → m.1 78 q = μ.1 78 q) ∧ (∀ q : Int, q < 21 * (21 + n) → m.1 80 q = μ.1 80 q) ∧ (∀ q : Int, 0 ≤ q → q < 2 * (80 + P) → m.1 83 q = μ.1 83 q) ∧ ∀ q : Int, 0 ≤ q → q < 80 + P → m.1 84 q = μ.1 84 q
theorem zEq_all {μ m : zM} {n P : Int} (h : ∀ j : Nat, 76 ≤ j → j ≤ 84 → m.1 j = μ.1 j) : zEq μ m n P := by
  refine ⟨fun q _ => ?_, fun q _ => ?_, fun q _ => ?_, fun q _ _ => ?_, fun q _ _ => ?_⟩
  · rw [h 76 (by omega) (by omega), h 77 (by omega) (by omega), h 79 (by omega) (by omega)]; exact ⟨rfl, rfl, rfl⟩
  · rw [h 78 (by omega) (by omega)]
  · rw [h 80 (by omega) (by omega)]
  · rw [h 83 (by omega) (by omega)]
  · rw [h 84 (by omega) (by omega)]
theorem zTx_old {μ m : zM} {lo x : Int} (h : zTx μ lo x) (h0 : 0 ≤ lo) (ho : zOld μ m (zTop μ)) (ht : zTop μ ≤ zTop m) : zTx m lo x := by
  have := ho x (by have := h.1.1; omega) h.1.2
  exact ⟨⟨h.1.1, by have := h.1.2; omega⟩, by rw [this.2.2.2.1]; exact h.2.1, by rw [this.1]; exact h.2.2⟩
theorem zA2_old {μ m : zM} {x : Int} (h : zA2 μ x) (nd : ∀ x : Int, 0 ≤ x → x < zTop μ → zNd μ x) (hx : 0 ≤ x ∧ x < zTop μ) (ho : zOld μ m (zTop μ)) : zA2 m x := by
  obtain ⟨o1, o2, o3, o4, o5⟩ := ho x hx.1 hx.2
  have nx := nd x hx.1 hx.2
  intro i a b
  rw [o3] at b
  have h4 := nx.1.2
  have p := nx.2.1 i a b
  rw [o5 i a (by omega), (ho _ p.1 (by omega)).1]
  exact h i a b
theorem zXm_old {μ m : zM} {lo n P Q f x : Int} (h0 : 0 ≤ lo) (nd : ∀ x : Int, 0 ≤ x → x < zTop μ → zNd μ x) (ho : zOld μ m (zTop μ)) (hE : zEq μ m n Q) (hf : 0 ≤ f ∧ f < n) (hc : zCl μ lo f P) (h : zXm μ f x) : zXm m f x := by
  obtain ⟨i, i0, i1, i2⟩ := h
  have hs := (hc.2 i i0 i1).1.1
  have c4 := hc.1.2.2.2.2.2
  have e : zXs m f i = zXs μ f i := hE.2.1 _ (by omega)
  refine ⟨i, i0, by rw [(hE.1 _ (by omega)).2.2]; exact i1, ?_⟩
  rw [e, zsb_old ho nd 20000 _ (by omega) hs.2]
  exact i2
theorem zXm_rng {μ : zM} {lo P f x : Int} (h0 : 0 ≤ lo) (nd : ∀ x : Int, 0 ≤ x → x < zTop μ → zNd μ x) (hc : zCl μ lo f P) (h : zXm μ f x) : 0 ≤ x ∧ x < zTop μ := by
  obtain ⟨i, i0, i1, i2⟩ := h
  have hs := (hc.2 i i0 i1).1.1
  have := zsb_rng nd 20000 _ x (by omega) hs.2 i2
  omega
theorem zGl_old {μ m : zM} {lo n P Q c σ : Int} (h0 : 0 ≤ lo) (nd : ∀ x : Int, 0 ≤ x → x < zTop μ → zNd μ x) (ho : zOld μ m (zTop μ)) (hE : zEq μ m n Q) (hn : n ≤ 21) (hc : 0 ≤ c ∧ c < n) (hC : ∀ f : Int, 0 ≤ f → f ≤ c → zCl μ lo f P) (hA : ∀ d : Int, 0 ≤ d → d ≤ 20 → zXa μ c d = -1 ∨ zAe μ lo c d (zXa μ c d)) (hσ : 0 ≤ σ ∧ σ < zTop μ) (h : zGl μ c σ) : zGl m c σ := by
  have ea : ∀ d : Int, d ≤ 20 → zXa m c d = zXa μ c d := fun d hd => hE.2.2.1 _ (by omega)
  unfold zGl
  rw [ea c (by omega), ea 0 (by omega), (ho σ hσ.1 hσ.2).1]
  rcases h with h | h | h | ⟨f, x, f1, f2, f3, f4⟩
  · exact Or.inl h
  · exact Or.inr (Or.inl h)
  · exact Or.inr (Or.inr (Or.inl h))
  · refine Or.inr (Or.inr (Or.inr ⟨f, x, f1, by rw [ea f (by omega)]; exact f2, zXm_old h0 nd ho hE ⟨f1.1, by omega⟩ (hC f f1.1 f1.2) f3, ?_⟩))
    have e1 : zXf m f = zXf μ f := (hE.1 _ (by omega)).1
    have e2 : zXn m f = zXn μ f := (hE.1 _ (by omega)).2.1
    rw [e1, e2, ea f (by omega)]
    rcases hA f f1.1 (by omega) with q | q
    · omega
    · exact zSR_old ho nd f4 (zXm_rng h0 nd (hC f f1.1 f1.2) f3) hσ ⟨f2, q.1.2⟩ (by rw [q.2.2.2.2.1]; exact Int.le_refl _)
theorem zAe_old {μ m : zM} {lo n Q c d a : Int} (h0 : 0 ≤ lo) (nd : ∀ x : Int, 0 ≤ x → x < zTop μ → zNd μ x) (ho : zOld μ m (zTop μ)) (ht : zTop μ ≤ zTop m) (hE : zEq μ m n Q) (hc : 0 ≤ c ∧ c < n) (h : zAe μ lo c d a) : zAe m lo c d a := by
  obtain ⟨h1, h2, h3, h4, h5, h6, h7⟩ := h
  obtain ⟨o1, o2, o3, o4, o5⟩ := ho a (by omega) h1.2
  have e1 : zXf m c = zXf μ c := (hE.1 _ (by omega)).1
  have e2 : zXn m c = zXn μ c := (hE.1 _ (by omega)).2.1
  have e3 : zXn m d = zXn μ d := (hE.1 _ (by omega)).2.1
  refine ⟨⟨h1.1, by omega⟩, by rw [o1]; exact h2, by rw [o2]; exact h3, h4, by rw [o3, e3]; exact h5, zA2_old h6 nd ⟨by omega, h1.2⟩ ho, ?_⟩
  rw [e1, e2]
  exact zPar_old h7 ho nd (by omega) h1.2
theorem zCl_old {μ m : zM} {lo n P Q P' c : Int} (h0 : 0 ≤ lo) (nd : ∀ x : Int, 0 ≤ x → x < zTop μ → zNd μ x) (ho : zOld μ m (zTop μ)) (ht : zTop μ ≤ zTop m) (hE : zEq μ m n Q) (hP : P ≤ P') (hc : 0 ≤ c ∧ c < n) (h : zCl μ lo c P) : zCl m lo c P' := by
  have e1 : zXf m c = zXf μ c := (hE.1 _ (by omega)).1
  have e2 : zXn m c = zXn μ c := (hE.1 _ (by omega)).2.1
  have e3 : m.1 79 (21 + c) = μ.1 79 (21 + c) := (hE.1 _ (by omega)).2.2
  unfold zCl
  rw [e1, e2, e3]
  refine ⟨by have := h.1; omega, fun i a b => ?_⟩
  have c4 := h.1.2.2.2.2.2
  have es : zXs m c i = zXs μ c i := hE.2.1 _ (by omega)
  rw [es]
  obtain ⟨g1, g2, g3, g4⟩ := h.2 i a b
  have hx : 0 ≤ zXs μ c i := by have := g1.1.1; omega
  exact ⟨zTx_old g1 h0 ho ht, by rw [(ho _ hx g1.1.2).2.1]; exact g2, zA2_old g3 nd ⟨hx, g1.1.2⟩ ho, zPar_old g4 ho nd hx g1.1.2⟩
theorem zAr_old {μ m : zM} {lo n P Q c : Int} (h0 : 0 ≤ lo) (nd : ∀ x : Int, 0 ≤ x → x < zTop μ → zNd μ x) (ho : zOld μ m (zTop μ)) (ht : zTop μ ≤ zTop m) (hE : zEq μ m n Q) (hn : n ≤ 21) (hc : 0 ≤ c ∧ c < n) (hC : ∀ f : Int, 0 ≤ f → f ≤ c → zCl μ lo f P) (h : zAr μ lo c) : zAr m lo c := by
  have ea : ∀ d : Int, d ≤ 20 → zXa m c d = zXa μ c d := fun d hd => hE.2.2.1 _ (by omega)
  have e1 : zXf m c = zXf μ c := (hE.1 _ (by omega)).1
  have e2 : zXn m c = zXn μ c := (hE.1 _ (by omega)).2.1
  have hA : ∀ d : Int, 0 ≤ d → d ≤ 20 → zXa μ c d = -1 ∨ zAe μ lo c d (zXa μ c d) := fun d a b => (h.1 d a b).imp id (fun q => q.1)
  refine ⟨fun d a b => ?_, ?_⟩
  · rw [ea d b]
    rcases h.1 d a b with q | ⟨q1, q2, q3⟩
    · exact Or.inl q
    · have hx : 0 ≤ zXa μ c d := by have := q1.1.1; omega
      refine Or.inr ⟨zAe_old h0 nd ho ht hE hc q1, by rw [(ho _ hx q1.1.2).2.2.2.1]; exact q2, fun σ hσ => ?_⟩
      rw [zsb_old ho nd 20000 _ hx q1.1.2] at hσ
      have r := zsb_rng nd 20000 _ σ hx q1.1.2 hσ
      have q12 := q1.1.2
      exact zGl_old h0 nd ho hE hn hc hC hA ⟨r.1, by omega⟩ (q3 σ hσ)
  · obtain ⟨w1, w2, w3⟩ := h.2
    unfold zOw
    rw [ea c (by omega), ea 0 (by omega), e1, e2]
    refine ⟨w1, fun i a b => ?_, w3⟩
    rcases hA c hc.1 (by omega) with q | q
    · omega
    · obtain ⟨o1, o2, o3, o4, o5⟩ := ho _ w1 q.1.2
      have nx := nd _ w1 q.1.2
      have q5 := q.2.2.2.2.1
      have h4 := nx.1.2
      have p := nx.2.1 i a (by omega)
      have q12 := q.1.2
      rw [o5 i a (by omega), (ho _ p.1 (by omega)).1, (ho _ p.1 (by omega)).2.1]
      exact w2 i a b
theorem zTP_old {μ m : zM} {lo n P P' : Int} (h0 : 0 ≤ lo) (nd : ∀ x : Int, 0 ≤ x → x < zTop μ → zNd μ x) (ho : zOld μ m (zTop μ)) (ht : zTop μ ≤ zTop m) (hE : zEq μ m n P) (hn : 1 ≤ n ∧ n ≤ 21) (hP : P ≤ P') (hb : ∀ p : Int, P ≤ p → p < P' → m.1 84 (80 + p) = 0) (h : zTP μ lo n P) : zTP m lo n P' := by
  obtain ⟨h1, h2, h3⟩ := h
  refine ⟨fun c a b => ⟨zCl_old h0 nd ho ht hE hP ⟨a, b⟩ (h1 c a b).1, zAr_old h0 nd ho ht hE hn.2 ⟨a, b⟩ (fun f f0 f1 => (h1 f f0 (by omega)).1) (h1 c a b).2⟩, fun p a b => ?_, by rw [(hE.1 21 (by omega)).2.1]; exact h3⟩
  by_cases q : p < P
  · rw [hE.2.2.2.2 _ (by omega) (by omega)]
    have hp := h2 p a q
    refine ⟨hp.1, fun i c d => ?_⟩
    have p2 := hp.1
    rw [hE.2.2.2.1 _ (by omega) (by omega)]
    exact zTx_old (hp.2 i c d) h0 ho ht
  · rw [hb p (by omega) b]
    exact ⟨by omega, fun i c d => by omega⟩
