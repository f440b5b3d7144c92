/-! ### the class's asker: its table, the PARAMETERS at hand -/
theorem yRB_g {μ μ' : zM} {t : Nat} {B : yB} (ht : t = 14 ∨ t = 32) (h : yRB μ t B) (f : ∀ j : Nat, (t ≤ j ∧ j < t + 17) ∨ (3000000 + t ≤ j ∧ j < 3000000 + t + 17) → μ'.1 j = μ.1 j) : yRB μ' t B := by
  have e : ∀ a : Nat, a < 17 → μ'.1 (Nat.add t a) = μ.1 (Nat.add t a) := fun a ha => f _ (Or.inl (show t ≤ t + a ∧ t + a < t + 17 by omega))
  have e3 : ∀ a : Nat, a < 17 → μ'.1 (Nat.add 3000000 (Nat.add t a)) = μ.1 (Nat.add 3000000 (Nat.add t a)) := fun a ha => f _ (Or.inr (show 3000000 + t ≤ 3000000 + (t + a) ∧ 3000000 + (t + a) < 3000000 + t + 17 by omega))
  have nt : μ'.1 t = μ.1 t := e 0 (by decide)
  exact yRB_fr h (by rw [nt]) (by rw [nt]) (e3 1 (by decide)) (e 2 (by decide)) (e 3 (by decide)) (e 4 (by decide)) (e3 6 (by decide)) (e 7 (by decide)) (e 8 (by decide)) rfl rfl (fun _ _ => rfl)
/-- BOUNDS have PARAMETERS of their own class alone -/
def yJb (B : yB) : Prop := ∀ k p : Int, 0 ≤ k → k < B.1 0 0 → B.1 2 k ≤ p → p < B.1 2 k + B.1 3 k → ∀ i : Int, 0 ≤ i → i < B.1 6 p → yG B k (B.2 0 p i).flatten
/-- what is ABOVE are TYPES -/
def yGo (B : yB) : Prop := ∀ k d : Int, 0 ≤ k → k < B.1 0 0 → 0 ≤ d → d < 21 → B.2 2 k d ≠ [] → yGl B (B.2 2 k d).flatten
def aB (B : yB) : Prop := yI0 B ∧ yI2 B ∧ yGd B ∧ yJb B ∧ B.1 3 0 = 0 ∧ yGo B
/-- the table of class and what is ABOVE in it -/
def aT (μ : zM) (t : Nat) (B : yB) : Prop := (t = 14 ∨ t = 32) ∧ yRB μ t B ∧ yRS μ t 300 B ∧ yRO μ t (B.2 2) ∧ (0 ≤ μ.1 (Nat.add t 12) ((6 : Nat) : Int) ∧ μ.1 (Nat.add t 12) ((6 : Nat) : Int) ≤ μ.2 (μ.1 (Nat.add t 12) ((5 : Nat) : Int)).toNat ∧ yCC μ t)
def aSz (μ : zM) : Prop := (μ.2 56 = 4 ∧ μ.2 58 = 164 ∧ μ.2 64 = 2048) ∧ (μ.2 25 = 300 ∧ μ.2 43 = 300 ∧ μ.2 51 = 300)
theorem aSz_f {μ m : zM} (h : aSz μ) (e : m.2 = μ.2) : aSz m := by unfold aSz; rw [e]; exact h
theorem aT_f {μ m : zM} {t : Nat} {B : yB} (h : aT μ t B) (f : ∀ j : Nat, (j < 52 ∨ 66 ≤ j) → m.1 j = μ.1 j) (e : m.2 = μ.2) : aT m t B := by
  obtain ⟨ht, h1, h2, h3, h4, h5, h6⟩ := h
  have ff : ∀ j : Nat, (t ≤ j ∧ j < t + 17) ∨ (3000000 + t ≤ j ∧ j < 3000000 + t + 17) → m.1 j = μ.1 j := fun j hj => f j (by omega)
  have e12 : m.1 (Nat.add t 12) = μ.1 (Nat.add t 12) := f _ (by simp only [Nat.add_eq]; omega)
  have e13 : m.1 (Nat.add t 13) = μ.1 (Nat.add t 13) := f _ (by simp only [Nat.add_eq]; omega)
  have e14 : m.1 (Nat.add t 14) = μ.1 (Nat.add t 14) := f _ (by simp only [Nat.add_eq]; omega)
  have ec : m.1 (μ.1 (Nat.add t 12) ((5 : Nat) : Int)).toNat = μ.1 (μ.1 (Nat.add t 12) ((5 : Nat) : Int)).toNat := f _ (by unfold yCC at h6; omega)
  refine ⟨ht, yRB_g ht h1 ff, yRS_g ht h2 ff, fun k d a b c d' => ?_, by rw [e12]; exact h4, by rw [e12, e]; exact h5, by unfold yCC; rw [e12]; exact h6⟩
  have w := h3 k d a b c d'
  rw [e14, e13, e12]
  exact ⟨w.1, fun q => ⟨(w.2 q).1, (w.2 q).2.1, yRow_e (w.2 q).2.2 ec⟩⟩
theorem tA_B {μ : zM} {t : Nat} {B : yB} (h : yRB μ t B) : tA μ t = yar B := by
  funext x
  unfold tA yar
  rw [h.1.1]
  by_cases q : 0 ≤ x ∧ x < B.1 0 0
  · rw [if_pos q, if_pos q]; exact (h.2.1 x q.1 q.2).1.2.2.1
  · rw [if_neg q, if_neg q]
theorem yar_b {μ : zM} {t : Nat} {B : yB} (h : yRB μ t B) (x : Int) : 0 ≤ yar B x ∧ yar B x ≤ 4 := by
  unfold yar
  by_cases q : 0 ≤ x ∧ x < B.1 0 0
  · rw [if_pos q]; have := (h.2.1 x q.1 q.2).2.1; omega
  · rw [if_neg q]
    by_cases w : x = 201 ∨ x = 202
    · rw [if_pos w]; omega
    · rw [if_neg w]; omega
theorem yar_n {B : yB} (hB : B.1 0 0 ≤ 21) {x : Int} (h : 21 ≤ x) (h1 : x ≠ 201) (h2 : x ≠ 202) : yar B x = 0 := by
  unfold yar
  rw [if_neg (by omega), if_neg (by omega)]
theorem yar_z {B : yB} (h : yI0 B) (h00 : B.1 3 0 = 0) : yar B 0 = 0 := by
  unfold yar
  have := h.1.1
  rw [if_pos ⟨by omega, by omega⟩, h00]
theorem ysub_id {f : Int} {as : List (List Int)} : ∀ L : List Int, (∀ h ∈ L, 32 ≤ h → h < 112 → as.getD (h - 32 - f).toNat [] = [h]) → ysub f as L = L
  | [], _ => rfl
  | h :: L, H => by
    show (if 32 ≤ h ∧ h < 112 then as.getD (h - 32 - f).toNat [] else [h]) ++ ysub f as L = _
    rw [ysub_id L (fun x hx => H x (List.mem_cons_of_mem _ hx))]
    by_cases q : 32 ≤ h ∧ h < 112
    · rw [if_pos q, H h List.mem_cons_self q.1 q.2]; rfl
    · rw [if_neg q]; rfl
/-- the nodes of the PARAMETERS at hand -/
def aOw (m : zM) (A : Int → Int) (f n : Int) : Prop := m.1 52 ((8 : Nat) : Int) = f ∧ (0 ≤ f ∧ f ≤ 80) ∧ (0 ≤ n ∧ n ≤ 4) ∧ ∀ i : Int, 0 ≤ i → i < n → tE m A (m.1 56 i) [32 + f + i]
def aL4 (f : Int) : List (List Int) := [[32 + f], [32 + f + 1], [32 + f + 2], [32 + f + 3]]
theorem aL4_g {f i : Int} (h : 0 ≤ i ∧ i < 4) : (aL4 f).getD i.toNat [] = [32 + f + i] := by
  obtain ⟨j, rfl⟩ : ∃ j : Nat, i = j := ⟨i.toNat, by omega⟩
  have : j = 0 ∨ j = 1 ∨ j = 2 ∨ j = 3 := by omega
  rcases this with rfl | rfl | rfl | rfl
  · show [32 + f] = _; simp
  · rfl
  · rfl
  · rfl
def gk_X0_nodeOf : zC := fun As μ Q => ∃ (a1 : Nat) (a2 : Int) (a3 : Int) (t : Nat) (A : Int → Int) (L : List Int) (f : Int) (n : Int), As = [.inr (.inr (52, 52)), .inr (.inr (a1, 1001)), .inl a2, .inl a3] ∧ zIa μ a1 ∧ (0 ≤ a2 ∧ a2 + a3 ≤ 88400) ∧ (a3 = (L.length : Int) ∧ L.length ≤ 300) ∧ (a1 < 59 ∨ 66 ≤ a1) ∧ a2 + a3 ≤ μ.2 a1 ∧ μ.2 56 = 4 ∧ yRow μ a1 a2 L ∧ yone A L ∧ tOk μ t A ∧ (tn μ + L.length ≤ 7000 ∧ tp μ + L.length ≤ 7000) ∧ aOw μ A f n ∧ (∀ h ∈ L, 32 ≤ h → h < 112 → A h = 0 ∧ f ≤ h - 32 ∧ h - 32 < f + n) ∧ (∀ (v : Int) (μ' : zM), zfP μ μ' → tOk μ' t A → tOd μ μ' → (tn μ' ≤ tn μ + L.length ∧ tp μ' ≤ tp μ + L.length) → tE μ' A v L → Q (some (.inl v)) μ')
set_option maxHeartbeats 4000000 in
theorem gm_X0_nodeOf {g : zΓ} (hg : zg g) (d : Nat) (hd : 4 ≤ d) : zOk g d 3 gk_X0_nodeOf := by
  obtain ⟨d, rfl⟩ : ∃ d', d = d' + 1 := ⟨d - 1, by omega⟩
  refine zOk_straight hg (show mt_tab[3]? = some mt_X0_nodeOf from rfl) [] 17 rfl fun As μ Q hC => ?_
  obtain ⟨a1, a2, a3, t, A, L, f, n, rfl, ha1, ha2, ha3, g1, hln, h56, hrow, hy, ok, hcap, ow, hpar, hQ⟩ := hC
  refine ⟨rfl, ?_⟩
  intro x1 hx1 kx1 lx1
  have X1 : x1 = f := hx1.trans ow.1
  have F := ow.2.1
  have N := ow.2.2.1
  refine ⟨_, zOk_tag (gm_X6_put hg d (by omega)), [.inr (.inr (59, 59)), .inr (.inr (a1, 1001)), .inl a2, .inl a3, .inr (.inr (56, 1001)), .inl 0, .inl x1], rfl, a1, a2, a3, 56, 0, x1, t, A, L, aL4 f, rfl, ha1, ha2, ha3, (Or.inr ⟨by decide, by decide⟩), ⟨by omega, by omega⟩, ⟨by omega, by omega⟩, ⟨g1, Or.inl (by decide)⟩, hln, hrow, hy, ok, hcap, (fun h hm h1 h2 => ?_), ?_⟩
  · obtain ⟨b0, b1, b2⟩ := hpar h hm h1 h2
    refine ⟨b0, ⟨by omega, by omega⟩, ?_⟩
    rw [X1, aL4_g ⟨by omega, by omega⟩, show (0 : Int) + (h - 32 - f) = h - 32 - f by omega]
    exact ow.2.2.2 _ (by omega) (by omega)
  · intro x2 m3 q3 o3 d3 c3 e3
    have n3 := e3.1
    have k3 := o3.2.2.2.2.1
    rw [X1, ysub_id L (fun h hm h1 h2 => by
      obtain ⟨b0, b1, b2⟩ := hpar h hm h1 h2
      rw [aL4_g ⟨by omega, by omega⟩, show 32 + f + (h - 32 - f) = h by omega])] at e3
    exact And.intro trivial (And.intro ⟨by omega, by omega⟩ (hQ _ _ q3 o3 d3 c3 e3))
/-- what tellOwnBounds leaves alone -/
def zfQ (μ μ' : zM) : Prop := zl0 μ μ' ∧ (∀ j : Nat, j ≠ 57 → (j < 59 ∨ 66 ≤ j) → μ'.1 j = μ.1 j) ∧ μ'.1 59 ((6 : Nat) : Int) = μ.1 59 ((6 : Nat) : Int)
theorem zfQ_t {a b c : zM} (h1 : zfQ a b) (h2 : zfQ b c) : zfQ a c := ⟨zl0_t h1.1 h2.1, fun j hn hj => (h2.2.1 j hn hj).trans (h1.2.1 j hn hj), h2.2.2.trans h1.2.2⟩
theorem zfQ_P {a b : zM} (h : zfP a b) : zfQ a b := ⟨h.1, fun j _ hj => h.2.1 j hj, h.2.2⟩
theorem zfQ_u {m m' : zM} {k x : Int} (q : zl0 m m') (e : m' = zu m 57 k x) : zfQ m m' := ⟨q, fun j hn _ => by rw [e, zu_ne hn], by rw [e, zu_ne (by decide)]⟩
theorem tOk_57 {m m' : zM} {t : Nat} {A : Int → Int} {j : Nat} {k x : Int} (h : tOk m t A) (e : m' = zu m j k x) (hj : j = 52 ∨ j = 56 ∨ j = 57) : tOk m' t A ∧ tOd m m' ∧ (tn m' = tn m ∧ tp m' = tp m) := by
  have c : ∀ i : Nat, i ≠ j → m'.1 i = m.1 i := fun i hi => by rw [e, zu_ne hi]
  have n : tn m' = tn m := by unfold tn; rw [c 59 (by omega)]
  have p : tp m' = tp m := by unfold tp; rw [c 59 (by omega)]
  refine ⟨⟨h.1, by rw [c 59 (by omega)]; exact h.2.1, ?_, h.2.2.2.1, tW_c (fun i hi => c i (by omega)) h.2.2.2.2⟩, ⟨⟨by omega, by omega⟩, fun x _ _ => ⟨by rw [c 60 (by omega)], by rw [c 61 (by omega)]⟩, fun q _ _ => by rw [c 63 (by omega)]⟩, n, p⟩
  rw [h.2.2.1]
  have ht := h.1
  funext y
  unfold tA
  rw [c t (by omega), c (Nat.add t 3) (by simp only [Nat.add_eq]; omega)]
theorem aOw_f {μ m : zM} {A : Int → Int} {f n : Int} (h : aOw μ A f n) (w : tW μ A) (o : tOd μ m) (e52 : m.1 52 ((8 : Nat) : Int) = μ.1 52 ((8 : Nat) : Int)) (e56 : m.1 56 = μ.1 56) : aOw m A f n := ⟨e52.trans h.1, h.2.1, h.2.2.1, fun i a b => by rw [e56]; exact tE_old o w (h.2.2.2 i a b)⟩
/-- how long the BOUNDS are, one after another -/
def yPs (B : yB) : Nat → Int
  | 0 => 0
  | n + 1 => yPs B n + ((B.2 0 ((n / 2 : Nat) : Int) ((n % 2 : Nat) : Int)).flatten.length : Int)
theorem yPs_m (B : yB) {a b : Nat} (h : a ≤ b) : yPs B a ≤ yPs B b := by
  induction b with
  | zero => have : a = 0 := by omega
            subst this; exact Int.le_refl _
  | succ b ih =>
    by_cases q : a = b + 1
    · rw [q]; exact Int.le_refl _
    · have := ih (by omega)
      show _ ≤ yPs B b + _
      omega
theorem yPs_s (B : yB) {p i : Int} (p0 : 0 ≤ p) (i0 : 0 ≤ i) (i1 : i < 2) : yPs B (2 * p + (i + 1)).toNat = yPs B (2 * p + i).toNat + ((B.2 0 p i).flatten.length : Int) := by
  rw [show (2 * p + (i + 1)).toNat = (2 * p + i).toNat + 1 by omega]
  show _ + _ = _
  rw [show (((2 * p + i).toNat / 2 : Nat) : Int) = p by omega, show (((2 * p + i).toNat % 2 : Nat) : Int) = i by omega]
/-- the BOUNDS at hand of an own PARAMETER -/
def aOb (m : zM) (B : yB) (f i : Int) : Prop := (∀ b : Int, 0 ≤ b → b < B.1 6 (f + i) → tE m (yar B) (m.1 57 (i * 2 + b)) (B.2 0 (f + i) b).flatten) ∧ (B.1 6 (f + i) = 0 → tE m (yar B) (m.1 57 (i * 2)) [0]) ∧ (B.1 6 (f + i) ≤ 1 → m.1 57 (i * 2 + 1) = -1)
theorem aOb_f {m m' : zM} {B : yB} {f i : Int} (h : aOb m B f i) (i0 : 0 ≤ i) (c2 : B.1 6 (f + i) ≤ 2) (w : tW m (yar B)) (o : tOd m m') (e : ∀ k : Int, i * 2 ≤ k → k ≤ i * 2 + 1 → m'.1 57 k = m.1 57 k) : aOb m' B f i := by
  refine ⟨fun b b0 b1 => ?_, fun q => ?_, fun q => ?_⟩
  · rw [e _ (by omega) (by omega)]; exact tE_old o w (h.1 b b0 b1)
  · rw [e _ (by omega) (by omega)]; exact tE_old o w (h.2.1 q)
  · rw [e _ (by omega) (by omega)]; exact h.2.2 q
def gk_X0_tellOwnBounds : zC := fun As μ Q => ∃ (a1 : Int) (t : Nat) (B : yB) (f : Int) (n : Int), As = [.inr (.inr (52, 52)), .inl a1] ∧ (0 ≤ a1 ∧ a1 < n) ∧ aT μ t B ∧ aSz μ ∧ μ.1 52 ((7 : Nat) : Int) = t ∧ tOk μ t (yar B) ∧ aOw μ (yar B) f n ∧ (f + n ≤ B.1 0 1) ∧ (∀ i : Int, 0 ≤ i → i < B.1 6 (f + a1) → yone (yar B) (B.2 0 (f + a1) i).flatten ∧ ∀ h ∈ (B.2 0 (f + a1) i).flatten, 32 ≤ h → h < 112 → f ≤ h - 32 ∧ h - 32 < f + n) ∧ (tn μ ≤ 6000 ∧ tp μ ≤ 6000) ∧ yPs B 160 ≤ 300 ∧ (tE μ (yar B) (μ.1 52 ((9 : Nat) : Int)) [0] ∧ μ.1 57 (a1 * 2 + 1) = -1) ∧ (∀ (μ' : zM), zfQ μ μ' → tOk μ' t (yar B) → tOd μ μ' → (tn μ' ≤ tn μ + (yPs B (2 * (f + a1 + 1)).toNat - yPs B (2 * (f + a1)).toNat) ∧ tp μ' ≤ tp μ + (yPs B (2 * (f + a1 + 1)).toNat - yPs B (2 * (f + a1)).toNat)) → aOb μ' B f a1 → (∀ k : Int, k < a1 * 2 ∨ a1 * 2 + 1 < k → μ'.1 57 k = μ.1 57 k) → Q none μ')
set_option maxHeartbeats 4000000 in
theorem gm_X0_tellOwnBounds {g : zΓ} (hg : zg g) (d : Nat) (hd : 5 ≤ d) : zOk g d 2 gk_X0_tellOwnBounds := by
  obtain ⟨d, rfl⟩ : ∃ d', d = d' + 1 := ⟨d - 1, by omega⟩
  refine zOk_loop hg (show mt_tab[2]? = some mt_X0_tellOwnBounds from rfl) ([(23, [0, 1, 2, 3])], []) 59 rfl fun As μ Q hC => ?_
  obtain ⟨a1, t, B, f, n, rfl, ha1, hT, hS, h52, ok, ow, hfn, hrows, hcap, hBn, ⟨hany, h57⟩, hQ⟩ := hC
  have F := ow.2.1
  have N := ow.2.2.1
  have hB21 := hT.2.1.1.2.2.1
  have hP80 := hT.2.1.1.2.2.2
  have ht := hT.1
  have pb := hT.2.1.2.2 (f + a1) (by omega) (by omega)
  have PS : ∀ v : Int, 0 ≤ v → v ≤ 2 → 0 ≤ yPs B (2 * (f + a1) + v).toNat - yPs B (2 * (f + a1)).toNat ∧ yPs B (2 * (f + a1) + v).toNat - yPs B (2 * (f + a1)).toNat ≤ 300 := fun v v0 v1 => by
    have q1 := yPs_m B (show (2 * (f + a1)).toNat ≤ (2 * (f + a1) + v).toNat by omega)
    have q2 := yPs_m B (show (2 * (f + a1) + v).toNat ≤ 160 by omega)
    have q3 := yPs_m B (show 0 ≤ (2 * (f + a1)).toNat by omega)
    have q4 : yPs B 0 = 0 := rfl
    omega
  refine ⟨rfl, fun pc vs μ' n' => ∃ (v3 : Int), vs = [.inr (.inr (52, 52)), .inl a1, .inl (f + a1), .inl v3] ∧ (0 ≤ v3 ∧ v3 ≤ B.1 6 (f + a1)) ∧ zfQ μ μ' ∧ tOk μ' t (yar B) ∧ tOd μ μ' ∧ (tn μ' ≤ tn μ + (yPs B (2 * (f + a1) + v3).toNat - yPs B (2 * (f + a1)).toNat) ∧ tp μ' ≤ tp μ + (yPs B (2 * (f + a1) + v3).toNat - yPs B (2 * (f + a1)).toNat)) ∧ ((v3 = 0 → tE μ' (yar B) (μ'.1 57 (a1 * 2)) [0]) ∧ (∀ b : Int, 0 ≤ b → b < v3 → tE μ' (yar B) (μ'.1 57 (a1 * 2 + b)) (B.2 0 (f + a1) b).flatten) ∧ (v3 ≤ 1 → μ'.1 57 (a1 * 2 + 1) = -1) ∧ ∀ k : Int, k < a1 * 2 ∨ a1 * 2 + 1 < k → μ'.1 57 k = μ.1 57 k) ∧ n' = (Int.toNat (2147483648 - v3)), ?_, ?_, trivial⟩
  · intro x1 hx1 kx1 lx1
    have X1 : x1 = f := hx1.trans ow.1
    intro x3 hx3 kx3 lx3
    refine ⟨yk_X8_set, ym_X8_set hg d (by omega), _, _, _, _, rfl, ⟨by omega, by omega⟩, ?_⟩
    refine And.intro ⟨by omega, by omega⟩ (And.intro ⟨by omega, by omega⟩ ?_)
    intro m4 qm4 em4
    obtain ⟨o4, d4, n4⟩ := tOk_57 ok em4 (by omega)
    refine Exists.intro (Int.toNat (2147483648 - 0)) ?_
    have P0 := PS 0 (by omega) (by omega)
    exact ⟨0, by rw [X1], ⟨by omega, by omega⟩, zfQ_u ⟨qm4, by rw [em4]; rfl⟩ em4, o4, d4, ⟨by omega, by omega⟩, ⟨fun _ => by rw [em4, zu_at, ← em4, hx3]; exact tE_old d4 ok.2.2.2.2 hany, fun b b0 b1 => by exfalso; omega, fun _ => by rw [em4, zu_nk (by omega)]; exact h57, fun k hk => by rw [em4, zu_nk (by omega)]⟩, rfl⟩
  · intro vs m0 n' hI
    obtain ⟨v3, rfl, hv3, z0, ok0, od0, cn, ⟨b1, b2, b3, b4⟩, rfl⟩ := hI
    have P0 := PS v3 hv3.1 (by omega)
    have hT0 : aT m0 t B := aT_f hT (fun j hj => z0.2.1 j (by omega) (by omega)) z0.1.2
    have pc0 := hT0.2.1.2.2 (f + a1) (by omega) (by omega)
    intro t6 et6 ht6
    have q6 : t6 = t := by rw [z0.2.1 52 (by decide) (by decide)] at et6; omega
    subst q6
    refine And.intro ht6.1 ?_
    refine ⟨zk_X8_at, zm_X8_at hg d (by omega), _, _, _, rfl, ⟨by omega, by omega⟩, ?_⟩
    refine And.intro (zfa (o := 8) (y2 := 22) ht6.1 rfl) ?_
    intro x7 kx7 lx7 fx7 gx7
    have X7 : x7 = B.1 6 (f + a1) := by rw [(fx7 ⟨by omega, by omega⟩).1]; exact pc0.1.2.2
    refine And.intro ⟨⟨by omega, by omega⟩, ⟨by omega, by omega⟩⟩ (And.intro (fun c8 => ?_) (fun c8 => ?_))
    · have e3 : v3 = B.1 6 (f + a1) := by omega
      have mm := yPs_m B (show (2 * (f + a1) + v3).toNat ≤ (2 * (f + a1 + 1)).toNat by omega)
      exact And.intro rfl (hQ _ z0 ok0 od0 ⟨by omega, by omega⟩ ⟨fun b q0 q1 => b2 b q0 (by omega), fun q => b1 (by omega), fun q => b3 (by omega)⟩ b4)
    · have rw0 := hT0.2.2.1.2 (f + a1) v3 (by omega) (by omega) hv3.1 (by omega)
      obtain ⟨r1, r2, r3, r4⟩ := rw0
      obtain ⟨y1, y2⟩ := hrows v3 hv3.1 (by omega)
      intro t13 et13 ht13
      have q13 : t13 = t6 := by omega
      subst q13
      refine And.intro ht6.1 ?_
      intro t14 et14 ht14
      have q14 : t14 = t13 := by omega
      subst q14
      refine And.intro ht6.1 ?_
      refine ⟨zk_X8_at, zm_X8_at hg d (by omega), _, _, _, rfl, ⟨by omega, by omega⟩, ?_⟩
      refine And.intro (zfa (o := 9) (y2 := 23) ht6.1 rfl) ?_
      intro x15 kx15 lx15 fx15 gx15
      have X15 : x15 = m0.1 (Nat.add t14 9) ((f + a1) * 2 + v3) := (fx15 ⟨by omega, by omega⟩).1
      intro t16 et16 ht16
      have q16 : t16 = t14 := by omega
      subst q16
      refine And.intro ht6.1 ?_
      refine ⟨zk_X8_at, zm_X8_at hg d (by omega), _, _, _, rfl, ⟨by omega, by omega⟩, ?_⟩
      refine And.intro (zfa (o := 10) (y2 := 24) ht6.1 rfl) ?_
      intro x17 kx17 lx17 fx17 gx17
      have X17 : x17 = ((B.2 0 (f + a1) v3).flatten.length : Int) := by rw [(fx17 ⟨by omega, by omega⟩).1]; exact r1
      have L3 : m0.2 (Nat.add t16 11) = 300 := by
        rw [z0.1.2]
        rcases ht6.1 with rfl | rfl
        · exact hS.2.1
        · exact hS.2.2.1
      refine ⟨_, zOk_tag (gm_X0_nodeOf hg d (by omega)), [.inr (.inr (52, 52)), .inr (.inr ((Nat.add t16 11), 1001)), .inl x15, .inl x17], rfl, _, _, _, t16, yar B, (B.2 0 (f + a1) v3).flatten, f, n, rfl, (zIa_f (zfa (o := 11) (y2 := 25) ht6.1 rfl) (by decide) (by decide)), ⟨by omega, by omega⟩, ⟨X17, by omega⟩, Or.inl (by simp only [Nat.add_eq]; omega), by rw [L3]; omega, (by rw [z0.1.2]; exact hS.1.1), by rw [X15]; exact r4, y1, ok0, ⟨by omega, by omega⟩, aOw_f ow ok.2.2.2.2 od0 (by rw [z0.2.1 52 (by decide) (by decide)]) (z0.2.1 56 (by decide) (by decide)), (fun h hm h1 h2 => ⟨yar_n hB21.2 (by omega) (by omega) (by omega), y2 h hm h1 h2⟩), ?_⟩
      intro x18 m19 q19 o19 d19 c19 e19
      have n19 := e19.1
      have k19 := o19.2.2.2.2.1
      refine ⟨yk_X8_set, ym_X8_set hg d (by omega), _, _, _, _, rfl, ⟨by omega, by omega⟩, ?_⟩
      refine And.intro ⟨by omega, by omega⟩ (And.intro ⟨by omega, by omega⟩ ?_)
      intro m21 qm21 em21
      obtain ⟨o21, d21, n21⟩ := tOk_57 o19 em21 (by omega)
      refine Exists.intro (Int.toNat (2147483648 - (v3 + 1))) (And.intro (by omega) ?_)
      have p1 := yPs_s B (show 0 ≤ f + a1 by omega) hv3.1 (show v3 < 2 by omega)
      have c57 : m19.1 57 = m0.1 57 := q19.2.1 57 (by omega)
      have D2 := tOd_t d19 d21
      exact ⟨_, rfl, ⟨by omega, by omega⟩, zfQ_t (zfQ_t z0 (zfQ_P q19)) (zfQ_u ⟨qm21, by rw [em21]; rfl⟩ em21), o21, tOd_t od0 D2, ⟨by omega, by omega⟩, ⟨fun q => by exfalso; omega, fun b q0 q1 => by
        by_cases z : b = v3
        · rw [z, em21, zu_at, ← em21]; exact tE_old d21 o19.2.2.2.2 (by have q := e19; exact q)
        · rw [em21, zu_nk (by omega), c57, ← em21]; exact tE_old D2 ok0.2.2.2.2 (b2 b q0 (by omega)), fun q => by rw [em21, zu_nk (by omega), c57]; exact b3 (by omega), fun k hk => by rw [em21, zu_nk (by omega), c57]; exact b4 k hk⟩, rfl⟩
