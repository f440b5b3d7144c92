/-! ### a table is read: the other one stays -/
def zob (T j : Nat) : Prop := j = 0 ∨ ((T = 14 ∨ T = 32) ∧ 6 ≤ j ∧ j < 10) ∨ (T = 14 ∧ ((32 ≤ j ∧ j < 49) ∨ (3000032 ≤ j ∧ j < 3000050))) ∨ (T = 32 ∧ ((14 ≤ j ∧ j < 31) ∨ (3000014 ≤ j ∧ j < 3000032))) ∨ (T = 51 ∧ ((6 ≤ j ∧ j < 50) ∨ (52 ≤ j ∧ j < 66) ∨ (109 ≤ j ∧ j < 1000000) ∨ (3000006 ≤ j ∧ j < 3000050))) ∨ (T = 114 ∧ (j = 14 ∨ (18 ≤ j ∧ j < 25))) ∨ (T = 132 ∧ (j = 32 ∨ (36 ≤ j ∧ j < 43)))
def zoq (T : Nat) (μ : zM) : Prop := (μ.1 50 ((3 : Nat) : Int)).toNat ≠ 50 ∧ ¬ zob T (μ.1 50 ((3 : Nat) : Int)).toNat ∧ ((T ≠ 14 ∧ T ≠ 32) ∨ ((μ.1 50 ((3 : Nat) : Int)).toNat < 109 ∧ (μ.1 50 ((3 : Nat) : Int)).toNat ≠ 31 ∧ (μ.1 50 ((3 : Nat) : Int)).toNat ≠ 49 ∧ (μ.1 50 ((3 : Nat) : Int)).toNat ≠ 26 ∧ (μ.1 50 ((3 : Nat) : Int)).toNat ≠ 44))
def zox (T : Nat) (μ μ' : zM) : Prop := (T = 14 ∨ T = 32) → yOc μ μ' (T + 12)
theorem zox_r (T : Nat) (μ : zM) : zox T μ μ := fun _ => yOc_r _ _
theorem zox_t {T : Nat} {a b c : zM} (h1 : zox T a b) (h2 : zox T b c) : zox T a c := fun h => yOc_t (h1 h) (h2 h)
theorem zox_u {T : Nat} {μ μ' : zM} {t : Nat} {k x : Int} (he : μ' = zu μ t k x) (h6 : (t < 109 ∧ t ≠ 31 ∧ t ≠ 49) ∨ 1000000 ≤ t := by first | decide | omega | (simp only [Nat.add_eq]; omega)) (h7 : (t ≠ 26 ∧ t ≠ 44) ∨ k ≠ ((5 : Nat) : Int) := by first | decide | omega | (simp only [Nat.add_eq]; omega)) : zox T μ μ' := fun hT => yOc_c (by omega) (fun j hj _ => by rw [he, zu_ne (by omega)]) (by rw [he]; rfl) (fun s hs => by
  rw [he]
  by_cases q : s = t
  · rw [q, zu_nk (by omega)]
  · rw [zu_ne q])
theorem zox_c {T : Nat} {μ m : zM} (hc : ∀ j : Nat, j = 31 ∨ j = 49 ∨ (109 ≤ j ∧ j < 1000000) → m.1 j = μ.1 j) (h2 : m.2 = μ.2) (h5 : ∀ s : Nat, s = 26 ∨ s = 44 → m.1 s ((5 : Nat) : Int) = μ.1 s ((5 : Nat) : Int)) : zox T μ m := fun hT => yOc_c (by omega) (fun j hj _ => hc j hj) h2 h5
/-- the question's row stays below what was told -/
def zpw (T : Nat) (μ μ' : zM) : Prop := T = 51 → μ.1 50 ((4 : Nat) : Int) ≤ μ'.1 50 ((4 : Nat) : Int) ∧ (∀ k : Int, k < μ.1 50 ((4 : Nat) : Int) → μ'.1 51 k = μ.1 51 k) ∧ μ'.1 50 ((6 : Nat) : Int) = μ.1 50 ((6 : Nat) : Int)
theorem zpw_t {T : Nat} {a b c : zM} (h1 : zpw T a b) (h2 : zpw T b c) : zpw T a c := fun e => ⟨Int.le_trans (h1 e).1 (h2 e).1, fun k hk => ((h2 e).2.1 k (Int.lt_of_lt_of_le hk (h1 e).1)).trans ((h1 e).2.1 k hk), (h2 e).2.2.trans (h1 e).2.2⟩
def zof (T : Nat) (μ μ' : zM) : Prop := zoq T μ → μ'.1 50 ((3 : Nat) : Int) = μ.1 50 ((3 : Nat) : Int) ∧ (∀ j : Nat, zob T j → μ'.1 j = μ.1 j) ∧ zox T μ μ' ∧ zpw T μ μ'
def zfr (T : Nat) (μ μ' : zM) : Prop := zl0 μ μ' ∧ zof T μ μ'
def zfR (T : Nat) (μ μ' : zM) : Prop := zle μ μ' ∧ zof T μ μ'
theorem zof_r (T : Nat) (μ : zM) : zof T μ μ := fun _ => ⟨rfl, fun _ _ => rfl, zox_r T μ, fun _ => ⟨Int.le_refl _, fun _ _ => rfl, rfl⟩⟩
theorem zof_t {T : Nat} {a b c : zM} (h1 : zof T a b) (h2 : zof T b c) : zof T a c := fun h => by
  have q := h1 h
  have q2 := h2 (by unfold zoq at h ⊢; rw [q.1]; exact h)
  exact ⟨q2.1.trans q.1, fun j hj => (q2.2.1 j hj).trans (q.2.1 j hj), zox_t q.2.2.1 q2.2.2.1, zpw_t q.2.2.2 q2.2.2.2⟩
theorem zof_a {T : Nat} {μ μ' : zM} (h0 : μ'.1 50 ((3 : Nat) : Int) = μ.1 50 ((3 : Nat) : Int)) (h : ∀ j : Nat, zob T j → μ'.1 j = μ.1 j) (hx : zox T μ μ') (hp : zpw T μ μ' := by intro h; exfalso; omega) : zof T μ μ' := fun _ => ⟨h0, h, hx, hp⟩
theorem zfr_r (T : Nat) (μ : zM) : zfr T μ μ := ⟨zl0_r μ, zof_r T μ⟩
theorem zfR_r (T : Nat) (μ : zM) : zfR T μ μ := ⟨zle_r μ, zof_r T μ⟩
theorem zfr_t {T : Nat} {a b c : zM} (h1 : zfr T a b) (h2 : zfr T b c) : zfr T a c := ⟨zl0_t h1.1 h2.1, zof_t h1.2 h2.2⟩
theorem zfR_t {T : Nat} {a b c : zM} (h1 : zfR T a b) (h2 : zfR T b c) : zfR T a c := ⟨zle_t h1.1 h2.1, zof_t h1.2 h2.2⟩
theorem zfR_0 {T : Nat} {a b c : zM} (h1 : zfR T a b) (h2 : zfr T b c) : zfR T a c := ⟨zle_0 h1.1 h2.1, zof_t h1.2 h2.2⟩
theorem zof_u {T : Nat} {μ μ' : zM} {t : Nat} {k x : Int} (he : μ' = zu μ t k x) (h4 : ¬ zob T t) (h5 : t ≠ 50 ∨ k ≠ ((3 : Nat) : Int)) (h6 : (t < 109 ∧ t ≠ 31 ∧ t ≠ 49) ∨ 1000000 ≤ t := by first | decide | omega | (simp only [Nat.add_eq]; omega)) (h7 : (t ≠ 26 ∧ t ≠ 44) ∨ k ≠ ((5 : Nat) : Int) := by first | decide | omega | (simp only [Nat.add_eq]; omega)) (h8 : t ≠ 51 ∧ (t ≠ 50 ∨ (k ≠ ((4 : Nat) : Int) ∧ k ≠ ((6 : Nat) : Int))) := by first | decide | omega | exact ⟨by decide, Or.inl (by decide)⟩ | exact ⟨by decide, Or.inr ⟨by decide, by decide⟩⟩ | (simp only [Nat.add_eq]; omega)) : zof T μ μ' := by
  refine zof_a ?_ (fun j hj => ?_) (zox_u he h6 h7) (fun _ => ⟨Int.le_of_eq ?_, fun k' _ => by rw [he, zu_ne (Ne.symm h8.1)], ?_⟩)
  rotate_right
  rotate_right
  · rcases h8.2 with h | h
    · rw [he, zu_ne (Ne.symm h)]
    · by_cases q : 50 = t
      · rw [he, ← q, zu_nk (Ne.symm h.1)]
      · rw [he, zu_ne q]
  · rcases h8.2 with h | h
    · rw [he, zu_ne (Ne.symm h)]
    · by_cases q : 50 = t
      · rw [he, ← q, zu_nk (Ne.symm h.2)]
      · rw [he, zu_ne q]
  · rcases h5 with h | h
    · rw [he, zu_ne (Ne.symm h)]
    · by_cases q : 50 = t
      · rw [he, ← q, zu_nk (Ne.symm h)]
      · rw [he, zu_ne q]
  · rw [he, zu_ne (fun (q : j = t) => h4 (by rw [← q]; exact hj))]
theorem zfr_u {T : Nat} {μ μ' : zM} {t : Nat} {k x : Int} (he : μ' = zu μ t k x) (h1 : t < 66 ∨ (109 ≤ t ∧ t < 1000000) ∨ (3000000 ≤ t ∧ t < 3000066) ∨ (5000000 ≤ t ∧ t < 5000066)) (h2 : (t ≠ 26 ∧ t ≠ 44) ∨ k ≠ 5) (h3 : t ≠ 1 ∨ k ≠ ((4 : Nat) : Int) ∨ x = 0 := by first | exact Or.inl (by decide) | exact Or.inr (Or.inl (by decide)) | omega) (h4 : ¬ zob T t := by unfold zob; omega) (h5 : t ≠ 50 ∨ k ≠ ((3 : Nat) : Int) := by first | exact Or.inl (by decide) | exact Or.inr (by decide)) (h6 : (t < 109 ∧ t ≠ 31 ∧ t ≠ 49) ∨ 1000000 ≤ t := by first | decide | omega | (simp only [Nat.add_eq]; omega)) (h8 : t ≠ 51 ∧ (t ≠ 50 ∨ (k ≠ ((4 : Nat) : Int) ∧ k ≠ ((6 : Nat) : Int))) := by first | decide | omega | exact ⟨by decide, Or.inl (by decide)⟩ | exact ⟨by decide, Or.inr ⟨by decide, by decide⟩⟩ | (simp only [Nat.add_eq]; omega)) : zfr T μ μ' := ⟨zl0_u he h1 h2 h3, zof_u he h4 h5 h6 h2 h8⟩
theorem zfr_f {T : Nat} {μ μ' : zM} {t y : Nat} {k x : Int} (he : μ' = zu μ t k x) (ht : t = y ∨ t = y + 18) (hy : 14 ≤ y ∧ y ≤ 31) (h2 : y ≠ 26 ∨ k ≠ 5) (h4 : ¬ zob T t := by unfold zob; omega) (h6 : y ≠ 31 := by decide) : zfr T μ μ' := ⟨zl0_f he ht hy h2, zof_u he h4 (Or.inl (by omega)) (by omega) (by omega) ⟨by omega, Or.inl (by omega)⟩⟩
theorem zof_y {T t : Nat} {μ μ' : zM} (h : yFr μ μ' t) (ht : t = 26 ∨ t = 44) (hT : T + 12 = t ∨ T = t + 88) : zof T μ μ' := by
  refine zof_a (by rw [h.1 50 (Or.inl (by omega))]) (fun j hj => h.1 j ?_) (fun q => by have e : t = T + 12 := (by omega); rw [← e]; exact h.2)
  unfold zob at hj
  omega
def zfA (μ μ' : zM) : Prop := ∀ T : Nat, zfr T μ μ'
theorem zfA_r (μ : zM) : zfA μ μ := fun T => zfr_r T μ
theorem zfA_t {a b c : zM} (h1 : zfA a b) (h2 : zfA b c) : zfA a c := fun T => zfr_t (h1 T) (h2 T)
/-- two frames at once: the other table; this one's told TYPES -/
def zfw (t : Nat) (μ μ' : zM) : Prop := ∀ T : Nat, (T = t ∨ T = t + 100) → zfr T μ μ'
def zfW (t : Nat) (μ μ' : zM) : Prop := ∀ T : Nat, (T = t ∨ T = t + 100) → zfR T μ μ'
theorem zfW_r (t : Nat) (μ : zM) : zfW t μ μ := fun T _ => zfR_r T μ
theorem zfW_t {t : Nat} {a b c : zM} (h1 : zfW t a b) (h2 : zfW t b c) : zfW t a c := fun T hT => zfR_t (h1 T hT) (h2 T hT)
theorem zfW_0 {t : Nat} {a b c : zM} (h1 : zfW t a b) (h2 : zfw t b c) : zfW t a c := fun T hT => zfR_0 (h1 T hT) (h2 T hT)
def wk_X3_fail : zC := fun As μ Q => ∃ (a1 : Int), As = [.inr (.inr (50, 50)), .inl a1] ∧ ((-2147483648) ≤ a1 ∧ a1 ≤ 2147483647) ∧ (∀ (v : Int) (μ' : zM), (∀ T : Nat, zfr T μ μ') → 0 ≤ v → v ≤ 0 → (μ' = yflM μ a1) → Q (some (.inl v)) μ')
theorem wm_X3_fail {g : zΓ} (hg : zg g) (d : Nat) (hd : 1 ≤ d) : zOk g d 53 wk_X3_fail := zOk_mono (ym_X3_fail hg d hd) (fun As μ Q h => by
  obtain ⟨a1, rfl, ha, hQ⟩ := h
  exact ⟨a1, rfl, ha, fun v μ' z k1 k2 e => hQ v μ' (fun T => ⟨z, by rw [e]; unfold yflM; exact zof_t (zof_u rfl (by unfold zob; omega) (Or.inr (by decide))) (zof_u rfl (by unfold zob; omega) (Or.inr (by decide)))⟩) k1 k2 e⟩)
def wk_X3_tell : zC := fun As μ Q => ∃ (a1 : Int), As = [.inr (.inr (50, 50)), .inl a1] ∧ ((-2147483648) ≤ a1 ∧ a1 ≤ 2147483647) ∧ (μ.1 50 ((4 : Nat) : Int) ≤ 299) ∧ (∀ (μ' : zM), (∀ T : Nat, zfr T μ μ') → (μ' = yteM μ (μ.1 50 ((3 : Nat) : Int)).toNat a1) → Q none μ')
theorem wm_X3_tell {g : zΓ} (hg : zg g) (d : Nat) (hd : 2 ≤ d) : zOk g d 52 wk_X3_tell := zOk_mono (ym_X3_tell hg d hd) (fun As μ Q h => by
  obtain ⟨a1, rfl, ha, hp, hQ⟩ := h
  exact ⟨a1, rfl, ha, hp, fun μ' z e => hQ μ' (fun T => ⟨z, by rw [e]; unfold yteM; exact fun hn => ⟨by rw [zu_nk (by decide), zu_ne (Ne.symm hn.1)], fun j hj => by rw [zu_ne (fun q => by unfold zob at hj; omega), zu_ne (fun (q : j = _) => hn.2.1 (by rw [← q]; exact hj))], fun hT => zox_t (zox_u rfl (by have := hn.2.2; omega) (by have := hn.2.2; omega)) (zox_u rfl) hT, fun _ => ⟨by rw [zu_at]; omega, fun k hk => by
    rw [zu_ne (by decide)]
    by_cases q : 51 = (μ.1 50 ((3 : Nat) : Int)).toNat
    · rw [← q, zu_nk (by omega)]
    · rw [zu_ne q], by rw [zu_nk (by decide), zu_ne (Ne.symm hn.1)]⟩⟩⟩) e⟩)
def wk_X3_behindType : zC := fun As μ Q => ∃ (a1 : Int), As = [.inr (.inr (50, 50)), .inl a1] ∧ (0 ≤ a1 ∧ a1 ≤ 1) ∧ (∀ (v : Int) (μ' : zM), (∀ T : Nat, zfr T μ μ') → 0 ≤ v → v ≤ 1 → ((v = 1 ∧ (a1 = 1 ∧ μ.1 50 ((10 : Nat) : Int) = 0) ∧ μ' = μ) ∨ (v = 0 ∧ ((a1 = 0 ∧ μ' = yflM μ 2) ∨ (a1 = 1 ∧ μ.1 50 ((10 : Nat) : Int) = 1 ∧ μ' = yflM μ 5)))) → Q (some (.inl v)) μ')
theorem wm_X3_behindType {g : zΓ} (hg : zg g) (d : Nat) (hd : 2 ≤ d) : zOk g d 51 wk_X3_behindType := zOk_mono (ym_X3_behindType hg d hd) (fun As μ Q h => by
  obtain ⟨a1, rfl, ha, hQ⟩ := h
  exact ⟨a1, rfl, ha, fun v μ' z k1 k2 e => hQ v μ' (fun T => ⟨z, by rcases e with e | e; (rw [e.2.2]; exact zof_r T μ); (rcases e.2 with e | e; (rw [e.2]; unfold yflM; exact zof_t (zof_u rfl (by unfold zob; omega) (Or.inr (by decide))) (zof_u rfl (by unfold zob; omega) (Or.inr (by decide)))); (rw [e.2.2]; unfold yflM; exact zof_t (zof_u rfl (by unfold zob; omega) (Or.inr (by decide))) (zof_u rfl (by unfold zob; omega) (Or.inr (by decide)))))⟩) k1 k2 e⟩)
def wk_X4_addClass : zC := fun As μ Q => ∃ (t : Nat) (a1 : Int64), As = [.inr (.inr (t, 14)), .inr (.inl a1)] ∧ (t = 14 ∨ t = 32) ∧ (μ.1 t ((12 : Nat) : Int) ≤ 20) ∧ (∀ (v : Int) (μ' : zM), (∀ T : Nat, T = t → zfr T μ μ') → 0 ≤ v → v ≤ 21 → (v = μ.1 t ((12 : Nat) : Int)) → (μ' = yacM μ t a1.toInt) → Q (some (.inl v)) μ')
theorem wm_X4_addClass {g : zΓ} (hg : zg g) (d : Nat) (hd : 1 ≤ d) : zOk g d 56 wk_X4_addClass := zOk_mono (ym_X4_addClass hg d hd) (fun As μ Q h => by
  obtain ⟨t, a1, rfl, ht, hp, hQ⟩ := h
  exact ⟨t, a1, rfl, ht, hp, fun v μ' z k1 k2 e1 e2 => hQ v μ' (fun T hT => ⟨z, by rw [e2]; unfold yacM; exact zof_a (by rw [zu_ne (by first | omega | (simp only [Nat.add_eq]; omega)), zu_ne (by first | omega | (simp only [Nat.add_eq]; omega)), zu_ne (by first | omega | (simp only [Nat.add_eq]; omega)), zu_ne (by first | omega | (simp only [Nat.add_eq]; omega)), zu_ne (by first | omega | (simp only [Nat.add_eq]; omega))]) (fun j hj => by unfold zob at hj; rw [zu_ne (by first | omega | (simp only [Nat.add_eq]; omega)), zu_ne (by first | omega | (simp only [Nat.add_eq]; omega)), zu_ne (by first | omega | (simp only [Nat.add_eq]; omega)), zu_ne (by first | omega | (simp only [Nat.add_eq]; omega)), zu_ne (by first | omega | (simp only [Nat.add_eq]; omega))]) (zox_t (zox_t (zox_t (zox_t (zox_u rfl) (zox_u rfl)) (zox_u rfl)) (zox_u rfl)) (zox_u rfl))⟩) k1 k2 e1 e2⟩)
def wk_X4_addParameter : zC := fun As μ Q => ∃ (t : Nat) (a1 : Int) (a2 : Int64), As = [.inr (.inr (t, 14)), .inl a1, .inr (.inl a2)] ∧ (t = 14 ∨ t = 32) ∧ ((-2147483648) ≤ a1 ∧ a1 ≤ 2147483647) ∧ (0 ≤ a1 ∧ a1 ≤ 20) ∧ (μ.1 t ((13 : Nat) : Int) ≤ 79) ∧ (μ.1 (Nat.add t 3) a1 ≤ 3) ∧ (∀ (μ' : zM), (∀ T : Nat, T = t → zfr T μ μ') → (μ' = yapM μ t a1 a2.toInt) → Q none μ')
theorem wm_X4_addParameter {g : zΓ} (hg : zg g) (d : Nat) (hd : 1 ≤ d) : zOk g d 57 wk_X4_addParameter := zOk_mono (ym_X4_addParameter hg d hd) (fun As μ Q h => by
  obtain ⟨t, a1, a2, rfl, ht, hp, hp1, hp2, hp3, hQ⟩ := h
  exact ⟨t, a1, a2, rfl, ht, hp, hp1, hp2, hp3, fun μ' z e2 => hQ μ' (fun T hT => ⟨z, by rw [e2]; unfold yapM; exact zof_a (by rw [zu_ne (by first | omega | (simp only [Nat.add_eq]; omega)), zu_ne (by first | omega | (simp only [Nat.add_eq]; omega)), zu_ne (by first | omega | (simp only [Nat.add_eq]; omega)), zu_ne (by first | omega | (simp only [Nat.add_eq]; omega)), zu_ne (by first | omega | (simp only [Nat.add_eq]; omega))]) (fun j hj => by unfold zob at hj; rw [zu_ne (by first | omega | (simp only [Nat.add_eq]; omega)), zu_ne (by first | omega | (simp only [Nat.add_eq]; omega)), zu_ne (by first | omega | (simp only [Nat.add_eq]; omega)), zu_ne (by first | omega | (simp only [Nat.add_eq]; omega)), zu_ne (by first | omega | (simp only [Nat.add_eq]; omega))]) (zox_t (zox_t (zox_t (zox_t (zox_u rfl) (zox_u rfl)) (zox_u rfl)) (zox_u rfl)) (zox_u rfl))⟩) e2⟩)
def wk_X4_addBound : zC := fun As μ Q => ∃ (t : Nat) (a1 : Int) (a2 : Int) (a3 : Int), As = [.inr (.inr (t, 14)), .inl a1, .inl a2, .inl a3] ∧ (t = 14 ∨ t = 32) ∧ ((-2147483648) ≤ a1 ∧ a1 ≤ 2147483647) ∧ (0 ≤ a2 ∧ a2 ≤ 300) ∧ ((-300) ≤ a3 ∧ a3 ≤ 300) ∧ (0 ≤ a1 ∧ a1 ≤ 79) ∧ (0 ≤ μ.1 (Nat.add t 8) a1 ∧ μ.1 (Nat.add t 8) a1 ≤ 1) ∧ (∀ (μ' : zM), (∀ T : Nat, T = t → zfr T μ μ') → (μ' = yabM μ t a1 a2 a3) → Q none μ')
theorem wm_X4_addBound {g : zΓ} (hg : zg g) (d : Nat) (hd : 2 ≤ d) : zOk g d 58 wk_X4_addBound := zOk_mono (ym_X4_addBound hg d hd) (fun As μ Q h => by
  obtain ⟨t, a1, a2, a3, rfl, ht, hp, hp1, hp2, hp3, hp4, hQ⟩ := h
  exact ⟨t, a1, a2, a3, rfl, ht, hp, hp1, hp2, hp3, hp4, fun μ' z e2 => hQ μ' (fun T hT => ⟨z, by rw [e2]; unfold yabM; exact zof_a (by rw [zu_ne (by first | omega | (simp only [Nat.add_eq]; omega)), zu_ne (by first | omega | (simp only [Nat.add_eq]; omega)), zu_ne (by first | omega | (simp only [Nat.add_eq]; omega))]) (fun j hj => by unfold zob at hj; rw [zu_ne (by first | omega | (simp only [Nat.add_eq]; omega)), zu_ne (by first | omega | (simp only [Nat.add_eq]; omega)), zu_ne (by first | omega | (simp only [Nat.add_eq]; omega))]) (zox_t (zox_t (zox_u rfl) (zox_u rfl)) (zox_u rfl))⟩) e2⟩)
def wk_X4_addSuper : zC := fun As μ Q => ∃ (t : Nat) (a1 : Int) (a2 : Int), As = [.inr (.inr (t, 14)), .inl a1, .inl a2] ∧ (t = 14 ∨ t = 32) ∧ ((-2147483648) ≤ a1 ∧ a1 ≤ 2147483647) ∧ (0 ≤ a2 ∧ a2 ≤ 300) ∧ (0 ≤ a1 ∧ a1 ≤ 20) ∧ (0 ≤ μ.1 (Nat.add t 4) a1 ∧ μ.1 (Nat.add t 4) a1 ≤ 3) ∧ (∀ (μ' : zM), (∀ T : Nat, T = t → zfr T μ μ') → (μ' = yasM μ t a1 a2) → Q none μ')
theorem wm_X4_addSuper {g : zΓ} (hg : zg g) (d : Nat) (hd : 2 ≤ d) : zOk g d 59 wk_X4_addSuper := zOk_mono (ym_X4_addSuper hg d hd) (fun As μ Q h => by
  obtain ⟨t, a1, a2, rfl, ht, hp, hp1, hp2, hp3, hQ⟩ := h
  exact ⟨t, a1, a2, rfl, ht, hp, hp1, hp2, hp3, fun μ' z e2 => hQ μ' (fun T hT => ⟨z, by rw [e2]; unfold yasM; exact zof_a (by rw [zu_ne (by first | omega | (simp only [Nat.add_eq]; omega)), zu_ne (by first | omega | (simp only [Nat.add_eq]; omega))]) (fun j hj => by unfold zob at hj; rw [zu_ne (by first | omega | (simp only [Nat.add_eq]; omega)), zu_ne (by first | omega | (simp only [Nat.add_eq]; omega))]) (zox_t (zox_u rfl) (zox_u rfl))⟩) e2⟩)
def wk_X1_inherit : zC := fun As μ Q => ∃ (t : Nat) (a1 : Int) (a2 : Int) (a3 : Int) (a4 : Nat) (c : Nat) (l : List Int) (σ : Int) (as : List (List Int)) (ol : List Int), As = [.inr (.inr (t, 26)), .inl a1, .inl a2, .inl a3, .inr (.inr (a4, 25))] ∧ (t = 26 ∨ t = 44) ∧ (0 ≤ a1 ∧ a1 ≤ 440) ∧ (0 ≤ a2 ∧ a2 ≤ 440) ∧ (0 ≤ a3 ∧ a3 ≤ 80) ∧ (a4 = 25 ∨ a4 = 43) ∧ (yCo μ t c) ∧ (μ.1 (Nat.add t 1) a2 = σ ∧ μ.1 (Nat.add t 2) a2 = (l.length : Int)) ∧ (yTo μ c σ (μ.1 t ((6 : Nat) : Int)) l) ∧ (yAs μ t a4 as) ∧ (l.length ≤ 200 ∧ μ.1 t ((6 : Nat) : Int) + 200 ≤ 88400 ∧ μ.1 t ((6 : Nat) : Int) ≤ μ.2 c) ∧ (yVl a3 as l) ∧ (μ.1 (Nat.add t 2) a1 = (ol.length : Int) ∧ ol.length ≤ 200 ∧ (ol ≠ [] → yTo μ c (μ.1 (Nat.add t 1) a1) (μ.1 t ((6 : Nat) : Int)) ol)) ∧ (zcq μ) ∧ (∀ (v : Int) (μ' : zM), (∀ T : Nat, (T + 12 = t ∨ T = t + 88) → zfR T μ μ') → 0 ≤ v → v ≤ 1 → ((v = 0 ∧ (200 < (ysub a3 as l).length ∨ (ol ≠ [] ∧ ol ≠ ysub a3 as l)) ∧ yKp μ μ' t) ∨ (v = 1 ∧ (ysub a3 as l).length ≤ 200 ∧ ((ol ≠ [] ∧ ol = ysub a3 as l ∧ yKp μ μ' t) ∨ (ol = [] ∧ yPu μ μ' t a1 (ysub a3 as l))))) → Q (some (.inl v)) μ')
theorem wm_X1_inherit {g : zΓ} (hg : zg g) (d : Nat) (hd : 4 ≤ d) : zOk g d 23 wk_X1_inherit := zOk_mono (ym_X1_inherit hg d hd) (fun As μ Q h => by
  obtain ⟨t, a1, a2, a3, a4, c, l, σ, as, ol, rfl, ht, hp, hp1, hp2, hp3, hp4, hp5, hp6, hp7, hp8, hp9, hpa, hpb, hQ⟩ := h
  exact ⟨t, a1, a2, a3, a4, c, l, σ, as, ol, rfl, ht, hp, hp1, hp2, hp3, hp4, hp5, hp6, hp7, hp8, hp9, hpa, hpb, fun v μ' z k1 k2 e => hQ v μ' (fun T hT => ⟨z, by rcases e with e | e; (obtain ⟨c', e⟩ := e.2.2; exact zof_y e.1.1 ht hT); (rcases e.2.2 with e | e; (obtain ⟨c', e⟩ := e.2.2; exact zof_y e.1.1 ht hT); (obtain ⟨c', e⟩ := e.2; exact zof_y e.1.1 ht hT))⟩) k1 k2 e⟩)
def wk_X1_addOwn : zC := fun As μ Q => ∃ (t : Nat) (a1 : Int) (a2 : Int) (a3 : Int) (c : Nat), As = [.inr (.inr (t, 26)), .inl a1, .inl a2, .inl a3] ∧ (t = 26 ∨ t = 44) ∧ (0 ≤ a1 ∧ a1 ≤ 20) ∧ (0 ≤ a2 ∧ a2 ≤ 80) ∧ (0 ≤ a3 ∧ a3 ≤ 4) ∧ (yCo μ t c) ∧ (μ.1 t ((6 : Nat) : Int) ≤ μ.2 c ∧ 0 ≤ μ.1 t ((6 : Nat) : Int) ∧ μ.1 t ((6 : Nat) : Int) + 200 ≤ 88400) ∧ (zcq μ) ∧ (∀ (μ' : zM), (∀ T : Nat, (T + 12 = t ∨ T = t + 88) → zfR T μ μ') → (yPu μ μ' t (a1 * 21 + a1) (yow a1 a2 a3)) → Q none μ')
theorem wm_X1_addOwn {g : zΓ} (hg : zg g) (d : Nat) (hd : 4 ≤ d) : zOk g d 21 wk_X1_addOwn := zOk_mono (ym_X1_addOwn hg d hd) (fun As μ Q h => by
  obtain ⟨t, a1, a2, a3, c, rfl, ht, hp, hp1, hp2, hp3, hp4, hp5, hQ⟩ := h
  exact ⟨t, a1, a2, a3, c, rfl, ht, hp, hp1, hp2, hp3, hp4, hp5, fun μ' z e => hQ μ' (fun T hT => ⟨z, by obtain ⟨c', e⟩ := e; exact zof_y e.1.1 ht hT⟩) e⟩)
def wk_X1_addAny : zC := fun As μ Q => ∃ (t : Nat) (a1 : Int) (c : Nat), As = [.inr (.inr (t, 26)), .inl a1] ∧ (t = 26 ∨ t = 44) ∧ (0 ≤ a1 ∧ a1 ≤ 20) ∧ (yCo μ t c) ∧ (μ.1 t ((6 : Nat) : Int) ≤ μ.2 c ∧ 0 ≤ μ.1 t ((6 : Nat) : Int) ∧ μ.1 t ((6 : Nat) : Int) + 200 ≤ 88400) ∧ (zcq μ) ∧ (∀ (μ' : zM), (∀ T : Nat, (T + 12 = t ∨ T = t + 88) → zfR T μ μ') → ((μ.1 (Nat.add t 2) (a1 * 21 + 0) ≠ 0 ∧ μ' = μ) ∨ (μ.1 (Nat.add t 2) (a1 * 21 + 0) = 0 ∧ yPu μ μ' t (a1 * 21 + 0) [0])) → Q none μ')
theorem wm_X1_addAny {g : zΓ} (hg : zg g) (d : Nat) (hd : 4 ≤ d) : zOk g d 22 wk_X1_addAny := zOk_mono (ym_X1_addAny hg d hd) (fun As μ Q h => by
  obtain ⟨t, a1, c, rfl, ht, hp, hp1, hp2, hp3, hQ⟩ := h
  exact ⟨t, a1, c, rfl, ht, hp, hp1, hp2, hp3, fun μ' z e => hQ μ' (fun T hT => ⟨z, by rcases e with e | e; (rw [e.2]; exact zof_r T μ); (obtain ⟨c', e⟩ := e.2; exact zof_y e.1.1 ht hT)⟩) e⟩)
def wk_X1_startArgs : zC := fun As μ Q => ∃ (t : Nat), As = [.inr (.inr (t, 26))] ∧ (t = 26 ∨ t = 44) ∧ (∀ (μ' : zM), (∀ T : Nat, (T + 12 = t ∨ T = t + 88) → zfr T μ μ') → (μ' = zu μ t ((4 : Nat) : Int) 0) → Q none μ')
theorem wm_X1_startArgs {g : zΓ} (hg : zg g) (d : Nat) (hd : 1 ≤ d) : zOk g d 19 wk_X1_startArgs := zOk_mono (ym_X1_startArgs hg d hd) (fun As μ Q h => by
  obtain ⟨t, rfl, ht, hQ⟩ := h
  exact ⟨t, rfl, ht, fun μ' z e => hQ μ' (fun T hT => ⟨z, by rw [e]; exact zof_a (by rw [zu_ne (by first | omega | (simp only [Nat.add_eq]; omega))]) (fun j hj => by unfold zob at hj; rw [zu_ne (by first | omega | (simp only [Nat.add_eq]; omega))]) (zox_u rfl)⟩) e⟩)
def wk_X1_addArg : zC := fun As μ Q => ∃ (t : Nat) (a1 : Int) (a2 : Int), As = [.inr (.inr (t, 26)), .inl a1, .inl a2] ∧ (t = 26 ∨ t = 44) ∧ (0 ≤ a1 ∧ a1 ≤ 300) ∧ (0 ≤ a2 ∧ a2 ≤ 300) ∧ (0 ≤ μ.1 t ((4 : Nat) : Int) ∧ μ.1 t ((4 : Nat) : Int) ≤ 3) ∧ (∀ (μ' : zM), (∀ T : Nat, (T + 12 = t ∨ T = t + 88) → zfr T μ μ') → (μ' = yarM μ t a1 a2) → Q none μ')
theorem wm_X1_addArg {g : zΓ} (hg : zg g) (d : Nat) (hd : 2 ≤ d) : zOk g d 20 wk_X1_addArg := zOk_mono (ym_X1_addArg hg d hd) (fun As μ Q h => by
  obtain ⟨t, a1, a2, rfl, ht, hp, hp1, hp2, hQ⟩ := h
  exact ⟨t, a1, a2, rfl, ht, hp, hp1, hp2, fun μ' z e => hQ μ' (fun T hT => ⟨z, by rw [e]; unfold yarM; exact zof_a (by rw [zu_ne (by first | omega | (simp only [Nat.add_eq]; omega)), zu_ne (by first | omega | (simp only [Nat.add_eq]; omega)), zu_ne (by first | omega | (simp only [Nat.add_eq]; omega))]) (fun j hj => by unfold zob at hj; rw [zu_ne (by first | omega | (simp only [Nat.add_eq]; omega)), zu_ne (by first | omega | (simp only [Nat.add_eq]; omega)), zu_ne (by first | omega | (simp only [Nat.add_eq]; omega))]) (zox_t (zox_t (zox_u rfl) (zox_u rfl)) (zox_u rfl))⟩) e⟩)
def wk_X5_step : zC := fun As μ Q => As = [.inr (.inr (1, 1))] ∧ (∀ (μ' : zM), (∀ T : Nat, zfr T μ μ') → (¬ μ.1 1 ((6 : Nat) : Int) = 0 ∧ μ.1 1 ((5 : Nat) : Int) + 1 ≤ 800 → μ' = zu (zu (zu (zu μ 1 ((5 : Nat) : Int) (μ.1 1 ((5 : Nat) : Int) + 1)) 1 ((6 : Nat) : Int) (μ.1 3 (μ.1 1 ((5 : Nat) : Int) + 1))) 1 ((7 : Nat) : Int) (μ.1 4 (μ.1 1 ((5 : Nat) : Int) + 1))) 5000001 ((8 : Nat) : Int) (μ.1 3000005 (μ.1 1 ((5 : Nat) : Int) + 1))) → Q none μ')
set_option maxHeartbeats 4000000 in
theorem wm_X5_step {g : zΓ} (hg : zg g) (d : Nat) (hd : 1 ≤ d) : zOk g d 79 wk_X5_step := by
  obtain ⟨d, rfl⟩ : ∃ d', d = d' + 1 := ⟨d - 1, by omega⟩
  refine zOk_straight hg (show mt_tab[79]? = some mt_X5_step from rfl) [] 40 rfl fun As μ Q hC => ?_
  obtain ⟨rfl, hQ⟩ := hC
  refine ⟨rfl, ?_⟩
  have z0 : zl0 μ μ := zl0_r μ
  intro x1 hx1 kx1 lx1
  intro x2 hx2 kx2 lx2
  refine And.intro ⟨by omega, by omega⟩ (And.intro (fun c3 => ?_) (fun c3 => ?_))
  · exact And.intro rfl (hQ _ (fun T => zfr_r T μ) (fun q => by subst_vars; simp [zu, *] <;> omega))
  · refine And.intro ⟨by omega, by omega⟩ (And.intro (fun c4 => ?_) (fun c4 => ?_))
    · exfalso; omega
    · refine And.intro ⟨⟨by omega, by omega⟩, ⟨by omega, by omega⟩⟩ (And.intro (fun c5 => ?_) (fun c5 => ?_))
      · exact And.intro rfl (hQ _ (fun T => zfr_r T μ) (fun q => by subst_vars; simp [zu, *] <;> omega))
      · refine And.intro ⟨by omega, by omega⟩ ?_
        intro m6 em6
        have z7 := zl0_t z0 (zl0_u em6 (Or.inl (by decide)) (Or.inl ⟨by decide, by decide⟩))
        refine And.intro ⟨by omega, by omega⟩ ?_
        intro x8 hx8 kx8 lx8
        refine And.intro ⟨by omega, by omega⟩ ?_
        intro m9 em9
        have z10 := zl0_t z7 (zl0_u em9 (Or.inl (by decide)) (Or.inl ⟨by decide, by decide⟩))
        refine And.intro ⟨by omega, by omega⟩ ?_
        intro x11 hx11 kx11 lx11
        refine And.intro ⟨by omega, by omega⟩ ?_
        intro m12 em12
        have z13 := zl0_t z10 (zl0_u em12 (Or.inl (by decide)) (Or.inl ⟨by decide, by decide⟩))
        refine And.intro ⟨by omega, by omega⟩ ?_
        intro x14 hx14
        intro m15 em15
        have z16 := zl0_t z13 (zl0_u em15 (by simp only [Nat.add_eq] at *; omega) (Or.inl ⟨(by simp only [Nat.add_eq] at *; omega), (by simp only [Nat.add_eq] at *; omega)⟩) (Or.inl (by simp only [Nat.add_eq] at *; omega)))
        exact And.intro rfl (hQ _ (fun T => ⟨z16, zof_t (zof_t (zof_t (zof_u em6 (by unfold zob; omega) (Or.inl (by decide))) (zof_u em9 (by unfold zob; omega) (Or.inl (by decide)))) (zof_u em12 (by unfold zob; omega) (Or.inl (by decide)))) (zof_u em15 (by unfold zob; simp only [Nat.add_eq]; omega) (Or.inl (by simp only [Nat.add_eq]; omega)))⟩) (fun q => by subst_vars; simp [zu, *] <;> omega))
