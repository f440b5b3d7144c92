/-! ### the condition is enough -/
theorem zne {t : Nat} (h : t < 1048576) : Nat.beq t mx_E = false := by
  cases hb : Nat.beq t mx_E
  · rfl
  · have := Nat.eq_of_beq_eq_true hb
    unfold mx_E at this
    omega
theorem znb_b {z : Int} (h : 0 ≤ z ∧ z ≤ 1) : vp_nar .boolean (Int32.ofInt z) = Int32.ofInt z := by
  rcases (show z = 0 ∨ z = 1 by omega) with e | e <;> subst e <;> decide +kernel
theorem znb_y {z : Int} (h : -128 ≤ z ∧ z ≤ 127) : vp_nar .byte (Int32.ofInt z) = Int32.ofInt z := by
  show (Int32.ofInt z).toInt8.toInt32 = Int32.ofInt z
  rw [show (Int32.ofInt z).toInt8 = Int8.ofInt z by simp]
  exact z_b8 h.1 h.2
set_option maxHeartbeats 8000000 in
theorem zev_ok {g : zΓ} {d : Nat} {M : mM} {sc : Option Nat} {cuts : List (Nat × List Nat)} {J : Nat → List zV → zM → Prop} {P : Option zV → zM → Prop} {T : Nat → zM → Prop} {V : Nat → zC → Prop} (hg : zgo g) (hM : M ∈ g.2.1) (hV : ∀ a C, V a C → zOk g d a C) {k : zK} {pc : Nat} {i : Instr} {rest : List (Nat × Instr)} (hsuf : (pc, i) :: rest <:+ M.2.2.2.2.1)
    (hk : ∀ c l s m w2, k c l s m → c <:+ M.2.2.2.2.1 → zRep m w2 → zrfs l s → ∃ q r, c = q :: r ∧ zE g d M sc cuts J P T (q.1, zlv l, s.map zt, w2)) {lv : List (Nat × zV)} {st : List zV} {μ : zM} {w : mW} (hw : zRep μ w) (hr : zrfs lv st) (h : zev V M P T k pc i rest lv st μ) : zE g d M sc cuts J P T (pc, zlv lv, st.map zt, w) := by
  have hgd := hg.2.2.2.1 M hM
  have look : M.2.2.2.2.1.lookup pc = some i := zgd_look hgd hsuf
  have hsg := zgd_suf hgd hsuf
  have hj := zgd_j hsg
  have hrs : rest <:+ M.2.2.2.2.1 := (List.suffix_cons _ _).trans hsuf
  have nx : ∀ l s m w2, k rest l s m → zRep m w2 → zrfs l s → mx_isT i = false → zE g d M sc cuts J P T (pc + mx_len i, zlv l, s.map zt, w2) := by
    intro l s m w2 h1 h2 h3 h4
    obtain ⟨q, r, e1, e2⟩ := hk rest l s m w2 h1 hrs h2 h3
    rw [e1] at hsg
    have e3 := zgd_nx hsg h4
    rw [e3] at e2
    exact e2
  have jp : ∀ t l s m w2, k (zsuf t M.2.2.2.2.1) l s m → zRep m w2 → zrfs l s → zE g d M sc cuts J P T (t, zlv l, s.map zt, w2) := by
    intro t l s m w2 h1 h2 h3
    obtain ⟨q, r, e1, e2⟩ := hk _ l s m w2 h1 (zsuf_suf _ _) h2 h3
    have e3 := zsuf_pc e1
    rw [e3] at e2
    exact e2
  unfold zev at h
  split at h
  · rename_i off _ 
    simp only [zjok, decide_eq_true_eq] at hj
    exact zE_step (zs_br hg hM look rfl rfl (by simp only [mx_br, ztg_ok hj])) (jp _ _ _ _ _ h hw hr)
  · rename_i c off x st0
    simp only [zjok, decide_eq_true_eq] at hj
    rcases zbr_ok h.1 (show zR 0 from ⟨by omega, by omega⟩) h.2 with ⟨e, h⟩ | ⟨e, h⟩
    · refine zE_step (zs_br hg hM look rfl rfl ?_) (jp _ _ _ _ _ h hw (zrfs_tl hr))
      simp only [mx_br, ztg_ok hj, List.map_cons, zt, mx_dec]
      rw [show (0 : Int32) = Int32.ofInt 0 from rfl, e]
    · refine zE_step (zs_br (pc' := pc + 3) hg hM look rfl rfl ?_) (nx _ _ _ _ h hw (zrfs_tl hr) rfl)
      simp only [mx_br, ztg_ok hj, List.map_cons, zt, mx_dec]
      rw [show (0 : Int32) = Int32.ofInt 0 from rfl, e]
  · rename_i c off y x st0
    simp only [zjok, decide_eq_true_eq] at hj
    rcases zbr_ok h.1.1 h.1.2 h.2 with ⟨e, h⟩ | ⟨e, h⟩
    · refine zE_step (zs_br hg hM look rfl rfl ?_) (jp _ _ _ _ _ h hw (zrfs_tl (zrfs_tl hr)))
      simp only [mx_br, ztg_ok hj, List.map_cons, zt, mx_dec, e]
    · refine zE_step (zs_br (pc' := pc + 3) hg hM look rfl rfl ?_) (nx _ _ _ _ h hw (zrfs_tl (zrfs_tl hr)) rfl)
      simp only [mx_br, ztg_ok hj, List.map_cons, zt, mx_dec, e]
  · rename_i dflt lo hi offs x st0
    simp only [zjok, Bool.and_eq_true, decide_eq_true_eq] at hj
    obtain ⟨hx, h1, h2⟩ := h
    by_cases hc : x < lo ∨ hi < x
    · refine zE_step (zs_br hg hM look rfl rfl ?_) (jp _ _ _ _ _ (h1 hc) hw (zrfs_tl hr))
      simp only [mx_br, ztg_ok hj.1, List.map_cons, zt, z_rt hx, if_pos hc]
    · obtain ⟨o, g1, g2⟩ := zsw_ok h2 (by omega) (by omega)
      have ho : 0 ≤ (pc : Int) + o := by
        have := List.all_eq_true.mp hj.2.1 o (List.mem_of_getElem? g1)
        simpa using this
      refine zE_step (zs_br hg hM look rfl rfl ?_) (jp _ _ _ _ _ g2 hw (zrfs_tl hr))
      rw [Array.getElem?_toList] at g1
      simp only [mx_br, List.map_cons, zt, z_rt hx, if_neg hc, g1, ztg_ok ho]
  · rename_i ix t y st0
    rw [zlk_eq] at h
    split at h
    · rename_i tt ci kf zz hlf
      split at h
      · rename_i hb
        obtain ⟨v, fs, e1, e2, e3, h⟩ := zgf_ok hw h
        refine zE_step (zs_mem (st' := (v :: st0).map zt) (w' := w) hg hM look rfl rfl rfl ?_) (nx _ _ _ _ h hw (zrfs_cons (zrfs_tl hr) e3) rfl)
        simp only [mx_mem, List.map_cons, zt, hlf, e1, hb, Nat.beq_refl, e2, Bool.and_self, if_true]
      · cases h
    · cases h
  · rename_i ix v t y st0
    rw [zlk_eq] at h
    split at h
    · rename_i tt ci kf zz hlf
      split at h
      · rename_i hb
        simp only [Bool.and_eq_true] at hb
        have ht : t < 1048576 := hr.2 (.inr (.inr (t, y))) (by simp)
        obtain ⟨fs, μ', e1, e2, e3, e4, h⟩ := zpf_ok hw ht (hr.2 v (by simp)) h
        refine zE_step (zs_mem (st' := st0.map zt) hg hM look rfl rfl rfl ?_) (nx _ _ _ _ h e4 (zrfs_tl (zrfs_tl hr)) rfl)
        have e5 : Nat.blt kf fs.length = true := zbl e2
        show mx_mem g.1 sc M.2.2.2.2.2.2 M.2.2.2.2.2.1 (.putfield ix) (zt v :: Value.ref t :: st0.map zt) w = _
        simp only [mx_mem, hlf, e1, hb.1, hb.2, Nat.beq_refl, e3, e5, Bool.and_self, Bool.true_or, if_true]
      · cases h
    · cases h
  · rename_i x t y st0
    obtain ⟨kk, n, e1, e2, e3⟩ := zrd_ok hw h
    have e1 := Nat.eq_of_beq_eq_true e1
    subst e1
    have ht : t < 1048576 := hr.2 (.inr (.inr (t, y))) (by simp)
    rcases e3 with ⟨e3, -⟩ | ⟨-, a, e4, e5, h⟩
    · cases e3
    · refine zE_step (zs_mem (st' := (.inl (μ.1 t x) :: st0 : List zV).map zt) (w' := w) hg hM look rfl rfl rfl ?_) (nx _ _ _ _ h hw (zrfs_cons (zrfs_tl (zrfs_tl hr)) trivial) rfl)
      simp only [mx_mem, List.map_cons, zt, e4, e5, e2, zne ht, Nat.beq_refl, Bool.and_self, if_true]
      rfl
  · rename_i x t y st0
    obtain ⟨kk, n, e1, e2, e3⟩ := zrd_ok hw h
    have e1 := Nat.eq_of_beq_eq_true e1
    subst e1
    rcases e3 with ⟨-, a, e4, h⟩ | ⟨e3, -⟩
    · refine zE_step (zs_mem (st' := (.inr (.inl (mx_g a (Int32.ofInt x).toNatClampNeg)) :: st0 : List zV).map zt) (w' := w) hg hM look rfl rfl rfl ?_) (nx _ _ _ _ h hw (zrfs_cons (zrfs_tl (zrfs_tl hr)) trivial) rfl)
      simp only [mx_mem, List.map_cons, zt, e4, e2, Nat.beq_refl, Bool.and_self, if_true]
    · exact absurd rfl e3
  · rename_i x t y st0
    obtain ⟨kk, n, e1, e2, e3⟩ := zrd_ok hw h
    rcases e3 with ⟨e3, -⟩ | ⟨-, a, e4, e5, h⟩
    · subst e3; cases e1
    · refine zE_step (zs_mem (st' := (.inl (μ.1 t x) :: st0 : List zV).map zt) (w' := w) hg hM look rfl rfl rfl ?_) (nx _ _ _ _ h hw (zrfs_cons (zrfs_tl (zrfs_tl hr)) trivial) rfl)
      simp only [mx_mem, List.map_cons, zt, e4, e5, e2, e1, Bool.and_self, if_true]
  · rename_i v x t y st0
    have ht : t < 1048576 := hr.2 (.inr (.inr (t, y))) (by simp)
    replace h := zwr_ok hw ht h
    obtain ⟨kk, n, e1, e2, e3⟩ := h
    have e1 := Nat.eq_of_beq_eq_true e1
    subst e1
    rcases e3 with ⟨e3, -⟩ | ⟨-, a, z, μ', e3, e4, -, -, e5, h⟩
    · cases e3
    · subst e3
      refine zE_step (zs_mem (st' := st0.map zt) hg hM look rfl rfl rfl ?_) (nx _ _ _ _ h e5 (zrfs_tl (zrfs_tl (zrfs_tl hr))) rfl)
      simp only [mx_mem, List.map_cons, zt, e4, e2, Nat.beq_refl, Bool.and_self, if_true]
  · rename_i v x t y st0
    have ht : t < 1048576 := hr.2 (.inr (.inr (t, y))) (by simp)
    replace h := zwr_ok hw ht h
    obtain ⟨kk, n, e1, e2, e3⟩ := h
    have e1 := Nat.eq_of_beq_eq_true e1
    subst e1
    rcases e3 with ⟨-, a, z, μ', e3, e4, e5, h⟩ | ⟨e3, -⟩
    · subst e3
      refine zE_step (zs_mem (st' := st0.map zt) hg hM look rfl rfl rfl ?_) (nx _ _ _ _ h e5 (zrfs_tl (zrfs_tl (zrfs_tl hr))) rfl)
      simp only [mx_mem, List.map_cons, zt, e4, e2, Nat.beq_refl, Bool.and_self, if_true]
    · exact absurd rfl e3
  · rename_i v x t y st0
    have ht : t < 1048576 := hr.2 (.inr (.inr (t, y))) (by simp)
    replace h := zwr_ok hw ht h
    obtain ⟨kk, n, e1, e2, e3⟩ := h
    rcases e3 with ⟨e3, -⟩ | ⟨-, a, z, μ', e3, e4, e6, e7, e5, h⟩
    · subst e3; cases e1
    · subst e3
      refine zE_step (zs_mem (st' := st0.map zt) hg hM look rfl rfl rfl ?_) (nx _ _ _ _ h e5 (zrfs_tl (zrfs_tl (zrfs_tl hr))) rfl)
      simp only [Bool.or_eq_true] at e1
      rcases e1 with e1 | e1 <;> have e1 := Nat.eq_of_beq_eq_true e1 <;> subst e1
      · simp only [mx_mem, List.map_cons, zt, e4, e2, Nat.beq_refl, Bool.and_self, if_true, znb_b (e6 rfl)]
      · simp only [mx_mem, List.map_cons, zt, e4, e2, Nat.beq_refl, Bool.and_self, if_true, znb_y (e7 rfl)]
        rfl
  · rename_i t y st0
    have ht : t < 1048576 := hr.2 (.inr (.inr (t, y))) (by simp)
    obtain ⟨kk, n, a, e1, e2, h⟩ := zal_ok hw h
    refine zE_step (zs_mem (st' := (.inl (n : Nat) :: st0 : List zV).map zt) (w' := w) hg hM look rfl rfl rfl ?_) (nx _ _ _ _ h hw (zrfs_cons (zrfs_tl hr) trivial) rfl)
    have e3 : Nat.blt kk 4 = true := zbl e2
    simp only [mx_mem, List.map_cons, zt, e1, e3, zne ht, if_true]
    rfl
  · rename_i ix _
    rw [zlk_eq] at h
    split at h
    · rename_i tt x1 x2 n hlf
      split at h
      · rename_i hb
        refine zE_step (zs_mem (st' := (.inl n :: st : List zV).map zt) (w' := w) hg hM look rfl rfl rfl ?_) (nx _ _ _ _ h hw (zrfs_cons hr trivial) rfl)
        simp only [mx_mem, List.map_cons, zt, hlf, hb, if_true]
      · cases h
    · cases h
  · rename_i ix _
    rw [zlk_eq] at h
    split at h
    · rename_i tt x1 x2 n hlf
      split at h
      · rename_i hb
        refine zE_step (zs_mem (st' := (.inr (.inl (Int64.ofInt n)) :: st : List zV).map zt) (w' := w) hg hM look rfl rfl rfl ?_) (nx _ _ _ _ h hw (zrfs_cons hr trivial) rfl)
        simp only [mx_mem, List.map_cons, zt, hlf, hb, if_true]
      · cases h
    · cases h
  · rename_i y x st0
    obtain ⟨⟨h1, h2⟩, h⟩ := h
    have hy : Int32.ofInt y ≠ 0 := fun q => h2 ((z_eq h1 (show zR 0 from ⟨by omega, by omega⟩)).1 q)
    have q := zR_i (Int32.ofInt x / Int32.ofInt y)
    refine zE_step (zs_pure (st' := (.inl (Int32.ofInt x / Int32.ofInt y).toInt :: st0 : List zV).map zt) hg hM look ?_) (nx _ _ _ _ (h _ rfl q.1 q.2) hw (zrfs_cons (zrfs_tl (zrfs_tl hr)) trivial) rfl)
    simp only [mx_pure, List.map_cons, zt, if_neg hy, Int32.ofInt_toInt]
  · rename_i y x st0
    obtain ⟨⟨h1, h2⟩, h⟩ := h
    have hy : Int32.ofInt y ≠ 0 := fun q => h2 ((z_eq h1 (show zR 0 from ⟨by omega, by omega⟩)).1 q)
    have q := zR_i (Int32.ofInt x - Int32.ofInt x / Int32.ofInt y * Int32.ofInt y)
    refine zE_step (zs_pure (st' := (.inl (Int32.ofInt x - Int32.ofInt x / Int32.ofInt y * Int32.ofInt y).toInt :: st0 : List zV).map zt) hg hM look ?_) (nx _ _ _ _ (h _ rfl q.1 q.2) hw (zrfs_cons (zrfs_tl (zrfs_tl hr)) trivial) rfl)
    simp only [mx_pure, List.map_cons, zt, if_neg hy, Int32.ofInt_toInt]
  · rename_i ix _
    obtain ⟨st', μ', w', call, e1, e2, e3, e4, h⟩ := zcall_ok hg hV (Or.inl ⟨rfl, rfl⟩) hw hr.2 h
    exact zE_step (zs_ivk hg hM e1 look rfl rfl rfl rfl e2) (nx _ _ _ _ h e3 ⟨hr.1, e4⟩ rfl)
  · rename_i ix _
    obtain ⟨st', μ', w', call, e1, e2, e3, e4, h⟩ := zcall_ok hg hV (Or.inr ⟨rfl, rfl⟩) hw hr.2 h
    exact zE_step (zs_ivk hg hM e1 look rfl rfl rfl rfl e2) (nx _ _ _ _ h e3 ⟨hr.1, e4⟩ rfl)
  · rename_i x
    refine ⟨_, μ, zG_refl, hw, Or.inr (Or.inl ⟨some (.inl x), ?_, fun q hq => by cases hq; trivial, h.2.2⟩)⟩
    obtain ⟨h1, -, -⟩ := h
    simp only [mx_ret, look, List.map_cons, List.map_nil, zt]
    unfold zrt at h1
    split at h1
    · rename_i e
      rw [e]
      exact if_pos rfl
    · rename_i e
      rw [e]
      rcases h1 with e | e <;> subst e <;> rfl
    · cases h1
  · rename_i x
    refine ⟨_, μ, zG_refl, hw, Or.inr (Or.inl ⟨some (.inr (.inl x)), ?_, fun q hq => by cases hq; trivial, h.2⟩)⟩
    simp only [mx_ret, look, List.map_cons, List.map_nil, zt, h.1, if_true]
    rfl
  · refine ⟨_, μ, zG_refl, hw, Or.inr (Or.inl ⟨none, ?_, (fun q hq => by cases hq), h.2⟩)⟩
    simp only [mx_ret, look, List.map_nil, h.1, if_true]
    rfl
  · rename_i ix
    exact ⟨_, μ, zG_refl, hw, Or.inr (Or.inr ⟨ix, look, rfl, h⟩)⟩
  · cases h
theorem zget_ok : ∀ {ks : List Nat} {lv : List (Nat × zV)} {vs : List zV}, zget ks lv = some vs → vs.length = ks.length ∧ (∀ q ∈ zzip ks vs, q ∈ lv) ∧ ∀ v ∈ vs, ∃ k, (k, v) ∈ lv
  | [], lv, vs, h => by cases h; exact ⟨rfl, (fun q hq => by cases hq), (fun q hq => by cases hq)⟩
  | k :: ks, lv, vs, h => by
    unfold zget at h
    split at h
    · rename_i v vs' h1 h2
      cases h
      obtain ⟨g1, g2, g3⟩ := zget_ok h2
      refine ⟨by simp [g1], fun q hq => ?_, fun u hu => ?_⟩
      · rcases List.mem_cons.mp hq with e | e
        · rw [e]; exact zlkm h1
        · exact g2 q e
      · rcases List.mem_cons.mp hu with e | e
        · rw [e]; exact ⟨k, zlkm h1⟩
        · exact g3 u e
    · cases h
theorem zwrap_ok {wl : List Nat} {pc : Nat} {lv : List (Nat × zV)} {st : List zV} {k : List zV → Prop} (hr : zrfs lv st) (h : zwrap wl pc st k) : ∃ st' : List zV, st'.map zt = st.map zt ∧ zrfs lv st' ∧ k st' := by
  unfold zwrap at h
  split at h
  · split at h
    · rename_i x t
      have q := zR_i (Int32.ofInt x)
      refine ⟨.inl (Int32.ofInt x).toInt :: t, ?_, zrfs_cons (zrfs_tl hr) (show zrf (.inl _) from True.intro), h _ rfl q.1 q.2⟩
      simp only [List.map_cons, zt, Int32.ofInt_toInt]
    · exact ⟨st, rfl, hr, h⟩
  · exact ⟨st, rfl, hr, h⟩
theorem zwrl_ok {wl : List Nat} {pc : Nat} {lv : List (Nat × zV)} {st : List zV} {k : List (Nat × zV) → Prop} (hr : zrfs lv st) (h : zwrl wl pc lv k) : ∃ lv' : List (Nat × zV), zlv lv' = zlv lv ∧ zrfs lv' st ∧ k lv' := by
  unfold zwrl at h
  split at h
  · split at h
    · rename_i q x t
      have e := zR_i (Int32.ofInt x)
      refine ⟨(q, .inl (Int32.ofInt x).toInt) :: t, ?_, ⟨fun u hu => ?_, hr.2⟩, h _ rfl e.1 e.2⟩
      · simp only [zlv, List.map_cons, zt, Int32.ofInt_toInt]
      · rcases List.mem_cons.mp hu with e | e
        · rw [e]; exact True.intro
        · exact hr.1 u (List.mem_cons_of_mem _ e)
    · exact ⟨lv, rfl, hr, h⟩
  · exact ⟨lv, rfl, hr, h⟩
theorem zw_ok {g : zΓ} {d : Nat} {M : mM} {sc : Option Nat} {K : List (Nat × List Nat) × List Nat} {J : Nat → List zV → zM → Prop} {P : Option zV → zM → Prop} {T : Nat → zM → Prop} {V : Nat → zC → Prop} (hg : zgo g) (hM : M ∈ g.2.1) (hV : ∀ a C, V a C → zOk g d a C) : ∀ (n : Nat) {first : Bool} {code : List (Nat × Instr)} {lv : List (Nat × zV)} {st : List zV} {μ : zM} {w : mW}, zw V M K J P T n first code lv st μ → code <:+ M.2.2.2.2.1 → zRep μ w → zrfs lv st → ∃ q r, code = q :: r ∧ zE g d M sc K.1 J P T (q.1, zlv lv, st.map zt, w)
  | 0, _, _, _, _, _, _, h, _, _, _ => by cases h
  | n + 1, first, code, lv, st, μ, w, h, hsuf, hw, hr => by
    unfold zw at h
    split at h
    · cases h
    · rename_i pc i rest
      refine ⟨_, _, rfl, ?_⟩
      dsimp only
      have hgd := hg.2.2.2.1 M hM
      have look : M.2.2.2.2.1.lookup pc = some i := zgd_look hgd hsuf
      have hsg := zgd_suf hgd hsuf
      have hrs : rest <:+ M.2.2.2.2.1 := (List.suffix_cons _ _).trans hsuf
      have nx : ∀ l s m w2, zw V M K J P T n false rest l s m → zRep m w2 → zrfs l s → mx_isT i = false → zE g d M sc K.1 J P T (pc + mx_len i, zlv l, s.map zt, w2) := by
        intro l s m w2 h1 h2 h3 h4
        obtain ⟨q, r, e1, e2⟩ := zw_ok hg hM hV n h1 hrs h2 h3
        rw [e1] at hsg
        have e3 := zgd_nx hsg h4
        rw [e3] at e2
        exact e2
      split at h
      · rename_i ks hks
        split at h
        · rename_i vs hvs
          obtain ⟨g1, g2, g3⟩ := zget_ok hvs
          refine ⟨(pc, zlv (zzip ks vs), [], w), μ, zG_weak zG_refl (fun q hq => ?_), hw, Or.inl ⟨ks, vs, ?_, g1, fun v hv => ?_, rfl, rfl, h⟩⟩
          · obtain ⟨x, hx, rfl⟩ := List.mem_map.mp hq
            exact List.mem_map.mpr ⟨x, g2 x hx, rfl⟩
          · split at hks
            · cases hks
            · exact hks
          · obtain ⟨k, hk⟩ := g3 v hv
            exact hr.1 _ hk
        · cases h
      · split at h
        · rename_i st' hp
          have hp2 := zp_ok hp
          have hT : mx_isT i = false := by
            cases i <;> first | rfl | (simp [mx_pure] at hp2; done) | (cases hp2; done)
          obtain ⟨st2, q1, q2, q3⟩ := zwrap_ok (zp_rf hr hp) h
          exact zE_step (zs_pure hg hM look hp2) (by rw [← q1]; exact nx _ _ _ _ q3 hw q2 hT)
        · split at h
          · rename_i lv' st' hp
            obtain ⟨e1, e2, e3⟩ := zlc_ok hr hp
            have hT : mx_isT i = false := by
              cases i <;> first | rfl | (simp [mx_loc] at e2; done) | (cases e2; done)
            obtain ⟨lv2, q1, q2, q3⟩ := zwrl_ok e3 h
            exact zE_step (zs_loc hg hM look e1 e2) (by rw [← q1]; exact nx _ _ _ _ q3 hw q2 hT)
          · split at h
            · rename_i q st' hp
              have hp2 := zo_ok hp
              have hT : mx_isT i = false := by
                cases i <;> first | rfl | (simp [mx_pure] at hp2; done) | (cases hp2; done)
              have hq := zR_i q
              exact zE_step (zs_pure (st' := (.inl q.toInt :: st' : List zV).map zt) hg hM look hp2) (nx _ _ _ _ (h _ rfl hq.1 hq.2) hw (zrfs_cons (zo_rf hr hp) trivial) hT)
            · exact zev_ok hg hM hV hsuf (fun c l s m w2 h1 h2 h3 h4 => zw_ok hg hM hV n h1 h2 h3 h4) hw hr h
