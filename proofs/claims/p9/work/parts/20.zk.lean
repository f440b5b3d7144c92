/-! ### the methods' table; contracts -/
set_option maxRecDepth 100000 in
theorem zt_gd : mt_tab.all (fun M => zgd M.2.2.2.2.1) = true := by decide +kernel
def zmiok (a : Nat) (q : Nat × Nat × Nat) : Bool := match mt_tab[a]? with
  | some M => Nat.beq M.2.2.1.2.2.2.2 q.1 && ((!(Nat.beq q.1 0) || Nat.beq M.2.2.1.2.2.2.1 q.2.1) && Nat.beq M.2.2.1.2.2.1 q.2.2)
  | none => false
set_option maxRecDepth 100000 in
theorem zt_mi : (List.range zmi.length).all (fun a => match znth zmi a with | some q => zmiok a q | none => false) = true := by decide +kernel
/-- where the class and the reference run -/
def zg (g : zΓ) : Prop := g.2.1 = mt_tab ∧ mx_r g.2.2.2.2.2.1 g.2.2.2.2.2.2 ∧ mx_kb g.1 g.2.2.2.2.2.1 ∧ mx_al g.1 = true
theorem zg_go {g : zΓ} (h : zg g) : zgo g := by
  obtain ⟨kb, tab, l, D, cy, r, B⟩ := g
  obtain ⟨h1, h2, h3, -⟩ := h
  dsimp only at h1 h2 h3
  subst h1
  refine ⟨mt_ok, h2, h3, fun M hM => List.all_eq_true.mp zt_gd M hM, fun a md ci n hm => ?_⟩
  have h4 := List.all_eq_true.mp zt_mi a (List.mem_range.mpr (zn_lt hm))
  rw [hm] at h4
  dsimp only at h4
  unfold zmiok at h4
  split at h4
  · rename_i M hM
    simp only [Bool.and_eq_true, Bool.or_eq_true, Bool.not_eq_true'] at h4
    refine ⟨M, hM, Nat.eq_of_beq_eq_true h4.1, fun q => ?_, Nat.eq_of_beq_eq_true h4.2.2⟩
    rcases h4.2.1 with e | e
    · rw [q] at e; cases e
    · exact Nat.eq_of_beq_eq_true e
  · cases h4
theorem zg_at {g : zΓ} (h : zg g) {a : Nat} {M : mM} (hM : mt_tab[a]? = some M) : g.2.1[a]? = some M := by rw [h.1]; exact hM
def zAll (cuts : List (Nat × List Nat)) (F : Nat → List Nat → Prop) : Prop := match cuts with
  | [] => True
  | q :: t => F q.1 q.2 ∧ zAll t F
theorem zAll_at {F : Nat → List Nat → Prop} : ∀ {cuts : List (Nat × List Nat)}, zAll cuts F → ∀ {pc : Nat} {ks : List Nat}, zlk pc cuts = some ks → F pc ks
  | [], _, _, _, h => by cases h
  | q :: t, hA, pc, ks, h => by
    unfold zlk at h
    split at h
    · rename_i hb
      cases h
      rw [Nat.eq_of_beq_eq_true hb]
      exact hA.1
    · exact zAll_at hA.2 h
/-- a method, its loops: what is known at each of their heads, and what grows less -/
theorem zOk_loop {g : zΓ} {d a : Nat} {M : mM} {C : zC} (hg : zg g) (ha : mt_tab[a]? = some M) (K : List (Nat × List Nat) × List Nat) (fuel : Nat) (h0 : (match M.2.2.2.2.1 with | q :: _ => Nat.beq q.1 0 | [] => false) = true)
    (h : ∀ As μ Q, C As μ Q → Nat.ble (zsum As) M.2.2.1.1 = true ∧ ∃ Inv : Nat → List zV → zM → Nat → Prop, zw (zOk g d) M K (fun pc vs μ' => ∃ n, Inv pc vs μ' n) Q (fun _ _ => False) fuel false M.2.2.2.2.1 (zargs 0 As) [] μ ∧
      zAll K.1 (fun pc ks => ∀ vs μ' n, Inv pc vs μ' n → zw (zOk g d) M K (fun pc' vs' μ'' => ∃ n', n' < n ∧ Inv pc' vs' μ'' n') Q (fun _ _ => False) fuel true (zsuf pc M.2.2.2.2.1) (zzip ks vs) [] μ')) (hp : Nat.beq M.2.2.2.1.2.2.2 152 = false := by rfl) : zOk g (d + 1) a C :=
  zOk_of (hp := hp) (zg_go hg) (zg_at hg ha) fun As μ Q w hw hr hC => by
    obtain ⟨h1, Inv, h2, h3⟩ := h As μ Q hC
    exact ⟨h1, zentry (zg_go hg) (List.mem_of_getElem? (zg_at hg ha)) (fun _ _ q => q) (fun pc ks vs μ' n e1 _ e3 => zAll_at h3 e1 vs μ' n e3) hw (zargs_rf hr) h0 h2⟩
theorem zOk_straight {g : zΓ} {d a : Nat} {M : mM} {C : zC} (hg : zg g) (ha : mt_tab[a]? = some M) (wl : List Nat) (fuel : Nat) (h0 : (match M.2.2.2.2.1 with | q :: _ => Nat.beq q.1 0 | [] => false) = true)
    (h : ∀ As μ Q, C As μ Q → Nat.ble (zsum As) M.2.2.1.1 = true ∧ zw (zOk g d) M ([], wl) (fun _ _ _ => False) Q (fun _ _ => False) fuel false M.2.2.2.2.1 (zargs 0 As) [] μ) (hp : Nat.beq M.2.2.2.1.2.2.2 152 = false := by rfl) : zOk g (d + 1) a C := zOk_line (hp := hp) (zg_go hg) (zg_at hg ha) wl fuel h0 h
/-! ### rows of ints that are given -/
set_option maxRecDepth 100000 in
theorem zc_st1 : (List.range 109).all (fun y => zst y || !(zisI (znth zcl y))) = true := by decide +kernel
def zrow (μ : zM) (y t : Nat) (k : Int → Int → Int → Prop) : Prop := match Nat.beq y 1001 with
  | true => zIa μ t ∧ ∀ n : Int, n = μ.2 t → 0 ≤ n → n ≤ 2147483647 → k n (-2147483648) 2147483647
  | false => match Nat.beq y 1000 with
  | true => zDyn μ t ∧ ∀ n : Int, n = μ.2 t → 1024 ≤ n → n ≤ 88400 → k n (-2147483648) 2147483647
  | false => (match znth zcl (bif Nat.beq y 200 then 51 else y) with
    | some (.inr (0, n, lo, hi)) => zchk μ y t (k n lo hi)
    | _ => False)
theorem zrow_ok {μ : zM} {w : mW} {y t : Nat} {k : Int → Int → Int → Prop} (hw : zRep μ w) (h : zrow μ y t k) : zIa μ t ∧ ∃ n lo hi, μ.2 t = n ∧ (∀ x, 0 ≤ x → x < n → lo ≤ μ.1 t x ∧ μ.1 t x ≤ hi) ∧ (Nat.beq y 1001 = false → ∀ v, lo ≤ v → v ≤ hi → zrg t v) ∧ k n lo hi := by
  unfold zrow at h
  split at h
  · rename_i hy
    obtain ⟨h1, h2⟩ := h
    obtain ⟨n, a, e1, e2, e3, e4⟩ := zIa_ok hw h1
    refine ⟨h1, _, _, _, rfl, ?_, (fun q => by rw [hy] at q; cases q), h2 _ rfl (by rw [e2]; exact Int.natCast_nonneg n) (by rw [e2]; omega)⟩
    intro x hx hx2
    rw [e2] at hx2
    exact (zRw_get e4 ⟨hx, hx2⟩).2
  split at h
  · obtain ⟨h1, h2⟩ := h
    refine ⟨zDI h1, _, _, _, rfl, ?_, ?_, h2 _ rfl h1.2.1 h1.2.2⟩
    · intro x hx hx2
      obtain ⟨n, a, e1, e2, e3⟩ := hw.2.2.2 t h1
      rw [e2] at hx2
      exact (zRw_get e3 ⟨hx, hx2⟩).2
    · intro _ v hv hv2
      unfold zrg
      split
      · rename_i hc
        have := zDyn_cl h1 hc
        cases this
        exact ⟨hv, hv2⟩
      · exact ⟨hv, hv2⟩
  · split at h
    · rename_i n lo hi hy
      obtain ⟨hc, h⟩ := zch2 hy h
      have hl : t < 109 := by have := zn_lt hc; rw [zc_len] at this; exact this
      have hs : zst t = true := by
        have := List.all_eq_true.mp zc_st1 t (List.mem_range.mpr hl)
        rw [hc] at this
        simpa [zisI] using this
      obtain ⟨c', e1, e2, a, e3, e4⟩ := hw.2.2.1 t _ hc
      refine ⟨Or.inr ⟨hl, hs⟩, _, _, _, e2, ?_, ?_, h⟩
      · intro x hx hx2
        exact (zRw_get e4 ⟨hx, hx2⟩).2
      · intro _ v hv hv2
        unfold zrg
        rw [hc]
        exact ⟨hv, hv2⟩
    · cases h
/-- what the class leaves as it is: the reference's cells; what it makes is paid by what its two long rows grow -/
def zL (μ : zM) : Int := μ.2 (μ.1 26 5).toNat + μ.2 (μ.1 44 5).toNat
def zFl (n : Int) : Int := if n = 88400 then 88400 else 0
def zS (μ : zM) : Int := 3 * μ.2 (μ.1 26 5).toNat + zFl (μ.2 (μ.1 26 5).toNat) + (3 * μ.2 (μ.1 44 5).toNat + zFl (μ.2 (μ.1 44 5).toNat))
/-- the reference's longs stay -/
def zLE (μ μ' : zM) : Prop := ∀ i : Nat, 66 ≤ i → i < 109 → μ'.1 (3000000 + i) = μ.1 (3000000 + i) ∧ μ'.1 (5000000 + i) = μ.1 (5000000 + i)
theorem zLE_t {a b c : zM} (h1 : zLE a b) (h2 : zLE b c) : zLE a c := fun i e1 e2 => ⟨(h2 i e1 e2).1.trans (h1 i e1 e2).1, (h2 i e1 e2).2.trans (h1 i e1 e2).2⟩
def zle (μ μ' : zM) : Prop := (∀ i : Nat, 66 ≤ i → i < 109 → μ'.1 i = μ.1 i) ∧ μ'.1 2000000 0 - zL μ' ≤ μ.1 2000000 0 - zL μ ∧ μ'.1 2000000 1 - zS μ' ≤ μ.1 2000000 1 - zS μ ∧ ((μ'.1 1 ((4 : Nat) : Int) = μ.1 1 ((4 : Nat) : Int) ∨ μ'.1 1 ((4 : Nat) : Int) = 0) ∧ zLE μ μ')
/-- the count of cells stays far below its end -/
def zcq (μ : zM) : Prop := μ.1 2000000 0 - zL μ ≤ 500000
theorem zcq_t {a b : zM} (h : zcq a) (z : zle a b) : zcq b := Int.le_trans z.2.1 h
theorem zle_r (μ : zM) : zle μ μ := ⟨fun _ _ _ => rfl, Int.le_refl _, Int.le_refl _, Or.inl rfl, fun _ _ _ => ⟨rfl, rfl⟩⟩
theorem zle_t {a b c : zM} (h1 : zle a b) (h2 : zle b c) : zle a c := ⟨fun i e1 e2 => (h2.1 i e1 e2).trans (h1.1 i e1 e2), Int.le_trans h2.2.1 h1.2.1, Int.le_trans h2.2.2.1 h1.2.2.1, by have := h1.2.2.2.1; have := h2.2.2.2.1; omega, zLE_t h1.2.2.2.2 h2.2.2.2.2⟩
/-- as zle, but for the length of the tape -/
def zlf (μ μ' : zM) : Prop := (∀ i : Nat, 66 ≤ i → i < 109 → μ'.1 i = μ.1 i) ∧ μ'.1 2000000 0 - zL μ' ≤ μ.1 2000000 0 - zL μ ∧ μ'.1 2000000 1 - zS μ' ≤ μ.1 2000000 1 - zS μ ∧ zLE μ μ'
theorem zle_lf {a b : zM} (h : zle a b) : zlf a b := ⟨h.1, h.2.1, h.2.2.1, h.2.2.2.2⟩
theorem zlf_t {a b c : zM} (h1 : zlf a b) (h2 : zlf b c) : zlf a c := ⟨fun i e1 e2 => (h2.1 i e1 e2).trans (h1.1 i e1 e2), Int.le_trans h2.2.1 h1.2.1, Int.le_trans h2.2.2.1 h1.2.2.1, zLE_t h1.2.2.2 h2.2.2.2⟩
theorem zlf_u {μ μ' : zM} {t : Nat} {k x : Int} (he : μ' = zu μ t k x) (h1 : t < 66 ∨ (109 ≤ t ∧ t < 1000000) ∨ (3000000 ≤ t ∧ t < 3000066) ∨ (5000000 ≤ t ∧ t < 5000066)) (h2 : (t ≠ 26 ∧ t ≠ 44) ∨ k ≠ 5) : zlf μ μ' := by
  subst he
  have e1 : (zu μ t k x).1 26 5 = μ.1 26 5 := by
    rcases h2 with h | h
    · rw [zu_ne (Ne.symm h.1)]
    · by_cases q : 26 = t
      · subst q; rw [zu_nk (Ne.symm h)]
      · rw [zu_ne q]
  have e2 : (zu μ t k x).1 44 5 = μ.1 44 5 := by
    rcases h2 with h | h
    · rw [zu_ne (Ne.symm h.2)]
    · by_cases q : 44 = t
      · subst q; rw [zu_nk (Ne.symm h)]
      · rw [zu_ne q]
  have e3 : (zu μ t k x).1 2000000 = μ.1 2000000 := zu_ne (by omega)
  have e4 : zL (zu μ t k x) = zL μ := by unfold zL; rw [e1, e2]; rfl
  have e5 : zS (zu μ t k x) = zS μ := by unfold zS; rw [e1, e2]; rfl
  refine ⟨fun i a b => zu_ne (by omega), ?_, ?_, fun i a b => ⟨zu_ne (by omega), zu_ne (by omega)⟩⟩
  · rw [e3, e4]; exact Int.le_refl _
  · rw [e3, e5]; exact Int.le_refl _
theorem zle_u {μ μ' : zM} {t : Nat} {k x : Int} (he : μ' = zu μ t k x) (h1 : t < 66 ∨ (109 ≤ t ∧ t < 1000000) ∨ (3000000 ≤ t ∧ t < 3000066) ∨ (5000000 ≤ t ∧ t < 5000066)) (h2 : (t ≠ 26 ∧ t ≠ 44) ∨ k ≠ 5) (h3 : t ≠ 1 ∨ k ≠ ((4 : Nat) : Int) ∨ x = 0) : zle μ μ' := by
  have f := zlf_u he h1 h2
  refine ⟨f.1, f.2.1, f.2.2.1, ?_, f.2.2.2⟩
  subst he
  by_cases q : 1 = t
  · subst q
    by_cases q2 : k = ((4 : Nat) : Int)
    · subst q2
      right
      rw [zu_at]
      omega
    · left
      rw [zu_nk (Ne.symm q2)]
  · left
    rw [zu_ne q]
def zrowc (μ : zM) (y t : Nat) (k : Int → Int → Int → Prop) : Prop := match Nat.beq y 1000 || (Nat.blt y 66 || Nat.beq y 200) with
  | true => zrow μ y t k
  | false => False
theorem zrowc_ok {μ : zM} {y t : Nat} {k : Int → Int → Int → Prop} (h : zrowc μ y t k) : zrow μ y t k ∧ Nat.beq y 1001 = false ∧ (t < 66 ∨ (109 ≤ t ∧ t < 1000000)) ∧ t ≠ 26 ∧ t ≠ 44 ∧ t ≠ 1 := by
  unfold zrowc at h
  split at h
  · rename_i hb
    have hy1 : Nat.beq y 1001 = false := by
      cases hq : Nat.beq y 1001
      · rfl
      · rw [Nat.eq_of_beq_eq_true hq] at hb; cases hb
    refine ⟨h, hy1, ?_⟩
    unfold zrow at h
    rw [hy1] at h
    dsimp only at h
    split at h
    · have := h.1.1; omega
    · rename_i h1
      rw [h1, Bool.false_or] at hb
      split at h
      · rename_i n lo hi hy
        obtain ⟨hc, -⟩ := zch2 hy h
        have h26 : t ≠ 26 := fun q => by rw [q] at hc; have hc : some (Sum.inl 1 : zD) = some (.inr (0, n, lo, hi)) := hc; cases hc
        have h44 : t ≠ 44 := fun q => by rw [q] at hc; have hc : some (Sum.inl 1 : zD) = some (.inr (0, n, lo, hi)) := hc; cases hc
        have h1' : t ≠ 1 := fun q => by rw [q] at hc; have hc : some (Sum.inl 5 : zD) = some (.inr (0, n, lo, hi)) := hc; cases hc
        refine ⟨Or.inl ?_, h26, h44, h1'⟩
        cases hb2 : Nat.beq y 200
        · rw [hb2, Bool.or_false] at hb
          have hb := mx_blt hb
          unfold zchk at h
          split at h
          · split at h
            · rename_i hf
              simp only [Bool.and_eq_true] at hf
              have := Nat.le_of_ble_eq_true hf.2
              have := h.1
              omega
            · split at h
              · rename_i hq
                have := Nat.eq_of_beq_eq_true hq
                omega
              · cases h
          · have hb3 : y ≠ 1000 := fun q => by rw [q] at h1; cases h1
            rename_i hq
            have : Nat.ble y 108 = true := zbl (by omega)
            rw [this] at hq
            cases hq
        · have := Nat.eq_of_beq_eq_true hb2
          subst this
          have : (t = 25 ∨ t = 43 ∨ t = 51) ∧ _ := h
          omega
      · cases h
  · cases h
def zk_X8_at : zC := fun As μ Q => ∃ (t y : Nat) (i : Int), As = [.inr (.inr (t, y)), .inl i] ∧ zR i ∧ zrow μ y t (fun n lo hi => ∀ v : Int, -2147483648 ≤ v → v ≤ 2147483647 → (0 ≤ i ∧ i < n → v = μ.1 t i ∧ lo ≤ v ∧ v ≤ hi) → (i < 0 ∨ n ≤ i → v = -1) → Q (some (.inl v)) μ)
def zk_X8_set : zC := fun As μ Q => ∃ (t y : Nat) (i x : Int), As = [.inr (.inr (t, y)), .inl i, .inl x] ∧ zR i ∧ zrowc μ y t (fun _ lo hi => (lo ≤ x ∧ x ≤ hi) ∧ ∀ μ' : zM, zle μ μ' → (∀ j : Nat, j ≠ t → μ'.1 j = μ.1 j) → μ'.2 = μ.2 → Q none μ')
/-- the run of a method whose row is given by another name -/
theorem zretag {g : zΓ} {d a : Nat} {M : mM} (hg : zg g) (ha : mt_tab[a]? = some M) (wl : List Nat) {Q : Option zV → zM → Prop} {As : List zV} {μ : zM} {w : mW} (fuel : Nat) (hw : zRep μ w) (hr : ∀ v ∈ As, zrf v) (h0 : (match M.2.2.2.2.1 with | q :: _ => Nat.beq q.1 0 | [] => false) = true)
    (key : zw (zOk g d) M ([], wl) (fun _ _ _ => False) Q (fun _ _ => False) fuel false M.2.2.2.2.1 (zargs 0 As) [] μ) : zE g d M none [] (fun _ _ _ => False) Q (fun _ _ => False) (0, zlv (zargs 0 As), [], w) := by
  obtain ⟨q, r, q1, q2⟩ := zw_ok (sc := none) (zg_go hg) (List.mem_of_getElem? (zg_at hg ha)) (fun _ _ q => q) fuel key (List.suffix_refl _) hw ⟨zargs_rf hr, fun v hv => by cases hv⟩
  rw [q1] at h0
  have q3 : q.1 = 0 := Nat.eq_of_beq_eq_true h0
  rw [q3] at q2
  exact q2
theorem zm_X8_at {g : zΓ} (hg : zg g) (d : Nat) (hd : 1 ≤ d) : zOk g d 111 zk_X8_at := by
  obtain ⟨d, rfl⟩ : ∃ d', d = d' + 1 := ⟨d - 1, by omega⟩
  refine zOk_of (zg_go hg) (zg_at hg (show mt_tab[111]? = some mt_X8_at from rfl)) fun As μ Q w hw hr hC => ?_
  obtain ⟨t, y, i, rfl, hi, hrow⟩ := hC
  obtain ⟨h1, n, lo, hi', e1, e2, e3, hQ⟩ := zrow_ok hw hrow
  refine ⟨rfl, ?_⟩
  refine zretag (As := [.inr (.inr (t, 1001)), .inl i]) hg (show mt_tab[111]? = some mt_X8_at from rfl) [] 30 hw (List.forall_mem_cons.mpr ⟨hr (.inr (.inr (t, y))) List.mem_cons_self, List.forall_mem_cons.mpr ⟨True.intro, fun _ q => by cases q⟩⟩) rfl ?_
  refine And.intro hi (And.intro (fun c => ?_) (fun c => ?_))
  · refine And.intro trivial (And.intro ⟨by omega, by omega⟩ ?_)
    exact hQ _ (by omega) (by omega) (by omega) (by omega)
  · refine And.intro h1 ?_
    intro x hx hx0 hx1
    refine And.intro (And.intro hi ⟨by omega, by omega⟩) (And.intro (fun c => ?_) (fun c => ?_))
    · refine And.intro trivial (And.intro ⟨by omega, by omega⟩ ?_)
      exact hQ _ (by omega) (by omega) (by omega) (by omega)
    · refine And.intro h1 (And.intro ⟨by omega, by omega⟩ ?_)
      intro v hv hv0 hv1
      refine And.intro trivial (And.intro ⟨by omega, by omega⟩ ?_)
      have := e2 i (by omega) (by omega)
      exact hQ _ (by omega) (by omega) (by omega) (by omega)
theorem zm_X8_set {g : zΓ} (hg : zg g) (d : Nat) (hd : 1 ≤ d) : zOk g d 113 zk_X8_set := by
  obtain ⟨d, rfl⟩ : ∃ d', d = d' + 1 := ⟨d - 1, by omega⟩
  refine zOk_of (zg_go hg) (zg_at hg (show mt_tab[113]? = some mt_X8_set from rfl)) fun As μ Q w hw hr hC => ?_
  obtain ⟨t, y, i, x, rfl, hi, hrow⟩ := hC
  obtain ⟨hrow, f0, f1, f2, f3, f4⟩ := zrowc_ok hrow
  obtain ⟨h1, n, lo, hi', e1, e2, e3, hx, hQ⟩ := zrow_ok hw hrow
  refine ⟨rfl, ?_⟩
  refine zretag (As := [.inr (.inr (t, 1001)), .inl i, .inl x]) hg (show mt_tab[113]? = some mt_X8_set from rfl) [] 30 hw (List.forall_mem_cons.mpr ⟨hr (.inr (.inr (t, y))) List.mem_cons_self, List.forall_mem_cons.mpr ⟨True.intro, List.forall_mem_cons.mpr ⟨True.intro, fun _ q => by cases q⟩⟩⟩) rfl ?_
  refine And.intro hi (And.intro (fun c => ?_) (fun c => ?_))
  · exact And.intro rfl (hQ _ (zle_r _) (fun _ _ => rfl) rfl)
  · refine And.intro h1 ?_
    intro z hz hz0 hz1
    refine And.intro (And.intro hi ⟨by omega, by omega⟩) (And.intro (fun c => ?_) (fun c => ?_))
    · exact And.intro rfl (hQ _ (zle_r _) (fun _ _ => rfl) rfl)
    · refine And.intro h1 (And.intro ⟨by omega, by omega⟩ (And.intro (e3 f0 x hx.1 hx.2) ?_))
      intro μ' hμ
      refine And.intro rfl (hQ _ (zle_u hμ (by omega) (Or.inl ⟨f2, f3⟩) (Or.inl f4)) (fun j hj => ?_) ?_)
      · rw [hμ, zu_ne hj]
      · rw [hμ]; rfl
def zk_X8_nameAt : zC := fun As μ Q => ∃ (t y : Nat) (i : Int), As = [.inr (.inr (t, y)), .inl i] ∧ zR i ∧ (y = 15 ∨ y = 20) ∧ (t = y ∨ t = y + 18) ∧ ∀ v : Int64, (0 ≤ i → i < (if y = 15 then 21 else 80) → v.toInt = μ.1 (Nat.add 3000000 t) i) → Q (some (.inr (.inl v))) μ
theorem zm_X8_nameAt {g : zΓ} (hg : zg g) (d : Nat) (hd : 1 ≤ d) : zOk g d 112 zk_X8_nameAt := by
  obtain ⟨d, rfl⟩ : ∃ d', d = d' + 1 := ⟨d - 1, by omega⟩
  refine zOk_straight hg (show mt_tab[112]? = some mt_X8_nameAt from rfl) [] 30 rfl fun As μ Q hC => ?_
  obtain ⟨t, y, i, rfl, hi, hy, ht, hQ⟩ := hC
  refine ⟨rfl, ?_⟩
  rcases hy with rfl | rfl
  all_goals
    refine And.intro hi (And.intro (fun c => ?_) (fun c => ?_))
    · exact And.intro rfl (hQ _ (fun h _ => by omega))
    · refine And.intro ht (And.intro (And.intro hi ⟨by omega, by omega⟩) (And.intro (fun c => ?_) (fun c => ?_)))
      · exact And.intro rfl (hQ _ (fun _ h => by simp at h; omega))
      · refine And.intro ht (And.intro ⟨by omega, by omega⟩ ?_)
        intro v hv
        exact And.intro rfl (hQ _ (fun _ _ => hv))
def zl0 (μ μ' : zM) : Prop := zle μ μ' ∧ μ'.2 = μ.2
theorem zl0_r (μ : zM) : zl0 μ μ := ⟨zle_r μ, rfl⟩
theorem zl0_t {a b c : zM} (h1 : zl0 a b) (h2 : zl0 b c) : zl0 a c := ⟨zle_t h1.1 h2.1, h2.2.trans h1.2⟩
theorem zle_0 {a b c : zM} (h1 : zle a b) (h2 : zl0 b c) : zle a c := zle_t h1 h2.1
theorem zl0_u {μ μ' : zM} {t : Nat} {k x : Int} (he : μ' = zu μ t k x) (h1 : t < 66 ∨ (109 ≤ t ∧ t < 1000000) ∨ (3000000 ≤ t ∧ t < 3000066) ∨ (5000000 ≤ t ∧ t < 5000066)) (h2 : (t ≠ 26 ∧ t ≠ 44) ∨ k ≠ 5) (h3 : t ≠ 1 ∨ k ≠ ((4 : Nat) : Int) ∨ x = 0 := by first | exact Or.inl (by decide) | exact Or.inr (Or.inl (by decide)) | omega) : zl0 μ μ' := ⟨zle_u he h1 h2 h3, by rw [he]; rfl⟩
/-- the bytes that come in -/
def zf0 (μ μ' : zM) : Prop := zlf μ μ' ∧ μ'.2 = μ.2
theorem zf0_r (μ : zM) : zf0 μ μ := ⟨zle_lf (zle_r μ), rfl⟩
theorem zf0_t {a b c : zM} (h1 : zf0 a b) (h2 : zf0 b c) : zf0 a c := ⟨zlf_t h1.1 h2.1, h2.2.trans h1.2⟩
theorem zf0_u {μ μ' : zM} {t : Nat} {k x : Int} (he : μ' = zu μ t k x) (h1 : t < 66 ∨ (109 ≤ t ∧ t < 1000000) ∨ (3000000 ≤ t ∧ t < 3000066) ∨ (5000000 ≤ t ∧ t < 5000066)) (h2 : (t ≠ 26 ∧ t ≠ 44) ∨ k ≠ 5) : zf0 μ μ' := ⟨zlf_u he h1 h2, by rw [he]; rfl⟩
theorem zl0_f {μ μ' : zM} {t y : Nat} {k x : Int} (he : μ' = zu μ t k x) (ht : t = y ∨ t = y + 18) (hy : 14 ≤ y ∧ y ≤ 31) (h2 : y ≠ 26 ∨ k ≠ 5) : zl0 μ μ' := zl0_u he (Or.inl (by omega)) (h2.imp (fun h => ⟨by omega, by omega⟩) id) (Or.inl (by omega))
theorem zl0_d {μ μ' μ'' : zM} {t : Nat} {k x : Int} (he : μ' = zu μ t k x) (ht : zDyn μ'' t) : zl0 μ μ' := zl0_u he (by have := ht.1; omega) (Or.inl (by have := ht.1; omega)) (Or.inl (by have := ht.1; omega))
theorem zfa {t y o y2 : Nat} (h : t = y ∨ t = y + 18) (e : Nat.add y o = y2) : Nat.add t o = y2 ∨ Nat.add t o = y2 + 18 := by
  subst e
  show t + o = y + o ∨ t + o = y + o + 18
  omega
theorem zIa_f {μ : zM} {t y : Nat} (h : t = y ∨ t = y + 18) (h2 : y + 18 < 109) (h3 : (zst y && zst (y + 18)) = true) : zIa μ t := by
  simp only [Bool.and_eq_true] at h3
  rcases h with e | e
  · subst e; exact Or.inr ⟨by omega, h3.1⟩
  · subst e; exact Or.inr ⟨h2, h3.2⟩
theorem zIa_200 {μ : zM} {t : Nat} (h : t = 25 ∨ t = 43 ∨ t = 51) : zIa μ t := by
  rcases h with e | e | e <;> subst e <;> exact Or.inr ⟨by decide, by decide⟩
theorem zIa_m {μ μ' : zM} {t : Nat} (h : zIa μ t) (hz : zl0 μ μ') : zIa μ' t := by
  rcases h with h | h
  · left
    unfold zDyn
    rw [hz.2]
    exact h
  · exact Or.inr h
theorem zrf_zt {v v' : zV} (h : zt v' = zt v) (hr : zrf v) : zrf v' := by
  rcases v' with x | x | q
  · exact True.intro
  · exact True.intro
  · rcases v with y | y | q2
    · cases h
    · cases h
    · have : q.1 = q2.1 := by injection h
      show q.1 < 1048576
      rw [this]
      exact hr
theorem zOk_tag {g : zΓ} {d a : Nat} {C : zC} (h : zOk g d a C) : zOk g d a (fun As μ Q => ∃ As', As'.map zt = As.map zt ∧ C As' μ Q) := by
  intro As μ Q w hw hr hC
  obtain ⟨As', e, hC⟩ := hC
  have hr' : ∀ v ∈ As', zrf v := by
    intro v hv
    have h1 : zt v ∈ As'.map zt := List.mem_map.mpr ⟨v, hv, rfl⟩
    rw [e] at h1
    obtain ⟨u, hu, hz⟩ := List.mem_map.mp h1
    exact zrf_zt hz.symm (hr u hu)
  have := h As' μ Q w hw hr' hC
  rw [e] at this
  exact this
theorem zrtb {x : Int} (h : x = 0 ∨ x = 1) : zrt (some .boolean) x := h
theorem z200_f {t : Nat} (h : t = 25 ∨ t = 25 + 18) : t = 25 ∨ t = 43 ∨ t = 51 := by omega
