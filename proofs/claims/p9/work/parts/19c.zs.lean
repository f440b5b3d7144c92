/-! ### runs: what a condition gives -/
/-- what is known, the methods, where the cells are -/
abbrev zΓ : Type := mK × List mM × Launch × va_G × (Nat → ClassId) × (Nat → Value) × Nat
def zgo (g : zΓ) : Prop := (∀ M ∈ g.2.1, mx_mok (fun a => g.2.1[a]?.map (fun M => M.1)) M = true) ∧ mx_r g.2.2.2.2.2.1 g.2.2.2.2.2.2 ∧ mx_kb g.1 g.2.2.2.2.2.1 ∧ (∀ M ∈ g.2.1, zgd M.2.2.2.2.1 = true) ∧ ∀ a md ci n, znth zmi a = some (md, ci, n) → ∃ M, g.2.1[a]? = some M ∧ M.2.2.1.2.2.2.2 = md ∧ (md = 0 → M.2.2.1.2.2.2.1 = ci) ∧ M.2.2.1.2.2.1 = n
def zMet (g : zΓ) (d a : Nat) (As : List Value) (w : mW) (v : Option Value) (w' : mW) : Prop := ∀ M, g.2.1[a]? = some M → mx_Met g.2.2.1 g.2.2.2.1 g.2.2.2.2.1 g.2.2.2.2.2.1 g.2.2.2.2.2.2 M d As w v w'
def zG (g : zΓ) (d : Nat) (M : mM) (sc : Option Nat) (σ σ' : mS) : Prop := mx_le σ σ' ∧ ∀ (p : Program) (e : Env) (R : Room) (s : State) (m : MethodId) (args : Array Value) (below : List Frame) (meth : Method) (c : Code) (H0 : Heap), mx_X g.1 p R s m meth c g.2.2.2.1 g.2.2.2.2.1 g.2.2.2.2.2.1 g.2.2.2.2.2.2 M sc H0 d → mx_St p g.2.2.1 e R s m args below meth c g.2.2.2.1 g.2.2.2.2.1 g.2.2.2.2.2.1 g.2.2.2.2.2.2 H0 M.2.2.1.1 σ σ'
theorem zG_refl {g : zΓ} {d : Nat} {M : mM} {sc : Option Nat} {σ : mS} : zG g d M sc σ σ := ⟨⟨Nat.le_refl _, Nat.le_refl _⟩, fun p e R s m args below meth c H0 _ Q n0 z0 k0 k1 H ls locs hl hR hS _ _ _ _ k => k ls H locs hl hR hS⟩
theorem zG_trans {g : zΓ} {d : Nat} {M : mM} {sc : Option Nat} {σ σ1 σ' : mS} (a : zG g d M sc σ σ1) (b : zG g d M sc σ1 σ') : zG g d M sc σ σ' := by
  refine ⟨⟨Nat.le_trans a.1.1 b.1.1, Nat.le_trans a.1.2 b.1.2⟩, fun p e R s m args below meth c H0 X Q n0 z0 k0 k1 H ls locs hl hR hS hn0 hz0 hrc hrs k => ?_⟩
  refine a.2 p e R s m args below meth c H0 X Q n0 z0 k0 k1 H ls locs hl hR hS hn0 hz0 (by have := b.1.1; omega) (by have := b.1.2; omega) (fun ls' H' locs' hl' hR' hS' => ?_)
  exact b.2 p e R s m args below meth c H0 X Q n0 z0 k0 k1 H' ls' locs' hl' hR' hS' (Nat.le_trans hn0 a.1.1) (Nat.le_trans hz0 a.1.2) hrc hrs k
theorem zG_weak {g : zΓ} {d : Nat} {M : mM} {sc : Option Nat} {σ : mS} {pc : Nat} {lv lv' : List (Nat × Value)} {st : List Value} {w : mW} (a : zG g d M sc σ (pc, lv, st, w)) (h : ∀ q ∈ lv', q ∈ lv) : zG g d M sc σ (pc, lv', st, w) := by
  refine ⟨a.1, fun p e R s m args below meth c H0 X Q n0 z0 k0 k1 H ls locs hl hR hS hn0 hz0 hrc hrs k => ?_⟩
  refine a.2 p e R s m args below meth c H0 X Q n0 z0 k0 k1 H ls locs hl hR hS hn0 hz0 hrc hrs (fun ls' H' locs' hl' hR' hS' => ?_)
  refine k ls' H' locs' ⟨hl'.1, hl'.2.1, fun q hq => ?_⟩ hR' hS'
  obtain ⟨x, hx, rfl⟩ := List.mem_map.mp hq
  exact hl'.2.2 _ (List.mem_map.mpr ⟨x, h x hx, rfl⟩)
theorem zG_step {g : zΓ} {d : Nat} {M : mM} {sc : Option Nat} {σ σ' : mS} {call : Nat → List Value → mW → Option (Option Value × mW)} (hg : zgo g) (hM : M ∈ g.2.1) (hcall : ∀ a As w v w', call a As w = some (v, w') → zMet g d a As w v w') (h : mx_step g.1 g.2.1 call sc M σ = some σ') : zG g d M sc σ σ' :=
  ⟨mx_step_mono h, fun _ _ _ _ _ _ _ _ _ _ X => mx_step_St hg.1 (mx_wok_of (hg.1 M hM)) X (fun a As w v w' q M hM => hcall a As w v w' q M hM) h⟩
def zOk (g : zΓ) (d a : Nat) (C : zC) : Prop := ∀ (As : List zV) (μ : zM) (Q : Option zV → zM → Prop) (w : mW), zRep μ w → (∀ v ∈ As, zrf v) → C As μ Q → ∃ v μ' w', zMet g d a (As.map zt) w (v.map zt) w' ∧ (w.1.length ≤ w'.1.length ∧ w.2 ≤ w'.2) ∧ zRep μ' w' ∧ (∀ q, v = some q → zrf q) ∧ Q v μ'
theorem zsum_eq : ∀ st : List zV, ((st.map zt).map fun v => v.category).sum = zsum st
  | [] => rfl
  | v :: t => by
    simp only [List.map_cons, List.sum_cons, zcat_eq, zsum]
    rw [zsum_eq t]
    rfl
theorem zpt_ex {g : zΓ} {d a : Nat} {As : List Value} {w : mW} {v : Option Value} {w' : mW} (h : zMet g d a As w v w') : ∃ call : Nat → List Value → mW → Option (Option Value × mW), call a As w = some (v, w') ∧ ∀ a1 As1 w1 v1 w1', call a1 As1 w1 = some (v1, w1') → zMet g d a1 As1 w1 v1 w1' := by
  refine ⟨fun a' As' w1 => @ite _ (a' = a ∧ As' = As ∧ w1 = w) (Classical.propDecidable _) (some (v, w')) none, if_pos ⟨rfl, rfl, rfl⟩, ?_⟩
  intro a1 As1 w1 v1 w1' q
  by_cases hc : a1 = a ∧ As1 = As ∧ w1 = w
  · dsimp only at q
    rw [if_pos hc] at q
    obtain ⟨rfl, rfl, rfl⟩ := hc
    cases q
    exact h
  · dsimp only at q
    rw [if_neg hc] at q
    cases q
theorem zbl {a b : Nat} (h : a ≤ b) : Nat.ble a b = true := Nat.ble_eq_true_of_le h
set_option maxHeartbeats 4000000 in
theorem zcall_ok {g : zΓ} {d : Nat} {V : Nat → zC → Prop} (hg : zgo g) (hV : ∀ a C, V a C → zOk g d a C) {lk : List (Nat × mL)} {ix md : Nat} {i : Instr} (hi : (md = 0 ∧ i = .invokevirtual ix) ∨ (md = 1 ∧ i = .invokestatic ix)) {st : List zV} {μ : zM} {k : List zV → zM → Prop} {w : mW} (hw : zRep μ w) (hr : ∀ v ∈ st, zrf v) (h : zcallS V lk ix md st μ k) :
    ∃ st' μ' w' call, (∀ a As w v w', call a As w = some (v, w') → zMet g d a As w v w') ∧ mx_ivk g.2.1 call lk i (st.map zt) w = some (st'.map zt, w') ∧ zRep μ' w' ∧ (∀ v ∈ st', zrf v) ∧ k st' μ' := by
  unfold zcallS at h
  rw [zlk_eq] at h
  split at h
  · cases h
  · rename_i tt a n zz hlf
    split at h
    · cases h
    · rename_i md' ci n' hmi
      obtain ⟨M, hM, m1, m2, m3⟩ := hg.2.2.2.2 _ _ _ _ hmi
      split at h
      · cases h
      · rename_i hc
        simp only [Bool.and_eq_true] at hc
        obtain ⟨⟨⟨⟨hc1, hc2⟩, hc3⟩, hc4⟩, hc5⟩ := hc
        have hmd := Nat.eq_of_beq_eq_true hc2
        have hnn := Nat.eq_of_beq_eq_true hc3
        subst hmd
        subst hnn
        have hivk : ∀ call, mx_ivk g.2.1 call lk i (st.map zt) w = (if (Nat.beq tt (2 * md' + 2) || Nat.beq tt (2 * md' + 3)) && Nat.beq M.2.2.1.2.2.2.2 md' && Nat.beq M.2.2.1.2.2.1 n' && Nat.ble n' (st.map zt).length then
            if Nat.beq md' 1 then
              (if Nat.ble ((((st.map zt).drop n').map fun v => v.category).sum) 8 then match call a ((st.map zt).take n').reverse w with
                | some (v, w') => if Nat.ble w.1.length w'.1.length && Nat.ble w.2 w'.2 then some (v.toList ++ (st.map zt).drop n', w') else none
                | none => none else none)
            else match (st.map zt).drop n' with
              | .ref j :: rest => if Nat.ble ((rest.map fun v => v.category).sum) 8 && mx_isO w j md' M.2.2.1.2.2.2.1 then match call a (.ref j :: ((st.map zt).take n').reverse) w with
                  | some (v, w') => if Nat.ble w.1.length w'.1.length && Nat.ble w.2 w'.2 then some (v.toList ++ rest, w') else none
                  | none => none else none
              | _ => none
          else none) := by
          intro call
          unfold mx_ivk
          rcases hi with ⟨rfl, rfl⟩ | ⟨rfl, rfl⟩
          all_goals
            dsimp only
            rw [hlf]
            dsimp only
            rw [hM]
            rfl
        have hA : ((Nat.beq tt (2 * md' + 2) || Nat.beq tt (2 * md' + 3)) && Nat.beq M.2.2.1.2.2.2.2 md' && Nat.beq M.2.2.1.2.2.1 n' && Nat.ble n' (st.map zt).length) = true := by
          rw [hc1, m1, m3, Nat.beq_refl, Nat.beq_refl, List.length_map, hc4]
          rfl
        have htk : ((st.map zt).take n').reverse = ((st.take n').reverse).map zt := by rw [List.map_reverse, List.map_take]
        have hdr : (st.map zt).drop n' = (st.drop n').map zt := by rw [List.map_drop]
        have hrt : ∀ v ∈ (st.take n').reverse, zrf v := fun v hv => hr v (List.mem_of_mem_take (List.mem_reverse.mp hv))
        have hrd : ∀ v ∈ st.drop n', zrf v := fun v hv => hr v (List.mem_of_mem_drop hv)
        split at h
        · rename_i hb
          obtain ⟨C, hC, h⟩ := h
          obtain ⟨v, μ', w', g1, ⟨g2, g3⟩, g4, g5, g6⟩ := hV a C hC _ μ _ w hw hrt h
          obtain ⟨call, p1, p2⟩ := zpt_ex g1
          refine ⟨_, μ', w', call, p2, ?_, g4, ?_, g6⟩
          · rw [hivk, if_pos hA, if_pos hb, hdr, zsum_eq, if_pos hc5, htk, p1]
            dsimp only
            rw [if_pos (by rw [zbl g2, zbl g3]; rfl)]
            cases v <;> simp
          · intro u hu
            rcases List.mem_append.mp hu with q | q
            · cases v with
              | none => cases q
              | some x =>
                have : u = x := by simpa using q
                rw [this]; exact g5 x rfl
            · exact hrd u q
        · rename_i hb
          split at h
          · rename_i t y rest hdrop
            split at h
            · rename_i c hy
              split at h
              · rename_i hbc
                obtain ⟨hcl, C, hC, h⟩ := zch1 hy h
                have hbc := Nat.eq_of_beq_eq_true hbc
                subst hbc
                obtain ⟨c', e1, fs, e2, -⟩ := hw.2.2.1 t _ hcl
                subst e2
                have hmd0 : md' = 0 := by
                  rcases hi with ⟨q, -⟩ | ⟨q, -⟩
                  · exact q
                  · rw [q] at hb; cases hb
                have hrt2 : ∀ v ∈ (.inr (.inr (t, y)) :: (st.take n').reverse : List zV), zrf v := fun v hv => by
                  rcases List.mem_cons.mp hv with q | q
                  · rw [q]; exact hrd _ (by rw [hdrop]; exact List.mem_cons_self)
                  · exact hrt v q
                obtain ⟨v, μ', w', g1, ⟨g2, g3⟩, g4, g5, g6⟩ := hV a C hC _ μ _ w hw hrt2 h
                obtain ⟨call, p1, p2⟩ := zpt_ex g1
                refine ⟨_, μ', w', call, p2, ?_, g4, ?_, g6⟩
                · have hd2 : (st.map zt).drop n' = Value.ref t :: rest.map zt := by rw [hdr, hdrop]; rfl
                  rw [hivk, if_pos hA, if_neg (by rw [hb]; decide), hd2]
                  dsimp only
                  have hO : mx_isO w t md' M.2.2.1.2.2.2.1 = true := by
                    unfold mx_isO
                    rw [e1, m2 hmd0]
                    dsimp only
                    rw [Nat.beq_refl, Bool.or_true]
                  have hsum : Nat.ble (((rest.map zt).map fun v => v.category).sum) 8 = true := by
                    rw [hdrop] at hc5
                    have := Nat.le_of_ble_eq_true hc5
                    simp only [zsum] at this
                    rw [zsum_eq]
                    exact zbl (Nat.le_trans (Nat.le_add_left _ _) this)
                  rw [hO, hsum, if_pos (show (true && true) = true from rfl), htk]
                  have p3 : call a (Value.ref t :: ((st.take n').reverse).map zt) w = some (v.map zt, w') := p1
                  rw [p3]
                  dsimp only
                  rw [if_pos (by rw [zbl g2, zbl g3]; rfl)]
                  cases v <;> simp
                · intro u hu
                  rcases List.mem_append.mp hu with q | q
                  · cases v with
                    | none => cases q
                    | some x =>
                      have : u = x := by simpa using q
                      rw [this]; exact g5 x rfl
                  · exact hrd u (by rw [hdrop]; exact List.mem_cons_of_mem _ q)
              · cases h
            · cases h
          · cases h
/-- an end of a run: at a cut, at its answer, or where it throws -/
def zE (g : zΓ) (d : Nat) (M : mM) (sc : Option Nat) (cuts : List (Nat × List Nat)) (J : Nat → List zV → zM → Prop) (P : Option zV → zM → Prop) (T : Nat → zM → Prop) (σ : mS) : Prop := ∃ (σ' : mS) (μ' : zM), zG g d M sc σ σ' ∧ zRep μ' σ'.2.2.2 ∧
  ((∃ ks vs, zlk σ'.1 cuts = some ks ∧ vs.length = ks.length ∧ (∀ v ∈ vs, zrf v) ∧ σ'.2.1 = zlv (zzip ks vs) ∧ σ'.2.2.1 = [] ∧ J σ'.1 vs μ') ∨ (∃ v : Option zV, mx_ret M σ' = some (v.map zt, σ'.2.2.2) ∧ (∀ q, v = some q → zrf q) ∧ P v μ') ∨ (∃ ix, M.2.2.2.2.1.lookup σ'.1 = some (.new ix) ∧ σ'.2.2.1 = [] ∧ T σ'.1 μ'))
theorem zE_step {g : zΓ} {d : Nat} {M : mM} {sc : Option Nat} {cuts : List (Nat × List Nat)} {J : Nat → List zV → zM → Prop} {P : Option zV → zM → Prop} {T : Nat → zM → Prop} {σ σ1 : mS} (a : zG g d M sc σ σ1) (b : zE g d M sc cuts J P T σ1) : zE g d M sc cuts J P T σ := by
  obtain ⟨σ', μ', h1, h2, h3⟩ := b
  exact ⟨σ', μ', zG_trans a h1, h2, h3⟩
section ZST
variable {g : zΓ} {d : Nat} {M : mM} {sc : Option Nat} {pc : Nat} {i : Instr} {lv lv' : List (Nat × Value)} {st st' : List Value} {w w' : mW}
theorem zs_pure (hg : zgo g) (hM : M ∈ g.2.1) (hl : M.2.2.2.2.1.lookup pc = some i) (h : mx_pure i st = some st') : zG g d M sc (pc, lv, st, w) (pc + mx_len i, lv, st', w) :=
  zG_step (call := fun _ _ _ => none) hg hM (fun _ _ _ _ _ q => by cases q) (by unfold mx_step; dsimp only; rw [hl]; dsimp only; rw [h])
theorem zs_loc (hg : zgo g) (hM : M ∈ g.2.1) (hl : M.2.2.2.2.1.lookup pc = some i) (h1 : mx_pure i st = none) (h : mx_loc M.2.2.1.1 i lv st = some (lv', st')) : zG g d M sc (pc, lv, st, w) (pc + mx_len i, lv', st', w) :=
  zG_step (call := fun _ _ _ => none) hg hM (fun _ _ _ _ _ q => by cases q) (by unfold mx_step; dsimp only; rw [hl]; dsimp only; rw [h1]; dsimp only; rw [h])
theorem zs_br {pc' : Nat} (hg : zgo g) (hM : M ∈ g.2.1) (hl : M.2.2.2.2.1.lookup pc = some i) (h1 : mx_pure i st = none) (h2 : mx_loc M.2.2.1.1 i lv st = none) (h : mx_br g.1 pc i st = some (pc', st')) : zG g d M sc (pc, lv, st, w) (pc', lv, st', w) :=
  zG_step (call := fun _ _ _ => none) hg hM (fun _ _ _ _ _ q => by cases q) (by unfold mx_step; dsimp only; rw [hl]; dsimp only; rw [h1]; dsimp only; rw [h2]; dsimp only; rw [h])
theorem zs_mem (hg : zgo g) (hM : M ∈ g.2.1) (hl : M.2.2.2.2.1.lookup pc = some i) (h1 : mx_pure i st = none) (h2 : mx_loc M.2.2.1.1 i lv st = none) (h3 : mx_br g.1 pc i st = none) (h : mx_mem g.1 sc M.2.2.2.2.2.2 M.2.2.2.2.2.1 i st w = some (st', w')) : zG g d M sc (pc, lv, st, w) (pc + mx_len i, lv, st', w') :=
  zG_step (call := fun _ _ _ => none) hg hM (fun _ _ _ _ _ q => by cases q) (by unfold mx_step; dsimp only; rw [hl]; dsimp only; rw [h1]; dsimp only; rw [h2]; dsimp only; rw [h3]; dsimp only; rw [h])
theorem zs_ivk {call : Nat → List Value → mW → Option (Option Value × mW)} (hg : zgo g) (hM : M ∈ g.2.1) (hcall : ∀ a As w v w', call a As w = some (v, w') → zMet g d a As w v w') (hl : M.2.2.2.2.1.lookup pc = some i) (h1 : mx_pure i st = none) (h2 : mx_loc M.2.2.1.1 i lv st = none) (h3 : mx_br g.1 pc i st = none) (h4 : mx_mem g.1 sc M.2.2.2.2.2.2 M.2.2.2.2.2.1 i st w = none) (h : mx_ivk g.2.1 call M.2.2.2.2.2.1 i st w = some (st', w')) : zG g d M sc (pc, lv, st, w) (pc + 3, lv, st', w') :=
  zG_step hg hM hcall (by unfold mx_step; dsimp only; rw [hl]; dsimp only; rw [h1]; dsimp only; rw [h2]; dsimp only; rw [h3]; dsimp only; rw [h4]; dsimp only; rw [h])
end ZST
theorem zbr_ok {c : ClassFile.Cond} {x y : Int} {A B : Prop} (hx : zR x) (hy : zR y) (h : zbr c x y A B) : (mx_cmp c (Int32.ofInt x) (Int32.ofInt y) = true ∧ A) ∨ (mx_cmp c (Int32.ofInt x) (Int32.ofInt y) = false ∧ B) := by
  cases c <;> simp only [mx_cmp, decide_eq_true_eq, decide_eq_false_iff_not, z_eq hx hy, z_lt hx hy, z_le hy hx, z_lt hy hx, z_le hx hy] <;> simp only [zbr] at h
  · by_cases q : x = y
    · exact Or.inl ⟨q, h.1 q⟩
    · exact Or.inr ⟨q, h.2 q⟩
  · by_cases q : x = y
    · exact Or.inr ⟨fun n => n q, h.2 q⟩
    · exact Or.inl ⟨q, h.1 q⟩
  · by_cases q : x < y
    · exact Or.inl ⟨q, h.1 q⟩
    · exact Or.inr ⟨q, h.2 (by omega)⟩
  · by_cases q : y ≤ x
    · exact Or.inl ⟨q, h.1 q⟩
    · exact Or.inr ⟨q, h.2 (by omega)⟩
  · by_cases q : y < x
    · exact Or.inl ⟨q, h.1 q⟩
    · exact Or.inr ⟨q, h.2 (by omega)⟩
  · by_cases q : x ≤ y
    · exact Or.inl ⟨q, h.1 q⟩
    · exact Or.inr ⟨q, h.2 (by omega)⟩
theorem zsw_ok {x : Int} {pc : Nat} {k : Nat → Prop} : ∀ {offs : List Int} {lo : Int}, zsw x pc k lo offs → lo ≤ x → x < lo + offs.length → ∃ o, offs[(x - lo).toNat]? = some o ∧ k (ztg pc o)
  | [], lo, _, h1, h2 => by simp at h2; omega
  | o :: t, lo, h, h1, h2 => by
    by_cases e : x = lo
    · subst e
      exact ⟨o, by simp, h.1 rfl⟩
    · obtain ⟨o', g1, g2⟩ := zsw_ok h.2 (by omega) (by simp at h2; omega)
      refine ⟨o', ?_, g2⟩
      rw [show (x - lo).toNat = (x - (lo + 1)).toNat + 1 by omega]
      simpa using g1
