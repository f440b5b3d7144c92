/-! ### runs -/
def mx_step (kb : mK) (tab : List mM) (call : Nat → List Value → mW → Option (Option Value × mW)) (sc : Option Nat) (M : mM) (σ : mS) : Option mS := match M.2.2.2.2.1.lookup σ.1 with
  | none => none
  | some i => match mx_pure i σ.2.2.1 with
    | some st' => some (σ.1 + mx_len i, σ.2.1, st', σ.2.2.2)
    | none => match mx_loc M.2.2.1.1 i σ.2.1 σ.2.2.1 with
      | some (lv', st') => some (σ.1 + mx_len i, lv', st', σ.2.2.2)
      | none => match mx_br kb σ.1 i σ.2.2.1 with
        | some (pc', st') => some (pc', σ.2.1, st', σ.2.2.2)
        | none => match mx_mem kb sc M.2.2.2.2.2.2 M.2.2.2.2.2.1 i σ.2.2.1 σ.2.2.2 with
          | some (st', w') => some (σ.1 + mx_len i, σ.2.1, st', w')
          | none => match mx_ivk tab call M.2.2.2.2.2.1 i σ.2.2.1 σ.2.2.2 with
            | some (st', w') => some (σ.1 + 3, σ.2.1, st', w')
            | none => none
def mx_stp (kb : mK) (tab : List mM) (call : Nat → List Value → mW → Option (Option Value × mW)) (sc : Option Nat) (jmp : mS → Option mS) (M : mM) (σ : mS) : Option mS := match jmp σ with
  | some σ' => some σ'
  | none => mx_step kb tab call sc M σ
def mx_runN (kb : mK) (tab : List mM) (call : Nat → List Value → mW → Option (Option Value × mW)) (sc : Option Nat) (jmp : mS → Option mS) (M : mM) : Nat → mS → Option mS
  | 0, σ => some σ
  | n + 1, σ => match mx_stp kb tab call sc jmp M σ with
    | some σ' => mx_runN kb tab call sc jmp M n σ'
    | none => none
def mx_ret (M : mM) (σ : mS) : Option (Option Value × mW) := match M.2.2.2.2.1.lookup σ.1, σ.2.2.1 with
  | some .ireturn, [.int v] => match M.2.2.1.2.1 with
    | some ty => if narrow ty (.int v) = .int v then some (some (.int v), σ.2.2.2) else none
    | none => none
  | some .lreturn, [.long v] => if M.2.2.1.2.1 = some .long then some (some (.long v), σ.2.2.2) else none
  | some .return_, [] => if M.2.2.1.2.1 = none then some (none, σ.2.2.2) else none
  | _, _ => none
def mx_loop (kb : mK) (tab : List mM) (call : Nat → List Value → mW → Option (Option Value × mW)) (jmp : mS → Option mS) (M : mM) : Nat → mS → Option (Option Value × mW)
  | 0, _ => none
  | n + 1, σ => match mx_ret M σ with
    | some x => some x
    | none => match mx_stp kb tab call none jmp M σ with
      | some σ' => mx_loop kb tab call jmp M n σ'
      | none => none
def mx_call (kb : mK) (tab : List mM) (ovr : Nat → List Value → mW → Option (Option Value × mW)) (jmp : Nat → mS → Option mS) : Nat → Nat → List Value → mW → Option (Option Value × mW)
  | 0, _, _, _ => none
  | d + 1, y, a, w => match ovr y a w with
    | some x => some x
    | none => match tab[y]? with
      | none => none
      | some M => if Nat.ble ((a.map fun v => v.category).sum) M.2.2.1.1 && !(Nat.beq M.2.2.2.1.2.2.2 152) then mx_loop kb tab (mx_call kb tab ovr jmp d) (jmp y) M 1000000 (0, lv_args 0 a, [], w) else none
section MX5
variable {p : Program} {l : Launch} {e : Env} {R : Room} {s : State} {m : MethodId} {args : Array Value} {below : List Frame} {meth : Method} {c : Code}
/-- where a method runs -/
def mx_X (kb : mK) (p : Program) (R : Room) (s : State) (m : MethodId) (meth : Method) (c : Code) (D : va_G) (cy : Nat → ClassId) (r : Nat → Value) (B : Nat) (M : mM) (sc : Option Nat) (H0 : Heap) (d : Nat) : Prop :=
  p.tables.exec = Jvm.exec ∧ c.code = M.2.1 ∧ c.maxLocals = M.2.2.1.1 ∧ s.vm.findClass M.1.cls = some m.cls ∧ mx_Env s ∧ va_K D mx_cl (mx_tys cy) s ∧ mx_r r B ∧ mx_sc sc r B s H0 ∧ meth.name = M.1.name ∧ d + 1 ≤ R.frames ∧ 40 * (d + 1) ≤ R.locals ∧ mx_kb kb r
def mx_St (p : Program) (l : Launch) (e : Env) (R : Room) (s : State) (m : MethodId) (args : Array Value) (below : List Frame) (meth : Method) (c : Code) (D : va_G) (cy : Nat → ClassId) (r : Nat → Value) (B : Nat) (H0 : Heap) (nL : Nat) (σ σ' : mS) : Prop :=
  ∀ (Q : State → Prop) (n0 z0 k0 k1 : Nat) (H : Heap) (ls : Array Slot) (locs : List Loc), lv_has ls nL (mx_lv r σ.2.1) → mx_R D cy r B σ.2.2.2 H → va_S (fun q => B ≤ q) H0 H locs → n0 ≤ σ.2.2.2.1.length → z0 ≤ σ.2.2.2.2 → σ'.2.2.2.1.length + k0 - n0 ≤ R.cells → σ'.2.2.2.2 + k1 - z0 ≤ R.slots →
    (∀ (ls' : Array Slot) (H' : Heap) (locs' : List Loc), lv_has ls' nL (mx_lv r σ'.2.1) → mx_R D cy r B σ'.2.2.2 H' → va_S (fun q => B ≤ q) H0 H' locs' → W p l e R s m args below meth c H' locs' (σ'.2.2.2.1.length + k0 - n0) (σ'.2.2.2.2 + k1 - z0) Q (F0 m σ'.1 ls' (σ'.2.2.1.map (mx_v r)))) →
    W p l e R s m args below meth c H locs (σ.2.2.2.1.length + k0 - n0) (σ.2.2.2.2 + k1 - z0) Q (F0 m σ.1 ls (σ.2.2.1.map (mx_v r)))
def mx_le (σ σ' : mS) : Prop := σ.2.2.2.1.length ≤ σ'.2.2.2.1.length ∧ σ.2.2.2.2 ≤ σ'.2.2.2.2
variable {r : Nat → Value} {B : Nat} {D : va_G} {cy : Nat → ClassId} {H0 : Heap}
theorem mx_ivk_mono {tab : List mM} {call : Nat → List Value → mW → Option (Option Value × mW)} {lk : List (Nat × mL)} {i : Instr} {st st' : List Value} {w w' : mW} (h : mx_ivk tab call lk i st w = some (st', w')) : w.1.length ≤ w'.1.length ∧ w.2 ≤ w'.2 := by
  unfold mx_ivk at h
  repeat' split at h
  all_goals first | (cases h; done) | skip
  all_goals
    cases h
    rename_i hm
    simp only [Bool.and_eq_true] at hm
    exact ⟨Nat.le_of_ble_eq_true hm.1, Nat.le_of_ble_eq_true hm.2⟩
theorem mx_step_mono {kb : mK} {tab : List mM} {call : Nat → List Value → mW → Option (Option Value × mW)} {sc : Option Nat} {M : mM} {σ σ' : mS} (h : mx_step kb tab call sc M σ = some σ') : mx_le σ σ' := by
  unfold mx_step at h
  split at h
  · cases h
  · split at h
    · cases h; exact ⟨Nat.le_refl _, Nat.le_refl _⟩
    · split at h
      · cases h; exact ⟨Nat.le_refl _, Nat.le_refl _⟩
      · split at h
        · cases h; exact ⟨Nat.le_refl _, Nat.le_refl _⟩
        · split at h
          · rename_i hm
            cases h; exact mx_mem_mono hm
          · split at h
            · rename_i hm
              cases h; exact mx_ivk_mono hm
            · cases h
theorem mx_rowok_spec {bytes : ByteArray} {pc : Nat} {i : Instr} (h : mx_rowok bytes (pc, i) = true) : ∃ n, decode bytes pc = .ok (i, n) ∧ (n = mx_len i ∨ mx_isT i = true) := by
  unfold mx_rowok at h
  split at h
  · rename_i i' n hd
    simp only [Bool.and_eq_true, Bool.or_eq_true, decide_eq_true_eq] at h
    obtain ⟨h1, h2⟩ := h
    dsimp only at hd h1 h2
    subst h1
    exact ⟨n, hd, h2.imp Nat.eq_of_beq_eq_true id⟩
  · cases h
theorem mx_lki {rows : List (Nat × Instr)} {i : Nat} {v : Instr} (h : rows.lookup i = some v) : (i, v) ∈ rows := by
  induction rows with
  | nil => simp at h
  | cons q t ih =>
    obtain ⟨j, u⟩ := q
    by_cases hj : i = j
    · subst hj
      simp [List.lookup] at h
      simp [h]
    · have : (i == j) = false := by simpa using hj
      simp [List.lookup, this] at h
      exact List.mem_cons_of_mem _ (ih h)
/-- what a step asks of a method's record -/
def mx_wok (nms : Nat → Option MethodName) (M : mM) : Prop := (∀ x ∈ M.2.2.2.2.1, mx_rowok M.2.1 x = true) ∧ (∀ x ∈ M.2.2.2.2.2.1, mx_lkok nms M.1.cls x = true) ∧ ∀ ci, M.2.2.2.2.2.2 = some ci → M.1.name = "<init>" ∧ ∃ q, mx_cl[ci]? = some q ∧ M.1.cls = q.1
theorem mx_wok_of {nms : Nat → Option MethodName} {M : mM} (h : mx_mok nms M = true) : mx_wok nms M := by
  obtain ⟨m1, m2, m3, m4, m5, m6, m7, m8, m9, m10, m11⟩ := mx_Mok h
  exact ⟨m1, m2, m11⟩
set_option maxHeartbeats 4000000 in
theorem mx_step_St {kb : mK} {tab : List mM} {call : Nat → List Value → mW → Option (Option Value × mW)} {sc : Option Nat} {M : mM} {d : Nat} {σ σ' : mS} (htab : ∀ M ∈ tab, mx_mok (fun a => tab[a]?.map (fun M => M.1)) M = true) (hM : mx_wok (fun a => tab[a]?.map (fun M => M.1)) M)
    (X : mx_X kb p R s m meth c D cy r B M sc H0 d) (hcall : ∀ a As w v w', call a As w = some (v, w') → ∀ M, tab[a]? = some M → mx_Met l D cy r B M d As w v w') (h : mx_step kb tab call sc M σ = some σ') : mx_St p l e R s m args below meth c D cy r B H0 M.2.2.1.1 σ σ' := by
  obtain ⟨hx, hb, hml, hown, hE, hK, hr, hsc, hnm, hfr, hlo, hkb⟩ := X
  obtain ⟨m1, m2, m11⟩ := hM
  intro Q n0 z0 k0 k1 H ls locs hl hR hS hn0 hz0 hrc hrs k
  obtain ⟨pc, lv, st, w⟩ := σ
  unfold mx_step at h
  split at h
  · cases h
  · rename_i i hi
    obtain ⟨n, hd, hn⟩ := mx_rowok_spec (m1 _ (mx_lki hi))
    have hd' : mx_isT i = false → decode M.2.1 pc = .ok (i, mx_len i) := fun q => by
      rcases hn with hn | hn
      · rw [hn] at hd; exact hd
      · rw [q] at hn; cases hn
    split at h
    · rename_i st' hp
      cases h
      have hT : mx_isT i = false := by
        cases i <;> first | rfl | (simp [mx_pure] at hp; done) | (cases hp; done)
      exact mx_pure_W hx hb hr (hd' hT) hp (k ls H locs hl hR hS)
    · split at h
      · rename_i lv' st' hp
        cases h
        have hT : mx_isT i = false := by
          cases i <;> first | rfl | (simp [mx_loc] at hp; done) | (cases hp; done)
        exact mx_loc_W hx hb hr hl (hd' hT) hp (fun ls' hl' => k ls' H locs hl' hR hS)
      · split at h
        · rename_i pc' st' hp
          cases h
          exact mx_br_W hx hb hkb hr hd (hn.imp id (fun q => by cases i <;> first | (cases q; done) | exact ⟨_, _, _, _, rfl⟩)) hp (k ls H locs hl hR hS)
        · split at h
          · rename_i st' w' hp
            cases h
            have hT : mx_isT i = false := by
              cases i <;> first | rfl | (simp [mx_mem] at hp; done) | (cases hp; done)
            exact mx_mem_W hx hb hkb hE hown hK hr m2 (fun ci q => by rw [hnm]; exact m11 ci q) hsc (by omega) (by omega) (hl.1.trans hml.symm) hR hS hn0 hz0 hrc hrs (hd' hT) hp (fun H' locs' hR' hS' => k ls H' locs' hl hR' hS')
          · split at h
            · rename_i st' w' hp
              cases h
              have hT : mx_isT i = false := by
                cases i <;> first | rfl | (simp [mx_ivk] at hp; done) | (cases hp; done)
              exact mx_ivk_W hx hb hml hl.1 hE hown hK hr m2 htab hfr hlo hcall hR hS hsc.2 hn0 hz0 hrc hrs (hd' hT) hp (fun H' locs' hR' hS' => k ls H' locs' hl hR' hS')
            · cases h
end MX5
