section MX6
variable {p : Program} {l : Launch} {e : Env} {R : Room} {s : State} {m : MethodId} {args : Array Value} {below : List Frame} {meth : Method} {c : Code}
variable {r : Nat → Value} {B : Nat} {D : va_G} {cy : Nat → ClassId} {H0 : Heap}
/-- a jump that stands for many steps -/
def mx_Jmp (p : Program) (l : Launch) (e : Env) (R : Room) (s : State) (m : MethodId) (args : Array Value) (below : List Frame) (meth : Method) (c : Code) (D : va_G) (cy : Nat → ClassId) (r : Nat → Value) (B : Nat) (H0 : Heap) (nL : Nat) (jmp : mS → Option mS) : Prop :=
  ∀ σ σ', jmp σ = some σ' → mx_le σ σ' ∧ mx_St p l e R s m args below meth c D cy r B H0 nL σ σ'
theorem mx_stp_mono {kb : mK} {tab : List mM} {call : Nat → List Value → mW → Option (Option Value × mW)} {sc : Option Nat} {jmp : mS → Option mS} (hj : ∀ σ σ', jmp σ = some σ' → mx_le σ σ') {M : mM} {σ σ' : mS} (h : mx_stp kb tab call sc jmp M σ = some σ') : mx_le σ σ' := by
  unfold mx_stp at h
  split at h
  · rename_i hq
    cases h; exact hj _ _ hq
  · exact mx_step_mono h
theorem mx_runN_mono {kb : mK} {tab : List mM} {call : Nat → List Value → mW → Option (Option Value × mW)} {sc : Option Nat} {jmp : mS → Option mS} (hj : ∀ σ σ', jmp σ = some σ' → mx_le σ σ') {M : mM} : ∀ (n : Nat) {σ σ' : mS}, mx_runN kb tab call sc jmp M n σ = some σ' → mx_le σ σ'
  | 0, σ, σ', h => by cases h; exact ⟨Nat.le_refl _, Nat.le_refl _⟩
  | n + 1, σ, σ', h => by
    unfold mx_runN at h
    split at h
    · rename_i σ1 h1
      have a := mx_stp_mono hj h1
      have b := mx_runN_mono hj n h
      exact ⟨Nat.le_trans a.1 b.1, Nat.le_trans a.2 b.2⟩
    · cases h
theorem mx_stp_St {kb : mK} {tab : List mM} {call : Nat → List Value → mW → Option (Option Value × mW)} {sc : Option Nat} {jmp : mS → Option mS} {M : mM} {d : Nat} {σ σ' : mS} (htab : ∀ M ∈ tab, mx_mok (fun a => tab[a]?.map (fun M => M.1)) M = true) (hM : mx_wok (fun a => tab[a]?.map (fun M => M.1)) M)
    (X : mx_X kb p R s m meth c D cy r B M sc H0 d) (hcall : ∀ a As w v w', call a As w = some (v, w') → ∀ M, tab[a]? = some M → mx_Met l D cy r B M d As w v w') (hj : mx_Jmp p l e R s m args below meth c D cy r B H0 M.2.2.1.1 jmp) (h : mx_stp kb tab call sc jmp M σ = some σ') : mx_St p l e R s m args below meth c D cy r B H0 M.2.2.1.1 σ σ' := by
  unfold mx_stp at h
  split at h
  · rename_i hq
    cases h; exact (hj _ _ hq).2
  · exact mx_step_St htab hM X hcall h
/-- many steps -/
theorem mx_runN_St {kb : mK} {tab : List mM} {call : Nat → List Value → mW → Option (Option Value × mW)} {sc : Option Nat} {jmp : mS → Option mS} {M : mM} {d : Nat} (htab : ∀ M ∈ tab, mx_mok (fun a => tab[a]?.map (fun M => M.1)) M = true) (hM : mx_wok (fun a => tab[a]?.map (fun M => M.1)) M)
    (X : mx_X kb p R s m meth c D cy r B M sc H0 d) (hcall : ∀ a As w v w', call a As w = some (v, w') → ∀ M, tab[a]? = some M → mx_Met l D cy r B M d As w v w') (hj : mx_Jmp p l e R s m args below meth c D cy r B H0 M.2.2.1.1 jmp) : ∀ (n : Nat) {σ σ' : mS}, mx_runN kb tab call sc jmp M n σ = some σ' → mx_St p l e R s m args below meth c D cy r B H0 M.2.2.1.1 σ σ'
  | 0, σ, σ', h => by
    cases h
    exact fun Q n0 z0 k0 k1 H ls locs hl hR hS _ _ _ _ k => k ls H locs hl hR hS
  | n + 1, σ, σ', h => by
    unfold mx_runN at h
    split at h
    · rename_i σ1 h1
      have a := mx_stp_mono (fun σ σ' q => (hj σ σ' q).1) h1
      have b := mx_runN_mono (fun σ σ' q => (hj σ σ' q).1) n h
      have ih := mx_runN_St htab hM X hcall hj n h
      intro Q n0 z0 k0 k1 H ls locs hl hR hS hn0 hz0 hrc hrs k
      refine mx_stp_St htab hM X hcall hj h1 Q n0 z0 k0 k1 H ls locs hl hR hS hn0 hz0 (by have := b.1; omega) (by have := b.2; omega) (fun ls' H' locs' hl' hR' hS' => ?_)
      exact ih Q n0 z0 k0 k1 H' ls' locs' hl' hR' hS' (Nat.le_trans hn0 a.1) (Nat.le_trans hz0 a.2) hrc hrs k
    · cases h
theorem mx_ret_w {M : mM} {σ : mS} {v : Option Value} {w' : mW} (h : mx_ret M σ = some (v, w')) : w' = σ.2.2.2 := by
  unfold mx_ret at h
  split at h
  · split at h
    · split at h <;> cases h; rfl
    · cases h
  · split at h <;> cases h; rfl
  · split at h <;> cases h; rfl
  · cases h
theorem mx_loop_mono {kb : mK} {tab : List mM} {call : Nat → List Value → mW → Option (Option Value × mW)} {jmp : mS → Option mS} (hj : ∀ σ σ', jmp σ = some σ' → mx_le σ σ') {M : mM} : ∀ (n : Nat) {σ : mS} {v : Option Value} {w' : mW}, mx_loop kb tab call jmp M n σ = some (v, w') → σ.2.2.2.1.length ≤ w'.1.length ∧ σ.2.2.2.2 ≤ w'.2
  | 0, σ, v, w', h => by cases h
  | n + 1, σ, v, w', h => by
    unfold mx_loop at h
    split at h
    · rename_i x hx
      cases h
      rw [mx_ret_w hx]
      exact ⟨Nat.le_refl _, Nat.le_refl _⟩
    · split at h
      · rename_i σ1 h1
        have a := mx_stp_mono hj h1
        have b := mx_loop_mono hj n h
        exact ⟨Nat.le_trans a.1 b.1, Nat.le_trans a.2 b.2⟩
      · cases h
set_option maxHeartbeats 4000000 in
theorem mx_ret_W {kb : mK} {H : Heap} {locs : List Loc} {ls : Array Slot} {M : mM} {sc : Option Nat} {d n0 z0 : Nat} {σ : mS} {v : Option Value} {w' : mW} {nms : Nat → Option MethodName} (hM : mx_wok nms M) (X : mx_X kb p R s m meth c D cy r B M sc s.heap d) (hret : meth.sig.returnType = M.2.2.1.2.1) (hlocks : meth.locks = false) (hR : mx_R D cy r B σ.2.2.2 H) (hS : va_S (fun q => B ≤ q) s.heap H locs) (h : mx_ret M σ = some (v, w')) :
    W p l e R s m args below meth c H locs (w'.1.length - n0) (w'.2 - z0) (MQ below (mx_Qc D cy r B v w') args s (w'.1.length - n0) (w'.2 - z0) (fun q => B ≤ q)) (F0 m σ.1 ls (σ.2.2.1.map (mx_v r))) := by
  obtain ⟨hx, hb, hml, hown, hE, hK, hr, hsc, hnm, hfr, hlo, hkb⟩ := X
  obtain ⟨m1, -⟩ := hM
  have hw := mx_ret_w h
  subst hw
  obtain ⟨pc, lv, st, w⟩ := σ
  have dec : ∀ i, M.2.2.2.2.1.lookup pc = some i → mx_isT i = false → mx_len i = 1 → decode M.2.1 pc = .ok (i, 1) := by
    intro i hi hT h1
    obtain ⟨n, hd, hn⟩ := mx_rowok_spec (m1 _ (mx_lki hi))
    rcases hn with hn | hn
    · rw [hn, h1] at hd; exact hd
    · rw [hT] at hn; cases hn
  unfold mx_ret at h
  dsimp only at h
  split at h
  · rename_i v' hi
    split at h
    · rename_i ty hty
      split at h
      · rename_i hnar
        cases h
        exact W.zret hx hb (by rw [hret]; exact hty) hnar (fun t ht hW => ⟨rfl, by rw [ht]; exact hR, hS.F ht⟩) hS.2.2 (dec _ hi rfl rfl) hlocks
      · cases h
    · cases h
  · rename_i v' hi
    split at h
    · rename_i hty
      cases h
      exact W.lret hx hb (by rw [hret]; exact hty) (fun t ht hW => ⟨rfl, by rw [ht]; exact hR, hS.F ht⟩) hS.2.2 (dec _ hi rfl rfl) hlocks
    · cases h
  · rename_i hi
    split at h
    · rename_i hty
      cases h
      exact W.vret hx hb (by rw [hret]; exact hty) (fun t ht hW => ⟨rfl, by rw [ht]; exact hR, hS.F ht⟩) hS.2.2 (dec _ hi rfl rfl) hlocks
    · cases h
  · cases h
theorem mx_loop_W {kb : mK} {tab : List mM} {call : Nat → List Value → mW → Option (Option Value × mW)} {jmp : mS → Option mS} {M : mM} {d n0 z0 : Nat} {v : Option Value} {w' : mW} (htab : ∀ M ∈ tab, mx_mok (fun a => tab[a]?.map (fun M => M.1)) M = true) (hM : mx_wok (fun a => tab[a]?.map (fun M => M.1)) M)
    (X : mx_X kb p R s m meth c D cy r B M none s.heap d) (hret : meth.sig.returnType = M.2.2.1.2.1) (hlocks : meth.locks = false) (hcall : ∀ a As w v w', call a As w = some (v, w') → ∀ M, tab[a]? = some M → mx_Met l D cy r B M d As w v w') (hj : mx_Jmp p l e R s m args below meth c D cy r B s.heap M.2.2.1.1 jmp) (hrc : w'.1.length - n0 ≤ R.cells) (hrs : w'.2 - z0 ≤ R.slots) :
    ∀ (n : Nat) {σ : mS} {H : Heap} {ls : Array Slot} {locs : List Loc}, mx_loop kb tab call jmp M n σ = some (v, w') → lv_has ls M.2.2.1.1 (mx_lv r σ.2.1) → mx_R D cy r B σ.2.2.2 H → va_S (fun q => B ≤ q) s.heap H locs → n0 ≤ σ.2.2.2.1.length → z0 ≤ σ.2.2.2.2 →
      W p l e R s m args below meth c H locs (σ.2.2.2.1.length - n0) (σ.2.2.2.2 - z0) (MQ below (mx_Qc D cy r B v w') args s (w'.1.length - n0) (w'.2 - z0) (fun q => B ≤ q)) (F0 m σ.1 ls (σ.2.2.1.map (mx_v r)))
  | 0, σ, H, ls, locs, h, _, _, _, _, _ => by cases h
  | n + 1, σ, H, ls, locs, h, hl, hR, hS, hn0, hz0 => by
    unfold mx_loop at h
    split at h
    · rename_i x hx
      cases h
      have hw := mx_ret_w hx
      rw [show σ.2.2.2 = w' from hw.symm]
      exact mx_ret_W hM X hret hlocks hR hS hx
    · split at h
      · rename_i σ1 h1
        have a := mx_stp_mono (fun σ σ' q => (hj σ σ' q).1) h1
        have b := mx_loop_mono (fun σ σ' q => (hj σ σ' q).1) n h
        refine mx_stp_St htab hM X hcall hj h1 _ n0 z0 0 0 H ls locs hl hR hS hn0 hz0 (by have := b.1; omega) (by have := b.2; omega) (fun ls' H' locs' hl' hR' hS' => ?_)
        exact mx_loop_W htab hM X hret hlocks hcall hj hrc hrs n h hl' hR' hS' (Nat.le_trans hn0 a.1) (Nat.le_trans hz0 a.2)
      · cases h
theorem mx_args (hr : mx_r r B) : ∀ (a : List Value) (i : Nat), lv_args i (a.map (mx_v r)) = mx_lv r (lv_args i a)
  | [], i => rfl
  | v :: t, i => by
    have e : (mx_v r v).category = v.category := mx_cat hr v
    simp only [List.map_cons, lv_args, mx_lv]
    rw [e]
    congr 1
    exact mx_args hr t _
theorem mx_sl (hr : mx_r r B) : ∀ (a : List Value), (lg_sl (a.map (mx_v r))).length = (a.map fun v => v.category).sum
  | [] => rfl
  | v :: t => by
    have e : (mx_v r v).category = v.category := mx_cat hr v
    have ih := mx_sl hr t
    have hc : v.category = 1 ∨ v.category = 2 := by cases v <;> simp [Value.category]
    rw [List.map_cons, List.map_cons, List.sum_cons, ← ih]
    rcases hc with hc | hc <;> simp [lg_sl, List.flatMap_cons, e, hc] <;> omega
/-- a run of a method is its contract -/
theorem mx_met {kb : mK} {tab : List mM} {ovr : Nat → List Value → mW → Option (Option Value × mW)} {jmp : Nat → mS → Option mS} (htab : ∀ M ∈ tab, mx_mok (fun a => tab[a]?.map (fun M => M.1)) M = true) (hr : mx_r r B) (hkb : mx_kb kb r)
    (hovr : ∀ d a As w v w', ovr a As w = some (v, w') → ∀ M, tab[a]? = some M → mx_Met l D cy r B M (d + 1) As w v w')
    (hjmp : ∀ y M, tab[y]? = some M → ∀ (p : Program) (e : Env) (R : Room) (s : State) (m : MethodId) (args : Array Value) (below : List Frame) (meth : Method) (c : Code) (d : Nat), mx_X kb p R s m meth c D cy r B M none s.heap d → mx_Jmp p l e R s m args below meth c D cy r B s.heap M.2.2.1.1 (jmp y)) :
    ∀ (d a : Nat) (As : List Value) (w : mW) (v : Option Value) (w' : mW), mx_call kb tab ovr jmp d a As w = some (v, w') → ∀ M, tab[a]? = some M → mx_Met l D cy r B M d As w v w'
  | 0, a, As, w, v, w', h, M, hM => by cases h
  | d + 1, a, As, w, v, w', h, M, hM => by
    unfold mx_call at h
    split at h
    · rename_i x hx
      cases h
      exact hovr d a As w v w' hx M hM
    · rw [hM] at h
      dsimp only at h
      split at h
      · rename_i hsum
        simp only [Bool.and_eq_true, Bool.not_eq_true'] at hsum
        obtain ⟨hsum, hpl⟩ := hsum
        have hok := htab M (List.mem_of_getElem? hM)
        obtain ⟨m1, m2, m3, m4, m5, m6, m7, m8, m9, m10, m11⟩ := mx_Mok hok
        unfold mx_Met
        refine Met.ofW (cc := M.2.1) (maxL := M.2.2.1.1) (ret := M.2.2.1.2.1) (ws' := []) (m9 hpl) rfl ?_
        intro p e s m args below meth c s₁ Bd hml hv
        obtain ⟨rfl, hE, hK, hR, hLS⟩ := hv
        have hown : s.vm.findClass M.1.cls = some m.cls := findClass_of_methodNamed Bd.named
        have hnm : meth.name = M.1.name := (name_of_methodNamed Bd.named Bd.method).1
        have X : mx_X kb p (mx_room (d + 1) w w') s m meth c D cy r B M none s.heap d := ⟨Bd.exec, Bd.bytes, hml, hown, hE, hK, hr, ⟨fun L q => (by cases q), hLS⟩, hnm, Nat.le_refl _, Nat.le_refl _, hkb⟩
        have hle : (lg_sl (As.map (mx_v r))).length ≤ M.2.2.1.1 := by rw [mx_sl hr]; exact Nat.le_of_ble_eq_true hsum
        have hl := lv_entry (As.map (mx_v r)) (n := M.2.2.1.1) hle
        rw [mx_args hr] at hl
        rw [lg_entry_eq]
        have ih := mx_met htab hr hkb hovr hjmp d
        have key := mx_loop_W (p := p) (l := l) (e := e) (R := mx_room (d + 1) w w') (s := s) (m := m) (args := (As.map (mx_v r)).toArray) (below := below) (meth := meth) (c := c) (n0 := w.1.length) (z0 := w.2) htab (mx_wok_of hok) X Bd.returns Bd.notSynchronized (fun a As w v w' q M hM => ih a As w v w' q M hM) (hjmp a M hM p e _ s m _ below meth c d X) (Nat.le_refl _) (Nat.le_refl _) 1000000 h hl hR va_S.rf (Nat.le_refl _) (Nat.le_refl _)
        refine W.cs (cells' := w.1.length - w.1.length) (slots' := w.2 - w.2) (by omega) (by omega) ?_
        exact key
      · cases h
end MX6
