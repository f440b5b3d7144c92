/-! ### steps of the law and its callers, which stand outside the table -/
section ZLW
variable {g : zΓ} {d : Nat} {M : mM} {sc : Option Nat}
theorem zl_step {σ σ' : mS} {call : Nat → List Value → mW → Option (Option Value × mW)} (hg : zg g) (hW : mx_wok (fun a => mt_tab[a]?.map (fun M => M.1)) M) (hcall : ∀ a As w v w', call a As w = some (v, w') → zMet g d a As w v w') (h : mx_step g.1 mt_tab call sc M σ = some σ') : zG g d M sc σ σ' := by
  have h0 := hg.1
  refine ⟨mx_step_mono h, fun _ _ _ _ _ _ _ _ _ _ X => mx_step_St mt_ok hW X (fun a As w v w' q M hM => hcall a As w v w' q M (by rw [h0]; exact hM)) h⟩
/-- several steps without a call -/
theorem zl_run (hg : zg g) (hW : mx_wok (fun a => mt_tab[a]?.map (fun M => M.1)) M) : ∀ (K : Nat) {σ σ' : mS}, mx_runN g.1 mt_tab (fun _ _ _ => none) sc (fun _ => none) M K σ = some σ' → zG g d M sc σ σ'
  | 0, σ, σ', h => by
    unfold mx_runN at h
    cases h
    exact zG_refl
  | K + 1, σ, σ', h => by
    unfold mx_runN at h
    split at h
    · rename_i σ1 h1
      have h1 : mx_step g.1 mt_tab (fun _ _ _ => none) sc M σ = some σ1 := h1
      exact zG_trans (zl_step (call := fun _ _ _ => none) hg hW (fun _ _ _ _ _ q => by cases q) h1) (zl_run hg hW K h)
    · cases h
/-- two stacks of the machine that show the same -/
theorem zG_see {σ : mS} {pc : Nat} {lv : List (Nat × Value)} {st st' : List Value} {w : mW} (h : zG g d M sc σ (pc, lv, st, w)) (hs : st.map (mx_v g.2.2.2.2.2.1) = st'.map (mx_v g.2.2.2.2.2.1)) : zG g d M sc σ (pc, lv, st', w) := by
  refine ⟨h.1, fun p e R s m args below meth c H0 X Q n0 z0 k0 k1 H ls locs hl hR hS hn0 hz0 hrc hrs k => ?_⟩
  refine h.2 p e R s m args below meth c H0 X Q n0 z0 k0 k1 H ls locs hl hR hS hn0 hz0 hrc hrs (fun ls' H' locs' hl' hR' hS' => ?_)
  have := k ls' H' locs' hl' hR' hS'
  dsimp only at this ⊢
  rw [hs]
  exact this
/-- a number of the script -/
theorem zl_script {L : Nat} {pc : Nat} {lv : List (Nat × Value)} {st : List Value} {w : mW} {x v : Int32} (hg : zg g) (hW : mx_wok (fun a => mt_tab[a]?.map (fun M => M.1)) M) (hl : M.2.2.2.2.1.lookup pc = some .iaload) (hx : mx_in x L = true) (hv : g.2.2.2.2.2.1 (mx_E + 1 + x.toNatClampNeg) = .int v) : zG g d M (some L) (pc, lv, .int x :: .ref mx_E :: st, w) (pc + 1, lv, .int v :: st, w) := by
  refine zG_see (st := mx_sv g.1 (mx_E + 1 + x.toNatClampNeg) :: st) (zl_step (call := fun _ _ _ => none) hg hW (fun _ _ _ _ _ q => by cases q) ?_) ?_
  · unfold mx_step
    dsimp only
    rw [hl]
    simp [mx_pure, mx_loc, mx_br, mx_mem, hx, mx_len]
  · simp only [List.map_cons]
    rw [mx_sv_spec hg.2.2.1 hv]
    rfl
end ZLW
