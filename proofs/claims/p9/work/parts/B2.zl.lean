/-! ### the law's calls of class and reference that answer -/
theorem zl_call {g : zΓ} {d : Nat} {M : mM} {sc : Option Nat} {pc ix md : Nat} {i : Instr} {lv : List (Nat × Value)} {st : List zV} {μ : zM} {k : List zV → zM → Prop} {w : mW} (hg : zg g) (hW : mx_wok (fun a => mt_tab[a]?.map (fun M => M.1)) M) (hi : (md = 0 ∧ i = .invokevirtual ix) ∨ (md = 1 ∧ i = .invokestatic ix)) (hl : M.2.2.2.2.1.lookup pc = some i) (hw : zRep μ w) (hr : ∀ v ∈ st, zrf v) (h : zcallS (zOk g d) M.2.2.2.2.2.1 ix md st μ k) :
    ∃ (st' : List zV) (μ' : zM) (w' : mW), zG g d M sc (pc, lv, st.map zt, w) (pc + 3, lv, st'.map zt, w') ∧ zRep μ' w' ∧ (∀ v ∈ st', zrf v) ∧ k st' μ' := by
  obtain ⟨st', μ', w', call, h1, h2, h3, h4, h5⟩ := zcall_ok (zg_go hg) (fun _ _ q => q) hi hw hr h
  refine ⟨st', μ', w', zl_step (call := call) hg hW h1 ?_, h3, h4, h5⟩
  have h0 := hg.1
  rw [h0] at h2
  rcases hi with ⟨rfl, rfl⟩ | ⟨rfl, rfl⟩
  · have e1 : mx_pure (.invokevirtual ix) (st.map zt) = none := rfl
    have e2 : mx_loc M.2.2.1.1 (.invokevirtual ix) lv (st.map zt) = none := rfl
    have e3 : mx_br g.1 pc (.invokevirtual ix) (st.map zt) = none := rfl
    have e4 : mx_mem g.1 sc M.2.2.2.2.2.2 M.2.2.2.2.2.1 (.invokevirtual ix) (st.map zt) w = none := rfl
    unfold mx_step; dsimp only; rw [hl]; dsimp only; rw [e1]; dsimp only; rw [e2]; dsimp only; rw [e3]; dsimp only; rw [e4]; dsimp only; rw [h2]
  · have e1 : mx_pure (.invokestatic ix) (st.map zt) = none := rfl
    have e2 : mx_loc M.2.2.1.1 (.invokestatic ix) lv (st.map zt) = none := rfl
    have e3 : mx_br g.1 pc (.invokestatic ix) (st.map zt) = none := rfl
    have e4 : mx_mem g.1 sc M.2.2.2.2.2.2 M.2.2.2.2.2.1 (.invokestatic ix) (st.map zt) w = none := rfl
    unfold mx_step; dsimp only; rw [hl]; dsimp only; rw [e1]; dsimp only; rw [e2]; dsimp only; rw [e3]; dsimp only; rw [e4]; dsimp only; rw [h2]
