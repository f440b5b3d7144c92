/-! ### the answer is put into the law's one long -/
theorem zl_las {g : zΓ} {d : Nat} {M : mM} {sc : Option Nat} {pc : Nat} {lv : List (Nat × Value)} {st : List Value} {w : mW} {v : Int64} {a : mJ} (hg : zg g) (hW : mx_wok (fun a => mt_tab[a]?.map (fun M => M.1)) M) (hl : M.2.2.2.2.1.lookup pc = some .lastore) (h8 : w.1[108]? = some (.inr ((1, 1), .inr a))) :
    zG g d M sc (pc, lv, .long v :: .int 0 :: .ref 108 :: st, w) (pc + 1, lv, st, (w.1.set 108 (.inr ((1, 1), .inr (mx_s a 0 v))), w.2)) := by
  refine zl_step (call := fun _ _ _ => none) hg hW (fun _ _ _ _ _ q => by cases q) ?_
  have e1 : mx_pure .lastore (.long v :: .int 0 :: .ref 108 :: st) = none := rfl
  have e2 : mx_loc M.2.2.1.1 .lastore lv (.long v :: .int 0 :: .ref 108 :: st) = none := rfl
  have e3 : mx_br g.1 pc .lastore (.long v :: .int 0 :: .ref 108 :: st) = none := rfl
  have e4 : mx_mem g.1 sc M.2.2.2.2.2.2 M.2.2.2.2.2.1 .lastore (.long v :: .int 0 :: .ref 108 :: st) w = some (st, (w.1.set 108 (.inr ((1, 1), .inr (mx_s a 0 v))), w.2)) := by
    unfold mx_mem
    dsimp only
    rw [h8]
    rfl
  unfold mx_step; dsimp only; rw [hl]; dsimp only; rw [e1]; dsimp only; rw [e2]; dsimp only; rw [e3]; dsimp only; rw [e4]; rfl
