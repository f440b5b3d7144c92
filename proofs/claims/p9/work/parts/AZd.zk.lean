theorem rnd_c {μ m : zM} {T : Int} (h : ∀ j : Nat, 67 ≤ j → j ≤ 71 → m.1 j = μ.1 j) (nd : ∀ x : Int, 0 ≤ x → x < T → zNd μ x) : ∀ x : Int, 0 ≤ x → x < T → zNd m x := fun x a b => by
  have := nd x a b
  unfold zNd at this ⊢
  rw [h 67 (by decide) (by decide), h 68 (by decide) (by decide), h 69 (by decide) (by decide), h 70 (by decide) (by decide), h 71 (by decide) (by decide)]
  exact this
theorem rfr {fr : List yF} {D : Int} (h : (fr.length : Int) = D + 1) (hD : 0 ≤ D) : ∃ f r, fr = f :: r ∧ (r.length : Int) = D := by
  cases fr with
  | nil => simp at h; omega
  | cons a b => exact ⟨a, b, rfl, by simp only [List.length_cons] at h; omega⟩
def rW (μ : zM) : Prop := ∀ x : Int, 0 ≤ x → x < zTop μ → zNd μ x
theorem rFs_q {μ m : zM} {fr : List yF} {ws fs : List Nat} (h : rFs μ fr) (q : zfx ws fs μ m) (hw : [67, 68, 69, 70, 71, 100, 101, 102, 103, 104].all (fun j => !(ws.any (fun r => Nat.beq j r))) = true) (hf : fs.any (fun r => Nat.beq 8 r) = false) (nd : rW μ) : rFs m fr ∧ rW m := by
  simp only [List.all_cons, List.all_nil, Bool.and_true, Bool.and_eq_true, Bool.not_eq_true'] at hw
  obtain ⟨a67, a68, a69, a70, a71, a0, a1, a2, a3, a4⟩ := hw
  have ht : zTop m = zTop μ := q.2.1 8 hf
  have hj : ∀ j : Nat, 67 ≤ j → j ≤ 71 → m.1 j = μ.1 j := fun j a b => by
    have : j = 67 ∨ j = 68 ∨ j = 69 ∨ j = 70 ∨ j = 71 := by omega
    rcases this with e | e | e | e | e <;> subst e
    · exact q.1 67 (by decide) a67
    · exact q.1 68 (by decide) a68
    · exact q.1 69 (by decide) a69
    · exact q.1 70 (by decide) a70
    · exact q.1 71 (by decide) a71
  refine ⟨rFs_z h ⟨q.1 100 (by decide) a0, q.1 101 (by decide) a1, q.1 102 (by decide) a2, q.1 103 (by decide) a3⟩ (fun k _ _ => by rw [q.1 104 (by decide) a4]) (zOld_c hj) nd (by omega), fun x x0 x1 => rnd_c hj nd x x0 (by omega)⟩
theorem rFs_w {μ m : zM} {fr : List yF} {j : Nat} {k x : Int} (h : rFs μ fr) (e : m = zu μ j k x) (hj : (j = 66 ∧ k ≠ ((8 : Nat) : Int)) ∨ j = 74 ∨ (j = 104 ∧ (fr.length : Int) ≤ k)) (nd : rW μ) : rFs m fr ∧ rW m := by
  have ht : zTop m = zTop μ := by
    unfold zTop
    rw [e]
    by_cases q : j = 66
    · subst q; exact zu_nk (by omega)
    · rw [zu_ne (Ne.symm q)]
  have hn : ∀ i : Nat, i ≠ 66 → i ≠ 74 → i ≠ 104 → m.1 i = μ.1 i := fun i a b c => by rw [e, zu_ne (by omega)]
  refine ⟨rFs_z h ⟨hn 100 (by decide) (by decide) (by decide), hn 101 (by decide) (by decide) (by decide), hn 102 (by decide) (by decide) (by decide), hn 103 (by decide) (by decide) (by decide)⟩ (fun q q0 q1 => ?_) (zOld_c (fun i a b => hn i (by omega) (by omega) (by omega))) nd (by omega), fun x x0 x1 => rnd_c (fun i a b => hn i (by omega) (by omega) (by omega)) nd x x0 (by omega)⟩
  rw [e]
  by_cases c : j = 104
  · subst c; exact zu_nk (by omega)
  · rw [zu_ne (Ne.symm c)]
theorem rFs_m {μ m : zM} {fr : List yF} {ws fs : List Nat} {lo : Int} (h : rFs μ fr) (q : zfx ws fs μ m) (hw : [100, 101, 102, 103, 104].all (fun j => !(ws.any (fun r => Nat.beq j r))) = true) (ho : zOld μ m (zTop μ)) (ht : zTop μ ≤ zTop m) (hn : zND m lo) (nd : rW μ) : rFs m fr ∧ rW m := by
  simp only [List.all_cons, List.all_nil, Bool.and_true, Bool.and_eq_true, Bool.not_eq_true'] at hw
  obtain ⟨a0, a1, a2, a3, a4⟩ := hw
  exact ⟨rFs_z h ⟨q.1 100 (by decide) a0, q.1 101 (by decide) a1, q.1 102 (by decide) a2, q.1 103 (by decide) a3⟩ (fun k _ _ => by rw [q.1 104 (by decide) a4]) ho nd ht, hn.2.1⟩
theorem zMd_t {μ m : zM} {lo k v n x : Int} {p : Int → Int} (h : zMd μ m lo k v n p x) : zTop μ ≤ zTop m := by
  rcases h.2.2.1 with h | h <;> omega
theorem rLx_w {μ m : zM} {T : yT} {p : Int} {j : Nat} {k x : Int} (h : rLx μ T p) (e : m = zu μ j k x) (hj : (j = 66 ∧ (k = ((38 : Nat) : Int))) ∨ j = 74 ∨ j = 104) : rLx m T p := by
  refine rLx_f h (by rw [e, zu_ne (by omega)]) (fun i a b => ?_)
  rw [e]
  by_cases c : j = 66
  · subst c; exact zu_nk (by omega)
  · rw [zu_ne (Ne.symm c)]
theorem rNu_w {μ m : zM} {B : yB} {cb pb : Int} {j : Nat} {k x : Int} (h : rNg cb pb μ B) (e : m = zu μ j k x) (hj : j = 74 ∨ j = 104) : rNg cb pb m B := by
  refine rNu_f h (fun i hi => by rw [e, zu_ne (by omega)]) (fun i hi => by rw [e, zu_ne (by omega)])
theorem rNu_38 {μ m : zM} {B : yB} {cb pb : Int} {n x : Int} (h : rNg cb pb μ (yN B 0 2 n)) (e : m = zu μ 66 ((38 : Nat) : Int) x) : rNg cb pb m (yN B 0 2 x) := by
  have := rNu_n (μ' := m) (x := x) h (fun i hi => by rw [e, zu_ne (by omega)]) (fun i hi => by rw [e, zu_nk (by omega)]) (by rw [e, zu_at])
  rw [yN_N] at this
  exact this
theorem zrd2 {a b : Nat} (h : a < b) : 2 * a + 1 < 2 * b := by omega
def yk_X9_readType : zC := fun As μ Q => ∃ (a1 : Int) (a2 : Int) (a3 : Int) (lo : Int) (C : Int) (Pn : Int) (F : Int) (cf : Int → Int) (pa : Int) (pe : Int) (τ : yT) (p : Int) (B : yB) (cb : Int) (pb : Int), As = [.inr (.inr (66, 66)), .inl a1, .inl a2, .inl a3] ∧ ((-1) ≤ a1 ∧ a1 ≤ 20) ∧ (0 ≤ a2 ∧ a2 ≤ 4) ∧ (0 ≤ a3 ∧ a3 ≤ 1) ∧ (0 ≤ μ.1 66 ((33 : Nat) : Int) ∧ 0 ≤ μ.1 66 ((34 : Nat) : Int) ∧ μ.1 66 ((33 : Nat) : Int) + μ.1 66 ((34 : Nat) : Int) ≤ μ.1 66 ((31 : Nat) : Int) ∧ μ.1 66 ((31 : Nat) : Int) ≤ μ.1 66 ((30 : Nat) : Int) ∧ μ.1 66 ((30 : Nat) : Int) ≤ 800) ∧ (zND μ lo) ∧ (zWf μ lo (zTop μ) C Pn F cf) ∧ (μ.1 66 ((26 : Nat) : Int) ≤ C ∧ (0 ≤ a1 → μ.1 76 (μ.1 66 ((24 : Nat) : Int) + a1) + μ.1 77 (μ.1 66 ((24 : Nat) : Int) + a1) ≤ Pn) ∧ C ≤ 21 ∧ Pn ≤ 80) ∧ (∀ v : Int, 0 ≤ v → v < C → cf v = μ.1 77 (μ.1 66 ((24 : Nat) : Int) + v)) ∧ (μ.1 66 ((8 : Nat) : Int) - μ.1 66 ((38 : Nat) : Int) ≤ 19699 ∧ 0 ≤ μ.1 66 ((38 : Nat) : Int) ∧ μ.1 66 ((38 : Nat) : Int) ≤ 300) ∧ (0 ≤ a1 → pa ≤ μ.1 76 (μ.1 66 ((24 : Nat) : Int) + a1) ∧ μ.1 76 (μ.1 66 ((24 : Nat) : Int) + a1) + μ.1 77 (μ.1 66 ((24 : Nat) : Int) + a1) ≤ pe) ∧ (rLx μ τ p ∧ rNg cb pb μ B) ∧ (yI0 B ∧ a1 = B.1 0 3) ∧ (a2 = B.1 0 4 ∧ a3 = (if B.1 0 5 = 0 then 0 else 1)) ∧ (C = B.1 0 0) ∧ (∀ (v : Int) (μ' : zM), zfx [67, 68, 69, 70, 71, 72, 73, 74, 100, 101, 102, 103, 104] [8, 31, 32, 33, 34, 35, 36, 38] μ μ' → (-1) ≤ v → v ≤ 19999 → (0 ≤ μ'.1 66 ((33 : Nat) : Int) ∧ 0 ≤ μ'.1 66 ((34 : Nat) : Int) ∧ μ'.1 66 ((33 : Nat) : Int) + μ'.1 66 ((34 : Nat) : Int) ≤ μ'.1 66 ((31 : Nat) : Int) ∧ μ'.1 66 ((31 : Nat) : Int) ≤ μ'.1 66 ((30 : Nat) : Int) ∧ μ'.1 66 ((30 : Nat) : Int) ≤ 800) → (μ'.1 66 ((30 : Nat) : Int) = μ.1 66 ((30 : Nat) : Int)) → (zTE μ μ' lo C Pn F cf) → (0 ≤ μ'.1 66 ((38 : Nat) : Int) ∧ μ'.1 66 ((38 : Nat) : Int) ≤ 300) → (v = -1 ∨ zrm μ' ≤ zrm μ) → (v = -1 ∨ (lo ≤ v ∧ v < zTop μ' ∧ μ'.1 67 v ≤ 1 ∧ (a2 ≤ 1 → μ'.1 67 v = 0) ∧ (a2 = 1 → μ'.1 68 v ≠ a1 ∧ ∀ i : Int, 0 ≤ i → i < μ'.1 69 v → μ'.1 67 (μ'.1 70 (4 * v + i)) ≤ 2) ∧ zPar μ' pa pe v ∧ μ'.1 71 v ≤ zTn μ μ')) → (a3 = 0 ∨ v = -1) → ((v = -1 ∧ rFa τ (10, p, 0, [], B) μ') ∨ (0 ≤ v ∧ ∃ p' n h as, yR τ (10, p, 0, [], B) (14, p', 0, [(0, h, as)], yN B 0 2 n) ∧ rLx μ' τ p' ∧ rNg cb pb μ' (yN B 0 2 n) ∧ rE μ' v (h :: as.flatten))) → Q (some (.inl v)) μ')
abbrev yi_X9_readType (μ : zM) (a1 : Int) (a2 : Int) (a3 : Int) (lo : Int) (C : Int) (Pn : Int) (F : Int) (cf : Int → Int) (pa : Int) (pe : Int) (τ : yT) (p : Int) (B : yB) (cb : Int) (pb : Int) : Nat → List zV → zM → Nat → Prop := fun pc vs μ' n => (pc = 13 → ∃ (v1 : Int) (v2 : Int) (v3 : Int) (v4 : Int) (v5 : Int), vs = [.inr (.inr (66, 66)), .inl v1, .inl v2, .inl v3, .inl v4, .inl v5] ∧ zfx [67, 68, 69, 70, 71, 72, 73, 74, 100, 101, 102, 103, 104] [8, 31, 32, 33, 34, 35, 36, 38] μ μ' ∧ ((-1) ≤ v1 ∧ v1 ≤ 20) ∧ (0 ≤ v2 ∧ v2 ≤ 4) ∧ (0 ≤ v3 ∧ v3 ≤ 1) ∧ (0 ≤ v4 ∧ v4 ≤ 8) ∧ (0 ≤ v5 ∧ v5 ≤ 3) ∧ (v1 = a1 ∧ v2 = a2 ∧ v3 = a3) ∧ (0 ≤ μ'.1 66 ((33 : Nat) : Int) ∧ 0 ≤ μ'.1 66 ((34 : Nat) : Int) ∧ μ'.1 66 ((33 : Nat) : Int) + μ'.1 66 ((34 : Nat) : Int) ≤ μ'.1 66 ((31 : Nat) : Int) ∧ μ'.1 66 ((31 : Nat) : Int) ≤ μ'.1 66 ((30 : Nat) : Int) ∧ μ'.1 66 ((30 : Nat) : Int) ≤ 800) ∧ (μ'.1 66 ((30 : Nat) : Int) = μ.1 66 ((30 : Nat) : Int)) ∧ ((v5 = 0 → zTI μ μ' lo C Pn F cf pa pe v1 v2 v4 0 0 (zwb μ' v4) (zwb μ' v4)) ∧ (v5 ≠ 0 → zTI μ μ' lo C Pn F cf pa pe v1 v2 v4 1 0 0 0)) ∧ (v5 = 1 ∨ v5 = 3 → μ'.1 100 v4 = 0) ∧ (v5 = 0 ∨ v4 ≤ 7) ∧ (zrm μ' ≤ zrm μ) ∧ (0 ≤ μ'.1 66 ((38 : Nat) : Int) ∧ μ'.1 66 ((38 : Nat) : Int) ≤ 300) ∧ ((v5 = 0 ∧ v4 = 0) ∨ v3 = 0) ∧ (rRT cb pb τ (10, p, 0, [], B) B v4 v5 μ') ∧ n = (2 * zrT μ' v5 + 1)) ∧ (pc = 18 → ∃ (v1 : Int) (v2 : Int) (v3 : Int) (v4 : Int) (v5 : Int), vs = [.inr (.inr (66, 66)), .inl v1, .inl v2, .inl v3, .inl v4, .inl v5] ∧ zfx [67, 68, 69, 70, 71, 72, 73, 74, 100, 101, 102, 103, 104] [8, 31, 32, 33, 34, 35, 36, 38] μ μ' ∧ ((-1) ≤ v1 ∧ v1 ≤ 20) ∧ (0 ≤ v2 ∧ v2 ≤ 4) ∧ (0 ≤ v3 ∧ v3 ≤ 1) ∧ (0 ≤ v4 ∧ v4 ≤ 8) ∧ (0 ≤ v5 ∧ v5 ≤ 3) ∧ (v1 = a1 ∧ v2 = a2 ∧ v3 = a3) ∧ (0 ≤ μ'.1 66 ((33 : Nat) : Int) ∧ 0 ≤ μ'.1 66 ((34 : Nat) : Int) ∧ μ'.1 66 ((33 : Nat) : Int) + μ'.1 66 ((34 : Nat) : Int) ≤ μ'.1 66 ((31 : Nat) : Int) ∧ μ'.1 66 ((31 : Nat) : Int) ≤ μ'.1 66 ((30 : Nat) : Int) ∧ μ'.1 66 ((30 : Nat) : Int) ≤ 800) ∧ (μ'.1 66 ((30 : Nat) : Int) = μ.1 66 ((30 : Nat) : Int)) ∧ ((v5 = 0 → zTI μ μ' lo C Pn F cf pa pe v1 v2 v4 0 0 (zwb μ' v4) (zwb μ' v4)) ∧ (v5 ≠ 0 → zTI μ μ' lo C Pn F cf pa pe v1 v2 v4 1 0 0 0)) ∧ (v5 = 1 ∨ v5 = 3 → μ'.1 100 v4 = 0) ∧ (v5 = 0 ∨ v4 ≤ 7) ∧ (zrm μ' ≤ zrm μ) ∧ (0 ≤ μ'.1 66 ((38 : Nat) : Int) ∧ μ'.1 66 ((38 : Nat) : Int) ≤ 300) ∧ ((v5 = 0 ∧ v4 = 0) ∨ v3 = 0) ∧ (rRT cb pb τ (10, p, 0, [], B) B v4 v5 μ') ∧ (v5 = 0) ∧ n = (2 * zrT μ' v5)) ∧ (pc = 111 → ∃ (v1 : Int) (v2 : Int) (v3 : Int) (v4 : Int) (v5 : Int), vs = [.inr (.inr (66, 66)), .inl v1, .inl v2, .inl v3, .inl v4, .inl v5] ∧ zfx [67, 68, 69, 70, 71, 72, 73, 74, 100, 101, 102, 103, 104] [8, 31, 32, 33, 34, 35, 36, 38] μ μ' ∧ ((-1) ≤ v1 ∧ v1 ≤ 20) ∧ (0 ≤ v2 ∧ v2 ≤ 4) ∧ (0 ≤ v3 ∧ v3 ≤ 1) ∧ (0 ≤ v4 ∧ v4 ≤ 8) ∧ (0 ≤ v5 ∧ v5 ≤ 3) ∧ (v1 = a1 ∧ v2 = a2 ∧ v3 = a3) ∧ (0 ≤ μ'.1 66 ((33 : Nat) : Int) ∧ 0 ≤ μ'.1 66 ((34 : Nat) : Int) ∧ μ'.1 66 ((33 : Nat) : Int) + μ'.1 66 ((34 : Nat) : Int) ≤ μ'.1 66 ((31 : Nat) : Int) ∧ μ'.1 66 ((31 : Nat) : Int) ≤ μ'.1 66 ((30 : Nat) : Int) ∧ μ'.1 66 ((30 : Nat) : Int) ≤ 800) ∧ (μ'.1 66 ((30 : Nat) : Int) = μ.1 66 ((30 : Nat) : Int)) ∧ ((v5 = 0 → zTI μ μ' lo C Pn F cf pa pe v1 v2 v4 0 0 (zwb μ' v4) (zwb μ' v4)) ∧ (v5 ≠ 0 → zTI μ μ' lo C Pn F cf pa pe v1 v2 v4 1 0 0 0)) ∧ (v5 = 1 ∨ v5 = 3 → μ'.1 100 v4 = 0) ∧ (v5 = 0 ∨ v4 ≤ 7) ∧ (zrm μ' ≤ zrm μ) ∧ (0 ≤ μ'.1 66 ((38 : Nat) : Int) ∧ μ'.1 66 ((38 : Nat) : Int) ≤ 300) ∧ ((v5 = 0 ∧ v4 = 0) ∨ v3 = 0) ∧ (rRT cb pb τ (10, p, 0, [], B) B v4 v5 μ') ∧ (v5 = 1) ∧ n = (2 * zrT μ' v5)) ∧ (pc = 272 → ∃ (v1 : Int) (v2 : Int) (v3 : Int) (v4 : Int) (v5 : Int), vs = [.inr (.inr (66, 66)), .inl v1, .inl v2, .inl v3, .inl v4, .inl v5] ∧ zfx [67, 68, 69, 70, 71, 72, 73, 74, 100, 101, 102, 103, 104] [8, 31, 32, 33, 34, 35, 36, 38] μ μ' ∧ ((-1) ≤ v1 ∧ v1 ≤ 20) ∧ (0 ≤ v2 ∧ v2 ≤ 4) ∧ (0 ≤ v3 ∧ v3 ≤ 1) ∧ (0 ≤ v4 ∧ v4 ≤ 8) ∧ (0 ≤ v5 ∧ v5 ≤ 3) ∧ (v1 = a1 ∧ v2 = a2 ∧ v3 = a3) ∧ (0 ≤ μ'.1 66 ((33 : Nat) : Int) ∧ 0 ≤ μ'.1 66 ((34 : Nat) : Int) ∧ μ'.1 66 ((33 : Nat) : Int) + μ'.1 66 ((34 : Nat) : Int) ≤ μ'.1 66 ((31 : Nat) : Int) ∧ μ'.1 66 ((31 : Nat) : Int) ≤ μ'.1 66 ((30 : Nat) : Int) ∧ μ'.1 66 ((30 : Nat) : Int) ≤ 800) ∧ (μ'.1 66 ((30 : Nat) : Int) = μ.1 66 ((30 : Nat) : Int)) ∧ ((v5 = 0 → zTI μ μ' lo C Pn F cf pa pe v1 v2 v4 0 0 (zwb μ' v4) (zwb μ' v4)) ∧ (v5 ≠ 0 → zTI μ μ' lo C Pn F cf pa pe v1 v2 v4 1 0 0 0)) ∧ (v5 = 1 ∨ v5 = 3 → μ'.1 100 v4 = 0) ∧ (v5 = 0 ∨ v4 ≤ 7) ∧ (zrm μ' ≤ zrm μ) ∧ (0 ≤ μ'.1 66 ((38 : Nat) : Int) ∧ μ'.1 66 ((38 : Nat) : Int) ≤ 300) ∧ ((v5 = 0 ∧ v4 = 0) ∨ v3 = 0) ∧ (rRT cb pb τ (10, p, 0, [], B) B v4 v5 μ') ∧ (v5 = 2) ∧ n = (2 * zrT μ' v5)) ∧ (pc = 403 → ∃ (v1 : Int) (v2 : Int) (v3 : Int) (v4 : Int) (v5 : Int), vs = [.inr (.inr (66, 66)), .inl v1, .inl v2, .inl v3, .inl v4, .inl v5] ∧ zfx [67, 68, 69, 70, 71, 72, 73, 74, 100, 101, 102, 103, 104] [8, 31, 32, 33, 34, 35, 36, 38] μ μ' ∧ ((-1) ≤ v1 ∧ v1 ≤ 20) ∧ (0 ≤ v2 ∧ v2 ≤ 4) ∧ (0 ≤ v3 ∧ v3 ≤ 1) ∧ (0 ≤ v4 ∧ v4 ≤ 8) ∧ (0 ≤ v5 ∧ v5 ≤ 3) ∧ (v1 = a1 ∧ v2 = a2 ∧ v3 = a3) ∧ (0 ≤ μ'.1 66 ((33 : Nat) : Int) ∧ 0 ≤ μ'.1 66 ((34 : Nat) : Int) ∧ μ'.1 66 ((33 : Nat) : Int) + μ'.1 66 ((34 : Nat) : Int) ≤ μ'.1 66 ((31 : Nat) : Int) ∧ μ'.1 66 ((31 : Nat) : Int) ≤ μ'.1 66 ((30 : Nat) : Int) ∧ μ'.1 66 ((30 : Nat) : Int) ≤ 800) ∧ (μ'.1 66 ((30 : Nat) : Int) = μ.1 66 ((30 : Nat) : Int)) ∧ ((v5 = 0 → zTI μ μ' lo C Pn F cf pa pe v1 v2 v4 0 0 (zwb μ' v4) (zwb μ' v4)) ∧ (v5 ≠ 0 → zTI μ μ' lo C Pn F cf pa pe v1 v2 v4 1 0 0 0)) ∧ (v5 = 1 ∨ v5 = 3 → μ'.1 100 v4 = 0) ∧ (v5 = 0 ∨ v4 ≤ 7) ∧ (zrm μ' ≤ zrm μ) ∧ (0 ≤ μ'.1 66 ((38 : Nat) : Int) ∧ μ'.1 66 ((38 : Nat) : Int) ≤ 300) ∧ ((v5 = 0 ∧ v4 = 0) ∨ v3 = 0) ∧ (rRT cb pb τ (10, p, 0, [], B) B v4 v5 μ') ∧ (v5 = 3) ∧ n = (2 * zrT μ' v5))
set_option maxHeartbeats 4000000 in
theorem ym_X9_readType_13 {g : zΓ} (hg : zg g) (d : Nat) (hd : 5 ≤ d + 1) (μ : zM) (Q : Option zV → zM → Prop) (a1 : Int) (a2 : Int) (a3 : Int) (lo : Int) (C : Int) (Pn : Int) (F : Int) (cf : Int → Int) (pa : Int) (pe : Int) (τ : yT) (p : Int) (B : yB) (cb : Int) (pb : Int) (ha1 : ((-1) ≤ a1 ∧ a1 ≤ 20)) (ha2 : (0 ≤ a2 ∧ a2 ≤ 4)) (ha3 : (0 ≤ a3 ∧ a3 ≤ 1)) (hp0 : (0 ≤ μ.1 66 ((33 : Nat) : Int) ∧ 0 ≤ μ.1 66 ((34 : Nat) : Int) ∧ μ.1 66 ((33 : Nat) : Int) + μ.1 66 ((34 : Nat) : Int) ≤ μ.1 66 ((31 : Nat) : Int) ∧ μ.1 66 ((31 : Nat) : Int) ≤ μ.1 66 ((30 : Nat) : Int) ∧ μ.1 66 ((30 : Nat) : Int) ≤ 800)) (hp1 : (zND μ lo)) (hp2 : (zWf μ lo (zTop μ) C Pn F cf)) (hp3 : (μ.1 66 ((26 : Nat) : Int) ≤ C ∧ (0 ≤ a1 → μ.1 76 (μ.1 66 ((24 : Nat) : Int) + a1) + μ.1 77 (μ.1 66 ((24 : Nat) : Int) + a1) ≤ Pn) ∧ C ≤ 21 ∧ Pn ≤ 80)) (hp4 : (∀ v : Int, 0 ≤ v → v < C → cf v = μ.1 77 (μ.1 66 ((24 : Nat) : Int) + v))) (hp5 : (μ.1 66 ((8 : Nat) : Int) - μ.1 66 ((38 : Nat) : Int) ≤ 19699 ∧ 0 ≤ μ.1 66 ((38 : Nat) : Int) ∧ μ.1 66 ((38 : Nat) : Int) ≤ 300)) (hp6 : (0 ≤ a1 → pa ≤ μ.1 76 (μ.1 66 ((24 : Nat) : Int) + a1) ∧ μ.1 76 (μ.1 66 ((24 : Nat) : Int) + a1) + μ.1 77 (μ.1 66 ((24 : Nat) : Int) + a1) ≤ pe)) (hp7 : (rLx μ τ p ∧ rNg cb pb μ B)) (hp8 : (yI0 B ∧ a1 = B.1 0 3)) (hp9 : (a2 = B.1 0 4 ∧ a3 = (if B.1 0 5 = 0 then 0 else 1))) (hp10 : (C = B.1 0 0)) (hQ : ∀ (v : Int) (μ' : zM), zfx [67, 68, 69, 70, 71, 72, 73, 74, 100, 101, 102, 103, 104] [8, 31, 32, 33, 34, 35, 36, 38] μ μ' → (-1) ≤ v → v ≤ 19999 → (0 ≤ μ'.1 66 ((33 : Nat) : Int) ∧ 0 ≤ μ'.1 66 ((34 : Nat) : Int) ∧ μ'.1 66 ((33 : Nat) : Int) + μ'.1 66 ((34 : Nat) : Int) ≤ μ'.1 66 ((31 : Nat) : Int) ∧ μ'.1 66 ((31 : Nat) : Int) ≤ μ'.1 66 ((30 : Nat) : Int) ∧ μ'.1 66 ((30 : Nat) : Int) ≤ 800) → (μ'.1 66 ((30 : Nat) : Int) = μ.1 66 ((30 : Nat) : Int)) → (zTE μ μ' lo C Pn F cf) → (0 ≤ μ'.1 66 ((38 : Nat) : Int) ∧ μ'.1 66 ((38 : Nat) : Int) ≤ 300) → (v = -1 ∨ zrm μ' ≤ zrm μ) → (v = -1 ∨ (lo ≤ v ∧ v < zTop μ' ∧ μ'.1 67 v ≤ 1 ∧ (a2 ≤ 1 → μ'.1 67 v = 0) ∧ (a2 = 1 → μ'.1 68 v ≠ a1 ∧ ∀ i : Int, 0 ≤ i → i < μ'.1 69 v → μ'.1 67 (μ'.1 70 (4 * v + i)) ≤ 2) ∧ zPar μ' pa pe v ∧ μ'.1 71 v ≤ zTn μ μ')) → (a3 = 0 ∨ v = -1) → ((v = -1 ∧ rFa τ (10, p, 0, [], B) μ') ∨ (0 ≤ v ∧ ∃ p' n h as, yR τ (10, p, 0, [], B) (14, p', 0, [(0, h, as)], yN B 0 2 n) ∧ rLx μ' τ p' ∧ rNg cb pb μ' (yN B 0 2 n) ∧ rE μ' v (h :: as.flatten))) → Q (some (.inl v)) μ') : ∀ (vs : List zV) (m0 : zM) (n : Nat), yi_X9_readType μ a1 a2 a3 lo C Pn F cf pa pe τ p B cb pb 13 vs m0 n → zw (zOk g d) mt_X9_readType ([(13, [0, 1, 2, 3, 4, 5]), (18, [0, 1, 2, 3, 4, 5]), (111, [0, 1, 2, 3, 4, 5]), (272, [0, 1, 2, 3, 4, 5]), (403, [0, 1, 2, 3, 4, 5])], []) (fun pc' vs' μ'' => ∃ n', n' < n ∧ yi_X9_readType μ a1 a2 a3 lo C Pn F cf pa pe τ p B cb pb pc' vs' μ'' n') Q (fun _ _ => False) 246 true (zsuf 13 mt_X9_readType.2.2.2.2.1) (zzip [0, 1, 2, 3, 4, 5] vs) [] m0 := by
  obtain ⟨g1, wg1⟩ : ∃ z : Int, μ.1 66 ((31 : Nat) : Int) = z := ⟨_, rfl⟩
  obtain ⟨g2, wg2⟩ : ∃ z : Int, μ.1 66 ((30 : Nat) : Int) = z := ⟨_, rfl⟩
  obtain ⟨g3, wg3⟩ : ∃ z : Int, μ.1 66 ((33 : Nat) : Int) = z := ⟨_, rfl⟩
  obtain ⟨g4, wg4⟩ : ∃ z : Int, μ.1 66 ((34 : Nat) : Int) = z := ⟨_, rfl⟩
  obtain ⟨g5, wg5⟩ : ∃ z : Int, μ.1 66 ((32 : Nat) : Int) = z := ⟨_, rfl⟩
  obtain ⟨g6, wg6⟩ : ∃ z : Int, μ.1 66 ((38 : Nat) : Int) = z := ⟨_, rfl⟩
  obtain ⟨g7, wg7⟩ : ∃ z : Int, μ.1 66 ((8 : Nat) : Int) = z := ⟨_, rfl⟩
  try rw [wg1] at hp0
  try rw [wg2] at hp0
  try rw [wg3] at hp0
  try rw [wg4] at hp0
  try rw [wg5] at hp0
  try rw [wg6] at hp0
  try rw [wg7] at hp0
  try rw [wg1] at hp1
  try rw [wg2] at hp1
  try rw [wg3] at hp1
  try rw [wg4] at hp1
  try rw [wg5] at hp1
  try rw [wg6] at hp1
  try rw [wg7] at hp1
  try rw [wg1] at hp2
  try rw [wg2] at hp2
  try rw [wg3] at hp2
  try rw [wg4] at hp2
  try rw [wg5] at hp2
  try rw [wg6] at hp2
  try rw [wg7] at hp2
  try rw [wg1] at hp3
  try rw [wg2] at hp3
  try rw [wg3] at hp3
  try rw [wg4] at hp3
  try rw [wg5] at hp3
  try rw [wg6] at hp3
  try rw [wg7] at hp3
  try rw [wg1] at hp4
  try rw [wg2] at hp4
  try rw [wg3] at hp4
  try rw [wg4] at hp4
  try rw [wg5] at hp4
  try rw [wg6] at hp4
  try rw [wg7] at hp4
  try rw [wg1] at hp5
  try rw [wg2] at hp5
  try rw [wg3] at hp5
  try rw [wg4] at hp5
  try rw [wg5] at hp5
  try rw [wg6] at hp5
  try rw [wg7] at hp5
  try rw [wg1] at hp6
  try rw [wg2] at hp6
  try rw [wg3] at hp6
  try rw [wg4] at hp6
  try rw [wg5] at hp6
  try rw [wg6] at hp6
  try rw [wg7] at hp6
  try rw [wg1] at hp7
  try rw [wg2] at hp7
  try rw [wg3] at hp7
  try rw [wg4] at hp7
  try rw [wg5] at hp7
  try rw [wg6] at hp7
  try rw [wg7] at hp7
  try rw [wg1] at hp8
  try rw [wg2] at hp8
  try rw [wg3] at hp8
  try rw [wg4] at hp8
  try rw [wg5] at hp8
  try rw [wg6] at hp8
  try rw [wg7] at hp8
  try rw [wg1] at hp9
  try rw [wg2] at hp9
  try rw [wg3] at hp9
  try rw [wg4] at hp9
  try rw [wg5] at hp9
  try rw [wg6] at hp9
  try rw [wg7] at hp9
  try rw [wg1] at hp10
  try rw [wg2] at hp10
  try rw [wg3] at hp10
  try rw [wg4] at hp10
  try rw [wg5] at hp10
  try rw [wg6] at hp10
  try rw [wg7] at hp10
  have z0 : zfx [67, 68, 69, 70, 71, 72, 73, 74, 100, 101, 102, 103, 104] [8, 31, 32, 33, 34, 35, 36, 38] μ μ := zfx_x μ
  intro vs m0 n hI
  replace hI := hI.1 rfl
  clear z0
  obtain ⟨v1, v2, v3, v4, v5, rfl, z0, hv1, hv2, hv3, hv4, hv5, i0, i1, i2, i3, i4, i5, i6, i7, i8, i9, rfl⟩ := hI
  refine And.intro ⟨by omega, by omega⟩ (And.intro (fun c17 => ?_) (fun c17 => ?_))
  · refine And.intro ⟨⟨by omega, by omega⟩, ⟨by omega, by omega⟩⟩ (And.intro (fun c18 => ?_) (fun c18 => ?_))
    · refine And.intro ⟨⟨by omega, by omega⟩, ⟨by omega, by omega⟩⟩ (And.intro (fun c19 => ?_) (fun c19 => ?_))
      · refine Exists.intro (2 * zrT m0 v5) (And.intro (by omega) ?_)
        exact ⟨(fun h => absurd h (by decide)), (fun h => absurd h (by decide)), (fun h => absurd h (by decide)), (fun h => absurd h (by decide)), (fun _ => ⟨_, _, _, _, _, rfl, z0, ⟨by omega, by omega⟩, ⟨by omega, by omega⟩, ⟨by omega, by omega⟩, ⟨by omega, by omega⟩, ⟨by omega, by omega⟩, i0, i1, i2, i3, i4, i5, i6, i7, i8, i9, (by omega), rfl⟩)⟩
      · refine Exists.intro (2 * zrT m0 v5) (And.intro (by omega) ?_)
        exact ⟨(fun h => absurd h (by decide)), (fun h => absurd h (by decide)), (fun h => absurd h (by decide)), (fun _ => ⟨_, _, _, _, _, rfl, z0, ⟨by omega, by omega⟩, ⟨by omega, by omega⟩, ⟨by omega, by omega⟩, ⟨by omega, by omega⟩, ⟨by omega, by omega⟩, i0, i1, i2, i3, i4, i5, i6, i7, i8, i9, (by omega), rfl⟩), (fun h => absurd h (by decide))⟩
    · refine Exists.intro (2 * zrT m0 v5) (And.intro (by omega) ?_)
      exact ⟨(fun h => absurd h (by decide)), (fun h => absurd h (by decide)), (fun _ => ⟨_, _, _, _, _, rfl, z0, ⟨by omega, by omega⟩, ⟨by omega, by omega⟩, ⟨by omega, by omega⟩, ⟨by omega, by omega⟩, ⟨by omega, by omega⟩, i0, i1, i2, i3, i4, i5, i6, i7, i8, i9, (by omega), rfl⟩), (fun h => absurd h (by decide)), (fun h => absurd h (by decide))⟩
  · refine Exists.intro (2 * zrT m0 v5) (And.intro (by omega) ?_)
    exact ⟨(fun h => absurd h (by decide)), (fun _ => ⟨_, _, _, _, _, rfl, z0, ⟨by omega, by omega⟩, ⟨by omega, by omega⟩, ⟨by omega, by omega⟩, ⟨by omega, by omega⟩, ⟨by omega, by omega⟩, i0, i1, i2, i3, i4, i5, i6, i7, i8, i9, (by omega), rfl⟩), (fun h => absurd h (by decide)), (fun h => absurd h (by decide)), (fun h => absurd h (by decide))⟩
