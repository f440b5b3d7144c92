/-! ### Math.max and Math.min, by the library's contracts -/
theorem zrm0 {s : State} {pl : Platform} {r : Room} (h : s.hasRoom pl r = true) : s.hasRoom pl {} = true := by
  unfold State.hasRoom at h ⊢
  simp only [Bool.and_eq_true, decide_eq_true_eq] at h ⊢
  obtain ⟨⟨⟨⟨h1, h2⟩, h3⟩, h4⟩, h5⟩ := h
  refine ⟨⟨⟨⟨?_, ?_⟩, ?_⟩, ?_⟩, h5⟩
  · show s.localsInUse + 0 + stackMargin ≤ realStackBytes / 8
    omega
  · refine ⟨?_, ?_, ?_, ?_, h2.2.2.2.2⟩
    · show s.frames.length + 0 ≤ _
      omega
    · show s.frames.length + 0 ≤ _
      omega
    · show s.localsInUse + 0 ≤ _
      omega
    · show s.localsInUse + 0 ≤ _
      omega
  · show Array.size s.heap + 0 ≤ _
    omega
  · show s.slotsUsed + 0 ≤ _
    omega
theorem znew0 {s t : State} (h : s.sameBut t []) : s.sameButNew t [] 0 0 ∧ t.vm = s.vm ∧ t.heap = s.heap := by
  obtain ⟨h1, h2, h3⟩ := h
  have hu : t.slotsUsed = s.slotsUsed := by rw [h1]; rfl
  have hd : List.drop (Array.size s.heap) t.heap.toList = [] := by
    apply List.drop_eq_nil_of_le
    rw [Array.length_toList]
    exact Nat.le_of_eq h2
  have h4 : s.sameButNew t [] 0 0 := by
    refine ⟨?_, Nat.le_of_eq h2.symm, Nat.le_of_eq (by omega), by rw [hd]; simpa using hu, by rw [hd]; simp, h3⟩
    rw [hu]
    exact h1
  exact ⟨h4, by rw [h1]; rfl, Jvm.Free.SL1IndexOf.heapEq0 h4⟩
set_option maxHeartbeats 2000000 in
theorem zmax2 {g : zΓ} (hg : zg g) {d : Nat} {x y : Int32} {w : mW} : zMet g (d + 1) 193 [.int x, .int y] w (some (.int (if x < y then y else x))) w := by
  intro M hM
  cases (zg_at hg (show mt_tab[193]? = some mt_J9_max_7cf53 from rfl)).symm.trans hM
  intro p e ha hc hk s m args below hf happ hP _
  obtain ⟨rfl, hE, hK, hR, hLS⟩ := hP
  have hcode : (Cond.code Jvm.Lib.MathLoose.max_int.x Jvm.Lib.MathLoose.max_int.code 2 (some .int)).before #[.int x, .int y] s = true := mx_at_use (q := 327) (by decide +kernel) hE
  have happ' : Jvm.Lib.MathLoose.max_int.spec.appliesLoose Jvm.Lib.MathLoose.max_int.x e.platform s = true := by
    unfold Spec.appliesLoose at happ ⊢
    rw [hf] at happ ⊢
    simp only [Bool.and_eq_true] at happ ⊢
    refine ⟨⟨happ.1.1, zrm0 happ.1.2⟩, ?_⟩
    simp only [Jvm.Lib.MathLoose.max_int.spec, Cond.before_and, Bool.and_eq_true]
    exact ⟨hcode, rfl, rfl, rfl⟩
  obtain ⟨n, o, q1, q2, q3, q4, q5⟩ := Jvm.Lib.MathLoose.max_int.meetsLoose g.2.2.1 p e ha hc hk s m _ below hf happ'
  obtain ⟨k1, k2, k3⟩ := znew0 (show s.sameBut (stepsAlone p.tables e n s) [] from q5)
  have q6 : Jvm.Lib.MathLoose.max_int.spec.post.after #[.int x, .int y] s o (stepsAlone p.tables e n s) = true := q4
  clear q4
  have ho : o = .returned (some (.int (if x < y then y else x))) := by
    cases o with
    | returned v =>
      by_cases h1 : x < y
      · rw [if_pos h1]
        rcases v with _ | w
        · simp [Jvm.Lib.MathLoose.max_int.spec, Cond.after, Cond.holds, Cond.value, Term.eval, h1] at q6
        · cases w <;> simp [Jvm.Lib.MathLoose.max_int.spec, Cond.after, Cond.holds, Cond.value, Term.eval, h1] at q6
          rename_i r
          by_cases hr : r = y <;> simp [hr] at q6 ⊢
      · rw [if_neg h1]
        rcases v with _ | w
        · simp [Jvm.Lib.MathLoose.max_int.spec, Cond.after, Cond.holds, Cond.value, Term.eval, h1] at q6
        · cases w <;> simp [Jvm.Lib.MathLoose.max_int.spec, Cond.after, Cond.holds, Cond.value, Term.eval, h1] at q6
          simp [q6]
    | threw a =>
      by_cases h1 : x < y <;> simp [Jvm.Lib.MathLoose.max_int.spec, Cond.after, Cond.holds, Cond.value, Term.eval, h1] at q6
  refine ⟨n, o, q1, q2, q3, ⟨ho, by rw [k3]; exact hR, by rw [k3]; exact Nat.le_refl _, fun q _ _ => by rw [k3]⟩, [], ?_, fun q hq => by cases hq⟩
  refine ⟨⟨_, ho⟩, by rw [k2]; exact State.WarmedH.refl s, ?_⟩
  rw [← k2]
  simp only [Nat.sub_self]
  exact k1
set_option maxHeartbeats 2000000 in
theorem zmin2 {g : zΓ} (hg : zg g) {d : Nat} {x y : Int32} {w : mW} : zMet g (d + 1) 194 [.int x, .int y] w (some (.int (if y < x then y else x))) w := by
  intro M hM
  cases (zg_at hg (show mt_tab[194]? = some mt_J9_min_7cf53 from rfl)).symm.trans hM
  intro p e ha hc hk s m args below hf happ hP _
  obtain ⟨rfl, hE, hK, hR, hLS⟩ := hP
  have hcode : (Cond.code Jvm.Lib.MathLoose.min_int.x Jvm.Lib.MathLoose.min_int.code 2 (some .int)).before #[.int x, .int y] s = true := mx_at_use (q := 330) (by decide +kernel) hE
  have happ' : Jvm.Lib.MathLoose.min_int.spec.appliesLoose Jvm.Lib.MathLoose.min_int.x e.platform s = true := by
    unfold Spec.appliesLoose at happ ⊢
    rw [hf] at happ ⊢
    simp only [Bool.and_eq_true] at happ ⊢
    refine ⟨⟨happ.1.1, zrm0 happ.1.2⟩, ?_⟩
    simp only [Jvm.Lib.MathLoose.min_int.spec, Cond.before_and, Bool.and_eq_true]
    exact ⟨hcode, rfl, rfl, rfl⟩
  obtain ⟨n, o, q1, q2, q3, q4, q5⟩ := Jvm.Lib.MathLoose.min_int.meetsLoose g.2.2.1 p e ha hc hk s m _ below hf happ'
  obtain ⟨k1, k2, k3⟩ := znew0 (show s.sameBut (stepsAlone p.tables e n s) [] from q5)
  have q6 : Jvm.Lib.MathLoose.min_int.spec.post.after #[.int x, .int y] s o (stepsAlone p.tables e n s) = true := q4
  clear q4
  have ho : o = .returned (some (.int (if y < x then y else x))) := by
    cases o with
    | returned v =>
      by_cases h1 : y < x
      · rw [if_pos h1]
        rcases v with _ | w
        · simp [Jvm.Lib.MathLoose.min_int.spec, Cond.after, Cond.holds, Cond.value, Term.eval, h1] at q6
        · cases w <;> simp [Jvm.Lib.MathLoose.min_int.spec, Cond.after, Cond.holds, Cond.value, Term.eval, h1] at q6
          rename_i r
          by_cases hr : r = y <;> simp [hr] at q6 ⊢
      · rw [if_neg h1]
        rcases v with _ | w
        · simp [Jvm.Lib.MathLoose.min_int.spec, Cond.after, Cond.holds, Cond.value, Term.eval, h1] at q6
        · cases w <;> simp [Jvm.Lib.MathLoose.min_int.spec, Cond.after, Cond.holds, Cond.value, Term.eval, h1] at q6
          simp [q6]
    | threw a =>
      by_cases h1 : y < x <;> simp [Jvm.Lib.MathLoose.min_int.spec, Cond.after, Cond.holds, Cond.value, Term.eval, h1] at q6
  refine ⟨n, o, q1, q2, q3, ⟨ho, by rw [k3]; exact hR, by rw [k3]; exact Nat.le_refl _, fun q _ _ => by rw [k3]⟩, [], ?_, fun q hq => by cases hq⟩
  refine ⟨⟨_, ho⟩, by rw [k2]; exact State.WarmedH.refl s, ?_⟩
  rw [← k2]
  simp only [Nat.sub_self]
  exact k1
def zk_J9_max_7cf53 : zC := fun As μ Q => ∃ (a1 : Int) (a2 : Int), As = [.inl a1, .inl a2] ∧ ((-2147483648) ≤ a1 ∧ a1 ≤ 2147483647) ∧ ((-2147483648) ≤ a2 ∧ a2 ≤ 2147483647) ∧ (∀ (v : Int), (-2147483648) ≤ v → v ≤ 2147483647 → (a1 ≤ v) → (a2 ≤ v) → (v = a1 ∨ v = a2) → Q (some (.inl v)) μ)
theorem zm_J9_max_7cf53 {g : zΓ} (hg : zg g) (d : Nat) (hd : 1 ≤ d) : zOk g d 193 zk_J9_max_7cf53 := by
  obtain ⟨d, rfl⟩ : ∃ d', d = d' + 1 := ⟨d - 1, by omega⟩
  intro As μ Q w hw hr hC
  obtain ⟨a1, a2, rfl, h1, h2, hQ⟩ := hC
  have h := zmax2 hg (d := d) (x := Int32.ofInt a1) (y := Int32.ofInt a2) (w := w)
  by_cases hc : a1 < a2
  · rw [if_pos ((z_lt h1 h2).mpr hc)] at h
    exact ⟨some (.inl a2), μ, w, h, ⟨Nat.le_refl _, Nat.le_refl _⟩, hw, fun q hq => by cases hq; trivial, hQ a2 h2.1 h2.2 (by omega) (by omega) (Or.inr rfl)⟩
  · rw [if_neg (fun q => hc ((z_lt h1 h2).mp q))] at h
    exact ⟨some (.inl a1), μ, w, h, ⟨Nat.le_refl _, Nat.le_refl _⟩, hw, fun q hq => by cases hq; trivial, hQ a1 h1.1 h1.2 (by omega) (by omega) (Or.inl rfl)⟩
