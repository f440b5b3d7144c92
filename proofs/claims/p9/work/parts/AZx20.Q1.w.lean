/-! ### rows that are TYPES -/
def qT (A : Int → Int) (P : Int → Prop) : Nat → qR → Prop
  | 0, _ => False
  | k + 1, l => ∃ (h : Int) (as : List qR), l = h :: as.flatten ∧ (as.length : Int) = A h ∧ P h ∧ (∀ a ∈ as, qT A P k a) ∧ ((h = 201 ∨ h = 202) → ∀ a ∈ as, ¬ ywl a = true)
/-- an ARG; a TYPE -/
def qZ (A : Int → Int) (P : Int → Prop) (l : qR) : Prop := ∃ k, qT A P k l
def qY (A : Int → Int) (P : Int → Prop) (l : qR) : Prop := qZ A P l ∧ ¬ ywl l = true
theorem qT_up {A : Int → Int} {P : Int → Prop} : ∀ (k : Nat) (l : qR), qT A P k l → qT A P (k + 1) l
  | 0, _, h => h.elim
  | k + 1, _, ⟨h, as, e1, e2, e3, e4, e5⟩ => ⟨h, as, e1, e2, e3, fun a ha => qT_up k a (e4 a ha), e5⟩
theorem qT_le {A : Int → Int} {P : Int → Prop} {k j : Nat} {l : qR} (h : qT A P k l) (hj : k ≤ j) : qT A P j l := by
  induction j with
  | zero => have : k = 0 := by omega
            subst this; exact h
  | succ j ih =>
    by_cases q : k = j + 1
    · rw [← q]; exact h
    · exact qT_up j l (ih (by omega))
theorem qT_m {A : Int → Int} {P P' : Int → Prop} (m : ∀ x, P x → P' x) : ∀ (k : Nat) (l : qR), qT A P k l → qT A P' k l
  | 0, _, h => h.elim
  | k + 1, _, ⟨h, as, e1, e2, e3, e4, e5⟩ => ⟨h, as, e1, e2, m h e3, fun a ha => qT_m m k a (e4 a ha), e5⟩
theorem qZ_m {A : Int → Int} {P P' : Int → Prop} {l : qR} (m : ∀ x, P x → P' x) (h : qZ A P l) : qZ A P' l := by
  obtain ⟨k, h⟩ := h
  exact ⟨k, qT_m m k l h⟩
theorem qY_m {A : Int → Int} {P P' : Int → Prop} {l : qR} (m : ∀ x, P x → P' x) (h : qY A P l) : qY A P' l := ⟨qZ_m m h.1, h.2⟩
theorem qT_y {A : Int → Int} {P : Int → Prop} : ∀ (k : Nat) (l : qR), qT A P k l → yone A l
  | 0, _, h => h.elim
  | k + 1, _, ⟨h, as, e1, e2, e3, e4, e5⟩ => by
    rw [e1]
    exact yone_h e2 (fun a ha => qT_y k a (e4 a ha))
theorem qZ_y {A : Int → Int} {P : Int → Prop} {l : qR} (h : qZ A P l) : yone A l := by
  obtain ⟨k, h⟩ := h
  exact qT_y k l h
/-- the ARGS of a row -/
theorem qZ_as {A : Int → Int} {P : Int → Prop} {h : Int} {as : List qR} (q : qZ A P (h :: as.flatten)) (n : (as.length : Int) = A h) (o : ∀ a ∈ as, yone A a) : P h ∧ (∀ a ∈ as, qZ A P a) ∧ ((h = 201 ∨ h = 202) → ∀ a ∈ as, ¬ ywl a = true) := by
  obtain ⟨k, q⟩ := q
  cases k with
  | zero => exact q.elim
  | succ k =>
    obtain ⟨h', as', e1, e2, e3, e4, e5⟩ := q
    have eh : h = h' := by injection e1
    have ef : as.flatten = as'.flatten := by injection e1
    subst eh
    have ea : as = as' := yone_fe as as' o (fun a ha => qT_y k a (e4 a ha)) (by omega) ef
    subst ea
    exact ⟨e3, fun a ha => ⟨k, e4 a ha⟩, e5⟩
theorem qZ_mk {A : Int → Int} {P : Int → Prop} {h : Int} {as : List qR} (n : (as.length : Int) = A h) (p : P h) (o : ∀ a ∈ as, qZ A P a) (w : (h = 201 ∨ h = 202) → ∀ a ∈ as, ¬ ywl a = true) : qZ A P (h :: as.flatten) := by
  have key : ∀ bs : List qR, (∀ a ∈ bs, qZ A P a) → ∃ k, ∀ a ∈ bs, qT A P k a := by
    intro bs
    induction bs with
    | nil => intro _; exact ⟨0, fun a ha => by cases ha⟩
    | cons b bs ih =>
      intro hb
      obtain ⟨k, hk⟩ := ih (fun a ha => hb a (List.mem_cons_of_mem _ ha))
      obtain ⟨j, hj⟩ := hb b List.mem_cons_self
      refine ⟨max k j, fun a ha => ?_⟩
      rcases List.mem_cons.mp ha with rfl | ha
      · exact qT_le hj (Nat.le_max_right _ _)
      · exact qT_le (hk a ha) (Nat.le_max_left _ _)
  obtain ⟨k, hk⟩ := key as o
  exact ⟨k + 1, h, as, rfl, n, p, hk, w⟩
theorem ysub_c {f : Int} {cs : List qR} (h : Int) (l : qR) : ysub f cs (h :: l) = (if 32 ≤ h ∧ h < 112 then cs.getD (h - 32 - f).toNat [] else [h]) ++ ysub f cs l := by unfold ysub; simp
theorem ysub_f {f : Int} {cs : List qR} (as : List qR) : ysub f cs as.flatten = (as.map (ysub f cs)).flatten := by
  induction as with
  | nil => rfl
  | cons a as ih =>
    rw [List.map_cons, List.flatten_cons, List.flatten_cons, ← ih]
    unfold ysub
    rw [List.flatMap_append]
/-- ARGS in the place of PARAMETERS -/
theorem qT_sub {A : Int → Int} {P P' : Int → Prop} {f : Int} {cs : List qR} (hp : ∀ x : Int, P x → 32 ≤ x → x < 112 → A x = 0 ∧ qY A P' (cs.getD (x - 32 - f).toNat [])) (hn : ∀ x : Int, P x → ¬ (32 ≤ x ∧ x < 112) → P' x) : ∀ (k : Nat) (l : qR), qT A P k l → qZ A P' (ysub f cs l) ∧ (¬ ywl l = true → ¬ ywl (ysub f cs l) = true)
  | 0, _, h => h.elim
  | k + 1, _, ⟨h, as, e1, e2, e3, e4, e5⟩ => by
    rw [e1, ysub_c, ysub_f]
    by_cases q : 32 ≤ h ∧ h < 112
    · rw [if_pos q]
      have w := hp h e3 q.1 q.2
      have n0 : as = [] := List.eq_nil_of_length_eq_zero (by omega)
      rw [n0]
      simp only [List.map_nil, List.flatten_nil, List.append_nil]
      exact ⟨w.2.1, fun _ => w.2.2⟩
    · rw [if_neg q]
      refine ⟨qZ_mk (by rw [List.length_map]; exact e2) (hn h e3 q) (fun a ha => ?_) (fun z a ha => ?_), fun z => ?_⟩
      · obtain ⟨b, hb, rfl⟩ := List.mem_map.mp ha
        exact (qT_sub hp hn k b (e4 b hb)).1
      · obtain ⟨b, hb, rfl⟩ := List.mem_map.mp ha
        exact (qT_sub hp hn k b (e4 b hb)).2 (e5 z b hb)
      · rw [ywl_i] at z ⊢
        exact z
/-- heads that may stand in a question of class o's PARAMETERS with so many NEW variables -/
def qH (B : yB) (o : Int) (n : Nat) (x : Int) : Prop := (0 ≤ x ∧ x < B.1 0 0) ∨ (32 + aFs B o ≤ x ∧ x < 32 + aFs B o + aNs B o) ∨ (200 ≤ x ∧ x ≤ 202) ∨ (300 ≤ x ∧ x < 300 + (n : Int))
theorem qH_m {B : yB} {o : Int} {n m : Nat} (h : n ≤ m) : ∀ x, qH B o n x → qH B o m x := fun x q => by
  unfold qH at q ⊢
  omega
/-- what is told of a table, as TYPES -/
def aW (B : yB) : Prop := (∀ k p i : Int, 0 ≤ k → k < B.1 0 0 → B.1 2 k ≤ p → p < B.1 2 k + B.1 3 k → 0 ≤ i → i < B.1 6 p → qY (yar B) (qH B k 0) (B.2 0 p i).flatten) ∧ (∀ k d : Int, 0 ≤ k → k < B.1 0 0 → 0 ≤ d → d < 21 → B.2 2 k d ≠ [] → ∃ as : List qR, (B.2 2 k d).flatten = d :: as.flatten ∧ d < B.1 0 0 ∧ (as.length : Int) = yar B d ∧ ∀ a ∈ as, qY (yar B) (qH B k 0) a) ∧ (∀ k : Int, 0 ≤ k → k < B.1 0 0 → B.2 2 k k ≠ []) ∧ yPs B 160 ≤ 300
/-- what holds of the NEW variables -/
def qVs (B : yB) (o : Int) (S : qS) : Prop := ∀ k : Nat, k < S.2.2.length → (∀ b ∈ (S.2.2.getD k ([], [])).1, qY (yar B) (qH B o S.2.2.length) b) ∧ ((S.2.2.getD k ([], [])).2 = [] ∨ qY (yar B) (qH B o S.2.2.length) (S.2.2.getD k ([], [])).2)
theorem qVs_0 {B : yB} {o : Int} {S : qS} (h : S.2.2 = []) : qVs B o S := fun k hk => by rw [h] at hk; exact absurd hk (by simp)
