/-! ### the BOUNDS of a table are 300 long in all: the machine -/
theorem yPs_e {B B' : yB} (h : B'.2 0 = B.2 0) : ∀ n : Nat, yPs B' n = yPs B n
  | 0 => rfl
  | n + 1 => by
    show yPs B' n + _ = yPs B n + _
    rw [yPs_e h n, h]
theorem yPs_A {B : yB} {q j : Int} {l : List (List Int)} : ∀ n : Nat, (∀ m : Nat, m < n → ¬ (((m / 2 : Nat) : Int) = q ∧ ((m % 2 : Nat) : Int) = j)) → yPs (yL B 0 q j l) n = yPs B n
  | 0, _ => rfl
  | n + 1, h => by
    show yPs (yL B 0 q j l) n + _ = yPs B n + _
    rw [yPs_A n (fun m hm => h m (by omega))]
    have e : (yL B 0 q j l).2 0 ((n / 2 : Nat) : Int) ((n % 2 : Nat) : Int) = B.2 0 ((n / 2 : Nat) : Int) ((n % 2 : Nat) : Int) := by
      show (if 0 = 0 ∧ ((n / 2 : Nat) : Int) = q ∧ ((n % 2 : Nat) : Int) = j then l else _) = _
      rw [if_neg (fun z => h n (by omega) z.2)]
    rw [e]
theorem yPs_B {B : yB} {q j : Int} {l : List (List Int)} : ∀ n : Nat, yPs (yL B 0 q j l) n ≤ yPs B n + (l.flatten.length : Int)
  | 0 => by
    show (0 : Int) ≤ 0 + _
    omega
  | n + 1 => by
    show yPs (yL B 0 q j l) n + _ ≤ yPs B n + _ + _
    by_cases z : ((n / 2 : Nat) : Int) = q ∧ ((n % 2 : Nat) : Int) = j
    · rw [yPs_A n (fun m hm y => by omega)]
      have e : (yL B 0 q j l).2 0 ((n / 2 : Nat) : Int) ((n % 2 : Nat) : Int) = l := by
        show (if 0 = 0 ∧ ((n / 2 : Nat) : Int) = q ∧ ((n % 2 : Nat) : Int) = j then l else _) = _
        rw [if_pos ⟨rfl, z⟩]
      rw [e]
      omega
    · have ih := yPs_B (B := B) (q := q) (j := j) (l := l) n
      have e : (yL B 0 q j l).2 0 ((n / 2 : Nat) : Int) ((n % 2 : Nat) : Int) = B.2 0 ((n / 2 : Nat) : Int) ((n % 2 : Nat) : Int) := by
        show (if 0 = 0 ∧ ((n / 2 : Nat) : Int) = q ∧ ((n % 2 : Nat) : Int) = j then l else _) = _
        rw [if_neg (fun y => z y.2)]
      rw [e]
      omega
/-- how long the TYPES are that are not yet closed -/
def yfz : List yF → Int
  | [] => 0
  | f :: r => ((ycd f).length : Int) + yfz r
theorem yfz_0 : ∀ fr : List yF, 0 ≤ yfz fr
  | [] => Int.le_refl _
  | f :: r => by
    have := yfz_0 r
    show 0 ≤ ((ycd f).length : Int) + yfz r
    omega
theorem yfz_a (l : List Int) (fr : List yF) : yfz (yadd l fr) ≤ yfz fr + l.length := by
  rcases fr with _ | ⟨a, r⟩
  · show (0 : Int) ≤ 0 + _
    omega
  · show ((ycd ((a.1, a.2.1, a.2.2 ++ [l]) : yF)).length : Int) + yfz r ≤ ((ycd a).length : Int) + yfz r + _
    unfold ycd
    simp only [List.length_append, List.length_cons, List.flatten_append, List.flatten_cons, List.flatten_nil, List.append_nil]
    omega
def yLz (c : Nat) (x : Int) (fr : List yF) : Int := if 10 ≤ c ∧ c ≤ 14 then yfz fr + (if c = 10 then ((ywr x).length : Int) else 0) else 0
def yPt (B : yB) : Int := yPs B 160
theorem yPt_e {B B' : yB} (h : B'.2 0 = B.2 0) : yPt B' = yPt B := yPs_e h 160
theorem yPt_B {B : yB} {q j : Int} {l : List (List Int)} : yPt (yL B 0 q j l) ≤ yPt B + (l.flatten.length : Int) := yPs_B 160
def yLs (s : yS) : Prop := s.1 = 20 ∨ (yPt s.2.2.2.2 + yLz s.1 s.2.2.1 s.2.2.2.1 ≤ s.2.2.2.2.1 0 2 ∧ s.2.2.2.2.1 0 2 ≤ 300)
theorem yLs_f {T : yT} {B : yB} {p c : Int} : yLs (yflt T B p c) := Or.inl rfl
theorem yLs_k {c : Nat} {p x : Int} {fr : List yF} {B : yB} (h : yPt B + yLz c x fr ≤ B.1 0 2) (h2 : B.1 0 2 ≤ 300) : yLs (c, p, x, fr, B) := Or.inr ⟨h, h2⟩
theorem yLs_n {c : Nat} {p x : Int} {fr : List yF} {B B' : yB} (e0 : B'.2 0 = B.2 0) (e2 : B'.1 0 2 = B.1 0 2) (hc : c < 10 ∨ 14 < c) (h : yPt B ≤ B.1 0 2) (h2 : B.1 0 2 ≤ 300) : yLs (c, p, x, fr, B') := yLs_k (by unfold yLz; rw [if_neg (by omega), yPt_e e0, e2]; omega) (by rw [e2]; exact h2)
set_option maxRecDepth 20000 in
theorem yLs_s {T : yT} {s : yS} (h : yLs s) : yLs (yms T s) := by
  obtain ⟨c, p, x, fr, B⟩ := s
  rcases h with h | ⟨h, h2⟩
  · have h1 : c = 20 := h
    subst h1
    exact Or.inl rfl
  have h : yPt B + yLz c x fr ≤ B.1 0 2 := h
  have h2 : B.1 0 2 ≤ 300 := h2
  have z0 := yfz_0 fr
  by_cases cl : c < 10 ∨ 14 < c
  · have hh : yPt B ≤ B.1 0 2 := by unfold yLz at h; rw [if_neg (by omega)] at h; omega
    clear h
    have keep : ∀ (c' : Nat) (p' x' : Int) (B' : yB), (c' < 10 ∨ 14 < c') → B'.2 0 = B.2 0 → B'.1 0 2 = B.1 0 2 → yLs (c', p', x', [], B') := fun c' p' x' B' a b d => yLs_n b d a hh h2
    have ten : ∀ (p' : Int) (B' : yB), B'.2 0 = B.2 0 → B'.1 0 2 = B.1 0 2 → yLs (10, p', 0, [], B') := fun p' B' b d => yLs_k (by unfold yLz; rw [if_pos ⟨by decide, by decide⟩, if_pos rfl, yPt_e b, d]; show _ + (0 + 0) ≤ _; omega) (by rw [d]; exact h2)
    rcases c with _ | _ | _ | _ | _ | _ | _ | _ | _ | _ | c
    · show yLs (ym0 T p B)
      unfold ym0
      split; exact yLs_f
      split; exact yLs_f
      split; exact yLs_f
      exact keep _ _ _ _ (by decide) rfl (by rw [yN_ne (by first | decide | omega), yN_ne (by first | decide | omega), yN_ne (by first | decide | omega), yN_ne (by first | decide | omega), yN_ne (by first | decide | omega), yN_ne (by first | decide | omega)])
    · show yLs (if ykd T p = 60 then (2, p, 0, [], B) else (3, p, 0, [], B))
      split <;> exact keep _ _ _ _ (by decide) rfl rfl
    · show yLs (ym2 T p B)
      unfold ym2
      dsimp only
      have ea : (yap B (ynm T (ynx T p)).toInt).1 0 2 = B.1 0 2 := by unfold yap; rw [yN_ne (by first | decide | omega), yN_ne (by first | decide | omega), yN_ne (by first | decide | omega), yN_ne (by first | decide | omega), yN_ne (by first | decide | omega)]
      split; exact yLs_f
      split; exact yLs_f
      split; exact yLs_f
      split; exact keep _ _ _ _ (by decide) rfl ea
      split; exact keep _ _ _ _ (by decide) rfl ea
      exact yLs_f
    · show yLs (if ykd T p = 4 then (4, p, 0, [], B) else (6, p, 0, [], B))
      split <;> exact keep _ _ _ _ (by decide) rfl rfl
    · show yLs (ym4 T p B)
      unfold ym4
      dsimp only
      split; exact yLs_f
      split; exact yLs_f
      split; exact yLs_f
      split; exact yLs_f
      exact keep _ _ _ _ (by decide) rfl (yN_ne (by first | decide | omega))
    · show yLs (10, ynx T p, 0, [], yN (yN B 0 4 0) 0 5 (if 2 ≤ B.1 6 (B.1 0 6) then 1 else 0))
      exact ten _ _ rfl (by rw [yN_ne (by first | decide | omega), yN_ne (by first | decide | omega)])
    · show yLs (if ykd T p = 58 then (7, p, 0, [], B) else (8, p, 0, [], B))
      split <;> exact keep _ _ _ _ (by decide) rfl rfl
    · show yLs (10, ynx T p, 0, [], yN (yN B 0 4 1) 0 5 (if 4 ≤ B.1 4 (B.1 0 3) then 1 else 0))
      exact ten _ _ rfl (by rw [yN_ne (by first | decide | omega), yN_ne (by first | decide | omega)])
    · show yLs (if ykd T p ≠ 59 then yflt T B p 2 else (15, p, 0, [], yN (yN (yon B) 0 7 0) 0 8 0))
      split
      · exact yLs_f
      · refine keep _ _ _ _ (by decide) ?_ (by rw [yN_ne (by first | decide | omega), yN_ne (by first | decide | omega)]; rfl)
        funext a b
        show (if (0 : Nat) = 2 ∧ a = B.1 0 3 then (if b = a then [yown B] else if b = 0 then [[0]] else []) else B.2 0 a b) = B.2 0 a b
        rw [if_neg (fun y => absurd y.1 (by decide))]
    · show yLs (if ykd T p = 0 then (21, p, 0, [], B) else (0, p, 0, [], B))
      split <;> exact keep _ _ _ _ (by decide) rfl rfl
    · have c15 : c = 5 ∨ 5 < c := by omega
      rcases c15 with rfl | c6
      · show yLs (ym15 T p B)
        unfold ym15
        split; exact keep _ _ _ _ (by decide) rfl rfl
        split; exact keep _ _ _ _ (by decide) rfl (by rw [yN_ne (by first | decide | omega), yN_ne (by first | decide | omega)])
        dsimp only
        split
        · exact keep _ _ _ _ (by decide) rfl (yN_ne (by first | decide | omega))
        · split
          · exact yLs_f
          · refine keep _ _ _ _ (by decide) ?_ (by rw [yN_ne (by first | decide | omega)]; rfl)
            funext a b
            simp [yN, yL]
      · have e : yms T (c + 1 + 1 + 1 + 1 + 1 + 1 + 1 + 1 + 1 + 1, p, x, fr, B) = (c + 1 + 1 + 1 + 1 + 1 + 1 + 1 + 1 + 1 + 1, p, x, fr, B) := by
          obtain ⟨k, rfl⟩ : ∃ k, c = k + 6 := ⟨c - 6, by omega⟩
          rfl
        rw [e]
        exact yLs_n (B := B) (B' := B) rfl rfl (by omega) hh h2
  · have hc : 10 ≤ c ∧ c ≤ 14 := by omega
    unfold yLz at h
    rw [if_pos hc] at h
    have upd : ∀ y : Int, yPt (yN B 0 2 y) = yPt B := fun y => yPt_e (B := B) (B' := yN B 0 2 y) rfl
    have at2 : ∀ y : Int, (yN B 0 2 y).1 0 2 = y := fun y => yN_at
    by_cases c10 : c = 10
    · subst c10
      rw [if_pos rfl] at h
      show yLs (ym10 T p x fr B)
      unfold ym10
      dsimp only
      split; exact yLs_f
      split; exact yLs_f
      split; exact yLs_f
      rename_i n300
      split; exact yLs_f
      have lw : ((ycd ((x, yhd B (ynm T p).toInt, []) : yF)).length : Int) = ((ywr x).length : Int) + 1 := by unfold ycd; simp
      split
      · split; exact yLs_f
        refine yLs_k ?_ (by rw [at2]; omega)
        unfold yLz
        rw [if_pos ⟨by decide, by decide⟩, if_neg (by decide), upd, at2]
        show _ + (((ycd ((x, yhd B (ynm T p).toInt, []) : yF)).length : Int) + yfz fr + 0) ≤ _
        omega
      · refine yLs_k ?_ (by rw [at2]; omega)
        unfold yLz
        rw [if_pos ⟨by decide, by decide⟩, if_neg (by decide), upd, at2]
        show _ + (((ycd ((x, yhd B (ynm T p).toInt, []) : yF)).length : Int) + yfz fr + 0) ≤ _
        omega
    rw [if_neg c10] at h
    by_cases c11 : c = 11
    · subst c11
      show yLs (ym11 T p fr B)
      unfold ym11
      dsimp only
      split
      · split; exact yLs_f
        rename_i n300
        split; exact yLs_f
        split
        · refine yLs_k ?_ (by rw [at2]; omega)
          unfold yLz
          rw [if_pos ⟨by decide, by decide⟩, if_pos rfl, upd, at2]
          show _ + (yfz fr + 1) ≤ _
          omega
        split
        · refine yLs_k ?_ (by rw [at2]; omega)
          unfold yLz
          rw [if_pos ⟨by decide, by decide⟩, if_pos rfl, upd, at2]
          show _ + (yfz fr + 1) ≤ _
          omega
        · refine yLs_k ?_ (by rw [at2]; omega)
          have a := yfz_a [200] fr
          unfold yLz
          rw [if_pos ⟨by decide, by decide⟩, if_neg (by decide), upd, at2]
          have : (([200] : List Int).length : Int) = 1 := rfl
          omega
      · refine yLs_k ?_ h2
        unfold yLz
        rw [if_pos ⟨by decide, by decide⟩, if_pos rfl]
        show _ + (yfz fr + 0) ≤ _
        omega
    by_cases c12 : c = 12
    · subst c12
      show yLs (ym12 T p fr B)
      rcases fr with _ | ⟨f, r⟩
      · exact yLs_k (by unfold yLz; rw [if_pos ⟨by decide, by decide⟩, if_neg (by decide)]; omega) h2
      unfold ym12
      dsimp only
      split; exact yLs_f
      split; exact yLs_f
      rcases r with _ | ⟨a, r⟩
      · exact yLs_k (by unfold yLz; rw [if_pos ⟨by decide, by decide⟩, if_neg (by decide)]; omega) h2
      · refine yLs_k ?_ h2
        have q := yfz_a (ycd f) (a :: r)
        unfold yLz
        rw [if_pos ⟨by decide, by decide⟩, if_neg (by decide)]
        have e : yfz (f :: a :: r) = ((ycd f).length : Int) + yfz (a :: r) := rfl
        omega
    by_cases c13 : c = 13
    · subst c13
      show yLs (if ykd T p = 44 then (11, ynx T p, 0, fr, B) else if ykd T p = 62 then (12, ynx T p, 0, fr, B) else yflt T B p 2)
      split
      · exact yLs_k (by unfold yLz; rw [if_pos ⟨by decide, by decide⟩, if_neg (by decide)]; omega) h2
      split
      · exact yLs_k (by unfold yLz; rw [if_pos ⟨by decide, by decide⟩, if_neg (by decide)]; omega) h2
      exact yLs_f
    have c14 : c = 14 := by omega
    subst c14
    show yLs (ym14 T p fr B)
    rcases fr with _ | ⟨f, r⟩
    · exact yLs_k (by unfold yLz; rw [if_pos ⟨by decide, by decide⟩, if_neg (by decide)]; omega) h2
    have ef : yfz (f :: r) = ((ycd f).length : Int) + yfz r := rfl
    have zr := yfz_0 r
    have lf : ((([f.2.1] :: f.2.2).flatten).length : Int) ≤ ((ycd f).length : Int) := by unfold ycd; simp; omega
    unfold ym14
    dsimp only
    split
    · have b := yPt_B (B := B) (q := B.1 0 6) (j := B.1 6 (B.1 0 6)) (l := [f.2.1] :: f.2.2)
      have go : ∀ (c' : Nat) (p' : Int), (c' < 10 ∨ 14 < c') → yLs (c', p', 0, [], yN (yL B 0 (B.1 0 6) (B.1 6 (B.1 0 6)) ([f.2.1] :: f.2.2)) 6 (B.1 0 6) (B.1 6 (B.1 0 6) + 1)) := fun c' p' hc' => by
        have e2 : (yN (yL B 0 (B.1 0 6) (B.1 6 (B.1 0 6)) ([f.2.1] :: f.2.2)) 6 (B.1 0 6) (B.1 6 (B.1 0 6) + 1)).1 0 2 = B.1 0 2 := by rw [yN_ne (by first | decide | omega)]; rfl
        refine yLs_k ?_ (by rw [e2]; exact h2)
        unfold yLz
        have e5 : yPt (yN (yL B 0 (B.1 0 6) (B.1 6 (B.1 0 6)) ([f.2.1] :: f.2.2)) 6 (B.1 0 6) (B.1 6 (B.1 0 6) + 1)) = yPt (yL B 0 (B.1 0 6) (B.1 6 (B.1 0 6)) ([f.2.1] :: f.2.2)) := yPt_e rfl
        rw [if_neg (by omega), e2, e5]
        omega
      split
      · exact go _ _ (by decide)
      split
      · exact go _ _ (by decide)
      exact go _ _ (by decide)
    split
    · have go : ∀ (c' : Nat) (p' : Int), (c' < 10 ∨ 14 < c') → yLs (c', p', 0, [], yN (yL B 1 (B.1 0 3) (B.1 4 (B.1 0 3)) ([f.2.1] :: f.2.2)) 4 (B.1 0 3) (B.1 4 (B.1 0 3) + 1)) := fun c' p' hc' => by
        refine yLs_n (B := B) (show (yL B 1 (B.1 0 3) (B.1 4 (B.1 0 3)) ([f.2.1] :: f.2.2)).2 0 = B.2 0 from yL_nz (by decide)) (by rw [yN_ne (by first | decide | omega)]; rfl) hc' (by omega) h2
      split
      · exact go _ _ (by decide)
      exact go _ _ (by decide)
    · exact yLs_k (by unfold yLz; rw [if_pos ⟨by decide, by decide⟩, if_neg (by decide)]; omega) h2
theorem yLs_R {T : yT} {s s' : yS} (h : yLs s) (hr : yR T s s') : yLs s' := by
  obtain ⟨k, rfl⟩ := hr
  induction k generalizing s with
  | zero => exact h
  | succ k ih => exact ih (yLs_s h)
theorem yPs_0 : ∀ n : Nat, yPs yB0 n = 0
  | 0 => rfl
  | n + 1 => by
    show yPs yB0 n + _ = 0
    rw [yPs_0 n]
    have e : yB0.2 0 ((n / 2 : Nat) : Int) ((n % 2 : Nat) : Int) = [] := by simp [yB0]
    rw [e]
    rfl
theorem yLs_00 : yLs (0, 0, 0, [], yB0) := yLs_k (by unfold yLz; rw [if_neg (by omega)]; show yPs yB0 160 + 0 ≤ 0; rw [yPs_0]; decide) (by decide)
