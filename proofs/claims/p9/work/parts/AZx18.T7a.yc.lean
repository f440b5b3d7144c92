/-! ### unknown ARGS -/
/-- ARGS with NEW variables in the place of unknown ones, numbered from c on -/
def ywl (a : List Int) : Bool := decide (200 ≤ a.headD 0) && decide (a.headD 0 ≤ 202)
def ycn (c : Int) (as : List (List Int)) (i : Nat) : Int := c + (((as.take i).countP ywl : Nat) : Int)
def ycap (c : Int) (as : List (List Int)) : List (List Int) := (List.range as.length).map (fun i => if ywl (as.getD i []) = true then [300 + ycn c as i] else as.getD i [])
theorem ywl_i {a : List Int} : ywl a = true ↔ 200 ≤ a.headD 0 ∧ a.headD 0 ≤ 202 := by unfold ywl; simp
theorem ycap_l (c : Int) (as : List (List Int)) : (ycap c as).length = as.length := by unfold ycap; simp
theorem ycap_g {c : Int} {as : List (List Int)} {i : Nat} (h : i < as.length) : (ycap c as).getD i [] = if ywl (as.getD i []) = true then [300 + ycn c as i] else as.getD i [] := by
  unfold ycap
  rw [List.getD_eq_getElem?_getD, List.getElem?_map, List.getElem?_range h]
  rfl
theorem ycn_0 (c : Int) (as : List (List Int)) : ycn c as 0 = c := by unfold ycn; simp
theorem ycn_s {c : Int} {as : List (List Int)} {i : Nat} (h : i < as.length) : ycn c as (i + 1) = ycn c as i + (if ywl (as.getD i []) = true then 1 else 0) := by
  unfold ycn
  have e : as.take (i + 1) = as.take i ++ [as.getD i []] := by
    rw [List.take_add_one, List.getD_eq_getElem?_getD, List.getElem?_eq_getElem h]
    rfl
  rw [e, List.countP_append]
  by_cases q : ywl (as.getD i []) = true
  · rw [if_pos q, List.countP_cons_of_pos q]; simp; omega
  · rw [if_neg q, List.countP_cons_of_neg q]; simp
theorem ycn_b (c : Int) (as : List (List Int)) (i : Nat) : c ≤ ycn c as i ∧ ycn c as i ≤ c + i := by
  unfold ycn
  have : (as.take i).countP ywl ≤ (as.take i).length := List.countP_le_length
  rw [List.length_take] at this
  omega
theorem ycn_m {c : Int} {as : List (List Int)} {i j : Nat} (h : i ≤ j) (hj : j ≤ as.length) : ycn c as i ≤ ycn c as j := by
  induction j with
  | zero => have : i = 0 := by omega
            subst this; exact Int.le_refl _
  | succ j ih =>
    by_cases q : i = j + 1
    · rw [q]; exact Int.le_refl _
    · have a := ih (by omega) (by omega)
      rw [ycn_s (by omega)]
      split <;> omega
