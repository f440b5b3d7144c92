/-! ===== a small machine over closed data: a step of it is a step of the machine; references are counted from the law's entry on ===== -/
abbrev mI : Type := Int32 × List (Nat × Int32)
abbrev mJ : Type := Int64 × List (Nat × Int64)
/-- a cell: an object (the number of its kind, its fields), or a row ((its kind, its length), what is in it) -/
abbrev mE : Type := (Nat × List Value) ⊕ ((Nat × Nat) × (mI ⊕ mJ))
/-- cells, and how many fields and elements they have in all -/
abbrev mW : Type := List mE × Nat
/-- place, locals, stack, cells -/
abbrev mS : Type := Nat × List (Nat × Value) × List Value × mW
abbrev mL : Type := Nat × Nat × Nat × Int
def mx_g {α : Type} (a : α × List (Nat × α)) (i : Nat) : α := (a.2.lookup i).getD a.1
def mx_s {α : Type} (a : α × List (Nat × α)) (i : Nat) (x : α) : α × List (Nat × α) := (a.1, (i, x) :: a.2)
def mx_E : Nat := 1048576
/-- the number whose value says whether the cells' count is known: 0 if it is -/
def mx_F : Nat := 2097152
abbrev mK : Type := List ((ClassFile.Cond × Value × Value) × Bool)
/-- the one long that is a name: two numbers of the script put together -/
def mx_lg (r : Nat → Value) : Int64 := match r 1048578, r 1048579 with
  | .int a, .int b => (a.toInt64 <<< ((32 : Int32).toInt64 &&& 63)) ||| (b.toInt64 &&& 4294967295)
  | _, _ => 0
def mx_v (r : Nat → Value) (v : Value) : Value := match v with
  | .ref j => r j
  | .double k => if k = 77 then .long (mx_lg r) else .double k
  | v => v
/-- a cell that isn't looked at any more -/
def mx_dd (c : mE) : Bool := match c with
  | .inr ((k, _), _) => Nat.beq k 9
  | _ => false
def mx_c (cy : Nat → ClassId) (r : Nat → Value) (c : mE) : va_E := match c with
  | .inl (ci, fs) => .inr (ci, fs.map (mx_v r))
  | .inr ((k, n), .inl a) => .inl (cy k, n, .inl (mx_g a))
  | .inr ((k, n), .inr a) => .inl (cy k, n, .inr (.inl (mx_g a)))
def mx_cl : List vw_C := [(RX0, TX0, 15), (RX1, TX1, 7), (RX2, TX2, 5), (RX3, TX3, 11), (RX4, TX4, 15), (RX5, TX5, 9), (RX6, TX6, 9), (RX7, TX7, 4), (RX8, TX8, 8), (RX9, TX9, 77)]
def mx_ty (ci : Nat) : Nat → FieldType := match ci with
  | 0 => tyX0 | 1 => tyX1 | 2 => tyX2 | 3 => tyX3 | 4 => tyX4 | 5 => tyX5 | 6 => tyX6 | 7 => tyX7 | 8 => tyX8 | _ => tyX9
def mx_tys (cy : Nat → ClassId) : List (ClassId × FieldType) := [(cy 0, .int), (cy 1, .long), (cy 2, .boolean), (cy 3, .byte)]
def mx_R (D : va_G) (cy : Nat → ClassId) (r : Nat → Value) (B : Nat) (w : mW) (H : Heap) : Prop := (r mx_F = .int 0 → H.size = B + w.1.length) ∧ w.1.length ≤ mx_E ∧ ∀ (j : Nat) (c : mE), w.1[j]? = some c → mx_dd c = false → va_at D mx_cl (B + j, mx_c cy r c) H
def mx_r (r : Nat → Value) (B : Nat) : Prop := (∀ j, j < mx_E → r j = .ref (B + j)) ∧ (∃ b, r mx_E = .ref b) ∧ ∀ j, mx_E < j → ∃ x : Int32, r j = .int x
def mx_ok (w : Cond) : Bool := match w with
  | .arrayClass _ => true
  | .castable _ _ => true
  | .declares _ => true
  | w => w.onTables && w.keepsH
def mx_Env (U : State) : Prop := ∀ w ∈ lw_tbl, mx_ok w = true → ∀ a, w.before a U = true
def mx_at (q : Nat) (w : Cond) : Bool := decide (lw_tbl[q]? = some w) && mx_ok w
theorem mx_at_use {q : Nat} {w : Cond} {U : State} {a : Array Value} (h : mx_at q w = true) (hE : mx_Env U) : w.before a U = true := by
  simp only [mx_at, Bool.and_eq_true, decide_eq_true_eq] at h
  exact hE w (List.mem_of_getElem? h.1) h.2 a
theorem mx_ok_warm {s U : State} {w : Cond} {a a' : Array Value} (hW : s.WarmedH U.vm) (hk : mx_ok w = true) (h : w.before a s = true) : w.before a' U = true := by
  have key : (w.onTables && w.keepsH) = true → w.before a' U = true := by
    intro hk
    simp only [Bool.and_eq_true] at hk
    have h1 := Cond.onTables_warmH (T := U) (args' := a') hW hk.1 hk.2 h
    rwa [State.setVm_self] at h1
  cases w <;> first | exact key hk | exact word_at hW (Or.inr ⟨_, rfl⟩) h | exact va_Nw.use rfl (va_Nw.warmC hW (va_Nw.of rfl h)) | exact va_Nw.use rfl (va_Nw.warmD hW (va_Nw.of rfl h))
theorem mx_Env.warm {s U : State} (hW : s.WarmedH U.vm) (h : mx_Env s) : mx_Env U := fun w hw hk a => mx_ok_warm hW hk (h w hw hk a)
theorem mx_Env.same {s U : State} (hv : U.vm = s.vm) (h : mx_Env s) : mx_Env U := by
  refine mx_Env.warm ?_ h
  rw [hv]
  exact State.WarmedH.refl s
/-! ### words of the values -/
theorem mx_v_int (r : Nat → Value) (x : Int32) : mx_v r (.int x) = .int x := rfl
theorem mx_v_long (r : Nat → Value) (x : Int64) : mx_v r (.long x) = .long x := rfl
theorem mx_v_ref (r : Nat → Value) (j : Nat) : mx_v r (.ref j) = r j := rfl
theorem mx_r.ref {r : Nat → Value} {B : Nat} (h : mx_r r B) {j : Nat} (hj : j ≤ mx_E) : ∃ a, r j = .ref a := by
  rcases Nat.lt_or_eq_of_le hj with h1 | h1
  · exact ⟨_, h.1 j h1⟩
  · rw [h1]; exact h.2.1
theorem mx_r.cat {r : Nat → Value} {B : Nat} (h : mx_r r B) (j : Nat) : (r j).category = 1 := by
  rcases Nat.lt_or_ge mx_E j with h1 | h1
  · obtain ⟨x, hx⟩ := h.2.2 j h1; rw [hx]; rfl
  · obtain ⟨x, hx⟩ := h.ref h1; rw [hx]; rfl
theorem mx_cat {r : Nat → Value} {B : Nat} (h : mx_r r B) (v : Value) : (mx_v r v).category = v.category := by
  cases v <;> first | rfl | exact (h.cat _) | (simp only [mx_v]; split <;> rfl)
theorem mx_cats {r : Nat → Value} {B : Nat} (h : mx_r r B) (st : List Value) : ((st.map (mx_v r)).map fun v => v.category).sum = (st.map fun v => v.category).sum := by
  rw [List.map_map]
  congr 1
  exact List.map_congr_left (fun v _ => mx_cat h v)
/-! ### words of the cells -/
theorem mx_g_s {α : Type} (a : α × List (Nat × α)) (i : Nat) (x : α) (j : Nat) : mx_g (mx_s a i x) j = if j = i then x else mx_g a j := by
  unfold mx_g mx_s
  by_cases h : j = i
  · subst h
    simp [List.lookup]
  · have : (j == i) = false := by simpa using h
    simp [List.lookup, this, h]
theorem mx_R.P {D : va_G} {cy : Nat → ClassId} {r : Nat → Value} {B : Nat} {w : mW} {H : Heap} {j : Nat} {c : mE} (h : mx_R D cy r B w H) (hj : w.1[j]? = some c) (hd : mx_dd c = false) : va_P D mx_cl [(B + j, mx_c cy r c)] H := by
  intro k q hk
  have hz : k < 1 := by simpa using (List.getElem?_eq_some_iff.mp hk).1
  have : k = 0 := by omega
  subst this
  cases hk
  exact h.2.2 j c hj hd
/-- a cell is written: the picture of the others stays -/
theorem mx_R.set {D : va_G} {cy : Nat → ClassId} {r : Nat → Value} {B : Nat} {w : mW} {H H1 : Heap} {j : Nat} {c c' : mE} (h : mx_R D cy r B w H) (hj : w.1[j]? = some c) (hsz : H1.size = H.size) (ho : ∀ q : Nat, q ≠ B + j → H1[q]? = H[q]?) (hc : va_at D mx_cl (B + j, mx_c cy r c') H1) : mx_R D cy r B (w.1.set j c', w.2) H1 := by
  obtain ⟨h1, h2, h3⟩ := h
  refine ⟨fun q => by simp [hsz, h1 q], by simpa using h2, fun i c2 hi hd => ?_⟩
  dsimp only at hi
  by_cases hij : i = j
  · subst hij
    rw [show (w.1.set i c')[i]? = some c' by simp [(List.getElem?_eq_some_iff.mp hj).1]] at hi
    cases hi
    exact hc
  · rw [List.getElem?_set_ne (Ne.symm hij)] at hi
    exact (h3 i c2 hi hd).kept (ho (B + i) (by omega))
/-- a cell is given up -/
theorem mx_R.dead {D : va_G} {cy : Nat → ClassId} {r : Nat → Value} {B : Nat} {w : mW} {H : Heap} {j : Nat} {c' : mE} (h : mx_R D cy r B w H) (hc : mx_dd c' = true) : mx_R D cy r B (w.1.set j c', w.2) H := by
  obtain ⟨h1, h2, h3⟩ := h
  refine ⟨fun q => by simp [h1 q], by simpa using h2, fun i c2 hi hd => ?_⟩
  dsimp only at hi
  by_cases hij : i = j
  · subst hij
    rw [List.getElem?_set] at hi
    simp only [↓reduceIte] at hi
    split at hi
    · cases hi
      rw [hc] at hd
      cases hd
    · cases hi
  · rw [List.getElem?_set_ne (Ne.symm hij)] at hi
    exact h3 i c2 hi hd
/-- a cell is made -/
theorem mx_R.push {D : va_G} {cy : Nat → ClassId} {r : Nat → Value} {B : Nat} {w : mW} {H H1 : Heap} {c : mE} {n : Nat} (h : mx_R D cy r B w H) (hl : w.1.length < mx_E) (hsz : H1.size = H.size + 1) (ho : ∀ q : Nat, q < H.size → H1[q]? = H[q]?) (hc : va_at D mx_cl (B + w.1.length, mx_c cy r c) H1) : mx_R D cy r B (w.1 ++ [c], w.2 + n) H1 := by
  obtain ⟨h1, h2, h3⟩ := h
  refine ⟨fun q => by simp [hsz, h1 q]; omega, by simp; omega, fun i c2 hi hd => ?_⟩
  dsimp only at hi
  by_cases hil : i < w.1.length
  · rw [List.getElem?_append_left hil] at hi
    have h5 := h3 i c2 hi hd
    exact h5.kept (ho _ h5.lt)
  · rw [List.getElem?_append_right (by omega)] at hi
    have hz : i - w.1.length < 1 := by simpa using (List.getElem?_eq_some_iff.mp hi).1
    have e1 : i = w.1.length := by omega
    subst e1
    simp only [Nat.sub_self] at hi
    cases hi
    exact hc
