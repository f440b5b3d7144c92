/-! ### the condition is enough: numbers, places, pictures -/
theorem z_add (x y : Int) : Int32.ofInt x + Int32.ofInt y = Int32.ofInt (x + y) := Int32.toInt_inj.1 (by simp)
theorem z_sub (x y : Int) : Int32.ofInt x - Int32.ofInt y = Int32.ofInt (x - y) := Int32.toInt_inj.1 (by simp)
theorem z_mul (x y : Int) : Int32.ofInt x * Int32.ofInt y = Int32.ofInt (x * y) := Int32.toInt_inj.1 (by simp)
theorem z_rt {x : Int} (h : zR x) : (Int32.ofInt x).toInt = x := Int32.toInt_ofInt_of_le (by have := h.1; omega) (by have := h.2; omega)
theorem z_b8 {n : Int} (h1 : -128 ≤ n) (h2 : n ≤ 127) : (Int8.ofInt n).toInt32 = Int32.ofInt n := Int32.toInt_inj.1 (by
  rw [Int8.toInt_toInt32, Int8.toInt_ofInt_of_le (by omega) (by omega), Int32.toInt_ofInt_of_le (by omega) (by omega)])
theorem z_b16 {n : Int} (h1 : -32768 ≤ n) (h2 : n ≤ 32767) : (Int16.ofInt n).toInt32 = Int32.ofInt n := Int32.toInt_inj.1 (by
  rw [Int16.toInt_toInt32, Int16.toInt_ofInt_of_le (by omega) (by omega), Int32.toInt_ofInt_of_le (by omega) (by omega)])
theorem z_lt {x y : Int} (hx : zR x) (hy : zR y) : (Int32.ofInt x < Int32.ofInt y) ↔ x < y := by rw [Int32.lt_iff_toInt_lt, z_rt hx, z_rt hy]
theorem z_le {x y : Int} (hx : zR x) (hy : zR y) : (Int32.ofInt x ≤ Int32.ofInt y) ↔ x ≤ y := by rw [Int32.le_iff_toInt_le, z_rt hx, z_rt hy]
theorem z_eq {x y : Int} (hx : zR x) (hy : zR y) : (Int32.ofInt x = Int32.ofInt y) ↔ x = y := by rw [← Int32.toInt_inj, z_rt hx, z_rt hy]
theorem zR_i (x : Int32) : -2147483648 ≤ x.toInt ∧ x.toInt ≤ 2147483647 := ⟨by have := x.le_toInt; omega, by have := x.toInt_lt; omega⟩
theorem zbeq (a b : Nat) : Nat.beq a b = (a == b) := by
  cases h : Nat.beq a b with
  | true => rw [Nat.eq_of_beq_eq_true h]; simp
  | false => have := Nat.ne_of_beq_eq_false h; simp [this]
theorem zlk_eq {α : Type} (k : Nat) : ∀ l : List (Nat × α), zlk k l = l.lookup k
  | [] => rfl
  | (a, b) :: t => by
    unfold zlk
    rw [List.lookup, zbeq, zlk_eq k t]
    cases k == a <;> rfl
theorem znth_eq {α : Type} : ∀ (l : List α) (n : Nat), znth l n = l[n]?
  | [], n => by simp [znth]
  | a :: t, 0 => by simp [znth]
  | a :: t, n + 1 => by simp [znth, znth_eq t n]
def zlv (lv : List (Nat × zV)) : List (Nat × Value) := lv.map (fun q => (q.1, zt q.2))
theorem zlv_at {k : Nat} {v : zV} : ∀ {lv : List (Nat × zV)}, zlk k lv = some v → (zlv lv).lookup k = some (zt v)
  | [], h => by cases h
  | (a, b) :: t, h => by
    unfold zlk at h
    simp only [zlv, List.map_cons, List.lookup]
    rw [zbeq] at h
    cases hk : k == a with
    | true => rw [hk] at h; cases h; rfl
    | false => rw [hk] at h; exact zlv_at (lv := t) h
theorem zcat_eq (v : zV) : (zt v).category = zcat v := by
  rcases v with x | x | x <;> rfl
theorem zst1_eq (lv : List (Nat × zV)) (i : Nat) (v : zV) : zlv (zst1 lv i v) = mx_st1 (zlv lv) i (zt v) := by
  simp only [zlv, zst1, mx_st1, List.map_cons, List.filter_map]
  congr 2
  apply List.filter_congr
  intro q _
  simp [Function.comp, zcat_eq, zbeq]
theorem zst2_eq (lv : List (Nat × zV)) (i : Nat) (v : zV) : zlv (zst2 lv i v) = mx_st2 (zlv lv) i (zt v) := by
  simp only [zlv, zst2, mx_st2, List.map_cons, List.filter_map]
  congr 2
  apply List.filter_congr
  intro q _
  simp [Function.comp, zcat_eq, zbeq]
set_option maxHeartbeats 1000000 in
theorem zp_ok {i : Instr} {st st' : List zV} (h : zp i st = some st') : mx_pure i (st.map zt) = some (st'.map zt) := by
  unfold zp at h
  split at h
  case h_2 =>
    split at h
    · rename_i hc
      simp only [Bool.and_eq_true, decide_eq_true_eq] at hc
      cases h
      simp [mx_pure, zt, z_b8 hc.1 hc.2]
    · cases h
  case h_3 =>
    split at h
    · rename_i hc
      simp only [Bool.and_eq_true, decide_eq_true_eq] at hc
      cases h
      simp [mx_pure, zt, z_b16 hc.1 hc.2]
    · cases h
  all_goals first | (cases h; done) | (cases h; rfl) | (cases h; simp only [List.map_cons, zt, ← z_add, ← z_sub, ← z_mul]; rfl)
set_option maxHeartbeats 1000000 in
theorem zo_ok {i : Instr} {st st' : List zV} {q : Int32} (h : zo i st = some (q, st')) : mx_pure i (st.map zt) = some ((.inl q.toInt :: st').map zt) := by
  unfold zo at h
  split at h <;> first | (cases h; done) | (cases h; simp only [List.map_cons, zt, Int32.ofInt_toInt]; rfl)
def zrf (v : zV) : Prop := match v with
  | .inr (.inr q) => q.1 < 1048576
  | _ => True
theorem zst1_in {lv : List (Nat × zV)} {i : Nat} {v : zV} {q : Nat × zV} (h : q ∈ zst1 lv i v) : q.2 = v ∨ q ∈ lv := by
  rcases List.mem_cons.mp h with h | h
  · left; rw [h]
  · right; exact (List.mem_filter.mp h).1
theorem zst2_in {lv : List (Nat × zV)} {i : Nat} {v : zV} {q : Nat × zV} (h : q ∈ zst2 lv i v) : q.2 = v ∨ q ∈ lv := by
  rcases List.mem_cons.mp h with h | h
  · left; rw [h]
  · right; exact (List.mem_filter.mp h).1
def zrfs (lv : List (Nat × zV)) (st : List zV) : Prop := (∀ q ∈ lv, zrf q.2) ∧ ∀ v ∈ st, zrf v
theorem zisA {q : Nat × Nat} (h : zrf (.inr (.inr q))) : mx_isA (.ref q.1) = true := by
  have h : q.1 < 1048576 := h
  exact Nat.ble_eq_true_of_le (Nat.le_of_lt h)
theorem zlkm {α : Type} {l : List (Nat × α)} {i : Nat} {v : α} (h : zlk i l = some v) : (i, v) ∈ l := by
  rw [zlk_eq] at h
  induction l with
  | nil => cases h
  | cons q t ih =>
    obtain ⟨j, u⟩ := q
    simp only [List.lookup] at h
    split at h
    · rename_i hb
      have hb : i = j := by simpa using hb
      cases h
      rw [hb]
      exact List.mem_cons_self
    · exact List.mem_cons_of_mem _ (ih h)
theorem zrfs_st1 {lv : List (Nat × zV)} {st : List zV} {v : zV} (hr : zrfs lv (v :: st)) (n : Nat) : zrfs (zst1 lv n v) st :=
  ⟨fun q hq => by
    rcases zst1_in hq with h | h
    · rw [h]; exact hr.2 v List.mem_cons_self
    · exact hr.1 q h, fun u hu => hr.2 u (List.mem_cons_of_mem _ hu)⟩
theorem zrfs_st2 {lv : List (Nat × zV)} {st : List zV} {v : zV} (hr : zrfs lv (v :: st)) (n : Nat) : zrfs (zst2 lv n v) st :=
  ⟨fun q hq => by
    rcases zst2_in hq with h | h
    · rw [h]; exact hr.2 v List.mem_cons_self
    · exact hr.1 q h, fun u hu => hr.2 u (List.mem_cons_of_mem _ hu)⟩
theorem zrfs_cons {lv : List (Nat × zV)} {st : List zV} {v : zV} (hr : zrfs lv st) (h : zrf v) : zrfs lv (v :: st) :=
  ⟨hr.1, fun u hu => by
    rcases List.mem_cons.mp hu with h1 | h1
    · rw [h1]; exact h
    · exact hr.2 u h1⟩
theorem zrfs_tl {lv : List (Nat × zV)} {st : List zV} {v : zV} (hr : zrfs lv (v :: st)) : zrfs lv st := ⟨hr.1, fun u hu => hr.2 u (List.mem_cons_of_mem _ hu)⟩
theorem zrfs_inc {lv : List (Nat × zV)} {st : List zV} (hr : zrfs lv st) (n : Nat) (x : Int) : zrfs (zst1 lv n (.inl x)) st :=
  ⟨fun q hq => by
    rcases zst1_in hq with h | h
    · rw [h]; trivial
    · exact hr.1 q h, hr.2⟩
set_option maxHeartbeats 1000000 in
theorem zlc_ok {nL : Nat} {i : Instr} {lv lv' : List (Nat × zV)} {st st' : List zV} (hr : zrfs lv st) (h : zlc nL i lv st = some (lv', st')) : mx_pure i (st.map zt) = none ∧ mx_loc nL i (zlv lv) (st.map zt) = some (zlv lv', st'.map zt) ∧ zrfs lv' st' := by
  have ld : ∀ (n : Nat) (v : zV), zlk n lv = some v → (zlv lv).lookup n = some (zt v) := fun n v h => zlv_at h
  have lr : ∀ (n : Nat) (v : zV), zlk n lv = some v → zrf v := fun n v h => hr.1 _ (zlkm h)
  cases i <;> first | (simp [zlc] at h; done) | skip
  all_goals
    simp only [zlc] at h
    repeat' split at h
    all_goals first | (cases h; done) | skip
    all_goals
      cases h
      refine ⟨by simp [mx_pure], ?_⟩
      rename_i hq
      first
        | (refine ⟨?_, zrfs_cons hr (lr _ _ hq)⟩
           simp only [mx_loc, ld _ _ hq, zt, mx_isI, mx_isL]; rfl)
        | (refine ⟨?_, zrfs_cons hr (lr _ _ hq)⟩
           have hA := zisA (lr _ _ hq)
           simp only [mx_loc, ld _ _ hq, zt, hA]; rfl)
        | (refine ⟨?_, zrfs_st1 hr _⟩
           simp only [mx_loc, List.map_cons, zt, mx_isI, mx_isL, Bool.true_and, hq, zst1_eq]; rfl)
        | (refine ⟨?_, zrfs_st2 hr _⟩
           simp only [mx_loc, List.map_cons, zt, mx_isI, mx_isL, Bool.true_and, hq, zst2_eq]; rfl)
        | (refine ⟨?_, zrfs_st1 hr _⟩
           have hA := zisA (hr.2 _ List.mem_cons_self)
           simp only [mx_loc, List.map_cons, zt, hA, Bool.true_and, hq, zst1_eq]; rfl)
        | (rename_i hz _
           refine ⟨?_, zrfs_inc hr _ _⟩
           simp only [mx_loc, ld _ _ hz, zt, hq, zst1_eq, ← z_add]; rfl)
        | trace_state
set_option maxHeartbeats 1000000 in
theorem zp_rf {i : Instr} {lv : List (Nat × zV)} {st st' : List zV} (hr : zrfs lv st) (h : zp i st = some st') : zrfs lv st' := by
  refine ⟨hr.1, fun v hv => ?_⟩
  have h2 := hr.2
  unfold zp at h
  split at h
  all_goals first | (cases h; done) | (split at h <;> cases h) | cases h
  all_goals
    simp only [List.mem_cons, forall_eq_or_imp] at hv h2
    first
      | exact h2.2 _ hv
      | (rcases hv with rfl | hv <;> first | exact True.intro | exact h2 _ hv | exact h2.2 _ hv | exact h2.2.2 _ hv)
      | (rcases hv with rfl | rfl | hv <;> first | exact True.intro | exact h2.1 | exact h2.2 _ hv)
      | (rcases hv with rfl | rfl | rfl | rfl | hv <;> first | exact True.intro | exact h2.1 | exact h2.2.1 | exact h2.2.2 _ hv)
set_option maxHeartbeats 1000000 in
theorem zo_rf {i : Instr} {lv : List (Nat × zV)} {st st' : List zV} {q : Int32} (hr : zrfs lv st) (h : zo i st = some (q, st')) : zrfs lv st' := by
  refine ⟨hr.1, fun v hv => hr.2 v ?_⟩
  unfold zo at h
  split at h
  all_goals first | (cases h; done) | (cases h; simp [hv])
/-! ### a method's rows follow each other -/
def zjok (q : Nat × Instr) : Bool := match q.2 with
  | .goto off => decide (0 ≤ (q.1 : Int) + off)
  | .ifCond _ off => decide (0 ≤ (q.1 : Int) + off)
  | .if_icmp _ off => decide (0 ≤ (q.1 : Int) + off)
  | .tableswitch dflt lo hi offs => decide (0 ≤ (q.1 : Int) + dflt) && (offs.toList.all (fun o => decide (0 ≤ (q.1 : Int) + o)) && decide ((offs.toList.length : Int) = hi - lo + 1))
  | _ => true
def zgd (l : List (Nat × Instr)) : Bool := match l with
  | [] => true
  | q :: t => (match t with
    | [] => true
    | q2 :: _ => (Nat.beq q2.1 (q.1 + mx_len q.2) || mx_isT q.2) && Nat.blt q.1 q2.1) && (zjok q && zgd t)
theorem zgd_tl {q : Nat × Instr} {t : List (Nat × Instr)} (h : zgd (q :: t) = true) : zgd t = true := by
  unfold zgd at h
  simp only [Bool.and_eq_true] at h
  exact h.2.2
theorem zgd_j {q : Nat × Instr} {t : List (Nat × Instr)} (h : zgd (q :: t) = true) : zjok q = true := by
  unfold zgd at h
  simp only [Bool.and_eq_true] at h
  exact h.2.1
theorem zgd_nx {q q2 : Nat × Instr} {t : List (Nat × Instr)} (h : zgd (q :: q2 :: t) = true) (hT : mx_isT q.2 = false) : q2.1 = q.1 + mx_len q.2 := by
  unfold zgd at h
  simp only [Bool.and_eq_true, Bool.or_eq_true, hT] at h
  rcases h.1.1 with h | h
  · exact Nat.eq_of_beq_eq_true h
  · cases h
theorem zgd_lt : ∀ {t : List (Nat × Instr)} {q : Nat × Instr}, zgd (q :: t) = true → ∀ x ∈ t, q.1 < x.1
  | [], _, _, _, hx => by cases hx
  | q2 :: t, q, h, x, hx => by
    have h1 : q.1 < q2.1 := by
      unfold zgd at h
      simp only [Bool.and_eq_true] at h
      exact mx_blt h.1.2
    rcases List.mem_cons.mp hx with e | e
    · rw [e]; exact h1
    · exact Nat.lt_trans h1 (zgd_lt (zgd_tl h) x e)
theorem zgd_look {q : Nat × Instr} {rest : List (Nat × Instr)} : ∀ {l : List (Nat × Instr)}, zgd l = true → q :: rest <:+ l → l.lookup q.1 = some q.2
  | [], _, h => by have := h.length_le; simp at this
  | x :: t, hg, h => by
    rcases List.suffix_cons_iff.mp h with e | e
    · cases e
      obtain ⟨q1, q2⟩ := q
      simp [List.lookup]
    · have h1 := zgd_lt hg q (e.subset List.mem_cons_self)
      have h2 : (q.1 == x.1) = false := by simp; omega
      obtain ⟨x1, x2⟩ := x
      simp only [List.lookup]
      dsimp only at h2
      rw [h2]
      exact zgd_look (zgd_tl hg) e
theorem zgd_suf {c : List (Nat × Instr)} : ∀ {l : List (Nat × Instr)}, zgd l = true → c <:+ l → zgd c = true
  | [], _, h => by
    have : c = [] := by simpa using h
    rw [this]; rfl
  | x :: t, hg, h => by
    rcases List.suffix_cons_iff.mp h with e | e
    · rw [e]; exact hg
    · exact zgd_suf (zgd_tl hg) e
theorem zsuf_suf (t : Nat) : ∀ l : List (Nat × Instr), zsuf t l <:+ l
  | [] => List.suffix_refl _
  | q :: r => by
    unfold zsuf
    split
    · exact List.suffix_refl _
    · exact (zsuf_suf t r).trans (List.suffix_cons _ _)
theorem zsuf_pc {t : Nat} {q : Nat × Instr} {r : List (Nat × Instr)} : ∀ {l : List (Nat × Instr)}, zsuf t l = q :: r → q.1 = t
  | [], h => by cases h
  | x :: l, h => by
    unfold zsuf at h
    split at h
    · rename_i hb
      cases h
      exact (Nat.eq_of_beq_eq_true hb).symm
    · exact zsuf_pc h
theorem ztg_ok {pc : Nat} {off : Int} (h : 0 ≤ (pc : Int) + off) : mx_tg pc off = some (ztg pc off) := by
  unfold mx_tg ztg
  obtain ⟨n, hn⟩ := Int.eq_ofNat_of_zero_le h
  rw [hn]
  rfl
/-! ### the memory's picture -/
def zFt (μ : zM) (t k : Nat) (f : zF) (v : Value) : Prop := match f with
  | .inl (lo, hi) => v = .int (Int32.ofInt (μ.1 t k)) ∧ lo ≤ μ.1 t k ∧ μ.1 t k ≤ hi
  | .inr (.inl _) => ∃ x : Int64, v = .long x
  | .inr (.inr (.inl (off, y'))) => ∃ j : Nat, v = .ref j ∧ j < 1048576 ∧ j = (match Nat.ble 14 y' && Nat.ble y' 31 with | true => Nat.add t off | false => y')
  | .inr (.inr (.inr y')) => ∃ j : Nat, v = .ref j ∧ j < 1048576 ∧ (j : Int) = μ.1 t k ∧ zchk μ y' j True
def zRw (μ : zM) (t n : Nat) (lo hi : Int) (a : mI) : Prop := ∀ q : Nat, q < n → mx_g a q = Int32.ofInt (μ.1 t q) ∧ lo ≤ μ.1 t q ∧ μ.1 t q ≤ hi
def zCe (μ : zM) (t : Nat) (d : zD) (c : mE) : Prop := match d with
  | .inl ci => ∃ fs : List Value, c = .inl (ci, fs) ∧ ∃ fl : List zF, znth zfl ci = some fl ∧ fs.length = fl.length ∧ ∀ k f v, znth fl k = some f → fs[k]? = some v → zFt μ t k f v
  | .inr (kk, n, lo, hi) => μ.2 t = n ∧ (match Nat.beq kk 1 with
    | true => ∃ a : mJ, c = .inr ((kk, n), .inr a)
    | false => ∃ a : mI, c = .inr ((kk, n), .inl a) ∧ zRw μ t n lo hi a)
/-- longs: rows and fields -/
def zLr (μ : zM) (w : mW) : Prop := ∀ (t n : Nat) (a : mJ), w.1[t]? = some (.inr ((1, n), .inr a)) → ∀ q : Nat, q < n → (mx_g a q).toInt = μ.1 (3000000 + t) q
def zLf (μ : zM) (w : mW) : Prop := ∀ (t ci : Nat) (fs : List Value), w.1[t]? = some (.inl (ci, fs)) → ∀ (k : Nat) (v : Int64), fs[k]? = some (.long v) → v.toInt = μ.1 (5000000 + t) k
def zRep (μ : zM) (w : mW) : Prop := (w.1.length ≤ 1048576 ∧ zLr μ w ∧ zLf μ w) ∧ ((w.1.length : Int) = μ.1 2000000 0 ∧ (w.2 : Int) = μ.1 2000000 1) ∧ (∀ t d, znth zcl t = some d → ∃ c, w.1[t]? = some c ∧ zCe μ t d c) ∧ ∀ t, zDyn μ t → ∃ (n : Nat) (a : mI), w.1[t]? = some (.inr ((0, n), .inl a)) ∧ μ.2 t = n ∧ zRw μ t n (-2147483648) 2147483647 a
theorem z108 {μ : zM} {w : mW} (hw : zRep μ w) : ∃ a : mJ, w.1[108]? = some (.inr ((1, 1), .inr a)) := by
  obtain ⟨c, e1, -, a, e2⟩ := hw.2.2.1 108 _ (show znth zcl 108 = some (.inr (1, 1, (-2147483648), 2147483647)) from rfl)
  exact ⟨a, by rw [e1, e2]⟩
theorem zu_ne {μ : zM} {j : Nat} {k x : Int} {i : Nat} (h : i ≠ j) : (zu μ j k x).1 i = μ.1 i := by
  funext q
  simp [zu, h]
theorem zu_at {μ : zM} {j : Nat} {k x : Int} : (zu μ j k x).1 j k = x := by simp [zu]
theorem zu_nk {μ : zM} {j : Nat} {k x q : Int} (h : q ≠ k) : (zu μ j k x).1 j q = μ.1 j q := by simp [zu, h]
theorem zFt_ne {μ : zM} {j : Nat} {k x : Int} {t kf : Nat} {f : zF} {v : Value} (ht : (zu μ j k x).1 t kf = μ.1 t kf) (h : zFt μ t kf f v) : zFt (zu μ j k x) t kf f v := by
  unfold zFt at h ⊢
  split
  · rw [ht]; exact h
  · exact h
  · exact h
  · obtain ⟨t', h1, h2, h3, h4⟩ := h
    exact ⟨t', h1, h2, by rw [ht]; exact h3, h4⟩
theorem zCe_eq {μ μ' : zM} {t : Nat} {d : zD} {c : mE} (ht : μ'.1 t = μ.1 t) (h2 : μ'.2 = μ.2) (h : zCe μ t d c) : zCe μ' t d c := by
  have hk : ∀ y j, zchk μ y j True → zchk μ' y j True := fun y j hy => by
    unfold zchk zIn zDyn at hy ⊢
    rw [h2]
    exact hy
  unfold zCe at h ⊢
  split
  · obtain ⟨fs, h1, fl, h2', h3, h4⟩ := h
    refine ⟨fs, h1, fl, h2', h3, fun kf f v e1 e2 => ?_⟩
    have h5 := h4 kf f v e1 e2
    unfold zFt at h5 ⊢
    split
    · rw [ht]; exact h5
    · exact h5
    · exact h5
    · obtain ⟨j, k1, k2, k3, k4⟩ := h5
      exact ⟨j, k1, k2, by rw [ht]; exact k3, hk _ _ k4⟩
  · rw [h2]
    refine ⟨h.1, ?_⟩
    have h3 := h.2
    split at h3
    · exact h3
    · obtain ⟨a, h4, h5⟩ := h3
      refine ⟨a, h4, ?_⟩
      unfold zRw at h5 ⊢
      rw [ht]
      exact h5
/-- a cell is written -/
theorem zRep_setG {μ μ' : zM} {w : mW} {j : Nat} {c' : mE} (h : zRep μ w) (hl : j < w.1.length) (hμ : ∀ i : Nat, i ≠ j → i < 2000001 → μ'.1 i = μ.1 i) (h2 : μ'.2 = μ.2) (hr : zLr μ' (w.1.set j c', w.2)) (hf : zLf μ' (w.1.set j c', w.2)) (h1 : ∀ d, znth zcl j = some d → zCe μ' j d c') (h3 : zDyn μ j → ∃ (n : Nat) (a : mI), c' = .inr ((0, n), .inl a) ∧ μ.2 j = n ∧ zRw μ' j n (-2147483648) 2147483647 a) : zRep μ' (w.1.set j c', w.2) := by
  obtain ⟨g1, g2, g3, g4⟩ := h
  have hj := g1.1
  refine ⟨⟨by simpa using g1.1, hr, hf⟩, ?_, fun t d hd => ?_, fun t hd => ?_⟩
  · rw [hμ 2000000 (by omega) (by omega)]
    simpa using g2
  · by_cases ht : t = j
    · subst ht
      exact ⟨c', by simp [hl], h1 d hd⟩
    · obtain ⟨c, e1, e2⟩ := g3 t d hd
      have := (List.getElem?_eq_some_iff.mp e1).1
      exact ⟨c, by dsimp only; rw [List.getElem?_set_ne (Ne.symm ht)]; exact e1, zCe_eq (hμ t ht (by omega)) h2 e2⟩
  · have hd' : zDyn μ t := by unfold zDyn at hd ⊢; rw [h2] at hd; exact hd
    by_cases ht : t = j
    · subst ht
      obtain ⟨n, a, e1, e2, e3⟩ := h3 hd'
      exact ⟨n, a, by simp [hl, e1], by rw [h2]; exact e2, e3⟩
    · obtain ⟨n, a, e1, e2, e3⟩ := g4 t hd'
      have := (List.getElem?_eq_some_iff.mp e1).1
      exact ⟨n, a, by dsimp only; rw [List.getElem?_set_ne (Ne.symm ht)]; exact e1, by rw [h2]; exact e2, by unfold zRw at e3 ⊢; rw [hμ t ht (by omega)]; exact e3⟩
theorem zRep_set {μ : zM} {w : mW} {j : Nat} {k x : Int} {c' : mE} (h : zRep μ w) (hj : j < 1048576) (hl : j < w.1.length) (hL : ∀ n a, c' ≠ .inr ((1, n), .inr a)) (hF : ∀ ci fs, c' = .inl (ci, fs) → ∀ (k : Nat) (v : Int64), fs[k]? = some (.long v) → v.toInt = μ.1 (5000000 + j) k) (h1 : ∀ d, znth zcl j = some d → zCe (zu μ j k x) j d c') (h2 : zDyn μ j → ∃ (n : Nat) (a : mI), c' = .inr ((0, n), .inl a) ∧ μ.2 j = n ∧ zRw (zu μ j k x) j n (-2147483648) 2147483647 a) : zRep (zu μ j k x) (w.1.set j c', w.2) := by
  refine zRep_setG h hl (fun i hi _ => zu_ne hi) rfl (fun t n a ht q hq => ?_) (fun t ci fs ht k' v hv => ?_) h1 h2
  · dsimp only at ht
    rw [zu_ne (by omega)]
    by_cases e : t = j
    · subst e
      rw [show (w.1.set t c')[t]? = some c' by simp [hl]] at ht
      exact absurd (Option.some.inj ht) (hL n a)
    · rw [List.getElem?_set_ne (Ne.symm e)] at ht
      exact h.1.2.1 t n a ht q hq
  · dsimp only at ht
    rw [zu_ne (by omega)]
    by_cases e : t = j
    · subst e
      rw [show (w.1.set t c')[t]? = some c' by simp [hl]] at ht
      exact hF ci fs (Option.some.inj ht) k' v hv
    · rw [List.getElem?_set_ne (Ne.symm e)] at ht
      exact h.1.2.2 t ci fs ht k' v hv
