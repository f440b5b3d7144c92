theorem mx_R.ref {D : va_G} {cy : Nat → ClassId} {r : Nat → Value} {B : Nat} {w : mW} {H : Heap} (h : mx_R D cy r B w H) (hr : mx_r r B) {j : Nat} {c : mE} (hj : w.1[j]? = some c) : r j = .ref (B + j) :=
  hr.1 j (Nat.lt_of_lt_of_le (List.getElem?_eq_some_iff.mp hj).1 h.2.1)
def mx_tx : String := "<>,:&?^;="
def mx_sb : Array Value := #[.int 60, .int 62, .int 44, .int 58, .int 38, .int 63, .int 94, .int 59, .int 61]
def mx_str : String := "java/lang/String"
def mx_SO (a B : Nat) (U : State) (H : Heap) : Prop := ∃ (cell : Cell) (k : Class), H[a]? = some cell ∧ cell.vm.isStatics = false ∧ U.vm.findClass mx_str = some cell.cls ∧ U.vm.classes[cell.cls]? = some k ∧ (k.kind = .ordinary → cell.slots.size = k.instanceTypes.size) ∧ ¬ B ≤ a
def mx_SF (n d : String) (v : Value) (a B : Nat) (U : State) (H : Heap) : Prop := ∃ (cf i : Nat) (k : Class) (f : Field) (cell : Cell), U.fieldFound? mx_str n d = some (cf, k, i, f) ∧ f.isStatic = false ∧ H[a]? = some cell ∧ cell.vm ≠ .unknown ∧ cell.vm.isStatics = false ∧ U.vm.assignable cell.cls cf = true ∧ cell.slots[f.slot]? = some v ∧ ¬ B ≤ a
def mx_SA (v B : Nat) (U : State) (H : Heap) : Prop := ∃ cell : Cell, H[v]? = some cell ∧ U.isArrayOf cell .byte ∧ cell.vm ≠ .unknown ∧ cell.slots = mx_sb ∧ ¬ B ≤ v
def mx_LS (B : Nat) (U : State) (H : Heap) : Prop := ∃ a v : Nat, vk_R RX5 71 mx_tx a U ∧ mx_SO a B U H ∧ mx_SF "coder" "B" (.int 0) a B U H ∧ mx_SF "value" "[B" (.ref v) a B U H ∧ mx_SA v B U H ∧ va_Z mx_str "COMPACT_STRINGS" "Z" (.int 1) (fun q => B ≤ q) U H
theorem mx_SO.mk2 {a B : Nat} {u U : State} {H H1 : Heap} (h : mx_SO a B u H) (hv : u.vm.Alike U.vm) (hq : ∀ a : Nat, a < H.size → ¬ B ≤ a → H1[a]? = H[a]?) : mx_SO a B U H1 := by
  obtain ⟨cell, k, h1, h2, h3, h4, h5, h6⟩ := h
  obtain ⟨k', hk', he⟩ := hv.2.2 _ _ h4
  exact ⟨cell, k', (hq a (Array.getElem?_eq_some_iff.mp h1).1 h6).trans h1, h2, by rw [hv.findClass]; exact h3, hk', by rw [he]; exact h5, h6⟩
theorem mx_SF.mk2 {n d : String} {v : Value} {a B : Nat} {u U : State} {H H1 : Heap} (h : mx_SF n d v a B u H) (hv : u.vm.Alike U.vm) (hq : ∀ a : Nat, a < H.size → ¬ B ≤ a → H1[a]? = H[a]?) : mx_SF n d v a B U H1 := by
  obtain ⟨cf, i, k, f, cell, h1, h2, h3, h4, h5, h6, h7, h8⟩ := h
  obtain ⟨k', hk', -⟩ := State.fieldFound?_setVm hv h1
  exact ⟨cf, i, k', f, cell, hk', h2, (hq a (Array.getElem?_eq_some_iff.mp h3).1 h8).trans h3, h4, h5, by rw [hv.assignable]; exact h6, h7, h8⟩
theorem mx_SA.mk2 {v B : Nat} {u U : State} {H H1 : Heap} (h : mx_SA v B u H) (hv : u.vm.Alike U.vm) (hq : ∀ a : Nat, a < H.size → ¬ B ≤ a → H1[a]? = H[a]?) : mx_SA v B U H1 := by
  obtain ⟨cell, h1, h2, h3, h4, h5⟩ := h
  exact ⟨cell, (hq v (Array.getElem?_eq_some_iff.mp h1).1 h5).trans h1, State.isArrayOf_alike hv h2, h3, h4, h5⟩
theorem mx_LS.go {B : Nat} {s U : State} {H0 H : Heap} {locs : List Loc} (h : mx_LS B s H0) (hS : va_S (fun q => B ≤ q) H0 H locs) (hW : s.WarmedH U.vm) : mx_LS B U H := by
  obtain ⟨a, v, h1, h2, h3, h4, h5, h6⟩ := h
  exact ⟨a, v, vk_R.warm hW h1, h2.mk2 hW.alike hS.2.1, h3.mk2 hW.alike hS.2.1, h4.mk2 hW.alike hS.2.1, h5.mk2 hW.alike hS.2.1, va_Z.moved hW.alike (h6.kept hS.2.1)⟩
theorem mx_LS.same {B : Nat} {s U : State} {H : Heap} (h : mx_LS B s H) (hv : U.vm = s.vm) : mx_LS B U H := by
  obtain ⟨a, v, h1, h2, h3, h4, h5, h6⟩ := h
  have ha : s.vm.Alike U.vm := by rw [hv]; exact Vm.Alike.refl s.vm
  exact ⟨a, v, vk_R.same hv h1, h2.mk2 ha (fun _ _ _ => rfl), h3.mk2 ha (fun _ _ _ => rfl), h4.mk2 ha (fun _ _ _ => rfl), h5.mk2 ha (fun _ _ _ => rfl), va_Z.moved ha h6⟩
/-- what the script's words are -/
def mx_sc (sc : Option Nat) (r : Nat → Value) (B : Nat) (s : State) (H0 : Heap) : Prop := (∀ L, sc = some L → ∃ (b : Nat) (xs : Nat → Int32), r mx_E = .ref b ∧ va_X b L xs s H0 ∧ b < H0.size ∧ ¬ B ≤ b ∧ ∀ i, i < L → r (mx_E + 1 + i) = .int (xs i)) ∧ mx_LS B s H0
section MX3
variable {p : Program} {l : Launch} {e : Env} {R : Room} {s : State} {m : MethodId} {args : Array Value} {below : List Frame} {meth : Method} {c : Code} {H : Heap} {locs : List Loc} {cells slots : Nat} {Q : State → Prop}
variable {cc : ByteArray} {pc nL : Nat} {ls : Array Slot} {r : Nat → Value} {B : Nat} {D : va_G} {cy : Nat → ClassId} {H0 : Heap}
set_option maxHeartbeats 4000000 in
theorem mx_mem_W (hx : p.tables.exec = Jvm.exec) (hb : c.code = cc) {kb : mK} (hkb : mx_kb kb r) {own : String} {nms : Nat → Option MethodName} {sc ini : Option Nat} {lk : List (Nat × mL)} {n0 z0 k0 k1 : Nat} (hE : mx_Env s) (hown : s.vm.findClass own = some m.cls) (hK : va_K D mx_cl (mx_tys cy) s) (hr : mx_r r B)
    (hlk : ∀ x ∈ lk, mx_lkok nms own x = true) (hini : ∀ ci, ini = some ci → meth.name = "<init>" ∧ ∃ q, mx_cl[ci]? = some q ∧ own = q.1) (hsc : mx_sc sc r B s H0) (hfr : 1 ≤ R.frames) (hlo : 20 ≤ R.locals) (hls : ls.size = c.maxLocals)
    {i : Instr} {st st' : List Value} {w w' : mW} (hR : mx_R D cy r B w H) (hS : va_S (fun q => B ≤ q) H0 H locs) (hn0 : n0 ≤ w.1.length) (hz0 : z0 ≤ w.2) (hrc : w'.1.length + k0 - n0 ≤ R.cells) (hrs : w'.2 + k1 - z0 ≤ R.slots)
    (hd : decode cc pc = .ok (i, mx_len i)) (h : mx_mem kb sc ini lk i st w = some (st', w'))
    (k : ∀ (H' : Heap) (locs' : List Loc), mx_R D cy r B w' H' → va_S (fun q => B ≤ q) H0 H' locs' → W p l e R s m args below meth c H' locs' (w'.1.length + k0 - n0) (w'.2 + k1 - z0) Q (F0 m (pc + mx_len i) ls (st'.map (mx_v r)))) :
    W p l e R s m args below meth c H locs (w.1.length + k0 - n0) (w.2 + k1 - z0) Q (F0 m pc ls (st.map (mx_v r))) := by
  unfold mx_mem at h
  split at h
  case h_1 =>
    split at h
    · rename_i t ci kf zf hlf
      split at h
      · rename_i ci' fs hj
        split at h
        · rename_i hc
          simp only [Bool.and_eq_true] at hc
          split at h
          · rename_i v hv
            cases h
            have hci : ci = ci' := Nat.eq_of_beq_eq_true hc.2
            subst hci
            have h9 := hlk _ (mx_lkl hlf)
            have ht : t = 0 ∨ t = 1 := by have := Nat.le_of_ble_eq_true hc.1; omega
            have hv' : (fs.map (mx_v r))[kf]? = some (mx_v r v) := by simp [hv]
            have kk := k H locs hR hS
            simp only [List.map_cons, mx_v_ref, hR.ref hr hj] at kk ⊢
            rcases ht with rfl | rfl <;> simp only [mx_lkok] at h9 <;> split at h9 <;> first | (cases h9; done) | skip
            all_goals
              rename_i q hcl
              simp only [Bool.and_eq_true] at h9
              obtain ⟨hws, hty, hnm, hdc, -⟩ := mx_C_of hcl
              have hts : ∀ w ∈ u_ws q.1 q.2.1 q.2.2, w.before args s = true := fun w hw => hE w (hws w hw).1 (hws w hw).2 args
              have hkk := mx_blt h9.1
              have hsame : ∀ x, s.fieldFound? (q.2.1 kf).1 (q.2.1 kf).2.1 (q.2.1 kf).2.2.1 = some x → s.fieldFound? q.1 (q.2.1 kf).2.1 (q.2.1 kf).2.2.1 = some x := fun x hx => by rw [← hdc kf hkk]; exact hx
            · exact va_get hx hb hts (fun w h => h) hown hK (hR.P hj rfl) 0 rfl hcl kf hkk (mx_at_use h9.2 hE) hsame hv' hd kk
            · exact va_getN hx hb hts (fun w h => h) hown hK (hR.P hj rfl) 0 rfl hcl kf hkk (mx_at_use h9.2 hE) hsame hv' hd kk
          · cases h
        · cases h
      · cases h
    · cases h
  case h_2 ix v j st2 =>
    split at h
    · rename_i t ci kf zf hlf
      split at h
      · rename_i ci' fs hj
        split at h
        · rename_i hc
          simp only [Bool.and_eq_true, Bool.or_eq_true, decide_eq_true_eq] at hc
          cases h
          obtain ⟨⟨⟨⟨hc1, hc2⟩, hc3⟩, hc4⟩, hc5⟩ := hc
          have hci : ci = ci' := Nat.eq_of_beq_eq_true hc2
          subst hci
          have h9 := hlk _ (mx_lkl hlf)
          have ht : t = 0 ∨ t = 1 := by have := Nat.le_of_ble_eq_true hc1; omega
          simp only [List.map_cons, mx_v_ref, hR.ref hr hj, List.length_set] at k ⊢
          have key : ∀ q : vw_C, mx_cl[ci]? = some q → Nat.blt kf q.2.2 = true → (t = 0 ∧ (Cond.fieldLink own ix q.1 (q.2.1 kf).2.1 (q.2.1 kf).2.2.1).before args s = true) ∨ (t = 1 ∧ (Cond.fieldLinkNest own ix q.1 (q.2.1 kf).2.1 (q.2.1 kf).2.2.1 "BoundTables").before args s = true) → W p l e R s m args below meth c H locs (w.1.length + k0 - n0) (w.2 + k1 - z0) Q (F0 m pc ls (mx_v r v :: .ref (B + j) :: st'.map (mx_v r))) := by
            intro q hcl hkk hlink
            refine mx_put hx hb hE hown hK hr hR hS hcl (mx_blt hkk) hj (mx_blt hc3) hc4 hlink ?_ hd k
            rcases hc5 with hc5 | ⟨hc5, hc6⟩
            · left
              simp only [mx_nf, hcl] at hc5
              simpa using hc5
            · obtain ⟨g1, q', g2, g3⟩ := hini _ hc6
              cases hcl.symm.trans g2
              by_cases hf : (q.2.1 kf).2.2.2 = true
              · exact Or.inr ⟨Nat.eq_of_beq_eq_true hc5, hf, g1, g3⟩
              · exact Or.inl (by simpa using hf)
          rcases ht with rfl | rfl <;> simp only [mx_lkok] at h9 <;> split at h9 <;> first | (cases h9; done) | skip
          · rename_i q hcl
            simp only [Bool.and_eq_true] at h9
            exact key q hcl h9.1 (Or.inl ⟨rfl, mx_at_use h9.2 hE⟩)
          · rename_i q hcl
            simp only [Bool.and_eq_true] at h9
            exact key q hcl h9.1 (Or.inr ⟨rfl, mx_at_use h9.2 hE⟩)
        · cases h
      · cases h
    · cases h
  case h_3 =>
    split at h
    · rename_i hj
      have hj := Nat.eq_of_beq_eq_true hj
      subst hj
      split at h
      · rename_i L
        split at h
        · rename_i hin
          cases h
          obtain ⟨b, xs, g1, g2, g3, g4, g5⟩ := hsc.1 L rfl
          have hin := mx_in_spec hin
          have kk := k H locs hR hS
          simp only [List.map_cons, mx_v_ref, mx_v_int, g1] at kk ⊢
          rw [mx_sv_spec hkb (g5 _ (Nat.not_le.mp fun q => hin (Or.inr q)))] at kk
          exact va_sld hx hb g2 g3 g4 hS hin hd kk
        · cases h
      · cases h
    · split at h
      · rename_i kq n a hj
        split at h
        · rename_i hc
          simp only [Bool.and_eq_true] at hc
          cases h
          have hk0 : kq = 0 := Nat.eq_of_beq_eq_true hc.1
          subst hk0
          have kk := k H locs hR hS
          simp only [List.map_cons, mx_v_ref, mx_v_int, hR.ref hr hj] at kk ⊢
          exact va_iald hx hb hK (hR.P hj rfl) 0 0 rfl rfl (mx_in_spec hc.2) hd kk
        · cases h
      · cases h
  case h_4 =>
    split at h
    · rename_i kq n a hj
      split at h
      · rename_i hc
        simp only [Bool.and_eq_true] at hc
        cases h
        have hk0 : kq = 1 := Nat.eq_of_beq_eq_true hc.1
        subst hk0
        have kk := k H locs hR hS
        simp only [List.map_cons, mx_v_ref, mx_v_int, mx_v_long, hR.ref hr hj] at kk ⊢
        exact va_lald hx hb hK (hR.P hj rfl) 0 1 rfl rfl (mx_in_spec hc.2) hd kk
      · cases h
    · cases h
  case h_5 =>
    split at h
    · rename_i kq n a hj
      split at h
      · rename_i hc
        simp only [Bool.and_eq_true, Bool.or_eq_true] at hc
        cases h
        have kk := k H locs hR hS
        simp only [List.map_cons, mx_v_ref, mx_v_int, hR.ref hr hj] at kk ⊢
        rcases hc.1 with hk0 | hk0
        · have hk0 : kq = 2 := Nat.eq_of_beq_eq_true hk0
          subst hk0
          exact va_zald hx hb hK (hR.P hj rfl) 0 2 rfl rfl (mx_in_spec hc.2) hd kk
        · have hk0 : kq = 3 := Nat.eq_of_beq_eq_true hk0
          subst hk0
          exact va_bald hx hb hK (hR.P hj rfl) 0 3 rfl rfl (mx_in_spec hc.2) hd kk
      · cases h
    · cases h
  case h_6 =>
    split at h
    · rename_i kq n a hj
      split at h
      · rename_i hc
        simp only [Bool.and_eq_true] at hc
        cases h
        have hk0 : kq = 0 := Nat.eq_of_beq_eq_true hc.1
        subst hk0
        simp only [List.map_cons, mx_v_ref, mx_v_int, hR.ref hr hj, List.length_set] at k ⊢
        refine W.iast hx hb (hR.2.2 _ _ hj rfl) ((hK.2 0 _ rfl).1 n (fun j => .int (mx_g a j))) (fun q => by cases q) (by show ¬ (_ ∨ (arrV _ _ _).slots.size ≤ _); rw [arrV_size]; exact mx_in_spec hc.2) rfl rfl hd fun H1 e1 z1 o1 => ?_
        exact k H1 _ (hR.set hj z1 o1 (mx_rowI e1)) (hS.put z1 o1 (Nat.le_add_right B _))
      · cases h
    · cases h
  case h_7 =>
    split at h
    · rename_i kq n a hj
      split at h
      · rename_i hc
        simp only [Bool.and_eq_true] at hc
        cases h
        have hk0 : kq = 1 := Nat.eq_of_beq_eq_true hc.1
        subst hk0
        simp only [List.map_cons, mx_v_ref, mx_v_int, mx_v_long, hR.ref hr hj, List.length_set] at k ⊢
        refine W.last hx hb (hR.2.2 _ _ hj rfl) ((hK.2 1 _ rfl).1 n (fun j => .long (mx_g a j))) (fun q => by cases q) (by show ¬ (_ ∨ (arrV _ _ _).slots.size ≤ _); rw [arrV_size]; exact mx_in_spec hc.2) rfl rfl hd fun H1 e1 z1 o1 => ?_
        exact k H1 _ (hR.set hj z1 o1 (mx_rowJ e1)) (hS.put z1 o1 (Nat.le_add_right B _))
      · cases h
    · cases h
  case h_8 =>
    split at h
    · rename_i kq n a hj
      split at h
      · rename_i hc
        simp only [Bool.and_eq_true] at hc
        cases h
        have hk0 : kq = 2 := Nat.eq_of_beq_eq_true hc.1
        subst hk0
        simp only [List.map_cons, mx_v_ref, mx_v_int, hR.ref hr hj, List.length_set] at k ⊢
        refine W.zast hx hb (hR.2.2 _ _ hj rfl) ((hK.2 2 _ rfl).1 n (fun j => .int (mx_g a j))) (fun q => by cases q) (by show ¬ (_ ∨ (arrV _ _ _).slots.size ≤ _); rw [arrV_size]; exact mx_in_spec hc.2) rfl rfl hd fun H1 e1 z1 o1 => ?_
        exact k H1 _ (hR.set hj z1 o1 (mx_rowI e1)) (hS.put z1 o1 (Nat.le_add_right B _))
      · split at h
        · rename_i hc
          simp only [Bool.and_eq_true] at hc
          cases h
          have hk0 : kq = 3 := Nat.eq_of_beq_eq_true hc.1
          subst hk0
          simp only [List.map_cons, mx_v_ref, mx_v_int, hR.ref hr hj, List.length_set] at k ⊢
          refine W.bast hx hb (hR.2.2 _ _ hj rfl) ((hK.2 3 _ rfl).1 n (fun j => .int (mx_g a j))) (fun q => by cases q) (by show ¬ (_ ∨ (arrV _ _ _).slots.size ≤ _); rw [arrV_size]; exact mx_in_spec hc.2) rfl rfl hd fun H1 e1 z1 o1 => ?_
          exact k H1 _ (hR.set hj z1 o1 (mx_rowI e1)) (hS.put z1 o1 (Nat.le_add_right B _))
        · cases h
    · cases h
  case h_9 =>
    split at h
    · rename_i hj
      have hj := Nat.eq_of_beq_eq_true hj
      subst hj
      split at h
      · rename_i L
        cases h
        obtain ⟨b, xs, g1, g2, g3, g4, g5⟩ := hsc.1 L rfl
        have kk := k H locs hR hS
        simp only [List.map_cons, mx_v_ref, mx_v_int, g1] at kk ⊢
        exact va_slen hx hb g2 g3 g4 hS hd kk
      · cases h
    · split at h
      · rename_i kq n a hj
        split at h
        · rename_i hc
          cases h
          have hk4 := mx_blt hc
          have kk := k H locs hR hS
          simp only [List.map_cons, mx_v_ref, mx_v_int, hR.ref hr hj] at kk ⊢
          obtain ⟨ty, hty⟩ : ∃ ty, (mx_tys cy)[kq]? = some (cy kq, ty) := by
            rcases (show kq = 0 ∨ kq = 1 ∨ kq = 2 ∨ kq = 3 by omega) with rfl | rfl | rfl | rfl <;> exact ⟨_, rfl⟩
          have hdd : mx_dd (.inr ((kq, n), a)) = false := by rcases (show kq = 0 ∨ kq = 1 ∨ kq = 2 ∨ kq = 3 by omega) with rfl | rfl | rfl | rfl <;> rfl
          cases a with
          | inl a => exact va_alen hx hb hK (hR.P hj hdd) 0 kq rfl hty rfl hd kk
          | inr a => exact va_alen hx hb hK (hR.P hj hdd) 0 kq rfl hty rfl hd kk
        · cases h
      · cases h
  case h_10 t n st2 =>
    split at h
    · rename_i kq hkq
      split at h
      · rename_i hc
        simp only [Bool.and_eq_true, decide_eq_true_eq] at hc
        cases h
        obtain ⟨⟨⟨hc1, hc2⟩, hc3⟩, hc4⟩ := hc
        have hfz := mx_al_spec hkb hr hc4
        have hc2 := Nat.le_of_ble_eq_true hc2
        have hc3 := mx_blt hc3
        simp only [List.map_cons, mx_v_ref, mx_v_int, hr.1 _ hc3, List.length_append, List.length_singleton] at k hrc hrs ⊢
        have harr : (Cond.arrayClass (newarray.typeOf t)).before args s = true ∧ n.toNatClampNeg * componentBytes (newarray.typeOf t) ≤ 536870912 ∧ (∀ cA, s.vm.findClass ("[" ++ (newarray.typeOf t).toString) = some cA → cA = cy kq) ∧ ∀ cA, cA = cy kq → ∀ H' : Heap, H'[B + w.1.length]? = some (arrV cA n.toNatClampNeg (fun _ => defaultValue (newarray.typeOf t))) → va_at D mx_cl (B + w.1.length, mx_c cy r (mx_new kq n.toNatClampNeg)) H' := by
          cases t <;> cases hkq <;> refine ⟨?_, ?_, fun cA h => ?_, fun cA h H' hh => ?_⟩
          · exact mx_at_use mx_ar_boolean hE
          · show _ * 1 ≤ _; omega
          · exact Option.some.inj (h.symm.trans (hK.2 2 _ rfl).2)
          · subst h; exact hh
          · exact mx_at_use mx_ar_byte hE
          · show _ * 1 ≤ _; omega
          · exact Option.some.inj (h.symm.trans (hK.2 3 _ rfl).2)
          · subst h; exact hh
          · exact mx_at_use mx_ar_int hE
          · show _ * 4 ≤ _; omega
          · exact Option.some.inj (h.symm.trans (hK.2 0 _ rfl).2)
          · subst h; exact hh
          · exact mx_at_use mx_ar_long hE
          · show _ * 8 ≤ _; omega
          · exact Option.some.inj (h.symm.trans (hK.2 1 _ rfl).2)
          · subst h; exact hh
        obtain ⟨a1, a2, a3, a4⟩ := harr
        refine va_newaK hx hb a1 rfl hd rfl hc1 rfl a2 (by omega) (by omega) (hR.1 hfz) fun H1 cA e1 z1 o1 hAr hNm => ?_
        rw [show w.1.length + k0 - n0 + 1 = w.1.length + 1 + k0 - n0 by omega, show w.2 + k1 - z0 + n.toNatClampNeg = w.2 + n.toNatClampNeg + k1 - z0 by omega]
        refine k H1 locs (hR.push hc3 (by rw [z1, hR.1 hfz]) (fun q hq => o1 q (by rw [← hR.1 hfz]; exact hq)) (a4 cA (a3 cA hNm) H1 e1)) ⟨Nat.le_trans hS.1 (by rw [z1, ← hR.1 hfz]; omega), fun q h1 h2 => (o1 q (by rw [← hR.1 hfz]; exact Nat.lt_of_lt_of_le h1 hS.1)).trans (hS.2.1 q h1 h2), hS.2.2⟩
      · cases h
    · cases h
  case h_11 =>
    split at h
    · rename_i t ci kf zf hlf
      split at h
      · rename_i q hcl
        split at h
        · rename_i hc
          simp only [Bool.and_eq_true] at hc
          cases h
          have hfz := mx_al_spec hkb hr hc.2
          have hc := hc.1
          have ht : t = 9 := Nat.eq_of_beq_eq_true hc.1
          subst ht
          have hc3 := mx_blt hc.2
          have h9 := hlk _ (mx_lkl hlf)
          simp only [mx_lkok, hcl] at h9
          obtain ⟨hws, hty, hnm, hdc, i1, i2, hi1, hi2⟩ := mx_C_of hcl
          have hts : ∀ w ∈ u_ws q.1 q.2.1 q.2.2, w.before args s = true := fun w hw => hE w (hws w hw).1 (hws w hw).2 args
          have hKn := hK.1 ci _ hcl
          simp only [List.map_cons, mx_v_ref, hr.1 _ hc3, List.length_append, List.length_singleton] at k hrc hrs ⊢
          refine W.newcK hx hb hown (mx_at_use h9 hE) (mx_at_use hi1 hE) (mx_at_use hi2 hE) rfl hd (by omega) (by omega) hKn.2.1 (hR.1 hfz) fun H1 kC hkC e1 z1 o1 => ?_
          rw [show w.1.length + k0 - n0 + 1 = w.1.length + 1 + k0 - n0 by omega, show w.2 + k1 - z0 + q.2.2 = w.2 + q.2.2 + k1 - z0 by omega]
          refine k H1 locs (hR.push hc3 (by rw [z1, hR.1 hfz]) (fun x hx => o1 x (by rw [← hR.1 hfz]; exact hx)) ?_) ⟨Nat.le_trans hS.1 (by rw [z1, ← hR.1 hfz]; omega), fun x h1 h2 => (o1 x (by rw [← hR.1 hfz]; exact Nat.lt_of_lt_of_le h1 hS.1)).trans (hS.2.1 x h1 h2), hS.2.2⟩
          refine ⟨_, hcl, (u_born (mx_ty ci) hts (fun w h => h) hKn hkC e1 hty).to (fun j hj => ?_)⟩
          have hdv : ∀ ty : FieldType, mx_v r (defaultValue ty) = defaultValue ty := fun ty => by cases ty <;> first | rfl | (simp [mx_v, defaultValue])
          simp [vp_V, mx_defs, List.getD, hj, hdv]
        · cases h
      · cases h
    · cases h
  case h_12 =>
    split at h
    · rename_i t ci kf zf hlf
      split at h
      · rename_i hc
        cases h
        have ht : t = 10 := Nat.eq_of_beq_eq_true hc
        subst ht
        have h9 := hlk _ (mx_lkl hlf)
        simp only [mx_lkok] at h9
        exact lv_ldc hx hb hown (mx_at_use h9 hE) hd (k H locs hR hS)
      · cases h
    · cases h
  case h_13 =>
    split at h
    · rename_i t ci kf zf hlf
      split at h
      · rename_i hc
        cases h
        have ht : t = 11 := Nat.eq_of_beq_eq_true hc
        subst ht
        have h9 := hlk _ (mx_lkl hlf)
        simp only [mx_lkok] at h9
        exact lv_ldc2 hx hb hown (mx_at_use h9 hE) hd (k H locs hR hS)
      · cases h
    · cases h
  case h_14 =>
    split at h
    · rename_i t ci kf zf hlf
      split at h
      · rename_i hc
        simp only [Bool.and_eq_true] at hc
        cases h
        have ht : t = 8 := Nat.eq_of_beq_eq_true hc.1.1
        subst ht
        have h9 := hlk _ (mx_lkl hlf)
        simp only [mx_lkok] at h9
        obtain ⟨a, ha⟩ := hr.ref (Nat.le_of_ble_eq_true hc.1.2)
        have hsum := Nat.le_of_ble_eq_true hc.2
        rw [← mx_cats hr] at hsum
        simp only [List.map_cons, mx_v_ref, ha]
        refine W.objInit hx hb hown (mx_at_use h9 hE) (mx_at_use mx_oi.1 hE) (mx_at_use mx_oi.2 hE) rfl hls rfl hd hfr ?_ (k H locs hR hS)
        show 2 * 0 + _ + 12 ≤ R.locals
        omega
      · cases h
    · cases h
  case h_15 => cases h
end MX3
