/-! ### loops; a method's contract -/
theorem zzip_mem : ∀ {ks : List Nat} {vs : List zV} {q : Nat × zV}, q ∈ zzip ks vs → q.2 ∈ vs
  | [], _, _, h => by cases h
  | _ :: _, [], _, h => by cases h
  | k :: ks, v :: vs, q, h => by
    rcases List.mem_cons.mp h with e | e
    · rw [e]; exact List.mem_cons_self
    · exact List.mem_cons_of_mem _ (zzip_mem e)
theorem zloop {g : zΓ} {d : Nat} {M : mM} {sc : Option Nat} {K : List (Nat × List Nat) × List Nat} {P : Option zV → zM → Prop} {T : Nat → zM → Prop} {V : Nat → zC → Prop} (hg : zgo g) (hM : M ∈ g.2.1) (hV : ∀ a C, V a C → zOk g d a C) {fuel : Nat} {Inv : Nat → List zV → zM → Nat → Prop}
    (hI : ∀ pc ks vs μ n, zlk pc K.1 = some ks → vs.length = ks.length → Inv pc vs μ n → zw V M K (fun pc' vs' μ' => ∃ n', n' < n ∧ Inv pc' vs' μ' n') P T fuel true (zsuf pc M.2.2.2.2.1) (zzip ks vs) [] μ) :
    ∀ (n : Nat) (σ : mS) (μ : zM) (ks : List Nat) (vs : List zV), zlk σ.1 K.1 = some ks → vs.length = ks.length → (∀ v ∈ vs, zrf v) → σ.2.1 = zlv (zzip ks vs) → σ.2.2.1 = [] → zRep μ σ.2.2.2 → Inv σ.1 vs μ n → zE g d M sc [] (fun _ _ _ => False) P T σ := by
  intro n
  induction n using Nat.strongRecOn with
  | ind n ih =>
    intro σ μ ks vs h1 h2 h3 h4 h5 h6 h7
    obtain ⟨q, r, e1, e2⟩ := zw_ok (sc := sc) hg hM hV fuel (hI _ _ _ _ _ h1 h2 h7) (zsuf_suf _ _) h6 ⟨fun q hq => h3 _ (zzip_mem hq), fun v hv => by cases hv⟩
    have e3 := zsuf_pc e1
    obtain ⟨pc, lv, st, w⟩ := σ
    dsimp only at h4 h5 e3 e2
    subst h4 h5
    rw [e3] at e2
    obtain ⟨σ', μ', g1, g2, g3⟩ := e2
    rcases g3 with ⟨ks', vs', k1, k2, k3, k4, k5, n', hn', hI'⟩ | g3 | g3
    · exact zE_step g1 (ih n' hn' σ' μ' ks' vs' k1 k2 k3 k4 k5 g2 hI')
    · exact ⟨σ', μ', g1, g2, Or.inr (Or.inl g3)⟩
    · exact ⟨σ', μ', g1, g2, Or.inr (Or.inr g3)⟩
theorem zentry {g : zΓ} {d : Nat} {M : mM} {sc : Option Nat} {K : List (Nat × List Nat) × List Nat} {P : Option zV → zM → Prop} {T : Nat → zM → Prop} {V : Nat → zC → Prop} (hg : zgo g) (hM : M ∈ g.2.1) (hV : ∀ a C, V a C → zOk g d a C) {fuel : Nat} {Inv : Nat → List zV → zM → Nat → Prop}
    (hI : ∀ pc ks vs μ n, zlk pc K.1 = some ks → vs.length = ks.length → Inv pc vs μ n → zw V M K (fun pc' vs' μ' => ∃ n', n' < n ∧ Inv pc' vs' μ' n') P T fuel true (zsuf pc M.2.2.2.2.1) (zzip ks vs) [] μ)
    {lv : List (Nat × zV)} {μ : zM} {w : mW} (hw : zRep μ w) (hr : ∀ q ∈ lv, zrf q.2) (h0 : (match M.2.2.2.2.1 with | q :: _ => Nat.beq q.1 0 | [] => false) = true)
    (h : zw V M K (fun pc vs μ' => ∃ n, Inv pc vs μ' n) P T fuel false M.2.2.2.2.1 lv [] μ) : zE g d M sc [] (fun _ _ _ => False) P T (0, zlv lv, [], w) := by
  obtain ⟨q, r, e1, e2⟩ := zw_ok (sc := sc) hg hM hV fuel h (List.suffix_refl _) hw ⟨hr, fun v hv => by cases hv⟩
  rw [e1] at h0
  have e3 : q.1 = 0 := Nat.eq_of_beq_eq_true h0
  rw [e3] at e2
  obtain ⟨σ', μ', g1, g2, g3⟩ := e2
  rcases g3 with ⟨ks', vs', k1, k2, k3, k4, k5, n', hI'⟩ | g3 | g3
  · exact zE_step g1 (zloop hg hM hV hI n' σ' μ' ks' vs' k1 k2 k3 k4 k5 g2 hI')
  · exact ⟨σ', μ', g1, g2, Or.inr (Or.inl g3)⟩
  · exact ⟨σ', μ', g1, g2, Or.inr (Or.inr g3)⟩
def zargs (i : Nat) (As : List zV) : List (Nat × zV) := match As with
  | [] => []
  | v :: t => (i, v) :: zargs (match Nat.beq (zcat v) 2 with | true => Nat.add i 2 | false => Nat.add i 1) t
theorem zargs_eq : ∀ (As : List zV) (i : Nat), lv_args i (As.map zt) = zlv (zargs i As)
  | [], i => rfl
  | v :: t, i => by
    simp only [List.map_cons, lv_args, zargs, zlv]
    rw [zargs_eq t]
    rcases v with x | x | x <;> rfl
theorem zargs_rf : ∀ {As : List zV} {i : Nat}, (∀ v ∈ As, zrf v) → ∀ q ∈ zargs i As, zrf q.2
  | [], _, _, _, hq => by cases hq
  | v :: t, i, h, q, hq => by
    rcases List.mem_cons.mp hq with e | e
    · rw [e]; exact h v List.mem_cons_self
    · exact zargs_rf (fun u hu => h u (List.mem_cons_of_mem _ hu)) q e
set_option maxHeartbeats 4000000 in
theorem zOk_of {g : zΓ} {d a : Nat} {M : mM} {C : zC} (hg : zgo g) (ha : g.2.1[a]? = some M) (h : ∀ As μ Q w, zRep μ w → (∀ v ∈ As, zrf v) → C As μ Q → Nat.ble (zsum As) M.2.2.1.1 = true ∧ zE g d M none [] (fun _ _ _ => False) Q (fun _ _ => False) (0, zlv (zargs 0 As), [], w)) (hp : Nat.beq M.2.2.2.1.2.2.2 152 = false := by rfl) : zOk g (d + 1) a C := by
  intro As μ Q w hw hr hC
  obtain ⟨hs, σ', μ', h1, h2, h3⟩ := h As μ Q w hw hr hC
  rcases h3 with ⟨_, _, h3, _⟩ | ⟨v, h3, h4, h5⟩ | ⟨_, _, _, h3⟩
  · cases h3
  · refine ⟨v, μ', σ'.2.2.2, ?_, h1.1, h2, h4, h5⟩
    intro M' hM'
    cases ha.symm.trans hM'
    have hok := hg.1 M (List.mem_of_getElem? ha)
    have hrr := hg.2.1
    obtain ⟨m1, m2, m3, m4, m5, m6, m7, m8, m9, m10, m11⟩ := mx_Mok hok
    unfold mx_Met
    refine Met.ofW (cc := M.2.1) (maxL := M.2.2.1.1) (ret := M.2.2.1.2.1) (ws' := []) (m9 hp) rfl ?_
    intro p e s m args below meth c s₁ Bd hml hv
    obtain ⟨rfl, hE, hK, hR, hLS⟩ := hv
    have hown : s.vm.findClass M.1.cls = some m.cls := findClass_of_methodNamed Bd.named
    have hnm : meth.name = M.1.name := (name_of_methodNamed Bd.named Bd.method).1
    have X : mx_X g.1 p (mx_room (d + 1) w σ'.2.2.2) s m meth c g.2.2.2.1 g.2.2.2.2.1 g.2.2.2.2.2.1 g.2.2.2.2.2.2 M none s.heap d := ⟨Bd.exec, Bd.bytes, hml, hown, hE, hK, hrr, ⟨fun L q => (by cases q), hLS⟩, hnm, Nat.le_refl _, Nat.le_refl _, hg.2.2.1⟩
    have hle : (lg_sl ((As.map zt).map (mx_v g.2.2.2.2.2.1))).length ≤ M.2.2.1.1 := by rw [mx_sl hrr, zsum_eq]; exact Nat.le_of_ble_eq_true hs
    have hl := lv_entry ((As.map zt).map (mx_v g.2.2.2.2.2.1)) (n := M.2.2.1.1) hle
    rw [mx_args hrr, zargs_eq] at hl
    rw [lg_entry_eq]
    refine W.cs (cells' := w.1.length + 0 - w.1.length) (slots' := w.2 + 0 - w.2) (by omega) (by omega) ?_
    refine h1.2 p e (mx_room (d + 1) w σ'.2.2.2) s m _ below meth c s.heap X _ w.1.length w.2 0 0 s.heap _ [] hl hR va_S.rf (Nat.le_refl _) (Nat.le_refl _) (Nat.le_refl _) (Nat.le_refl _) (fun ls' H' locs' hl' hR' hS' => ?_)
    exact mx_ret_W (mx_wok_of hok) X Bd.returns Bd.notSynchronized hR' hS' h3
  · cases h3
/-- a method with no loop -/
theorem zOk_line {g : zΓ} {d a : Nat} {M : mM} {C : zC} (hg : zgo g) (ha : g.2.1[a]? = some M) (wl : List Nat) (fuel : Nat) (h0 : (match M.2.2.2.2.1 with | q :: _ => Nat.beq q.1 0 | [] => false) = true)
    (h : ∀ As μ Q, C As μ Q → Nat.ble (zsum As) M.2.2.1.1 = true ∧ zw (zOk g d) M ([], wl) (fun _ _ _ => False) Q (fun _ _ => False) fuel false M.2.2.2.2.1 (zargs 0 As) [] μ) (hp : Nat.beq M.2.2.2.1.2.2.2 152 = false := by rfl) : zOk g (d + 1) a C :=
  zOk_of (hp := hp) hg ha fun As μ Q w hw hr hC => by
    obtain ⟨h1, h2⟩ := h As μ Q hC
    obtain ⟨q, r, e1, e2⟩ := zw_ok (sc := none) hg (List.mem_of_getElem? ha) (fun _ _ q => q) fuel h2 (List.suffix_refl _) hw ⟨zargs_rf hr, fun v hv => by cases hv⟩
    rw [e1] at h0
    have e3 : q.1 = 0 := Nat.eq_of_beq_eq_true h0
    rw [e3] at e2
    exact ⟨h1, e2⟩
