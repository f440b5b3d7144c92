/-! ### the law's body: its steps, its calls of the nine -/
abbrev lE : Type := Program × Env × State × MethodId × Nat × List Frame × Method × Code
def lG (g : zΓ) (x : lE) (σ σ' : mS) : Prop := mx_le σ σ' ∧ mx_St x.1 g.2.2.1 x.2.1 room_1 x.2.2.1 x.2.2.2.1 #[Value.ref x.2.2.2.2.1] x.2.2.2.2.2.1 x.2.2.2.2.2.2.1 x.2.2.2.2.2.2.2 g.2.2.2.1 g.2.2.2.2.1 g.2.2.2.2.2.1 g.2.2.2.2.2.2 x.2.2.1.heap 8 σ σ'
def lC (g : zΓ) (x : lE) (L : Nat) : Prop := mx_X g.1 x.1 room_1 x.2.2.1 x.2.2.2.1 x.2.2.2.2.2.2.1 x.2.2.2.2.2.2.2 g.2.2.2.1 g.2.2.2.2.1 g.2.2.2.2.2.1 g.2.2.2.2.2.2 mt_L_law (some L) x.2.2.1.heap 200 ∧ mx_EX g.2.2.2.2.2.2 x.2.2.1 x.2.2.1.heap ∧ va_Nc ms_UOE ms_IAE x.2.2.1
section LLG
variable {g : zΓ} {x : lE} {L : Nat}
theorem lG_refl {σ : mS} : lG g x σ σ := ⟨⟨Nat.le_refl _, Nat.le_refl _⟩, fun Q n0 z0 k0 k1 H ls locs hl hR hS _ _ _ _ k => k ls H locs hl hR hS⟩
theorem lG_trans {σ σ1 σ' : mS} (a : lG g x σ σ1) (b : lG g x σ1 σ') : lG g x σ σ' := by
  refine ⟨⟨Nat.le_trans a.1.1 b.1.1, Nat.le_trans a.1.2 b.1.2⟩, fun Q n0 z0 k0 k1 H ls locs hl hR hS hn0 hz0 hrc hrs k => ?_⟩
  refine a.2 Q n0 z0 k0 k1 H ls locs hl hR hS hn0 hz0 (by have := b.1.1; omega) (by have := b.1.2; omega) (fun ls' H' locs' hl' hR' hS' => ?_)
  exact b.2 Q n0 z0 k0 k1 H' ls' locs' hl' hR' hS' (Nat.le_trans hn0 a.1.1) (Nat.le_trans hz0 a.1.2) hrc hrs k
theorem lG_z {σ σ' : mS} (C : lC g x L) (h : zG g 200 mt_L_law (some L) σ σ') : lG g x σ σ' := ⟨h.1, h.2 _ _ _ _ _ _ _ _ _ _ C.1⟩
theorem mx_blindY {D : va_G} {cy : Nat → ClassId} {r : Nat → Value} {B : Nat} {a : List Value} {w : mW} : FrameBlind (mx_PcY D cy r B a w) := by
  intro av U g mk h
  exact ⟨mx_blindX av U g mk h.1, h.2.moved (U := U.calling g mk av) (Vm.Alike.refl U.vm)⟩
set_option maxHeartbeats 4000000 in
/-- one of the nine is called -/
theorem lG_wr {pcP ixL mc ms f lo pl ps pm : Nat} {MW : mM} {hh : List (Nat × Nat × Nat × Nat)} {a : List Value} {lv : List (Nat × Value)} {w w2 : mW} {kv : Int32} (C : lC g x L)
    (hMet : Met g.2.2.1 MW.1 [Cond.codeWith MW.1 MW.2.1 MW.2.2.1.1 (some .int) hh] { frames := f, cells := mc, slots := ms, locals := lo } (mx_PcY g.2.2.2.1 g.2.2.2.2.1 g.2.2.2.2.2.1 g.2.2.2.2.2.2 a w) (mx_Qc g.2.2.2.1 g.2.2.2.2.1 g.2.2.2.2.2.1 g.2.2.2.2.2.2 (some (.int kv)) w2) mc ms (fun q => g.2.2.2.2.2.2 ≤ q))
    (hmc : w2.1.length = w.1.length + mc) (hms : w2.2 = w.2 + ms)
    (hw : (mx_at pl (.codeWith MW.1 MW.2.1 MW.2.2.1.1 (some .int) hh) && mx_at ps (.static MW.1) && mx_at 144 (.initialized MW.1.cls) && mx_at pm (.methodLink RL ixL MW.1)) = true)
    (hdc : MW.1.cls ≠ "java/lang/invoke/MethodHandle" ∧ MW.1.cls ≠ "java/lang/invoke/VarHandle" ∧ (parseMethodDescriptor MW.1.desc).map (fun d => d.parameters.length) = some a.length)
    (hf : f + 1 ≤ 2048) (hlo : 8 + (MW.2.2.1.1 + 11) + lo ≤ 84000) (dP : decode code pcP = .ok (.invokestatic ixL, 3)) :
    lG g x (pcP, lv, a.reverse, w) (pcP + 3, lv, [.int kv], w2) := by
  refine ⟨⟨by show w.1.length ≤ w2.1.length; omega, by show w.2 ≤ w2.2; omega⟩, fun Q n0 z0 k0 k1 H ls locs hl hR hS hn0 hz0 hrc hrs k => ?_⟩
  obtain ⟨p, e, s, m, b, below, meth, c⟩ := x
  obtain ⟨X, hEX, hNU⟩ := C
  obtain ⟨hx, hb, hml, hown, hE, hK, hr, hsc, hnm, hfr, hloc, hkb⟩ := X
  have hn0 : n0 ≤ w.1.length := hn0
  have hz0 : z0 ≤ w.2 := hz0
  have hrc : w2.1.length + k0 - n0 ≤ 601024 := hrc
  have hrs : w2.2 + k1 - z0 ≤ 7293034 := hrs
  simp only [Bool.and_eq_true] at hw
  obtain ⟨⟨⟨w1, w2'⟩, w3⟩, w4⟩ := hw
  have CF : CallFix p m c code 8 s #[Value.ref b] [] RL := ⟨hx, hb, hml, hown, fun w hw => by cases hw⟩
  have hws : ∀ w ∈ [Cond.codeWith MW.1 MW.2.1 MW.2.2.1.1 (some .int) hh], ∀ (a' : Array Value) (U : State), s.WarmedH U.vm → w.before a' U = true := by
    intro w hw a' U hW
    rw [List.mem_singleton.mp hw]
    exact mx_at_use w1 (mx_Env.warm hW hE)
  have hlen : ∀ sig, parseMethodDescriptor MW.1.desc = some sig → a.length = sig.parameters.length := fun sig hs => by
    have := hdc.2.2
    rw [hs] at this
    exact (Option.some.inj this).symm
  have hp : PreS s H (mx_PcY g.2.2.2.1 g.2.2.2.2.1 g.2.2.2.2.2.1 g.2.2.2.2.2.2 a w) (a.map (mx_v g.2.2.2.2.2.1)) := ⟨mx_blindY, fun U hU hW => ⟨⟨⟨rfl, mx_Env.warm hW hE, va_K.moved hW.alike hK, by rw [hU]; exact hR, by rw [hU]; exact hsc.2.go hS hW⟩, by rw [hU]; exact hEX.go hS hW⟩, hNU.moved hW.alike⟩⟩
  refine mx_run (D := g.2.2.2.1) (cy := g.2.2.2.2.1) (r := g.2.2.2.2.2.1) (mc := mc) (ms := ms) (v := some (.int kv)) (w' := w2) (rest := []) (a := (a.map (mx_v g.2.2.2.2.2.1)).toArray) (vx_runSW (hh := hh) (As := a.map (mx_v g.2.2.2.2.2.1)) (n := a.length) CF hMet ⟨⟨rfl, rfl, hf, hlo, hws, List.mem_singleton.mpr rfl⟩, mx_at_use w1 hE, mx_at_use w3 hE, ⟨hdc.1, hdc.2.1⟩, hlen, mx_at_use w4 hE, mx_at_use w2' hE⟩ hp rfl (by simp) hl.1 (by show a.reverse.map (mx_v g.2.2.2.2.2.1) = _; simp) (lv_room (Nat.zero_le _)) dP ⟨by show w.1.length + k0 - n0 + mc ≤ 601024; omega, by show w.2 + k1 - z0 + ms ≤ 7293034; omega⟩) hS (fun H2 locs2 hR2 hS2 => ?_)
  refine W.cs (cells' := w2.1.length + k0 - n0) (slots' := w2.2 + k1 - z0) (by show w.1.length + k0 - n0 + mc = _; omega) (by show w.2 + k1 - z0 + ms = _; omega) ?_
  exact k ls H2 locs2 hl hR2 hS2
end LLG
/-- what a call of the class leaves alone, and what it costs -/
def lK (μ μ' : zM) : Prop := (∀ i : Nat, 66 ≤ i → i < 109 → μ'.1 i = μ.1 i) ∧ μ'.1 2000000 0 - zL μ' ≤ μ.1 2000000 0 - zL μ + 1 ∧ μ'.1 2000000 1 - zS μ' ≤ μ.1 2000000 1 - zS μ + 6 ∧ ∀ i : Nat, 66 ≤ i → i < 108 → μ'.1 (3000000 + i) = μ.1 (3000000 + i)
theorem lK_f {μ μ' : zM} (h : zlf μ μ') : lK μ μ' := ⟨h.1, by have := h.2.1; omega, by have := h.2.2.1; omega, fun i a b => (h.2.2.2 i a (by omega)).1⟩
theorem lK_r (μ : zM) : lK μ μ := lK_f (zle_lf (zle_r μ))
theorem lK_o {μ μ' : zM} {v : Int} (h : lK μ μ') : lK μ (zu μ' 3000108 0 v) := by
  refine ⟨fun i a b => by rw [zu_ne (by omega)]; exact h.1 i a b, ?_, ?_, fun i a b => by rw [zu_ne (by omega)]; exact h.2.2.2 i a b⟩
  · unfold zL
    rw [zu_ne (by decide), zu_ne (by decide), zu_ne (by decide)]
    exact h.2.1
  · unfold zS
    rw [zu_ne (by decide), zu_ne (by decide), zu_ne (by decide)]
    exact h.2.2.1
theorem zdy_lt {μ : zM} {w : mW} (hw : zRep μ w) : ∀ s : Nat, (s = 26 ∨ s = 44) → (μ.1 s 5).toNat < w.1.length := by
  intro s hs
  obtain ⟨c7, q7, fs7, rfl, fl7, g1, g2, g3⟩ := hw.2.2.1 s (.inl 1) (by rcases hs with rfl | rfl <;> rfl)
  cases (show some zfl1 = some fl7 from g1)
  have len : fs7.length = 7 := g2
  obtain ⟨v7, hv7⟩ : ∃ v, fs7[5]? = some v := ⟨fs7[5], by simp [len]⟩
  obtain ⟨j7, -, -, e3, e4⟩ := g3 5 (.inr (.inr (.inr 1000))) v7 rfl hv7
  have e3 : (j7 : Int) = μ.1 s 5 := e3
  obtain ⟨n7, a7, q8, -, -⟩ := hw.2.2.2 j7 e4.1
  have := (List.getElem?_eq_some_iff.mp q8).1
  omega
theorem lK_d {μ : zM} {w : mW} (hw : zRep μ w) : lK μ (zdd μ w.1.length) := by
  have h1 := zdy_lt hw 26 (Or.inl rfl)
  have h2 := zdy_lt hw 44 (Or.inr rfl)
  refine ⟨fun i a b => zdd_n (by omega), ?_, ?_, fun i a b => zdd_n (by omega)⟩
  · unfold zL
    rw [zdd_c.1, zdd_n (by decide), zdd_n (by decide), zdd_2 (by omega), zdd_2 (by omega)]
    omega
  · unfold zS
    rw [zdd_c.2, zdd_n (by decide), zdd_n (by decide), zdd_2 (by omega), zdd_2 (by omega)]
    omega
theorem l_00 {μ : zM} {w : mW} (hw : zRep μ w) : ∃ fs, w.1[0]? = some (.inl (8, fs)) := by
  obtain ⟨c, e1, fs, e2, -⟩ := hw.2.2.1 0 _ (show znth zcl 0 = some (.inl 8) from rfl)
  exact ⟨fs, by rw [e1, e2]⟩
theorem l_08 {μ : zM} {w : mW} (hw : zRep μ w) : ∃ a : mJ, w.1[108]? = some (.inr ((1, 1), .inr a)) := by
  obtain ⟨c, e1, -, a, e2⟩ := hw.2.2.1 108 _ (show znth zcl 108 = some (.inr (1, 1, (-2147483648), 2147483647)) from rfl)
  exact ⟨a, by rw [e1, e2]⟩
theorem l_109 {μ : zM} {w : mW} (hw : zRep μ w) : 109 ≤ w.1.length := by
  obtain ⟨a, e⟩ := l_08 hw
  have := (List.getElem?_eq_some_iff.mp e).1
  omega
