/-! ### closed checks of the tables -/
set_option maxRecDepth 100000 in
theorem zc_fam0 : (List.range 109).all (fun y => !(Nat.ble 14 y && Nat.ble y 31) || decide (znth zcl (y + 18) = znth zcl y)) = true := by decide +kernel
def zcok (d : zD) : Bool := match d with
  | .inl _ => true
  | .inr (kk, n, lo, hi) => Nat.blt kk 4 && (Nat.ble n 2147483647 && (decide (-2147483648 ≤ lo) && (decide (hi ≤ 2147483647) && ((!(Nat.beq kk 2) || (decide (lo = 0) && decide (hi = 1))) && (!(Nat.beq kk 3) || (decide (-128 ≤ lo) && decide (hi ≤ 127)))))))
set_option maxRecDepth 100000 in
theorem zc_ok0 : zcl.all zcok = true := by decide +kernel
theorem zc_len : zcl.length = 109 := by decide +kernel
theorem zc_200 : znth zcl 25 = znth zcl 51 ∧ znth zcl 43 = znth zcl 51 := by decide +kernel
def zisI (d : Option zD) : Bool := match d with
  | some (.inr (0, _, _, _)) => true
  | _ => false
set_option maxRecDepth 100000 in
theorem zc_st0 : (List.range 109).all (fun y => !(zst y) || zisI (znth zcl y)) = true := by decide +kernel
theorem zc_31 : znth zcl 31 = some (.inr (0, 1024, -2147483648, 2147483647)) ∧ znth zcl 49 = some (.inr (0, 1024, -2147483648, 2147483647)) := by decide +kernel
def zfok (ci k : Nat) (f : zF) : Bool := match f, mx_ty ci k with
  | .inl (lo, hi), .int => decide (-2147483648 ≤ lo) && decide (hi ≤ 2147483647)
  | .inl (lo, hi), .boolean => decide (lo = 0) && decide (hi = 1)
  | .inr (.inl _), .long => true
  | .inr (.inr _), .object _ => true
  | .inr (.inr _), .array _ => true
  | _, _ => false
set_option maxRecDepth 100000 in
theorem zf_ok0 : (List.range 10).all (fun ci => match znth zfl ci with | some fl => (List.range fl.length).all (fun k => match znth fl k with | some f => zfok ci k f | none => false) | none => false) = true := by decide +kernel
theorem zn_lt {α : Type} {l : List α} {n : Nat} {a : α} (h : znth l n = some a) : n < l.length := by
  rw [znth_eq] at h
  exact (List.getElem?_eq_some_iff.mp h).1
theorem zn_mem {α : Type} {l : List α} {n : Nat} {a : α} (h : znth l n = some a) : a ∈ l := by
  rw [znth_eq] at h
  exact List.mem_of_getElem? h
theorem zf_ok {ci k : Nat} {fl : List zF} {f : zF} (h : znth zfl ci = some fl) (h2 : znth fl k = some f) : zfok ci k f = true := by
  have h1 := List.all_eq_true.mp zf_ok0 ci (List.mem_range.mpr (zn_lt h))
  rw [h] at h1
  dsimp only at h1
  have h3 := List.all_eq_true.mp h1 k (List.mem_range.mpr (zn_lt h2))
  rw [h2] at h3
  exact h3
theorem zc_ok {t kk n : Nat} {lo hi : Int} (h : znth zcl t = some (.inr (kk, n, lo, hi))) : kk < 4 ∧ n ≤ 2147483647 ∧ -2147483648 ≤ lo ∧ hi ≤ 2147483647 ∧ (kk = 2 → lo = 0 ∧ hi = 1) ∧ (kk = 3 → -128 ≤ lo ∧ hi ≤ 127) := by
  have h1 := List.all_eq_true.mp zc_ok0 _ (zn_mem h)
  simp only [zcok, Bool.and_eq_true, Bool.or_eq_true, decide_eq_true_eq, Bool.not_eq_true'] at h1
  obtain ⟨a1, a2, a3, a4, a5, a6⟩ := h1
  refine ⟨mx_blt a1, Nat.le_of_ble_eq_true a2, a3, a4, fun q => ?_, fun q => ?_⟩
  · rcases a5 with a5 | a5
    · rw [q] at a5; cases a5
    · exact a5
  · rcases a6 with a6 | a6
    · rw [q] at a6; cases a6
    · exact a6
theorem zc_st {t : Nat} (h : t < 109) (h2 : zst t = true) : ∃ n lo hi, znth zcl t = some (.inr (0, n, lo, hi)) := by
  have h1 := List.all_eq_true.mp zc_st0 t (List.mem_range.mpr h)
  rw [h2] at h1
  simp only [Bool.not_true, Bool.false_or] at h1
  unfold zisI at h1
  split at h1
  · rename_i n lo hi he
    exact ⟨n, lo, hi, he⟩
  · cases h1
theorem zch1 {μ : zM} {y t : Nat} {X : Prop} {d : zD} (hy : znth zcl y = some d) (h : zchk μ y t X) : znth zcl t = some d ∧ X := by
  have hl : y < 109 := by have := zn_lt hy; rw [zc_len] at this; exact this
  unfold zchk at h
  rw [Nat.ble_eq_true_of_le (show y ≤ 108 by omega)] at h
  dsimp only at h
  split at h
  · rename_i hb
    refine ⟨?_, h.2⟩
    rcases h.1 with e | e
    · rw [e]; exact hy
    · have h1 := List.all_eq_true.mp zc_fam0 y (List.mem_range.mpr hl)
      rw [hb] at h1
      simp only [Bool.not_true, Bool.false_or, decide_eq_true_eq] at h1
      rw [e, h1]; exact hy
  · split at h
    · rename_i hb
      rw [Nat.eq_of_beq_eq_true hb]
      exact ⟨hy, h⟩
    · cases h
theorem zch2 {μ : zM} {y t : Nat} {X : Prop} {d : zD} (hy : znth zcl (bif Nat.beq y 200 then 51 else y) = some d) (h : zchk μ y t X) : znth zcl t = some d ∧ X := by
  cases hb : Nat.beq y 200
  · rw [hb] at hy
    exact zch1 hy h
  · rw [hb] at hy
    have hy : znth zcl 51 = some d := hy
    have e := Nat.eq_of_beq_eq_true hb
    subst e
    obtain ⟨h1, h2⟩ := (show (t = 25 ∨ t = 43 ∨ t = 51) ∧ X from h)
    refine ⟨?_, h2⟩
    rcases h1 with e | e | e
    · rw [e, zc_200.1]; exact hy
    · rw [e, zc_200.2]; exact hy
    · rw [e]; exact hy
/-! ### reading and writing -/
theorem zgf_ok {μ : zM} {w : mW} {y t ci kf : Nat} {k : zV → Prop} (hw : zRep μ w) (h : zgf μ y t ci kf k) : ∃ v fs, w.1[t]? = some (.inl (ci, fs)) ∧ fs[kf]? = some (zt v) ∧ zrf v ∧ k v := by
  unfold zgf at h
  split at h
  · rename_i c hy
    split at h
    · rename_i hb
      have hb := Nat.eq_of_beq_eq_true hb
      subst hb
      replace h := zch1 hy h
      obtain ⟨hc, h⟩ := h
      obtain ⟨c', e1, fs, e2, fl, e3, e4, e5⟩ := hw.2.2.1 t _ hc
      subst e2
      rw [e3] at h
      dsimp only at h
      have key : ∀ f, znth fl kf = some f → ∃ v, fs[kf]? = some v ∧ zFt μ t kf f v := fun f hf => by
        have hk : kf < fs.length := by rw [e4]; exact zn_lt hf
        exact ⟨fs[kf], by simp [hk], e5 kf f _ hf (by simp [hk])⟩
      split at h
      · rename_i lo hi hf
        obtain ⟨v, hv, e6⟩ := key _ hf
        exact ⟨.inl (μ.1 t kf), fs, e1, by rw [hv, e6.1]; rfl, trivial, h _ rfl e6.2.1 e6.2.2⟩
      · rename_i hf
        obtain ⟨v, hv, x, e6⟩ := key _ hf
        exact ⟨.inr (.inl x), fs, e1, by rw [hv, e6]; rfl, trivial, h x (by rw [e6] at hv; simp only [Nat.add_eq]; exact hw.1.2.2 t _ fs e1 kf x hv)⟩
      · rename_i off y' hf
        obtain ⟨v, hv, j, e6, e7, e8⟩ := key _ hf
        split at h
        · rename_i hb
          rw [hb] at e8
          exact ⟨_, fs, e1, by rw [hv, e6, e8]; rfl, by rw [e8] at e7; exact e7, h⟩
        · rename_i hb
          rw [hb] at e8
          exact ⟨_, fs, e1, by rw [hv, e6, e8]; rfl, by rw [e8] at e7; exact e7, h⟩
      · rename_i y' hf
        obtain ⟨v, hv, j, e6, e7, e8, e9⟩ := key _ hf
        split at h
        · rename_i hb
          simp only [Bool.and_eq_true, Bool.not_eq_true'] at hb
          unfold zchk at e9
          rw [hb.1, hb.2] at e9
          dsimp only at e9
          split at e9
          · rename_i hb2
            have e10 := Nat.eq_of_beq_eq_true hb2
            exact ⟨_, fs, e1, by rw [hv, e6, e10]; rfl, by rw [e10] at e7; exact e7, h⟩
          · cases e9
        · exact ⟨.inr (.inr (j, y')), fs, e1, by rw [hv, e6]; rfl, e7, h j e8 e9⟩
      · cases h
    · cases h
  · cases h
theorem zfit_b {x : Int} (h : 0 ≤ x ∧ x ≤ 1) : mx_fit .boolean (.int (Int32.ofInt x)) = true := by
  rcases (show x = 0 ∨ x = 1 by omega) with e | e <;> subst e <;> decide +kernel
theorem zfit_i {x : Int32} : mx_fit .int (.int x) = true := by
  simp [mx_fit, narrow, fits]
theorem zfit_l {x : Int64} : mx_fit .long (.long x) = true := by
  simp [mx_fit, narrow, fits]
def zfv (f : zF) (v : zV) : Prop := match f, v with
  | .inl (lo, hi), .inl x => lo ≤ x ∧ x ≤ hi
  | .inr (.inl _), .inr (.inl _) => True
  | .inr (.inr _), .inr (.inr _) => True
  | _, _ => False
theorem zfit {ci kf : Nat} {f : zF} {v : zV} (hf : zfok ci kf f = true) (hr : zrf v) (h : zfv f v) : mx_fit (mx_ty ci kf) (zt v) = true := by
  unfold zfok at hf
  generalize mx_ty ci kf = ty at hf ⊢
  rcases f with ⟨lo, hi⟩ | f | f <;> rcases v with x | x | x <;> first | (cases h; done) | skip
  · cases ty <;> dsimp only at hf <;> first | (cases hf; done) | skip
    · exact zfit_i
    · simp only [Bool.and_eq_true, decide_eq_true_eq] at hf
      obtain ⟨rfl, rfl⟩ := hf
      exact zfit_b h
  · cases ty <;> dsimp only at hf <;> first | (cases hf; done) | exact zfit_l
  · have hr : x.1 < mx_E := hr
    cases ty <;> dsimp only at hf <;> first | (cases hf; done) | (simp only [zt, mx_fit, Bool.and_true]; exact Nat.ble_eq_true_of_le hr)
theorem zput {μ : zM} {w : mW} {t ci kf : Nat} {fs : List Value} {fl : List zF} {f : zF} {x : Int} {v : Value} (hw : zRep μ w) (ht : t < 1048576) (hc : znth zcl t = some (.inl ci)) (e1 : w.1[t]? = some (.inl (ci, fs))) (e3 : znth zfl ci = some fl) (hf : znth fl kf = some f) (hv : zFt (zu μ t kf x) t kf f v) (hnl : ∀ u : Int64, v ≠ .long u) : zRep (zu μ t kf x) (w.1.set t (.inl (ci, fs.set kf v)), w.2) := by
  refine zRep_set hw ht (List.getElem?_eq_some_iff.mp e1).1 (fun n a q => by cases q) (fun ci' fs' q k v' hk => by
    cases q
    by_cases e : k = kf
    · subst e
      by_cases hl : k < fs.length
      · rw [show (fs.set k v)[k]? = some v by simp [hl]] at hk
        exact absurd (Option.some.inj hk) (hnl v')
      · rw [List.getElem?_eq_none (by simp; omega)] at hk
        cases hk
    · rw [List.getElem?_set_ne (Ne.symm e)] at hk
      exact hw.1.2.2 t ci fs e1 k v' hk) (fun d hd => ?_) (fun hd => ?_)
  · cases hc.symm.trans hd
    obtain ⟨c', g1, fs', g2, fl', g3, g4, g5⟩ := hw.2.2.1 t _ hc
    subst g2
    cases e1.symm.trans g1
    cases e3.symm.trans g3
    refine ⟨_, rfl, fl, e3, by simpa using g4, fun k2 f2 v2 q1 q2 => ?_⟩
    by_cases hk : k2 = kf
    · subst hk
      cases hf.symm.trans q1
      have hl : k2 < fs.length := by rw [g4]; exact zn_lt hf
      rw [show (fs.set k2 v)[k2]? = some v by simp [hl]] at q2
      cases q2
      exact hv
    · rw [List.getElem?_set_ne (Ne.symm hk)] at q2
      exact zFt_ne (zu_nk (by omega)) (g5 k2 f2 v2 q1 q2)
  · obtain ⟨n, a, g1, -⟩ := hw.2.2.2 t hd
    cases e1.symm.trans g1
/-- a long field is written -/
theorem zputL {μ : zM} {w : mW} {t ci kf : Nat} {fs : List Value} {fl : List zF} {f : Bool} {u : Int64} (hw : zRep μ w) (hc : znth zcl t = some (.inl ci)) (e1 : w.1[t]? = some (.inl (ci, fs))) (e3 : znth zfl ci = some fl) (hf : znth fl kf = some (.inr (.inl f))) : zRep (zu μ (5000000 + t) kf u.toInt) (w.1.set t (.inl (ci, fs.set kf (.long u))), w.2) := by
  have hlt := (List.getElem?_eq_some_iff.mp e1).1
  have h48 := hw.1.1
  refine zRep_setG hw hlt (fun i hi h2 => zu_ne (by omega)) rfl (fun t2 n a ht q hq => ?_) (fun t2 ci2 fs2 ht k v hk => ?_) (fun d hd => ?_) (fun hd => ?_)
  · dsimp only at ht
    have h9 : t2 < w.1.length := by have := (List.getElem?_eq_some_iff.mp ht).1; simpa using this
    rw [zu_ne (by omega)]
    by_cases e : t2 = t
    · subst e
      rw [show (w.1.set t2 (.inl (ci, fs.set kf (.long u))))[t2]? = some (.inl (ci, fs.set kf (.long u))) by simp [hlt]] at ht
      cases ht
    · rw [List.getElem?_set_ne (Ne.symm e)] at ht
      exact hw.1.2.1 t2 n a ht q hq
  · dsimp only at ht
    by_cases e : t2 = t
    · subst e
      rw [show (w.1.set t2 (.inl (ci, fs.set kf (.long u))))[t2]? = some (.inl (ci, fs.set kf (.long u))) by simp [hlt]] at ht
      cases ht
      by_cases ek : k = kf
      · subst ek
        by_cases hl : k < fs.length
        · rw [show (fs.set k (.long u))[k]? = some (.long u) by simp [hl]] at hk
          cases hk
          rw [zu_at]
        · rw [List.getElem?_eq_none (by simp; omega)] at hk
          cases hk
      · rw [List.getElem?_set_ne (Ne.symm ek)] at hk
        rw [zu_nk (by omega)]
        exact hw.1.2.2 t2 ci fs e1 k v hk
    · rw [List.getElem?_set_ne (Ne.symm e)] at ht
      rw [zu_ne (by omega)]
      exact hw.1.2.2 t2 ci2 fs2 ht k v hk
  · cases hc.symm.trans hd
    obtain ⟨c', g1, fs', g2, fl', g3, g4, g5⟩ := hw.2.2.1 t _ hc
    subst g2
    cases e1.symm.trans g1
    cases e3.symm.trans g3
    refine ⟨_, rfl, fl, e3, by simpa using g4, fun k2 f2 v2 q1 q2 => ?_⟩
    by_cases hk : k2 = kf
    · subst hk
      cases hf.symm.trans q1
      have hl : k2 < fs.length := by rw [g4]; exact zn_lt hf
      rw [show (fs.set k2 (.long u))[k2]? = some (.long u) by simp [hl]] at q2
      cases q2
      exact ⟨u, rfl⟩
    · rw [List.getElem?_set_ne (Ne.symm hk)] at q2
      exact zFt_ne (by rw [zu_ne (by omega)]) (g5 k2 f2 v2 q1 q2)
  · obtain ⟨n, a, g1, -⟩ := hw.2.2.2 t hd
    cases e1.symm.trans g1
theorem zpf_ok {μ : zM} {w : mW} {y t ci kf : Nat} {v : zV} {k : zM → Prop} (hw : zRep μ w) (ht : t < 1048576) (hr : zrf v) (h : zpf μ y t ci kf v k) : ∃ fs μ', w.1[t]? = some (.inl (ci, fs)) ∧ kf < fs.length ∧ mx_fit (mx_ty ci kf) (zt v) = true ∧ zRep μ' (w.1.set t (.inl (ci, fs.set kf (zt v))), w.2) ∧ k μ' := by
  unfold zpf at h
  split at h
  · rename_i c hy
    split at h
    · rename_i hb
      have hb := Nat.eq_of_beq_eq_true hb
      subst hb
      replace h := zch1 hy h
      obtain ⟨hc, h⟩ := h
      obtain ⟨c', e1, fs, e2, fl, e3, e4, e5⟩ := hw.2.2.1 t _ hc
      subst e2
      rw [e3] at h
      dsimp only at h
      split at h
      · rename_i lo hi x hf
        refine ⟨fs, _, e1, by rw [e4]; exact zn_lt hf, zfit (zf_ok e3 hf) hr h.1, zput hw ht hc e1 e3 hf ?_ (fun u q => by cases q), h.2 _ rfl⟩
        refine ⟨?_, ?_⟩ <;> rw [zu_at]
        · rfl
        · exact h.1
      · rename_i x hf
        refine ⟨fs, _, e1, by rw [e4]; exact zn_lt hf, zfit (zf_ok e3 hf) hr trivial, ?_, h _ rfl⟩
        simp only [Nat.add_eq]
        exact zputL (u := x) hw hc e1 e3 hf
      · rename_i y' q hf
        refine ⟨fs, _, e1, by rw [e4]; exact zn_lt hf, zfit (zf_ok e3 hf) hr trivial, zput hw ht hc e1 e3 hf ?_ (fun u q => by cases q), h.2 _ rfl⟩
        exact ⟨q.1, rfl, hr, by rw [zu_at], h.1⟩
      · cases h
    · cases h
  · cases h
theorem zix {x : Int} {n : Nat} (h : 0 ≤ x ∧ x < (n : Int)) (hn : n ≤ 2147483647) : mx_in (Int32.ofInt x) n = true ∧ (Int32.ofInt x).toNatClampNeg = x.toNat := by
  have e := z_rt (x := x) ⟨by omega, by omega⟩
  refine ⟨?_, ?_⟩
  · simp only [mx_in, e, Bool.and_eq_true, decide_eq_true_eq]
    exact h
  · show (Int32.ofInt x).toInt.toNat = _
    rw [e]
theorem zRw_get {μ : zM} {t n : Nat} {lo hi x : Int} {a : mI} (h : zRw μ t n lo hi a) (hx : 0 ≤ x ∧ x < (n : Int)) : mx_g a x.toNat = Int32.ofInt (μ.1 t x) ∧ lo ≤ μ.1 t x ∧ μ.1 t x ≤ hi := by
  have h1 := h x.toNat (by omega)
  rw [Int.toNat_of_nonneg hx.1] at h1
  exact h1
/-- a row of ints, whichever -/
theorem zIa_ok {μ : zM} {w : mW} {t : Nat} (hw : zRep μ w) (h : zIa μ t) : ∃ (n : Nat) (a : mI), w.1[t]? = some (.inr ((0, n), .inl a)) ∧ μ.2 t = n ∧ n ≤ 2147483647 ∧ zRw μ t n (-2147483648) 2147483647 a := by
  rcases h with h | h
  · obtain ⟨n, a, e1, e2, e3⟩ := hw.2.2.2 t h
    exact ⟨n, a, e1, e2, by have := h.2.2; omega, e3⟩
  · obtain ⟨n, lo, hi, hc⟩ := zc_st h.1 h.2
    obtain ⟨c', e1, e2, a, e3, e4⟩ := hw.2.2.1 t _ hc
    subst e3
    obtain ⟨g1, g2, g3, g4, -⟩ := zc_ok hc
    refine ⟨n, a, e1, e2, g2, fun q hq => ?_⟩
    have := e4 q hq
    exact ⟨this.1, by omega, by omega⟩
theorem zDI {μ : zM} {t : Nat} (h : zDyn μ t) : zIa μ t := Or.inl h
theorem zrd_ok {μ : zM} {w : mW} {kd : Nat → Bool} {y t : Nat} {x : Int} {k : zV → Prop} (hw : zRep μ w) (h : zrd μ kd y t x k) : ∃ kk n, kd kk = true ∧ mx_in (Int32.ofInt x) n = true ∧
    ((kk = 1 ∧ ∃ a : mJ, w.1[t]? = some (.inr ((kk, n), .inr a)) ∧ k (.inr (.inl (mx_g a (Int32.ofInt x).toNatClampNeg)))) ∨ (kk ≠ 1 ∧ ∃ a : mI, w.1[t]? = some (.inr ((kk, n), .inl a)) ∧ mx_g a (Int32.ofInt x).toNatClampNeg = Int32.ofInt (μ.1 t x) ∧ k (.inl (μ.1 t x)))) := by
  have int : zIa μ t → (0 ≤ x ∧ x < μ.2 t) → kd 0 = true → (∀ v : Int, v = μ.1 t x → -2147483648 ≤ v → v ≤ 2147483647 → k (.inl v)) → ∃ kk n, kd kk = true ∧ mx_in (Int32.ofInt x) n = true ∧
    ((kk = 1 ∧ ∃ a : mJ, w.1[t]? = some (.inr ((kk, n), .inr a)) ∧ k (.inr (.inl (mx_g a (Int32.ofInt x).toNatClampNeg)))) ∨ (kk ≠ 1 ∧ ∃ a : mI, w.1[t]? = some (.inr ((kk, n), .inl a)) ∧ mx_g a (Int32.ofInt x).toNatClampNeg = Int32.ofInt (μ.1 t x) ∧ k (.inl (μ.1 t x)))) := by
    intro h1 h2 h3 h4
    obtain ⟨n, a, e1, e2, e3, e4⟩ := zIa_ok hw h1
    rw [e2] at h2
    obtain ⟨i1, i2⟩ := zix h2 e3
    obtain ⟨j1, j2, j3⟩ := zRw_get e4 h2
    exact ⟨0, n, h3, i1, Or.inr ⟨by omega, a, e1, by rw [i2]; exact j1, h4 _ rfl j2 j3⟩⟩
  unfold zrd at h
  split at h
  · split at h
    · rename_i hk
      exact int h.1 h.2.1 hk h.2.2
    · cases h
  · split at h
    · split at h
      · rename_i hk
        exact int (zDI h.1) h.2.1 hk h.2.2
      · cases h
    · split at h
      · rename_i kk n lo hi hy
        split at h
        · rename_i hk
          replace h := zch2 hy h
          obtain ⟨hc, hx, h⟩ := h
          obtain ⟨c', e1, e2, e3⟩ := hw.2.2.1 t _ hc
          obtain ⟨g1, g2, g3, g4, -⟩ := zc_ok hc
          obtain ⟨i1, i2⟩ := zix hx g2
          split at h
          · rename_i hb
            rw [hb] at e3
            obtain ⟨a, e3⟩ := e3
            subst e3
            have hb1 := Nat.eq_of_beq_eq_true hb
            subst hb1
            refine ⟨1, n, hk, i1, Or.inl ⟨rfl, a, e1, h _ ?_⟩⟩
            have h9 := hw.1.2.1 t n a e1 x.toNat (by omega)
            rw [Int.toNat_of_nonneg hx.1] at h9
            rw [i2]
            simp only [Nat.add_eq]
            exact h9
          · rename_i hb
            rw [hb] at e3
            obtain ⟨a, e3, e4⟩ := e3
            subst e3
            obtain ⟨j1, j2, j3⟩ := zRw_get e4 hx
            exact ⟨kk, n, hk, i1, Or.inr ⟨(by intro q; rw [q] at hb; cases hb), a, e1, (by rw [i2]; exact j1), h _ rfl j2 j3⟩⟩
        · cases h
      · cases h
theorem zRw_set {μ : zM} {t n : Nat} {lo hi x v : Int} {a : mI} (h : zRw μ t n lo hi a) (hx : 0 ≤ x) (h1 : lo ≤ v) (h2 : v ≤ hi) : zRw (zu μ t x v) t n lo hi (mx_s a x.toNat (Int32.ofInt v)) := by
  intro q hq
  by_cases e : q = x.toNat
  · have e2 : (q : Int) = x := by omega
    rw [mx_g_s, if_pos e, e2, zu_at]
    exact ⟨rfl, h1, h2⟩
  · rw [mx_g_s, if_neg e, zu_nk (by omega)]
    exact h q hq
theorem zrow_set {μ : zM} {w : mW} {t kk n : Nat} {x v : Int} {a : mI} (hw : zRep μ w) (ht : t < 1048576) (e1 : w.1[t]? = some (.inr ((kk, n), .inl a))) (hk : kk ≠ 1) (hx : 0 ≤ x) (hv : zR v) (hd : ∀ d, znth zcl t = some d → ∃ lo hi, d = .inr (kk, n, lo, hi) ∧ lo ≤ v ∧ v ≤ hi) : zRep (zu μ t x v) (w.1.set t (.inr ((kk, n), .inl (mx_s a x.toNat (Int32.ofInt v)))), w.2) := by
  refine zRep_set hw ht (List.getElem?_eq_some_iff.mp e1).1 (fun n a q => by cases q) (fun ci' fs' q => by cases q) (fun d hc => ?_) (fun hdy => ?_)
  · obtain ⟨lo, hi, rfl, h1, h2⟩ := hd d hc
    obtain ⟨c', g1, g2, g3⟩ := hw.2.2.1 t _ hc
    cases e1.symm.trans g1
    refine ⟨g2, ?_⟩
    have hb : Nat.beq kk 1 = false := by
      cases hb : Nat.beq kk 1
      · rfl
      · exact absurd (Nat.eq_of_beq_eq_true hb) hk
    rw [hb] at g3 ⊢
    obtain ⟨a', g3, g4⟩ := g3
    cases g3
    exact ⟨_, rfl, zRw_set g4 hx h1 h2⟩
  · obtain ⟨n', a', g1, g2, g3⟩ := hw.2.2.2 t hdy
    cases e1.symm.trans g1
    exact ⟨_, _, rfl, g2, zRw_set g3 hx hv.1 hv.2⟩
theorem zlong_set {μ : zM} {w : mW} {t n : Nat} {x : Int} {v : Int64} {a : mJ} (hw : zRep μ w) (e1 : w.1[t]? = some (.inr ((1, n), .inr a))) (hx : 0 ≤ x) : zRep (zu μ (3000000 + t) x v.toInt) (w.1.set t (.inr ((1, n), .inr (mx_s a x.toNat v))), w.2) := by
  have hlt := (List.getElem?_eq_some_iff.mp e1).1
  have h48 := hw.1.1
  refine zRep_setG hw hlt (fun i hi h2 => zu_ne (by omega)) rfl (fun t2 n2 a2 ht q hq => ?_) (fun t2 ci2 fs2 ht k u hk => ?_) (fun d hc => ?_) (fun hdy => ?_)
  · dsimp only at ht
    by_cases e : t2 = t
    · subst e
      rw [show (w.1.set t2 (.inr ((1, n), .inr (mx_s a x.toNat v))))[t2]? = some (.inr ((1, n), .inr (mx_s a x.toNat v))) by simp [hlt]] at ht
      cases ht
      rw [mx_g_s]
      by_cases eq : q = x.toNat
      · rw [if_pos eq, show (q : Int) = x by omega, zu_at]
      · rw [if_neg eq, zu_nk (by omega)]
        exact hw.1.2.1 t2 n a e1 q hq
    · rw [List.getElem?_set_ne (Ne.symm e)] at ht
      rw [zu_ne (by omega)]
      exact hw.1.2.1 t2 n2 a2 ht q hq
  · dsimp only at ht
    have h9 : t2 < w.1.length := by have := (List.getElem?_eq_some_iff.mp ht).1; simpa using this
    rw [zu_ne (by omega)]
    by_cases e : t2 = t
    · subst e
      rw [show (w.1.set t2 (.inr ((1, n), .inr (mx_s a x.toNat v))))[t2]? = some (.inr ((1, n), .inr (mx_s a x.toNat v))) by simp [hlt]] at ht
      cases ht
    · rw [List.getElem?_set_ne (Ne.symm e)] at ht
      exact hw.1.2.2 t2 ci2 fs2 ht k u hk
  · obtain ⟨c', g1, g2⟩ := hw.2.2.1 t _ hc
    cases e1.symm.trans g1
    refine zCe_eq (μ := μ) (zu_ne (by omega)) rfl ?_
    unfold zCe at g2 ⊢
    split
    · obtain ⟨fs, g3, -⟩ := g2
      cases g3
    · refine ⟨g2.1, ?_⟩
      have g3 := g2.2
      split at g3
      · obtain ⟨a', g3⟩ := g3
        cases g3
        exact ⟨_, rfl⟩
      · obtain ⟨a', g3, -⟩ := g3
        cases g3
  · obtain ⟨n', a', g1, g2, g3⟩ := hw.2.2.2 t hdy
    cases e1.symm.trans g1
theorem zDyn_cl {μ : zM} {t : Nat} {d : zD} (h : zDyn μ t) (hd : znth zcl t = some d) : d = .inr (0, 1024, -2147483648, 2147483647) := by
  have hl : t < 109 := by have := zn_lt hd; rw [zc_len] at this; exact this
  rcases h.1 with e | e | e
  · subst e; exact Option.some.inj (hd.symm.trans zc_31.1)
  · subst e; exact Option.some.inj (hd.symm.trans zc_31.2)
  · omega
theorem zwr_ok {μ : zM} {w : mW} {kd : Nat → Bool} {y t : Nat} {x : Int} {v : zV} {k : zM → Prop} (hw : zRep μ w) (ht : t < 1048576) (h : zwr μ kd y t x v k) : ∃ kk n, kd kk = true ∧ mx_in (Int32.ofInt x) n = true ∧
    ((kk = 1 ∧ ∃ (a : mJ) (z : Int64) (μ' : zM), v = .inr (.inl z) ∧ w.1[t]? = some (.inr ((kk, n), .inr a)) ∧ zRep μ' (w.1.set t (.inr ((kk, n), .inr (mx_s a (Int32.ofInt x).toNatClampNeg z))), w.2) ∧ k μ') ∨
     (kk ≠ 1 ∧ ∃ (a : mI) (z : Int) (μ' : zM), v = .inl z ∧ w.1[t]? = some (.inr ((kk, n), .inl a)) ∧ (kk = 2 → 0 ≤ z ∧ z ≤ 1) ∧ (kk = 3 → -128 ≤ z ∧ z ≤ 127) ∧ zRep μ' (w.1.set t (.inr ((kk, n), .inl (mx_s a (Int32.ofInt x).toNatClampNeg (Int32.ofInt z)))), w.2) ∧ k μ')) := by
  have int : ∀ z : Int, v = .inl z → zIa μ t → (0 ≤ x ∧ x < μ.2 t) → kd 0 = true → zR z → (∀ d, znth zcl t = some d → ∃ n lo hi, d = .inr (0, n, lo, hi) ∧ lo ≤ z ∧ z ≤ hi) → (∀ μ' : zM, μ' = zu μ t x z → k μ') → ∃ kk n, kd kk = true ∧ mx_in (Int32.ofInt x) n = true ∧
    ((kk = 1 ∧ ∃ (a : mJ) (z : Int64) (μ' : zM), v = .inr (.inl z) ∧ w.1[t]? = some (.inr ((kk, n), .inr a)) ∧ zRep μ' (w.1.set t (.inr ((kk, n), .inr (mx_s a (Int32.ofInt x).toNatClampNeg z))), w.2) ∧ k μ') ∨
     (kk ≠ 1 ∧ ∃ (a : mI) (z : Int) (μ' : zM), v = .inl z ∧ w.1[t]? = some (.inr ((kk, n), .inl a)) ∧ (kk = 2 → 0 ≤ z ∧ z ≤ 1) ∧ (kk = 3 → -128 ≤ z ∧ z ≤ 127) ∧ zRep μ' (w.1.set t (.inr ((kk, n), .inl (mx_s a (Int32.ofInt x).toNatClampNeg (Int32.ofInt z)))), w.2) ∧ k μ')) := by
    intro z hz h1 h2 h3 hzr hd h4
    obtain ⟨n, a, e1, e2, e3, e4⟩ := zIa_ok hw h1
    rw [e2] at h2
    obtain ⟨i1, i2⟩ := zix h2 e3
    refine ⟨0, n, h3, i1, Or.inr ⟨by omega, a, z, _, hz, e1, by omega, by omega, ?_, h4 _ rfl⟩⟩
    rw [i2]
    refine zrow_set hw ht e1 (by omega) h2.1 hzr fun d hc => ?_
    obtain ⟨n', lo, hi, rfl, g1, g2⟩ := hd d hc
    obtain ⟨c', g3, g4, g5⟩ := hw.2.2.1 t _ hc
    have : n' = n := by have := g4.symm.trans e2; omega
    subst this
    exact ⟨lo, hi, rfl, g1, g2⟩
  unfold zwr at h
  split at h
  · split at h
    · rename_i z hk
      obtain ⟨h1, h2, h3, h4⟩ := h
      have hrg : ∀ d, znth zcl t = some d → ∃ n lo hi, d = .inr (0, n, lo, hi) ∧ lo ≤ z ∧ z ≤ hi := by
        intro d hd
        unfold zrg at h3
        rw [hd] at h3
        rcases h1 with q | q
        · have := zDyn_cl q hd
          subst this
          exact ⟨_, _, _, rfl, h3⟩
        · obtain ⟨n, lo, hi, hc⟩ := zc_st q.1 q.2
          cases hd.symm.trans hc
          exact ⟨_, _, _, rfl, h3⟩
      have hzr : zR z := by
        unfold zrg at h3
        split at h3
        · rename_i hc
          obtain ⟨g1, g2, g3, g4, -⟩ := zc_ok hc
          exact ⟨by omega, by omega⟩
        · exact h3
      exact int z rfl h1 h2 hk hzr hrg h4
    · cases h
  · split at h
    · split at h
      · rename_i z hk
        obtain ⟨h1, h2, h3, h4⟩ := h
        exact int z rfl (zDI h1) h2 hk h3 (fun d hd => by
          have := zDyn_cl h1 hd
          subst this
          exact ⟨_, _, _, rfl, h3⟩) h4
      · cases h
    · split at h
      · rename_i kk n lo hi hy
        split at h
        · rename_i hk
          replace h := zch2 hy h
          obtain ⟨hc, hx, h⟩ := h
          obtain ⟨c', e1, e2, e3⟩ := hw.2.2.1 t _ hc
          obtain ⟨g1, g2, g3, g4, g5, g6⟩ := zc_ok hc
          obtain ⟨i1, i2⟩ := zix hx g2
          split at h
          · rename_i hb
            rw [hb] at e3
            obtain ⟨a, e3⟩ := e3
            subst e3
            have hb := Nat.eq_of_beq_eq_true hb
            subst hb
            refine ⟨1, n, hk, i1, Or.inl ⟨rfl, a, _, _, rfl, e1, ?_, h _ rfl⟩⟩
            rw [i2]
            simp only [Nat.add_eq]
            exact zlong_set hw e1 hx.1
          · rename_i z hb
            rw [hb] at e3
            obtain ⟨a, e3, e4⟩ := e3
            subst e3
            have hk1 : kk ≠ 1 := by intro q; rw [q] at hb; cases hb
            refine ⟨kk, n, hk, i1, Or.inr ⟨hk1, a, z, _, rfl, e1, fun q => ?_, fun q => ?_, ?_, h.2 _ rfl⟩⟩
            · have := g5 q; omega
            · have := g6 q; omega
            · rw [i2]
              refine zrow_set hw ht e1 hk1 hx.1 ⟨by omega, by omega⟩ fun d hd => ?_
              cases hc.symm.trans hd
              exact ⟨lo, hi, rfl, h.1⟩
          · cases h
        · cases h
      · cases h
theorem zal_ok {μ : zM} {w : mW} {y t : Nat} {k : zV → Prop} (hw : zRep μ w) (h : zal μ y t k) : ∃ kk n a, w.1[t]? = some (.inr ((kk, n), a)) ∧ kk < 4 ∧ k (.inl (n : Nat)) := by
  unfold zal at h
  split at h
  · obtain ⟨n, a, e1, e2, e3, e4⟩ := zIa_ok hw h.1
    exact ⟨0, n, .inl a, e1, by omega, by rw [← e2]; exact h.2 _ rfl (by omega) (by omega)⟩
  · split at h
    · obtain ⟨n, a, e1, e2, e3, e4⟩ := zIa_ok hw (zDI h.1)
      have := h.1.2
      exact ⟨0, n, .inl a, e1, by omega, by rw [← e2]; exact h.2 _ rfl (by omega) (by omega)⟩
    · split at h
      · rename_i kk n lo hi hy
        replace h := zch2 hy h
        obtain ⟨hc, h⟩ := h
        obtain ⟨c', e1, e2, e3⟩ := hw.2.2.1 t _ hc
        obtain ⟨g1, g2, g3, g4, g5, g6⟩ := zc_ok hc
        split at e3
        · obtain ⟨a, e3⟩ := e3
          subst e3
          exact ⟨kk, n, _, e1, g1, h⟩
        · obtain ⟨a, e3, e4⟩ := e3
          subst e3
          exact ⟨kk, n, _, e1, g1, h⟩
      · cases h
