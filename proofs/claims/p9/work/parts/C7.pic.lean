/-! ### the start, in the memory's picture -/
def zpv (c : Option mE) (k : Nat) : Int := match c with
  | some (.inl (_, fs)) => (match fs[k]? with
    | some (.int x) => x.toInt
    | some (.ref j) => (j : Int)
    | _ => 0)
  | some (.inr (_, .inl a)) => (mx_g a k).toInt
  | _ => 0
def zpl (c : Option mE) : Int := match c with
  | some (.inr ((_, n), _)) => (n : Int)
  | _ => 0
def zpr (c : Option mE) (k : Nat) : Int := match c with
  | some (.inr (_, .inr a)) => (mx_g a k).toInt
  | _ => 0
def zpj (c : Option mE) (k : Nat) : Int := match c with
  | some (.inl (_, fs)) => (match fs[k]? with
    | some (.long v) => v.toInt
    | _ => 0)
  | _ => 0
def zpc (w : mW) : zM := (fun i k => if i = 2000000 then (if k = 0 then (w.1.length : Int) else if k = 1 then (w.2 : Int) else 0) else if 5000000 ≤ i then zpj w.1[i - 5000000]? k.toNat else if 3000000 ≤ i then zpr w.1[i - 3000000]? k.toNat else zpv w.1[i]? k.toNat, fun t => zpl w.1[t]?)
def zpk (w : mW) (y j : Nat) : Bool := if Nat.ble y 108 then (if Nat.ble 14 y && Nat.ble y 31 then Nat.beq j y || Nat.beq j (y + 18) else Nat.beq j y) else if Nat.beq y 1000 then (Nat.beq j 31 || Nat.beq j 49) && (decide (1024 ≤ zpl w.1[j]?) && decide (zpl w.1[j]? ≤ 88400)) else if Nat.beq y 200 then Nat.beq j 25 || (Nat.beq j 43 || Nat.beq j 51) else false
def zpf1 (w : mW) (t : Nat) (f : zF) (v : Value) : Bool := match f, v with
  | .inl (lo, hi), .int x => decide (lo ≤ x.toInt) && decide (x.toInt ≤ hi)
  | .inr (.inl _), .long _ => true
  | .inr (.inr (.inl (off, y'))), .ref j => Nat.blt j 1048576 && Nat.beq j (match Nat.ble 14 y' && Nat.ble y' 31 with | true => Nat.add t off | false => y')
  | .inr (.inr (.inr y')), .ref j => Nat.blt j 1048576 && zpk w y' j
  | _, _ => false
def zpfs (w : mW) (t : Nat) : List zF → List Value → Bool
  | [], [] => true
  | f :: fl, v :: fs => zpf1 w t f v && zpfs w t fl fs
  | _, _ => false
def zpe (w : mW) (t : Nat) (d : zD) (c : mE) : Bool := match d, c with
  | .inl ci, .inl (ci', fs) => Nat.beq ci ci' && (match znth zfl ci with | some fl => zpfs w t fl fs | none => false)
  | .inr (kk, n, lo, hi), .inr ((k', n'), .inl a) => (Nat.beq kk k' && Nat.beq n n') && (!(Nat.beq kk 1) && ((decide (lo ≤ a.1.toInt) && decide (a.1.toInt ≤ hi)) && a.2.all (fun e => decide (lo ≤ e.2.toInt) && decide (e.2.toInt ≤ hi))))
  | .inr (kk, n, _, _), .inr ((k', n'), .inr _) => (Nat.beq kk k' && Nat.beq n n') && Nat.beq kk 1
  | _, _ => false
def zpes (w : mW) : Nat → List zD → List mE → Bool
  | _, [], [] => true
  | t, d :: ds, c :: cs => zpe w t d c && zpes w (t + 1) ds cs
  | _, _, _ => false
theorem zpfs_at {w : mW} {t : Nat} : ∀ {fl : List zF} {fs : List Value}, zpfs w t fl fs = true → fs.length = fl.length ∧ ∀ (k : Nat) (f : zF) (v : Value), znth fl k = some f → fs[k]? = some v → zpf1 w t f v = true
  | [], [], _ => ⟨rfl, fun k f v h => by cases h⟩
  | [], _ :: _, h => by cases h
  | _ :: _, [], h => by cases h
  | f0 :: fl, v0 :: fs, h => by
    unfold zpfs at h
    simp only [Bool.and_eq_true] at h
    obtain ⟨h1, h2⟩ := zpfs_at h.2
    refine ⟨by simp [h1], fun k f v e1 e2 => ?_⟩
    cases k with
    | zero =>
      cases (show some f0 = some f from e1)
      cases (show some v0 = some v from e2)
      exact h.1
    | succ k => exact h2 k f v e1 (by simpa using e2)
theorem zpes_at {w : mW} : ∀ {ds : List zD} {cs : List mE} {t0 : Nat}, zpes w t0 ds cs = true → ∀ (t : Nat) (d : zD), znth ds t = some d → ∃ c, cs[t]? = some c ∧ zpe w (t0 + t) d c = true
  | [], _, _, _, t, d, h => by cases h
  | _ :: _, [], _, h, _, _, _ => by cases h
  | d0 :: ds, c0 :: cs, t0, h, t, d, e => by
    unfold zpes at h
    simp only [Bool.and_eq_true] at h
    cases t with
    | zero =>
      cases (show some d0 = some d from e)
      exact ⟨c0, rfl, h.1⟩
    | succ t =>
      obtain ⟨c, g1, g2⟩ := zpes_at h.2 t d e
      exact ⟨c, by simpa using g1, by rw [show t0 + (t + 1) = t0 + 1 + t by omega]; exact g2⟩
theorem zpk_ok {w : mW} {y j : Nat} (h : zpk w y j = true) : zchk (zpc w) y j True := by
  unfold zpk at h
  unfold zchk
  split at h
  · rename_i h1
    rw [h1]
    dsimp only
    split at h
    · rename_i h2
      rw [h2]
      simp only [Bool.or_eq_true] at h
      refine ⟨?_, trivial⟩
      rcases h with h | h
      · exact Or.inl (Nat.eq_of_beq_eq_true h)
      · exact Or.inr (Nat.eq_of_beq_eq_true h)
    · rename_i h2
      have h2 : (Nat.ble 14 y && Nat.ble y 31) = false := by
        cases hq : (Nat.ble 14 y && Nat.ble y 31) with
        | true => exact absurd hq h2
        | false => rfl
      rw [h2]
      dsimp only
      rw [h]
      trivial
  · rename_i h1
    have h1 : Nat.ble y 108 = false := by
      cases hq : Nat.ble y 108 with
      | true => exact absurd hq h1
      | false => rfl
    rw [h1]
    dsimp only
    refine ⟨?_, trivial⟩
    split at h
    · rename_i h2
      have h2 := Nat.eq_of_beq_eq_true h2
      subst h2
      simp only [Bool.and_eq_true, Bool.or_eq_true, decide_eq_true_eq] at h
      show zDyn (zpc w) j
      refine ⟨?_, h.2.1, h.2.2⟩
      rcases h.1 with q | q
      · exact Or.inl (Nat.eq_of_beq_eq_true q)
      · exact Or.inr (Or.inl (Nat.eq_of_beq_eq_true q))
    · split at h
      · rename_i h3
        have h3 := Nat.eq_of_beq_eq_true h3
        subst h3
        simp only [Bool.or_eq_true] at h
        show j = 25 ∨ j = 43 ∨ j = 51
        rcases h with q | q | q
        · exact Or.inl (Nat.eq_of_beq_eq_true q)
        · exact Or.inr (Or.inl (Nat.eq_of_beq_eq_true q))
        · exact Or.inr (Or.inr (Nat.eq_of_beq_eq_true q))
      · cases h
theorem zpc_v {w : mW} {i : Nat} {k : Int} (h : i < 2000000) : (zpc w).1 i k = zpv w.1[i]? k.toNat := by
  show (if i = 2000000 then _ else if 5000000 ≤ i then _ else if 3000000 ≤ i then _ else _) = _
  rw [if_neg (by omega), if_neg (by omega), if_neg (by omega)]
theorem zpc_r {w : mW} {t : Nat} {k : Int} (h : t < 1000000) : (zpc w).1 (3000000 + t) k = zpr w.1[t]? k.toNat := by
  show (if 3000000 + t = 2000000 then _ else if 5000000 ≤ 3000000 + t then _ else if 3000000 ≤ 3000000 + t then zpr w.1[3000000 + t - 3000000]? k.toNat else _) = _
  rw [if_neg (by omega), if_neg (by omega), if_pos (by omega), Nat.add_sub_cancel_left]
theorem zpc_j {w : mW} {t : Nat} {k : Int} : (zpc w).1 (5000000 + t) k = zpj w.1[t]? k.toNat := by
  show (if 5000000 + t = 2000000 then _ else if 5000000 ≤ 5000000 + t then zpj w.1[5000000 + t - 5000000]? k.toNat else _) = _
  rw [if_neg (by omega), if_pos (by omega), Nat.add_sub_cancel_left]
theorem zpg {a : mI} {lo hi : Int} (h1 : lo ≤ a.1.toInt ∧ a.1.toInt ≤ hi) (h2 : ∀ e ∈ a.2, lo ≤ e.2.toInt ∧ e.2.toInt ≤ hi) (q : Nat) : lo ≤ (mx_g a q).toInt ∧ (mx_g a q).toInt ≤ hi := by
  unfold mx_g
  cases hl : a.2.lookup q with
  | none => exact h1
  | some v => exact h2 (q, v) (zlkm (by rw [zlk_eq]; exact hl))
theorem zpc_rep {w : mW} (hl : w.1.length = 109) (h : zpes w 0 zcl w.1 = true) : zRep (zpc w) w := by
  refine ⟨⟨by omega, fun t n a ha q hq => ?_, fun t ci fs ha k v hv => ?_⟩, ⟨?_, ?_⟩, fun t d hd => ?_, fun t hd => ?_⟩
  · have ht := (List.getElem?_eq_some_iff.mp ha).1
    rw [zpc_r (by omega), ha]
    rfl
  · rw [zpc_j, ha]
    show _ = (match fs[k]? with | some (.long v) => v.toInt | _ => 0)
    rw [hv]
  · simp [zpc]
  · simp [zpc]
  · obtain ⟨c, e1, e2⟩ := zpes_at h t d hd
    rw [Nat.zero_add] at e2
    have ht := (List.getElem?_eq_some_iff.mp e1).1
    have hn : t < 2000000 := by omega
    refine ⟨c, e1, ?_⟩
    unfold zpe at e2
    unfold zCe
    split at e2
    · rename_i ci ci' fs
      simp only [Bool.and_eq_true] at e2
      obtain ⟨e2, e3⟩ := e2
      have e2 := Nat.eq_of_beq_eq_true e2
      subst e2
      split at e3
      · rename_i fl hfl
        obtain ⟨g1, g2⟩ := zpfs_at e3
        refine ⟨fs, rfl, fl, hfl, g1, fun kf f v q1 q2 => ?_⟩
        have g3 := g2 kf f v q1 q2
        have hv : (zpc w).1 t ((kf : Nat) : Int) = zpv w.1[t]? kf := zpc_v hn
        rw [e1] at hv
        unfold zpf1 at g3
        unfold zFt
        split at g3
        · rename_i lo hi x
          simp only [Bool.and_eq_true, decide_eq_true_eq] at g3
          have hv : (zpc w).1 t ((kf : Nat) : Int) = x.toInt := by rw [hv]; show (match fs[kf]? with | some (.int x) => x.toInt | some (.ref j) => (j : Int) | _ => 0) = _; rw [q2]
          rw [hv]
          exact ⟨by rw [Int32.ofInt_toInt], g3.1, g3.2⟩
        · exact ⟨_, rfl⟩
        · simp only [Bool.and_eq_true] at g3
          exact ⟨_, rfl, mx_blt g3.1, Nat.eq_of_beq_eq_true g3.2⟩
        · rename_i y' j
          simp only [Bool.and_eq_true] at g3
          have hv : (zpc w).1 t ((kf : Nat) : Int) = j := by rw [hv]; show (match fs[kf]? with | some (.int x) => x.toInt | some (.ref j) => (j : Int) | _ => 0) = _; rw [q2]
          exact ⟨j, rfl, mx_blt g3.1, hv.symm, zpk_ok g3.2⟩
        · cases g3
      · cases e3
    · rename_i kk n lo hi k' n' a
      simp only [Bool.and_eq_true, Bool.not_eq_true', decide_eq_true_eq, List.all_eq_true] at e2
      obtain ⟨⟨e2, e3⟩, e4, e5, e6⟩ := e2
      have e2 := Nat.eq_of_beq_eq_true e2
      have e3 := Nat.eq_of_beq_eq_true e3
      subst e2 e3
      refine ⟨by show zpl w.1[t]? = _; rw [e1]; rfl, ?_⟩
      rw [e4]
      refine ⟨a, rfl, fun q hq => ?_⟩
      have hv : (zpc w).1 t ((q : Nat) : Int) = (mx_g a q).toInt := by rw [zpc_v hn, e1]; rfl
      rw [hv, Int32.ofInt_toInt]
      exact ⟨rfl, zpg e5 e6 q⟩
    · rename_i kk n _ _ k' n' a
      simp only [Bool.and_eq_true] at e2
      obtain ⟨⟨e2, e3⟩, e4⟩ := e2
      have e2 := Nat.eq_of_beq_eq_true e2
      have e3 := Nat.eq_of_beq_eq_true e3
      subst e2 e3
      refine ⟨by show zpl w.1[t]? = _; rw [e1]; rfl, ?_⟩
      rw [e4]
      exact ⟨a, rfl⟩
    · cases e2
  · have key : znth zcl t = some (.inr (0, 1024, (-2147483648), 2147483647)) → ∃ (n : Nat) (a : mI), w.1[t]? = some (.inr ((0, n), .inl a)) ∧ (zpc w).2 t = n ∧ zRw (zpc w) t n (-2147483648) 2147483647 a := by
      intro hz
      obtain ⟨c, e1, e2⟩ := zpes_at h t _ hz
      have ht := (List.getElem?_eq_some_iff.mp e1).1
      rcases c with ⟨ci, fs⟩ | ⟨⟨k', n'⟩, a | a⟩
      · cases e2
      · unfold zpe at e2
        simp only [Bool.and_eq_true, Bool.not_eq_true', decide_eq_true_eq, List.all_eq_true] at e2
        obtain ⟨⟨e2, e3⟩, e4, e5, e6⟩ := e2
        have e2 := Nat.eq_of_beq_eq_true e2
        have e3 := Nat.eq_of_beq_eq_true e3
        subst e2 e3
        refine ⟨1024, a, e1, by show zpl w.1[t]? = _; rw [e1]; rfl, fun q hq => ?_⟩
        rw [zpc_v (by omega), e1]
        show _ = Int32.ofInt (mx_g a q).toInt ∧ _
        rw [Int32.ofInt_toInt]
        exact ⟨rfl, zpg e5 e6 q⟩
      · unfold zpe at e2
        simp only [Bool.and_eq_true] at e2
        cases e2.2
    rcases hd.1 with q | q | q
    · exact key (by rw [q]; rfl)
    · exact key (by rw [q]; rfl)
    · have hz : 1024 ≤ zpl w.1[t]? := hd.2.1
      rw [List.getElem?_eq_none (by omega)] at hz
      exact absurd hz (by decide)
