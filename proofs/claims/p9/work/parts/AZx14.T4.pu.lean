/-! ### the class lays a row as a node: the steps -/
theorem ysub_fl (f : Int) (as : List (List Int)) (bs : List (List Int)) : ysub f as bs.flatten = (bs.map (ysub f as)).flatten := by
  induction bs with
  | nil => rfl
  | cons b r ih => rw [List.flatten_cons, ysub_app, ih]; rfl
theorem ysub_h {f h : Int} {as bs : List (List Int)} (hh : ¬ (32 ≤ h ∧ h < 112)) : ysub f as (h :: bs.flatten) = h :: (bs.map (ysub f as)).flatten := by
  show (if 32 ≤ h ∧ h < 112 then as.getD (h - 32 - f).toNat [] else [h]) ++ ysub f as bs.flatten = _
  rw [if_neg hh, ysub_fl]
  rfl
theorem ysub_p {f h : Int} {as : List (List Int)} (hh : 32 ≤ h ∧ h < 112) : ysub f as [h] = as.getD (h - 32 - f).toNat [] := by
  show (if 32 ≤ h ∧ h < 112 then as.getD (h - 32 - f).toNat [] else [h]) ++ [] = _
  rw [if_pos hh, List.append_nil]
theorem tg_m {g : List Int → List Int} {as : List (List Int)} {i : Nat} (h : i < as.length) : (as.map g).getD i [] = g (as.getD i []) := by
  rw [List.getD_eq_getElem?_getD, List.getElem?_map, List.getD_eq_getElem?_getD, List.getElem?_eq_getElem h]
  rfl
theorem tg_t {as : List (List Int)} {i n : Nat} (h : i < n) : (as.take n).getD i [] = as.getD i [] := by
  rw [List.getD_eq_getElem?_getD, List.getD_eq_getElem?_getD, List.getElem?_take, if_pos h]
theorem tg_d {as : List (List Int)} {i n : Nat} : (as.drop n).getD i [] = as.getD (n + i) [] := by
  rw [List.getD_eq_getElem?_getD, List.getD_eq_getElem?_getD, List.getElem?_drop]
theorem tg_0 {a : List Int} {as : List (List Int)} : (a :: as).getD 0 [] = a := rfl
theorem tg_s {a : List Int} {as : List (List Int)} {i : Nat} : (a :: as).getD (i + 1) [] = as.getD i [] := rfl
/-- a row is being laid from its end: k heads are left; the stack has the nodes of a forest -/
def tL (μ m : zM) (t : Nat) (A : Int → Int) (f : Int) (as : List (List Int)) (L : List Int) (k : Nat) (top : Int) : Prop := zfP μ m ∧ tOk m t A ∧ tOd μ m ∧ ∃ fs : List (List Int), L = L.take k ++ fs.flatten ∧ (∀ a ∈ fs, yone A a) ∧ top = 300 - (fs.length : Int) ∧ tF m A f as top fs ∧ (tn m ≤ tn μ + ((L.length : Int) - k) ∧ tp m + fs.length ≤ tp μ + ((L.length : Int) - k))
theorem tL_0 {μ : zM} {t : Nat} {A : Int → Int} {f : Int} {as : List (List Int)} {L : List Int} (ok : tOk μ t A) : tL μ μ t A f as L L.length 300 := ⟨zfP_r μ, ok, tOd_r μ, [], by simp, by simp, by simp, fun j hj => absurd hj (by simp), ⟨by omega, by simp⟩⟩
theorem tL_a {μ m : zM} {t : Nat} {A : Int → Int} {f top : Int} {as : List (List Int)} {L : List Int} {k : Nat} (H : tL μ m t A f as L (k + 1) top) (hk : k < L.length) (hL : L.length ≤ 300) (hy : yone A L) : top + A (L.getD k 0) ≤ 300 ∧ (∀ i : Int, 0 ≤ i → i < A (L.getD k 0) → 0 ≤ m.1 65 (top + i) ∧ m.1 65 (top + i) < tn m) ∧ (1 ≤ top ∧ top ≤ 300) ∧ (tn m + k + 1 ≤ tn μ + L.length ∧ tp m + A (L.getD k 0) + k + 1 ≤ tp μ + L.length) := by
  obtain ⟨z, ok, od, fs, e, hf, et, F, c1, c2⟩ := H
  have e2 : L = L.take k ++ L.getD k 0 :: fs.flatten := by
    conv => lhs; rw [e, ytk hk]
    rw [List.append_assoc]; rfl
  have hy' : yone A (L.take k ++ L.getD k 0 :: fs.flatten) := by rw [← e2]; exact hy
  have a := yone_le hy' hf
  have d := od.1
  have w := ok.2.2.2.1 (L.getD k 0)
  refine ⟨by omega, fun i i0 i1 => ?_, ⟨by omega, by omega⟩, ⟨by omega, by omega⟩⟩
  have x := (F i.toNat (by omega)).1
  rw [show (i.toNat : Int) = i by omega] at x
  exact x
theorem tL_z {m m' : zM} {x : Int} {v : Int} (e : m' = zu m 65 x v) : tOd m m' ∧ (tn m' = tn m ∧ tp m' = tp m) ∧ ∀ j : Nat, j ≠ 65 → m'.1 j = m.1 j := by
  have c : ∀ j : Nat, j ≠ 65 → m'.1 j = m.1 j := fun j hj => by rw [e, zu_ne hj]
  have n : tn m' = tn m := by unfold tn; rw [c 59 (by decide)]
  have p : tp m' = tp m := by unfold tp; rw [c 59 (by decide)]
  exact ⟨⟨⟨by omega, by omega⟩, fun x _ _ => ⟨by rw [c 60 (by decide)], by rw [c 61 (by decide)]⟩, fun q _ _ => by rw [c 63 (by decide)]⟩, ⟨n, p⟩, c⟩
theorem tW_c {m m' : zM} {A : Int → Int} (c : ∀ j : Nat, (59 ≤ j ∧ j < 65) → m'.1 j = m.1 j) (w : tW m A) : tW m' A := by
  have n : tn m' = tn m := by unfold tn; rw [c 59 (by omega)]
  have p : tp m' = tp m := by unfold tp; rw [c 59 (by omega)]
  unfold tW tNd tCh tHx tLk at w ⊢
  rw [n, p, c 60 (by omega), c 61 (by omega), c 62 (by omega), c 63 (by omega), c 64 (by omega)]
  exact w
theorem zfP_z {m m' : zM} {x v : Int} (q : zl0 m m') (e : m' = zu m 65 x v) : zfP m m' := ⟨q, fun j hj => by rw [e, zu_ne (by omega)], by rw [e, zu_ne (by decide)]⟩
/-- a head that is no PARAMETER -/
theorem tL_n {μ m m1 m2 : zM} {t : Nat} {A : Int → Int} {f top v : Int} {as : List (List Int)} {L : List Int} {k : Nat} (H : tL μ m t A f as L (k + 1) top) (hk : k < L.length) (hy : yone A L) (hh : ¬ (32 ≤ L.getD k 0 ∧ L.getD k 0 < 112)) (q : zfT m m1) (w : tW m1 A) (o : tOd m m1) (c : tn m1 ≤ tn m + 1 ∧ tp m1 ≤ tp m + A (L.getD k 0)) (r : 0 ≤ v ∧ v < tn m1) (h60 : m1.1 60 v = L.getD k 0) (hp : ∀ i : Int, 0 ≤ i → i < A (L.getD k 0) → m1.1 63 (m1.1 61 v + i) = m.1 65 (top + i)) (q2 : zl0 m1 m2) (e2 : m2 = zu m1 65 (top + A (L.getD k 0) - 1) v) : tL μ m2 t A f as L k (top + A (L.getD k 0) - 1) := by
  obtain ⟨z, ok, od, fs, e, hf, et, F, c1, c2⟩ := H
  have el : L = L.take k ++ L.getD k 0 :: fs.flatten := by
    conv => lhs; rw [e, ytk hk]
    rw [List.append_assoc]; rfl
  have hy' : yone A (L.take k ++ L.getD k 0 :: fs.flatten) := by rw [← el]; exact hy
  have a := yone_le hy' hf
  have a0 := ok.2.2.2.1 (L.getD k 0)
  obtain ⟨n, hn⟩ : ∃ n : Nat, (n : Int) = A (L.getD k 0) := ⟨(A (L.getD k 0)).toNat, by omega⟩
  have hnl : n ≤ fs.length := by omega
  obtain ⟨s1, s2⟩ := yone_st hn hnl hf
  obtain ⟨o2, ⟨n2, p2⟩, c65⟩ := tL_z e2
  have W2 : tW m2 A := tW_c (fun j hj => c65 j (by omega)) w
  have od2 : tOd m m2 := tOd_t o o2
  have st : ∀ j : Nat, j < fs.length → tE m2 A (m.1 65 (top + j)) (ysub f as (fs.getD j [])) := fun j hj => tE_old od2 ok.2.2.2.2 (F j hj)
  have new : tE m2 A v (ysub f as (L.getD k 0 :: (fs.take n).flatten)) := by
    rw [ysub_h hh]
    have ln : ((fs.take n).map (ysub f as)).length = n := by rw [List.length_map, List.length_take, Nat.min_eq_left hnl]
    refine tE_mk ⟨r.1, by omega⟩ (by rw [c65 60 (by decide)]; exact h60) (by rw [ln]; exact hn) (fun i hi => ?_)
    rw [ln] at hi
    rw [tg_m (by rw [List.length_take, Nat.min_eq_left hnl]; exact hi), tg_t hi, c65 63 (by decide), c65 61 (by decide), hp i (by omega) (by omega)]
    exact st i (by omega)
  have zf : zfP μ m2 := zfP_t (zfP_t z (zfP_T q)) (zfP_z q2 e2)
  refine ⟨zf, tOk_P ok (zfP_t (zfP_T q) (zfP_z q2 e2)) W2, tOd_t od od2, (L.getD k 0 :: (fs.take n).flatten) :: fs.drop n, ?_, s1, ?_, ?_, ?_⟩
  · rw [s2]; exact el
  · rw [List.length_cons, List.length_drop]; omega
  · intro j hj
    rw [List.length_cons, List.length_drop] at hj
    cases j with
    | zero =>
      rw [tg_0, e2, show top + A (L.getD k 0) - 1 + ((0 : Nat) : Int) = top + A (L.getD k 0) - 1 by omega, zu_at, ← e2]
      exact new
    | succ j =>
      have x : m2.1 65 (top + A (L.getD k 0) - 1 + ((j + 1 : Nat) : Int)) = m.1 65 (top + ((n + j : Nat) : Int)) := by
        rw [e2, zu_nk (by omega), q.2.1 65 (by omega)]
        exact congrArg (m.1 65) (by omega)
      rw [tg_s, tg_d, x]
      exact st (n + j) (by omega)
  · rw [List.length_cons, List.length_drop]
    exact ⟨by omega, by omega⟩
/-- a PARAMETER -/
theorem tL_p {μ m m2 : zM} {t : Nat} {A : Int → Int} {f top v : Int} {as : List (List Int)} {L : List Int} {k : Nat} (H : tL μ m t A f as L (k + 1) top) (hk : k < L.length) (hh : 32 ≤ L.getD k 0 ∧ L.getD k 0 < 112) (a0 : A (L.getD k 0) = 0) (hv : tE m A v (as.getD (L.getD k 0 - 32 - f).toNat [])) (q2 : zl0 m m2) (e2 : m2 = zu m 65 (top - 1) v) : tL μ m2 t A f as L k (top - 1) := by
  obtain ⟨z, ok, od, fs, e, hf, et, F, c1, c2⟩ := H
  have el : L = L.take k ++ L.getD k 0 :: fs.flatten := by
    conv => lhs; rw [e, ytk hk]
    rw [List.append_assoc]; rfl
  obtain ⟨o2, ⟨n2, p2⟩, c65⟩ := tL_z e2
  have W2 : tW m2 A := tW_c (fun j hj => c65 j (by omega)) ok.2.2.2.2
  have st : ∀ j : Nat, j < fs.length → tE m2 A (m.1 65 (top + j)) (ysub f as (fs.getD j [])) := fun j hj => tE_old o2 ok.2.2.2.2 (F j hj)
  refine ⟨zfP_t z (zfP_z q2 e2), tOk_P ok (zfP_z q2 e2) W2, tOd_t od o2, [L.getD k 0] :: fs, ?_, ?_, ?_, ?_, ?_⟩
  · rw [List.flatten_cons]; exact el
  · intro x hx
    rcases List.mem_cons.mp hx with rfl | hx
    · exact yone_h (as := []) (by rw [a0]; rfl) (fun _ hb => absurd hb (by simp))
    · exact hf x hx
  · rw [List.length_cons]; omega
  · intro j hj
    rw [List.length_cons] at hj
    cases j with
    | zero =>
      rw [tg_0, e2, show top - 1 + ((0 : Nat) : Int) = top - 1 by omega, zu_at, ← e2, ysub_p hh]
      exact tE_old o2 ok.2.2.2.2 hv
    | succ j =>
      have x : m2.1 65 (top - 1 + ((j + 1 : Nat) : Int)) = m.1 65 (top + (j : Int)) := by
        rw [e2, zu_nk (by omega)]
        exact congrArg (m.1 65) (by omega)
      rw [tg_s, x]
      exact st j (by omega)
  · rw [List.length_cons]
    exact ⟨by omega, by omega⟩
theorem tL_e {μ m : zM} {t : Nat} {A : Int → Int} {f top : Int} {as : List (List Int)} {L : List Int} (H : tL μ m t A f as L 0 top) (hy : yone A L) : top = 299 ∧ tE m A (m.1 65 299) (ysub f as L) ∧ (tn m ≤ tn μ + L.length ∧ tp m ≤ tp μ + L.length) := by
  obtain ⟨z, ok, od, fs, e, hf, et, F, c1, c2⟩ := H
  rw [List.take_zero, List.nil_append] at e
  have e1 := yone_end (by rw [← e]; exact hy) hf
  rw [← e] at e1
  subst e1
  have x := F 0 (by simp)
  rw [tg_0] at x
  have t9 : top = 299 := by rw [et]; rfl
  rw [t9, show (299 : Int) + ((0 : Nat) : Int) = 299 by omega] at x
  exact ⟨t9, x, ⟨by omega, by omega⟩⟩
def gk_X6_put : zC := fun As μ Q => ∃ (a1 : Nat) (a2 : Int) (a3 : Int) (a4 : Nat) (a5 : Int) (a6 : Int) (t : Nat) (A : Int → Int) (L : List Int) (as : List (List Int)), As = [.inr (.inr (59, 59)), .inr (.inr (a1, 1001)), .inl a2, .inl a3, .inr (.inr (a4, 1001)), .inl a5, .inl a6] ∧ zIa μ a1 ∧ (0 ≤ a2 ∧ a2 + a3 ≤ 88400) ∧ (a3 = (L.length : Int) ∧ L.length ≤ 300) ∧ zIa μ a4 ∧ (0 ≤ a5 ∧ a5 ≤ 1000) ∧ (0 ≤ a6 ∧ a6 ≤ 80) ∧ ((a1 < 59 ∨ 66 ≤ a1) ∧ (a4 < 59 ∨ 66 ≤ a4)) ∧ a2 + a3 ≤ μ.2 a1 ∧ yRow μ a1 a2 L ∧ yone A L ∧ tOk μ t A ∧ (tn μ + L.length ≤ 7000 ∧ tp μ + L.length ≤ 7000) ∧ (∀ h ∈ L, 32 ≤ h → h < 112 → A h = 0 ∧ (a6 ≤ h - 32 ∧ a5 + (h - 32 - a6) < μ.2 a4) ∧ tE μ A (μ.1 a4 (a5 + (h - 32 - a6))) (as.getD (h - 32 - a6).toNat [])) ∧ (∀ (v : Int) (μ' : zM), zfP μ μ' → tOk μ' t A → tOd μ μ' → (tn μ' ≤ tn μ + L.length ∧ tp μ' ≤ tp μ + L.length) → tE μ' A v (ysub a6 as L) → Q (some (.inl v)) μ')
set_option maxHeartbeats 4000000 in
theorem gm_X6_put {g : zΓ} (hg : zg g) (d : Nat) (hd : 3 ≤ d) : zOk g d 86 gk_X6_put := by
  obtain ⟨d, rfl⟩ : ∃ d', d = d' + 1 := ⟨d - 1, by omega⟩
  refine zOk_loop hg (show mt_tab[86]? = some mt_X6_put from rfl) ([(12, [0, 1, 2, 4, 5, 6, 7, 8])], []) 59 rfl fun As μ Q hC => ?_
  obtain ⟨a1, a2, a3, a4, a5, a6, t, A, L, as, rfl, ha1, ha2, ⟨ha3, hL⟩, ha4, ha5, ha6, ⟨g1, g4⟩, hln, hrow, hy, ok0, hcap, hpar, hQ⟩ := hC
  have L1 := yone_p hy
  refine ⟨rfl, fun pc vs μ' n => ∃ (v7 : Int) (v8 : Int), vs = [.inr (.inr (59, 59)), .inr (.inr (a1, 1001)), .inl a2, .inr (.inr (a4, 1001)), .inl a5, .inl a6, .inl v7, .inl v8] ∧ (a2 - 1 ≤ v8 ∧ v8 ≤ a2 + a3 - 1) ∧ tL μ μ' t A a6 as L (v8 + 1 - a2).toNat v7 ∧ n = (Int.toNat (v8 + 2147483650)), ?_, ?_, trivial⟩
  · refine Exists.intro (Int.toNat (((a2 + a3) - 1) + 2147483650)) ?_
    exact ⟨300, _, rfl, ⟨by omega, by omega⟩, by rw [show (a2 + a3 - 1 + 1 - a2).toNat = L.length by omega]; exact tL_0 ok0, rfl⟩
  · intro vs m0 n hI
    obtain ⟨v7, v8, rfl, hv8, H, rfl⟩ := hI
    have z0 : zl0 μ m0 := H.1.1
    have V7 : -1000 ≤ v7 ∧ v7 ≤ 300 := by
      obtain ⟨_, _, od, fs, _, _, et, _, _, c2⟩ := H
      have := od.1
      exact ⟨by omega, by omega⟩
    refine And.intro ⟨⟨by omega, by omega⟩, ⟨by omega, by omega⟩⟩ (And.intro (fun c1 => ?_) (fun c1 => ?_))
    · rw [show (v8 + 1 - a2).toNat = 0 by omega] at H
      obtain ⟨e7, e, cc⟩ := tL_e H hy
      refine ⟨zk_X8_at, zm_X8_at hg d (by omega), _, _, _, rfl, ⟨by omega, by omega⟩, ?_⟩
      intro x2 kx2 lx2 fx2 gx2
      have X2 : x2 = m0.1 65 299 := by rw [(fx2 ⟨by omega, by omega⟩).1, e7]
      exact And.intro trivial (And.intro ⟨by omega, by omega⟩ (hQ _ _ H.1 H.2.1 H.2.2.1 cc (by rw [X2]; exact e)))
    · have ek : (v8 + 1 - a2).toNat = (v8 - a2).toNat + 1 := by omega
      have hk : (v8 - a2).toNat < L.length := by omega
      rw [ek] at H
      obtain ⟨s1, s2, s3, s4⟩ := tL_a H hk hL hy
      have hmem : L.getD (v8 - a2).toNat 0 ∈ L := ytk_m (s := a2) (v := v8) (by omega) (by omega)
      have A0 := ok0.2.2.2.1 (L.getD (v8 - a2).toNat 0)
      refine ⟨zk_X8_at, zm_X8_at hg d (by omega), _, _, _, rfl, ⟨by omega, by omega⟩, ?_⟩
      refine And.intro (zIa_m ha1 z0) ?_
      intro n3 hn3 kn3 ln3
      intro x4 kx4 lx4 fx4 gx4
      have X4 : x4 = L.getD (v8 - a2).toNat 0 := by
        rw [(fx4 ⟨by omega, by rw [hn3, z0.2]; omega⟩).1, H.1.2.1 a1 (by omega)]
        exact yRow_v hrow (by omega) (by omega)
      refine ⟨yk_X8_isParameter, ym_X8_isParameter hg d (by omega), _, rfl, ⟨by omega, by omega⟩, ?_⟩
      intro x5 kx5 lx5 p5
      refine And.intro ⟨by omega, by omega⟩ (And.intro (fun c6 => ?_) (fun c6 => ?_))
      · have hh : ¬ (32 ≤ x4 ∧ x4 < 112) := by rcases p5 with w | w; (exfalso; have := w.1; omega); exact w.2
        have ok := H.2.1
        refine ⟨gk_X6_make, gm_X6_make hg d (by omega), x4, v7, t, A, rfl, ⟨by omega, by omega⟩, ⟨by omega, by rw [X4]; omega⟩, ⟨ok.2.1, ok.2.2.1, ok.2.2.2.1⟩, ok.2.2.2.2, ⟨by omega, by rw [X4]; omega⟩, by rw [X4]; exact s2, ?_⟩
        intro x7 m8 q8 w8 o8 c8 r8 h8 p8
        have kn := w8.1
        intro t11 et11 ht11
        have q11 : t11 = t := by have := ok.2.1; have := q8.2.2; omega
        rw [q11]
        refine And.intro ok.1 ⟨yk_X4_arity, ym_X4_arity hg d (by omega), _, _, rfl, ok.1, ⟨by omega, by omega⟩, ?_⟩
        intro x12 kx12 lx12 hx12
        have X12 : x12 = A x4 := by
          rw [hx12, ok.2.2.1, ← tA_f ok.1 q8.2.1]
          rfl
        refine ⟨yk_X8_set, ym_X8_set hg d (by omega), _, _, _, _, rfl, ⟨by omega, by omega⟩, ?_⟩
        rw [X4] at X12 hh c8 h8 p8
        refine And.intro ⟨by omega, by omega⟩ (And.intro ⟨by omega, by omega⟩ ?_)
        intro m13 qm13 em13
        refine Exists.intro (Int.toNat ((v8 + (-1)) + 2147483650)) (And.intro (by omega) ?_)
        refine ⟨_, _, rfl, ⟨by omega, by omega⟩, ?_, rfl⟩
        have e13 : m13 = zu m8 65 (v7 + A (L.getD (v8 - a2).toNat 0) - 1) x7 := by
          exact em13.trans (congrArg (fun q => zu m8 65 q x7) (by omega))
        have F := tL_n H hk hy hh q8 w8 o8 c8 r8 h8 p8 ⟨qm13, by rw [em13]; rfl⟩ e13
        rw [show (v8 + -1 + 1 - a2).toNat = (v8 - a2).toNat by omega, show v7 + x12 + -1 = v7 + A (L.getD (v8 - a2).toNat 0) - 1 by omega]
        exact F
      · have hh : 32 ≤ x4 ∧ x4 < 112 := by rcases p5 with w | w; exact w.2; (exfalso; have := w.1; omega)
        rw [X4] at hh
        obtain ⟨b0, b1, b2⟩ := hpar _ hmem hh.1 hh.2
        have b4 : (L.getD (v8 - a2).toNat 0) < 112 := hh.2
        refine ⟨zk_X8_at, zm_X8_at hg d (by omega), _, _, _, rfl, ⟨by omega, by omega⟩, ?_⟩
        refine And.intro (zIa_m ha4 z0) ?_
        intro n18 hn18 kn18 ln18
        intro x19 kx19 lx19 fx19 gx19
        have X19 : x19 = μ.1 a4 (a5 + (L.getD (v8 - a2).toNat 0 - 32 - a6)) := by
          rw [(fx19 ⟨by omega, by rw [hn18, z0.2]; omega⟩).1, H.1.2.1 a4 (by omega)]
          exact congrArg (μ.1 a4) (by omega)
        refine ⟨yk_X8_set, ym_X8_set hg d (by omega), _, _, _, _, rfl, ⟨by omega, by omega⟩, ?_⟩
        refine And.intro ⟨by omega, by omega⟩ (And.intro ⟨by omega, by omega⟩ ?_)
        intro m20 qm20 em20
        refine Exists.intro (Int.toNat ((v8 + (-1)) + 2147483650)) (And.intro (by omega) ?_)
        refine ⟨_, _, rfl, ⟨by omega, by omega⟩, ?_, rfl⟩
        have e20 : m20 = zu m0 65 (v7 - 1) x19 := by
          exact em20.trans (congrArg (fun q => zu m0 65 q x19) (by omega))
        have F := tL_p H hk hh b0 (by rw [X19]; exact tE_old H.2.2.1 ok0.2.2.2.2 b2) ⟨qm20, by rw [em20]; rfl⟩ e20
        rw [show (v8 + -1 + 1 - a2).toNat = (v8 - a2).toNat by omega, show v7 + -1 = v7 - 1 by omega]
        exact F
