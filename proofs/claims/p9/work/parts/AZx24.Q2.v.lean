/-! ### the question keeps TYPES TYPES -/
theorem qLe_n {a b : qS} (h : qLe a b) : a.2.2.length ≤ b.2.2.length := by
  obtain ⟨-, -, N, e⟩ := h
  rw [e, List.length_append]; omega
theorem qZ_in {A : Int → Int} {P : Int → Prop} {l : qR} (q : qZ A P l) : ∃ (h : Int) (as : List qR), l = h :: as.flatten ∧ (as.length : Int) = A h ∧ P h ∧ (∀ a ∈ as, qZ A P a) ∧ ((h = 201 ∨ h = 202) → ∀ a ∈ as, ¬ ywl a = true) ∧ qPa A l = as ∧ l.headD 0 = h ∧ ∀ a ∈ as, yone A a := by
  obtain ⟨k, q⟩ := q
  cases k with
  | zero => exact q.elim
  | succ k =>
    obtain ⟨h, as, e1, e2, e3, e4, e5⟩ := q
    have o : ∀ a ∈ as, yone A a := fun a ha => qT_y k a (e4 a ha)
    exact ⟨h, as, e1, e2, e3, fun a ha => ⟨k, e4 a ha⟩, e5, by rw [e1]; exact qPa_e e2 o, by rw [e1]; rfl, o⟩
theorem yar_w1 {B : yB} (hC : B.1 0 0 ≤ 21) : yar B 201 = 1 ∧ yar B 202 = 1 := by
  unfold yar
  rw [if_neg (by omega), if_pos (by omega), if_neg (by omega), if_pos (by omega)]
  exact ⟨rfl, rfl⟩
/-- what is bound by a ? -/
theorem qZ_tl {B : yB} {P : Int → Prop} {a : qR} (hC : B.1 0 0 ≤ 21) (q : qZ (yar B) P a) (w : a.headD 0 = 201 ∨ a.headD 0 = 202) : qY (yar B) P a.tail := by
  obtain ⟨h, as, e1, e2, e3, e4, e5, -, e7, -⟩ := qZ_in q
  rw [e7] at w
  have y := yar_w1 hC
  have n1 : as.length = 1 := by rcases w with w | w <;> rw [w] at e2 <;> omega
  obtain ⟨b, rfl⟩ := List.length_eq_one_iff.mp n1
  rw [e1]
  simp only [List.flatten_cons, List.flatten_nil, List.append_nil, List.tail_cons]
  exact ⟨e4 b (by simp), e5 w b (by simp)⟩
theorem qPb_m {B : yB} {p : Int} {r : qR} (h : r ∈ qPb B p) : ∃ i : Int, 0 ≤ i ∧ i < B.1 6 p ∧ r = (B.2 0 p i).flatten := by
  unfold qPb at h
  obtain ⟨i, hi, rfl⟩ := List.mem_map.mp h
  have := List.mem_range.mp hi
  exact ⟨i, by omega, by omega, rfl⟩
/-- ARGS of class c in the place of its PARAMETERS -/
theorem qY_sub {B : yB} {o c : Int} {n : Nat} {cs : List qR} {r : qR} (hB : aB B) (hc : 0 ≤ c ∧ c < B.1 0 0) (hl : (cs.length : Int) = B.1 3 c) (hcs : ∀ a ∈ cs, qY (yar B) (qH B o n) a) (q : qY (yar B) (qH B c 0) r) : qY (yar B) (qH B o n) (ysub (B.1 2 c) cs r) := by
  obtain ⟨⟨k, q⟩, w⟩ := q
  have i1 := hB.1.1
  have i2 := hB.1.2 c hc.1 hc.2
  have eF : aFs B c = B.1 2 c := by unfold aFs; rw [if_neg (by omega)]
  have eN : aNs B c = B.1 3 c := by unfold aNs; rw [if_neg (by omega)]
  have u := qT_sub (A := yar B) (P := qH B c 0) (P' := qH B o n) (f := B.1 2 c) (cs := cs) (fun x hx a b => ?_) (fun x hx nx => ?_) k r q
  · exact ⟨u.1, u.2 w⟩
  · unfold qH at hx
    rw [eF, eN] at hx
    refine ⟨yar_n (by omega) (by omega) (by omega) (by omega), hcs _ ?_⟩
    rw [List.getD_eq_getElem?_getD, List.getElem?_eq_getElem (by omega)]
    exact List.getElem_mem _
  · unfold qH at hx ⊢
    rw [eF, eN] at hx
    omega
theorem qY_0 {B : yB} {o : Int} {n : Nat} (hB : aB B) : qY (yar B) (qH B o n) [0] := by
  have i1 := hB.1.1
  refine ⟨qZ_mk (h := 0) (as := []) ?_ (Or.inl ⟨by omega, by omega⟩) (fun a ha => by cases ha) (fun _ a ha => by cases ha), by rw [ywl_i]; decide⟩
  have := yar_z hB.1 hB.2.2.2.2.1
  rw [this]; rfl
theorem qCb_v {B : yB} {o c : Int} {n : Nat} {cs : List qR} (hB : aB B) (hW : aW B) (hc : 0 ≤ c ∧ c < B.1 0 0) (hl : (cs.length : Int) = B.1 3 c) (hcs : ∀ a ∈ cs, qY (yar B) (qH B o n) a) : ∀ (as : List qR) (i g g' : Int) (N : List (List qR × qR)), 0 ≤ i → i + as.length ≤ B.1 3 c → (∀ a ∈ as, qZ (yar B) (qH B o n) a) → qCb B c cs as i g = some (g', N) → ∀ x ∈ N, (∀ b ∈ x.1, qY (yar B) (qH B o n) b) ∧ (x.2 = [] ∨ qY (yar B) (qH B o n) x.2)
  | [], i, g, g', N, _, _, _, h => by
    simp only [qCb, Option.some.injEq, Prod.mk.injEq] at h
    obtain ⟨-, rfl⟩ := h
    intro x hx; cases hx
  | a :: as, i, g, g', N, i0, i1, ha, h => by
    have i21 := hB.1.1.1
    have i1' : i + 1 + (as.length : Int) ≤ B.1 3 c := by rw [List.length_cons] at i1; omega
    unfold qCb at h
    split at h
    · rename_i q
      split at h
      · cases h
      · rename_i g1 bs e1
        split at h
        · cases h
        · rename_i g2 N2 e2
          cases h
          intro x hx
          rcases List.mem_cons.mp hx with rfl | hx
          · have za := ha a List.mem_cons_self
            refine ⟨fun b hb => ?_, ?_⟩
            · have key : ∀ b ∈ qUp a ++ bs, qY (yar B) (qH B o n) b := fun b hb => by
                rcases List.mem_append.mp hb with hb | hb
                · unfold qUp at hb
                  split at hb
                  · rename_i z
                    have e : b = a.tail := by simpa using hb
                    rw [e]
                    exact qZ_tl (by omega) za (Or.inl z)
                  · cases hb
                · have u := (qBd_g _ _ _ _ e1).2.2
                  rw [u] at hb
                  obtain ⟨r, hr, rfl⟩ := List.mem_map.mp hb
                  obtain ⟨j, j0, j1, rfl⟩ := qPb_m hr
                  exact qY_sub hB hc hl hcs (hW.1 c (B.1 2 c + i) j hc.1 hc.2 (by omega) (by omega) j0 j1)
              unfold qNb at hb
              dsimp only at hb
              split at hb
              · have e : b = [0] := by simpa using hb
                rw [e]
                exact qY_0 hB
              · exact key b hb
            · show qDn a = [] ∨ qY (yar B) (qH B o n) (qDn a)
              unfold qDn
              split
              · rename_i z; exact Or.inr (qZ_tl (by omega) za (Or.inr z))
              · exact Or.inl rfl
          · exact qCb_v hB hW hc hl hcs as (i + 1) g1 _ _ (by omega) i1' (fun a h => ha a (List.mem_cons_of_mem _ h)) e2 x hx
    · exact qCb_v hB hW hc hl hcs as (i + 1) g _ _ (by omega) i1' (fun a h => ha a (List.mem_cons_of_mem _ h)) h
theorem qGd_v {B : yB} {o : Int} {n : Nat} {N : List (List qR × qR)} (h : ∀ x ∈ N, (∀ b ∈ x.1, qY (yar B) (qH B o n) b) ∧ (x.2 = [] ∨ qY (yar B) (qH B o n) x.2)) : ∀ k : Nat, k < N.length → (∀ b ∈ (N.getD k ([], [])).1, qY (yar B) (qH B o n) b) ∧ ((N.getD k ([], [])).2 = [] ∨ qY (yar B) (qH B o n) (N.getD k ([], [])).2) := fun k hk => by
  rw [List.getD_eq_getElem?_getD, List.getElem?_eq_getElem hk]
  exact h _ (List.getElem_mem hk)
theorem qCp_v {B : yB} {o c : Int} {S S1 : qS} {as cs : List qR} (hB : aB B) (hW : aW B) (hV : qVs B o S) (hc : 0 ≤ c ∧ c < B.1 0 0) (hl : (as.length : Int) = B.1 3 c) (ha : ∀ a ∈ as, qZ (yar B) (qH B o S.2.2.length) a) (e : qCp B S c as = some (S1, cs)) : qLe S S1 ∧ S1.1 = S.1 ∧ qVs B o S1 ∧ cs = ycap (S.2.2.length : Int) as ∧ (cs.length : Int) = B.1 3 c ∧ (∀ q ∈ cs, qY (yar B) (qH B o S1.2.2.length) q) := by
  unfold qCp at e
  split at e
  · cases e
  · rename_i le
    split at e
    · cases e
    · rename_i g N e1
      cases e
      have g1 := qCb_g _ _ _ _ _ e1
      have n1 : (S.2.2 ++ N).length = S.2.2.length + as.countP ywl := by rw [List.length_append, g1.2.2]
      have yc := ycap_l (S.2.2.length : Int) as
      have hcs : ∀ q ∈ ycap (S.2.2.length : Int) as, qY (yar B) (qH B o (S.2.2 ++ N).length) q := fun q hq => by
        obtain ⟨i, hi, rfl⟩ := List.getElem_of_mem hq
        have hi' : i < as.length := by omega
        have eg : (ycap (S.2.2.length : Int) as)[i] = (ycap (S.2.2.length : Int) as).getD i [] := by rw [List.getD_eq_getElem?_getD, List.getElem?_eq_getElem hi]; rfl
        rw [eg, ycap_g hi']
        split
        · rename_i w
          have a := ycn_m (c := (S.2.2.length : Int)) (as := as) (i := i + 1) (j := as.length) (by omega) (Nat.le_refl _)
          rw [ycn_s hi', if_pos w, ycn_e] at a
          have b := ycn_b (S.2.2.length : Int) as i
          have i21 := hB.1.1.1
          refine ⟨qZ_mk (h := 300 + ycn (S.2.2.length : Int) as i) (as := []) ?_ (Or.inr (Or.inr (Or.inr ⟨by omega, by omega⟩))) (fun a ha => by cases ha) (fun _ a ha => by cases ha), ?_⟩
          · rw [yar_n (by omega) (by omega) (by omega) (by omega)]; rfl
          · rw [ywl_i]
            show ¬ (200 ≤ 300 + ycn (S.2.2.length : Int) as i ∧ 300 + ycn (S.2.2.length : Int) as i ≤ 202)
            omega
        · rename_i w
          have m : as.getD i [] ∈ as := by
            rw [List.getD_eq_getElem?_getD, List.getElem?_eq_getElem hi']
            exact List.getElem_mem hi'
          exact ⟨qZ_m (qH_m (by omega)) (ha _ m), w⟩
      refine ⟨⟨Int.le_refl _, g1.1, N, rfl⟩, rfl, ?_, rfl, by omega, hcs⟩
      have vN := qCb_v (n := (S.2.2 ++ N).length) hB hW hc (by omega) hcs as 0 _ _ _ (by omega) (by omega) (fun a h => qZ_m (qH_m (by omega)) (ha a h)) e1
      refine qGd_v (fun x hx => ?_)
      rcases List.mem_append.mp hx with hx | hx
      · obtain ⟨k, hk, rfl⟩ := List.getElem_of_mem hx
        have v := hV k hk
        rw [List.getD_eq_getElem?_getD, List.getElem?_eq_getElem hk] at v
        have nn : S.2.2.length ≤ ((S.1, g, S.2.2 ++ N) : qS).2.2.length := by show S.2.2.length ≤ (S.2.2 ++ N).length; omega
        exact ⟨fun b hb => qY_m (qH_m nn) (v.1 b hb), v.2.imp id (qY_m (qH_m nn))⟩
      · exact vN x hx
theorem qRs_v {B : yB} {o c d : Int} {S S2 : qS} {cs qs : List qR} (hB : aB B) (hW : aW B) (hV : qVs B o S) (hc : 0 ≤ c ∧ c < B.1 0 0) (hd : 0 ≤ d ∧ d < B.1 0 0) (hne : B.2 2 c d ≠ []) (hl : (cs.length : Int) = B.1 3 c) (hcs : ∀ a ∈ cs, qY (yar B) (qH B o S.2.2.length) a) (e : qRs B S c d cs = some (S2, qs)) : qLe S S2 ∧ S2.1 = S.1 ∧ S2.2.2 = S.2.2 ∧ qVs B o S2 ∧ (qs.length : Int) = yar B d ∧ ∀ q ∈ qs, qY (yar B) (qH B o S2.2.2.length) q := by
  unfold qRs at e
  split at e
  · rename_i z
    cases e
    refine ⟨qLe_r S, rfl, rfl, hV, ?_, hcs⟩
    rw [hl, ← z]
    unfold yar
    rw [if_pos hc]
  · split at e
    · cases e
    · rename_i z le
      cases e
      have i21 := hB.1.1.1
      obtain ⟨as, e1, e2, e3, e4⟩ := hW.2.1 c d hc.1 hc.2 hd.1 (by omega) hne
      have nd : ¬ (32 ≤ d ∧ d < 112) := by omega
      have ya : ∀ a ∈ as.map (ysub (B.1 2 c) cs), qY (yar B) (qH B o S.2.2.length) a := fun a ha => by
        obtain ⟨b, hb, rfl⟩ := List.mem_map.mp ha
        exact qY_sub hB hc hl hcs (e4 b hb)
      have ep : qPa (yar B) (ysub (B.1 2 c) cs (B.2 2 c d).flatten) = as.map (ysub (B.1 2 c) cs) := by
        rw [e1, ysub_c, if_neg nd, ysub_f]
        exact qPa_e (by rw [List.length_map]; exact e3) (fun a ha => qZ_y (ya a ha).1)
      rw [ep]
      refine ⟨⟨Int.le_refl _, by show S.2.1 ≤ S.2.1 + _; omega, [], by simp⟩, rfl, rfl, hV, by rw [List.length_map]; exact e3, ya⟩
def qOk (B : yB) (o : Int) (f : qF) : Prop := ∀ (S : qS) (s t : qR), qVs B o S → qY (yar B) (qH B o S.2.2.length) s → qY (yar B) (qH B o S.2.2.length) t → qLe S (f S s t).1 ∧ qVs B o (f S s t).1
theorem qArg_v {B : yB} {o : Int} {f : qF} (hf : qOk B o f) (hC : B.1 0 0 ≤ 21) {S : qS} {q b : qR} (hV : qVs B o S) (hq : qY (yar B) (qH B o S.2.2.length) q) (hb : qZ (yar B) (qH B o S.2.2.length) b) : qLe S (qArg f S q b).1 ∧ qVs B o (qArg f S q b).1 := by
  unfold qArg
  split
  · exact ⟨qLe_r S, hV⟩
  · split
    · rename_i z; exact hf S q b.tail hV hq (qZ_tl hC hb (Or.inl z))
    · split
      · rename_i z; exact hf S b.tail q hV (qZ_tl hC hb (Or.inr z)) hq
      · exact ⟨qLe_r S, hV⟩
theorem qAs_v {B : yB} {o : Int} {f : qF} (hf : qOk B o f) (hC : B.1 0 0 ≤ 21) : ∀ (qs bs : List qR) (S : qS), qVs B o S → (∀ q ∈ qs, qY (yar B) (qH B o S.2.2.length) q) → (∀ b ∈ bs, qZ (yar B) (qH B o S.2.2.length) b) → qLe S (qAs f qs bs S).1 ∧ qVs B o (qAs f qs bs S).1
  | [], _, S, hV, _, _ => by unfold qAs; exact ⟨qLe_r S, hV⟩
  | _ :: _, [], S, hV, _, _ => by unfold qAs; exact ⟨qLe_r S, hV⟩
  | q :: qs, b :: bs, S, hV, h1, h2 => by
    have u := qArg_v hf hC hV (h1 q List.mem_cons_self) (h2 b List.mem_cons_self)
    have n := qLe_n u.1
    unfold qAs
    split
    · have v := qAs_v hf hC qs bs (qArg f S q b).1 u.2 (fun a ha => qY_m (qH_m n) (h1 a (List.mem_cons_of_mem _ ha))) (fun a ha => qZ_m (qH_m n) (h2 a (List.mem_cons_of_mem _ ha)))
      exact ⟨qLe_t u.1 v.1, v.2⟩
    · exact u
theorem qBs_v {B : yB} {o : Int} {f : qF} (hf : qOk B o f) {t : qR} : ∀ (bs : List qR) (S : qS), qVs B o S → qY (yar B) (qH B o S.2.2.length) t → (∀ b ∈ bs, qY (yar B) (qH B o S.2.2.length) b) → qLe S (qBs f t bs S).1 ∧ qVs B o (qBs f t bs S).1
  | [], S, hV, _, _ => by unfold qBs; exact ⟨qLe_r S, hV⟩
  | b :: bs, S, hV, ht, h1 => by
    have u := hf S b t hV (h1 b List.mem_cons_self) ht
    have n := qLe_n u.1
    unfold qBs
    split
    · have v := qBs_v hf bs (f S b t).1 u.2 (qY_m (qH_m n) ht) (fun a ha => qY_m (qH_m n) (h1 a (List.mem_cons_of_mem _ ha)))
      exact ⟨qLe_t u.1 v.1, v.2⟩
    · exact u
/-- the head of a TYPE -/
theorem qY_h {B : yB} {o : Int} {n : Nat} {l : qR} (h : qY (yar B) (qH B o n) l) : (0 ≤ l.headD 0 ∧ l.headD 0 < B.1 0 0) ∨ (32 + aFs B o ≤ l.headD 0 ∧ l.headD 0 < 32 + aFs B o + aNs B o) ∨ (300 ≤ l.headD 0 ∧ l.headD 0 < 300 + (n : Int)) := by
  obtain ⟨x, as, e1, e2, e3, -, -, -, e7, -⟩ := qZ_in h.1
  have w := h.2
  rw [ywl_i, e7] at w
  rw [e7]
  unfold qH at e3
  omega
theorem aFs_b {B : yB} {o : Int} (hB : aB B) (ho : -1 ≤ o ∧ o < B.1 0 0) : 0 ≤ aFs B o ∧ 0 ≤ aNs B o ∧ aFs B o + aNs B o ≤ 80 := by
  have i1 := hB.1.1
  unfold aFs aNs
  by_cases q : o < 0
  · rw [if_pos q, if_pos q]; omega
  · rw [if_neg q, if_neg q]; have := hB.1.2 o (by omega) ho.2; omega
/-- the BOUNDS of a variable are TYPES -/
theorem qBo_v {B : yB} {o : Int} {S : qS} {s : qR} (hB : aB B) (hW : aW B) (ho : -1 ≤ o ∧ o < B.1 0 0) (hV : qVs B o S) (hs : qY (yar B) (qH B o S.2.2.length) s) (nc : ¬ s.headD 0 < 21) : ∀ b ∈ qBo B S s, qY (yar B) (qH B o S.2.2.length) b := fun b hb => by
  have hh := qY_h hs
  have i1 := hB.1.1
  have fb := aFs_b hB ho
  unfold qBo at hb
  split at hb
  · rename_i z
    exact (hV _ (by omega)).1 b hb
  · rename_i z
    split at hb
    · have e : b = [0] := by simpa using hb
      rw [e]
      exact qY_0 hB
    · obtain ⟨j, j0, j1, rfl⟩ := qPb_m hb
      have o0 : ¬ o < 0 := fun q => by
        have e1 : aNs B o = 0 := by unfold aNs; rw [if_pos q]
        omega
      have eF : aFs B o = B.1 2 o := by unfold aFs; rw [if_neg o0]
      have eN : aNs B o = B.1 3 o := by unfold aNs; rw [if_neg o0]
      exact qY_m (qH_m (by omega)) (hW.1 o (s.headD 0 - 32) j (by omega) ho.2 (by omega) (by omega) j0 j1)
theorem qRe_v {B : yB} {o : Int} {f : qF} (hf : qOk B o f) (hB : aB B) (hW : aW B) (ho : -1 ≤ o ∧ o < B.1 0 0) {S : qS} {s t : qR} (hV : qVs B o S) (hs : qY (yar B) (qH B o S.2.2.length) s) (ht : qY (yar B) (qH B o S.2.2.length) t) : qLe S (qRe B f S s t).1 ∧ qVs B o (qRe B f S s t).1 := by
  have i1 := hB.1.1
  have fb := aFs_b hB ho
  unfold qRe
  split
  · rename_i z
    exact qBs_v hf _ S hV ht (qBo_v hB hW ho hV hs z)
  · split
    · rename_i z1 z2
      have h1 := qY_h hs
      have h2 := qY_h ht
      obtain ⟨c, as, e1, e2, e3, e4, e5, e6, e7, -⟩ := qZ_in hs.1
      obtain ⟨d, bs, f1, f2, f3, f4, f5, f6, f7, -⟩ := qZ_in ht.1
      rw [e7] at h1
      rw [f7] at h2
      rw [e7] at z1
      rw [f7] at z2
      have hc : 0 ≤ c ∧ c < B.1 0 0 := by omega
      have hd : 0 ≤ d ∧ d < B.1 0 0 := by omega
      have ya : yar B c = B.1 3 c := by unfold yar; rw [if_pos hc]
      unfold qCl
      rw [e6, f6, e7, f7]
      split
      · exact ⟨qLe_r S, hV⟩
      · rename_i S1 cs ec
        have u := qCp_v hB hW hV hc (by omega) e4 ec
        split
        · exact ⟨u.1, u.2.2.1⟩
        · rename_i ne
          split
          · exact ⟨u.1, u.2.2.1⟩
          · rename_i S2 qs er
            have v := qRs_v hB hW u.2.2.1 hc hd ne u.2.2.2.2.1 u.2.2.2.2.2 er
            have n := qLe_n (qLe_t u.1 v.1)
            have w := qAs_v hf (by omega) qs bs S2 v.2.2.2.1 v.2.2.2.2.2 (fun b hb => qZ_m (qH_m n) (f4 b hb))
            exact ⟨qLe_t (qLe_t u.1 v.1) w.1, w.2⟩
    · exact ⟨qLe_r S, hV⟩
theorem qFl_v {B : yB} {o : Int} {S : qS} {t : qR} (hB : aB B) (ho : -1 ≤ o ∧ o < B.1 0 0) (hV : qVs B o S) (ht : qY (yar B) (qH B o S.2.2.length) t) (ne : qFl S t ≠ []) : qY (yar B) (qH B o S.2.2.length) (qFl S t) := by
  have h := qY_h ht
  have fb := aFs_b hB ho
  have i1 := hB.1.1
  unfold qFl at ne ⊢
  split
  · rename_i z
    rw [if_pos z] at ne
    exact ((hV _ (by omega)).2).resolve_left ne
  · rename_i z; rw [if_neg z] at ne; exact absurd rfl ne
theorem qB_v {B : yB} {o u : Int} (hB : aB B) (hW : aW B) (ho : -1 ≤ o ∧ o < B.1 0 0) : ∀ n : Nat, qOk B o (qB B u n)
  | 0 => fun S s t hV _ _ => by
    unfold qB
    split <;> exact ⟨qLe_r S, hV⟩
  | n + 1 => fun S s t hV hs ht => by
    have up : qLe S (S.1 + 1, S.2) := ⟨by show S.1 ≤ S.1 + 1; omega, Int.le_refl _, [], by simp⟩
    have hV' : qVs B o (S.1 + 1, S.2) := hV
    have ih := qB_v (u := u) hB hW ho n
    unfold qB
    split
    · exact ⟨qLe_r S, hV⟩
    · split
      · exact ⟨up, hV'⟩
      · split
        · have r := qRe_v ih hB hW ho (S := (S.1 + 1, S.2)) hV' hs ht
          exact ⟨qLe_t up r.1, r.2⟩
        · rename_i ne
          have fl := qFl_v hB ho hV ht ne
          have r := ih (S.1 + 1, S.2) s (qFl S t) hV' hs fl
          have nn := qLe_n r.1
          split
          · have r2 := qRe_v ih hB hW ho (S := (qB B u n (S.1 + 1, S.2) s (qFl S t)).1) r.2 (qY_m (qH_m nn) hs) (qY_m (qH_m nn) ht)
            exact ⟨qLe_t up (qLe_t r.1 r2.1), r2.2⟩
          · exact ⟨qLe_t up r.1, r.2⟩
