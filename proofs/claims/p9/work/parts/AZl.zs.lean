/-! ### a BOUND, a TYPE behind the colon: the machine's steps -/
theorem yL_k {B : yB} {k k' : Nat} {i j : Int} {l : List (List Int)} (h : k' ≠ k) : (yL B k i j l).2 k' = B.2 k' := by
  funext a b
  exact if_neg (fun q => h q.1)
def rB5 (B : yB) (x k : Int) : yB := yN (yN B 0 4 x) 0 5 k
theorem rB5_v (B : yB) (x k : Int) : ((rB5 B x k).1 0 0 = B.1 0 0 ∧ (rB5 B x k).1 0 1 = B.1 0 1 ∧ (rB5 B x k).1 0 2 = B.1 0 2 ∧ (rB5 B x k).1 0 3 = B.1 0 3) ∧ ((rB5 B x k).1 0 4 = x ∧ (rB5 B x k).1 0 5 = k ∧ (rB5 B x k).1 0 6 = B.1 0 6) ∧ (∀ j : Nat, j ≠ 0 → (rB5 B x k).1 j = B.1 j) ∧ (rB5 B x k).2 = B.2 := by
  unfold rB5
  refine ⟨⟨?_, ?_, ?_, ?_⟩, ⟨?_, yN_at, ?_⟩, fun j hj => ?_, rfl⟩
  · rw [yN_ne (by omega), yN_ne (by omega)]
  · rw [yN_ne (by omega), yN_ne (by omega)]
  · rw [yN_ne (by omega), yN_ne (by omega)]
  · rw [yN_ne (by omega), yN_ne (by omega)]
  · rw [yN_ne (by omega), yN_at]
  · rw [yN_ne (by omega), yN_ne (by omega)]
  · rw [yN_nk hj, yN_nk hj]
theorem rNu_5 {μ : zM} {B : yB} {x k : Int} (h : rNu μ B) : rNu μ (rB5 B x k) := by
  have v := rB5_v B x k
  unfold rNu rNg at h ⊢
  rw [v.1.1, v.1.2.1, v.1.2.2.1, v.2.2.1 1 (by decide), v.2.2.1 2 (by decide), v.2.2.1 3 (by decide), v.2.2.1 4 (by decide), v.2.2.1 5 (by decide), v.2.2.1 6 (by decide)]
  exact h
theorem yI0_5 {B : yB} {x k : Int} (h : yI0 B) : yI0 (rB5 B x k) := by
  have v := rB5_v B x k
  unfold yI0 at h ⊢
  rw [v.1.1, v.1.2.1, v.1.2.2.2, v.2.2.1 2 (by decide), v.2.2.1 3 (by decide)]
  exact h
theorem r5_3 {B : yB} {a x k y : Int} (ha : (a = 1 ∧ k ≤ y) ∨ (a = 0 ∧ y < k)) : a = (if (rB5 B x (if k ≤ y then 1 else 0)).1 0 5 = 0 then 0 else 1) := by
  rw [(rB5_v B x _).2.1.2.1]
  rcases ha with h | h
  · rw [show (if k ≤ y then (1 : Int) else 0) = 1 from if_pos h.2, if_neg (by decide)]; exact h.1
  · rw [show (if k ≤ y then (1 : Int) else 0) = 0 from if_neg (by omega), if_pos rfl]; exact h.1
def rq6 (B : yB) : Int := if 2 ≤ B.1 6 (B.1 0 6) then 1 else 0
def rq7 (B : yB) : Int := if 4 ≤ B.1 4 (B.1 0 3) then 1 else 0
theorem r5_6 {B : yB} {a : Int} (ha : (a = 1 ∧ 2 ≤ B.1 6 (B.1 0 6)) ∨ (a = 0 ∧ B.1 6 (B.1 0 6) < 2)) : a = (if (rB5 B 0 (rq6 B)).1 0 5 = 0 then 0 else 1) := r5_3 ha
theorem r5_7 {B : yB} {a : Int} (ha : (a = 1 ∧ 4 ≤ B.1 4 (B.1 0 3)) ∨ (a = 0 ∧ B.1 4 (B.1 0 3) < 4)) : a = (if (rB5 B 1 (rq7 B)).1 0 5 = 0 then 0 else 1) := r5_3 ha
theorem rNu_6 {μ : zM} {B : yB} {i x : Int} (h : rNu μ B) (hi : 4 ≤ i) : rNu μ (yN B 0 i x) := by
  unfold rNu rNg at h ⊢
  rw [yN_ne (by omega), yN_ne (by omega), yN_ne (by omega), yN_nk (by decide), yN_nk (by decide), yN_nk (by decide), yN_nk (by decide), yN_nk (by decide), yN_nk (by decide)]
  exact h
theorem ryfp {B : yB} {x : Int} (h : yI0 B) (h0 : 0 ≤ yfp B x) : yfp B x < B.1 0 1 := by
  have r := yfp_B h0
  have k := h.2 _ r.1 h.1.2.1.2
  omega
def rWb (B : yB) (n : Int) (l : List (List Int)) : yB := yBb (yN (rB5 B 0 (rq6 B)) 0 2 n) (B.1 0 6) l
def rWs (B : yB) (n : Int) (l : List (List Int)) : yB := yBs (yN (rB5 B 1 (rq7 B)) 0 2 n) (B.1 0 3) l
theorem rWb_v (B : yB) (n : Int) (l : List (List Int)) : (rWb B n l).1 0 3 = B.1 0 3 ∧ (rWb B n l).1 0 6 = B.1 0 6 ∧ (rWb B n l).2 1 = B.2 1 ∧ (rWb B n l).2 2 = B.2 2 ∧ (rWb B n l).1 0 1 = B.1 0 1 := by
  have v := rB5_v B 0 (rq6 B)
  have w := yBb_v (yN (rB5 B 0 (rq6 B)) 0 2 n) (B.1 0 6) l
  unfold rWb
  refine ⟨?_, ?_, ?_, ?_, ?_⟩
  · rw [w.1 0 (by decide), yN_ne (by omega), v.1.2.2.2]
  · rw [w.1 0 (by decide), yN_ne (by omega), v.2.1.2.2]
  · show (yL (yN (rB5 B 0 (rq6 B)) 0 2 n) 0 (B.1 0 6) ((yN (rB5 B 0 (rq6 B)) 0 2 n).1 6 (B.1 0 6)) l).2 1 = B.2 1; exact yL_k (by decide)
  · show (yL (yN (rB5 B 0 (rq6 B)) 0 2 n) 0 (B.1 0 6) ((yN (rB5 B 0 (rq6 B)) 0 2 n).1 6 (B.1 0 6)) l).2 2 = B.2 2; exact yL_k (by decide)
  · rw [w.1 0 (by decide), yN_ne (by omega), v.1.2.1]
theorem rWs_v (B : yB) (n : Int) (l : List (List Int)) : ((rWs B n l).1 0 3 = B.1 0 3 ∧ (rWs B n l).2 2 = B.2 2) ∧ (rWs B n l).1 4 (B.1 0 3) = B.1 4 (B.1 0 3) + 1 ∧ (rWs B n l).2 1 (B.1 0 3) (B.1 4 (B.1 0 3)) = l ∧ ∀ i : Int, i ≠ B.1 4 (B.1 0 3) → (rWs B n l).2 1 (B.1 0 3) i = B.2 1 (B.1 0 3) i := by
  have v := rB5_v B 1 (rq7 B)
  have w := yBs_v (yN (rB5 B 1 (rq7 B)) 0 2 n) (B.1 0 3) l
  have e4 : (yN (rB5 B 1 (rq7 B)) 0 2 n).1 4 = B.1 4 := by rw [yN_nk (by decide), v.2.2.1 4 (by decide)]
  unfold rWs
  refine ⟨⟨?_, ?_⟩, ?_, ?_, fun i hi => ?_⟩
  · rw [w.1 0 (by decide), yN_ne (by omega), v.1.2.2.2]
  · show (yL (yN (rB5 B 1 (rq7 B)) 0 2 n) 1 (B.1 0 3) ((yN (rB5 B 1 (rq7 B)) 0 2 n).1 4 (B.1 0 3)) l).2 2 = B.2 2; exact yL_k (by decide)
  · rw [w.2, if_pos rfl, e4]
  · show (if (1 : Nat) = 1 ∧ B.1 0 3 = B.1 0 3 ∧ B.1 4 (B.1 0 3) = (yN (rB5 B 1 (rq7 B)) 0 2 n).1 4 (B.1 0 3) then l else _) = _
    rw [if_pos ⟨rfl, rfl, by rw [e4]⟩]
  · show (if (1 : Nat) = 1 ∧ B.1 0 3 = B.1 0 3 ∧ i = (yN (rB5 B 1 (rq7 B)) 0 2 n).1 4 (B.1 0 3) then l else B.2 1 (B.1 0 3) i) = _
    rw [if_neg (fun h => hi (by rw [h.2.2, e4]))]
/-- a BOUND more -/
theorem rbo {τ : yT} {s : yS} {pq p n h : Int} {Bq : yB} {as : List (List Int)} (RQ : yR τ s (5, pq, 0, [], Bq)) (RT : yR τ (10, ynx τ pq, 0, [], rB5 Bq 0 (rq6 Bq)) (14, p, 0, [(0, h, as)], yN (rB5 Bq 0 (rq6 Bq)) 0 2 n)) :
    (ykd τ p = 38 → yR τ s (5, p, 0, [], rWb Bq n ([h] :: as))) ∧ (ykd τ p = 44 → yR τ s (4, p, 0, [], rWb Bq n ([h] :: as))) ∧ (ykd τ p ≠ 38 → ykd τ p ≠ 44 → yR τ s (6, p, 0, [], rWb Bq n ([h] :: as))) := by
  have v := rB5_v Bq 0 (rq6 Bq)
  have R1 : yR τ s (14, p, 0, [(0, h, as)], yN (rB5 Bq 0 (rq6 Bq)) 0 2 n) := yR_t (yR_s RQ rfl) RT
  have h14 := ym14_b (T := τ) (p := p) (f := (0, h, as)) (B := yN (rB5 Bq 0 (rq6 Bq)) 0 2 n) (by rw [yN_ne (by omega)]; exact v.2.1.1)
  have e6 : (yN (rB5 Bq 0 (rq6 Bq)) 0 2 n).1 0 6 = Bq.1 0 6 := by rw [yN_ne (by omega)]; exact v.2.1.2.2
  rw [e6] at h14
  refine ⟨fun k => ?_, fun k => ?_, fun k k' => ?_⟩
  · rw [if_pos k] at h14; exact yR_s R1 h14
  · rw [if_neg (by omega), if_pos k] at h14; exact yR_s R1 h14
  · rw [if_neg k, if_neg k'] at h14; exact yR_s R1 h14
/-- a TYPE behind the colon more -/
theorem rbs {τ : yT} {s : yS} {pq p n h : Int} {Bq : yB} {as : List (List Int)} (RQ : yR τ s (7, pq, 0, [], Bq)) (RT : yR τ (10, ynx τ pq, 0, [], rB5 Bq 1 (rq7 Bq)) (14, p, 0, [(0, h, as)], yN (rB5 Bq 1 (rq7 Bq)) 0 2 n)) :
    (ykd τ p = 44 → yR τ s (7, p, 0, [], rWs Bq n ([h] :: as))) ∧ (ykd τ p ≠ 44 → yR τ s (8, p, 0, [], rWs Bq n ([h] :: as))) := by
  have v := rB5_v Bq 1 (rq7 Bq)
  have R1 : yR τ s (14, p, 0, [(0, h, as)], yN (rB5 Bq 1 (rq7 Bq)) 0 2 n) := yR_t (yR_s RQ rfl) RT
  have h14 := ym14_s (T := τ) (p := p) (f := (0, h, as)) (B := yN (rB5 Bq 1 (rq7 Bq)) 0 2 n) (by rw [yN_ne (by omega)]; exact v.2.1.1)
  have e6 : (yN (rB5 Bq 1 (rq7 Bq)) 0 2 n).1 0 3 = Bq.1 0 3 := by rw [yN_ne (by omega)]; exact v.1.2.2.2
  rw [e6] at h14
  refine ⟨fun k => ?_, fun k => ?_⟩
  · rw [if_pos k] at h14; exact yR_s R1 h14
  · rw [if_neg k] at h14; exact yR_s R1 h14
/-- what stands behind the colon of a class, as nodes -/
def rSu (m : zM) (B : yB) (c lo : Int) : Prop := ∀ i : Int, 0 ≤ i → i < B.1 4 c → ∃ (h : Int) (as : List (List Int)), B.2 1 c i = [h] :: as ∧ (lo ≤ zXs m c i ∧ zXs m c i < zTop m) ∧ rE m (zXs m c i) (h :: as.flatten)
theorem rSu_old {μ m : zM} {B : yB} {c lo : Int} (h : rSu μ B c lo) (l0 : 0 ≤ lo) (ho : zOld μ m (zTop μ)) (nd : ∀ x : Int, 0 ≤ x → x < zTop μ → zNd μ x) (h78 : m.1 78 = μ.1 78) (ht : zTop μ ≤ zTop m) : rSu m B c lo := fun i i0 i1 => by
  obtain ⟨e, as, e1, e2, e3⟩ := h i i0 i1
  have hx : zXs m c i = zXs μ c i := by unfold zXs; rw [h78]
  rw [hx]
  exact ⟨e, as, e1, ⟨e2.1, by omega⟩, rE_old ho nd (by omega) e2.2 e3⟩
theorem rSu_c {μ m : zM} {B : yB} {c lo : Int} (h : rSu μ B c lo) (hc : ∀ j : Nat, 67 ≤ j → j ≤ 71 → m.1 j = μ.1 j) (h78 : m.1 78 = μ.1 78) (ht : zTop m = zTop μ) : rSu m B c lo := fun i i0 i1 => by
  obtain ⟨e, as, e1, e2, e3⟩ := h i i0 i1
  have hx : zXs m c i = zXs μ c i := by unfold zXs; rw [h78]
  rw [hx, ht]
  exact ⟨e, as, e1, e2, rE_c (fun j a b => hc j a (by omega)) e3⟩
theorem rSu_B {μ : zM} {B B' : yB} {c lo : Int} (h : rSu μ B c lo) (e4 : B'.1 4 c = B.1 4 c) (e1 : B'.2 1 = B.2 1) : rSu μ B' c lo := fun i i0 i1 => by
  rw [e1]
  exact h i i0 (by rw [e4] at i1; exact i1)
theorem rSu_w {μ m m1 : zM} {B : yB} {lo n x k h : Int} {as : List (List Int)} (S : rSu μ B (B.1 0 3) lo) (e1 : m1 = zu μ 78 k x) (hk : k = 4 * (21 + B.1 0 3) + B.1 4 (B.1 0 3)) (hm : ∀ j : Nat, j ≠ 79 → m.1 j = m1.1 j) (hx : lo ≤ x ∧ x < zTop μ) (hE : rE μ x (h :: as.flatten)) : rSu m (rWs B n ([h] :: as)) (B.1 0 3) lo := fun i i0 i1 => by
  have v := rWs_v B n ([h] :: as)
  rw [v.2.1] at i1
  have ht : zTop m = zTop μ := by unfold zTop; rw [hm 66 (by decide), e1, zu_ne (by decide)]
  have hc : ∀ j : Nat, 67 ≤ j → j ≤ 70 → m.1 j = μ.1 j := fun j a b => by rw [hm j (by omega), e1, zu_ne (by omega)]
  rw [ht]
  by_cases q : i = B.1 4 (B.1 0 3)
  · have hs : zXs m (B.1 0 3) i = x := by unfold zXs; rw [hm 78 (by decide), e1, q, ← hk, zu_at]
    rw [hs, q]
    exact ⟨h, as, v.2.2.1, hx, rE_c hc hE⟩
  · obtain ⟨e, bs, f1, f2, f3⟩ := S i i0 (by omega)
    have hs : zXs m (B.1 0 3) i = zXs μ (B.1 0 3) i := by unfold zXs; rw [hm 78 (by decide), e1, zu_nk (by omega)]
    rw [hs, v.2.2.2 i q]
    exact ⟨e, bs, f1, f2, rE_c hc f3⟩
