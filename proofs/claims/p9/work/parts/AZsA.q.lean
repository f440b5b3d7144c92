/-! ### the reference: how a question, a place is read -/
theorem rKd_i {g k : Int} (h : rKd g k) : g = 258 ↔ k = 3 := by unfold rKd at h; omega
theorem rKd_o {g k : Int} (h : rKd g k) : g = 260 ↔ k = 5 := by unfold rKd at h; omega
theorem rLx_66 {μ m : zM} {T : yT} {p : Int} {k x : Int} (h : rLx μ T p) (e : m = zu μ 66 k x) (hk : k < 30 ∨ 34 < k) : rLx m T p := rLx_f h (by rw [e, zu_ne (by decide)]) (fun i a b => by rw [e, zu_nk (by omega)])
theorem rNg_66 {μ m : zM} {B : yB} {cb pb : Int} {k x : Int} (h : rNg cb pb μ B) (e : m = zu μ 66 k x) (hk : 38 < k) : rNg cb pb m B := rNu_f h (fun i hi => by rw [e, zu_ne (by omega)]) (fun i hi => by rw [e, zu_nk (by omega)])
theorem rfq_f {T : yT} {μ μ' : zM} {p c : Int} (h : rLx μ T p) (h0 : μ.1 66 ((35 : Nat) : Int) = 0) (e : μ.1 66 ((35 : Nat) : Int) = 0 → μ'.1 66 ((35 : Nat) : Int) = (if μ.1 66 ((32 : Nat) : Int) = 261 then 1 else c) ∧ μ'.1 66 ((36 : Nat) : Int) = μ.1 66 ((33 : Nat) : Int)) : μ'.1 66 ((35 : Nat) : Int) = (yfq T p c).1 ∧ μ'.1 66 ((36 : Nat) : Int) = (yfq T p c).2 := by
  have e := e h0
  have k := rLx_k h
  refine ⟨?_, by rw [e.2]; exact h.2.2.2.1⟩
  rw [e.1]
  unfold yfq
  dsimp only
  by_cases q : ykd T p = 1
  · rw [if_pos (by omega), if_pos q]
  · rw [if_neg (by omega), if_neg q]
theorem yfc_2 {B : yB} {n x : Int} : yfc (yN B 0 2 n) x = yfc B x := yfc_c (yN_ne (by decide)) (yN_nk (by decide))
theorem rNg_q {μ : zM} {B : yB} {cb pb n o r : Int} (h : rNg cb pb μ (yN B 0 2 n)) : rNg cb pb μ (yQB B n o r) := by
  have v := yQB_v B n o r
  unfold rNg at h ⊢
  rw [v.2.2.1, v.2.2.2.2.1, v.2.2.2.2.2.1, v.2.2.2.2.2.2.1 1 (by decide), v.2.2.2.2.2.2.1 2 (by decide), v.2.2.2.2.2.2.1 3 (by decide), v.2.2.2.2.2.2.1 4 (by decide), v.2.2.2.2.2.2.1 5 (by decide), v.2.2.2.2.2.2.1 6 (by decide)]
  rw [yN_at, yN_ne (by decide), yN_ne (by decide), yN_nk (by decide), yN_nk (by decide), yN_nk (by decide), yN_nk (by decide), yN_nk (by decide), yN_nk (by decide)] at h
  exact h
theorem rNg_Q {μ : zM} {B : yB} {cb pb n o r m : Int} (h : rNg cb pb μ (yN (yQB B n o r) 0 2 m)) : rNg cb pb μ (yN B 0 2 m) := by
  have v := yQB_v B n o r
  unfold rNg at h ⊢
  rw [yN_at, yN_ne (by decide), yN_ne (by decide), yN_nk (by decide), yN_nk (by decide), yN_nk (by decide), yN_nk (by decide), yN_nk (by decide), yN_nk (by decide), v.2.2.2.2.1, v.2.2.2.2.2.1, v.2.2.2.2.2.2.1 1 (by decide), v.2.2.2.2.2.2.1 2 (by decide), v.2.2.2.2.2.2.1 3 (by decide), v.2.2.2.2.2.2.1 4 (by decide), v.2.2.2.2.2.2.1 5 (by decide), v.2.2.2.2.2.2.1 6 (by decide)] at h
  rw [yN_at, yN_ne (by decide), yN_ne (by decide), yN_nk (by decide), yN_nk (by decide), yN_nk (by decide), yN_nk (by decide), yN_nk (by decide), yN_nk (by decide)]
  exact h
theorem yI0_q {B : yB} {n o r : Int} (h : yI0 B) (ho : -1 ≤ o ∧ o < B.1 0 0) : yI0 (yQB B n o r) := by
  have v := yQB_v B n o r
  unfold yI0 at h ⊢
  rw [v.2.2.2.1, v.2.2.2.2.1, v.2.2.2.2.2.1, v.2.2.2.2.2.2.1 2 (by decide), v.2.2.2.2.2.2.1 3 (by decide)]
  exact ⟨⟨h.1.1, ho, h.1.2.2⟩, h.2⟩
theorem rNg_0 {μ m : zM} {B : yB} (h : rTq μ B) (h24 : m.1 66 ((24 : Nat) : Int) = 0) (h25 : m.1 66 ((25 : Nat) : Int) = 0) (h26 : m.1 66 ((26 : Nat) : Int) = μ.1 66 ((20 : Nat) : Int)) (h27 : m.1 66 ((27 : Nat) : Int) = μ.1 66 ((21 : Nat) : Int)) (h38 : m.1 66 ((38 : Nat) : Int) = 0) (h35 : m.1 66 ((35 : Nat) : Int) = 0) (hj : ∀ j : Nat, j ≠ 66 → m.1 j = μ.1 j) : rNg 0 0 m (yN B 0 2 0) := by
  refine ⟨⟨h24, h25, ?_, ?_, by rw [yN_at]; exact h38, h35⟩, fun k a b => ?_, fun p a b => ⟨?_, fun w => absurd w (by decide)⟩⟩
  · rw [h26, yN_ne (by decide)]; exact h.1.1
  · rw [h27, yN_ne (by decide)]; exact h.1.2
  · rw [yN_ne (by decide)] at b
    rw [Int.zero_add, hj 3000075 (by decide), hj 76 (by decide), hj 77 (by decide), hj 79 (by decide), yN_nk (by decide), yN_nk (by decide), yN_nk (by decide), yN_nk (by decide)]
    exact h.2.1 k a b
  · rw [yN_ne (by decide)] at b
    rw [Int.zero_add, hj 3000081 (by decide), yN_nk (by decide)]
    exact h.2.2 p a b
theorem rTq_f {μ m : zM} {B : yB} (h : rTq μ B) (h20 : m.1 66 ((20 : Nat) : Int) = μ.1 66 ((20 : Nat) : Int)) (h21 : m.1 66 ((21 : Nat) : Int) = μ.1 66 ((21 : Nat) : Int)) (hj : ∀ j : Nat, j ≠ 66 → m.1 j = μ.1 j) : rTq m B := by
  unfold rTq
  rw [h20, h21, hj 3000075 (by decide), hj 76 (by decide), hj 77 (by decide), hj 79 (by decide), hj 3000081 (by decide)]
  exact h
