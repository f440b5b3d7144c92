/-! ### ways: piles, by the sizes of what lies there -/
def zps (f g : Int → Int) : Nat → Int
  | 0 => 0
  | j + 1 => zps f g j + g (f ((j : Nat) : Int))
theorem zps_eq {f f' g : Int → Int} : ∀ {n : Nat}, (∀ j : Int, 0 ≤ j → j < (n : Int) → f' j = f j) → zps f' g n = zps f g n
  | 0, _ => rfl
  | n + 1, h => by
    unfold zps
    rw [zps_eq (n := n) (fun j a b => h j a (by omega)), h ((n : Nat) : Int) (by omega) (by omega)]
theorem zps_s {f g : Int → Int} {n : Int} (h : 0 ≤ n) : zps f g (n + 1).toNat = zps f g n.toNat + g (f n) := by
  rw [show (n + 1).toNat = n.toNat + 1 by omega]
  show zps f g n.toNat + g (f ((n.toNat : Nat) : Int)) = _
  rw [Int.toNat_of_nonneg h]
theorem zps_n {f g : Int → Int} : ∀ {n : Nat}, (∀ j : Int, 0 ≤ j → j < (n : Int) → 1 ≤ g (f j)) → (n : Int) ≤ zps f g n
  | 0, _ => by show (0 : Int) ≤ 0; omega
  | n + 1, h => by
    have h1 := zps_n (n := n) (fun j a b => h j a (by omega))
    have h2 := h ((n : Nat) : Int) (by omega) (by omega)
    show ((n + 1 : Nat) : Int) ≤ zps f g n + g (f ((n : Nat) : Int))
    omega
/-- all on the pile are nodes below T -/
def zPm (f : Int → Int) (T n : Int) : Prop := ∀ j : Int, 0 ≤ j → j < n → 0 ≤ f j ∧ f j < T
theorem zPm_n {μ : zM} {f : Int → Int} {T n : Int} (nd : ∀ x : Int, 0 ≤ x → x < T → zNd μ x) (h : zPm f T n) (h0 : 0 ≤ n) : n ≤ zps f (μ.1 71) n.toNat := by
  have := zps_n (f := f) (g := μ.1 71) (n := n.toNat) (fun j a b => zsz1 nd _ _ rfl (h j a (by omega)).1 (h j a (by omega)).2)
  omega
theorem zps_pop {f g : Int → Int} {n x : Int} (hn : 1 ≤ n) (hx : x = f (n + -1)) : zps f g n.toNat = zps f g (n + -1).toNat + g x := by
  have e := zps_s (f := f) (g := g) (n := n + -1) (by omega)
  rw [show n + -1 + 1 = n by omega, ← hx] at e
  exact e
theorem zps_push {f f' g : Int → Int} {n y : Int} (h0 : 0 ≤ n) (e1 : f' n = y) (e2 : ∀ j : Int, j ≠ n → f' j = f j) : zps f' g (n + 1).toNat = zps f g n.toNat + g y := by
  rw [zps_s h0, e1, zps_eq (f := f) (fun j a b => e2 j (by omega))]
theorem zPm_push {f f' : Int → Int} {T n y : Int} (h : zPm f T n) (hy : 0 ≤ y ∧ y < T) (e1 : f' n = y) (e2 : ∀ j : Int, j ≠ n → f' j = f j) : zPm f' T (n + 1) := fun j a b => by
  by_cases q : j = n
  · rw [q, e1]; exact hy
  · rw [e2 j q]; exact h j a (by omega)
theorem zPm_f {f f' : Int → Int} {T n : Int} (h : zPm f T n) (e : f' = f) : zPm f' T n := by rw [e]; exact h
theorem zps_1 {f g : Int → Int} {y : Int} (e : f 0 = y) : zps f g 1 = g y := by
  show (0 : Int) + g (f ((0 : Nat) : Int)) = _
  rw [show (((0 : Nat) : Int)) = 0 from rfl, e]
  omega
/-- sizes of the parts -/
theorem zsz_p {μ : zM} {T x : Int} (nd : ∀ x : Int, 0 ≤ x → x < T → zNd μ x) (hx : 0 ≤ x ∧ x < T) (hs : μ.1 71 x ≤ 99999) : zsm (fun i => μ.1 71 (μ.1 70 (4 * x + i))) (μ.1 69 x).toNat = μ.1 71 x := by
  have h5 := (nd x hx.1 hx.2).2.2.2.2
  have h6 := zcap_lt (x := zsm (fun i => μ.1 71 (μ.1 70 (4 * x + i))) (μ.1 69 x).toNat) (by omega)
  omega
