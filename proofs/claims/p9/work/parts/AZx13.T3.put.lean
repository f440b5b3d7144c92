/-! ### the class lays a row as a node -/
def tOk (μ : zM) (t : Nat) (A : Int → Int) : Prop := (t = 14 ∨ t = 32) ∧ (t : Int) = μ.1 59 ((6 : Nat) : Int) ∧ A = tA μ t ∧ (∀ h : Int, 0 ≤ A h ∧ A h ≤ 4) ∧ tW μ A
def zfP (μ μ' : zM) : Prop := zl0 μ μ' ∧ (∀ j : Nat, (j < 59 ∨ 66 ≤ j) → μ'.1 j = μ.1 j) ∧ μ'.1 59 ((6 : Nat) : Int) = μ.1 59 ((6 : Nat) : Int)
theorem zfP_r (μ : zM) : zfP μ μ := ⟨zl0_r μ, fun _ _ => rfl, rfl⟩
theorem zfP_t {a b c : zM} (h1 : zfP a b) (h2 : zfP b c) : zfP a c := ⟨zl0_t h1.1 h2.1, fun j hj => (h2.2.1 j hj).trans (h1.2.1 j hj), h2.2.2.trans h1.2.2⟩
theorem zfP_T {a b : zM} (h : zfT a b) : zfP a b := ⟨h.1, fun j hj => h.2.1 j (by omega), h.2.2⟩
theorem tA_P {μ m : zM} {t : Nat} (ht : t = 14 ∨ t = 32) (f : zfP μ m) : tA m t = tA μ t := by
  funext h
  unfold tA
  rw [f.2.1 t (by omega), f.2.1 (Nat.add t 3) (by simp only [Nat.add_eq]; omega)]
theorem tOk_P {μ m : zM} {t : Nat} {A : Int → Int} (h : tOk μ t A) (f : zfP μ m) (w : tW m A) : tOk m t A := ⟨h.1, h.2.1.trans f.2.2.symm, h.2.2.1.trans (tA_P h.1 f).symm, h.2.2.2.1, w⟩
def gk_X6_leaf : zC := fun As μ Q => ∃ (a1 : Int) (t : Nat) (A : Int → Int), As = [.inr (.inr (59, 59)), .inl a1] ∧ ((-2147483648) ≤ a1 ∧ a1 ≤ 2147483647) ∧ A a1 = 0 ∧ tOk μ t A ∧ tn μ ≤ 6999 ∧ (∀ (v : Int) (μ' : zM), zfP μ μ' → tOk μ' t A → tOd μ μ' → (tn μ' ≤ tn μ + 1 ∧ tp μ' ≤ tp μ) → tE μ' A v [a1] → Q (some (.inl v)) μ')
set_option maxHeartbeats 4000000 in
theorem gm_X6_leaf {g : zΓ} (hg : zg g) (d : Nat) (hd : 3 ≤ d) : zOk g d 85 gk_X6_leaf := by
  obtain ⟨d, rfl⟩ : ∃ d', d = d' + 1 := ⟨d - 1, by omega⟩
  refine zOk_straight hg (show mt_tab[85]? = some mt_X6_leaf from rfl) [] 10 rfl fun As μ Q hC => ?_
  obtain ⟨a1, t, A, rfl, ha1, h0, ok, hc, hQ⟩ := hC
  refine ⟨rfl, ?_⟩
  have W := ok.2.2.2.2
  have p0 := W.2.1
  refine ⟨gk_X6_make, gm_X6_make hg d (by omega), a1, 300, t, A, rfl, ha1, ⟨by omega, by omega⟩, ⟨ok.2.1, ok.2.2.1, ok.2.2.2.1⟩, W, ⟨hc, by omega⟩, (fun i a b => by exfalso; omega), ?_⟩
  intro x1 m2 q w o c r h p
  have n2 := w.1
  exact And.intro trivial (And.intro ⟨by omega, by omega⟩ (hQ _ _ (zfP_T q) (tOk_P ok (zfP_T q) w) o ⟨c.1, by omega⟩ (tE_mk (as := []) r h (by rw [h0]; rfl) (fun i hi => absurd hi (by simp)))))
/-- a row is being laid from its end: the stack has the nodes of a forest -/
def tF (m : zM) (A : Int → Int) (f : Int) (as : List (List Int)) (top : Int) (fs : List (List Int)) : Prop := ∀ j : Nat, j < fs.length → tE m A (m.1 65 (top + j)) (ysub f as (fs.getD j []))
