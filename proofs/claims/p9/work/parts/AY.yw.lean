/-! ### what holds of the machine's states -/
def yopn (c : Nat) : Prop := (1 ≤ c ∧ c ≤ 8) ∨ (10 ≤ c ∧ c ≤ 14)
def yI0 (B : yB) : Prop := ((1 ≤ B.1 0 0 ∧ B.1 0 0 ≤ 21) ∧ (-1 ≤ B.1 0 3 ∧ B.1 0 3 < B.1 0 0) ∧ (0 ≤ B.1 0 1 ∧ B.1 0 1 ≤ 4 * (B.1 0 0 - 1))) ∧ ∀ k : Int, 0 ≤ k → k < B.1 0 0 → 0 ≤ B.1 2 k ∧ 0 ≤ B.1 3 k ∧ B.1 3 k ≤ 4 ∧ B.1 2 k + B.1 3 k ≤ B.1 0 1
/-- heads that are PARAMETERS are k's own -/
def yG (B : yB) (k : Int) (l : List Int) : Prop := ∀ h ∈ l, 32 ≤ h → h < 112 → B.1 2 k ≤ h - 32 ∧ h - 32 < B.1 2 k + B.1 3 k
def yI2 (B : yB) : Prop := ∀ k d : Int, B.2 2 k d = [] ∨ ∃ l, B.2 2 k d = [l] ∧ l ≠ [] ∧ l.length ≤ 200 ∧ yG B k l
def yI3 (c : Nat) (B : yB) : Prop := ∀ e : Int, 0 ≤ e → e < B.1 0 0 → ¬ (yopn c ∧ e = B.1 0 3) → B.2 2 e 0 = [[0]]
def yI4 (c : Nat) (B : yB) : Prop := ∀ k d : Int, (B.1 0 0 ≤ k ∨ (yopn c ∧ k = B.1 0 3)) → B.2 2 k d = []
def yGa (B : yB) (as : List (List Int)) : Prop := ∀ a ∈ as, yone (yar B) a ∧ yG B (B.1 0 3) a
def yGs (B : yB) (s : List (List Int)) : Prop := ∃ (e : Int) (as : List (List Int)), s = [e] :: as ∧ (0 ≤ e ∧ e < B.1 0 0 ∧ e ≠ B.1 0 3) ∧ (as.length : Int) = B.1 3 e ∧ yGa B as
def yI1 (c : Nat) (B : yB) : Prop := yopn c ∨ c = 15 → (yCu B ∧ (c ≤ 2 → B.1 4 (B.1 0 3) = 0)) ∧ ∀ i : Int, 0 ≤ i → i < B.1 4 (B.1 0 3) → yGs B (B.2 1 (B.1 0 3) i)
def yIh (B : yB) (h : Int) : Prop := (0 ≤ h ∧ h < B.1 0 0) ∨ (32 + B.1 2 (B.1 0 3) ≤ h ∧ h < 32 + B.1 2 (B.1 0 3) + B.1 3 (B.1 0 3))
def yGf (B : yB) (f : yF) : Prop := yIh B f.2.1 ∧ yGa B f.2.2 ∧ (f.1 = 0 ∨ f.1 = 4 ∨ f.1 = 5)
def yIf (c : Nat) (x : Int) (fr : List yF) (B : yB) : Prop := (c = 15 → 0 ≤ B.1 0 7 ∧ 0 ≤ B.1 0 8) ∧ (10 ≤ c → c ≤ 14 → (∀ f ∈ fr, yGf B f) ∧ (B.1 0 4 = 1 → ∀ f, fr.getLast? = some f → f.2.1 < 32 ∧ f.2.1 ≠ B.1 0 3) ∧ (c = 14 → ∃ f, fr = [f] ∧ (f.2.2.length : Int) = yar B f.2.1) ∧ (c = 10 → x = 0 ∨ x = 4 ∨ x = 5))
def yI (c : Nat) (x : Int) (fr : List yF) (B : yB) : Prop := yI0 B ∧ yI2 B ∧ yI3 c B ∧ yI4 c B ∧ yI1 c B ∧ yIf c x fr B
def yInv (s : yS) : Prop := s.1 = 20 ∨ yI s.1 s.2.2.1 s.2.2.2.1 s.2.2.2.2
theorem yar_e {B B' : yB} (h0 : B'.1 0 0 = B.1 0 0) (h3 : B'.1 3 = B.1 3) : yar B' = yar B := by
  funext h
  unfold yar
  rw [h0, h3]
theorem yG_e {B B' : yB} {k : Int} {l : List Int} (h2 : B'.1 2 k = B.1 2 k) (h3 : B'.1 3 k = B.1 3 k) (h : yG B k l) : yG B' k l := by
  unfold yG
  rw [h2, h3]
  exact h
theorem yGa_e {B B' : yB} {as : List (List Int)} (h0 : B'.1 0 0 = B.1 0 0) (ho : B'.1 0 3 = B.1 0 3) (h2 : B'.1 2 = B.1 2) (h3 : B'.1 3 = B.1 3) (h : yGa B as) : yGa B' as := fun a ha => ⟨by rw [yar_e h0 h3]; exact (h a ha).1, by rw [ho]; exact yG_e (by rw [h2]) (by rw [h3]) (h a ha).2⟩
theorem yGs_e {B B' : yB} {s : List (List Int)} (h0 : B'.1 0 0 = B.1 0 0) (ho : B'.1 0 3 = B.1 0 3) (h2 : B'.1 2 = B.1 2) (h3 : B'.1 3 = B.1 3) (h : yGs B s) : yGs B' s := by
  obtain ⟨e, as, e1, e2, e3, e4⟩ := h
  exact ⟨e, as, e1, by rw [h0, ho]; exact e2, by rw [h3]; exact e3, yGa_e h0 ho h2 h3 e4⟩
theorem yI_eq {c c' : Nat} {x x' : Int} {fr fr' : List yF} {B B' : yB} (h : yI c x fr B) (hc : yopn c' ↔ yopn c) (hc1 : yopn c' ∨ c' = 15 → yopn c ∨ c = 15) (hc2 : c' ≤ 2 → c ≤ 2) (e0 : B'.1 0 0 = B.1 0 0) (e1 : B'.1 0 1 = B.1 0 1) (e3 : B'.1 0 3 = B.1 0 3) (ek : ∀ k : Nat, k ≠ 0 → k ≠ 4 → k ≠ 6 → B'.1 k = B.1 k) (e4 : B'.1 4 = B.1 4) (l1 : B'.2 1 = B.2 1) (l2 : B'.2 2 = B.2 2) (hf : yIf c' x' fr' B') : yI c' x' fr' B' := by
  obtain ⟨h0, h2, h3, h4, h1, -⟩ := h
  refine ⟨?_, ?_, ?_, ?_, ?_, hf⟩
  · unfold yI0
    rw [e0, e1, e3, ek 2 (by decide) (by decide) (by decide), ek 3 (by decide) (by decide) (by decide)]
    exact h0
  · intro k d
    rw [l2]
    rcases h2 k d with q | ⟨l, q1, q2, q3, q4⟩
    · exact Or.inl q
    · exact Or.inr ⟨l, q1, q2, q3, yG_e (by rw [ek 2 (by decide) (by decide) (by decide)]) (by rw [ek 3 (by decide) (by decide) (by decide)]) q4⟩
  · intro e a b q
    rw [l2]
    exact h3 e a (by rw [← e0]; exact b) (fun w => q ⟨hc.mpr w.1, by rw [e3]; exact w.2⟩)
  · intro k d q
    rw [l2]
    exact h4 k d (by rw [← e0, ← e3]; exact q.imp id (fun w => ⟨hc.mp w.1, w.2⟩))
  · intro hq
    obtain ⟨⟨g1, g3⟩, g2⟩ := h1 (hc1 hq)
    refine ⟨⟨?_, fun h => by rw [e3, e4]; exact g3 (hc2 h)⟩, fun i a b => ?_⟩
    · unfold yCu
      rw [e0, e1, e3, ek 2 (by decide) (by decide) (by decide), ek 3 (by decide) (by decide) (by decide)]
      exact g1
    · rw [l1, e3]
      refine yGs_e e0 e3 (ek 2 (by decide) (by decide) (by decide)) (ek 3 (by decide) (by decide) (by decide)) (g2 i a ?_)
      rw [e3, e4] at b
      exact b
theorem yI_c {c c' : Nat} {x x' : Int} {fr fr' : List yF} {B : yB} (h : yI c x fr B) (hc : yopn c' ↔ yopn c) (hc1 : yopn c' ∨ c' = 15 → yopn c ∨ c = 15) (hc2 : c' ≤ 2 → c ≤ 2) (hf : yIf c' x' fr' B) : yI c' x' fr' B := yI_eq h hc hc1 hc2 rfl rfl rfl (fun _ _ _ _ => rfl) rfl rfl rfl hf
theorem yI_N {c c' : Nat} {x x' i y : Int} {fr fr' : List yF} {B : yB} (h : yI c x fr B) (hc : yopn c' ↔ yopn c) (hc1 : yopn c' ∨ c' = 15 → yopn c ∨ c = 15) (hc2 : c' ≤ 2 → c ≤ 2) (hi : i = 2 ∨ 4 ≤ i) (hf : yIf c' x' fr' (yN B 0 i y)) : yI c' x' fr' (yN B 0 i y) := yI_eq h hc hc1 hc2 (yN_ne (by omega)) (yN_ne (by omega)) (yN_ne (by omega)) (fun k hk _ _ => yN_nk hk) (yN_nk (by decide)) rfl rfl hf
theorem yIf_o {c : Nat} {x : Int} {fr : List yF} {B : yB} (h : c < 10) : yIf c x fr B := ⟨fun a => by omega, fun a _ => by omega⟩
theorem yIf_15 {x : Int} {fr : List yF} {B : yB} (h7 : 0 ≤ B.1 0 7) (h8 : 0 ≤ B.1 0 8) : yIf 15 x fr B := ⟨fun _ => ⟨h7, h8⟩, fun _ q => by omega⟩
theorem yIf_0 {x : Int} {B : yB} (hx : x = 0 ∨ x = 4 ∨ x = 5) : yIf 10 x [] B := ⟨fun q => absurd q (by decide), fun _ _ => ⟨fun f hf => absurd hf (by simp), fun _ f hf => by simp at hf, fun q => by omega, fun _ => hx⟩⟩
/-- parts put together -/
theorem ybl_a (A : Int → Int) (l m : List Int) : ybl A (l ++ m) = ybl A l + ybl A m - 1 := by simp [ybl]; omega
theorem yone_fl {A : Int → Int} : ∀ as : List (List Int), (∀ a ∈ as, yone A a) → ybl A as.flatten = 1 - as.length ∧ ∀ n : Nat, n < as.flatten.length → 2 - (as.length : Int) ≤ ybl A (as.flatten.take n)
  | [], _ => ⟨by simp [ybl], fun n hn => by simp at hn⟩
  | a :: r, h => by
    obtain ⟨h1, h2⟩ := yone_fl r (fun b hb => h b (List.mem_cons_of_mem _ hb))
    have ha := h a List.mem_cons_self
    have hr : ∀ n : Nat, n ≤ r.flatten.length → 1 - (r.length : Int) ≤ ybl A (r.flatten.take n) := fun n hn => by
      by_cases q : n < r.flatten.length
      · have := h2 n q; omega
      · rw [List.take_of_length_le (by omega), h1]; omega
    refine ⟨?_, fun n hn => ?_⟩
    · rw [List.flatten_cons, ybl_a, ha.1, h1, List.length_cons]; omega
    · rw [List.flatten_cons, List.length_append] at hn
      rw [List.flatten_cons, List.take_append, List.length_cons]
      by_cases q : n < a.length
      · have h3 := ha.2 n q
        rw [show n - a.length = 0 by omega, List.take_zero, List.append_nil]
        omega
      · have h5 : n - a.length < r.flatten.length := by omega
        have h4 := h2 (n - a.length) h5
        rw [List.take_of_length_le (by omega), ybl_a, ha.1]
        omega
theorem yone_h {A : Int → Int} {h : Int} {as : List (List Int)} (hn : (as.length : Int) = A h) (ha : ∀ a ∈ as, yone A a) : yone A (h :: as.flatten) := by
  obtain ⟨h1, h2⟩ := yone_fl as ha
  have e : ∀ m : List Int, ybl A (h :: m) = ybl A m + A h - 1 := fun m => by simp [ybl]; omega
  refine ⟨by rw [e, h1]; omega, fun n hn' => ?_⟩
  rcases n with _ | n
  · simp [ybl]
  · rw [List.take_succ_cons, e]
    have := h2 n (by simpa using hn')
    omega
theorem yar_w {B : yB} (h : B.1 0 0 ≤ 21) : yar B 200 = 0 ∧ yar B 201 = 1 ∧ yar B 202 = 1 := by
  unfold yar
  refine ⟨?_, ?_, ?_⟩
  · rw [if_neg (by omega), if_neg (by omega)]
  · rw [if_neg (by omega), if_pos (by omega)]
  · rw [if_neg (by omega), if_pos (by omega)]
/-- a TYPE that has ended is one part -/
theorem yGa_c {B : yB} {f : yF} (hB : B.1 0 0 ≤ 21) (h : yGf B f) (hn : (f.2.2.length : Int) = yar B f.2.1) : yone (yar B) (ycd f) ∧ yG B (B.1 0 3) (ycd f) := by
  obtain ⟨g1, g2, g3⟩ := h
  have w := yar_w hB
  have o1 : yone (yar B) (f.2.1 :: f.2.2.flatten) := yone_h hn (fun a ha => (g2 a ha).1)
  have G1 : yG B (B.1 0 3) (f.2.1 :: f.2.2.flatten) := fun x hx a b => by
    rcases List.mem_cons.mp hx with q | q
    · subst q
      rcases g1 with g | g
      · omega
      · omega
    · obtain ⟨l, hl, q⟩ := List.mem_flatten.mp q
      exact (g2 l hl).2 x q a b
  have G2 : ∀ y : Int, 112 ≤ y → yG B (B.1 0 3) (y :: f.2.1 :: f.2.2.flatten) := fun y hy x hx a b => by
    rcases List.mem_cons.mp hx with q | q
    · omega
    · exact G1 x q a b
  have o2 : ∀ y : Int, yar B y = 1 → yone (yar B) (y :: f.2.1 :: f.2.2.flatten) := fun y hy => by
    have := yone_h (A := yar B) (h := y) (as := [f.2.1 :: f.2.2.flatten]) (by rw [hy]; rfl) (fun a ha => by rw [List.mem_singleton.mp ha]; exact o1)
    simpa using this
  unfold ycd ywr
  rcases g3 with g | g | g <;> rw [g]
  · rw [if_neg (by decide), if_neg (by decide)]
    exact ⟨o1, G1⟩
  · rw [if_pos rfl]
    exact ⟨o2 201 w.2.1, G2 201 (by decide)⟩
  · rw [if_neg (by decide), if_pos rfl]
    exact ⟨o2 202 w.2.2, G2 202 (by decide)⟩
theorem yGf_a {B : yB} {l : List Int} {fr : List yF} (h : ∀ f ∈ fr, yGf B f) (hl : yone (yar B) l ∧ yG B (B.1 0 3) l) : ∀ f ∈ yadd l fr, yGf B f := by
  rcases fr with _ | ⟨f, r⟩
  · intro f hf; exact absurd hf (by simp [yadd])
  · intro g hg
    have hg : g ∈ ((f.1, f.2.1, f.2.2 ++ [l]) : yF) :: r := hg
    rcases List.mem_cons.mp hg with q | q
    · subst q
      obtain ⟨a1, a2, a3⟩ := h f List.mem_cons_self
      refine ⟨a1, fun a ha => ?_, a3⟩
      rcases List.mem_append.mp ha with w | w
      · exact a2 a w
      · rw [List.mem_singleton.mp w]; exact hl
    · exact h g (List.mem_cons_of_mem _ q)
theorem yadd_l {l : List Int} {fr : List yF} {f : yF} (h : (yadd l fr).getLast? = some f) : ∃ g, fr.getLast? = some g ∧ f.2.1 = g.2.1 := by
  rcases fr with _ | ⟨a, r⟩
  · simp [yadd] at h
  · have h : (((a.1, a.2.1, a.2.2 ++ [l]) : yF) :: r).getLast? = some f := h
    rcases r with _ | ⟨b, r⟩
    · simp at h
      exact ⟨a, by simp, by rw [← h]⟩
    · rw [List.getLast?_cons_cons] at h
      exact ⟨f, by rw [List.getLast?_cons_cons]; exact h, rfl⟩
theorem yGf_N {B : yB} {f : yF} {y : Int} (h : yGf B f) : yGf (yN B 0 2 y) f := by
  obtain ⟨a1, a2, a3⟩ := h
  refine ⟨?_, yGa_e (yN_ne (by decide)) (yN_ne (by decide)) (yN_nk (by decide)) (yN_nk (by decide)) a2, a3⟩
  unfold yIh
  rw [show (yN B 0 2 y).1 0 0 = B.1 0 0 from yN_ne (by decide), show (yN B 0 2 y).1 0 3 = B.1 0 3 from yN_ne (by decide), yN_nk (by decide), yN_nk (by decide)]
  exact a1

theorem yN2_v {B : yB} {i j x y : Int} (hi : i = 2 ∨ 4 ≤ i) (hj : j = 2 ∨ 4 ≤ j) : (yN (yN B 0 i x) 0 j y).1 0 0 = B.1 0 0 ∧ (yN (yN B 0 i x) 0 j y).1 0 1 = B.1 0 1 ∧ (yN (yN B 0 i x) 0 j y).1 0 3 = B.1 0 3 ∧ (∀ k : Nat, k ≠ 0 → (yN (yN B 0 i x) 0 j y).1 k = B.1 k) ∧ (yN (yN B 0 i x) 0 j y).2 = B.2 :=
  ⟨by rw [yN_ne (by omega), yN_ne (by omega)], by rw [yN_ne (by omega), yN_ne (by omega)], by rw [yN_ne (by omega), yN_ne (by omega)], fun k hk => by rw [yN_nk hk, yN_nk hk], rfl⟩
theorem yI_N2 {c c' : Nat} {x x' i j y z : Int} {fr fr' : List yF} {B : yB} (h : yI c x fr B) (hc : yopn c' ↔ yopn c) (hc1 : yopn c' ∨ c' = 15 → yopn c ∨ c = 15) (hc2 : c' ≤ 2 → c ≤ 2) (hi : i = 2 ∨ 4 ≤ i) (hj : j = 2 ∨ 4 ≤ j) (hf : yIf c' x' fr' (yN (yN B 0 i y) 0 j z)) : yI c' x' fr' (yN (yN B 0 i y) 0 j z) := by
  obtain ⟨v0, v1, v3, vk, vl⟩ := yN2_v (B := B) (x := y) (y := z) hi hj
  exact yI_eq h hc hc1 hc2 v0 v1 v3 (fun k hk _ _ => vk k hk) (vk 4 (by decide)) (by rw [vl]) (by rw [vl]) hf
theorem yInv_0 {T : yT} {p x : Int} {fr : List yF} {B : yB} (h : yI 0 x fr B) : yInv (ym0 T p B) := by
  unfold ym0
  split
  · exact Or.inl rfl
  split
  · exact Or.inl rfl
  split
  · exact Or.inl rfl
  rename_i hn
  right
  show yI 1 0 [] (yB1 B (ynm T p).toInt)
  obtain ⟨⟨v0, v1, v2, v3⟩, ⟨w1, w2, w3, w4⟩, w5, w6, w7⟩ := yB1_v B (ynm T p).toInt
  obtain ⟨⟨⟨a1, a2⟩, a3, a4⟩, a5⟩ := h.1
  obtain ⟨-, h2, h3, h4, -, -⟩ := h
  have n0 : ¬ yopn 0 := by unfold yopn; omega
  refine ⟨⟨⟨⟨?_, ?_⟩, ⟨?_, ?_⟩, ?_, ?_⟩, fun k k0 k1 => ?_⟩, fun k d => ?_, fun e e0 e1 q => ?_, fun k d q => ?_, fun _ => ⟨⟨?_, fun _ => ?_⟩, fun i i0 i1 => ?_⟩, yIf_o (by decide)⟩
  · rw [v0]; omega
  · rw [v0]; omega
  · rw [v3]; omega
  · rw [v3, v0]; omega
  · rw [v1]; omega
  · rw [v1, v0]; omega
  · rw [v0] at k1
    rw [v1]
    by_cases q : k = B.1 0 0
    · rw [q, w2, w3]; omega
    · rw [w5 2 k (by decide) q, w5 3 k (by decide) q]
      exact a5 k k0 (by omega)
  · rw [w7]
    by_cases q : k = B.1 0 0
    · exact Or.inl (h4 k d (Or.inl (by omega)))
    · rcases h2 k d with g | ⟨l, g1, g2, g3, g4⟩
      · exact Or.inl g
      · exact Or.inr ⟨l, g1, g2, g3, yG_e (w5 2 k (by decide) q) (w5 3 k (by decide) q) g4⟩
  · rw [v0] at e1
    rw [v3] at q
    rw [w7]
    exact h3 e e0 (by by_cases w : e = B.1 0 0; (exact absurd ⟨Or.inl ⟨by decide, by decide⟩, w⟩ q); omega) (fun w => n0 w.1)
  · rw [v0, v3] at q
    rw [w7]
    exact h4 k d (Or.inl (by rcases q with q | q; omega; (have := q.2; omega)))
  · unfold yCu
    rw [v0, v1, v3, w2, w3]
    omega
  · rw [v3]; exact w4
  · rw [v3, w4] at i1; omega
theorem yI_ap {c' : Nat} {x x' y : Int} {fr : List yF} {B : yB} (h : yI 2 x fr B) (hn : ¬ 4 ≤ B.1 3 (B.1 0 3)) (hc : c' = 2 ∨ c' = 3) : yI c' x' [] (yap B y) := by
  obtain ⟨⟨v0, v1, v2, v3⟩, ⟨w1, w2, w3, w4⟩, w5, w6, ⟨w7, w8, w9⟩, w10⟩ := yap_v B y
  obtain ⟨⟨⟨⟨a1, a2⟩, a3, a4⟩, a5⟩, h2, h3, h4, h1, -⟩ := h
  have o2 : yopn 2 := Or.inl ⟨by decide, by decide⟩
  have oc : yopn c' := Or.inl ⟨by omega, by omega⟩
  obtain ⟨⟨g1, g3⟩, g2⟩ := h1 (Or.inl o2)
  have g3 := g3 (by decide)
  have g1' := g1
  unfold yCu at g1
  refine ⟨⟨⟨⟨?_, ?_⟩, ⟨?_, ?_⟩, ?_, ?_⟩, fun k k0 k1 => ?_⟩, fun k d => ?_, fun e e0 e1 q => ?_, fun k d q => ?_, fun _ => ⟨⟨?_, fun _ => ?_⟩, fun i i0 i1 => ?_⟩, yIf_o (by omega)⟩
  · rw [v0]; omega
  · rw [v0]; omega
  · rw [v3]; omega
  · rw [v3, v0]; omega
  · rw [v1]; omega
  · rw [v1, v0]; omega
  · rw [v0] at k1
    rw [v1, w8]
    have z := a5 k k0 k1
    by_cases q : k = B.1 0 3
    · rw [q] at z ⊢; rw [w4]; omega
    · rw [w6 k q]; omega
  · rw [w10]
    by_cases q : k = B.1 0 3
    · exact Or.inl (h4 k d (Or.inr ⟨o2, q⟩))
    · rcases h2 k d with g | ⟨l, g1, g2, g3, g4⟩
      · exact Or.inl g
      · exact Or.inr ⟨l, g1, g2, g3, yG_e (by rw [w8]) (w6 k q) g4⟩
  · rw [v0] at e1
    rw [v3] at q
    rw [w10]
    exact h3 e e0 e1 (fun w => q ⟨oc, w.2⟩)
  · rw [v0, v3] at q
    rw [w10]
    exact h4 k d (q.imp id (fun w => ⟨o2, w.2⟩))
  · unfold yCu
    rw [v0, v1, v3, w8, w4]
    omega
  · rw [v3, w9]; exact g3
  · rw [v3, w9, g3] at i1; omega
theorem yon_v (B : yB) : (yon B).1 = B.1 ∧ (∀ k : Nat, k ≠ 2 → (yon B).2 k = B.2 k) ∧ ∀ i j : Int, (yon B).2 2 i j = if i = B.1 0 3 then (if j = i then [yown B] else if j = 0 then [[0]] else []) else B.2 2 i j := by
  refine ⟨rfl, fun k hk => ?_, fun i j => ?_⟩
  · funext i j
    show (if k = 2 ∧ i = B.1 0 3 then _ else B.2 k i j) = _
    rw [if_neg (fun q => hk q.1)]
  · show (if (2 : Nat) = 2 ∧ i = B.1 0 3 then _ else B.2 2 i j) = _
    by_cases q : i = B.1 0 3
    · rw [if_pos ⟨rfl, q⟩, if_pos q]
    · rw [if_neg (fun w => q w.2), if_neg q]
theorem yInv_8 {x : Int} {fr : List yF} {B : yB} (h : yI 8 x fr B) : yI 15 0 [] (yN (yN (yon B) 0 7 0) 0 8 0) := by
  obtain ⟨⟨⟨⟨a1, a2⟩, a3, a4⟩, a5⟩, h2, h3, h4, h1, -⟩ := h
  obtain ⟨v0, v1, v3, vk, vl⟩ := yN2_v (B := yon B) (i := 7) (j := 8) (x := 0) (y := 0) (by decide) (by decide)
  obtain ⟨o1, o2, o3⟩ := yon_v B
  rw [o1] at v0 v1 v3
  have vk : ∀ k : Nat, k ≠ 0 → (yN (yN (yon B) 0 7 0) 0 8 0).1 k = B.1 k := fun k hk => by rw [vk k hk, o1]
  have o8 : yopn 8 := Or.inl ⟨by decide, by decide⟩
  have n15 : ¬ yopn 15 := by unfold yopn; omega
  obtain ⟨⟨g1, -⟩, g2⟩ := h1 (Or.inl o8)
  have g1' := g1
  unfold yCu at g1
  refine ⟨⟨⟨⟨?_, ?_⟩, ⟨?_, ?_⟩, ?_, ?_⟩, fun k k0 k1 => ?_⟩, fun k d => ?_, fun e e0 e1 q => ?_, fun k d q => ?_, fun _ => ⟨⟨?_, fun q => by omega⟩, fun i i0 i1 => ?_⟩, yIf_15 (by rw [yN_ne (by decide), yN_at]; decide) (by rw [yN_at]; decide)⟩
  · rw [v0]; exact a1
  · rw [v0]; exact a2
  · rw [v3]; exact a3.1
  · rw [v3, v0]; exact a3.2
  · rw [v1]; exact a4.1
  · rw [v1, v0]; exact a4.2
  · rw [v0] at k1
    rw [v1, vk 2 (by decide), vk 3 (by decide)]
    exact a5 k k0 k1
  · rw [vl, o3]
    by_cases q : k = B.1 0 3
    · rw [if_pos q]
      have z := a5 k (by omega) (by omega)
      by_cases w : d = k
      · rw [if_pos w]
        refine Or.inr ⟨_, rfl, by simp [yown], ?_, fun y hy y1 y2 => ?_⟩
        · unfold yown
          rw [List.length_cons, List.length_map, List.length_range, ← q]
          omega
        · rw [vk 2 (by decide), vk 3 (by decide)]
          unfold yown at hy
          rcases List.mem_cons.mp hy with c | c
          · omega
          · obtain ⟨i, i1, i2⟩ := List.mem_map.mp c
            have := List.mem_range.mp i1
            rw [← q] at i2 this
            omega
      · rw [if_neg w]
        by_cases u : d = 0
        · rw [if_pos u]
          refine Or.inr ⟨_, rfl, by simp, by simp, fun y hy y1 y2 => ?_⟩
          have := List.mem_singleton.mp hy
          omega
        · rw [if_neg u]; exact Or.inl rfl
    · rw [if_neg q]
      rcases h2 k d with g | ⟨l, g1, g2, g3, g4⟩
      · exact Or.inl g
      · exact Or.inr ⟨l, g1, g2, g3, yG_e (by rw [vk 2 (by decide)]) (by rw [vk 3 (by decide)]) g4⟩
  · rw [v0] at e1
    rw [vl, o3]
    by_cases w : e = B.1 0 3
    · rw [if_pos w, if_neg (by omega), if_pos rfl]
    · rw [if_neg w]
      exact h3 e e0 e1 (fun c => w c.2)
  · rw [v0] at q
    have hk : B.1 0 0 ≤ k := by rcases q with q | q; exact q; exact absurd q.1 n15
    rw [vl, o3, if_neg (by omega)]
    exact h4 k d (Or.inl hk)
  · unfold yCu
    rw [v0, v1, v3, vk 2 (by decide), vk 3 (by decide)]
    exact g1'
  · rw [v3, vk 4 (by decide)] at i1
    rw [vl, v3, o2 1 (by decide)]
    exact yGs_e v0 v3 (vk 2 (by decide)) (vk 3 (by decide)) (g2 i i0 i1)
theorem yInv_m {c : Nat} {p x : Int} {fr : List yF} {B : yB} (h : yI c x fr B) : yInv (c, p, x, fr, B) := Or.inr h
theorem yI_x {c : Nat} {x x' : Int} {fr : List yF} {B : yB} (h : yI c x fr B) (hc : c ≠ 10) : yI c x' fr B := ⟨h.1, h.2.1, h.2.2.1, h.2.2.2.1, h.2.2.2.2.1, h.2.2.2.2.2.1, fun a b => ⟨(h.2.2.2.2.2.2 a b).1, (h.2.2.2.2.2.2 a b).2.1, (h.2.2.2.2.2.2 a b).2.2.1, fun q => absurd q hc⟩⟩
