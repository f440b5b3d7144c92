/-! ### what is ABOVE a class is found: the TYPES told stay -/
def yE8 (A B : yB) : Prop := (B.2 0 = A.2 0 ∧ B.2 1 = A.2 1) ∧ (∀ k : Nat, k ≠ 0 → B.1 k = A.1 k) ∧ B.1 0 1 = A.1 0 1 ∧ B.1 0 2 = A.1 0 2
def yc8 (c : Nat) : Prop := c = 8 ∨ c = 15 ∨ c = 9 ∨ c = 0 ∨ c = 20 ∨ c = 21
def yK8 (N : Int) (A : yB) (s : yS) : Prop := N ≤ s.2.2.2.2.1 0 0 ∧ (s.2.2.2.2.1 0 0 = N → yc8 s.1 ∧ yE8 A s.2.2.2.2)
theorem yE8_t {A B C : yB} (h : yE8 A B) (h' : yE8 B C) : yE8 A C := ⟨⟨h'.1.1.trans h.1.1, h'.1.2.trans h.1.2⟩, fun k hk => (h'.2.1 k hk).trans (h.2.1 k hk), h'.2.2.1.trans h.2.2.1, h'.2.2.2.trans h.2.2.2⟩
theorem yK8_u {N : Int} {A : yB} {c c' : Nat} {p p' x x' : Int} {fr fr' : List yF} {B B' : yB} (h : yK8 N A (c, p, x, fr, B)) (hc : ¬ yc8 c) (e : B'.1 0 0 = B.1 0 0) : yK8 N A (c', p', x', fr', B') :=
  ⟨by show N ≤ B'.1 0 0; rw [e]; exact h.1, fun q => absurd (h.2 (e.symm.trans q)).1 hc⟩
theorem yK8_v {N : Int} {A : yB} {c c' : Nat} {p p' x x' : Int} {fr fr' : List yF} {B B' : yB} (h : yK8 N A (c, p, x, fr, B)) (hc : yc8 c') (e : B'.1 0 0 = B.1 0 0) (hE : yE8 B B') : yK8 N A (c', p', x', fr', B') :=
  ⟨by show N ≤ B'.1 0 0; rw [e]; exact h.1, fun q => ⟨hc, yE8_t (h.2 (e.symm.trans q)).2 hE⟩⟩
theorem yE8_r (B : yB) : yE8 B B := ⟨⟨rfl, rfl⟩, fun _ _ => rfl, rfl, rfl⟩
theorem yK8_f {N : Int} {A : yB} {T : yT} {c : Nat} {p p' x y : Int} {fr : List yF} {B : yB} (h : yK8 N A (c, p, x, fr, B)) : yK8 N A (yflt T B p' y) :=
  yK8_v (c' := 20) h (by unfold yc8; omega) rfl (yE8_r B)
theorem yE8_N {B : yB} {i x : Int} (hi : 3 ≤ i) : yE8 B (yN B 0 i x) := ⟨⟨rfl, rfl⟩, fun k hk => yN_nk hk, yN_ne (by omega), yN_ne (by omega)⟩
theorem yE8_on {B : yB} : yE8 B (yon B) := by
  refine ⟨⟨?_, ?_⟩, fun _ _ => rfl, rfl, rfl⟩
  · funext i j
    show (if (0 : Nat) = 2 ∧ i = B.1 0 3 then (if j = i then [yown B] else if j = 0 then [[0]] else []) else B.2 0 i j) = B.2 0 i j
    exact if_neg (fun q => absurd q.1 (by decide))
  · funext i j
    show (if (1 : Nat) = 2 ∧ i = B.1 0 3 then (if j = i then [yown B] else if j = 0 then [[0]] else []) else B.2 1 i j) = B.2 1 i j
    exact if_neg (fun q => absurd q.1 (by decide))
theorem yE8_L {B : yB} {i j : Int} {l : List (List Int)} : yE8 B (yL B 2 i j l) := ⟨⟨yL_k (by decide), yL_k (by decide)⟩, fun _ _ => rfl, rfl, rfl⟩
theorem y00 {B : yB} {k : Nat} {i x : Int} (h : k ≠ 0 ∨ i ≠ 0) : (yN B k i x).1 0 0 = B.1 0 0 := yN_ne (by omega)
theorem y00_ap {B : yB} {x : Int} : (yap B x).1 0 0 = B.1 0 0 := by
  unfold yap
  rw [y00 (by omega), y00 (by omega), y00 (by omega), y00 (by omega), y00 (by omega)]
theorem yK8_s {N : Int} {A : yB} {T : yT} {s : yS} (h : yK8 N A s) : yK8 N A (yms T s) := by
  obtain ⟨c, p, x, fr, B⟩ := s
  unfold yms
  split
  · rename_i q; cases q; unfold ym0; split; (exact yK8_f h); split; (exact yK8_f h); split; (exact yK8_f h)
    have h0 : N ≤ B.1 0 0 := h.1
    refine ⟨?_, fun q => ?_⟩
    · show N ≤ (yN _ 0 0 (B.1 0 0 + 1)).1 0 0; rw [yN_at]; omega
    · exfalso
      have q : (yN _ 0 0 (B.1 0 0 + 1)).1 0 0 = N := q
      rw [yN_at] at q; omega
  · rename_i q; cases q; split <;> exact yK8_u h (by unfold yc8; omega) rfl
  · rename_i q; cases q; unfold ym2; dsimp only; split; (exact yK8_f h); split; (exact yK8_f h); split; (exact yK8_f h); split; (exact yK8_u h (by unfold yc8; omega) y00_ap); split; (exact yK8_u h (by unfold yc8; omega) y00_ap); exact yK8_u h (by unfold yc8; omega) y00_ap
  · rename_i q; cases q; split <;> exact yK8_u h (by unfold yc8; omega) rfl
  · rename_i q; cases q; unfold ym4; dsimp only; split; (exact yK8_f h); split; (exact yK8_f h); split; (exact yK8_f h); split; (exact yK8_f h); exact yK8_u h (by unfold yc8; omega) (y00 (by omega))
  · rename_i q; cases q; exact yK8_u h (by unfold yc8; omega) (by rw [y00 (by omega), y00 (by omega)])
  · rename_i q; cases q; split <;> exact yK8_u h (by unfold yc8; omega) rfl
  · rename_i q; cases q; exact yK8_u h (by unfold yc8; omega) (by rw [y00 (by omega), y00 (by omega)])
  · rename_i q; cases q; split; (exact yK8_f h); exact yK8_v h (by unfold yc8; omega) (by rw [y00 (by omega), y00 (by omega)]; rfl) (yE8_t yE8_on (yE8_t (yE8_N (by decide)) (yE8_N (by decide))))
  · rename_i q; cases q; split <;> exact yK8_v h (by unfold yc8; omega) rfl (yE8_r _)
  · rename_i q; cases q; unfold ym10; dsimp only; split; (exact yK8_f h); split; (exact yK8_f h); split; (exact yK8_f h); split; (exact yK8_f h); split; (split; (exact yK8_u h (by unfold yc8; omega) (y00 (by omega))); exact yK8_u h (by unfold yc8; omega) (y00 (by omega))); exact yK8_u h (by unfold yc8; omega) (y00 (by omega))
  · rename_i q; cases q; unfold ym11; split; (split; (exact yK8_f h); split; (exact yK8_f h); dsimp only; split; (exact yK8_u h (by unfold yc8; omega) (y00 (by omega))); split; (exact yK8_u h (by unfold yc8; omega) (y00 (by omega))); exact yK8_u h (by unfold yc8; omega) (y00 (by omega))); exact yK8_u h (by unfold yc8; omega) rfl
  · rename_i q; cases q; unfold ym12; split; (exact yK8_u h (by unfold yc8; omega) rfl); split; (exact yK8_f h); split; (exact yK8_f h); split; (exact yK8_u h (by unfold yc8; omega) rfl); exact yK8_u h (by unfold yc8; omega) rfl
  · rename_i q; cases q; split; (exact yK8_u h (by unfold yc8; omega) rfl); split; (exact yK8_u h (by unfold yc8; omega) rfl); exact yK8_f h
  · rename_i q; cases q; unfold ym14; split; (exact yK8_u h (by unfold yc8; omega) rfl); split; (dsimp only; split; (exact yK8_u h (by unfold yc8; omega) (y00 (by omega))); split; (exact yK8_u h (by unfold yc8; omega) (y00 (by omega))); exact yK8_u h (by unfold yc8; omega) (y00 (by omega))); split; (dsimp only; split; (exact yK8_u h (by unfold yc8; omega) (y00 (by omega))); exact yK8_u h (by unfold yc8; omega) (y00 (by omega))); exact yK8_u h (by unfold yc8; omega) rfl
  · rename_i q; cases q; unfold ym15; split; (exact yK8_v h (by unfold yc8; omega) rfl (yE8_r _)); split; (exact yK8_v h (by unfold yc8; omega) (by rw [y00 (by omega), y00 (by omega)]) (yE8_t (yE8_N (by decide)) (yE8_N (by decide)))); dsimp only; split; (exact yK8_v h (by unfold yc8; omega) (y00 (by omega)) (yE8_N (by decide))); split; (exact yK8_f h); exact yK8_v h (by unfold yc8; omega) (by rw [y00 (by omega)]; rfl) (yE8_t yE8_L (yE8_N (by decide)))
  · exact h
theorem yK8_R {N : Int} {A : yB} {T : yT} {s s' : yS} (h : yK8 N A s) (hr : yR T s s') : yK8 N A s' := by
  obtain ⟨k, rfl⟩ := hr
  induction k generalizing s with
  | zero => exact h
  | succ k ih => exact ih (yK8_s h)
theorem yE8_9 {T : yT} {p p' : Int} {B B' : yB} (h : yR T (8, p, 0, [], B) (9, p', 0, [], B')) (e : B'.1 0 0 = B.1 0 0) : yE8 B B' :=
  ((yK8_R (N := B.1 0 0) (A := B) (s := (8, p, 0, [], B)) ⟨Int.le_refl _, fun _ => ⟨Or.inl rfl, yE8_r B⟩⟩ h).2 e).2
