/-! ### a type put anew: nodes stay apart -/
theorem zUq_c {m m' : zM} {lo : Int} (h : zUq m lo) (hc : ∀ j : Nat, 67 ≤ j → j ≤ 70 → m'.1 j = m.1 j) (ht : zTop m' = zTop m) : zUq m' lo := by
  unfold zUq zlike
  rw [hc 67 (by omega) (by omega), hc 68 (by omega) (by omega), hc 69 (by omega) (by omega), hc 70 (by omega) (by omega), ht]
  exact h
theorem zUq_o {m m' : zM} {lo : Int} (h0 : 0 ≤ lo) (h : zUq m lo) (nd : ∀ x : Int, 0 ≤ x → x < zTop m → zNd m x) (ho : zOld m m' (zTop m)) (ht : zTop m' = zTop m) : zUq m' lo := by
  intro x y a b c d hl
  rw [ht] at b d
  obtain ⟨o1, o2, o3, o4, o5⟩ := ho x (by omega) b
  obtain ⟨p1, p2, p3, p4, p5⟩ := ho y (by omega) d
  have h4 := (nd x (by omega) b).1.2
  obtain ⟨l1, l2, l3, l4⟩ := hl
  refine h x y a b c d ⟨by rw [← p1, l1, o1], by rw [← p2, l2, o2], by rw [← p3, l3, o3], fun i i0 i1 => ?_⟩
  exact (p5 i i0 (by omega)).symm.trans ((l4 i i0 (by rw [o3]; exact i1)).trans (o5 i i0 (by omega)))
theorem zUq_st {m m' : zM} {lo x f n w v : Int} (hn : zND m lo) (h : zUq m lo) (h0 : zND m' lo) (ho : zOld m m' (zTop m)) (hsn : zSn m m' lo x v) (hso : zSo m m' lo x f n w v) : zUq m' lo := by
  rcases hsn with q | ⟨q1, q2, q3, q4, q5⟩
  · exact zUq_o hn.1.1 h hn.2.1 ho q
  · rcases hso with ⟨c, -⟩ | ⟨-, c, -⟩ | ⟨-, -, -, c⟩
    · exact absurd c q3
    · omega
    · exact zUq_mk hn.1.1 h hn ⟨h0, c, Or.inr ⟨q1, q2, q5⟩, ho⟩
