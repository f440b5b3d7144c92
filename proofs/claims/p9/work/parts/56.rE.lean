/-! ### aboveOf -/
def zk_X9_aboveOf : zC := fun As μ Q => ∃ (a1 : Int) (a2 : Int) (C : Int) (Pn : Int) (tt : Int) (K : Int), As = [.inr (.inr (66, 66)), .inl a1, .inl a2] ∧ (0 ≤ a1 ∧ a1 ≤ 19999) ∧ (0 ≤ a2 ∧ a2 ≤ 20) ∧ (zQS μ C Pn tt K) ∧ (zCt μ a1) ∧ (∀ (v : Int) (μ' : zM), zfx [67, 68, 69, 70, 71, 72, 73, 74, 97, 98, 99] [8, 48, 60] μ μ' → (-2) ≤ v → v ≤ 19999 → (zQS μ' C Pn tt K) → (zQx μ μ') → (v = -1 ∨ v = -2 ∨ (zCt μ' v ∧ μ'.1 68 v = a2)) → Q (some (.inl v)) μ')
set_option maxHeartbeats 2000000 in
theorem zm_X9_aboveOf {g : zΓ} (hg : zg g) (d : Nat) (hd : 5 ≤ d) : zOk g d 165 zk_X9_aboveOf := by
  obtain ⟨d, rfl⟩ : ∃ d', d = d' + 1 := ⟨d - 1, by omega⟩
  refine zOk_straight hg (show mt_tab[165]? = some mt_X9_aboveOf from rfl) [] 61 rfl fun As μ Q hC => ?_
  obtain ⟨a1, a2, C, Pn, tt, K, rfl, ha1, ha2, hp0, hp1, hQ⟩ := hC
  have HZ := hp0
  have hp2 := hp1
  have hp3 := zQS_r HZ
  replace hp1 := HZ.2.1
  replace hp0 := HZ.1
  refine ⟨rfl, ?_⟩
  have z0 : zfx [67, 68, 69, 70, 71, 72, 73, 74, 97, 98, 99] [8, 48, 60] μ μ := zfx_x μ
  refine And.intro ⟨by omega, by omega⟩ ?_
  intro x1 hx1 kx1 lx1
  refine And.intro ⟨⟨by omega, by omega⟩, ⟨by omega, by omega⟩⟩ (And.intro (fun c2 => ?_) (fun c2 => ?_))
  · have HC := (hp0.2.2.2.2.1 a1 hp2.1.1 hp2.1.2).2.1 hp2.2.1
    have HB := hp0.2.1.1
    rw [← hx1] at HC
    refine And.intro ⟨by omega, by omega⟩ ?_
    intro x3 hx3 kx3 lx3
    refine And.intro ⟨by omega, by omega⟩ (And.intro (fun c4 => ?_) (fun c4 => ?_))
    · have HT := zTb_ab hp0.2.1 (c := x1) (d := a2) (by omega) (by omega) (by omega) (by omega) hx3 (by omega)
      have HS := zsz1 hp0.1.2.1 _ x3 rfl (by omega) (by have h1 := HT.1.1.2; have h2 := hp0.2.2.1; omega)
      intro x5 hx5 kx5 lx5
      refine And.intro ⟨by omega, by omega⟩ ?_
      intro x6 hx6 kx6 lx6
      refine And.intro ⟨⟨by omega, by omega⟩, ⟨by omega, by omega⟩⟩ (And.intro (fun c7 => ?_) (fun c7 => ?_))
      · intro x8 hx8 kx8 lx8
        refine And.intro ⟨by omega, by omega⟩ ?_
        intro x9 hx9 kx9 lx9
        refine And.intro ⟨by omega, by omega⟩ ?_
        intro m10 em10
        have z11 := zfx_f z0 em10 rfl
        have QI12 := zQI_fr (m' := m10) hp0 (fun j a b => by rw [em10, zu_ne (by omega)]) (fun j a b => by rw [em10, zu_ne (by omega)]) (fun j a b => by rw [em10, zu_ne (by omega)]) (by rw [em10, zu_ne (by decide)]) (by rw [em10]; exact zu_nk (by decide)) (by rw [em10]; exact zu_nk (by decide)) (by rw [em10]; exact zu_nk (by decide))
        have HT1 := zTs_fr (m' := m10) HT.1 (by rw [em10, zu_ne (by decide)])
        have HW1 := zCt_fr (m' := m10) hp2 (fun j a b => by rw [em10, zu_ne (by omega)]) (by rw [em10]; exact zu_nk (by decide))
        have E60 : m10.1 66 ((60 : Nat) : Int) = μ.1 66 ((60 : Nat) : Int) := (by rw [em10]; exact zu_nk (by decide))
        have E45 : m10.1 66 ((45 : Nat) : Int) = μ.1 66 ((45 : Nat) : Int) := (by rw [em10]; exact zu_nk (by decide))
        have E8 : zTop m10 = zTop μ := by show m10.1 66 ((8 : Nat) : Int) = μ.1 66 ((8 : Nat) : Int); rw [em10]; exact zu_nk (by decide)
        have HM : zTop m10 ≤ 13000 := by rw [E8]; exact zQI_top hp0 hp1 hp3.1.2 hp3.2.1.2
        refine And.intro ⟨by omega, by omega⟩ ?_
        intro x13 hx13 kx13 lx13
        refine And.intro ⟨by omega, by omega⟩ ?_
        intro x14 hx14 kx14 lx14
        have K := zQ_pre QI12 HM HT1 HW1 (c := x1) (n := x14) (by rw [em10, zu_ne (by decide)]; omega) hx14
        refine ⟨zk_X9_substitute, zm_X9_substitute hg d (by omega), _, _, _, _, _, _, _, rfl, ⟨by omega, by omega⟩, ⟨by omega, by omega⟩, ⟨by omega, by omega⟩, ⟨by omega, by omega⟩, K.1, K.2.1, rfl, ⟨by omega, by omega⟩, K.2.2.1, K.2.2.2.1, (K.2.2.2.2.1 _ _), K.2.2.2.2.2.1, ?_⟩
        intro x15 m16 qm16 kx15 lx15 p17 p18 p19 p20
        have z21 := zfx_t z11 qm16 rfl rfl
        have R := zQ_sub QI12 HM HT1 HW1 K.2.2.2.2.2.2.2 p17 rfl p19 p20 (fun j a b => qm16.1 j (by omega) (zanyF (by simp <;> omega))) (qm16.2.1 45 rfl)
        have CL := zQ_cls QI12 HT1 HW1 K.2.2.2.2.2.2.2 p17 p18.1 (by rw [em10, zu_ne (by decide)]; exact HT.2.1) (by rw [em10, zu_ne (by decide), zu_ne (by decide), zu_ne (by decide)]; exact HT.2.2.2)
        have X := zQx_sub (z := μ.1 71 x3) ⟨R.2.1, R.2.2.1, by have := R.2.2.2; rw [em10, zu_ne (by decide)] at this; rw [em10]; exact this⟩ em10 (by omega) (by omega) (fun j a b => qm16.1 j (by omega) (zanyF (by simp <;> omega))) (qm16.2.1 45 rfl) (qm16.2.1 48 rfl) p19
        exact And.intro trivial (And.intro ⟨by omega, by omega⟩ (hQ _ _ z21 (by omega) (by omega) (zQS_x HZ R.1 X (by rw [qm16.2.1 45 rfl, E45]; omega) (by rw [qm16.2.1 48 rfl, em10, zu_at]; omega)) X (Or.inr (Or.inr (by rw [p18.2]; exact ⟨CL.1, by rw [CL.2, em10, zu_ne (by decide)]; exact HT.2.2.1⟩)))))
      · exact And.intro trivial (And.intro ⟨by omega, by omega⟩ (hQ _ _ z0 (by omega) (by omega) HZ (zQx_r _) (Or.inr (Or.inl rfl))))
    · exact And.intro trivial (And.intro ⟨by omega, by omega⟩ (hQ _ _ z0 (by omega) (by omega) HZ (zQx_r _) (Or.inl rfl)))
  · exact And.intro trivial (And.intro ⟨by omega, by omega⟩ (hQ _ _ z0 (by omega) (by omega) HZ (zQx_r _) (Or.inr (Or.inr ⟨hp2, by omega⟩))))
