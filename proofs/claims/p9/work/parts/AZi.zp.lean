set_option maxHeartbeats 4000000 in
theorem ym_X9_readType {g : zΓ} (hg : zg g) (d : Nat) (hd : 5 ≤ d) : zOk g d 142 yk_X9_readType := by
  obtain ⟨d, rfl⟩ : ∃ d', d = d' + 1 := ⟨d - 1, by omega⟩
  refine zOk_loop hg (show mt_tab[142]? = some mt_X9_readType from rfl) ([(13, [0, 1, 2, 3, 4, 5]), (18, [0, 1, 2, 3, 4, 5]), (111, [0, 1, 2, 3, 4, 5]), (272, [0, 1, 2, 3, 4, 5]), (403, [0, 1, 2, 3, 4, 5])], []) 246 rfl fun As μ Q hC => ?_
  obtain ⟨a1, a2, a3, lo, C, Pn, F, cf, pa, pe, τ, p, B, cb, pb, rfl, ha1, ha2, ha3, hp0, hp1, hp2, hp3, hp4, hp5, hp6, hp7, hp8, hp9, hp10, hQ⟩ := hC
  have r_ha1 := ha1
  have r_ha2 := ha2
  have r_ha3 := ha3
  have r_hp0 := hp0
  have r_hp1 := hp1
  have r_hp2 := hp2
  have r_hp3 := hp3
  have r_hp4 := hp4
  have r_hp5 := hp5
  have r_hp6 := hp6
  have r_hp7 := hp7
  have r_hp8 := hp8
  have r_hp9 := hp9
  have r_hp10 := hp10
  obtain ⟨g1, wg1⟩ : ∃ z : Int, μ.1 66 ((31 : Nat) : Int) = z := ⟨_, rfl⟩
  obtain ⟨g2, wg2⟩ : ∃ z : Int, μ.1 66 ((30 : Nat) : Int) = z := ⟨_, rfl⟩
  obtain ⟨g3, wg3⟩ : ∃ z : Int, μ.1 66 ((33 : Nat) : Int) = z := ⟨_, rfl⟩
  obtain ⟨g4, wg4⟩ : ∃ z : Int, μ.1 66 ((34 : Nat) : Int) = z := ⟨_, rfl⟩
  obtain ⟨g5, wg5⟩ : ∃ z : Int, μ.1 66 ((32 : Nat) : Int) = z := ⟨_, rfl⟩
  obtain ⟨g6, wg6⟩ : ∃ z : Int, μ.1 66 ((38 : Nat) : Int) = z := ⟨_, rfl⟩
  obtain ⟨g7, wg7⟩ : ∃ z : Int, μ.1 66 ((8 : Nat) : Int) = z := ⟨_, rfl⟩
  try rw [wg1] at hp0
  try rw [wg2] at hp0
  try rw [wg3] at hp0
  try rw [wg4] at hp0
  try rw [wg5] at hp0
  try rw [wg6] at hp0
  try rw [wg7] at hp0
  try rw [wg1] at hp1
  try rw [wg2] at hp1
  try rw [wg3] at hp1
  try rw [wg4] at hp1
  try rw [wg5] at hp1
  try rw [wg6] at hp1
  try rw [wg7] at hp1
  try rw [wg1] at hp2
  try rw [wg2] at hp2
  try rw [wg3] at hp2
  try rw [wg4] at hp2
  try rw [wg5] at hp2
  try rw [wg6] at hp2
  try rw [wg7] at hp2
  try rw [wg1] at hp3
  try rw [wg2] at hp3
  try rw [wg3] at hp3
  try rw [wg4] at hp3
  try rw [wg5] at hp3
  try rw [wg6] at hp3
  try rw [wg7] at hp3
  try rw [wg1] at hp4
  try rw [wg2] at hp4
  try rw [wg3] at hp4
  try rw [wg4] at hp4
  try rw [wg5] at hp4
  try rw [wg6] at hp4
  try rw [wg7] at hp4
  try rw [wg1] at hp5
  try rw [wg2] at hp5
  try rw [wg3] at hp5
  try rw [wg4] at hp5
  try rw [wg5] at hp5
  try rw [wg6] at hp5
  try rw [wg7] at hp5
  try rw [wg1] at hp6
  try rw [wg2] at hp6
  try rw [wg3] at hp6
  try rw [wg4] at hp6
  try rw [wg5] at hp6
  try rw [wg6] at hp6
  try rw [wg7] at hp6
  try rw [wg1] at hp7
  try rw [wg2] at hp7
  try rw [wg3] at hp7
  try rw [wg4] at hp7
  try rw [wg5] at hp7
  try rw [wg6] at hp7
  try rw [wg7] at hp7
  try rw [wg1] at hp8
  try rw [wg2] at hp8
  try rw [wg3] at hp8
  try rw [wg4] at hp8
  try rw [wg5] at hp8
  try rw [wg6] at hp8
  try rw [wg7] at hp8
  try rw [wg1] at hp9
  try rw [wg2] at hp9
  try rw [wg3] at hp9
  try rw [wg4] at hp9
  try rw [wg5] at hp9
  try rw [wg6] at hp9
  try rw [wg7] at hp9
  try rw [wg1] at hp10
  try rw [wg2] at hp10
  try rw [wg3] at hp10
  try rw [wg4] at hp10
  try rw [wg5] at hp10
  try rw [wg6] at hp10
  try rw [wg7] at hp10
  have z0 : zfx [67, 68, 69, 70, 71, 72, 73, 74, 100, 101, 102, 103, 104] [8, 31, 32, 33, 34, 35, 36, 38] μ μ := zfx_x μ
  refine ⟨rfl, yi_X9_readType μ a1 a2 a3 lo C Pn F cf pa pe τ p B cb pb, ?_, ym_X9_readType_13 hg d hd μ Q a1 a2 a3 lo C Pn F cf pa pe τ p B cb pb r_ha1 r_ha2 r_ha3 r_hp0 r_hp1 r_hp2 r_hp3 r_hp4 r_hp5 r_hp6 r_hp7 r_hp8 r_hp9 r_hp10 hQ, ym_X9_readType_18 hg d hd μ Q a1 a2 a3 lo C Pn F cf pa pe τ p B cb pb r_ha1 r_ha2 r_ha3 r_hp0 r_hp1 r_hp2 r_hp3 r_hp4 r_hp5 r_hp6 r_hp7 r_hp8 r_hp9 r_hp10 hQ, ym_X9_readType_111 hg d hd μ Q a1 a2 a3 lo C Pn F cf pa pe τ p B cb pb r_ha1 r_ha2 r_ha3 r_hp0 r_hp1 r_hp2 r_hp3 r_hp4 r_hp5 r_hp6 r_hp7 r_hp8 r_hp9 r_hp10 hQ, ym_X9_readType_272 hg d hd μ Q a1 a2 a3 lo C Pn F cf pa pe τ p B cb pb r_ha1 r_ha2 r_ha3 r_hp0 r_hp1 r_hp2 r_hp3 r_hp4 r_hp5 r_hp6 r_hp7 r_hp8 r_hp9 r_hp10 hQ, ym_X9_readType_403 hg d hd μ Q a1 a2 a3 lo C Pn F cf pa pe τ p B cb pb r_ha1 r_ha2 r_ha3 r_hp0 r_hp1 r_hp2 r_hp3 r_hp4 r_hp5 r_hp6 r_hp7 r_hp8 r_hp9 r_hp10 hQ, trivial⟩
  · refine And.intro ⟨by omega, by omega⟩ (And.intro ⟨by omega, by omega⟩ ?_)
    intro m8 em8
    have z9 := zfx_r z0 em8 rfl (by decide)
    have w10 : m8.1 66 ((31 : Nat) : Int) = g1 := by rw [em8]; exact (congrFun (zu_ne (by decide)) _).trans wg1
    have w11 : m8.1 66 ((30 : Nat) : Int) = g2 := by rw [em8]; exact (congrFun (zu_ne (by decide)) _).trans wg2
    have w12 : m8.1 66 ((33 : Nat) : Int) = g3 := by rw [em8]; exact (congrFun (zu_ne (by decide)) _).trans wg3
    have w13 : m8.1 66 ((34 : Nat) : Int) = g4 := by rw [em8]; exact (congrFun (zu_ne (by decide)) _).trans wg4
    have w14 : m8.1 66 ((32 : Nat) : Int) = g5 := by rw [em8]; exact (congrFun (zu_ne (by decide)) _).trans wg5
    have w15 : m8.1 66 ((38 : Nat) : Int) = g6 := by rw [em8]; exact (congrFun (zu_ne (by decide)) _).trans wg6
    have w16 : m8.1 66 ((8 : Nat) : Int) = g7 := by rw [em8]; exact (congrFun (zu_ne (by decide)) _).trans wg7
    refine Exists.intro (2 * zrT m8 0 + 1) ?_
    exact ⟨(fun _ => ⟨_, _, _, _, _, rfl, z9, ⟨by omega, by omega⟩, ⟨by omega, by omega⟩, ⟨by omega, by omega⟩, ⟨by omega, by omega⟩, ⟨by omega, by omega⟩, ⟨rfl, rfl, rfl⟩, (by (try rw [w10]) <;> (try rw [w11]) <;> (try rw [w12]) <;> (try rw [w13]) <;> (try rw [w14]) <;> (try rw [w15]) <;> (try rw [w16]) <;> (try rw [wg1]) <;> (try rw [wg2]) <;> (try rw [wg3]) <;> (try rw [wg4]) <;> (try rw [wg5]) <;> (try rw [wg6]) <;> (try rw [wg7]) <;> omega), (by (try rw [w10]) <;> (try rw [w11]) <;> (try rw [w12]) <;> (try rw [w13]) <;> (try rw [w14]) <;> (try rw [w15]) <;> (try rw [w16]) <;> (try rw [wg1]) <;> (try rw [wg2]) <;> (try rw [wg3]) <;> (try rw [wg4]) <;> (try rw [wg5]) <;> (try rw [wg6]) <;> (try rw [wg7]) <;> omega), ⟨fun _ => by rw [zwb_0 (by rw [em8]; exact zu_at)]; exact zTI_0 hp1 hp2 em8 rfl rfl, fun h => by omega⟩, (fun h => by omega), (by omega), (zrm_e (fun j => by rw [em8]; exact congrFun (zu_ne (by decide)) _)), (by (try rw [w10]) <;> (try rw [w11]) <;> (try rw [w12]) <;> (try rw [w13]) <;> (try rw [w14]) <;> (try rw [w15]) <;> (try rw [w16]) <;> (try rw [wg1]) <;> (try rw [wg2]) <;> (try rw [wg3]) <;> (try rw [wg4]) <;> (try rw [wg5]) <;> (try rw [wg6]) <;> (try rw [wg7]) <;> omega), (by omega), ⟨p, B.1 0 2, [], rLx_w hp7.1 em8 (Or.inr (Or.inr rfl)), by rw [yN_id]; exact rNu_w hp7.2 em8 (Or.inr rfl), trivial, Or.inl ⟨rfl, by rw [yN_id, show m8.1 104 0 = 0 by rw [em8, zu_at]]; exact yR_r τ _, rfl⟩⟩, rfl⟩), (fun h => absurd h (by decide)), (fun h => absurd h (by decide)), (fun h => absurd h (by decide)), (fun h => absurd h (by decide))⟩
