/-! ### what is above, by rows -/
theorem rEf_qPa {m : zM} {B : yB} {C Pn tt x : Int} {l : qR} (hT : rQt m B C Pn tt) (hQ : zQI m C Pn tt) (x0 : 0 ≤ x) (x1 : x < zTop m) (h : rEf m x l) : ((qPa (yar B) l).length : Int) = m.1 69 x ∧ (∀ j : Nat, j < (qPa (yar B) l).length → rEf m (m.1 70 (4 * x + j)) ((qPa (yar B) l).getD j [])) ∧ l = l.headD 0 :: (qPa (yar B) l).flatten ∧ rHf m x (l.headD 0) := by
  obtain ⟨wf, hA⟩ := rQt_A hT hQ
  obtain ⟨hd, as, e1, e2, e3, e5⟩ := rEf_h h
  have e : qPa (yar B) l = as := by
    rw [e1]
    exact qPa_e (by rw [e3, hA x x0 x1 hd e2]) (rCf_as wf hA x0 x1 e3 e5)
  rw [e]
  refine ⟨e3, e5, ?_, ?_⟩
  · rw [e1]; rfl
  · rw [e1]; exact e2
def hk_X9_aboveOf : zC := fun As μ Q => ∃ (a1 : Int) (a2 : Int) (C : Int) (Pn : Int) (tt : Int) (K : Int) (B : yB) (S : qS) (cs : List qR), As = [.inr (.inr (66, 66)), .inl a1, .inl a2] ∧ (0 ≤ a1 ∧ a1 ≤ 19999) ∧ (0 ≤ a2 ∧ a2 ≤ 20) ∧ (zQS μ C Pn tt K) ∧ (zCt μ a1) ∧ (rQt μ B C Pn tt ∧ zUq μ 0 ∧ rVs μ S) ∧ ((cs.length : Int) = μ.1 69 a1 ∧ ∀ j : Nat, j < cs.length → rEf μ (μ.1 70 (4 * a1 + j)) (cs.getD j [])) ∧ (∀ (v : Int) (μ' : zM), zfx [67, 68, 69, 70, 71, 72, 73, 74, 97, 98, 99] [8, 48, 60] μ μ' → (-2) ≤ v → v ≤ 19999 → (zQS μ' C Pn tt K) → (zQx μ μ') → (v = -1 ∨ v = -2 ∨ (zCt μ' v ∧ μ'.1 68 v = a2)) → (zUq μ' 0) → ((v = -1 ∧ B.2 2 (μ.1 68 a1) a2 = [] ∧ rVs μ' S) ∨ (v = -2 ∧ B.2 2 (μ.1 68 a1) a2 ≠ [] ∧ qRs B S (μ.1 68 a1) a2 cs = none) ∨ (0 ≤ v ∧ B.2 2 (μ.1 68 a1) a2 ≠ [] ∧ ∃ S2 qs, qRs B S (μ.1 68 a1) a2 cs = some (S2, qs) ∧ rVs μ' S2 ∧ (qs.length : Int) = μ'.1 69 v ∧ ∀ j : Nat, j < qs.length → rEf μ' (μ'.1 70 (4 * v + j)) (qs.getD j []))) → Q (some (.inl v)) μ')
set_option maxHeartbeats 4000000 in
theorem hm_X9_aboveOf {g : zΓ} (hg : zg g) (d : Nat) (hd : 5 ≤ d) : zOk g d 165 hk_X9_aboveOf := by
  obtain ⟨d, rfl⟩ : ∃ d', d = d' + 1 := ⟨d - 1, by omega⟩
  refine zOk_straight hg (show mt_tab[165]? = some mt_X9_aboveOf from rfl) [] 61 rfl fun As μ Q hC => ?_
  obtain ⟨a1, a2, C, Pn, tt, K, B, S, cs, rfl, ha1, ha2, hp0, hp1, ⟨hT, hU, hV⟩, ⟨hc1, hc2⟩, hQ⟩ := hC
  have HZ := hp0
  have hp2 := hp1
  have hp3 := zQS_r HZ
  replace hp1 := HZ.2.1
  replace hp0 := HZ.1
  refine ⟨rfl, ?_⟩
  have z0 : zfx [67, 68, 69, 70, 71, 72, 73, 74, 97, 98, 99] [8, 48, 60] μ μ := zfx_x μ
  refine And.intro ⟨by omega, by omega⟩ ?_
  intro x1 hx1 kx1 lx1
  have HC0 := (hp0.2.2.2.2.1 a1 hp2.1.1 hp2.1.2).2.1 hp2.2.1
  rw [← hx1] at hQ HC0
  have P3 := hT.2.2.1.2.2.1 x1 a2 (by omega) (by rw [← hT.1.1]; omega) (by omega) (by omega)
  have T76 := hT.2.1 x1 (by omega) (by omega)
  refine And.intro ⟨⟨by omega, by omega⟩, ⟨by omega, by omega⟩⟩ (And.intro (fun c2 => ?_) (fun c2 => ?_))
  · have HC := (hp0.2.2.2.2.1 a1 hp2.1.1 hp2.1.2).2.1 hp2.2.1
    have HB := hp0.2.1.1
    rw [← hx1] at HC
    refine And.intro ⟨by omega, by omega⟩ ?_
    intro x3 hx3 kx3 lx3
    refine And.intro ⟨by omega, by omega⟩ (And.intro (fun c4 => ?_) (fun c4 => ?_))
    · rw [← hx3] at P3
      obtain ⟨L, eL, nL⟩ : ∃ l, B.2 2 x1 a2 = [l] ∧ rN1 μ tt x3 l := by
        rcases P3 with q | q
        · exfalso; omega
        · exact q
      have fL : (B.2 2 x1 a2).flatten = L := by rw [eL]; simp
      have nE : B.2 2 x1 a2 ≠ [] := by rw [eL]; simp
      obtain ⟨kk, EL⟩ := nL.2
      have HT := zTb_ab hp0.2.1 (c := x1) (d := a2) (by omega) (by omega) (by omega) (by omega) hx3 (by omega)
      have HS := zsz1 hp0.1.2.1 _ x3 rfl (by omega) (by have h1 := HT.1.1.2; have h2 := hp0.2.2.1; omega)
      have SZ := rC_sz hp0.1.2.1 kk x3 _ nL.1.1 (by have h1 := nL.1.2; have h2 := hp0.2.2.1; omega) (by have h1 := HT.1.2; omega) EL
      intro x5 hx5 kx5 lx5
      refine And.intro ⟨by omega, by omega⟩ ?_
      intro x6 hx6 kx6 lx6
      refine And.intro ⟨⟨by omega, by omega⟩, ⟨by omega, by omega⟩⟩ (And.intro (fun c7 => ?_) (fun c7 => ?_))
      · intro x8 hx8 kx8 lx8
        refine And.intro ⟨by omega, by omega⟩ ?_
        intro x9 hx9 kx9 lx9
        refine And.intro ⟨by omega, by omega⟩ ?_
        intro m10 em10
        have z11 := zfx_f z0 em10 rfl
        have QI12 := zQI_fr (m' := m10) hp0 (fun j a b => by rw [em10, zu_ne (by omega)]) (fun j a b => by rw [em10, zu_ne (by omega)]) (fun j a b => by rw [em10, zu_ne (by omega)]) (by rw [em10, zu_ne (by decide)]) (by rw [em10]; exact zu_nk (by decide)) (by rw [em10]; exact zu_nk (by decide)) (by rw [em10]; exact zu_nk (by decide))
        have HT1 := zTs_fr (m' := m10) HT.1 (by rw [em10, zu_ne (by decide)])
        have HW1 := zCt_fr (m' := m10) hp2 (fun j a b => by rw [em10, zu_ne (by omega)]) (by rw [em10]; exact zu_nk (by decide))
        have E60 : m10.1 66 ((60 : Nat) : Int) = μ.1 66 ((60 : Nat) : Int) := (by rw [em10]; exact zu_nk (by decide))
        have E45 : m10.1 66 ((45 : Nat) : Int) = μ.1 66 ((45 : Nat) : Int) := (by rw [em10]; exact zu_nk (by decide))
        have E8 : zTop m10 = zTop μ := by show m10.1 66 ((8 : Nat) : Int) = μ.1 66 ((8 : Nat) : Int); rw [em10]; exact zu_nk (by decide)
        have HM : zTop m10 ≤ 13000 := by rw [E8]; exact zQI_top hp0 hp1 hp3.1.2 hp3.2.1.2
        refine And.intro ⟨by omega, by omega⟩ ?_
        intro x13 hx13 kx13 lx13
        refine And.intro ⟨by omega, by omega⟩ ?_
        intro x14 hx14 kx14 lx14
        have K := zQ_pre QI12 HM HT1 HW1 (c := x1) (n := x14) (by rw [em10, zu_ne (by decide)]; omega) hx14
        refine ⟨zk_X9_substitute2, zm_X9_substitute2 hg d (by omega), _, _, _, _, _, _, _, rfl, ⟨by omega, by omega⟩, ⟨by omega, by omega⟩, ⟨by omega, by omega⟩, ⟨by omega, by omega⟩, K.1, K.2.1, rfl, ⟨by omega, by omega⟩, K.2.2.1, K.2.2.2.1, (fun m h _ => K.2.2.2.2.1 _ _ m h), K.2.2.2.2.2.1, ?_⟩
        intro x15 m16 qm16 kx15 lx15 p17 p18 p19 p20 p20u
        have z21 := zfx_t z11 qm16 rfl rfl
        have R := zQ_sub QI12 HM HT1 HW1 K.2.2.2.2.2.2.2 p17 rfl p19 p20 (fun j a b => qm16.1 j (by omega) (zanyF (by simp <;> omega))) (qm16.2.1 45 rfl)
        have CL := zQ_cls QI12 HT1 HW1 K.2.2.2.2.2.2.2 p17 p18.1 (by rw [em10, zu_ne (by decide)]; exact HT.2.1) (by rw [em10, zu_ne (by decide), zu_ne (by decide), zu_ne (by decide)]; exact HT.2.2.2)
        have X := zQx_sub (z := μ.1 71 x3) ⟨R.2.1, R.2.2.1, by have := R.2.2.2; rw [em10, zu_ne (by decide)] at this; rw [em10]; exact this⟩ em10 (by omega) (by omega) (fun j a b => qm16.1 j (by omega) (zanyF (by simp <;> omega))) (qm16.2.1 45 rfl) (qm16.2.1 48 rfl) p19
        have c10 : ∀ j : Nat, j ≠ 66 → m10.1 j = μ.1 j := fun j hj => by rw [em10, zu_ne hj]
        have U16 : zUq m16 0 := p20u (zUq_c hU (fun j a b => c10 j (by omega)) E8)
        have RW : rEf m16 x15 (ysub (B.1 2 x1) cs L) := by
          have q := rEf_put (cs := cs) QI12 R.1 p17 p18.1 ⟨HT1.1.1, by have h1 := HT1.1.2; have h2 := hp0.2.2.1; rw [E8]; omega⟩ (by rw [E8]; exact hp2.1) R.2.1 R.2.2.1 (rE_c (fun j a b => c10 j (by omega)) nL.2) (fun h hh a b => by
            obtain ⟨bs, eb, _, _, hb⟩ := hT.2.2.2.2.1.2.1 x1 a2 (by omega) (by rw [← hT.1.1]; omega) (by omega) (by omega) nE
            rw [fL] at eb
            rw [hx13, hx14, c10 76 (by decide), c10 77 (by decide), T76.1, T76.2]
            rw [eb] at hh
            rcases List.mem_cons.mp hh with e | hh
            · exfalso; omega
            · obtain ⟨r, r1, r2⟩ := List.mem_flatten.mp hh
              exact qY_yG (k := x1) (by omega) (by rw [← hT.1.1]; omega) hT.2.2.2.2.2.1.1.2 (hb r r1) h r2 a b) (by have k8 := K.2.2.2.2.2.2.2; rw [c10 69 (by decide)] at k8; omega) K.2.2.2.2.2.2.2 (fun j hj => by
            rw [c10 70 (by decide)]
            exact rEf_c (fun j a b => c10 j (by omega)) (hc2 j hj))
          rw [← p18.2, hx13, c10 76 (by decide), T76.1] at q
          exact q
        have X16 : x15 < zTop m16 := by rw [p18.2]; exact CL.1.1.2
        have Q16 := rEf_qPa (rQt_x hT hp0 X.1 (fun j a b => by rw [qm16.1 j (by omega) (zanyF (by simp <;> omega)), c10 j (by omega)])) R.1 (by omega) X16 RW
        have V16 : rVs m16 (S.1, S.2.1 + ((B.2 2 x1 a2).flatten.length : Int), S.2.2) := ⟨⟨by rw [qm16.2.1 46 rfl, em10, zu_nk (by decide)]; exact hV.1.1, by rw [qm16.2.1 48 rfl, em10, zu_at, fL, SZ]; show S.2.1 + _ = _; rw [hV.1.2.1]; omega, by rw [qm16.2.1 45 rfl, E45]; exact hV.1.2.2⟩, (show rVn m16 S.2.2 from rVn_x hV.2 hp0 (by have := hV.1.2.2; omega) X.1 (fun v a b => X.2.2.2.2.2 v a (by have := hV.1.2.2; omega)))⟩
        exact And.intro trivial (And.intro ⟨by omega, by omega⟩ (hQ _ _ z21 (by omega) (by omega) (zQS_x HZ R.1 X (by rw [qm16.2.1 45 rfl, E45]; omega) (by rw [qm16.2.1 48 rfl, em10, zu_at]; omega)) X (Or.inr (Or.inr (by rw [p18.2]; exact ⟨CL.1, by rw [CL.2, em10, zu_ne (by decide)]; exact HT.2.2.1⟩))) U16 (Or.inr (Or.inr ⟨by omega, nE, (S.1, S.2.1 + ((B.2 2 x1 a2).flatten.length : Int), S.2.2), _, by unfold qRs; rw [if_neg (by omega), if_neg (by rw [fL, SZ, hV.1.2.1]; omega)], V16, by rw [fL]; exact Q16.1, by rw [fL]; exact Q16.2.1⟩))))
      · exact And.intro trivial (And.intro ⟨by omega, by omega⟩ (hQ _ _ z0 (by omega) (by omega) HZ (zQx_r _) (Or.inr (Or.inl rfl)) hU (Or.inr (Or.inl ⟨rfl, nE, by unfold qRs; rw [if_neg (by omega), if_pos (by rw [fL, SZ, hV.1.2.1]; omega)]⟩))))
    · exact And.intro trivial (And.intro ⟨by omega, by omega⟩ (hQ _ _ z0 (by omega) (by omega) HZ (zQx_r _) (Or.inl rfl) hU (Or.inl ⟨rfl, by rcases P3 with q | ⟨l, q, n⟩ <;> first | exact q.2 | (exfalso; have := n.1.1; omega), hV⟩)))
  · exact And.intro trivial (And.intro ⟨by omega, by omega⟩ (hQ _ _ z0 (by omega) (by omega) HZ (zQx_r _) (Or.inr (Or.inr ⟨hp2, by omega⟩)) hU (Or.inr (Or.inr ⟨by omega, by have := hT.2.2.2.2.1.2.2.1 x1 (by omega) (by rw [← hT.1.1]; omega); rw [show a2 = x1 by omega]; exact this, S, cs, by unfold qRs; rw [if_pos (by omega)], hV, hc1, hc2⟩))))
