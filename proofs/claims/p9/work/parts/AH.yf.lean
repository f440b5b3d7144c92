/-! ### a token's kind -/
def ykn (b sz : Int) (nm : Int64) : Int := if yLet b = true then (if 8 < sz then 1 else if nm = 26990 then 3 else if nm = 2003399784 then 4 else if nm = 418263299685 then 5 else 2) else if ySg b = true then b else 1
set_option maxRecDepth 100000 in
theorem ysx0 : (List.range 256).all (fun k => decide (0 ≤ (mx_ix (((Int32.ofInt (k : Nat)).toUInt32 % 65536).toInt32)).toInt) == ySg (k : Nat)) = true := by decide +kernel
theorem ysx {b : Int} (h1 : 0 ≤ b) (h2 : b ≤ 255) : 0 ≤ (mx_ix (((Int32.ofInt b).toUInt32 % 65536).toInt32)).toInt ↔ ySg b = true := by
  have h := List.all_eq_true.mp ysx0 b.toNat (List.mem_range.mpr (by omega))
  rw [show ((b.toNat : Nat) : Int) = b by omega] at h
  have h := eq_of_beq h
  constructor
  · intro q; rw [← h]; exact decide_eq_true q
  · intro q; rw [q] at h; exact of_decide_eq_true h
def yk_X5_kindOf : zC := fun As μ Q => ∃ (a1 : Int) (a2 : Int) (a3 : Int64), As = [.inl a1, .inl a2, .inr (.inl a3)] ∧ (0 ≤ a1 ∧ a1 ≤ 255) ∧ ((-2147483648) ≤ a2 ∧ a2 ≤ 2147483647) ∧ (∀ (v : Int), (-2147483648) ≤ v → v ≤ 2147483647 → v = ykn a1 a2 a3 → Q (some (.inl v)) μ)
set_option maxHeartbeats 4000000 in
theorem ym_X5_kindOf {g : zΓ} (hg : zg g) (d : Nat) (hd : 5 ≤ d) : zOk g d 75 yk_X5_kindOf := by
  obtain ⟨d, rfl⟩ : ∃ d', d = d' + 1 := ⟨d - 1, by omega⟩
  have hM : mt_tab[75]? = some mt_X5_kindOf := rfl
  have hG := zg_go hg
  have hmem := List.mem_of_getElem? (zg_at hg hM)
  refine zOk_of hG (zg_at hg hM) fun As μ Q w hw hr hC => ?_
  obtain ⟨a1, a2, a3, rfl, ha1, ha2, hQ⟩ := hC
  have c71 : (Int64.ofInt 26990) = 26990 := by decide
  have c72 : (Int64.ofInt 2003399784) = 2003399784 := by decide
  have c73 : (Int64.ofInt 418263299685) = 418263299685 := by decide
  refine ⟨rfl, ?_⟩
  have h1 : zw (zOk g d) mt_X5_kindOf ([(7, [0, 1, 2])], []) (fun pc vs μ' => pc = 7 ∧ vs = [.inl a1, .inl a2, .inr (.inl a3)] ∧ μ' = μ ∧ ¬ yLet a1 = true) Q (fun _ _ => False) 60 false mt_X5_kindOf.2.2.2.2.1 (zargs 0 [.inl a1, .inl a2, .inr (.inl a3)]) [] μ := by
    refine ⟨yk_X5_isLetter, ym_X5_isLetter hg d (by omega), _, rfl, ⟨by omega, by omega⟩, ?_⟩
    intro x1 kx1 lx1 p1
    refine And.intro ⟨by omega, by omega⟩ (And.intro (fun c1 => ?_) (fun c1 => ?_))
    · have L1 := yp1 p1 c1
      refine And.intro ⟨⟨by omega, by omega⟩, ⟨by omega, by omega⟩⟩ (And.intro (fun c2 => ?_) (fun c2 => ?_))
      · intro x2 hx2 kx2 lx2
        refine And.intro ⟨by omega, by omega⟩ (And.intro (fun c3 => ?_) (fun c3 => ?_))
        · intro x3 hx3 kx3 lx3
          refine And.intro ⟨by omega, by omega⟩ (And.intro (fun c4 => ?_) (fun c4 => ?_))
          · intro x4 hx4 kx4 lx4
            refine And.intro ⟨by omega, by omega⟩ (And.intro (fun c5 => ?_) (fun c5 => ?_))
            · exact And.intro trivial (And.intro ⟨by omega, by omega⟩ (hQ _ (by omega) (by omega) (by unfold ykn; rw [if_pos L1, if_neg (by omega), if_neg (c71 ▸ ylcn hx2 c3), if_neg (c72 ▸ ylcn hx3 c4), if_neg (c73 ▸ ylcn hx4 c5)])))
            · exact And.intro trivial (And.intro ⟨by omega, by omega⟩ (hQ _ (by omega) (by omega) (by unfold ykn; rw [if_pos L1, if_neg (by omega), if_neg (c71 ▸ ylcn hx2 c3), if_neg (c72 ▸ ylcn hx3 c4), if_pos (c73 ▸ ylc0 hx4 c5)])))
          · exact And.intro trivial (And.intro ⟨by omega, by omega⟩ (hQ _ (by omega) (by omega) (by unfold ykn; rw [if_pos L1, if_neg (by omega), if_neg (c71 ▸ ylcn hx2 c3), if_pos (c72 ▸ ylc0 hx3 c4)])))
        · exact And.intro trivial (And.intro ⟨by omega, by omega⟩ (hQ _ (by omega) (by omega) (by unfold ykn; rw [if_pos L1, if_neg (by omega), if_pos (c71 ▸ ylc0 hx2 c3)])))
      · exact And.intro trivial (And.intro ⟨by omega, by omega⟩ (hQ _ (by omega) (by omega) (by unfold ykn; rw [if_pos L1, if_pos (by omega)])))
    · exact ⟨rfl, rfl, rfl, yp0 p1 c1⟩
  obtain ⟨q, r, e1, σ', μ', g1, g2, g3⟩ := zw_ok (sc := none) hG hmem (fun _ _ q => q) 60 h1 (List.suffix_refl _) hw ⟨zargs_rf hr, fun v hv => by cases hv⟩
  have e0 : q.1 = 0 := by
    have : (mt_X5_kindOf.2.2.2.2.1.head?.map (fun q => q.1)) = some 0 := rfl
    rw [e1] at this
    exact Option.some.inj this
  rw [e0] at g1
  rcases g3 with ⟨ks, vs, k1, -, -, k4, k5, k6, k7, k8, k9⟩ | g3 | g3
  · obtain ⟨pc, lv, st, w'⟩ := σ'
    dsimp only at k1 k4 k5 k6 g2
    subst k6
    cases (show some [0, 1, 2] = some ks from k1)
    subst k7
    subst k8
    rw [k5] at g1
    have k4 : lv = [(0, .int (Int32.ofInt a1)), (1, .int (Int32.ofInt a2)), (2, .long a3)] := k4
    subst k4
    refine zE_step g1 (zE_step (zko_jump (x := Int32.ofInt a1) (by omega) rfl) ?_)
    obtain ⟨y, ey⟩ : ∃ y : Int32, y = mx_ix ((Int32.ofInt a1).toUInt32 % 65536).toInt32 := ⟨_, rfl⟩
    rw [← ey]
    have hy := zR_i y
    have h2 : zw (zOk g d) mt_X5_kindOf ([], []) (fun _ _ _ => False) Q (fun _ _ => False) 20 false (zsuf 14 mt_X5_kindOf.2.2.2.2.1) [(0, .inl a1), (1, .inl a2), (2, .inr (.inl a3))] [.inl y.toInt] μ' := by
      refine And.intro ⟨by omega, by omega⟩ (And.intro (fun c1 => ?_) (fun c1 => ?_))
      · exact And.intro trivial (And.intro ⟨by omega, by omega⟩ (hQ _ (by omega) (by omega) (by unfold ykn; rw [if_neg k9, if_neg (fun q => by have := (ysx (by omega) (by omega)).mpr q; rw [← ey] at this; omega)])))
      · exact And.intro trivial (And.intro ⟨by omega, by omega⟩ (hQ _ (by omega) (by omega) (by unfold ykn; rw [if_neg k9, if_pos ((ysx (by omega) (by omega)).mp (by rw [← ey]; omega))])))
    obtain ⟨q', r', e1', e2'⟩ := zw_ok (sc := none) hG hmem (fun _ _ q => q) 20 h2 (zsuf_suf _ _) g2 ⟨List.forall_mem_cons.mpr ⟨True.intro, List.forall_mem_cons.mpr ⟨True.intro, List.forall_mem_cons.mpr ⟨True.intro, fun _ q => by cases q⟩⟩⟩, List.forall_mem_cons.mpr ⟨True.intro, fun _ q => by cases q⟩⟩
    have e3 := zsuf_pc e1'
    rw [e3] at e2'
    have e4 : ([.inl y.toInt] : List zV).map zt = [Value.int y] := by simp [zt]
    rw [e4] at e2'
    exact e2'
  · exact ⟨σ', μ', g1, g2, Or.inr (Or.inl g3)⟩
  · exact ⟨σ', μ', g1, g2, Or.inr (Or.inr g3)⟩
