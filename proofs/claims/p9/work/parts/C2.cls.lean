/-! ### the nine, however they end -/
set_option maxHeartbeats 4000000 in
theorem lq_feed {g : zΓ} {x : lE} {L : Nat} (hg : zg g) (hst : g.2.2.1.stackTraces = false) (C : lC g x L) {X : Int64} {n : Int32} {w : mW} {μ : zM} {lv : List (Nat × Value)} (hw : zRep μ w) (hwl : w.1.length < 1000000) (h0 : 0 ≤ μ.1 1 ((4 : Nat) : Int)) :
    ∃ (kv : Int32) (μ' : zM) (w' : mW), lG g x (134, lv, [.ref 108, .int n, .long X, .ref 0], w) (137, lv, [.int kv], w') ∧ zRep μ' w' ∧ lK μ μ' ∧ lY μ μ' ∧ (1 ≤ n.toInt ∧ n.toInt ≤ 8 ∧ μ.1 1 ((4 : Nat) : Int) + n.toInt ≤ 800 → μ'.1 1 ((4 : Nat) : Int) = μ.1 1 ((4 : Nat) : Int) + n.toInt ∧ μ'.1 2 = rtp (μ.1 2) (μ.1 1 ((4 : Nat) : Int)) (μ.1 1 ((4 : Nat) : Int) + n.toInt) (μ.1 1 ((4 : Nat) : Int) + n.toInt - 1) (cby X) ∧ lZ μ μ') ∧ (¬ (1 ≤ n.toInt ∧ n.toInt ≤ 8 ∧ μ.1 1 ((4 : Nat) : Int) + n.toInt ≤ 800) → (μ'.1 1 ((4 : Nat) : Int) = μ.1 1 ((4 : Nat) : Int) ∧ μ'.1 2 = μ.1 2 ∧ lZ μ μ')) := by
  have e : ([.inr (.inr (0, 0)), .inr (.inl X), .inl n.toInt] : List zV).map zt = [.ref 0, .long X, .int n] := by simp [zt]
  rcases zE_end (zg_go hg) (zg_at hg (show mt_tab[98]? = some mt_X8_feed from rfl)) (wx_X8_feed hg 198 (by omega) (As := [.inr (.inr (0, 0)), .inr (.inl X), .inl n.toInt]) (Q := fun v μ' => (∃ u : Int, v = some (.inl u)) ∧ lK μ μ' ∧ lY μ μ' ∧ (1 ≤ n.toInt ∧ n.toInt ≤ 8 ∧ μ.1 1 ((4 : Nat) : Int) + n.toInt ≤ 800) ∧ μ'.1 1 ((4 : Nat) : Int) = μ.1 1 ((4 : Nat) : Int) + n.toInt ∧ μ'.1 2 = rtp (μ.1 2) (μ.1 1 ((4 : Nat) : Int)) (μ.1 1 ((4 : Nat) : Int) + n.toInt) (μ.1 1 ((4 : Nat) : Int) + n.toInt - 1) (cby X) ∧ lZ μ μ') (T := fun pc μ' => ((pc = 11 ∧ (n.toInt < 1 ∨ 8 < n.toInt)) ∨ (pc = 36 ∧ (1 ≤ n.toInt ∧ n.toInt ≤ 8 ∧ 800 < μ.1 1 ((4 : Nat) : Int) + n.toInt))) ∧ μ' = μ) hw (List.forall_mem_cons.mpr ⟨by show 0 < 1048576; omega, List.forall_mem_cons.mpr ⟨True.intro, List.forall_mem_cons.mpr ⟨True.intro, fun _ q => by cases q⟩⟩⟩) ⟨X, n.toInt, rfl, zR_i n, h0, fun v μ' z _ _ e1 e2 e3 e4 => ⟨⟨v, rfl⟩, lK_f z.1, ⟨by rw [e4 0 (by decide) (by decide)]; exact ⟨rfl, rfl⟩, fun j hj => e4 j (by unfold lyj at hj; omega) (by unfold lyj at hj; omega), fun t _ => by rw [z.2]⟩, e2, e1, e3, by unfold lZ; rw [e4 0 (by decide) (by decide)]⟩, fun h => ⟨Or.inl ⟨rfl, h⟩, rfl⟩, fun h => ⟨Or.inr ⟨rfl, h⟩, rfl⟩⟩) with ⟨v, μ', w', hmet, hmono, hw', -, ⟨⟨u, rfl⟩, hk, hY, hn, hln, hl2, hl3⟩⟩ | ⟨σ', μ', ix, hG, hw', -, h2, h3⟩
  · rw [e] at hmet
    obtain ⟨a, h8⟩ := l_08 hw'
    obtain ⟨lv', hF⟩ := zf_feed hg hmet hmono (l_00 hw) h8
    have hM := zw_ret (hh := hh_feed) (v := some (.int 0)) hg mw_L_feed rfl rfl rfl hF (by show (if narrow .int (Value.int 0) = .int 0 then some (some (Value.int 0), _) else none) = _; exact if_pos rfl)
    exact ⟨0, _, _, lG_wr (pcP := 134) (ixL := 52) (pl := 1039) (ps := 1038) (pm := 1037) (MW := mt_L_feed) (hh := hh_feed) (a := [.ref 0, .long X, .int n, .ref 108]) (kv := 0) C hM (by show (w'.1.set 108 _).length = w.1.length + ((w'.1.set 108 _).length - w.1.length); simp only [List.length_set]; omega) (by show w'.2 = w.2 + (w'.2 - w.2); omega) hw_feed ⟨by decide +kernel, by decide +kernel, by show _ = some 4; decide +kernel⟩ (by decide) (by decide) (show decode code 134 = .ok (.invokestatic 52, 3) by decide +kernel), zRep_long hw' h8, lK_o hk, lY_o hY, ⟨fun _ => ⟨by rw [zu_ne (by decide)]; exact hln, by rw [zu_ne (by decide)]; exact hl2, by unfold lZ; rw [zu_ne (by decide)]; exact hl3⟩, fun h => absurd hn h⟩⟩
  · rw [← zargs_eq, e] at hG
    obtain ⟨pcn, lv', st', w1⟩ := σ'
    dsimp only at h2 h3 hw'
    subst h2
    obtain ⟨h3, rfl⟩ := h3
    have e1 := hw.2.1
    have e2 := hw'.2.1
    have hlE : w1.1.length < mx_E := by unfold mx_E; omega
    have hlen : (zdead w1).1.length = w.1.length + (w1.1.length - w.1.length + 1) := by show (w1.1 ++ [_]).length = _; simp; omega
    have hslo : (zdead w1).2 = w.2 + (w1.2 - w.2 + 6) := by show w1.2 + 6 = _; omega
    have hz : (zdd μ' w1.1.length).1 1 ((4 : Nat) : Int) = μ'.1 1 ((4 : Nat) : Int) ∧ (zdd μ' w1.1.length).1 2 = μ'.1 2 ∧ lZ μ' (zdd μ' w1.1.length) := ⟨by rw [zdd_n (by decide)], zdd_n (by decide), by unfold lZ; rw [zdd_n (by decide)]⟩
    rcases h3 with ⟨rfl, hc⟩ | ⟨rfl, hc⟩
    · have hM := zh_feed_11 hg hst (d := 198) (by omega) hG hlE (l_00 hw)
      exact ⟨1, zdd μ' w1.1.length, zdead w1, lG_wr (pcP := 134) (ixL := 52) (pl := 1039) (ps := 1038) (pm := 1037) (MW := mt_L_feed) (hh := hh_feed) (a := [.ref 0, .long X, .int n, .ref 108]) (kv := 1) C hM hlen hslo hw_feed ⟨by decide +kernel, by decide +kernel, by show _ = some 4; decide +kernel⟩ (by decide) (by decide) (show decode code 134 = .ok (.invokestatic 52, 3) by decide +kernel), zRep_dead hw' (by omega) (l_109 hw'), lK_d hw', lY_d hw', ⟨fun h => by omega, fun _ => hz⟩⟩
    · have hM := zh_feed_36 hg hst (d := 198) (by omega) hG hlE (l_00 hw)
      exact ⟨2, zdd μ' w1.1.length, zdead w1, lG_wr (pcP := 134) (ixL := 52) (pl := 1039) (ps := 1038) (pm := 1037) (MW := mt_L_feed) (hh := hh_feed) (a := [.ref 0, .long X, .int n, .ref 108]) (kv := 2) C hM hlen hslo hw_feed ⟨by decide +kernel, by decide +kernel, by show _ = some 4; decide +kernel⟩ (by decide) (by decide) (show decode code 134 = .ok (.invokestatic 52, 3) by decide +kernel), zRep_dead hw' (by omega) (l_109 hw'), lK_d hw', lY_d hw', ⟨fun h => by omega, fun _ => hz⟩⟩
set_option maxHeartbeats 4000000 in
theorem lq_cls {g : zΓ} {x : lE} {L : Nat} (hg : zg g) (hst : g.2.2.1.stackTraces = false) (C : lC g x L) {x1 x2 : Int32} {w : mW} {μ : zM} {lv : List (Nat × Value)} (hw : zRep μ w) (hwl : w.1.length < 1000000) :
    ∃ (kv : Int32) (μ' : zM) (w' : mW), lG g x (216, lv, [.ref 108, .int x2, .int x1, .ref 0], w) (219, lv, [.int kv], w') ∧ zRep μ' w' ∧ lK μ μ' ∧ lY μ μ' ∧ (μ'.1 1 ((4 : Nat) : Int) = μ.1 1 ((4 : Nat) : Int) ∧ μ'.1 2 = μ.1 2 ∧ lZ μ μ') := by
  have e : ([.inr (.inr (0, 0)), .inl x1.toInt, .inl x2.toInt] : List zV).map zt = [.ref 0, .int x1, .int x2] := by simp [zt]
  rcases zE_end (zg_go hg) (zg_at hg (show mt_tab[101]? = some mt_X8_cls from rfl)) (zx_X8_cls hg 198 (by omega) (As := [.inr (.inr (0, 0)), .inl x1.toInt, .inl x2.toInt]) (Q := fun v μ' => (∃ u : Int64, v = some (.inr (.inl u))) ∧ lK μ μ' ∧ lY μ μ' ∧ (μ'.1 1 ((4 : Nat) : Int) = μ.1 1 ((4 : Nat) : Int) ∧ μ'.1 2 = μ.1 2 ∧ lZ μ μ')) (T := fun pc μ' => (pc = 15 ∨ pc = 135) ∧ μ' = μ) hw (List.forall_mem_cons.mpr ⟨by show 0 < 1048576; omega, List.forall_mem_cons.mpr ⟨True.intro, List.forall_mem_cons.mpr ⟨True.intro, fun _ q => by cases q⟩⟩⟩) ⟨x1.toInt, x2.toInt, rfl, zR_i x1, zR_i x2, fun v => ⟨⟨v, rfl⟩, lK_r μ, lY_r μ, rfl, rfl, rfl⟩, ⟨Or.inl rfl, rfl⟩, ⟨Or.inr rfl, rfl⟩⟩) with ⟨v, μ', w', hmet, hmono, hw', -, ⟨⟨u, rfl⟩, hk, hY, hln⟩⟩ | ⟨σ', μ', ix, hG, hw', -, h2, h3⟩
  · rw [e] at hmet
    obtain ⟨a, h8⟩ := l_08 hw'
    obtain ⟨lv', hF⟩ := zf_cls hg hmet hmono (l_00 hw) h8
    have hM := zw_ret (hh := hh_cls) (v := some (.int 0)) hg mw_L_cls rfl rfl rfl hF (by show (if narrow .int (Value.int 0) = .int 0 then some (some (Value.int 0), _) else none) = _; exact if_pos rfl)
    exact ⟨0, _, _, lG_wr (pcP := 216) (ixL := 67) (pl := 1136) (ps := 1135) (pm := 1134) (MW := mt_L_cls) (hh := hh_cls) (a := [.ref 0, .int x1, .int x2, .ref 108]) (kv := 0) C hM (by show (w'.1.set 108 _).length = w.1.length + ((w'.1.set 108 _).length - w.1.length); simp only [List.length_set]; omega) (by show w'.2 = w.2 + (w'.2 - w.2); omega) hw_cls ⟨by decide +kernel, by decide +kernel, by show _ = some 4; decide +kernel⟩ (by decide) (by decide) (show decode code 216 = .ok (.invokestatic 67, 3) by decide +kernel), zRep_long hw' h8, lK_o hk, lY_o hY, ⟨by rw [zu_ne (by decide)]; exact hln.1, by rw [zu_ne (by decide)]; exact hln.2.1, by unfold lZ; rw [zu_ne (by decide)]; exact hln.2.2⟩⟩
  · rw [← zargs_eq, e] at hG
    obtain ⟨pcn, lv', st', w1⟩ := σ'
    dsimp only at h2 h3 hw'
    subst h2
    obtain ⟨h3, rfl⟩ := h3
    have e1 := hw.2.1
    have e2 := hw'.2.1
    have hlE : w1.1.length < mx_E := by unfold mx_E; omega
    have hlen : (zdead w1).1.length = w.1.length + (w1.1.length - w.1.length + 1) := by show (w1.1 ++ [_]).length = _; simp; omega
    have hslo : (zdead w1).2 = w.2 + (w1.2 - w.2 + 6) := by show w1.2 + 6 = _; omega
    have hz : (zdd μ' w1.1.length).1 1 ((4 : Nat) : Int) = μ'.1 1 ((4 : Nat) : Int) ∧ (zdd μ' w1.1.length).1 2 = μ'.1 2 ∧ lZ μ' (zdd μ' w1.1.length) := ⟨by rw [zdd_n (by decide)], zdd_n (by decide), by unfold lZ; rw [zdd_n (by decide)]⟩
    rcases h3 with rfl | rfl
    · have hM := zh_cls_15 hg hst (d := 198) (by omega) hG hlE (l_00 hw)
      exact ⟨1, zdd μ' w1.1.length, zdead w1, lG_wr (pcP := 216) (ixL := 67) (pl := 1136) (ps := 1135) (pm := 1134) (MW := mt_L_cls) (hh := hh_cls) (a := [.ref 0, .int x1, .int x2, .ref 108]) (kv := 1) C hM hlen hslo hw_cls ⟨by decide +kernel, by decide +kernel, by show _ = some 4; decide +kernel⟩ (by decide) (by decide) (show decode code 216 = .ok (.invokestatic 67, 3) by decide +kernel), zRep_dead hw' (by omega) (l_109 hw'), lK_d hw', lY_d hw', hz⟩
    · have hM := zh_cls_135 hg hst (d := 198) (by omega) hG hlE (l_00 hw)
      exact ⟨2, zdd μ' w1.1.length, zdead w1, lG_wr (pcP := 216) (ixL := 67) (pl := 1136) (ps := 1135) (pm := 1134) (MW := mt_L_cls) (hh := hh_cls) (a := [.ref 0, .int x1, .int x2, .ref 108]) (kv := 2) C hM hlen hslo hw_cls ⟨by decide +kernel, by decide +kernel, by show _ = some 4; decide +kernel⟩ (by decide) (by decide) (show decode code 216 = .ok (.invokestatic 67, 3) by decide +kernel), zRep_dead hw' (by omega) (l_109 hw'), lK_d hw', lY_d hw', hz⟩
set_option maxHeartbeats 4000000 in
theorem lq_isAbove {g : zΓ} {x : lE} {L : Nat} (hg : zg g) (hst : g.2.2.1.stackTraces = false) (C : lC g x L) {x1 x2 : Int32} {w : mW} {μ : zM} {lv : List (Nat × Value)} (hw : zRep μ w) (hwl : w.1.length < 1000000) :
    ∃ (kv : Int32) (μ' : zM) (w' : mW), lG g x (256, lv, [.ref 108, .int x2, .int x1, .ref 0], w) (259, lv, [.int kv], w') ∧ zRep μ' w' ∧ lK μ μ' ∧ lY μ μ' ∧ (μ'.1 1 ((4 : Nat) : Int) = μ.1 1 ((4 : Nat) : Int) ∧ μ'.1 2 = μ.1 2 ∧ lZ μ μ') := by
  have e : ([.inr (.inr (0, 0)), .inl x1.toInt, .inl x2.toInt] : List zV).map zt = [.ref 0, .int x1, .int x2] := by simp [zt]
  rcases zE_end (zg_go hg) (zg_at hg (show mt_tab[102]? = some mt_X8_isAbove from rfl)) (zx_X8_isAbove hg 198 (by omega) (As := [.inr (.inr (0, 0)), .inl x1.toInt, .inl x2.toInt]) (Q := fun v μ' => (∃ u : Int, v = some (.inl u)) ∧ lK μ μ' ∧ lY μ μ' ∧ (μ'.1 1 ((4 : Nat) : Int) = μ.1 1 ((4 : Nat) : Int) ∧ μ'.1 2 = μ.1 2 ∧ lZ μ μ')) (T := fun pc μ' => pc = 30 ∧ μ' = μ) hw (List.forall_mem_cons.mpr ⟨by show 0 < 1048576; omega, List.forall_mem_cons.mpr ⟨True.intro, List.forall_mem_cons.mpr ⟨True.intro, fun _ q => by cases q⟩⟩⟩) ⟨x1.toInt, x2.toInt, rfl, zR_i x1, zR_i x2, fun v _ _ => ⟨⟨v, rfl⟩, lK_r μ, lY_r μ, rfl, rfl, rfl⟩, ⟨rfl, rfl⟩⟩) with ⟨v, μ', w', hmet, hmono, hw', -, ⟨⟨u, rfl⟩, hk, hY, hln⟩⟩ | ⟨σ', μ', ix, hG, hw', -, h2, h3⟩
  · rw [e] at hmet
    obtain ⟨a, h8⟩ := l_08 hw'
    obtain ⟨lv', hF⟩ := zf_isAbove hg hmet hmono (l_00 hw) h8
    have hM := zw_ret (hh := hh_isAbove) (v := some (.int 0)) hg mw_L_isAbove rfl rfl rfl hF (by show (if narrow .int (Value.int 0) = .int 0 then some (some (Value.int 0), _) else none) = _; exact if_pos rfl)
    exact ⟨0, _, _, lG_wr (pcP := 256) (ixL := 71) (pl := 1169) (ps := 1168) (pm := 1167) (MW := mt_L_isAbove) (hh := hh_isAbove) (a := [.ref 0, .int x1, .int x2, .ref 108]) (kv := 0) C hM (by show (w'.1.set 108 _).length = w.1.length + ((w'.1.set 108 _).length - w.1.length); simp only [List.length_set]; omega) (by show w'.2 = w.2 + (w'.2 - w.2); omega) hw_isAbove ⟨by decide +kernel, by decide +kernel, by show _ = some 4; decide +kernel⟩ (by decide) (by decide) (show decode code 256 = .ok (.invokestatic 71, 3) by decide +kernel), zRep_long hw' h8, lK_o hk, lY_o hY, ⟨by rw [zu_ne (by decide)]; exact hln.1, by rw [zu_ne (by decide)]; exact hln.2.1, by unfold lZ; rw [zu_ne (by decide)]; exact hln.2.2⟩⟩
  · rw [← zargs_eq, e] at hG
    obtain ⟨pcn, lv', st', w1⟩ := σ'
    dsimp only at h2 h3 hw'
    subst h2
    obtain ⟨h3, rfl⟩ := h3
    have e1 := hw.2.1
    have e2 := hw'.2.1
    have hlE : w1.1.length < mx_E := by unfold mx_E; omega
    have hlen : (zdead w1).1.length = w.1.length + (w1.1.length - w.1.length + 1) := by show (w1.1 ++ [_]).length = _; simp; omega
    have hslo : (zdead w1).2 = w.2 + (w1.2 - w.2 + 6) := by show w1.2 + 6 = _; omega
    have hz : (zdd μ' w1.1.length).1 1 ((4 : Nat) : Int) = μ'.1 1 ((4 : Nat) : Int) ∧ (zdd μ' w1.1.length).1 2 = μ'.1 2 ∧ lZ μ' (zdd μ' w1.1.length) := ⟨by rw [zdd_n (by decide)], zdd_n (by decide), by unfold lZ; rw [zdd_n (by decide)]⟩
    subst h3
    have hM := zh_isAbove_30 hg hst (d := 198) (by omega) hG hlE (l_00 hw)
    exact ⟨1, zdd μ' w1.1.length, zdead w1, lG_wr (pcP := 256) (ixL := 71) (pl := 1169) (ps := 1168) (pm := 1167) (MW := mt_L_isAbove) (hh := hh_isAbove) (a := [.ref 0, .int x1, .int x2, .ref 108]) (kv := 1) C hM hlen hslo hw_isAbove ⟨by decide +kernel, by decide +kernel, by show _ = some 4; decide +kernel⟩ (by decide) (by decide) (show decode code 256 = .ok (.invokestatic 71, 3) by decide +kernel), zRep_dead hw' (by omega) (l_109 hw'), lK_d hw', lY_d hw', hz⟩
set_option maxHeartbeats 4000000 in
theorem lq_parameter {g : zΓ} {x : lE} {L : Nat} (hg : zg g) (hst : g.2.2.1.stackTraces = false) (C : lC g x L) {x1 x2 : Int32} {w : mW} {μ : zM} {lv : List (Nat × Value)} (hw : zRep μ w) (hwl : w.1.length < 1000000) :
    ∃ (kv : Int32) (μ' : zM) (w' : mW), lG g x (296, lv, [.ref 108, .int x2, .int x1, .ref 0], w) (299, lv, [.int kv], w') ∧ zRep μ' w' ∧ lK μ μ' ∧ lY μ μ' ∧ (μ'.1 1 ((4 : Nat) : Int) = μ.1 1 ((4 : Nat) : Int) ∧ μ'.1 2 = μ.1 2 ∧ lZ μ μ') := by
  have e : ([.inr (.inr (0, 0)), .inl x1.toInt, .inl x2.toInt] : List zV).map zt = [.ref 0, .int x1, .int x2] := by simp [zt]
  rcases zE_end (zg_go hg) (zg_at hg (show mt_tab[103]? = some mt_X8_parameter from rfl)) (zx_X8_parameter hg 198 (by omega) (As := [.inr (.inr (0, 0)), .inl x1.toInt, .inl x2.toInt]) (Q := fun v μ' => (∃ u : Int64, v = some (.inr (.inl u))) ∧ lK μ μ' ∧ lY μ μ' ∧ (μ'.1 1 ((4 : Nat) : Int) = μ.1 1 ((4 : Nat) : Int) ∧ μ'.1 2 = μ.1 2 ∧ lZ μ μ')) (T := fun pc μ' => (pc = 15 ∨ pc = 107) ∧ μ' = μ) hw (List.forall_mem_cons.mpr ⟨by show 0 < 1048576; omega, List.forall_mem_cons.mpr ⟨True.intro, List.forall_mem_cons.mpr ⟨True.intro, fun _ q => by cases q⟩⟩⟩) ⟨x1.toInt, x2.toInt, rfl, zR_i x1, zR_i x2, fun v => ⟨⟨v, rfl⟩, lK_r μ, lY_r μ, rfl, rfl, rfl⟩, ⟨Or.inl rfl, rfl⟩, ⟨Or.inr rfl, rfl⟩⟩) with ⟨v, μ', w', hmet, hmono, hw', -, ⟨⟨u, rfl⟩, hk, hY, hln⟩⟩ | ⟨σ', μ', ix, hG, hw', -, h2, h3⟩
  · rw [e] at hmet
    obtain ⟨a, h8⟩ := l_08 hw'
    obtain ⟨lv', hF⟩ := zf_parameter hg hmet hmono (l_00 hw) h8
    have hM := zw_ret (hh := hh_parameter) (v := some (.int 0)) hg mw_L_parameter rfl rfl rfl hF (by show (if narrow .int (Value.int 0) = .int 0 then some (some (Value.int 0), _) else none) = _; exact if_pos rfl)
    exact ⟨0, _, _, lG_wr (pcP := 296) (ixL := 74) (pl := 1177) (ps := 1176) (pm := 1175) (MW := mt_L_parameter) (hh := hh_parameter) (a := [.ref 0, .int x1, .int x2, .ref 108]) (kv := 0) C hM (by show (w'.1.set 108 _).length = w.1.length + ((w'.1.set 108 _).length - w.1.length); simp only [List.length_set]; omega) (by show w'.2 = w.2 + (w'.2 - w.2); omega) hw_parameter ⟨by decide +kernel, by decide +kernel, by show _ = some 4; decide +kernel⟩ (by decide) (by decide) (show decode code 296 = .ok (.invokestatic 74, 3) by decide +kernel), zRep_long hw' h8, lK_o hk, lY_o hY, ⟨by rw [zu_ne (by decide)]; exact hln.1, by rw [zu_ne (by decide)]; exact hln.2.1, by unfold lZ; rw [zu_ne (by decide)]; exact hln.2.2⟩⟩
  · rw [← zargs_eq, e] at hG
    obtain ⟨pcn, lv', st', w1⟩ := σ'
    dsimp only at h2 h3 hw'
    subst h2
    obtain ⟨h3, rfl⟩ := h3
    have e1 := hw.2.1
    have e2 := hw'.2.1
    have hlE : w1.1.length < mx_E := by unfold mx_E; omega
    have hlen : (zdead w1).1.length = w.1.length + (w1.1.length - w.1.length + 1) := by show (w1.1 ++ [_]).length = _; simp; omega
    have hslo : (zdead w1).2 = w.2 + (w1.2 - w.2 + 6) := by show w1.2 + 6 = _; omega
    have hz : (zdd μ' w1.1.length).1 1 ((4 : Nat) : Int) = μ'.1 1 ((4 : Nat) : Int) ∧ (zdd μ' w1.1.length).1 2 = μ'.1 2 ∧ lZ μ' (zdd μ' w1.1.length) := ⟨by rw [zdd_n (by decide)], zdd_n (by decide), by unfold lZ; rw [zdd_n (by decide)]⟩
    rcases h3 with rfl | rfl
    · have hM := zh_parameter_15 hg hst (d := 198) (by omega) hG hlE (l_00 hw)
      exact ⟨1, zdd μ' w1.1.length, zdead w1, lG_wr (pcP := 296) (ixL := 74) (pl := 1177) (ps := 1176) (pm := 1175) (MW := mt_L_parameter) (hh := hh_parameter) (a := [.ref 0, .int x1, .int x2, .ref 108]) (kv := 1) C hM hlen hslo hw_parameter ⟨by decide +kernel, by decide +kernel, by show _ = some 4; decide +kernel⟩ (by decide) (by decide) (show decode code 296 = .ok (.invokestatic 74, 3) by decide +kernel), zRep_dead hw' (by omega) (l_109 hw'), lK_d hw', lY_d hw', hz⟩
    · have hM := zh_parameter_107 hg hst (d := 198) (by omega) hG hlE (l_00 hw)
      exact ⟨2, zdd μ' w1.1.length, zdead w1, lG_wr (pcP := 296) (ixL := 74) (pl := 1177) (ps := 1176) (pm := 1175) (MW := mt_L_parameter) (hh := hh_parameter) (a := [.ref 0, .int x1, .int x2, .ref 108]) (kv := 2) C hM hlen hslo hw_parameter ⟨by decide +kernel, by decide +kernel, by show _ = some 4; decide +kernel⟩ (by decide) (by decide) (show decode code 296 = .ok (.invokestatic 74, 3) by decide +kernel), zRep_dead hw' (by omega) (l_109 hw'), lK_d hw', lY_d hw', hz⟩
set_option maxHeartbeats 4000000 in
theorem lq_way {g : zΓ} {x : lE} {L : Nat} (hg : zg g) (hst : g.2.2.1.stackTraces = false) (C : lC g x L) {x1 x2 : Int32} {w : mW} {μ : zM} {lv : List (Nat × Value)} (hw : zRep μ w) (hwl : w.1.length < 1000000) :
    ∃ (kv : Int32) (μ' : zM) (w' : mW), lG g x (336, lv, [.ref 108, .int x2, .int x1, .ref 0], w) (339, lv, [.int kv], w') ∧ zRep μ' w' ∧ lK μ μ' ∧ lY μ μ' ∧ (μ'.1 1 ((4 : Nat) : Int) = μ.1 1 ((4 : Nat) : Int) ∧ μ'.1 2 = μ.1 2 ∧ lZ μ μ') := by
  have e : ([.inr (.inr (0, 0)), .inl x1.toInt, .inl x2.toInt] : List zV).map zt = [.ref 0, .int x1, .int x2] := by simp [zt]
  rcases zE_end (zg_go hg) (zg_at hg (show mt_tab[104]? = some mt_X8_way from rfl)) (zx_X8_way hg 198 (by omega) (As := [.inr (.inr (0, 0)), .inl x1.toInt, .inl x2.toInt]) (Q := fun v μ' => (∃ u : Int, v = some (.inl u)) ∧ lK μ μ' ∧ lY μ μ' ∧ (μ'.1 1 ((4 : Nat) : Int) = μ.1 1 ((4 : Nat) : Int) ∧ μ'.1 2 = μ.1 2 ∧ lZ μ μ')) (T := fun pc μ' => pc = 30 ∧ μ' = μ) hw (List.forall_mem_cons.mpr ⟨by show 0 < 1048576; omega, List.forall_mem_cons.mpr ⟨True.intro, List.forall_mem_cons.mpr ⟨True.intro, fun _ q => by cases q⟩⟩⟩) ⟨x1.toInt, x2.toInt, rfl, zR_i x1, zR_i x2, fun v _ _ => ⟨⟨v, rfl⟩, lK_r μ, lY_r μ, rfl, rfl, rfl⟩, ⟨rfl, rfl⟩⟩) with ⟨v, μ', w', hmet, hmono, hw', -, ⟨⟨u, rfl⟩, hk, hY, hln⟩⟩ | ⟨σ', μ', ix, hG, hw', -, h2, h3⟩
  · rw [e] at hmet
    obtain ⟨a, h8⟩ := l_08 hw'
    obtain ⟨lv', hF⟩ := zf_way hg hmet hmono (l_00 hw) h8
    have hM := zw_ret (hh := hh_way) (v := some (.int 0)) hg mw_L_way rfl rfl rfl hF (by show (if narrow .int (Value.int 0) = .int 0 then some (some (Value.int 0), _) else none) = _; exact if_pos rfl)
    exact ⟨0, _, _, lG_wr (pcP := 336) (ixL := 77) (pl := 1186) (ps := 1185) (pm := 1184) (MW := mt_L_way) (hh := hh_way) (a := [.ref 0, .int x1, .int x2, .ref 108]) (kv := 0) C hM (by show (w'.1.set 108 _).length = w.1.length + ((w'.1.set 108 _).length - w.1.length); simp only [List.length_set]; omega) (by show w'.2 = w.2 + (w'.2 - w.2); omega) hw_way ⟨by decide +kernel, by decide +kernel, by show _ = some 4; decide +kernel⟩ (by decide) (by decide) (show decode code 336 = .ok (.invokestatic 77, 3) by decide +kernel), zRep_long hw' h8, lK_o hk, lY_o hY, ⟨by rw [zu_ne (by decide)]; exact hln.1, by rw [zu_ne (by decide)]; exact hln.2.1, by unfold lZ; rw [zu_ne (by decide)]; exact hln.2.2⟩⟩
  · rw [← zargs_eq, e] at hG
    obtain ⟨pcn, lv', st', w1⟩ := σ'
    dsimp only at h2 h3 hw'
    subst h2
    obtain ⟨h3, rfl⟩ := h3
    have e1 := hw.2.1
    have e2 := hw'.2.1
    have hlE : w1.1.length < mx_E := by unfold mx_E; omega
    have hlen : (zdead w1).1.length = w.1.length + (w1.1.length - w.1.length + 1) := by show (w1.1 ++ [_]).length = _; simp; omega
    have hslo : (zdead w1).2 = w.2 + (w1.2 - w.2 + 6) := by show w1.2 + 6 = _; omega
    have hz : (zdd μ' w1.1.length).1 1 ((4 : Nat) : Int) = μ'.1 1 ((4 : Nat) : Int) ∧ (zdd μ' w1.1.length).1 2 = μ'.1 2 ∧ lZ μ' (zdd μ' w1.1.length) := ⟨by rw [zdd_n (by decide)], zdd_n (by decide), by unfold lZ; rw [zdd_n (by decide)]⟩
    subst h3
    have hM := zh_way_30 hg hst (d := 198) (by omega) hG hlE (l_00 hw)
    exact ⟨1, zdd μ' w1.1.length, zdead w1, lG_wr (pcP := 336) (ixL := 77) (pl := 1186) (ps := 1185) (pm := 1184) (MW := mt_L_way) (hh := hh_way) (a := [.ref 0, .int x1, .int x2, .ref 108]) (kv := 1) C hM hlen hslo hw_way ⟨by decide +kernel, by decide +kernel, by show _ = some 4; decide +kernel⟩ (by decide) (by decide) (show decode code 336 = .ok (.invokestatic 77, 3) by decide +kernel), zRep_dead hw' (by omega) (l_109 hw'), lK_d hw', lY_d hw', hz⟩
set_option maxHeartbeats 4000000 in
theorem lq_ask {g : zΓ} {x : lE} {L : Nat} (hg : zg g) (hst : g.2.2.1.stackTraces = false) (C : lC g x L) {x1 : Int32} {w : mW} {μ : zM} {lv : List (Nat × Value)} (hw : zRep μ w) (hwl : w.1.length < 1000000) (hPB : ∀ i : Int, 0 ≤ i → i < μ.1 1 ((4 : Nat) : Int) → 0 ≤ μ.1 2 i ∧ μ.1 2 i ≤ 255) (hPL : 0 ≤ μ.1 1 ((4 : Nat) : Int) ∧ μ.1 1 ((4 : Nat) : Int) ≤ 800) {B : yB} (hCB : ∀ t : Nat, (t : Int) = μ.1 0 ((3 : Nat) : Int) → aT μ t B) (hB : aB B) (hW : aW B) (hQg : yQg ((μ.1 2, μ.1 1 ((4 : Nat) : Int)) : yT) B) :
    ∃ (kv : Int32) (μ' : zM) (w' : mW), lG g x (370, lv, [.ref 108, .int x1, .ref 0], w) (373, lv, [.int kv], w') ∧ zRep μ' w' ∧ lK μ μ' ∧ lY μ μ' ∧ ((0 ≤ x1.toInt ∧ x1.toInt ≤ 3000 → μ'.1 1 ((4 : Nat) : Int) = 0) ∧ (x1.toInt < 0 ∨ 3000 < x1.toInt → μ'.1 1 ((4 : Nat) : Int) = μ.1 1 ((4 : Nat) : Int))) ∧ (x1.toInt < 0 ∨ 3000 < x1.toInt → μ'.1 2 = μ.1 2 ∧ lZ μ μ') ∧ ((kv = 0 ∧ (0 ≤ x1.toInt ∧ x1.toInt ≤ 3000) ∧ ∃ u y : Int, μ'.1 3000108 0 = (Int32.ofInt u).toInt64.toInt ∧ yAk ((μ.1 2, μ.1 1 ((4 : Nat) : Int)) : yT) B x1.toInt y u) ∨ (kv = 1 ∧ (x1.toInt < 0 ∨ 3000 < x1.toInt))) := by
  have e : ([.inr (.inr (0, 0)), .inl x1.toInt] : List zV).map zt = [.ref 0, .int x1] := by simp [zt]
  rcases zE_end (zg_go hg) (zg_at hg (show mt_tab[105]? = some mt_X8_ask from rfl)) (gx_X8_ask hg 198 (by omega) (As := [.inr (.inr (0, 0)), .inl x1.toInt]) (Q := fun v μ' => (∃ u : Int, v = some (.inl u) ∧ ∃ y, yAk ((μ.1 2, μ.1 1 ((4 : Nat) : Int)) : yT) B x1.toInt y u) ∧ lK μ μ' ∧ lY μ μ' ∧ μ'.1 1 ((4 : Nat) : Int) = 0 ∧ (0 ≤ x1.toInt ∧ x1.toInt ≤ 3000)) (T := fun pc μ' => (pc = 11 ∧ (x1.toInt < 0 ∨ 3000 < x1.toInt)) ∧ μ' = μ) hw (List.forall_mem_cons.mpr ⟨by show 0 < 1048576; omega, List.forall_mem_cons.mpr ⟨True.intro, fun _ q => by cases q⟩⟩) ⟨x1.toInt, B, rfl, zR_i x1, hPB, hPL, hCB, hB, hW, aSz_w hw, hQg, fun v μ' z _ _ e1 e2 e3 => ⟨⟨v, rfl, _, e3⟩, lK_f (zle_lf z.1.1), lY_q z, e1, e2⟩, fun h => ⟨⟨rfl, h⟩, rfl⟩⟩) with ⟨v, μ', w', hmet, hmono, hw', -, ⟨⟨u, rfl, y, hu⟩, hk, hY, hln, hc⟩⟩ | ⟨σ', μ', ix, hG, hw', -, h2, h3⟩
  · rw [e] at hmet
    obtain ⟨a, h8⟩ := l_08 hw'
    obtain ⟨lv', hF⟩ := zf_ask hg hmet hmono (l_00 hw) h8
    have hM := zw_ret (hh := hh_ask) (v := some (.int 0)) hg mw_L_ask rfl rfl rfl hF (by show (if narrow .int (Value.int 0) = .int 0 then some (some (Value.int 0), _) else none) = _; exact if_pos rfl)
    exact ⟨0, _, _, lG_wr (pcP := 370) (ixL := 80) (pl := 1193) (ps := 1192) (pm := 1191) (MW := mt_L_ask) (hh := hh_ask) (a := [.ref 0, .int x1, .ref 108]) (kv := 0) C hM (by show (w'.1.set 108 _).length = w.1.length + ((w'.1.set 108 _).length - w.1.length); simp only [List.length_set]; omega) (by show w'.2 = w.2 + (w'.2 - w.2); omega) hw_ask ⟨by decide +kernel, by decide +kernel, by show _ = some 3; decide +kernel⟩ (by decide) (by decide) (show decode code 370 = .ok (.invokestatic 80, 3) by decide +kernel), zRep_long hw' h8, lK_o hk, lY_o hY, ⟨⟨fun _ => by rw [zu_ne (by decide)]; exact hln, fun h => by omega⟩, fun h => by omega, Or.inl ⟨rfl, hc, u, y, by rw [zu_at, mx_g_s, if_pos rfl], hu⟩⟩⟩
  · rw [← zargs_eq, e] at hG
    obtain ⟨pcn, lv', st', w1⟩ := σ'
    dsimp only at h2 h3 hw'
    subst h2
    obtain ⟨h3, rfl⟩ := h3
    have e1 := hw.2.1
    have e2 := hw'.2.1
    have hlE : w1.1.length < mx_E := by unfold mx_E; omega
    have hlen : (zdead w1).1.length = w.1.length + (w1.1.length - w.1.length + 1) := by show (w1.1 ++ [_]).length = _; simp; omega
    have hslo : (zdead w1).2 = w.2 + (w1.2 - w.2 + 6) := by show w1.2 + 6 = _; omega
    have hz : (zdd μ' w1.1.length).1 1 ((4 : Nat) : Int) = μ'.1 1 ((4 : Nat) : Int) ∧ (zdd μ' w1.1.length).1 2 = μ'.1 2 ∧ lZ μ' (zdd μ' w1.1.length) := ⟨by rw [zdd_n (by decide)], zdd_n (by decide), by unfold lZ; rw [zdd_n (by decide)]⟩
    obtain ⟨rfl, hc⟩ := h3
    have hM := zh_ask_11 hg hst (d := 198) (by omega) hG hlE (l_00 hw)
    exact ⟨1, zdd μ' w1.1.length, zdead w1, lG_wr (pcP := 370) (ixL := 80) (pl := 1193) (ps := 1192) (pm := 1191) (MW := mt_L_ask) (hh := hh_ask) (a := [.ref 0, .int x1, .ref 108]) (kv := 1) C hM hlen hslo hw_ask ⟨by decide +kernel, by decide +kernel, by show _ = some 3; decide +kernel⟩ (by decide) (by decide) (show decode code 370 = .ok (.invokestatic 80, 3) by decide +kernel), zRep_dead hw' (by omega) (l_109 hw'), lK_d hw', lY_d hw', ⟨⟨fun h => by omega, fun _ => hz.1⟩, fun _ => hz.2, Or.inr ⟨rfl, hc⟩⟩⟩
set_option maxHeartbeats 4000000 in
theorem lq_told {g : zΓ} {x : lE} {L : Nat} (hg : zg g) (hst : g.2.2.1.stackTraces = false) (C : lC g x L) {x1 : Int32} {w : mW} {μ : zM} {lv : List (Nat × Value)} (hw : zRep μ w) (hwl : w.1.length < 1000000) :
    ∃ (kv : Int32) (μ' : zM) (w' : mW), lG g x (426, lv, [.ref 108, .int x1, .ref 0], w) (429, lv, [.int kv], w') ∧ zRep μ' w' ∧ lK μ μ' ∧ lY μ μ' ∧ (μ'.1 1 ((4 : Nat) : Int) = μ.1 1 ((4 : Nat) : Int) ∧ μ'.1 2 = μ.1 2 ∧ lZ μ μ') := by
  have e : ([.inr (.inr (0, 0)), .inl x1.toInt] : List zV).map zt = [.ref 0, .int x1] := by simp [zt]
  rcases zE_end (zg_go hg) (zg_at hg (show mt_tab[106]? = some mt_X8_told from rfl)) (zx_X8_told hg 198 (by omega) (As := [.inr (.inr (0, 0)), .inl x1.toInt]) (Q := fun v μ' => (∃ u : Int, v = some (.inl u)) ∧ lK μ μ' ∧ lY μ μ' ∧ (μ'.1 1 ((4 : Nat) : Int) = μ.1 1 ((4 : Nat) : Int) ∧ μ'.1 2 = μ.1 2 ∧ lZ μ μ')) (T := fun pc μ' => pc = 144 ∧ μ' = μ) hw (List.forall_mem_cons.mpr ⟨by show 0 < 1048576; omega, List.forall_mem_cons.mpr ⟨True.intro, fun _ q => by cases q⟩⟩) ⟨x1.toInt, rfl, zR_i x1, fun v _ _ => ⟨⟨v, rfl⟩, lK_r μ, lY_r μ, rfl, rfl, rfl⟩, ⟨rfl, rfl⟩⟩) with ⟨v, μ', w', hmet, hmono, hw', -, ⟨⟨u, rfl⟩, hk, hY, hln⟩⟩ | ⟨σ', μ', ix, hG, hw', -, h2, h3⟩
  · rw [e] at hmet
    obtain ⟨a, h8⟩ := l_08 hw'
    obtain ⟨lv', hF⟩ := zf_told hg hmet hmono (l_00 hw) h8
    have hM := zw_ret (hh := hh_told) (v := some (.int 0)) hg mw_L_told rfl rfl rfl hF (by show (if narrow .int (Value.int 0) = .int 0 then some (some (Value.int 0), _) else none) = _; exact if_pos rfl)
    exact ⟨0, _, _, lG_wr (pcP := 426) (ixL := 87) (pl := 1236) (ps := 1235) (pm := 1234) (MW := mt_L_told) (hh := hh_told) (a := [.ref 0, .int x1, .ref 108]) (kv := 0) C hM (by show (w'.1.set 108 _).length = w.1.length + ((w'.1.set 108 _).length - w.1.length); simp only [List.length_set]; omega) (by show w'.2 = w.2 + (w'.2 - w.2); omega) hw_told ⟨by decide +kernel, by decide +kernel, by show _ = some 3; decide +kernel⟩ (by decide) (by decide) (show decode code 426 = .ok (.invokestatic 87, 3) by decide +kernel), zRep_long hw' h8, lK_o hk, lY_o hY, ⟨by rw [zu_ne (by decide)]; exact hln.1, by rw [zu_ne (by decide)]; exact hln.2.1, by unfold lZ; rw [zu_ne (by decide)]; exact hln.2.2⟩⟩
  · rw [← zargs_eq, e] at hG
    obtain ⟨pcn, lv', st', w1⟩ := σ'
    dsimp only at h2 h3 hw'
    subst h2
    obtain ⟨h3, rfl⟩ := h3
    have e1 := hw.2.1
    have e2 := hw'.2.1
    have hlE : w1.1.length < mx_E := by unfold mx_E; omega
    have hlen : (zdead w1).1.length = w.1.length + (w1.1.length - w.1.length + 1) := by show (w1.1 ++ [_]).length = _; simp; omega
    have hslo : (zdead w1).2 = w.2 + (w1.2 - w.2 + 6) := by show w1.2 + 6 = _; omega
    have hz : (zdd μ' w1.1.length).1 1 ((4 : Nat) : Int) = μ'.1 1 ((4 : Nat) : Int) ∧ (zdd μ' w1.1.length).1 2 = μ'.1 2 ∧ lZ μ' (zdd μ' w1.1.length) := ⟨by rw [zdd_n (by decide)], zdd_n (by decide), by unfold lZ; rw [zdd_n (by decide)]⟩
    subst h3
    have hM := zh_told_144 hg hst (d := 198) (by omega) hG hlE (l_00 hw)
    exact ⟨1, zdd μ' w1.1.length, zdead w1, lG_wr (pcP := 426) (ixL := 87) (pl := 1236) (ps := 1235) (pm := 1234) (MW := mt_L_told) (hh := hh_told) (a := [.ref 0, .int x1, .ref 108]) (kv := 1) C hM hlen hslo hw_told ⟨by decide +kernel, by decide +kernel, by show _ = some 3; decide +kernel⟩ (by decide) (by decide) (show decode code 426 = .ok (.invokestatic 87, 3) by decide +kernel), zRep_dead hw' (by omega) (l_109 hw'), lK_d hw', lY_d hw', hz⟩
set_option maxHeartbeats 4000000 in
theorem lq_variable {g : zΓ} {x : lE} {L : Nat} (hg : zg g) (hst : g.2.2.1.stackTraces = false) (C : lC g x L) {x1 x2 : Int32} {w : mW} {μ : zM} {lv : List (Nat × Value)} (hw : zRep μ w) (hwl : w.1.length < 1000000) :
    ∃ (kv : Int32) (μ' : zM) (w' : mW), lG g x (473, lv, [.ref 108, .int x2, .int x1, .ref 0], w) (476, lv, [.int kv], w') ∧ zRep μ' w' ∧ lK μ μ' ∧ lY μ μ' ∧ (μ'.1 1 ((4 : Nat) : Int) = μ.1 1 ((4 : Nat) : Int) ∧ μ'.1 2 = μ.1 2 ∧ lZ μ μ') := by
  have e : ([.inr (.inr (0, 0)), .inl x1.toInt, .inl x2.toInt] : List zV).map zt = [.ref 0, .int x1, .int x2] := by simp [zt]
  rcases zE_end (zg_go hg) (zg_at hg (show mt_tab[108]? = some mt_X8_variable from rfl)) (xx_X8_variable hg 198 (by omega) (As := [.inr (.inr (0, 0)), .inl x1.toInt, .inl x2.toInt]) (Q := fun v μ' => (∃ u : Int, v = some (.inl u)) ∧ lK μ μ' ∧ lY μ μ' ∧ (μ'.1 1 ((4 : Nat) : Int) = μ.1 1 ((4 : Nat) : Int) ∧ μ'.1 2 = μ.1 2 ∧ lZ μ μ')) (T := fun pc μ' => pc = 15 ∧ μ' = μ) hw (List.forall_mem_cons.mpr ⟨by show 0 < 1048576; omega, List.forall_mem_cons.mpr ⟨True.intro, List.forall_mem_cons.mpr ⟨True.intro, fun _ q => by cases q⟩⟩⟩) ⟨x1.toInt, x2.toInt, rfl, zR_i x1, zR_i x2, fun v μ' z _ _ e1 => ⟨⟨v, rfl⟩, lK_f (zle_lf z.1.1), lY_0 z, e1, z.2 2 (by decide), by unfold lZ; rw [z.2 0 (by decide)]⟩, ⟨rfl, rfl⟩⟩) with ⟨v, μ', w', hmet, hmono, hw', -, ⟨⟨u, rfl⟩, hk, hY, hln⟩⟩ | ⟨σ', μ', ix, hG, hw', -, h2, h3⟩
  · rw [e] at hmet
    obtain ⟨a, h8⟩ := l_08 hw'
    obtain ⟨lv', hF⟩ := zf_variable hg hmet hmono (l_00 hw) h8
    have hM := zw_ret (hh := hh_variable) (v := some (.int 0)) hg mw_L_variable rfl rfl rfl hF (by show (if narrow .int (Value.int 0) = .int 0 then some (some (Value.int 0), _) else none) = _; exact if_pos rfl)
    exact ⟨0, _, _, lG_wr (pcP := 473) (ixL := 94) (pl := 1244) (ps := 1243) (pm := 1242) (MW := mt_L_variable) (hh := hh_variable) (a := [.ref 0, .int x1, .int x2, .ref 108]) (kv := 0) C hM (by show (w'.1.set 108 _).length = w.1.length + ((w'.1.set 108 _).length - w.1.length); simp only [List.length_set]; omega) (by show w'.2 = w.2 + (w'.2 - w.2); omega) hw_variable ⟨by decide +kernel, by decide +kernel, by show _ = some 4; decide +kernel⟩ (by decide) (by decide) (show decode code 473 = .ok (.invokestatic 94, 3) by decide +kernel), zRep_long hw' h8, lK_o hk, lY_o hY, ⟨by rw [zu_ne (by decide)]; exact hln.1, by rw [zu_ne (by decide)]; exact hln.2.1, by unfold lZ; rw [zu_ne (by decide)]; exact hln.2.2⟩⟩
  · rw [← zargs_eq, e] at hG
    obtain ⟨pcn, lv', st', w1⟩ := σ'
    dsimp only at h2 h3 hw'
    subst h2
    obtain ⟨h3, rfl⟩ := h3
    have e1 := hw.2.1
    have e2 := hw'.2.1
    have hlE : w1.1.length < mx_E := by unfold mx_E; omega
    have hlen : (zdead w1).1.length = w.1.length + (w1.1.length - w.1.length + 1) := by show (w1.1 ++ [_]).length = _; simp; omega
    have hslo : (zdead w1).2 = w.2 + (w1.2 - w.2 + 6) := by show w1.2 + 6 = _; omega
    have hz : (zdd μ' w1.1.length).1 1 ((4 : Nat) : Int) = μ'.1 1 ((4 : Nat) : Int) ∧ (zdd μ' w1.1.length).1 2 = μ'.1 2 ∧ lZ μ' (zdd μ' w1.1.length) := ⟨by rw [zdd_n (by decide)], zdd_n (by decide), by unfold lZ; rw [zdd_n (by decide)]⟩
    subst h3
    have hM := zh_variable_15 hg hst (d := 198) (by omega) hG hlE (l_00 hw)
    exact ⟨1, zdd μ' w1.1.length, zdead w1, lG_wr (pcP := 473) (ixL := 94) (pl := 1244) (ps := 1243) (pm := 1242) (MW := mt_L_variable) (hh := hh_variable) (a := [.ref 0, .int x1, .int x2, .ref 108]) (kv := 1) C hM hlen hslo hw_variable ⟨by decide +kernel, by decide +kernel, by show _ = some 4; decide +kernel⟩ (by decide) (by decide) (show decode code 473 = .ok (.invokestatic 94, 3) by decide +kernel), zRep_dead hw' (by omega) (l_109 hw'), lK_d hw', lY_d hw', hz⟩
set_option maxHeartbeats 4000000 in
theorem lq_written {g : zΓ} {x : lE} {L : Nat} (hg : zg g) (hst : g.2.2.1.stackTraces = false) (C : lC g x L) {x1 : Int32} {w : mW} {μ : zM} {lv : List (Nat × Value)} (hw : zRep μ w) (hwl : w.1.length < 1000000) :
    ∃ (kv : Int32) (μ' : zM) (w' : mW), lG g x (507, lv, [.ref 108, .int x1, .ref 0], w) (510, lv, [.int kv], w') ∧ zRep μ' w' ∧ lK μ μ' ∧ lY μ μ' ∧ (μ'.1 1 ((4 : Nat) : Int) = μ.1 1 ((4 : Nat) : Int) ∧ μ'.1 2 = μ.1 2 ∧ lZ μ μ') := by
  have e : ([.inr (.inr (0, 0)), .inl x1.toInt] : List zV).map zt = [.ref 0, .int x1] := by simp [zt]
  rcases zE_end (zg_go hg) (zg_at hg (show mt_tab[109]? = some mt_X8_written from rfl)) (zx_X8_written hg 198 (by omega) (As := [.inr (.inr (0, 0)), .inl x1.toInt]) (Q := fun v μ' => (∃ u : Int, v = some (.inl u)) ∧ lK μ μ' ∧ lY μ μ' ∧ (μ'.1 1 ((4 : Nat) : Int) = μ.1 1 ((4 : Nat) : Int) ∧ μ'.1 2 = μ.1 2 ∧ lZ μ μ')) (T := fun pc μ' => pc = 15 ∧ μ' = μ) hw (List.forall_mem_cons.mpr ⟨by show 0 < 1048576; omega, List.forall_mem_cons.mpr ⟨True.intro, fun _ q => by cases q⟩⟩) ⟨x1.toInt, rfl, zR_i x1, fun v _ _ => ⟨⟨v, rfl⟩, lK_r μ, lY_r μ, rfl, rfl, rfl⟩, ⟨rfl, rfl⟩⟩) with ⟨v, μ', w', hmet, hmono, hw', -, ⟨⟨u, rfl⟩, hk, hY, hln⟩⟩ | ⟨σ', μ', ix, hG, hw', -, h2, h3⟩
  · rw [e] at hmet
    obtain ⟨a, h8⟩ := l_08 hw'
    obtain ⟨lv', hF⟩ := zf_written hg hmet hmono (l_00 hw) h8
    have hM := zw_ret (hh := hh_written) (v := some (.int 0)) hg mw_L_written rfl rfl rfl hF (by show (if narrow .int (Value.int 0) = .int 0 then some (some (Value.int 0), _) else none) = _; exact if_pos rfl)
    exact ⟨0, _, _, lG_wr (pcP := 507) (ixL := 97) (pl := 1253) (ps := 1252) (pm := 1251) (MW := mt_L_written) (hh := hh_written) (a := [.ref 0, .int x1, .ref 108]) (kv := 0) C hM (by show (w'.1.set 108 _).length = w.1.length + ((w'.1.set 108 _).length - w.1.length); simp only [List.length_set]; omega) (by show w'.2 = w.2 + (w'.2 - w.2); omega) hw_written ⟨by decide +kernel, by decide +kernel, by show _ = some 3; decide +kernel⟩ (by decide) (by decide) (show decode code 507 = .ok (.invokestatic 97, 3) by decide +kernel), zRep_long hw' h8, lK_o hk, lY_o hY, ⟨by rw [zu_ne (by decide)]; exact hln.1, by rw [zu_ne (by decide)]; exact hln.2.1, by unfold lZ; rw [zu_ne (by decide)]; exact hln.2.2⟩⟩
  · rw [← zargs_eq, e] at hG
    obtain ⟨pcn, lv', st', w1⟩ := σ'
    dsimp only at h2 h3 hw'
    subst h2
    obtain ⟨h3, rfl⟩ := h3
    have e1 := hw.2.1
    have e2 := hw'.2.1
    have hlE : w1.1.length < mx_E := by unfold mx_E; omega
    have hlen : (zdead w1).1.length = w.1.length + (w1.1.length - w.1.length + 1) := by show (w1.1 ++ [_]).length = _; simp; omega
    have hslo : (zdead w1).2 = w.2 + (w1.2 - w.2 + 6) := by show w1.2 + 6 = _; omega
    have hz : (zdd μ' w1.1.length).1 1 ((4 : Nat) : Int) = μ'.1 1 ((4 : Nat) : Int) ∧ (zdd μ' w1.1.length).1 2 = μ'.1 2 ∧ lZ μ' (zdd μ' w1.1.length) := ⟨by rw [zdd_n (by decide)], zdd_n (by decide), by unfold lZ; rw [zdd_n (by decide)]⟩
    subst h3
    have hM := zh_written_15 hg hst (d := 198) (by omega) hG hlE (l_00 hw)
    exact ⟨1, zdd μ' w1.1.length, zdead w1, lG_wr (pcP := 507) (ixL := 97) (pl := 1253) (ps := 1252) (pm := 1251) (MW := mt_L_written) (hh := hh_written) (a := [.ref 0, .int x1, .ref 108]) (kv := 1) C hM hlen hslo hw_written ⟨by decide +kernel, by decide +kernel, by show _ = some 3; decide +kernel⟩ (by decide) (by decide) (show decode code 507 = .ok (.invokestatic 97, 3) by decide +kernel), zRep_dead hw' (by omega) (l_109 hw'), lK_d hw', lY_d hw', hz⟩
