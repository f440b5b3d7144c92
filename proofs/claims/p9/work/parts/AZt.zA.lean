/-! ### the bytes that come in -/
def rby (x : Int64) (k : Int) : Int := (Int32.ofInt ((x >>> ((Int32.ofInt (8 * k)).toInt64 &&& 63)).toInt32.toInt) &&& Int32.ofInt 255).toInt
def cby (x : Int64) (k : Int) : Int := (Int32.ofInt ((x.toUInt64 >>> ((Int32.ofInt (8 * k)).toInt64.toUInt64 &&& Int64.toUInt64 63)).toInt64.toInt32.toInt) &&& Int32.ofInt 255).toInt
theorem by_8 (i : Nat) (hi : i < 32) : (255#32).getLsbD i = decide (i < 8) := by
  rw [BitVec.getLsbD_ofNat, show 255 = 2 ^ 8 - 1 from rfl, Nat.testBit_two_pow_sub_one]
  simp; omega
theorem by_bits (b : BitVec 64) (s : Nat) (hs : s + 8 ≤ 64) : (b.sshiftRight s).signExtend 32 &&& 255#32 = (b >>> s).signExtend 32 &&& 255#32 := by
  apply BitVec.eq_of_getLsbD_eq
  intro i hi
  rw [BitVec.getLsbD_and, BitVec.getLsbD_and, BitVec.getLsbD_signExtend, BitVec.getLsbD_signExtend, by_8 i hi]
  by_cases h : i < 8
  · rw [if_pos (show i < 64 by omega), if_pos (show i < 64 by omega), BitVec.getLsbD_sshiftRight, BitVec.getLsbD_ushiftRight, if_pos (show s + i < 64 by omega)]
    simp [show ¬ 64 ≤ i by omega]
  · simp [h]
theorem by_2 (b : BitVec 32) : 0 ≤ (b &&& 255#32).toInt ∧ (b &&& 255#32).toInt ≤ 255 := by
  have h : (b &&& 255#32).toNat ≤ 255 := by rw [BitVec.toNat_and]; exact Nat.and_le_right
  rw [BitVec.toInt_eq_toNat_cond]
  rw [if_pos (by omega)]
  omega
theorem rby_b (x : Int64) (k : Int) : 0 ≤ rby x k ∧ rby x k ≤ 255 := by
  unfold rby
  exact by_2 (Int32.ofInt ((x >>> ((Int32.ofInt (8 * k)).toInt64 &&& 63)).toInt32.toInt)).toBitVec
theorem cby_r {x : Int64} {k : Int} (h0 : 0 ≤ k) (h7 : k ≤ 7) : cby x k = rby x k := by
  unfold cby rby
  rw [Int32.ofInt_toInt, Int32.ofInt_toInt]
  congr 1
  apply Int32.toBitVec_inj.mp
  rcases (show k = 0 ∨ k = 1 ∨ k = 2 ∨ k = 3 ∨ k = 4 ∨ k = 5 ∨ k = 6 ∨ k = 7 by omega) with rfl | rfl | rfl | rfl | rfl | rfl | rfl | rfl
  all_goals
    simp only [Int32.toBitVec_and, Int64.toBitVec_toInt32, Int64.toBitVec_shiftRight, UInt64.toBitVec_toInt64, UInt64.toBitVec_shiftRight, Int64.toBitVec_toUInt64]
  · exact (by_bits x.toBitVec 0 (by decide)).symm
  · exact (by_bits x.toBitVec 8 (by decide)).symm
  · exact (by_bits x.toBitVec 16 (by decide)).symm
  · exact (by_bits x.toBitVec 24 (by decide)).symm
  · exact (by_bits x.toBitVec 32 (by decide)).symm
  · exact (by_bits x.toBitVec 40 (by decide)).symm
  · exact (by_bits x.toBitVec 48 (by decide)).symm
  · exact (by_bits x.toBitVec 56 (by decide)).symm
/-- bytes put in from s on, up to e; t is the last one's place -/
def rtp (f : Int → Int) (s e t : Int) (g : Int → Int) : Int → Int := fun i => if s ≤ i ∧ i < e then g (t - i) else f i
theorem rtp_0 (f : Int → Int) (s t : Int) (g : Int → Int) : f = rtp f s s t g := by
  funext i
  unfold rtp
  rw [if_neg (by omega)]
theorem rtp_s {m m' : zM} {c : Nat} {f g : Int → Int} {s e t k y : Int} (h : m.1 c = rtp f s e t g) (he : m' = zu m c k y) (hk : k = e) (hy : y = g (t - e)) (hs : s ≤ e) : m'.1 c = rtp f s (e + 1) t g := by
  funext i
  rw [he, zu_if, h, hk]
  unfold rtp
  by_cases q : i = e
  · rw [if_pos q, if_pos (by omega), hy, q]
  · rw [if_neg q]
    by_cases p : s ≤ i ∧ i < e
    · rw [if_pos p, if_pos (by omega)]
    · rw [if_neg p, if_neg (by omega)]
theorem rtp_b {f g : Int → Int} {s n : Int} (h : ∀ i : Int, 0 ≤ i → i < s → 0 ≤ f i ∧ f i ≤ 255) (hg : ∀ k : Int, 0 ≤ g k ∧ g k ≤ 255) : ∀ i : Int, 0 ≤ i → i < s + n → 0 ≤ rtp f s (s + n) (s + n - 1) g i ∧ rtp f s (s + n) (s + n - 1) g i ≤ 255 := fun i i0 i1 => by
  unfold rtp
  by_cases q : s ≤ i ∧ i < s + n
  · rw [if_pos q]; exact hg _
  · rw [if_neg q]; exact h i i0 (by omega)
theorem rtp_e {f f' : Int → Int} {x : Int64} {s n : Int} (hn : n ≤ 8) (h : ∀ i : Int, 0 ≤ i → i < s → f i = f' i) : ∀ i : Int, 0 ≤ i → i < s + n → rtp f s (s + n) (s + n - 1) (cby x) i = rtp f' s (s + n) (s + n - 1) (rby x) i := fun i i0 i1 => by
  unfold rtp
  by_cases q : s ≤ i ∧ i < s + n
  · rw [if_pos q, if_pos q]; exact cby_r (by omega) (by omega)
  · rw [if_neg q, if_neg q]; exact h i i0 (by omega)
def yk_X9_feed : zC := fun As μ Q => ∃ (a1 : Int64) (a2 : Int), As = [.inr (.inr (66, 66)), .inr (.inl a1), .inl a2] ∧ ((-2147483648) ≤ a2 ∧ a2 ≤ 2147483647) ∧ (0 ≤ μ.1 66 ((29 : Nat) : Int) ∧ μ.1 66 ((29 : Nat) : Int) ≤ 800) ∧ (∀ (v : Int) (μ' : zM), zfx [85] [29, 54] μ μ' → 0 ≤ v → v ≤ 800 → ((1 ≤ a2 ∧ a2 ≤ 8 ∧ μ.1 66 ((29 : Nat) : Int) + a2 ≤ 800 ∧ μ'.1 66 ((54 : Nat) : Int) = 0 ∧ v = μ.1 66 ((29 : Nat) : Int) + a2 ∧ μ'.1 66 ((29 : Nat) : Int) = μ.1 66 ((29 : Nat) : Int) + a2) ∨ (1 ≤ a2 ∧ a2 ≤ 8 ∧ 800 < μ.1 66 ((29 : Nat) : Int) + a2 ∧ μ'.1 66 ((54 : Nat) : Int) = 2 ∧ μ'.1 66 ((29 : Nat) : Int) = μ.1 66 ((29 : Nat) : Int)) ∨ ((a2 < 1 ∨ 8 < a2) ∧ μ'.1 66 ((54 : Nat) : Int) = 1 ∧ μ'.1 66 ((29 : Nat) : Int) = μ.1 66 ((29 : Nat) : Int))) → ((1 ≤ a2 ∧ a2 ≤ 8 ∧ μ.1 66 ((29 : Nat) : Int) + a2 ≤ 800 → μ'.1 85 = rtp (μ.1 85) (μ.1 66 ((29 : Nat) : Int)) (μ.1 66 ((29 : Nat) : Int) + a2) (μ.1 66 ((29 : Nat) : Int) + a2 - 1) (rby a1)) ∧ (¬ (1 ≤ a2 ∧ a2 ≤ 8 ∧ μ.1 66 ((29 : Nat) : Int) + a2 ≤ 800) → μ'.1 85 = μ.1 85)) → Q (some (.inl v)) μ')
set_option maxHeartbeats 4000000 in
theorem ym_X9_feed {g : zΓ} (hg : zg g) (d : Nat) (hd : 1 ≤ d) : zOk g d 180 yk_X9_feed := by
  obtain ⟨d, rfl⟩ : ∃ d', d = d' + 1 := ⟨d - 1, by omega⟩
  refine zOk_loop hg (show mt_tab[180]? = some mt_X9_feed from rfl) ([(50, [0, 1, 4])], []) 59 rfl fun As μ Q hC => ?_
  obtain ⟨a1, a2, rfl, ha2, hp0, hQ⟩ := hC
  obtain ⟨g1, wg1⟩ : ∃ z : Int, μ.1 66 ((29 : Nat) : Int) = z := ⟨_, rfl⟩
  obtain ⟨g2, wg2⟩ : ∃ z : Int, μ.1 66 ((54 : Nat) : Int) = z := ⟨_, rfl⟩
  try rw [wg1] at hp0
  try rw [wg2] at hp0
  have z0 : zfx [85] [29, 54] μ μ := zfx_x μ
  refine ⟨rfl, fun pc vs μ' n => ∃ (v1 : Int64) (v4 : Int), vs = [.inr (.inr (66, 66)), .inr (.inl v1), .inl v4] ∧ zfx [85] [29, 54] μ μ' ∧ ((-1) ≤ v4 ∧ v4 ≤ 7) ∧ (1 ≤ a2 ∧ a2 ≤ 8 ∧ μ.1 66 ((29 : Nat) : Int) + a2 ≤ 800 ∧ μ'.1 66 ((54 : Nat) : Int) = 0) ∧ (μ'.1 66 ((29 : Nat) : Int) + v4 + 1 = μ.1 66 ((29 : Nat) : Int) + a2) ∧ (v1 = a1 ∧ v4 ≤ a2 - 1) ∧ (μ'.1 85 = rtp (μ.1 85) (μ.1 66 ((29 : Nat) : Int)) (μ'.1 66 ((29 : Nat) : Int)) (μ.1 66 ((29 : Nat) : Int) + a2 - 1) (rby a1)) ∧ n = (Int.toNat (v4 + 1)), ?_, ?_, trivial⟩
  · refine And.intro ⟨⟨by omega, by omega⟩, ⟨by omega, by omega⟩⟩ (And.intro (fun c3 => ?_) (fun c3 => ?_))
    · refine And.intro ⟨by omega, by omega⟩ ?_
      intro m4 em4
      have z5 := zfx_f z0 em4 rfl
      have w6 : m4.1 66 ((29 : Nat) : Int) = g1 := by rw [em4]; exact (zu_nk (by decide)).trans wg1
      have w7 : m4.1 66 ((54 : Nat) : Int) = 1 := by rw [em4]; exact zu_at
      intro x8 hx8 kx8 lx8
      rw [w7] at hx8
      refine And.intro ⟨by omega, by omega⟩ (And.intro (fun c9 => ?_) (fun c9 => ?_))
      · exfalso; omega
      · exact And.intro trivial (And.intro ⟨by omega, by omega⟩ (hQ _ _ z5 (by omega) (by omega) (by (try rw [w6]) <;> (try rw [w7]) <;> (try rw [wg1]) <;> (try rw [wg2]) <;> omega) ⟨fun h0 => by exfalso; rw [wg1] at h0; omega, fun _ => by rw [em4, zu_ne (by decide)]⟩))
    · refine And.intro ⟨⟨by omega, by omega⟩, ⟨by omega, by omega⟩⟩ (And.intro (fun c10 => ?_) (fun c10 => ?_))
      · intro x11 hx11 kx11 lx11
        rw [wg1] at hx11
        refine And.intro ⟨⟨by omega, by omega⟩, ⟨by omega, by omega⟩⟩ (And.intro (fun c12 => ?_) (fun c12 => ?_))
        · refine And.intro ⟨by omega, by omega⟩ ?_
          intro m13 em13
          have z14 := zfx_f z0 em13 rfl
          have w15 : m13.1 66 ((29 : Nat) : Int) = g1 := by rw [em13]; exact (zu_nk (by decide)).trans wg1
          have w16 : m13.1 66 ((54 : Nat) : Int) = 0 := by rw [em13]; exact zu_at
          intro x17 hx17 kx17 lx17
          rw [w16] at hx17
          refine And.intro ⟨by omega, by omega⟩ (And.intro (fun c18 => ?_) (fun c18 => ?_))
          · refine Exists.intro (Int.toNat ((a2 - 1) + 1)) ?_
            exact ⟨_, _, rfl, z14, ⟨by omega, by omega⟩, (by (try rw [w15]) <;> (try rw [w16]) <;> (try rw [wg1]) <;> (try rw [wg2]) <;> omega), (by (try rw [w15]) <;> (try rw [w16]) <;> (try rw [wg1]) <;> (try rw [wg2]) <;> omega), ⟨rfl, by omega⟩, (by rw [w15, wg1, em13, zu_ne (by decide)]; exact rtp_0 _ _ _ _), rfl⟩
          · exfalso; omega
        · refine And.intro ⟨by omega, by omega⟩ ?_
          intro m19 em19
          have z20 := zfx_f z0 em19 rfl
          have w21 : m19.1 66 ((29 : Nat) : Int) = g1 := by rw [em19]; exact (zu_nk (by decide)).trans wg1
          have w22 : m19.1 66 ((54 : Nat) : Int) = 2 := by rw [em19]; exact zu_at
          intro x23 hx23 kx23 lx23
          rw [w22] at hx23
          refine And.intro ⟨by omega, by omega⟩ (And.intro (fun c24 => ?_) (fun c24 => ?_))
          · exfalso; omega
          · exact And.intro trivial (And.intro ⟨by omega, by omega⟩ (hQ _ _ z20 (by omega) (by omega) (by (try rw [w21]) <;> (try rw [w22]) <;> (try rw [wg1]) <;> (try rw [wg2]) <;> omega) ⟨fun h0 => by exfalso; rw [wg1] at h0; omega, fun _ => by rw [em19, zu_ne (by decide)]⟩))
      · refine And.intro ⟨by omega, by omega⟩ ?_
        intro m25 em25
        have z26 := zfx_f z0 em25 rfl
        have w27 : m25.1 66 ((29 : Nat) : Int) = g1 := by rw [em25]; exact (zu_nk (by decide)).trans wg1
        have w28 : m25.1 66 ((54 : Nat) : Int) = 1 := by rw [em25]; exact zu_at
        intro x29 hx29 kx29 lx29
        rw [w28] at hx29
        refine And.intro ⟨by omega, by omega⟩ (And.intro (fun c30 => ?_) (fun c30 => ?_))
        · exfalso; omega
        · exact And.intro trivial (And.intro ⟨by omega, by omega⟩ (hQ _ _ z26 (by omega) (by omega) (by (try rw [w27]) <;> (try rw [w28]) <;> (try rw [wg1]) <;> (try rw [wg2]) <;> omega) ⟨fun h0 => by exfalso; rw [wg1] at h0; omega, fun _ => by rw [em25, zu_ne (by decide)]⟩))
  · intro vs m0 n hI
    clear z0
    obtain ⟨v1, v4, rfl, z0, hv4, i0, i1, i2, i3, rfl⟩ := hI
    obtain ⟨g31, wg31⟩ : ∃ z : Int, m0.1 66 ((29 : Nat) : Int) = z := ⟨_, rfl⟩
    obtain ⟨g32, wg32⟩ : ∃ z : Int, m0.1 66 ((54 : Nat) : Int) = z := ⟨_, rfl⟩
    try rw [wg31] at i0
    try rw [wg32] at i0
    try rw [wg1] at i0
    try rw [wg2] at i0
    try rw [wg31] at i1
    try rw [wg32] at i1
    try rw [wg1] at i1
    try rw [wg2] at i1
    try rw [wg31] at i2
    try rw [wg32] at i2
    try rw [wg1] at i2
    try rw [wg2] at i2
    try rw [wg31] at i3
    try rw [wg32] at i3
    try rw [wg1] at i3
    try rw [wg2] at i3
    refine And.intro ⟨by omega, by omega⟩ (And.intro (fun c33 => ?_) (fun c33 => ?_))
    · intro x34 hx34 kx34 lx34
      rw [wg31] at hx34
      exact And.intro trivial (And.intro ⟨by omega, by omega⟩ (hQ _ _ z0 (by omega) (by omega) (by (try rw [wg31]) <;> (try rw [wg32]) <;> (try rw [wg1]) <;> (try rw [wg2]) <;> omega) ⟨fun _ => by rw [wg1, i3, show g31 = g1 + a2 by omega], fun h0 => by exfalso; rw [wg1] at h0; omega⟩))
    · intro x35 hx35 kx35 lx35
      rw [wg31] at hx35
      intro x36 hx36 kx36 lx36
      intro x37 hx37 kx37 lx37
      refine And.intro ⟨by omega, by omega⟩ (And.intro ⟨by omega, by omega⟩ ?_)
      intro m38 em38
      have z39 := zfx_r z0 em38 rfl (by decide)
      have w40 : m38.1 66 ((29 : Nat) : Int) = g31 := by rw [em38]; exact (congrFun (zu_ne (by decide)) _).trans wg31
      have w41 : m38.1 66 ((54 : Nat) : Int) = g32 := by rw [em38]; exact (congrFun (zu_ne (by decide)) _).trans wg32
      intro x42 hx42 kx42 lx42
      rw [w40] at hx42
      refine And.intro ⟨by omega, by omega⟩ ?_
      intro m43 em43
      have z44 := zfx_f z39 em43 rfl
      have w45 : m43.1 66 ((29 : Nat) : Int) = (x42 + 1) := by rw [em43]; exact zu_at
      have w46 : m43.1 66 ((54 : Nat) : Int) = g32 := by rw [em43]; exact (zu_nk (by decide)).trans w41
      clear w40 w41
      refine Exists.intro (Int.toNat ((v4 + (-1)) + 1)) (And.intro (by (try rw [w45]) <;> (try rw [w46]) <;> (try rw [wg31]) <;> (try rw [wg32]) <;> (try rw [wg1]) <;> (try rw [wg2]) <;> omega) ?_)
      exact ⟨_, _, rfl, z44, ⟨by omega, by omega⟩, (by (try rw [w45]) <;> (try rw [w46]) <;> (try rw [wg31]) <;> (try rw [wg32]) <;> (try rw [wg1]) <;> (try rw [wg2]) <;> omega), (by (try rw [w45]) <;> (try rw [w46]) <;> (try rw [wg31]) <;> (try rw [wg32]) <;> (try rw [wg1]) <;> (try rw [wg2]) <;> omega), ⟨i2.1, by omega⟩, (by rw [w45, wg1, em43, zu_ne (by decide), show (x42 + 1) = g31 + 1 by omega]; exact rtp_s i3 em38 (by omega) (by rw [show g1 + a2 - 1 - g31 = v4 by omega, ← i2.1, hx37, hx36]; rfl) (by omega)), rfl⟩
