/-! ===== the JDK's own methods: bitCount, numberOfTrailingZeros, max, min ===== -/
theorem x_ldcw {Γ : GT} {E : CT} {q : MD} {k n : Nat} {G : GG} {z : Nat} {M : MM} {pc : Nat} {L : List (Option Value)} {st : List Value} (h : Ok Γ E q) {idx : Nat} {v : Int32} (hw : KW (Cond.constant q.1.cls idx v)) (d : decode q.2.1 pc = .ok (.ldc_w idx, 3)) (kk : X Γ E k n G z M (pc + 3) L (.int v :: st)) : X Γ E k n G z M pc L st :=
  fun H locs ls hH hF hL => lv_ldcw h.1 h.2.1 h.2.2.2.2.2.1 (h.ks.at hw) d (kk H locs ls hH hF hL)
theorem and_split {k a c : Nat} (ha : a < 2 ^ k) (hc : c < 2 ^ k) (r s : Nat) : (a + 2 ^ k * r) &&& (c + 2 ^ k * s) = (a &&& c) + 2 ^ k * (r &&& s) := by
  have hac : a &&& c < 2 ^ k := Nat.and_lt_two_pow a hc
  refine Nat.eq_of_testBit_eq (fun i => ?_)
  rw [Nat.testBit_and, Nat.add_comm a, Nat.add_comm c, Nat.add_comm (a &&& c), Nat.testBit_two_pow_mul_add _ ha, Nat.testBit_two_pow_mul_add _ hc, Nat.testBit_two_pow_mul_add _ hac]
  by_cases hi : i < k
  · simp [hi]
  · simp [hi]
/-- a byte again and again -/
def mkB (c : Nat) : Nat → Nat
  | 0 => 0
  | n + 1 => c + 256 * mkB c n
def pA (n x : Nat) : Nat := x - ((x / 2) &&& mkB 85 n)
def pB (n x : Nat) : Nat := (x &&& mkB 51 n) + ((x / 4) &&& mkB 51 n)
def pC (n x : Nat) : Nat := (x + x / 16) &&& mkB 15 n
theorem and_byte {c : Nat} (hc : c < 256) (n x : Nat) : x &&& mkB c (n + 1) = (x % 256 &&& c) + 256 * (x / 256 &&& mkB c n) := by
  have := and_split (k := 8) (a := x % 256) (c := c) (Nat.mod_lt _ (by decide)) hc (x / 256) (mkB c n)
  rw [mkB]
  rw [show x = x % 256 + 2 ^ 8 * (x / 256) by omega]
  rw [show 256 * mkB c n = 2 ^ 8 * mkB c n from rfl, this]
  congr 1
  · congr 1; omega
  · show 256 * _ = 256 * _
    congr 2; omega
theorem byte_A : ∀ b, b < 256 → ∀ c, c < 2 → (b / 2 + 128 * c) &&& 85 = (b / 2 &&& 85) ∧ (b / 2 &&& 85) ≤ b := by decide +kernel
theorem byte_B : ∀ b, b < 256 → ∀ c, c < 4 → (b / 4 + 64 * c) &&& 51 = (b / 4 &&& 51) := by decide +kernel
def q1 (b : Nat) : Nat := b - (b / 2 &&& 85)
def q2 (b : Nat) : Nat := (q1 b &&& 51) + (q1 b / 4 &&& 51)
theorem byte_P : ∀ b, b < 256 → q1 b < 256 ∧ (q1 b &&& 51) + (q1 b / 4 &&& 51) < 256 ∧ q2 b % 16 ≤ 4 ∧ q2 b / 16 ≤ 4 ∧ q2 b % 16 + q2 b / 16 = fb_ct (fun i => b.testBit i) 8 := by decide +kernel
theorem pA_step (n b r : Nat) (hb : b < 256) (hle : (r / 2 &&& mkB 85 n) ≤ r) : pA (n + 1) (b + 256 * r) = q1 b + 256 * pA n r ∧ ((b + 256 * r) / 2 &&& mkB 85 (n + 1)) ≤ b + 256 * r := by
  have e1 : ((b + 256 * r) / 2 &&& mkB 85 (n + 1)) = (b / 2 &&& 85) + 256 * (r / 2 &&& mkB 85 n) := by
    rw [and_byte (by decide)]
    have h1 : (b + 256 * r) / 2 % 256 = b / 2 + 128 * (r % 2) := by omega
    have h2 : (b + 256 * r) / 2 / 256 = r / 2 := by omega
    rw [h1, h2, (byte_A b hb (r % 2) (Nat.mod_lt _ (by decide))).1]
  have h3 := (byte_A b hb 0 (by decide)).2
  refine ⟨?_, ?_⟩
  · unfold pA q1
    rw [e1]
    omega
  · rw [e1]; omega
theorem pA_le : ∀ n x, x < 256 ^ n → (x / 2 &&& mkB 85 n) ≤ x
  | 0, x, h => by simp [mkB]
  | n + 1, x, h => by
    have h1 : x / 256 < 256 ^ n := by
      rw [Nat.pow_succ] at h
      omega
    have := (pA_step n (x % 256) (x / 256) (Nat.mod_lt _ (by decide)) (pA_le n (x / 256) h1)).2
    rwa [show x % 256 + 256 * (x / 256) = x by omega] at this
theorem pB_step (n b r : Nat) (hb : b < 256) (h4 : (b &&& 51) + (b / 4 &&& 51) < 256) : pB (n + 1) (b + 256 * r) = ((b &&& 51) + (b / 4 &&& 51)) + 256 * pB n r := by
  unfold pB
  rw [and_byte (by decide), and_byte (by decide)]
  have h0 : (b + 256 * r) % 256 = b := by omega
  have h0' : (b + 256 * r) / 256 = r := by omega
  have h1 : (b + 256 * r) / 4 % 256 = b / 4 + 64 * (r % 4) := by omega
  have h2 : (b + 256 * r) / 4 / 256 = r / 4 := by omega
  rw [h0, h0', h1, h2, byte_B b hb (r % 4) (Nat.mod_lt _ (by decide))]
  omega
theorem low4 : ∀ x, x < 256 → x &&& 15 = x % 16 := by decide +kernel
theorem pC_step (n b r : Nat) (h1 : b % 16 ≤ 4) (h2 : b / 16 ≤ 4) (h3 : r % 16 ≤ 4) : pC (n + 1) (b + 256 * r) = (b % 16 + b / 16) + 256 * pC n r := by
  unfold pC
  rw [and_byte (by decide)]
  have e1 : (b + 256 * r + (b + 256 * r) / 16) % 256 = b + b / 16 + 16 * (r % 16) := by omega
  have e2 : (b + 256 * r + (b + 256 * r) / 16) / 256 = r + r / 16 := by omega
  rw [e1, e2, low4 _ (by omega)]
  have : (b + b / 16 + 16 * (r % 16)) % 16 = b % 16 + b / 16 := by omega
  rw [this]
/-- the bytes of the three first steps: how many bits each byte has -/
def pcB (x : Nat) : Nat → Nat
  | 0 => 0
  | n + 1 => fb_ct (fun i => (x % 256).testBit i) 8 + 256 * pcB (x / 256) n
theorem pAB_low : ∀ n x, x < 256 ^ n → pB n (pA n x) % 16 ≤ 4
  | 0, x, h => by simp [pB, mkB]
  | n + 1, x, h => by
    have hm : x % 256 < 256 := Nat.mod_lt _ (by decide)
    have h1 : x / 256 < 256 ^ n := by rw [Nat.pow_succ] at h; omega
    have hx : x = x % 256 + 256 * (x / 256) := by omega
    have hp := byte_P _ hm
    rw [hx, (pA_step n _ _ hm (pA_le n _ h1)).1, pB_step n _ _ hp.1 hp.2.1]
    have : (q1 (x % 256) &&& 51) + (q1 (x % 256) / 4 &&& 51) = q2 (x % 256) := rfl
    have h2 : q2 (x % 256) % 16 ≤ 4 := hp.2.2.1
    omega
theorem pABC : ∀ n x, x < 256 ^ n → pC n (pB n (pA n x)) = pcB x n
  | 0, x, h => by simp [pC, mkB, pcB]
  | n + 1, x, h => by
    have hm : x % 256 < 256 := Nat.mod_lt _ (by decide)
    have h1 : x / 256 < 256 ^ n := by rw [Nat.pow_succ] at h; omega
    have hx : x = x % 256 + 256 * (x / 256) := by omega
    have hp := byte_P _ hm
    have e : pC (n + 1) (pB (n + 1) (pA (n + 1) x)) = pC (n + 1) (q2 (x % 256) + 256 * pB n (pA n (x / 256))) := by
      conv => lhs; rw [hx, (pA_step n _ _ hm (pA_le n _ h1)).1, pB_step n _ _ hp.1 hp.2.1]
      rfl
    rw [e, pC_step n _ _ hp.2.2.1 hp.2.2.2.1 (pAB_low n _ h1), pABC n _ h1, pcB]
    congr 1
    exact hp.2.2.2.2
theorem ct8 (p : Nat → Bool) : fb_ct p 8 ≤ 8 := fb_ct_le p 8
theorem ct_byte (x k : Nat) : fb_ct (fun i => x.testBit i) (8 + k) = fb_ct (fun i => (x % 256).testBit i) 8 + fb_ct (fun i => (x / 256).testBit i) k := by
  rw [fb_ct_split]
  congr 1
  · refine fb_ct_cong (fun i hi => ?_)
    have := Nat.testBit_mod_two_pow x 8 i
    rw [show (2 : Nat) ^ 8 = 256 from rfl] at this
    rw [this]
    simp [hi]
  · refine fb_ct_cong (fun i hi => ?_)
    show x.testBit (8 + i) = (x / 256).testBit i
    rw [show x / 256 = x / 2 ^ 8 from rfl, Nat.testBit_div_two_pow, Nat.add_comm]
/-- all of it, of 64 bits -/
def pcN (x : Nat) : Nat :=
  let y := pC 8 (pB 8 (pA 8 x))
  let y1 := y + y / 256
  let y2 := y1 + y1 / 65536
  let y3 := y2 + y2 / 4294967296
  y3 % 128
theorem pc_a {c r y : Nat} (h : c ≤ 8) (e : y = c + 256 * r) : y / 256 = r := by omega
theorem pc_b {y r1 r2 r3 c0 c1 c2 : Nat} (h0 : c0 ≤ 8) (h1 : c1 ≤ 8) (h2 : c2 ≤ 8) (e0 : y = c0 + 256 * r1) (e1 : r1 = c1 + 256 * r2) (e2 : r2 = c2 + 256 * r3) : (y + r1) / 65536 = r2 + r3 := by omega
theorem pc_c {y r1 r2 r3 r4 c0 c1 c2 c3 : Nat} (e0 : y = c0 + 256 * r1) (e1 : r1 = c1 + 256 * r2) (e2 : r2 = c2 + 256 * r3) (e3 : r3 = c3 + 256 * r4) : y = (c0 + 256 * c1 + 65536 * c2 + 16777216 * c3) + 4294967296 * r4 := by omega
theorem pc_d {a b c d r4 r5 r6 r7 y r1 r2 r3 : Nat} (ha : a < 200000000) (hb : b < 200000000) (hc : c < 200000000) (hd : d < 200000000) (ey : y = a + 4294967296 * r4) (e1 : r1 = b + 4294967296 * r5) (e2 : r2 = c + 4294967296 * r6) (e3 : r3 = d + 4294967296 * r7) : (y + r1 + (r2 + r3)) / 4294967296 = r4 + r5 + r6 + r7 := by omega
theorem pc_e {c0 c1 c2 c3 : Nat} (h0 : c0 ≤ 8) (h1 : c1 ≤ 8) (h2 : c2 ≤ 8) (h3 : c3 ≤ 8) : c0 + 256 * c1 + 65536 * c2 + 16777216 * c3 < 200000000 := by omega
theorem pc_f {y c r : Nat} (e : y = c + 256 * r) : ∃ t, y = c + 128 * t := ⟨2 * r, by omega⟩
theorem pc_g {y0 y1 y2 y3 y4 y5 y6 y7 c0 c1 c2 c3 c4 c5 c6 c7 : Nat} (h0 : c0 ≤ 8) (h1 : c1 ≤ 8) (h2 : c2 ≤ 8) (h3 : c3 ≤ 8) (h4 : c4 ≤ 8) (h5 : c5 ≤ 8) (h6 : c6 ≤ 8) (h7 : c7 ≤ 8) (e0 : ∃ t, y0 = c0 + 128 * t) (e1 : ∃ t, y1 = c1 + 128 * t) (e2 : ∃ t, y2 = c2 + 128 * t) (e3 : ∃ t, y3 = c3 + 128 * t) (e4 : ∃ t, y4 = c4 + 128 * t) (e5 : ∃ t, y5 = c5 + 128 * t) (e6 : ∃ t, y6 = c6 + 128 * t) (e7 : ∃ t, y7 = c7 + 128 * t) : (y0 + y1 + (y2 + y3) + (y4 + y5 + y6 + y7)) % 128 = c0 + (c1 + (c2 + (c3 + (c4 + (c5 + (c6 + c7)))))) := by
  obtain ⟨t0, rfl⟩ := e0
  obtain ⟨t1, rfl⟩ := e1
  obtain ⟨t2, rfl⟩ := e2
  obtain ⟨t3, rfl⟩ := e3
  obtain ⟨t4, rfl⟩ := e4
  obtain ⟨t5, rfl⟩ := e5
  obtain ⟨t6, rfl⟩ := e6
  obtain ⟨t7, rfl⟩ := e7
  rw [show c0 + 128 * t0 + (c1 + 128 * t1) + (c2 + 128 * t2 + (c3 + 128 * t3)) + (c4 + 128 * t4 + (c5 + 128 * t5) + (c6 + 128 * t6) + (c7 + 128 * t7)) = (c0 + (c1 + (c2 + (c3 + (c4 + (c5 + (c6 + c7))))))) + 128 * (t0 + t1 + t2 + t3 + t4 + t5 + t6 + t7) by omega, Nat.add_mul_mod_self_left]
  exact Nat.mod_eq_of_lt (by omega)
theorem pc_z {y r1 r2 r3 r4 r5 r6 r7 c0 c1 c2 c3 c4 c5 c6 c7 : Nat} (h0 : c0 ≤ 8) (h1 : c1 ≤ 8) (h2 : c2 ≤ 8) (h3 : c3 ≤ 8) (h4 : c4 ≤ 8) (h5 : c5 ≤ 8) (h6 : c6 ≤ 8) (h7 : c7 ≤ 8) (e0 : y = c0 + 256 * r1) (e1 : r1 = c1 + 256 * r2) (e2 : r2 = c2 + 256 * r3) (e3 : r3 = c3 + 256 * r4) (e4 : r4 = c4 + 256 * r5) (e5 : r5 = c5 + 256 * r6) (e6 : r6 = c6 + 256 * r7) (e7 : r7 = c7 + 256 * 0) :
    ((y + y / 256 + (y + y / 256) / 65536) + (y + y / 256 + (y + y / 256) / 65536) / 4294967296) % 128 = c0 + (c1 + (c2 + (c3 + (c4 + (c5 + (c6 + c7)))))) := by
  rw [pc_a h0 e0, pc_b h0 h1 h2 e0 e1 e2, pc_d (pc_e h0 h1 h2 h3) (pc_e h1 h2 h3 h4) (pc_e h2 h3 h4 h5) (pc_e h3 h4 h5 h6) (pc_c e0 e1 e2 e3) (pc_c e1 e2 e3 e4) (pc_c e2 e3 e4 e5) (pc_c e3 e4 e5 e6)]
  exact pc_g h0 h1 h2 h3 h4 h5 h6 h7 (pc_f e0) (pc_f e1) (pc_f e2) (pc_f e3) (pc_f e4) (pc_f e5) (pc_f e6) (pc_f e7)
theorem ct_8 (x : Nat) : fb_ct (fun i => (x % 256).testBit i) 8 = fb_ct (fun i => x.testBit i) 8 := by
  refine fb_ct_cong (fun i hi => ?_)
  have := Nat.testBit_mod_two_pow x 8 i
  rw [show (2 : Nat) ^ 8 = 256 from rfl] at this
  rw [this]
  simp [hi]
theorem p8 {x : Nat} (h : x < 2 ^ 64) : x < 256 ^ 8 := Nat.lt_of_lt_of_le h (Nat.le_of_ble_eq_true rfl)
theorem pcN_eq {x : Nat} (h : x < 2 ^ 64) : pcN x = fb_ct (fun i => x.testBit i) 64 := by
  unfold pcN
  rw [pABC 8 x (p8 h)]
  rw [show (64 : Nat) = 8 + (8 + (8 + (8 + (8 + (8 + (8 + 8)))))) from rfl, ct_byte, ct_byte, ct_byte, ct_byte, ct_byte, ct_byte, ct_byte]
  rw [← ct_8 (x / 256 / 256 / 256 / 256 / 256 / 256 / 256)]
  exact pc_z (ct8 _) (ct8 _) (ct8 _) (ct8 _) (ct8 _) (ct8 _) (ct8 _) (ct8 _) (r1 := pcB (x / 256) 7) (r2 := pcB (x / 256 / 256) 6) (r3 := pcB (x / 256 / 256 / 256) 5) (r4 := pcB (x / 256 / 256 / 256 / 256) 4) (r5 := pcB (x / 256 / 256 / 256 / 256 / 256) 3) (r6 := pcB (x / 256 / 256 / 256 / 256 / 256 / 256) 2) (r7 := pcB (x / 256 / 256 / 256 / 256 / 256 / 256 / 256) 1) rfl rfl rfl rfl rfl rfl rfl rfl

theorem mk85 : (6148914691236517205 : Int64) = lN (mkB 85 8) := by decide +kernel
theorem mk51 : (3689348814741910323 : Int64) = lN (mkB 51 8) := by decide +kernel
theorem mk15 : (1085102592571150095 : Int64) = lN (mkB 15 8) := by decide +kernel
theorem mk_lt : mkB 85 8 < 2 ^ 63 ∧ mkB 51 8 < 2 ^ 62 ∧ mkB 15 8 < 2 ^ 60 := by decide +kernel
theorem pB_lt (x : Nat) : pB 8 x < 2 ^ 63 := by
  unfold pB
  have h1 : x &&& mkB 51 8 < 2 ^ 62 := Nat.and_lt_two_pow _ mk_lt.2.1
  have h2 : x / 4 &&& mkB 51 8 < 2 ^ 62 := Nat.and_lt_two_pow _ mk_lt.2.1
  omega
theorem pC_lt (x : Nat) : pC 8 x < 2 ^ 60 := Nat.and_lt_two_pow _ mk_lt.2.2
/-- Long.bitCount: how many bits -/
theorem c_J13_bitCount {Γ : GT} {G : GG} {M : MM} {m : Nat} (hm : m < 2 ^ 64) : Calls Γ q_J13_bitCount [.long (lN m)] G M (rI (fun v M' => v = nI (fb_ct (fun i => m.testBit i) 64) ∧ M' = M)) := by
  refine Calls.intro (by decide +kernel) (Nat.le_of_ble_eq_true rfl) (fun z E h hQ => ?_)
  refine x_lload_n h dJ13_bitCount_95d88_0 rfl ?_
  refine x_lload_n h dJ13_bitCount_95d88_1 rfl ?_
  refine x_in1 h dJ13_bitCount_95d88_2 ?_
  refine x_lushr h dJ13_bitCount_95d88_3 ?_
  refine x_topl (wb_shr hm (by decide)) ?_
  refine x_ldc2 h kl_J13_314 dJ13_bitCount_95d88_4 ?_
  refine x_topl mk85 ?_
  refine x_land h dJ13_bitCount_95d88_7 ?_
  refine x_topl (fb_andL _ _) ?_
  refine x_lsub h dJ13_bitCount_95d88_8 ?_
  refine x_topl (lN_sub (pA_le 8 m (p8 hm))) ?_
  refine x_topl (y := lN (pA 8 m)) (congrArg lN rfl) ?_
  have hA : pA 8 m < 2 ^ 64 := Nat.lt_of_le_of_lt (Nat.sub_le _ _) hm
  generalize hAe : pA 8 m = A at hA ⊢
  refine x_lstore_n h dJ13_bitCount_95d88_9 rfl rfl ?_
  refine x_lload_n h dJ13_bitCount_95d88_10 rfl ?_
  refine x_ldc2 h kl_J13_316 dJ13_bitCount_95d88_11 ?_
  refine x_topl mk51 ?_
  refine x_land h dJ13_bitCount_95d88_14 ?_
  refine x_topl (fb_andL _ _) ?_
  refine x_lload_n h dJ13_bitCount_95d88_15 rfl ?_
  refine x_in2 h dJ13_bitCount_95d88_16 ?_
  refine x_lushr h dJ13_bitCount_95d88_17 ?_
  refine x_topl (wb_shr hA (by decide)) ?_
  refine x_ldc2 h kl_J13_316 dJ13_bitCount_95d88_18 ?_
  refine x_topl mk51 ?_
  refine x_land h dJ13_bitCount_95d88_21 ?_
  refine x_topl (fb_andL _ _) ?_
  refine x_ladd h dJ13_bitCount_95d88_22 ?_
  refine x_topl (lN_add _ _) ?_
  refine x_topl (y := lN (pB 8 A)) (congrArg lN rfl) ?_
  have hB := pB_lt A
  generalize hBe : pB 8 A = B at hB ⊢
  refine x_lstore_n h dJ13_bitCount_95d88_23 rfl rfl ?_
  refine x_lload_n h dJ13_bitCount_95d88_24 rfl ?_
  refine x_lload_n h dJ13_bitCount_95d88_25 rfl ?_
  refine x_in4 h dJ13_bitCount_95d88_26 ?_
  refine x_lushr h dJ13_bitCount_95d88_27 ?_
  refine x_topl (wb_shr (by omega) (by decide)) ?_
  refine x_ladd h dJ13_bitCount_95d88_28 ?_
  refine x_topl (lN_add _ _) ?_
  refine x_ldc2 h kl_J13_318 dJ13_bitCount_95d88_29 ?_
  refine x_topl mk15 ?_
  refine x_land h dJ13_bitCount_95d88_32 ?_
  refine x_topl (fb_andL _ _) ?_
  refine x_topl (y := lN (pC 8 B)) (congrArg lN rfl) ?_
  have hC := pC_lt B
  generalize hCe : pC 8 B = C at hC ⊢
  refine x_lstore_n h dJ13_bitCount_95d88_33 rfl rfl ?_
  refine x_lload_n h dJ13_bitCount_95d88_34 rfl ?_
  refine x_lload_n h dJ13_bitCount_95d88_35 rfl ?_
  refine x_bipush h (nI 8) (by decide) dJ13_bitCount_95d88_36 ?_
  refine x_lushr h dJ13_bitCount_95d88_38 ?_
  refine x_topl (wb_shr (by omega) (by decide)) ?_
  refine x_ladd h dJ13_bitCount_95d88_39 ?_
  refine x_topl (lN_add _ _) ?_
  refine x_lstore_n h dJ13_bitCount_95d88_40 rfl rfl ?_
  refine x_lload_n h dJ13_bitCount_95d88_41 rfl ?_
  refine x_lload_n h dJ13_bitCount_95d88_42 rfl ?_
  refine x_bipush h (nI 16) (by decide) dJ13_bitCount_95d88_43 ?_
  refine x_lushr h dJ13_bitCount_95d88_45 ?_
  refine x_topl (wb_shr (by omega) (by decide)) ?_
  refine x_ladd h dJ13_bitCount_95d88_46 ?_
  refine x_topl (lN_add _ _) ?_
  refine x_lstore_n h dJ13_bitCount_95d88_47 rfl rfl ?_
  refine x_lload_n h dJ13_bitCount_95d88_48 rfl ?_
  refine x_lload_n h dJ13_bitCount_95d88_49 rfl ?_
  refine x_bipush h (nI 32) (by decide) dJ13_bitCount_95d88_50 ?_
  refine x_lushr h dJ13_bitCount_95d88_52 ?_
  refine x_topl (wb_shr (by omega) (by decide)) ?_
  refine x_ladd h dJ13_bitCount_95d88_53 ?_
  refine x_topl (lN_add _ _) ?_
  refine x_lstore_n h dJ13_bitCount_95d88_54 rfl rfl ?_
  refine x_lload_n h dJ13_bitCount_95d88_55 rfl ?_
  refine x_l2i h dJ13_bitCount_95d88_56 ?_
  refine x_topi (lN_i _) ?_
  refine x_bipush h (nI 127) (by decide) dJ13_bitCount_95d88_57 ?_
  refine x_iand h dJ13_bitCount_95d88_59 ?_
  refine x_topi (fa_mask _ 7) ?_
  exact x_iret h hQ rfl dJ13_bitCount_95d88_60 ⟨rfl, rfl, _, rfl, by rw [← pcN_eq hm]; unfold pcN; rw [hAe, hBe, hCe], rfl⟩
section NR
variable {Γ : GT} {E : CT} {q : MD} {k n : Nat} {G : GG} {z : Nat} {M : MM} {pc : Nat} {L : List (Option Value)} {st : List Value}
theorem x_iaddn (h : Ok Γ E q) {x y : Nat} (d : decode q.2.1 pc = .ok (.iadd, 1)) (kk : X Γ E k n G z M (pc + 1) L (.int (nI (x + y)) :: st)) : X Γ E k n G z M pc L (.int (nI y) :: .int (nI x) :: st) := x_iadd h d (x_topi (nI_add x y) kk)
theorem x_imuln (h : Ok Γ E q) {x y : Nat} (d : decode q.2.1 pc = .ok (.imul, 1)) (kk : X Γ E k n G z M (pc + 1) L (.int (nI (x * y)) :: st)) : X Γ E k n G z M pc L (.int (nI y) :: .int (nI x) :: st) := x_imul h d (x_topi (pk_mul x y) kk)
theorem x_isubn (h : Ok Γ E q) {x y : Nat} (hy : y ≤ x) (d : decode q.2.1 pc = .ok (.isub, 1)) (kk : X Γ E k n G z M (pc + 1) L (.int (nI (x - y)) :: st)) : X Γ E k n G z M pc L (.int (nI y) :: .int (nI x) :: st) := x_isub h d (x_topi (pk_sub hy) kk)
theorem x_idivn (h : Ok Γ E q) {x y : Nat} (hx : x < 2 ^ 31 ∧ 0 < y ∧ y < 2 ^ 31) (d : decode q.2.1 pc = .ok (.idiv, 1)) (kk : X Γ E k n G z M (pc + 1) L (.int (nI (x / y)) :: st)) : X Γ E k n G z M pc L (.int (nI y) :: .int (nI x) :: st) := x_idiv h (nI_ne0 hx.2.1 hx.2.2) d (x_topi (pk_div hx.1 hx.2.1 hx.2.2) kk)
theorem x_iremn (h : Ok Γ E q) {x y : Nat} (hx : x < 2 ^ 31 ∧ 0 < y ∧ y < 2 ^ 31) (d : decode q.2.1 pc = .ok (.irem, 1)) (kk : X Γ E k n G z M (pc + 1) L (.int (nI (x % y)) :: st)) : X Γ E k n G z M pc L (.int (nI y) :: .int (nI x) :: st) := x_irem h (nI_ne0 hx.2.1 hx.2.2) d (x_topi (pk_rem hx.1 hx.2.1 hx.2.2) kk)
theorem x_iandn (h : Ok Γ E q) {x y : Nat} (d : decode q.2.1 pc = .ok (.iand, 1)) (kk : X Γ E k n G z M (pc + 1) L (.int (nI (x &&& y)) :: st)) : X Γ E k n G z M pc L (.int (nI y) :: .int (nI x) :: st) := x_iand h d (x_topi (fa_and x y) kk)
theorem x_iorn (h : Ok Γ E q) {x y : Nat} (d : decode q.2.1 pc = .ok (.ior, 1)) (kk : X Γ E k n G z M (pc + 1) L (.int (nI (x ||| y)) :: st)) : X Γ E k n G z M pc L (.int (nI y) :: .int (nI x) :: st) := x_ior h d (x_topi (fa_or x y) kk)
theorem x_ixorn (h : Ok Γ E q) {x y : Nat} (d : decode q.2.1 pc = .ok (.ixor, 1)) (kk : X Γ E k n G z M (pc + 1) L (.int (nI (x ^^^ y)) :: st)) : X Γ E k n G z M pc L (.int (nI y) :: .int (nI x) :: st) := x_ixor h d (x_topi (fb_xorI x y) kk)
theorem x_mmax (h : Ok Γ E q) {x y : Int32} {idx : Nat} (hl : KW (.methodLink q.1.cls idx q_J9_max.1)) (hLn : L.length = q.2.2.1) (hR : 1 ≤ q.2.2.2.2.frames ∧ 21 ≤ q.2.2.2.2.locals) (hk : k ≤ q.2.2.2.2.cells ∧ n ≤ q.2.2.2.2.slots) (hW : Nat.ble ((st.map fun v => v.category).sum) 8 = true) (d : decode q.2.1 pc = .ok (.invokestatic idx, 3)) (kk : X Γ E k n G z M (pc + 3) L (.int (if x < y then y else x) :: st)) : X Γ E k n G z M pc L (.int y :: .int x :: st) := fun H locs ls hH hF hL => by
  have hw := Nat.le_of_ble_eq_true hW
  exact va_mmax h.1 h.2.1 (by rw [h.2.2.1, hL.1, hLn]) h.2.2.2.2.2.1 (h.ks.at hl) (h.ks.at sm_J9_max) (h.ks.at ini_J9) (h.ks.at ci_J9_max.1) (by rw [h.2.2.2.2.1]; exact hR.1) (by rw [h.2.2.2.2.1]; omega) (by rw [h.2.2.2.2.1]; exact hk.1) (by rw [h.2.2.2.2.1]; exact hk.2) d (kk H locs ls hH hF hL)
theorem x_mmin (h : Ok Γ E q) {x y : Int32} {idx : Nat} (hl : KW (.methodLink q.1.cls idx q_J9_min.1)) (hLn : L.length = q.2.2.1) (hR : 1 ≤ q.2.2.2.2.frames ∧ 21 ≤ q.2.2.2.2.locals) (hk : k ≤ q.2.2.2.2.cells ∧ n ≤ q.2.2.2.2.slots) (hW : Nat.ble ((st.map fun v => v.category).sum) 8 = true) (d : decode q.2.1 pc = .ok (.invokestatic idx, 3)) (kk : X Γ E k n G z M (pc + 3) L (.int (if y < x then y else x) :: st)) : X Γ E k n G z M pc L (.int y :: .int x :: st) := fun H locs ls hH hF hL => by
  have hw := Nat.le_of_ble_eq_true hW
  exact va_mmin h.1 h.2.1 (by rw [h.2.2.1, hL.1, hLn]) h.2.2.2.2.2.1 (h.ks.at hl) (h.ks.at sm_J9_min) (h.ks.at ini_J9) (h.ks.at ci_J9_min.1) (by rw [h.2.2.2.2.1]; exact hR.1) (by rw [h.2.2.2.2.1]; omega) (by rw [h.2.2.2.2.1]; exact hk.1) (by rw [h.2.2.2.2.1]; exact hk.2) d (kk H locs ls hH hF hL)
end NR
/-- Integer.bitCount of a small set -/
theorem c_J6_bitCount {Γ : GT} {G : GG} {M : MM} {m : Nat} (hm : m < 32) : Calls Γ q_J6_bitCount [.int (nI m)] G M (rI (fun v M' => v = nI (fb_ct (fun i => m.testBit i) 5) ∧ M' = M)) := by
  refine Calls.intro (by decide +kernel) (Nat.le_of_ble_eq_true rfl) (fun z E h hQ => ?_)
  refine x_iload_n h dJ6_bitCount_0f7a4_0 rfl ?_
  refine x_iload_n h dJ6_bitCount_0f7a4_1 rfl ?_
  refine x_in1 h dJ6_bitCount_0f7a4_2 ?_
  refine x_iushr h dJ6_bitCount_0f7a4_3 ?_
  refine x_ldcw h kc_J6_265 dJ6_bitCount_0f7a4_4 ?_
  refine x_iand h dJ6_bitCount_0f7a4_7 ?_
  refine x_isub h dJ6_bitCount_0f7a4_8 ?_
  refine x_istore_n h dJ6_bitCount_0f7a4_9 rfl rfl ?_
  refine x_iload_n h dJ6_bitCount_0f7a4_10 rfl ?_
  refine x_ldcw h kc_J6_266 dJ6_bitCount_0f7a4_11 ?_
  refine x_iand h dJ6_bitCount_0f7a4_14 ?_
  refine x_iload_n h dJ6_bitCount_0f7a4_15 rfl ?_
  refine x_in2 h dJ6_bitCount_0f7a4_16 ?_
  refine x_iushr h dJ6_bitCount_0f7a4_17 ?_
  refine x_ldcw h kc_J6_266 dJ6_bitCount_0f7a4_18 ?_
  refine x_iand h dJ6_bitCount_0f7a4_21 ?_
  refine x_iadd h dJ6_bitCount_0f7a4_22 ?_
  refine x_istore_n h dJ6_bitCount_0f7a4_23 rfl rfl ?_
  refine x_iload_n h dJ6_bitCount_0f7a4_24 rfl ?_
  refine x_iload_n h dJ6_bitCount_0f7a4_25 rfl ?_
  refine x_in4 h dJ6_bitCount_0f7a4_26 ?_
  refine x_iushr h dJ6_bitCount_0f7a4_27 ?_
  refine x_iadd h dJ6_bitCount_0f7a4_28 ?_
  refine x_ldcw h kc_J6_267 dJ6_bitCount_0f7a4_29 ?_
  refine x_iand h dJ6_bitCount_0f7a4_32 ?_
  refine x_istore_n h dJ6_bitCount_0f7a4_33 rfl rfl ?_
  refine x_iload_n h dJ6_bitCount_0f7a4_34 rfl ?_
  refine x_iload_n h dJ6_bitCount_0f7a4_35 rfl ?_
  refine x_bipush h (nI 8) (by decide) dJ6_bitCount_0f7a4_36 ?_
  refine x_iushr h dJ6_bitCount_0f7a4_38 ?_
  refine x_iadd h dJ6_bitCount_0f7a4_39 ?_
  refine x_istore_n h dJ6_bitCount_0f7a4_40 rfl rfl ?_
  refine x_iload_n h dJ6_bitCount_0f7a4_41 rfl ?_
  refine x_iload_n h dJ6_bitCount_0f7a4_42 rfl ?_
  refine x_bipush h (nI 16) (by decide) dJ6_bitCount_0f7a4_43 ?_
  refine x_iushr h dJ6_bitCount_0f7a4_45 ?_
  refine x_iadd h dJ6_bitCount_0f7a4_46 ?_
  refine x_istore_n h dJ6_bitCount_0f7a4_47 rfl rfl ?_
  refine x_iload_n h dJ6_bitCount_0f7a4_48 rfl ?_
  refine x_bipush h (nI 63) (by decide) dJ6_bitCount_0f7a4_49 ?_
  refine x_iand h dJ6_bitCount_0f7a4_51 ?_
  exact x_iret h hQ rfl dJ6_bitCount_0f7a4_52 ⟨rfl, rfl, _, rfl, by clear hQ; revert m; decide +kernel, rfl⟩
/-- the lowest bit of a number -/
def lowb (m t : Nat) : Prop := m % 2 ^ (t + 1) = 2 ^ t
theorem nI_mod {a b : Nat} (h : a % 2 ^ 32 = b % 2 ^ 32) : nI a = nI b := by
  show Int32.ofNat a = Int32.ofNat b
  refine Int32.toBitVec_inj.mp ?_
  show BitVec.ofNat 32 a = BitVec.ofNat 32 b
  apply BitVec.eq_of_toNat_eq
  simpa using h
theorem low_mask {m t : Nat} (h : lowb m t) (ht : t < 32) : (nI m ^^^ (-1)) &&& (nI m - nI 1) = nI (2 ^ t - 1) := by
  unfold lowb at h
  have hp : 0 < 2 ^ t := Nat.two_pow_pos t
  have hm : m = 2 ^ (t + 1) * (m / 2 ^ (t + 1)) + 2 ^ t := by
    have := Nat.div_add_mod m (2 ^ (t + 1))
    omega
  generalize m / 2 ^ (t + 1) = r at hm
  have h1 : 1 ≤ m := by omega
  have h2 : m - 1 = 2 ^ (t + 1) * r + (2 ^ t - 1) := by omega
  have hlt : 2 ^ t - 1 < 2 ^ (t + 1) := by rw [Nat.pow_succ]; omega
  have hlt2 : 2 ^ t < 2 ^ (t + 1) := by rw [Nat.pow_succ]; omega
  rw [show (-1 : Int32) = nI (2 ^ 32 - 1) by decide +kernel, fb_xorI, pk_sub h1, fa_and]
  refine nI_mod ?_
  refine Nat.eq_of_testBit_eq (fun i => ?_)
  rw [Nat.testBit_mod_two_pow, Nat.testBit_mod_two_pow, Nat.testBit_and, Nat.testBit_xor, Nat.testBit_two_pow_sub_one, Nat.testBit_two_pow_sub_one, h2]
  rw [Nat.testBit_two_pow_mul_add _ hlt]
  rw [hm, Nat.testBit_two_pow_mul_add _ hlt2, Nat.testBit_two_pow_sub_one, Nat.testBit_two_pow]
  by_cases hi : i < 32
  · by_cases h3 : i < t + 1
    · by_cases h4 : i < t
      · simp [hi, h3, h4, show ¬ t = i by omega]
      · simp [hi, h3, h4, show t = i by omega]
    · simp [hi, h3, show ¬ i < t by omega]
  · simp [hi]
abbrev shn (i : Int32) (k : Nat) : Int32 := (i.toUInt32 >>> ((nI k).toUInt32 &&& Int32.toUInt32 31)).toInt32
def ntz4 (n i : Int32) : Int32 := if i ≤ nI 4 then n + shn i 1 else (n + 2) + shn (shn i 2) 1
def ntz3 (n i : Int32) : Int32 := if i ≤ nI 16 then ntz4 n i else ntz4 (n + 4) (shn i 4)
def ntz2 (n i : Int32) : Int32 := if i ≤ nI 256 then ntz3 n i else ntz3 (n + 8) (shn i 8)
def ntz1 (n i : Int32) : Int32 := if i ≤ 65536 then ntz2 n i else ntz2 (n + 16) (shn i 16)
def ntzF (i : Int32) : Int32 := if 0 < i then ntz1 (nI 1) i else i &&& nI 32
theorem ntz_ok : ∀ t, t < 32 → ntzF (nI (2 ^ t - 1)) = nI t := by decide +kernel
/-- Integer.numberOfTrailingZeros -/
theorem c_J6_ntz {Γ : GT} {G : GG} {M : MM} {m t : Nat} (hm : lowb m t) (ht : t < 32) : Calls Γ q_J6_numberOfTrailingZeros [.int (nI m)] G M (rI (fun v M' => v = nI t ∧ M' = M)) := by
  refine Calls.intro (by decide +kernel) (Nat.le_of_ble_eq_true rfl) (fun z E h hQ => ?_)
  refine x_iload_n h dJ6_numberOfTrailingZeros_0f7a4_0 rfl ?_
  refine x_icm1 h dJ6_numberOfTrailingZeros_0f7a4_1 ?_
  refine x_ixor h dJ6_numberOfTrailingZeros_0f7a4_2 ?_
  refine x_iload_n h dJ6_numberOfTrailingZeros_0f7a4_3 rfl ?_
  refine x_in1 h dJ6_numberOfTrailingZeros_0f7a4_4 ?_
  refine x_isub h dJ6_numberOfTrailingZeros_0f7a4_5 ?_
  refine x_iand h dJ6_numberOfTrailingZeros_0f7a4_6 ?_
  refine x_topi (low_mask hm ht) ?_
  refine x_istore_n h dJ6_numberOfTrailingZeros_0f7a4_7 rfl rfl ?_
  refine x_iload_n h dJ6_numberOfTrailingZeros_0f7a4_8 rfl ?_
  refine x_if_gt h 17 dJ6_numberOfTrailingZeros_0f7a4_9 (by decide) (fun c9 => ?_) (fun c9 => ?_)
  · refine x_in1 h dJ6_numberOfTrailingZeros_0f7a4_17 ?_
    refine x_istore_n h dJ6_numberOfTrailingZeros_0f7a4_18 rfl rfl ?_
    refine x_iload_n h dJ6_numberOfTrailingZeros_0f7a4_19 rfl ?_
    refine x_ldcw h kc_J6_264 dJ6_numberOfTrailingZeros_0f7a4_20 ?_
    refine x_icmp_le h 34 dJ6_numberOfTrailingZeros_0f7a4_23 (by decide) (fun c23 => ?_) (fun c23 => ?_)
    · refine x_iload_n h dJ6_numberOfTrailingZeros_0f7a4_34 rfl ?_
      refine x_sipush h (nI 256) (by decide) dJ6_numberOfTrailingZeros_0f7a4_35 ?_
      refine x_icmp_le h 49 dJ6_numberOfTrailingZeros_0f7a4_38 (by decide) (fun c38 => ?_) (fun c38 => ?_)
      · refine x_iload_n h dJ6_numberOfTrailingZeros_0f7a4_49 rfl ?_
        refine x_bipush h (nI 16) (by decide) dJ6_numberOfTrailingZeros_0f7a4_50 ?_
        refine x_icmp_le h 62 dJ6_numberOfTrailingZeros_0f7a4_52 (by decide) (fun c52 => ?_) (fun c52 => ?_)
        · refine x_iload_n h dJ6_numberOfTrailingZeros_0f7a4_62 rfl ?_
          refine x_in4 h dJ6_numberOfTrailingZeros_0f7a4_63 ?_
          refine x_icmp_le h 74 dJ6_numberOfTrailingZeros_0f7a4_64 (by decide) (fun c64 => ?_) (fun c64 => ?_)
          · refine x_iload_n h dJ6_numberOfTrailingZeros_0f7a4_74 rfl ?_
            refine x_iload_n h dJ6_numberOfTrailingZeros_0f7a4_75 rfl ?_
            refine x_in1 h dJ6_numberOfTrailingZeros_0f7a4_76 ?_
            refine x_iushr h dJ6_numberOfTrailingZeros_0f7a4_77 ?_
            refine x_iadd h dJ6_numberOfTrailingZeros_0f7a4_78 ?_
            exact x_iret h hQ rfl dJ6_numberOfTrailingZeros_0f7a4_79 ⟨rfl, rfl, _, rfl, by rw [← ntz_ok t ht, ntzF, if_pos c9, ntz1, if_pos c23, ntz2, if_pos c38, ntz3, if_pos c52, ntz4, if_pos c64], rfl⟩
          · refine x_iinc h (2) (by decide) dJ6_numberOfTrailingZeros_0f7a4_67 rfl rfl rfl ?_
            refine x_iload_n h dJ6_numberOfTrailingZeros_0f7a4_70 rfl ?_
            refine x_in2 h dJ6_numberOfTrailingZeros_0f7a4_71 ?_
            refine x_iushr h dJ6_numberOfTrailingZeros_0f7a4_72 ?_
            refine x_istore_n h dJ6_numberOfTrailingZeros_0f7a4_73 rfl rfl ?_
            refine x_iload_n h dJ6_numberOfTrailingZeros_0f7a4_74 rfl ?_
            refine x_iload_n h dJ6_numberOfTrailingZeros_0f7a4_75 rfl ?_
            refine x_in1 h dJ6_numberOfTrailingZeros_0f7a4_76 ?_
            refine x_iushr h dJ6_numberOfTrailingZeros_0f7a4_77 ?_
            refine x_iadd h dJ6_numberOfTrailingZeros_0f7a4_78 ?_
            exact x_iret h hQ rfl dJ6_numberOfTrailingZeros_0f7a4_79 ⟨rfl, rfl, _, rfl, by rw [← ntz_ok t ht, ntzF, if_pos c9, ntz1, if_pos c23, ntz2, if_pos c38, ntz3, if_pos c52, ntz4, if_neg c64], rfl⟩
        · refine x_iinc h (4) (by decide) dJ6_numberOfTrailingZeros_0f7a4_55 rfl rfl rfl ?_
          refine x_iload_n h dJ6_numberOfTrailingZeros_0f7a4_58 rfl ?_
          refine x_in4 h dJ6_numberOfTrailingZeros_0f7a4_59 ?_
          refine x_iushr h dJ6_numberOfTrailingZeros_0f7a4_60 ?_
          refine x_istore_n h dJ6_numberOfTrailingZeros_0f7a4_61 rfl rfl ?_
          refine x_iload_n h dJ6_numberOfTrailingZeros_0f7a4_62 rfl ?_
          refine x_in4 h dJ6_numberOfTrailingZeros_0f7a4_63 ?_
          refine x_icmp_le h 74 dJ6_numberOfTrailingZeros_0f7a4_64 (by decide) (fun c64 => ?_) (fun c64 => ?_)
          · refine x_iload_n h dJ6_numberOfTrailingZeros_0f7a4_74 rfl ?_
            refine x_iload_n h dJ6_numberOfTrailingZeros_0f7a4_75 rfl ?_
            refine x_in1 h dJ6_numberOfTrailingZeros_0f7a4_76 ?_
            refine x_iushr h dJ6_numberOfTrailingZeros_0f7a4_77 ?_
            refine x_iadd h dJ6_numberOfTrailingZeros_0f7a4_78 ?_
            exact x_iret h hQ rfl dJ6_numberOfTrailingZeros_0f7a4_79 ⟨rfl, rfl, _, rfl, by rw [← ntz_ok t ht, ntzF, if_pos c9, ntz1, if_pos c23, ntz2, if_pos c38, ntz3, if_neg c52, ntz4, if_pos c64], rfl⟩
          · refine x_iinc h (2) (by decide) dJ6_numberOfTrailingZeros_0f7a4_67 rfl rfl rfl ?_
            refine x_iload_n h dJ6_numberOfTrailingZeros_0f7a4_70 rfl ?_
            refine x_in2 h dJ6_numberOfTrailingZeros_0f7a4_71 ?_
            refine x_iushr h dJ6_numberOfTrailingZeros_0f7a4_72 ?_
            refine x_istore_n h dJ6_numberOfTrailingZeros_0f7a4_73 rfl rfl ?_
            refine x_iload_n h dJ6_numberOfTrailingZeros_0f7a4_74 rfl ?_
            refine x_iload_n h dJ6_numberOfTrailingZeros_0f7a4_75 rfl ?_
            refine x_in1 h dJ6_numberOfTrailingZeros_0f7a4_76 ?_
            refine x_iushr h dJ6_numberOfTrailingZeros_0f7a4_77 ?_
            refine x_iadd h dJ6_numberOfTrailingZeros_0f7a4_78 ?_
            exact x_iret h hQ rfl dJ6_numberOfTrailingZeros_0f7a4_79 ⟨rfl, rfl, _, rfl, by rw [← ntz_ok t ht, ntzF, if_pos c9, ntz1, if_pos c23, ntz2, if_pos c38, ntz3, if_neg c52, ntz4, if_neg c64], rfl⟩
      · refine x_iinc h (8) (by decide) dJ6_numberOfTrailingZeros_0f7a4_41 rfl rfl rfl ?_
        refine x_iload_n h dJ6_numberOfTrailingZeros_0f7a4_44 rfl ?_
        refine x_bipush h (nI 8) (by decide) dJ6_numberOfTrailingZeros_0f7a4_45 ?_
        refine x_iushr h dJ6_numberOfTrailingZeros_0f7a4_47 ?_
        refine x_istore_n h dJ6_numberOfTrailingZeros_0f7a4_48 rfl rfl ?_
        refine x_iload_n h dJ6_numberOfTrailingZeros_0f7a4_49 rfl ?_
        refine x_bipush h (nI 16) (by decide) dJ6_numberOfTrailingZeros_0f7a4_50 ?_
        refine x_icmp_le h 62 dJ6_numberOfTrailingZeros_0f7a4_52 (by decide) (fun c52 => ?_) (fun c52 => ?_)
        · refine x_iload_n h dJ6_numberOfTrailingZeros_0f7a4_62 rfl ?_
          refine x_in4 h dJ6_numberOfTrailingZeros_0f7a4_63 ?_
          refine x_icmp_le h 74 dJ6_numberOfTrailingZeros_0f7a4_64 (by decide) (fun c64 => ?_) (fun c64 => ?_)
          · refine x_iload_n h dJ6_numberOfTrailingZeros_0f7a4_74 rfl ?_
            refine x_iload_n h dJ6_numberOfTrailingZeros_0f7a4_75 rfl ?_
            refine x_in1 h dJ6_numberOfTrailingZeros_0f7a4_76 ?_
            refine x_iushr h dJ6_numberOfTrailingZeros_0f7a4_77 ?_
            refine x_iadd h dJ6_numberOfTrailingZeros_0f7a4_78 ?_
            exact x_iret h hQ rfl dJ6_numberOfTrailingZeros_0f7a4_79 ⟨rfl, rfl, _, rfl, by rw [← ntz_ok t ht, ntzF, if_pos c9, ntz1, if_pos c23, ntz2, if_neg c38, ntz3, if_pos c52, ntz4, if_pos c64], rfl⟩
          · refine x_iinc h (2) (by decide) dJ6_numberOfTrailingZeros_0f7a4_67 rfl rfl rfl ?_
            refine x_iload_n h dJ6_numberOfTrailingZeros_0f7a4_70 rfl ?_
            refine x_in2 h dJ6_numberOfTrailingZeros_0f7a4_71 ?_
            refine x_iushr h dJ6_numberOfTrailingZeros_0f7a4_72 ?_
            refine x_istore_n h dJ6_numberOfTrailingZeros_0f7a4_73 rfl rfl ?_
            refine x_iload_n h dJ6_numberOfTrailingZeros_0f7a4_74 rfl ?_
            refine x_iload_n h dJ6_numberOfTrailingZeros_0f7a4_75 rfl ?_
            refine x_in1 h dJ6_numberOfTrailingZeros_0f7a4_76 ?_
            refine x_iushr h dJ6_numberOfTrailingZeros_0f7a4_77 ?_
            refine x_iadd h dJ6_numberOfTrailingZeros_0f7a4_78 ?_
            exact x_iret h hQ rfl dJ6_numberOfTrailingZeros_0f7a4_79 ⟨rfl, rfl, _, rfl, by rw [← ntz_ok t ht, ntzF, if_pos c9, ntz1, if_pos c23, ntz2, if_neg c38, ntz3, if_pos c52, ntz4, if_neg c64], rfl⟩
        · refine x_iinc h (4) (by decide) dJ6_numberOfTrailingZeros_0f7a4_55 rfl rfl rfl ?_
          refine x_iload_n h dJ6_numberOfTrailingZeros_0f7a4_58 rfl ?_
          refine x_in4 h dJ6_numberOfTrailingZeros_0f7a4_59 ?_
          refine x_iushr h dJ6_numberOfTrailingZeros_0f7a4_60 ?_
          refine x_istore_n h dJ6_numberOfTrailingZeros_0f7a4_61 rfl rfl ?_
          refine x_iload_n h dJ6_numberOfTrailingZeros_0f7a4_62 rfl ?_
          refine x_in4 h dJ6_numberOfTrailingZeros_0f7a4_63 ?_
          refine x_icmp_le h 74 dJ6_numberOfTrailingZeros_0f7a4_64 (by decide) (fun c64 => ?_) (fun c64 => ?_)
          · refine x_iload_n h dJ6_numberOfTrailingZeros_0f7a4_74 rfl ?_
            refine x_iload_n h dJ6_numberOfTrailingZeros_0f7a4_75 rfl ?_
            refine x_in1 h dJ6_numberOfTrailingZeros_0f7a4_76 ?_
            refine x_iushr h dJ6_numberOfTrailingZeros_0f7a4_77 ?_
            refine x_iadd h dJ6_numberOfTrailingZeros_0f7a4_78 ?_
            exact x_iret h hQ rfl dJ6_numberOfTrailingZeros_0f7a4_79 ⟨rfl, rfl, _, rfl, by rw [← ntz_ok t ht, ntzF, if_pos c9, ntz1, if_pos c23, ntz2, if_neg c38, ntz3, if_neg c52, ntz4, if_pos c64], rfl⟩
          · refine x_iinc h (2) (by decide) dJ6_numberOfTrailingZeros_0f7a4_67 rfl rfl rfl ?_
            refine x_iload_n h dJ6_numberOfTrailingZeros_0f7a4_70 rfl ?_
            refine x_in2 h dJ6_numberOfTrailingZeros_0f7a4_71 ?_
            refine x_iushr h dJ6_numberOfTrailingZeros_0f7a4_72 ?_
            refine x_istore_n h dJ6_numberOfTrailingZeros_0f7a4_73 rfl rfl ?_
            refine x_iload_n h dJ6_numberOfTrailingZeros_0f7a4_74 rfl ?_
            refine x_iload_n h dJ6_numberOfTrailingZeros_0f7a4_75 rfl ?_
            refine x_in1 h dJ6_numberOfTrailingZeros_0f7a4_76 ?_
            refine x_iushr h dJ6_numberOfTrailingZeros_0f7a4_77 ?_
            refine x_iadd h dJ6_numberOfTrailingZeros_0f7a4_78 ?_
            exact x_iret h hQ rfl dJ6_numberOfTrailingZeros_0f7a4_79 ⟨rfl, rfl, _, rfl, by rw [← ntz_ok t ht, ntzF, if_pos c9, ntz1, if_pos c23, ntz2, if_neg c38, ntz3, if_neg c52, ntz4, if_neg c64], rfl⟩
    · refine x_iinc h (16) (by decide) dJ6_numberOfTrailingZeros_0f7a4_26 rfl rfl rfl ?_
      refine x_iload_n h dJ6_numberOfTrailingZeros_0f7a4_29 rfl ?_
      refine x_bipush h (nI 16) (by decide) dJ6_numberOfTrailingZeros_0f7a4_30 ?_
      refine x_iushr h dJ6_numberOfTrailingZeros_0f7a4_32 ?_
      refine x_istore_n h dJ6_numberOfTrailingZeros_0f7a4_33 rfl rfl ?_
      refine x_iload_n h dJ6_numberOfTrailingZeros_0f7a4_34 rfl ?_
      refine x_sipush h (nI 256) (by decide) dJ6_numberOfTrailingZeros_0f7a4_35 ?_
      refine x_icmp_le h 49 dJ6_numberOfTrailingZeros_0f7a4_38 (by decide) (fun c38 => ?_) (fun c38 => ?_)
      · refine x_iload_n h dJ6_numberOfTrailingZeros_0f7a4_49 rfl ?_
        refine x_bipush h (nI 16) (by decide) dJ6_numberOfTrailingZeros_0f7a4_50 ?_
        refine x_icmp_le h 62 dJ6_numberOfTrailingZeros_0f7a4_52 (by decide) (fun c52 => ?_) (fun c52 => ?_)
        · refine x_iload_n h dJ6_numberOfTrailingZeros_0f7a4_62 rfl ?_
          refine x_in4 h dJ6_numberOfTrailingZeros_0f7a4_63 ?_
          refine x_icmp_le h 74 dJ6_numberOfTrailingZeros_0f7a4_64 (by decide) (fun c64 => ?_) (fun c64 => ?_)
          · refine x_iload_n h dJ6_numberOfTrailingZeros_0f7a4_74 rfl ?_
            refine x_iload_n h dJ6_numberOfTrailingZeros_0f7a4_75 rfl ?_
            refine x_in1 h dJ6_numberOfTrailingZeros_0f7a4_76 ?_
            refine x_iushr h dJ6_numberOfTrailingZeros_0f7a4_77 ?_
            refine x_iadd h dJ6_numberOfTrailingZeros_0f7a4_78 ?_
            exact x_iret h hQ rfl dJ6_numberOfTrailingZeros_0f7a4_79 ⟨rfl, rfl, _, rfl, by rw [← ntz_ok t ht, ntzF, if_pos c9, ntz1, if_neg c23, ntz2, if_pos c38, ntz3, if_pos c52, ntz4, if_pos c64], rfl⟩
          · refine x_iinc h (2) (by decide) dJ6_numberOfTrailingZeros_0f7a4_67 rfl rfl rfl ?_
            refine x_iload_n h dJ6_numberOfTrailingZeros_0f7a4_70 rfl ?_
            refine x_in2 h dJ6_numberOfTrailingZeros_0f7a4_71 ?_
            refine x_iushr h dJ6_numberOfTrailingZeros_0f7a4_72 ?_
            refine x_istore_n h dJ6_numberOfTrailingZeros_0f7a4_73 rfl rfl ?_
            refine x_iload_n h dJ6_numberOfTrailingZeros_0f7a4_74 rfl ?_
            refine x_iload_n h dJ6_numberOfTrailingZeros_0f7a4_75 rfl ?_
            refine x_in1 h dJ6_numberOfTrailingZeros_0f7a4_76 ?_
            refine x_iushr h dJ6_numberOfTrailingZeros_0f7a4_77 ?_
            refine x_iadd h dJ6_numberOfTrailingZeros_0f7a4_78 ?_
            exact x_iret h hQ rfl dJ6_numberOfTrailingZeros_0f7a4_79 ⟨rfl, rfl, _, rfl, by rw [← ntz_ok t ht, ntzF, if_pos c9, ntz1, if_neg c23, ntz2, if_pos c38, ntz3, if_pos c52, ntz4, if_neg c64], rfl⟩
        · refine x_iinc h (4) (by decide) dJ6_numberOfTrailingZeros_0f7a4_55 rfl rfl rfl ?_
          refine x_iload_n h dJ6_numberOfTrailingZeros_0f7a4_58 rfl ?_
          refine x_in4 h dJ6_numberOfTrailingZeros_0f7a4_59 ?_
          refine x_iushr h dJ6_numberOfTrailingZeros_0f7a4_60 ?_
          refine x_istore_n h dJ6_numberOfTrailingZeros_0f7a4_61 rfl rfl ?_
          refine x_iload_n h dJ6_numberOfTrailingZeros_0f7a4_62 rfl ?_
          refine x_in4 h dJ6_numberOfTrailingZeros_0f7a4_63 ?_
          refine x_icmp_le h 74 dJ6_numberOfTrailingZeros_0f7a4_64 (by decide) (fun c64 => ?_) (fun c64 => ?_)
          · refine x_iload_n h dJ6_numberOfTrailingZeros_0f7a4_74 rfl ?_
            refine x_iload_n h dJ6_numberOfTrailingZeros_0f7a4_75 rfl ?_
            refine x_in1 h dJ6_numberOfTrailingZeros_0f7a4_76 ?_
            refine x_iushr h dJ6_numberOfTrailingZeros_0f7a4_77 ?_
            refine x_iadd h dJ6_numberOfTrailingZeros_0f7a4_78 ?_
            exact x_iret h hQ rfl dJ6_numberOfTrailingZeros_0f7a4_79 ⟨rfl, rfl, _, rfl, by rw [← ntz_ok t ht, ntzF, if_pos c9, ntz1, if_neg c23, ntz2, if_pos c38, ntz3, if_neg c52, ntz4, if_pos c64], rfl⟩
          · refine x_iinc h (2) (by decide) dJ6_numberOfTrailingZeros_0f7a4_67 rfl rfl rfl ?_
            refine x_iload_n h dJ6_numberOfTrailingZeros_0f7a4_70 rfl ?_
            refine x_in2 h dJ6_numberOfTrailingZeros_0f7a4_71 ?_
            refine x_iushr h dJ6_numberOfTrailingZeros_0f7a4_72 ?_
            refine x_istore_n h dJ6_numberOfTrailingZeros_0f7a4_73 rfl rfl ?_
            refine x_iload_n h dJ6_numberOfTrailingZeros_0f7a4_74 rfl ?_
            refine x_iload_n h dJ6_numberOfTrailingZeros_0f7a4_75 rfl ?_
            refine x_in1 h dJ6_numberOfTrailingZeros_0f7a4_76 ?_
            refine x_iushr h dJ6_numberOfTrailingZeros_0f7a4_77 ?_
            refine x_iadd h dJ6_numberOfTrailingZeros_0f7a4_78 ?_
            exact x_iret h hQ rfl dJ6_numberOfTrailingZeros_0f7a4_79 ⟨rfl, rfl, _, rfl, by rw [← ntz_ok t ht, ntzF, if_pos c9, ntz1, if_neg c23, ntz2, if_pos c38, ntz3, if_neg c52, ntz4, if_neg c64], rfl⟩
      · refine x_iinc h (8) (by decide) dJ6_numberOfTrailingZeros_0f7a4_41 rfl rfl rfl ?_
        refine x_iload_n h dJ6_numberOfTrailingZeros_0f7a4_44 rfl ?_
        refine x_bipush h (nI 8) (by decide) dJ6_numberOfTrailingZeros_0f7a4_45 ?_
        refine x_iushr h dJ6_numberOfTrailingZeros_0f7a4_47 ?_
        refine x_istore_n h dJ6_numberOfTrailingZeros_0f7a4_48 rfl rfl ?_
        refine x_iload_n h dJ6_numberOfTrailingZeros_0f7a4_49 rfl ?_
        refine x_bipush h (nI 16) (by decide) dJ6_numberOfTrailingZeros_0f7a4_50 ?_
        refine x_icmp_le h 62 dJ6_numberOfTrailingZeros_0f7a4_52 (by decide) (fun c52 => ?_) (fun c52 => ?_)
        · refine x_iload_n h dJ6_numberOfTrailingZeros_0f7a4_62 rfl ?_
          refine x_in4 h dJ6_numberOfTrailingZeros_0f7a4_63 ?_
          refine x_icmp_le h 74 dJ6_numberOfTrailingZeros_0f7a4_64 (by decide) (fun c64 => ?_) (fun c64 => ?_)
          · refine x_iload_n h dJ6_numberOfTrailingZeros_0f7a4_74 rfl ?_
            refine x_iload_n h dJ6_numberOfTrailingZeros_0f7a4_75 rfl ?_
            refine x_in1 h dJ6_numberOfTrailingZeros_0f7a4_76 ?_
            refine x_iushr h dJ6_numberOfTrailingZeros_0f7a4_77 ?_
            refine x_iadd h dJ6_numberOfTrailingZeros_0f7a4_78 ?_
            exact x_iret h hQ rfl dJ6_numberOfTrailingZeros_0f7a4_79 ⟨rfl, rfl, _, rfl, by rw [← ntz_ok t ht, ntzF, if_pos c9, ntz1, if_neg c23, ntz2, if_neg c38, ntz3, if_pos c52, ntz4, if_pos c64], rfl⟩
          · refine x_iinc h (2) (by decide) dJ6_numberOfTrailingZeros_0f7a4_67 rfl rfl rfl ?_
            refine x_iload_n h dJ6_numberOfTrailingZeros_0f7a4_70 rfl ?_
            refine x_in2 h dJ6_numberOfTrailingZeros_0f7a4_71 ?_
            refine x_iushr h dJ6_numberOfTrailingZeros_0f7a4_72 ?_
            refine x_istore_n h dJ6_numberOfTrailingZeros_0f7a4_73 rfl rfl ?_
            refine x_iload_n h dJ6_numberOfTrailingZeros_0f7a4_74 rfl ?_
            refine x_iload_n h dJ6_numberOfTrailingZeros_0f7a4_75 rfl ?_
            refine x_in1 h dJ6_numberOfTrailingZeros_0f7a4_76 ?_
            refine x_iushr h dJ6_numberOfTrailingZeros_0f7a4_77 ?_
            refine x_iadd h dJ6_numberOfTrailingZeros_0f7a4_78 ?_
            exact x_iret h hQ rfl dJ6_numberOfTrailingZeros_0f7a4_79 ⟨rfl, rfl, _, rfl, by rw [← ntz_ok t ht, ntzF, if_pos c9, ntz1, if_neg c23, ntz2, if_neg c38, ntz3, if_pos c52, ntz4, if_neg c64], rfl⟩
        · refine x_iinc h (4) (by decide) dJ6_numberOfTrailingZeros_0f7a4_55 rfl rfl rfl ?_
          refine x_iload_n h dJ6_numberOfTrailingZeros_0f7a4_58 rfl ?_
          refine x_in4 h dJ6_numberOfTrailingZeros_0f7a4_59 ?_
          refine x_iushr h dJ6_numberOfTrailingZeros_0f7a4_60 ?_
          refine x_istore_n h dJ6_numberOfTrailingZeros_0f7a4_61 rfl rfl ?_
          refine x_iload_n h dJ6_numberOfTrailingZeros_0f7a4_62 rfl ?_
          refine x_in4 h dJ6_numberOfTrailingZeros_0f7a4_63 ?_
          refine x_icmp_le h 74 dJ6_numberOfTrailingZeros_0f7a4_64 (by decide) (fun c64 => ?_) (fun c64 => ?_)
          · refine x_iload_n h dJ6_numberOfTrailingZeros_0f7a4_74 rfl ?_
            refine x_iload_n h dJ6_numberOfTrailingZeros_0f7a4_75 rfl ?_
            refine x_in1 h dJ6_numberOfTrailingZeros_0f7a4_76 ?_
            refine x_iushr h dJ6_numberOfTrailingZeros_0f7a4_77 ?_
            refine x_iadd h dJ6_numberOfTrailingZeros_0f7a4_78 ?_
            exact x_iret h hQ rfl dJ6_numberOfTrailingZeros_0f7a4_79 ⟨rfl, rfl, _, rfl, by rw [← ntz_ok t ht, ntzF, if_pos c9, ntz1, if_neg c23, ntz2, if_neg c38, ntz3, if_neg c52, ntz4, if_pos c64], rfl⟩
          · refine x_iinc h (2) (by decide) dJ6_numberOfTrailingZeros_0f7a4_67 rfl rfl rfl ?_
            refine x_iload_n h dJ6_numberOfTrailingZeros_0f7a4_70 rfl ?_
            refine x_in2 h dJ6_numberOfTrailingZeros_0f7a4_71 ?_
            refine x_iushr h dJ6_numberOfTrailingZeros_0f7a4_72 ?_
            refine x_istore_n h dJ6_numberOfTrailingZeros_0f7a4_73 rfl rfl ?_
            refine x_iload_n h dJ6_numberOfTrailingZeros_0f7a4_74 rfl ?_
            refine x_iload_n h dJ6_numberOfTrailingZeros_0f7a4_75 rfl ?_
            refine x_in1 h dJ6_numberOfTrailingZeros_0f7a4_76 ?_
            refine x_iushr h dJ6_numberOfTrailingZeros_0f7a4_77 ?_
            refine x_iadd h dJ6_numberOfTrailingZeros_0f7a4_78 ?_
            exact x_iret h hQ rfl dJ6_numberOfTrailingZeros_0f7a4_79 ⟨rfl, rfl, _, rfl, by rw [← ntz_ok t ht, ntzF, if_pos c9, ntz1, if_neg c23, ntz2, if_neg c38, ntz3, if_neg c52, ntz4, if_neg c64], rfl⟩
  · refine x_iload_n h dJ6_numberOfTrailingZeros_0f7a4_12 rfl ?_
    refine x_bipush h (nI 32) (by decide) dJ6_numberOfTrailingZeros_0f7a4_13 ?_
    refine x_iand h dJ6_numberOfTrailingZeros_0f7a4_15 ?_
    exact x_iret h hQ rfl dJ6_numberOfTrailingZeros_0f7a4_16 ⟨rfl, rfl, _, rfl, by rw [← ntz_ok t ht, ntzF, if_neg c9], rfl⟩
theorem nI_zero {m : Nat} (h : nI m = 0) : m % 2 ^ 32 = 0 := by
  have h1 : (nI m).toBitVec = BitVec.ofNat 32 m := rfl
  have h2 := congrArg (fun x => x.toNat) (h1.symm.trans (congrArg Int32.toBitVec h))
  simpa using h2
theorem lowb_hi {m t : Nat} (h : lowb m t) (h2 : nI m = 0) : 32 ≤ t := by
  unfold lowb at h
  have h3 := nI_zero h2
  rcases Nat.lt_or_ge t 32 with q | q
  · have h4 : m % 2 ^ 32 % 2 ^ (t + 1) = m % 2 ^ (t + 1) := Nat.mod_mod_of_dvd m (Nat.pow_dvd_pow 2 (by omega))
    rw [h3, Nat.zero_mod, h] at h4
    have := Nat.two_pow_pos t
    omega
  · exact q
theorem lowb_lo {m t : Nat} (h : lowb m t) (h2 : ¬ nI m = 0) : t < 32 := by
  unfold lowb at h
  rcases Nat.lt_or_ge t 32 with q | q
  · exact q
  · refine absurd ?_ h2
    have h3 : m % 2 ^ 32 = 0 := by
      have h4 : m % 2 ^ (t + 1) % 2 ^ 32 = m % 2 ^ 32 := Nat.mod_mod_of_dvd m (Nat.pow_dvd_pow 2 (by omega))
      rw [← h4, h]
      exact Nat.mod_eq_zero_of_dvd (Nat.pow_dvd_pow 2 q)
    exact (nI_mod (b := 0) (by rw [h3])).trans nI_0
theorem lowb_div {m t : Nat} (h : lowb m t) (h2 : 32 ≤ t) : lowb (m / 2 ^ 32) (t - 32) := by
  unfold lowb at h ⊢
  have h3 := Nat.mod_mul_right_div_self m (2 ^ 32) (2 ^ (t - 32 + 1))
  rw [← Nat.pow_add, show 32 + (t - 32 + 1) = t + 1 by omega, h] at h3
  rw [← h3, Nat.pow_div h2 (by decide)]
/-- Long.numberOfTrailingZeros -/
theorem c_J13_ntz {Γ : GT} {G : GG} {M : MM} {m t : Nat} (hm : lowb m t) (ht : t < 64) (hl : m < 2 ^ 64) : Calls Γ q_J13_numberOfTrailingZeros [.long (lN m)] G M (rI (fun v M' => v = nI t ∧ M' = M)) := by
  refine Calls.intro (by decide +kernel) (Nat.le_of_ble_eq_true rfl) (fun z E h hQ => ?_)
  refine x_lload_n h dJ13_numberOfTrailingZeros_95d88_0 rfl ?_
  refine x_l2i h dJ13_numberOfTrailingZeros_95d88_1 ?_
  refine x_topi (lN_i m) ?_
  refine x_istore_n h dJ13_numberOfTrailingZeros_95d88_2 rfl rfl ?_
  refine x_iload_n h dJ13_numberOfTrailingZeros_95d88_3 rfl ?_
  refine x_if_ne h 21 dJ13_numberOfTrailingZeros_95d88_4 (by decide) (fun c4 => ?_) (fun c4 => ?_)
  · have h32 := lowb_lo hm c4
    refine x_iload_n h dJ13_numberOfTrailingZeros_95d88_21 rfl ?_
    refine x_cSi h ci_J6_numberOfTrailingZeros sm_J6_numberOfTrailingZeros l_J13_311 ⟨Nat.le_of_ble_eq_true rfl, Nat.le_of_ble_eq_true rfl⟩ ⟨rfl, rfl⟩ ⟨Nat.zero_le _, Nat.zero_le _⟩ (c_J6_ntz hm h32) rfl rfl rfl rfl dJ13_numberOfTrailingZeros_95d88_22 (fun v22 M22 hp22 => ?_)
    obtain ⟨rfl, rfl⟩ := hp22
    exact x_iret h hQ rfl dJ13_numberOfTrailingZeros_95d88_25 ⟨rfl, rfl, _, rfl, rfl, rfl⟩
  · have h32 := lowb_hi hm c4
    refine x_bipush h (nI 32) (by decide) dJ13_numberOfTrailingZeros_95d88_7 ?_
    refine x_lload_n h dJ13_numberOfTrailingZeros_95d88_9 rfl ?_
    refine x_bipush h (nI 32) (by decide) dJ13_numberOfTrailingZeros_95d88_10 ?_
    refine x_lushr h dJ13_numberOfTrailingZeros_95d88_12 ?_
    refine x_topl (wb_shr hl (by decide)) ?_
    refine x_l2i h dJ13_numberOfTrailingZeros_95d88_13 ?_
    refine x_topi (lN_i _) ?_
    refine x_cSi h ci_J6_numberOfTrailingZeros sm_J6_numberOfTrailingZeros l_J13_311 ⟨Nat.le_of_ble_eq_true rfl, Nat.le_of_ble_eq_true rfl⟩ ⟨rfl, rfl⟩ ⟨Nat.zero_le _, Nat.zero_le _⟩ (c_J6_ntz (lowb_div hm h32) (by omega)) rfl rfl rfl rfl dJ13_numberOfTrailingZeros_95d88_14 (fun v14 M14 hp14 => ?_)
    obtain ⟨rfl, rfl⟩ := hp14
    refine x_iaddn h  dJ13_numberOfTrailingZeros_95d88_17 ?_
    refine x_goto h 25 dJ13_numberOfTrailingZeros_95d88_18 (by decide) ?_
    exact x_iret h hQ rfl dJ13_numberOfTrailingZeros_95d88_25 ⟨rfl, rfl, _, rfl, congrArg nI (by omega), rfl⟩
