/-! ===== the JDK's own methods: bitCount, numberOfTrailingZeros, max, min ===== -/
theorem x_ldcw {Γ : GT} {E : CT} {q : MD} {k n : Nat} {G : GG} {z : Nat} {M : MM} {pc : Nat} {L : List (Option Value)} {st : List Value} (h : Ok Γ E q) {idx : Nat} {v : Int32} (hw : KW (Cond.constant q.1.cls idx v)) (d : decode q.2.1 pc = .ok (.ldc_w idx, 3)) (kk : X Γ E k n G z M (pc + 3) L (.int v :: st)) : X Γ E k n G z M pc L st :=
  fun H locs ls hH hF hL => lv_ldcw h.1 h.2.1 h.2.2.2.2.2.1 (h.ks.at hw) d (kk H locs ls hH hF hL)
theorem and_split {k a c : Nat} (ha : a < 2 ^ k) (hc : c < 2 ^ k) (r s : Nat) : (a + 2 ^ k * r) &&& (c + 2 ^ k * s) = (a &&& c) + 2 ^ k * (r &&& s) := by
  have hac : a &&& c < 2 ^ k := Nat.and_lt_two_pow a hc
  refine Nat.eq_of_testBit_eq (fun i => ?_)
  rw [Nat.testBit_and, Nat.add_comm a, Nat.add_comm c, Nat.add_comm (a &&& c), Nat.testBit_two_pow_mul_add _ ha, Nat.testBit_two_pow_mul_add _ hc, Nat.testBit_two_pow_mul_add _ hac]
  by_cases hi : i < k
  · simp [hi]
  · simp [hi]
/-- a byte again and again -/
def mkB (c : Nat) : Nat → Nat
  | 0 => 0
  | n + 1 => c + 256 * mkB c n
def pA (n x : Nat) : Nat := x - ((x / 2) &&& mkB 85 n)
def pB (n x : Nat) : Nat := (x &&& mkB 51 n) + ((x / 4) &&& mkB 51 n)
def pC (n x : Nat) : Nat := (x + x / 16) &&& mkB 15 n
theorem and_byte {c : Nat} (hc : c < 256) (n x : Nat) : x &&& mkB c (n + 1) = (x % 256 &&& c) + 256 * (x / 256 &&& mkB c n) := by
  have := and_split (k := 8) (a := x % 256) (c := c) (Nat.mod_lt _ (by decide)) hc (x / 256) (mkB c n)
  rw [mkB]
  rw [show x = x % 256 + 2 ^ 8 * (x / 256) by omega]
  rw [show 256 * mkB c n = 2 ^ 8 * mkB c n from rfl, this]
  congr 1
  · congr 1; omega
  · show 256 * _ = 256 * _
    congr 2; omega
theorem byte_A : ∀ b, b < 256 → ∀ c, c < 2 → (b / 2 + 128 * c) &&& 85 = (b / 2 &&& 85) ∧ (b / 2 &&& 85) ≤ b := by decide +kernel
theorem byte_B : ∀ b, b < 256 → ∀ c, c < 4 → (b / 4 + 64 * c) &&& 51 = (b / 4 &&& 51) := by decide +kernel
def q1 (b : Nat) : Nat := b - (b / 2 &&& 85)
def q2 (b : Nat) : Nat := (q1 b &&& 51) + (q1 b / 4 &&& 51)
theorem byte_P : ∀ b, b < 256 → q1 b < 256 ∧ (q1 b &&& 51) + (q1 b / 4 &&& 51) < 256 ∧ q2 b % 16 ≤ 4 ∧ q2 b / 16 ≤ 4 ∧ q2 b % 16 + q2 b / 16 = fb_ct (fun i => b.testBit i) 8 := by decide +kernel
theorem pA_step (n b r : Nat) (hb : b < 256) (hle : (r / 2 &&& mkB 85 n) ≤ r) : pA (n + 1) (b + 256 * r) = q1 b + 256 * pA n r ∧ ((b + 256 * r) / 2 &&& mkB 85 (n + 1)) ≤ b + 256 * r := by
  have e1 : ((b + 256 * r) / 2 &&& mkB 85 (n + 1)) = (b / 2 &&& 85) + 256 * (r / 2 &&& mkB 85 n) := by
    rw [and_byte (by decide)]
    have h1 : (b + 256 * r) / 2 % 256 = b / 2 + 128 * (r % 2) := by omega
    have h2 : (b + 256 * r) / 2 / 256 = r / 2 := by omega
    rw [h1, h2, (byte_A b hb (r % 2) (Nat.mod_lt _ (by decide))).1]
  have h3 := (byte_A b hb 0 (by decide)).2
  refine ⟨?_, ?_⟩
  · unfold pA q1
    rw [e1]
    omega
  · rw [e1]; omega
theorem pA_le : ∀ n x, x < 256 ^ n → (x / 2 &&& mkB 85 n) ≤ x
  | 0, x, h => by simp [mkB]
  | n + 1, x, h => by
    have h1 : x / 256 < 256 ^ n := by
      rw [Nat.pow_succ] at h
      omega
    have := (pA_step n (x % 256) (x / 256) (Nat.mod_lt _ (by decide)) (pA_le n (x / 256) h1)).2
    rwa [show x % 256 + 256 * (x / 256) = x by omega] at this
theorem pB_step (n b r : Nat) (hb : b < 256) (h4 : (b &&& 51) + (b / 4 &&& 51) < 256) : pB (n + 1) (b + 256 * r) = ((b &&& 51) + (b / 4 &&& 51)) + 256 * pB n r := by
  unfold pB
  rw [and_byte (by decide), and_byte (by decide)]
  have h0 : (b + 256 * r) % 256 = b := by omega
  have h0' : (b + 256 * r) / 256 = r := by omega
  have h1 : (b + 256 * r) / 4 % 256 = b / 4 + 64 * (r % 4) := by omega
  have h2 : (b + 256 * r) / 4 / 256 = r / 4 := by omega
  rw [h0, h0', h1, h2, byte_B b hb (r % 4) (Nat.mod_lt _ (by decide))]
  omega
theorem low4 : ∀ x, x < 256 → x &&& 15 = x % 16 := by decide +kernel
theorem pC_step (n b r : Nat) (h1 : b % 16 ≤ 4) (h2 : b / 16 ≤ 4) (h3 : r % 16 ≤ 4) : pC (n + 1) (b + 256 * r) = (b % 16 + b / 16) + 256 * pC n r := by
  unfold pC
  rw [and_byte (by decide)]
  have e1 : (b + 256 * r + (b + 256 * r) / 16) % 256 = b + b / 16 + 16 * (r % 16) := by omega
  have e2 : (b + 256 * r + (b + 256 * r) / 16) / 256 = r + r / 16 := by omega
  rw [e1, e2, low4 _ (by omega)]
  have : (b + b / 16 + 16 * (r % 16)) % 16 = b % 16 + b / 16 := by omega
  rw [this]
/-- the bytes of the three first steps: how many bits each byte has -/
def pcB (x : Nat) : Nat → Nat
  | 0 => 0
  | n + 1 => fb_ct (fun i => (x % 256).testBit i) 8 + 256 * pcB (x / 256) n
theorem pAB_low : ∀ n x, x < 256 ^ n → pB n (pA n x) % 16 ≤ 4
  | 0, x, h => by simp [pB, mkB]
  | n + 1, x, h => by
    have hm : x % 256 < 256 := Nat.mod_lt _ (by decide)
    have h1 : x / 256 < 256 ^ n := by rw [Nat.pow_succ] at h; omega
    have hx : x = x % 256 + 256 * (x / 256) := by omega
    have hp := byte_P _ hm
    rw [hx, (pA_step n _ _ hm (pA_le n _ h1)).1, pB_step n _ _ hp.1 hp.2.1]
    have : (q1 (x % 256) &&& 51) + (q1 (x % 256) / 4 &&& 51) = q2 (x % 256) := rfl
    have h2 : q2 (x % 256) % 16 ≤ 4 := hp.2.2.1
    omega
theorem pABC : ∀ n x, x < 256 ^ n → pC n (pB n (pA n x)) = pcB x n
  | 0, x, h => by simp [pC, mkB, pcB]
  | n + 1, x, h => by
    have hm : x % 256 < 256 := Nat.mod_lt _ (by decide)
    have h1 : x / 256 < 256 ^ n := by rw [Nat.pow_succ] at h; omega
    have hx : x = x % 256 + 256 * (x / 256) := by omega
    have hp := byte_P _ hm
    have e : pC (n + 1) (pB (n + 1) (pA (n + 1) x)) = pC (n + 1) (q2 (x % 256) + 256 * pB n (pA n (x / 256))) := by
      conv => lhs; rw [hx, (pA_step n _ _ hm (pA_le n _ h1)).1, pB_step n _ _ hp.1 hp.2.1]
      rfl
    rw [e, pC_step n _ _ hp.2.2.1 hp.2.2.2.1 (pAB_low n _ h1), pABC n _ h1, pcB]
    congr 1
    exact hp.2.2.2.2
theorem ct8 (p : Nat → Bool) : fb_ct p 8 ≤ 8 := fb_ct_le p 8
theorem ct_byte (x k : Nat) : fb_ct (fun i => x.testBit i) (8 + k) = fb_ct (fun i => (x % 256).testBit i) 8 + fb_ct (fun i => (x / 256).testBit i) k := by
  rw [fb_ct_split]
  congr 1
  · refine fb_ct_cong (fun i hi => ?_)
    have := Nat.testBit_mod_two_pow x 8 i
    rw [show (2 : Nat) ^ 8 = 256 from rfl] at this
    rw [this]
    simp [hi]
  · refine fb_ct_cong (fun i hi => ?_)
    show x.testBit (8 + i) = (x / 256).testBit i
    rw [show x / 256 = x / 2 ^ 8 from rfl, Nat.testBit_div_two_pow, Nat.add_comm]
/-- all of it, of 64 bits -/
def pcN (x : Nat) : Nat :=
  let y := pC 8 (pB 8 (pA 8 x))
  let y1 := y + y / 256
  let y2 := y1 + y1 / 65536
  let y3 := y2 + y2 / 4294967296
  y3 % 128
theorem pcN_eq {x : Nat} (h : x < 2 ^ 64) : pcN x = fb_ct (fun i => x.testBit i) 64 := by
  unfold pcN
  rw [pABC 8 x (by rw [show (256 : Nat) ^ 8 = 2 ^ 64 by decide]; exact h)]
  rw [show (64 : Nat) = 8 + (8 + (8 + (8 + (8 + (8 + (8 + 8)))))) from rfl, ct_byte, ct_byte, ct_byte, ct_byte, ct_byte, ct_byte, ct_byte]
  simp only [pcB]
  have e7 : fb_ct (fun i => (x / 256 / 256 / 256 / 256 / 256 / 256 / 256).testBit i) 8 = fb_ct (fun i => (x / 256 / 256 / 256 / 256 / 256 / 256 / 256 % 256).testBit i) 8 := by
    have : x / 256 / 256 / 256 / 256 / 256 / 256 / 256 % 256 = x / 256 / 256 / 256 / 256 / 256 / 256 / 256 := by omega
    rw [this]
  rw [e7]
  have b0 := ct8 (fun i => (x % 256).testBit i)
  have b1 := ct8 (fun i => (x / 256 % 256).testBit i)
  have b2 := ct8 (fun i => (x / 256 / 256 % 256).testBit i)
  have b3 := ct8 (fun i => (x / 256 / 256 / 256 % 256).testBit i)
  have b4 := ct8 (fun i => (x / 256 / 256 / 256 / 256 % 256).testBit i)
  have b5 := ct8 (fun i => (x / 256 / 256 / 256 / 256 / 256 % 256).testBit i)
  have b6 := ct8 (fun i => (x / 256 / 256 / 256 / 256 / 256 / 256 % 256).testBit i)
  have b7 := ct8 (fun i => (x / 256 / 256 / 256 / 256 / 256 / 256 / 256 % 256).testBit i)
  generalize fb_ct (fun i => (x % 256).testBit i) 8 = c0 at *
  generalize fb_ct (fun i => (x / 256 % 256).testBit i) 8 = c1 at *
  generalize fb_ct (fun i => (x / 256 / 256 % 256).testBit i) 8 = c2 at *
  generalize fb_ct (fun i => (x / 256 / 256 / 256 % 256).testBit i) 8 = c3 at *
  generalize fb_ct (fun i => (x / 256 / 256 / 256 / 256 % 256).testBit i) 8 = c4 at *
  generalize fb_ct (fun i => (x / 256 / 256 / 256 / 256 / 256 % 256).testBit i) 8 = c5 at *
  generalize fb_ct (fun i => (x / 256 / 256 / 256 / 256 / 256 / 256 % 256).testBit i) 8 = c6 at *
  generalize fb_ct (fun i => (x / 256 / 256 / 256 / 256 / 256 / 256 / 256 % 256).testBit i) 8 = c7 at *
  clear e7 h
  have h1 : (c0 + 256 * (c1 + 256 * (c2 + 256 * (c3 + 256 * (c4 + 256 * (c5 + 256 * (c6 + 256 * (c7 + 256 * 0)))))))) / 256 = c1 + 256 * (c2 + 256 * (c3 + 256 * (c4 + 256 * (c5 + 256 * (c6 + 256 * c7))))) := by omega
  rw [h1]
  have h2 : (c0 + 256 * (c1 + 256 * (c2 + 256 * (c3 + 256 * (c4 + 256 * (c5 + 256 * (c6 + 256 * (c7 + 256 * 0))))))) + (c1 + 256 * (c2 + 256 * (c3 + 256 * (c4 + 256 * (c5 + 256 * (c6 + 256 * c7))))))) = (c0 + c1) + 256 * (c1 + c2) + 65536 * ((c2 + c3) + 256 * (c3 + c4) + 65536 * ((c4 + c5) + 256 * (c5 + c6) + 65536 * ((c6 + c7) + 256 * c7))) := by omega
  rw [h2]
  have h3 : ((c0 + c1) + 256 * (c1 + c2) + 65536 * ((c2 + c3) + 256 * (c3 + c4) + 65536 * ((c4 + c5) + 256 * (c5 + c6) + 65536 * ((c6 + c7) + 256 * c7)))) / 65536 = ((c2 + c3) + 256 * (c3 + c4) + 65536 * ((c4 + c5) + 256 * (c5 + c6) + 65536 * ((c6 + c7) + 256 * c7))) := by omega
  rw [h3]
  have h4 : ((c0 + c1) + 256 * (c1 + c2) + 65536 * ((c2 + c3) + 256 * (c3 + c4) + 65536 * ((c4 + c5) + 256 * (c5 + c6) + 65536 * ((c6 + c7) + 256 * c7))) + ((c2 + c3) + 256 * (c3 + c4) + 65536 * ((c4 + c5) + 256 * (c5 + c6) + 65536 * ((c6 + c7) + 256 * c7)))) = (c0 + c1 + c2 + c3) + 256 * (c1 + c2 + c3 + c4) + 65536 * (c2 + c3 + c4 + c5) + 16777216 * (c3 + c4 + c5 + c6) + 4294967296 * ((c4 + c5 + c6 + c7) + 256 * (c5 + c6 + c7) + 65536 * (c6 + c7) + 16777216 * c7) := by omega
  rw [h4]
  have h5 : ((c0 + c1 + c2 + c3) + 256 * (c1 + c2 + c3 + c4) + 65536 * (c2 + c3 + c4 + c5) + 16777216 * (c3 + c4 + c5 + c6) + 4294967296 * ((c4 + c5 + c6 + c7) + 256 * (c5 + c6 + c7) + 65536 * (c6 + c7) + 16777216 * c7)) / 4294967296 = (c4 + c5 + c6 + c7) + 256 * (c5 + c6 + c7) + 65536 * (c6 + c7) + 16777216 * c7 := by omega
  rw [h5]
  omega

theorem mk85 : (6148914691236517205 : Int64) = lN (mkB 85 8) := by decide +kernel
theorem mk51 : (3689348814741910323 : Int64) = lN (mkB 51 8) := by decide +kernel
theorem mk15 : (1085102592571150095 : Int64) = lN (mkB 15 8) := by decide +kernel
theorem mk_lt : mkB 85 8 < 2 ^ 63 ∧ mkB 51 8 < 2 ^ 62 ∧ mkB 15 8 < 2 ^ 60 := by decide
theorem pB_lt (x : Nat) : pB 8 x < 2 ^ 63 := by
  unfold pB
  have h1 : x &&& mkB 51 8 < 2 ^ 62 := Nat.and_lt_two_pow _ mk_lt.2.1
  have h2 : x / 4 &&& mkB 51 8 < 2 ^ 62 := Nat.and_lt_two_pow _ mk_lt.2.1
  omega
theorem pC_lt (x : Nat) : pC 8 x < 2 ^ 60 := Nat.and_lt_two_pow _ mk_lt.2.2
/-- Long.bitCount: how many bits -/
theorem c_J13_bitCount {Γ : GT} {G : GG} {M : MM} {m : Nat} (hm : m < 2 ^ 64) : Calls Γ q_J13_bitCount [.long (lN m)] G M (rI (fun v M' => v = nI (fb_ct (fun i => m.testBit i) 64) ∧ M' = M)) := by
  refine Calls.intro (by decide +kernel) (Nat.le_of_ble_eq_true rfl) (fun z E h hQ => ?_)
  refine x_lload_n h dJ13_bitCount_95d88_0 rfl ?_
  refine x_lload_n h dJ13_bitCount_95d88_1 rfl ?_
  refine x_in1 h dJ13_bitCount_95d88_2 ?_
  refine x_lushr h dJ13_bitCount_95d88_3 ?_
  refine x_topl (wb_shr hm (by decide)) ?_
  refine x_ldc2 h kl_J13_314 dJ13_bitCount_95d88_4 ?_
  refine x_topl mk85 ?_
  refine x_land h dJ13_bitCount_95d88_7 ?_
  refine x_topl (fb_andL _ _) ?_
  refine x_lsub h dJ13_bitCount_95d88_8 ?_
  refine x_topl (lN_sub (pA_le 8 m (by rw [show (256 : Nat) ^ 8 = 2 ^ 64 by decide]; exact hm))) ?_
  refine x_topl (y := lN (pA 8 m)) rfl ?_
  have hA : pA 8 m < 2 ^ 64 := Nat.lt_of_le_of_lt (Nat.sub_le _ _) hm
  generalize hAe : pA 8 m = A at hA ⊢
  refine x_lstore_n h dJ13_bitCount_95d88_9 rfl rfl ?_
  refine x_lload_n h dJ13_bitCount_95d88_10 rfl ?_
  refine x_ldc2 h kl_J13_316 dJ13_bitCount_95d88_11 ?_
  refine x_topl mk51 ?_
  refine x_land h dJ13_bitCount_95d88_14 ?_
  refine x_topl (fb_andL _ _) ?_
  refine x_lload_n h dJ13_bitCount_95d88_15 rfl ?_
  refine x_in2 h dJ13_bitCount_95d88_16 ?_
  refine x_lushr h dJ13_bitCount_95d88_17 ?_
  refine x_topl (wb_shr hA (by decide)) ?_
  refine x_ldc2 h kl_J13_316 dJ13_bitCount_95d88_18 ?_
  refine x_topl mk51 ?_
  refine x_land h dJ13_bitCount_95d88_21 ?_
  refine x_topl (fb_andL _ _) ?_
  refine x_ladd h dJ13_bitCount_95d88_22 ?_
  refine x_topl (lN_add _ _) ?_
  refine x_topl (y := lN (pB 8 A)) rfl ?_
  have hB := pB_lt A
  generalize hBe : pB 8 A = B at hB ⊢
  refine x_lstore_n h dJ13_bitCount_95d88_23 rfl rfl ?_
  refine x_lload_n h dJ13_bitCount_95d88_24 rfl ?_
  refine x_lload_n h dJ13_bitCount_95d88_25 rfl ?_
  refine x_in4 h dJ13_bitCount_95d88_26 ?_
  refine x_lushr h dJ13_bitCount_95d88_27 ?_
  refine x_topl (wb_shr (by omega) (by decide)) ?_
  refine x_ladd h dJ13_bitCount_95d88_28 ?_
  refine x_topl (lN_add _ _) ?_
  refine x_ldc2 h kl_J13_318 dJ13_bitCount_95d88_29 ?_
  refine x_topl mk15 ?_
  refine x_land h dJ13_bitCount_95d88_32 ?_
  refine x_topl (fb_andL _ _) ?_
  refine x_topl (y := lN (pC 8 B)) rfl ?_
  have hC := pC_lt B
  generalize hCe : pC 8 B = C at hC ⊢
  refine x_lstore_n h dJ13_bitCount_95d88_33 rfl rfl ?_
  refine x_lload_n h dJ13_bitCount_95d88_34 rfl ?_
  refine x_lload_n h dJ13_bitCount_95d88_35 rfl ?_
  refine x_bipush h (nI 8) (by decide) dJ13_bitCount_95d88_36 ?_
  refine x_lushr h dJ13_bitCount_95d88_38 ?_
  refine x_topl (wb_shr (by omega) (by decide)) ?_
  refine x_ladd h dJ13_bitCount_95d88_39 ?_
  refine x_topl (lN_add _ _) ?_
  refine x_lstore_n h dJ13_bitCount_95d88_40 rfl rfl ?_
  refine x_lload_n h dJ13_bitCount_95d88_41 rfl ?_
  refine x_lload_n h dJ13_bitCount_95d88_42 rfl ?_
  refine x_bipush h (nI 16) (by decide) dJ13_bitCount_95d88_43 ?_
  refine x_lushr h dJ13_bitCount_95d88_45 ?_
  refine x_topl (wb_shr (by omega) (by decide)) ?_
  refine x_ladd h dJ13_bitCount_95d88_46 ?_
  refine x_topl (lN_add _ _) ?_
  refine x_lstore_n h dJ13_bitCount_95d88_47 rfl rfl ?_
  refine x_lload_n h dJ13_bitCount_95d88_48 rfl ?_
  refine x_lload_n h dJ13_bitCount_95d88_49 rfl ?_
  refine x_bipush h (nI 32) (by decide) dJ13_bitCount_95d88_50 ?_
  refine x_lushr h dJ13_bitCount_95d88_52 ?_
  refine x_topl (wb_shr (by omega) (by decide)) ?_
  refine x_ladd h dJ13_bitCount_95d88_53 ?_
  refine x_topl (lN_add _ _) ?_
  refine x_lstore_n h dJ13_bitCount_95d88_54 rfl rfl ?_
  refine x_lload_n h dJ13_bitCount_95d88_55 rfl ?_
  refine x_l2i h dJ13_bitCount_95d88_56 ?_
  refine x_topi (lN_i _) ?_
  refine x_bipush h (nI 127) (by decide) dJ13_bitCount_95d88_57 ?_
  refine x_iand h dJ13_bitCount_95d88_59 ?_
  refine x_topi (fa_mask _ 7) ?_
  exact x_iret h hQ rfl dJ13_bitCount_95d88_60 ⟨rfl, rfl, _, rfl, by rw [← pcN_eq hm]; unfold pcN; rw [hAe, hBe, hCe], rfl⟩
