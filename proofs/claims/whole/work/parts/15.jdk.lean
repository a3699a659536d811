/-! ===== the JDK's own methods: bitCount, numberOfTrailingZeros, max, min ===== -/
theorem x_ldcw {Γ : GT} {E : CT} {q : MD} {k n : Nat} {G : GG} {z : Nat} {M : MM} {pc : Nat} {L : List (Option Value)} {st : List Value} (h : Ok Γ E q) {idx : Nat} {v : Int32} (hw : KW (Cond.constant q.1.cls idx v)) (d : decode q.2.1 pc = .ok (.ldc_w idx, 3)) (kk : X Γ E k n G z M (pc + 3) L (.int v :: st)) : X Γ E k n G z M pc L st :=
  fun H locs ls hH hF hL => lv_ldcw h.1 h.2.1 h.2.2.2.2.2.1 (h.ks.at hw) d (kk H locs ls hH hF hL)
theorem and_split {k a c : Nat} (ha : a < 2 ^ k) (hc : c < 2 ^ k) (r s : Nat) : (a + 2 ^ k * r) &&& (c + 2 ^ k * s) = (a &&& c) + 2 ^ k * (r &&& s) := by
  have hac : a &&& c < 2 ^ k := Nat.and_lt_two_pow a hc
  refine Nat.eq_of_testBit_eq (fun i => ?_)
  rw [Nat.testBit_and, Nat.add_comm a, Nat.add_comm c, Nat.add_comm (a &&& c), Nat.testBit_two_pow_mul_add _ ha, Nat.testBit_two_pow_mul_add _ hc, Nat.testBit_two_pow_mul_add _ hac]
  by_cases hi : i < k
  · simp [hi]
  · simp [hi]
/-- a byte again and again -/
def mkB (c : Nat) : Nat → Nat
  | 0 => 0
  | n + 1 => c + 256 * mkB c n
def pA (n x : Nat) : Nat := x - ((x / 2) &&& mkB 85 n)
def pB (n x : Nat) : Nat := (x &&& mkB 51 n) + ((x / 4) &&& mkB 51 n)
def pC (n x : Nat) : Nat := (x + x / 16) &&& mkB 15 n
theorem and_byte {c : Nat} (hc : c < 256) (n x : Nat) : x &&& mkB c (n + 1) = (x % 256 &&& c) + 256 * (x / 256 &&& mkB c n) := by
  have := and_split (k := 8) (a := x % 256) (c := c) (Nat.mod_lt _ (by decide)) hc (x / 256) (mkB c n)
  rw [mkB]
  rw [show x = x % 256 + 2 ^ 8 * (x / 256) by omega]
  rw [show 256 * mkB c n = 2 ^ 8 * mkB c n from rfl, this]
  congr 1
  · congr 1; omega
  · show 256 * _ = 256 * _
    congr 2; omega
theorem byte_A : ∀ b, b < 256 → ∀ c, c < 2 → (b / 2 + 128 * c) &&& 85 = (b / 2 &&& 85) ∧ (b / 2 &&& 85) ≤ b := by decide +kernel
theorem byte_B : ∀ b, b < 256 → ∀ c, c < 4 → (b / 4 + 64 * c) &&& 51 = (b / 4 &&& 51) := by decide +kernel
def q1 (b : Nat) : Nat := b - (b / 2 &&& 85)
def q2 (b : Nat) : Nat := (q1 b &&& 51) + (q1 b / 4 &&& 51)
theorem byte_P : ∀ b, b < 256 → q1 b < 256 ∧ (q1 b &&& 51) + (q1 b / 4 &&& 51) < 256 ∧ q2 b % 16 ≤ 4 ∧ q2 b / 16 ≤ 4 ∧ q2 b % 16 + q2 b / 16 = fb_ct (fun i => b.testBit i) 8 := by decide +kernel
theorem pA_step (n b r : Nat) (hb : b < 256) (hle : (r / 2 &&& mkB 85 n) ≤ r) : pA (n + 1) (b + 256 * r) = q1 b + 256 * pA n r ∧ ((b + 256 * r) / 2 &&& mkB 85 (n + 1)) ≤ b + 256 * r := by
  have e1 : ((b + 256 * r) / 2 &&& mkB 85 (n + 1)) = (b / 2 &&& 85) + 256 * (r / 2 &&& mkB 85 n) := by
    rw [and_byte (by decide)]
    have h1 : (b + 256 * r) / 2 % 256 = b / 2 + 128 * (r % 2) := by omega
    have h2 : (b + 256 * r) / 2 / 256 = r / 2 := by omega
    rw [h1, h2, (byte_A b hb (r % 2) (Nat.mod_lt _ (by decide))).1]
  have h3 := (byte_A b hb 0 (by decide)).2
  refine ⟨?_, ?_⟩
  · unfold pA q1
    rw [e1]
    omega
  · rw [e1]; omega
theorem pA_le : ∀ n x, x < 256 ^ n → (x / 2 &&& mkB 85 n) ≤ x
  | 0, x, h => by simp [mkB]
  | n + 1, x, h => by
    have h1 : x / 256 < 256 ^ n := by
      rw [Nat.pow_succ] at h
      omega
    have := (pA_step n (x % 256) (x / 256) (Nat.mod_lt _ (by decide)) (pA_le n (x / 256) h1)).2
    rwa [show x % 256 + 256 * (x / 256) = x by omega] at this
theorem pB_step (n b r : Nat) (hb : b < 256) (h4 : (b &&& 51) + (b / 4 &&& 51) < 256) : pB (n + 1) (b + 256 * r) = ((b &&& 51) + (b / 4 &&& 51)) + 256 * pB n r := by
  unfold pB
  rw [and_byte (by decide), and_byte (by decide)]
  have h0 : (b + 256 * r) % 256 = b := by omega
  have h0' : (b + 256 * r) / 256 = r := by omega
  have h1 : (b + 256 * r) / 4 % 256 = b / 4 + 64 * (r % 4) := by omega
  have h2 : (b + 256 * r) / 4 / 256 = r / 4 := by omega
  rw [h0, h0', h1, h2, byte_B b hb (r % 4) (Nat.mod_lt _ (by decide))]
  omega
theorem low4 : ∀ x, x < 256 → x &&& 15 = x % 16 := by decide +kernel
theorem pC_step (n b r : Nat) (h1 : b % 16 ≤ 4) (h2 : b / 16 ≤ 4) (h3 : r % 16 ≤ 4) : pC (n + 1) (b + 256 * r) = (b % 16 + b / 16) + 256 * pC n r := by
  unfold pC
  rw [and_byte (by decide)]
  have e1 : (b + 256 * r + (b + 256 * r) / 16) % 256 = b + b / 16 + 16 * (r % 16) := by omega
  have e2 : (b + 256 * r + (b + 256 * r) / 16) / 256 = r + r / 16 := by omega
  rw [e1, e2, low4 _ (by omega)]
  have : (b + b / 16 + 16 * (r % 16)) % 16 = b % 16 + b / 16 := by omega
  rw [this]
/-- the bytes of the three first steps: how many bits each byte has -/
def pcB (x : Nat) : Nat → Nat
  | 0 => 0
  | n + 1 => fb_ct (fun i => (x % 256).testBit i) 8 + 256 * pcB (x / 256) n
theorem pAB_low : ∀ n x, x < 256 ^ n → pB n (pA n x) % 16 ≤ 4
  | 0, x, h => by simp [pB, mkB]
  | n + 1, x, h => by
    have hm : x % 256 < 256 := Nat.mod_lt _ (by decide)
    have h1 : x / 256 < 256 ^ n := by rw [Nat.pow_succ] at h; omega
    have hx : x = x % 256 + 256 * (x / 256) := by omega
    have hp := byte_P _ hm
    rw [hx, (pA_step n _ _ hm (pA_le n _ h1)).1, pB_step n _ _ hp.1 hp.2.1]
    have : (q1 (x % 256) &&& 51) + (q1 (x % 256) / 4 &&& 51) = q2 (x % 256) := rfl
    have h2 : q2 (x % 256) % 16 ≤ 4 := hp.2.2.1
    omega
theorem pABC : ∀ n x, x < 256 ^ n → pC n (pB n (pA n x)) = pcB x n
  | 0, x, h => by simp [pC, mkB, pcB]
  | n + 1, x, h => by
    have hm : x % 256 < 256 := Nat.mod_lt _ (by decide)
    have h1 : x / 256 < 256 ^ n := by rw [Nat.pow_succ] at h; omega
    have hx : x = x % 256 + 256 * (x / 256) := by omega
    have hp := byte_P _ hm
    have e : pC (n + 1) (pB (n + 1) (pA (n + 1) x)) = pC (n + 1) (q2 (x % 256) + 256 * pB n (pA n (x / 256))) := by
      conv => lhs; rw [hx, (pA_step n _ _ hm (pA_le n _ h1)).1, pB_step n _ _ hp.1 hp.2.1]
      rfl
    rw [e, pC_step n _ _ hp.2.2.1 hp.2.2.2.1 (pAB_low n _ h1), pABC n _ h1, pcB]
    congr 1
    exact hp.2.2.2.2
theorem ct8 (p : Nat → Bool) : fb_ct p 8 ≤ 8 := fb_ct_le p 8
theorem ct_byte (x k : Nat) : fb_ct (fun i => x.testBit i) (8 + k) = fb_ct (fun i => (x % 256).testBit i) 8 + fb_ct (fun i => (x / 256).testBit i) k := by
  rw [fb_ct_split]
  congr 1
  · refine fb_ct_cong (fun i hi => ?_)
    have := Nat.testBit_mod_two_pow x 8 i
    rw [show (2 : Nat) ^ 8 = 256 from rfl] at this
    rw [this]
    simp [hi]
  · refine fb_ct_cong (fun i hi => ?_)
    show x.testBit (8 + i) = (x / 256).testBit i
    rw [show x / 256 = x / 2 ^ 8 from rfl, Nat.testBit_div_two_pow, Nat.add_comm]
/-- all of it, of 64 bits -/
def pcN (x : Nat) : Nat :=
  let y := pC 8 (pB 8 (pA 8 x))
  let y1 := y + y / 256
  let y2 := y1 + y1 / 65536
  let y3 := y2 + y2 / 4294967296
  y3 % 128
theorem pc_a {c r y : Nat} (h : c ≤ 8) (e : y = c + 256 * r) : y / 256 = r := by omega
theorem pc_b {y r1 r2 r3 c0 c1 c2 : Nat} (h0 : c0 ≤ 8) (h1 : c1 ≤ 8) (h2 : c2 ≤ 8) (e0 : y = c0 + 256 * r1) (e1 : r1 = c1 + 256 * r2) (e2 : r2 = c2 + 256 * r3) : (y + r1) / 65536 = r2 + r3 := by omega
theorem pc_c {y r1 r2 r3 r4 c0 c1 c2 c3 : Nat} (e0 : y = c0 + 256 * r1) (e1 : r1 = c1 + 256 * r2) (e2 : r2 = c2 + 256 * r3) (e3 : r3 = c3 + 256 * r4) : y = (c0 + 256 * c1 + 65536 * c2 + 16777216 * c3) + 4294967296 * r4 := by omega
theorem pc_d {a b c d r4 r5 r6 r7 y r1 r2 r3 : Nat} (ha : a < 200000000) (hb : b < 200000000) (hc : c < 200000000) (hd : d < 200000000) (ey : y = a + 4294967296 * r4) (e1 : r1 = b + 4294967296 * r5) (e2 : r2 = c + 4294967296 * r6) (e3 : r3 = d + 4294967296 * r7) : (y + r1 + (r2 + r3)) / 4294967296 = r4 + r5 + r6 + r7 := by omega
theorem pc_e {c0 c1 c2 c3 : Nat} (h0 : c0 ≤ 8) (h1 : c1 ≤ 8) (h2 : c2 ≤ 8) (h3 : c3 ≤ 8) : c0 + 256 * c1 + 65536 * c2 + 16777216 * c3 < 200000000 := by omega
theorem pc_f {y c r : Nat} (e : y = c + 256 * r) : ∃ t, y = c + 128 * t := ⟨2 * r, by omega⟩
theorem pc_g {y0 y1 y2 y3 y4 y5 y6 y7 c0 c1 c2 c3 c4 c5 c6 c7 : Nat} (h0 : c0 ≤ 8) (h1 : c1 ≤ 8) (h2 : c2 ≤ 8) (h3 : c3 ≤ 8) (h4 : c4 ≤ 8) (h5 : c5 ≤ 8) (h6 : c6 ≤ 8) (h7 : c7 ≤ 8) (e0 : ∃ t, y0 = c0 + 128 * t) (e1 : ∃ t, y1 = c1 + 128 * t) (e2 : ∃ t, y2 = c2 + 128 * t) (e3 : ∃ t, y3 = c3 + 128 * t) (e4 : ∃ t, y4 = c4 + 128 * t) (e5 : ∃ t, y5 = c5 + 128 * t) (e6 : ∃ t, y6 = c6 + 128 * t) (e7 : ∃ t, y7 = c7 + 128 * t) : (y0 + y1 + (y2 + y3) + (y4 + y5 + y6 + y7)) % 128 = c0 + (c1 + (c2 + (c3 + (c4 + (c5 + (c6 + c7)))))) := by
  obtain ⟨t0, rfl⟩ := e0
  obtain ⟨t1, rfl⟩ := e1
  obtain ⟨t2, rfl⟩ := e2
  obtain ⟨t3, rfl⟩ := e3
  obtain ⟨t4, rfl⟩ := e4
  obtain ⟨t5, rfl⟩ := e5
  obtain ⟨t6, rfl⟩ := e6
  obtain ⟨t7, rfl⟩ := e7
  rw [show c0 + 128 * t0 + (c1 + 128 * t1) + (c2 + 128 * t2 + (c3 + 128 * t3)) + (c4 + 128 * t4 + (c5 + 128 * t5) + (c6 + 128 * t6) + (c7 + 128 * t7)) = (c0 + (c1 + (c2 + (c3 + (c4 + (c5 + (c6 + c7))))))) + 128 * (t0 + t1 + t2 + t3 + t4 + t5 + t6 + t7) by omega, Nat.add_mul_mod_self_left]
  exact Nat.mod_eq_of_lt (by omega)
theorem pc_z {y r1 r2 r3 r4 r5 r6 r7 c0 c1 c2 c3 c4 c5 c6 c7 : Nat} (h0 : c0 ≤ 8) (h1 : c1 ≤ 8) (h2 : c2 ≤ 8) (h3 : c3 ≤ 8) (h4 : c4 ≤ 8) (h5 : c5 ≤ 8) (h6 : c6 ≤ 8) (h7 : c7 ≤ 8) (e0 : y = c0 + 256 * r1) (e1 : r1 = c1 + 256 * r2) (e2 : r2 = c2 + 256 * r3) (e3 : r3 = c3 + 256 * r4) (e4 : r4 = c4 + 256 * r5) (e5 : r5 = c5 + 256 * r6) (e6 : r6 = c6 + 256 * r7) (e7 : r7 = c7 + 256 * 0) :
    ((y + y / 256 + (y + y / 256) / 65536) + (y + y / 256 + (y + y / 256) / 65536) / 4294967296) % 128 = c0 + (c1 + (c2 + (c3 + (c4 + (c5 + (c6 + c7)))))) := by
  rw [pc_a h0 e0, pc_b h0 h1 h2 e0 e1 e2, pc_d (pc_e h0 h1 h2 h3) (pc_e h1 h2 h3 h4) (pc_e h2 h3 h4 h5) (pc_e h3 h4 h5 h6) (pc_c e0 e1 e2 e3) (pc_c e1 e2 e3 e4) (pc_c e2 e3 e4 e5) (pc_c e3 e4 e5 e6)]
  exact pc_g h0 h1 h2 h3 h4 h5 h6 h7 (pc_f e0) (pc_f e1) (pc_f e2) (pc_f e3) (pc_f e4) (pc_f e5) (pc_f e6) (pc_f e7)
theorem ct_8 (x : Nat) : fb_ct (fun i => (x % 256).testBit i) 8 = fb_ct (fun i => x.testBit i) 8 := by
  refine fb_ct_cong (fun i hi => ?_)
  have := Nat.testBit_mod_two_pow x 8 i
  rw [show (2 : Nat) ^ 8 = 256 from rfl] at this
  rw [this]
  simp [hi]
theorem p8 {x : Nat} (h : x < 2 ^ 64) : x < 256 ^ 8 := Nat.lt_of_lt_of_le h (Nat.le_of_ble_eq_true rfl)
theorem pcN_eq {x : Nat} (h : x < 2 ^ 64) : pcN x = fb_ct (fun i => x.testBit i) 64 := by
  unfold pcN
  rw [pABC 8 x (p8 h)]
  rw [show (64 : Nat) = 8 + (8 + (8 + (8 + (8 + (8 + (8 + 8)))))) from rfl, ct_byte, ct_byte, ct_byte, ct_byte, ct_byte, ct_byte, ct_byte]
  rw [← ct_8 (x / 256 / 256 / 256 / 256 / 256 / 256 / 256)]
  exact pc_z (ct8 _) (ct8 _) (ct8 _) (ct8 _) (ct8 _) (ct8 _) (ct8 _) (ct8 _) (r1 := pcB (x / 256) 7) (r2 := pcB (x / 256 / 256) 6) (r3 := pcB (x / 256 / 256 / 256) 5) (r4 := pcB (x / 256 / 256 / 256 / 256) 4) (r5 := pcB (x / 256 / 256 / 256 / 256 / 256) 3) (r6 := pcB (x / 256 / 256 / 256 / 256 / 256 / 256) 2) (r7 := pcB (x / 256 / 256 / 256 / 256 / 256 / 256 / 256) 1) rfl rfl rfl rfl rfl rfl rfl rfl

theorem mk85 : (6148914691236517205 : Int64) = lN (mkB 85 8) := by decide +kernel
theorem mk51 : (3689348814741910323 : Int64) = lN (mkB 51 8) := by decide +kernel
theorem mk15 : (1085102592571150095 : Int64) = lN (mkB 15 8) := by decide +kernel
theorem mk_lt : mkB 85 8 < 2 ^ 63 ∧ mkB 51 8 < 2 ^ 62 ∧ mkB 15 8 < 2 ^ 60 := by decide +kernel
theorem pB_lt (x : Nat) : pB 8 x < 2 ^ 63 := by
  unfold pB
  have h1 : x &&& mkB 51 8 < 2 ^ 62 := Nat.and_lt_two_pow _ mk_lt.2.1
  have h2 : x / 4 &&& mkB 51 8 < 2 ^ 62 := Nat.and_lt_two_pow _ mk_lt.2.1
  omega
theorem pC_lt (x : Nat) : pC 8 x < 2 ^ 60 := Nat.and_lt_two_pow _ mk_lt.2.2
