/-! ===== States: a variable's value, any value, one more or less ===== -/
/-- the value of a variable in a state; how far apart its values are -/
def valS (s v : Nat) : Nat := if v = 0 then s / 36 else if v = 1 then s / 6 % 6 else s % 6
def sgS (v : Nat) : Nat := if v = 0 then 36 else if v = 1 then 6 else 1
def mvS (v x : Nat) (S : ST) : ST := fun s => S s && decide (valS s v = x)
def any6 (f : Nat → Bool) : Bool := f 0 || f 1 || f 2 || f 3 || f 4 || f 5
def frS (v : Nat) (S : ST) : ST := fun s => any6 (fun w => S (s - valS s v * sgS v + w * sgS v))
def shS (v : Nat) (up st : Bool) (S : ST) : ST := fun s => (if up then decide (1 ≤ valS s v) && S (s - sgS v) else decide (valS s v ≤ 4) && S (s + sgS v)) || (decide (valS s v = if st then 5 else 0) && S s)
/-- the digit of a variable in a plane -/
def dgS (v j : Nat) : Nat := if v = 1 then j / 6 else j % 6
theorem val_dg {v : Nat} (hv : v = 1 ∨ v = 2) (k : Nat) {j : Nat} (hj : j < 36) : valS (36 * k + j) v = dgS v j := by
  rcases hv with rfl | rfl
  · simp only [valS, dgS]; simp; omega
  · simp only [valS, dgS]; simp; omega
theorem val_0 (k : Nat) {j : Nat} (hj : j < 36) : valS (36 * k + j) 0 = k := by simp only [valS, if_true]; omega
theorem wL_skip {M : MM} {p i : Nat} {f : Nat → Int64} (h : M.2.1 p i = f i) : wL M p i f = wL M p (i + 1) f := by
  show (M.1, _, M.2.2) = (M.1, _, M.2.2)
  congr 2
  funext b j
  by_cases hb : b = p
  · subst hb
    by_cases hj : j = i
    · subst hj; simp [h]
    · by_cases h2 : j < i
      · simp [h2, Nat.lt_succ_of_lt h2]
      · simp [h2, show ¬ j < i + 1 by omega]
  · simp [hb]
theorem wL_of {M N : MM} {p : Nat} {f : Nat → Int64} (h1 : N.1 = M.1) (h2 : N.2.2 = M.2.2) (h3 : ∀ b j, ¬ (b = p ∧ j < 6) → N.2.1 b j = M.2.1 b j) (h4 : ∀ j, j < 6 → N.2.1 p j = f j) : N = wL M p 6 f := by
  show (N.1, N.2.1, N.2.2) = (M.1, _, M.2.2)
  rw [h1, h2]
  congr 2
  funext b j
  by_cases hb : b = p ∧ j < 6
  · obtain ⟨rfl, hj⟩ := hb
    simp [hj, h4 j hj]
  · simp only [if_neg hb]
    exact h3 b j hb
theorem encF_re {S T : ST} {k k' : Nat} (h : ∀ j, j < 36 → S (36 * k + j) = T (36 * k' + j)) : encF S k = encF T k' := by
  unfold encF
  congr 1
  refine Nat.eq_of_testBit_eq (fun i => ?_)
  rw [enN_bit, enN_bit]
  by_cases hi : i < 36
  · rw [h i hi]
  · simp [hi]
theorem encF_or_re {S T U : ST} {k k' k'' : Nat} (h : ∀ j, j < 36 → (S (36 * k + j) || T (36 * k' + j)) = U (36 * k'' + j)) : encF S k ||| encF T k' = encF U k'' := by
  unfold encF
  rw [fb_orL]
  congr 1
  refine enN_eq (fun i => ?_)
  rw [Nat.testBit_or, enN_bit, enN_bit]
  by_cases hi : i < 36
  · rw [← h i hi]; simp [hi]
  · simp [hi]
theorem encF_z {U : ST} {k : Nat} (h : ∀ j, j < 36 → U (36 * k + j) = false) : (0 : Int64) = encF U k := by
  rw [encF_none k]
  exact encF_re (fun j hj => (h j hj).symm)
/-- a plane under a mask of one value -/
theorem bit_line1 : ∀ x, x < 6 → ∀ j, j < 36 → (63 * 2 ^ (6 * x)).testBit j = decide (j / 6 = x) := by decide +kernel
theorem bit_line2 : ∀ x, x < 6 → ∀ j, j < 36 → (1090785345 * 2 ^ x).testBit j = decide (j % 6 = x) := by decide +kernel
theorem encF_mask {S : ST} {k m : Nat} {U : ST} (h : ∀ j, j < 36 → (S (36 * k + j) && m.testBit j) = U (36 * k + j)) : encF S k &&& lN m = encF U k := by
  unfold encF
  rw [fb_andL]
  congr 1
  refine enN_eq (fun i => ?_)
  rw [Nat.testBit_and, enN_bit]
  by_cases hi : i < 36
  · rw [← h i hi]; simp [hi]
  · simp [hi]
theorem c_X9_meetValue_0 {Γ : GT} {G : GG} {M : MM} {a : Nat} {S : ST} {x : Nat} (hx : x < 6) (hS : isS G M.2.2 a) (eS : hasS M a S) : Calls Γ q_X9_meetValue [.ref a, .int (nI 0), .int (nI x)] G M (rV (fun M' => M' = setS M a (mvS 0 x S))) := by
  obtain ⟨g0, r0, g1⟩ := hS
  refine Calls.intro (by decide +kernel) (Nat.le_of_ble_eq_true rfl) (fun z E h hQ => ?_)
  have loop : ∀ i, i ≤ 6 → ∀ w, X Γ E 0 0 G z (wL M (a + 1) i (encF (mvS 0 x S))) 25 [some (.ref a), some (.int (nI 0)), some (.int (nI x)), some (.long w), none, some (.int (nI i))] [] := by
    refine upto 6 (fun i hi ih w => ?_)
    refine x_iload h dX9_meetValue_25 rfl ?_
    refine x_bipush h (nI 6) (by decide) dX9_meetValue_27 ?_
    refine x_icmp_ge h 70 dX9_meetValue_29 (by decide) (fun c29 => ?_) (fun c29 => ?_)
    · obtain rfl : i = 6 := up_ge (by decide) hi c29
      exact x_vret h hQ rfl dX9_meetValue_70 ⟨rfl, rfl, rfl, rfl⟩
    · have hlt : i < 6 := up_lt (by decide) hi c29
      refine x_iload_n h dX9_meetValue_32 rfl ?_
      refine x_if_eq h 50 dX9_meetValue_33 (by decide) (fun c33 => ?_) (fun c33 => ?_)
      · refine x_iload h dX9_meetValue_50 rfl ?_
        refine x_iload_n h dX9_meetValue_52 rfl ?_
        refine x_icmp_eq h 64 dX9_meetValue_53 (by decide) (fun c53 => ?_) (fun c53 => ?_)
        · have hix : i = x := (nI_eq_iff (by omega) (by omega)).mp c53
          refine x_mem (wL_skip ((eS i hlt).trans (encF_re (fun j hj => by subst hix; simp [mvS, val_0 i hj])))) ?_
          refine x_incn h dX9_meetValue_64 rfl rfl rfl ?_
          refine x_goto h 25 dX9_meetValue_67 (by decide) ?_
          exact ih hlt w
        · have hix : ¬ i = x := fun q => c53 (by rw [q])
          refine x_aload_n h dX9_meetValue_56 rfl ?_
          refine x_getR h g0 f_X9_9 rfl r0 dX9_meetValue_57 ?_
          refine x_iload h dX9_meetValue_60 rfl ?_
          refine x_lc0 h dX9_meetValue_62 ?_
          refine x_lastw h i g1 (ix.ni hlt (by decide)) (encF_z (fun j hj => by simp [mvS, val_0 i hj, hix])) dX9_meetValue_63 ?_
          refine x_incn h dX9_meetValue_64 rfl rfl rfl ?_
          refine x_goto h 25 dX9_meetValue_67 (by decide) ?_
          exact ih hlt w
      · exact absurd c33 (by decide)
  refine x_iload_n h dX9_meetValue_0 rfl ?_
  refine x_in1 h dX9_meetValue_1 ?_
  refine x_icmp_ne h 16 dX9_meetValue_2 (by decide) (fun c2 => ?_) (fun c2 => ?_)
  · refine x_ldc2 h kl_X9_45 dX9_meetValue_16 ?_
    refine x_iload_n h dX9_meetValue_19 rfl ?_
    refine x_lshl h dX9_meetValue_20 ?_
    refine x_lstore_n h dX9_meetValue_21 rfl rfl ?_
    refine x_in0 h dX9_meetValue_22 ?_
    refine x_istore h dX9_meetValue_23 rfl rfl ?_
    have hl := fun w => loop 0 (by decide) w
    simp only [wL_0] at hl
    exact hl _
  · exact absurd c2 (by decide)
theorem c_X9_meetValue_1 {Γ : GT} {G : GG} {M : MM} {a : Nat} {S : ST} {x : Nat} (hx : x < 6) (hS : isS G M.2.2 a) (eS : hasS M a S) : Calls Γ q_X9_meetValue [.ref a, .int (nI 1), .int (nI x)] G M (rV (fun M' => M' = setS M a (mvS 1 x S))) := by
  obtain ⟨g0, r0, g1⟩ := hS
  refine Calls.intro (by decide +kernel) (Nat.le_of_ble_eq_true rfl) (fun z E h hQ => ?_)
  have loop : ∀ i, i ≤ 6 → X Γ E 0 0 G z (wL M (a + 1) i (encF (mvS 1 x S))) 25 [some (.ref a), some (.int (nI 1)), some (.int (nI x)), some (.long (lN (63 * 2 ^ (6 * x)))), none, some (.int (nI i))] [] := by
    refine upto 6 (fun i hi ih => ?_)
    refine x_iload h dX9_meetValue_25 rfl ?_
    refine x_bipush h (nI 6) (by decide) dX9_meetValue_27 ?_
    refine x_icmp_ge h 70 dX9_meetValue_29 (by decide) (fun c29 => ?_) (fun c29 => ?_)
    · obtain rfl : i = 6 := up_ge (by decide) hi c29
      exact x_vret h hQ rfl dX9_meetValue_70 ⟨rfl, rfl, rfl, rfl⟩
    · have hlt : i < 6 := up_lt (by decide) hi c29
      refine x_iload_n h dX9_meetValue_32 rfl ?_
      refine x_if_eq h 50 dX9_meetValue_33 (by decide) (fun c33 => ?_) (fun c33 => ?_)
      · exact absurd c33 (by decide)
      · refine x_aload_n h dX9_meetValue_36 rfl ?_
        refine x_getR h g0 f_X9_9 rfl r0 dX9_meetValue_37 ?_
        refine x_iload h dX9_meetValue_40 rfl ?_
        refine x_dup2 h rfl rfl dX9_meetValue_42 ?_
        refine x_laldv h i g1 (ix.ni hlt (by decide)) ((wL_ge _ _ _ _ _ (Nat.le_refl i)).trans (eS i hlt)) dX9_meetValue_43 ?_
        refine x_lload_n h dX9_meetValue_44 rfl ?_
        refine x_land h dX9_meetValue_45 ?_
        refine x_lastw h i g1 (ix.ni hlt (by decide)) (encF_mask (fun j hj => by rw [mvS, val_dg (Or.inl rfl) i hj, bit_line1 x hx j hj]; rfl)) dX9_meetValue_46 ?_
        refine x_goto h 64 dX9_meetValue_47 (by decide) ?_
        refine x_incn h dX9_meetValue_64 rfl rfl rfl ?_
        refine x_goto h 25 dX9_meetValue_67 (by decide) ?_
        exact ih hlt
  refine x_iload_n h dX9_meetValue_0 rfl ?_
  refine x_in1 h dX9_meetValue_1 ?_
  refine x_icmp_ne h 16 dX9_meetValue_2 (by decide) (fun c2 => ?_) (fun c2 => ?_)
  · exact absurd c2 (by decide)
  · refine x_ldc2 h kl_X9_43 dX9_meetValue_5 ?_
    refine x_bipush h (nI 6) (by decide) dX9_meetValue_8 ?_
    refine x_iload_n h dX9_meetValue_10 rfl ?_
    refine x_imuln h  dX9_meetValue_11 ?_
    refine x_lshl h dX9_meetValue_12 ?_
    refine x_goto h 21 dX9_meetValue_13 (by decide) ?_
    refine x_topl (wb_shl 63 (k := 6 * x) (by omega)) ?_
    refine x_lstore_n h dX9_meetValue_21 rfl rfl ?_
    refine x_in0 h dX9_meetValue_22 ?_
    refine x_istore h dX9_meetValue_23 rfl rfl ?_
    have hl := loop 0 (by decide)
    rw [wL_0] at hl
    exact hl
theorem c_X9_meetValue_2 {Γ : GT} {G : GG} {M : MM} {a : Nat} {S : ST} {x : Nat} (hx : x < 6) (hS : isS G M.2.2 a) (eS : hasS M a S) : Calls Γ q_X9_meetValue [.ref a, .int (nI 2), .int (nI x)] G M (rV (fun M' => M' = setS M a (mvS 2 x S))) := by
  obtain ⟨g0, r0, g1⟩ := hS
  refine Calls.intro (by decide +kernel) (Nat.le_of_ble_eq_true rfl) (fun z E h hQ => ?_)
  have loop : ∀ i, i ≤ 6 → X Γ E 0 0 G z (wL M (a + 1) i (encF (mvS 2 x S))) 25 [some (.ref a), some (.int (nI 2)), some (.int (nI x)), some (.long (lN (1090785345 * 2 ^ x))), none, some (.int (nI i))] [] := by
    refine upto 6 (fun i hi ih => ?_)
    refine x_iload h dX9_meetValue_25 rfl ?_
    refine x_bipush h (nI 6) (by decide) dX9_meetValue_27 ?_
    refine x_icmp_ge h 70 dX9_meetValue_29 (by decide) (fun c29 => ?_) (fun c29 => ?_)
    · obtain rfl : i = 6 := up_ge (by decide) hi c29
      exact x_vret h hQ rfl dX9_meetValue_70 ⟨rfl, rfl, rfl, rfl⟩
    · have hlt : i < 6 := up_lt (by decide) hi c29
      refine x_iload_n h dX9_meetValue_32 rfl ?_
      refine x_if_eq h 50 dX9_meetValue_33 (by decide) (fun c33 => ?_) (fun c33 => ?_)
      · exact absurd c33 (by decide)
      · refine x_aload_n h dX9_meetValue_36 rfl ?_
        refine x_getR h g0 f_X9_9 rfl r0 dX9_meetValue_37 ?_
        refine x_iload h dX9_meetValue_40 rfl ?_
        refine x_dup2 h rfl rfl dX9_meetValue_42 ?_
        refine x_laldv h i g1 (ix.ni hlt (by decide)) ((wL_ge _ _ _ _ _ (Nat.le_refl i)).trans (eS i hlt)) dX9_meetValue_43 ?_
        refine x_lload_n h dX9_meetValue_44 rfl ?_
        refine x_land h dX9_meetValue_45 ?_
        refine x_lastw h i g1 (ix.ni hlt (by decide)) (encF_mask (fun j hj => by rw [mvS, val_dg (Or.inr rfl) i hj, bit_line2 x hx j hj]; rfl)) dX9_meetValue_46 ?_
        refine x_goto h 64 dX9_meetValue_47 (by decide) ?_
        refine x_incn h dX9_meetValue_64 rfl rfl rfl ?_
        refine x_goto h 25 dX9_meetValue_67 (by decide) ?_
        exact ih hlt
  refine x_iload_n h dX9_meetValue_0 rfl ?_
  refine x_in1 h dX9_meetValue_1 ?_
  refine x_icmp_ne h 16 dX9_meetValue_2 (by decide) (fun c2 => ?_) (fun c2 => ?_)
  · refine x_ldc2 h kl_X9_45 dX9_meetValue_16 ?_
    refine x_iload_n h dX9_meetValue_19 rfl ?_
    refine x_lshl h dX9_meetValue_20 ?_
    refine x_topl (wb_shl 1090785345 (k := x) (by omega)) ?_
    refine x_lstore_n h dX9_meetValue_21 rfl rfl ?_
    refine x_in0 h dX9_meetValue_22 ?_
    refine x_istore h dX9_meetValue_23 rfl rfl ?_
    have hl := loop 0 (by decide)
    rw [wL_0] at hl
    exact hl
  · exact absurd c2 (by decide)
theorem sh_f1 : ∀ v, v < 3 → v ≠ 0 → ∀ j, j < 36 → (sgS v ≤ j ∧ dgS v (j - sgS v) ≠ 5 ↔ 1 ≤ dgS v j) := by decide +kernel
theorem sh_f2 : ∀ v, v < 3 → v ≠ 0 → ∀ j, j < 36 → 36 ≤ j + sgS v → dgS v j = 5 := by decide +kernel
theorem sh_f3 : ∀ v, v < 3 → v ≠ 0 → ∀ j, j < 36 → (j + sgS v < 36 ∧ dgS v (j + sgS v) ≠ 0 ↔ dgS v j ≤ 4) := by decide +kernel
def botS (v : Nat) : Nat := if v = 1 then 63 else 1090785345
def topS (v : Nat) : Nat := botS v * 2 ^ (5 * sgS v)
theorem bit_bot : ∀ v, v < 3 → v ≠ 0 → ∀ j, j < 36 → (botS v).testBit j = decide (dgS v j = 0) := by decide +kernel
theorem bit_top : ∀ v, v < 3 → v ≠ 0 → ∀ j, j < 36 → (topS v).testBit j = decide (dgS v j = 5) := by decide +kernel
theorem bt_lt : ∀ v, v < 3 → v ≠ 0 → botS v < 2 ^ 63 ∧ topS v < 2 ^ 63 := by decide +kernel
theorem sh_up {S : ST} {k v e X : Nat} (hv : v < 3) (h0 : v ≠ 0) {st : Bool} (he : e = if st then 5 else 0) (hX : ∀ j, j < 36 → X.testBit j = decide (dgS v j = e)) : ((encF S k &&& (lN (topS v) ^^^ (-1))) <<< ((nI (sgS v)).toInt64 &&& 63)) ||| (encF S k &&& lN X) = encF (shS v true st S) k := by
  have hv2 : v = 1 ∨ v = 2 := by omega
  have hs : sgS v < 64 := by rcases hv2 with rfl | rfl <;> decide
  unfold encF
  rw [lN_m1, fb_xorL, fb_andL, wb_shl _ hs, fb_andL, fb_orL]
  congr 1
  refine enN_eq (fun i => ?_)
  rw [Nat.testBit_or, Nat.mul_comm, Nat.testBit_two_pow_mul, Nat.testBit_and, Nat.testBit_xor, Nat.testBit_and, enN_bit, enN_bit, Nat.testBit_two_pow_sub_one]
  by_cases hi : i < 36
  · have h1 := sh_f1 v hv h0 i hi
    rw [hX i hi]
    simp only [shS, val_dg hv2 k hi, if_true, ← he]
    by_cases h2 : sgS v ≤ i
    · have h3 : i - sgS v < 36 := by omega
      rw [bit_top v hv h0 _ h3]
      have e1 : 36 * k + i - sgS v = 36 * k + (i - sgS v) := by omega
      rw [e1]
      by_cases h4 : dgS v (i - sgS v) = 5
      · have h5 : ¬ 1 ≤ dgS v i := fun q => (h1.mpr q).2 h4
        simp [h2, h3, h4, h5, hi, show i - sgS v < 64 by omega, Bool.and_comm]
      · have h5 : 1 ≤ dgS v i := h1.mp ⟨h2, h4⟩
        simp [h2, h3, h4, h5, hi, show i - sgS v < 64 by omega, Bool.and_comm]
    · have h5 : ¬ 1 ≤ dgS v i := fun q => h2 (h1.mpr q).1
      simp [h2, h5, hi, Bool.and_comm]
  · have e0 : decide (i < 36) = false := by simp [hi]
    rw [e0]
    simp only [Bool.false_and, Bool.or_false]
    by_cases h3 : i - sgS v < 36
    · by_cases h2 : sgS v ≤ i
      · rw [bit_top v hv h0 _ h3, sh_f2 v hv h0 _ h3 (by omega)]
        simp [show i - sgS v < 64 by omega]
      · simp [h2]
    · simp [h3]
theorem sh_dn {S : ST} {k v e X : Nat} (hv : v < 3) (h0 : v ≠ 0) {st : Bool} (he : e = if st then 5 else 0) (hX : ∀ j, j < 36 → X.testBit j = decide (dgS v j = e)) : ((encF S k &&& (lN (botS v) ^^^ (-1))).toUInt64 >>> ((nI (sgS v)).toInt64.toUInt64 &&& Int64.toUInt64 63)).toInt64 ||| (encF S k &&& lN X) = encF (shS v false st S) k := by
  have hv2 : v = 1 ∨ v = 2 := by omega
  have hs : sgS v < 64 := by rcases hv2 with rfl | rfl <;> decide
  unfold encF
  rw [lN_m1, fb_xorL, fb_andL, wb_shr (Nat.lt_of_le_of_lt Nat.and_le_left (enN_lt64 S _)) hs, fb_andL, fb_orL]
  congr 1
  refine enN_eq (fun i => ?_)
  rw [Nat.testBit_or, Nat.testBit_div_two_pow, Nat.testBit_and, Nat.testBit_xor, Nat.testBit_and, enN_bit, enN_bit, Nat.testBit_two_pow_sub_one]
  by_cases hi : i < 36
  · have h1 := sh_f3 v hv h0 i hi
    rw [hX i hi]
    simp only [shS, val_dg hv2 k hi, ← he]
    by_cases h2 : i + sgS v < 36
    · rw [bit_bot v hv h0 _ h2]
      have e1 : 36 * k + i + sgS v = 36 * k + (i + sgS v) := by omega
      rw [e1]
      by_cases h4 : dgS v (i + sgS v) = 0
      · have h5 : ¬ dgS v i ≤ 4 := fun q => (h1.mpr q).2 h4
        simp [h2, h4, h5, hi, show i + sgS v < 64 by omega, Bool.and_comm]
      · have h5 : dgS v i ≤ 4 := h1.mp ⟨h2, h4⟩
        simp [h2, h4, h5, hi, show i + sgS v < 64 by omega, Bool.and_comm]
    · have h5 : ¬ dgS v i ≤ 4 := fun q => h2 (h1.mpr q).1
      simp [h2, h5, hi, Bool.and_comm]
  · have h2 : ¬ i + sgS v < 36 := by omega
    simp [hi, h2]
theorem c_X9_shift_111 {Γ : GT} {G : GG} {M : MM} {a : Nat} {S : ST} (hS : isS G M.2.2 a) (eS : hasS M a S) : Calls Γ q_X9_shift [.ref a, .int (nI 1), .int (nI 1), .int (nI 1)] G M (rV (fun M' => M' = setS M a (shS 1 true true S))) := by
  obtain ⟨g0, r0, g1⟩ := hS
  refine Calls.intro (by decide +kernel) (Nat.le_of_ble_eq_true rfl) (fun z E h hQ => ?_)
  have loop : ∀ i, i ≤ 6 → ∀ w w2, X Γ E 0 0 G z (wL M (a + 1) i (encF (shS 1 true true S))) 154 [some (.ref a), some (.int (nI 1)), some (.int (nI 1)), some (.int (nI 1)), some (.int (nI 6)), some (.long (lN (botS 1))), none, some (.long (lN (topS 1))), none, some (.int (nI i)), w, w2] [] := by
    refine upto 6 (fun i hi ih w w2 => ?_)
    refine x_iload h dX9_shift_154 rfl ?_
    refine x_bipush h (nI 6) (by decide) dX9_shift_156 ?_
    refine x_icmp_ge h 239 dX9_shift_158 (by decide) (fun c158 => ?_) (fun c158 => ?_)
    · obtain rfl : i = 6 := up_ge (by decide) hi c158
      exact x_vret h hQ rfl dX9_shift_239 ⟨rfl, rfl, rfl, rfl⟩
    · have hlt : i < 6 := up_lt (by decide) hi c158
      refine x_iload_n h dX9_shift_161 rfl ?_
      refine x_if_eq h 185 dX9_shift_162 (by decide) (fun c162 => ?_) (fun c162 => ?_)
      · exact absurd c162 (by decide)
      · refine x_aload_n h dX9_shift_165 rfl ?_
        refine x_getR h g0 f_X9_9 rfl r0 dX9_shift_166 ?_
        refine x_iload h dX9_shift_169 rfl ?_
        refine x_laldv h i g1 (ix.ni hlt (by decide)) ((wL_ge _ _ _ _ _ (Nat.le_refl i)).trans (eS i hlt)) dX9_shift_171 ?_
        refine x_lload h dX9_shift_172 rfl ?_
        refine x_ldc2 h kl_X9_24 dX9_shift_174 ?_
        refine x_lxor h dX9_shift_177 ?_
        refine x_land h dX9_shift_178 ?_
        refine x_iload h dX9_shift_179 rfl ?_
        refine x_lshl h dX9_shift_181 ?_
        refine x_goto h 202 dX9_shift_182 (by decide) ?_
        refine x_lstore h dX9_shift_202 rfl rfl ?_
        refine x_aload_n h dX9_shift_204 rfl ?_
        refine x_getR h g0 f_X9_9 rfl r0 dX9_shift_205 ?_
        refine x_iload h dX9_shift_208 rfl ?_
        refine x_lload h dX9_shift_210 rfl ?_
        refine x_aload_n h dX9_shift_212 rfl ?_
        refine x_getR h g0 f_X9_9 rfl r0 dX9_shift_213 ?_
        refine x_iload h dX9_shift_216 rfl ?_
        refine x_laldv h i g1 (ix.ni hlt (by decide)) ((wL_ge _ _ _ _ _ (Nat.le_refl i)).trans (eS i hlt)) dX9_shift_218 ?_
        refine x_iload_n h dX9_shift_219 rfl ?_
        refine x_if_eq h 228 dX9_shift_220 (by decide) (fun c220 => ?_) (fun c220 => ?_)
        · exact absurd c220 (by decide)
        · refine x_lload h dX9_shift_223 rfl ?_
          refine x_goto h 230 dX9_shift_225 (by decide) ?_
          refine x_land h dX9_shift_230 ?_
          refine x_lor h dX9_shift_231 ?_
          refine x_lastw h i g1 (ix.ni hlt (by decide)) (sh_up (v := 1) (by decide) (by decide) (st := true) rfl (bit_top 1 (by decide) (by decide))) dX9_shift_232 ?_
          refine x_incn h dX9_shift_233 rfl rfl rfl ?_
          refine x_goto h 154 dX9_shift_236 (by decide) ?_
          exact ih hlt _ _
  refine x_iload_n h dX9_shift_0 rfl ?_
  refine x_if_ne h 113 dX9_shift_1 (by decide) (fun c1 => ?_) (fun c1 => ?_)
  · refine x_iload_n h dX9_shift_113 rfl ?_
    refine x_in1 h dX9_shift_114 ?_
    refine x_icmp_ne h 123 dX9_shift_115 (by decide) (fun c115 => ?_) (fun c115 => ?_)
    · exact absurd c115 (by decide)
    · refine x_bipush h (nI 6) (by decide) dX9_shift_118 ?_
      refine x_goto h 124 dX9_shift_120 (by decide) ?_
      refine x_istore h dX9_shift_124 rfl rfl ?_
      refine x_iload_n h dX9_shift_126 rfl ?_
      refine x_in1 h dX9_shift_127 ?_
      refine x_icmp_ne h 137 dX9_shift_128 (by decide) (fun c128 => ?_) (fun c128 => ?_)
      · exact absurd c128 (by decide)
      · refine x_ldc2 h kl_X9_43 dX9_shift_131 ?_
        refine x_goto h 140 dX9_shift_134 (by decide) ?_
        refine x_topl (y := lN (botS 1)) (by decide +kernel) ?_
        refine x_lstore h dX9_shift_140 rfl rfl ?_
        refine x_lload h dX9_shift_142 rfl ?_
        refine x_in5 h dX9_shift_144 ?_
        refine x_iload h dX9_shift_145 rfl ?_
        refine x_imul h dX9_shift_147 ?_
        refine x_topi (y := nI 30) (by decide) ?_
        refine x_lshl h dX9_shift_148 ?_
        refine x_topl (y := lN (topS 1)) (by decide +kernel) ?_
        refine x_lstore h dX9_shift_149 rfl rfl ?_
        refine x_in0 h dX9_shift_151 ?_
        refine x_istore h dX9_shift_152 rfl rfl ?_
        have hl := loop 0 (by decide) none none
        rw [wL_0] at hl
        exact hl
  · exact absurd c1 (by decide)
theorem c_X9_shift_110 {Γ : GT} {G : GG} {M : MM} {a : Nat} {S : ST} (hS : isS G M.2.2 a) (eS : hasS M a S) : Calls Γ q_X9_shift [.ref a, .int (nI 1), .int (nI 1), .int (nI 0)] G M (rV (fun M' => M' = setS M a (shS 1 true false S))) := by
  obtain ⟨g0, r0, g1⟩ := hS
  refine Calls.intro (by decide +kernel) (Nat.le_of_ble_eq_true rfl) (fun z E h hQ => ?_)
  have loop : ∀ i, i ≤ 6 → ∀ w w2, X Γ E 0 0 G z (wL M (a + 1) i (encF (shS 1 true false S))) 154 [some (.ref a), some (.int (nI 1)), some (.int (nI 1)), some (.int (nI 0)), some (.int (nI 6)), some (.long (lN (botS 1))), none, some (.long (lN (topS 1))), none, some (.int (nI i)), w, w2] [] := by
    refine upto 6 (fun i hi ih w w2 => ?_)
    refine x_iload h dX9_shift_154 rfl ?_
    refine x_bipush h (nI 6) (by decide) dX9_shift_156 ?_
    refine x_icmp_ge h 239 dX9_shift_158 (by decide) (fun c158 => ?_) (fun c158 => ?_)
    · obtain rfl : i = 6 := up_ge (by decide) hi c158
      exact x_vret h hQ rfl dX9_shift_239 ⟨rfl, rfl, rfl, rfl⟩
    · have hlt : i < 6 := up_lt (by decide) hi c158
      refine x_iload_n h dX9_shift_161 rfl ?_
      refine x_if_eq h 185 dX9_shift_162 (by decide) (fun c162 => ?_) (fun c162 => ?_)
      · exact absurd c162 (by decide)
      · refine x_aload_n h dX9_shift_165 rfl ?_
        refine x_getR h g0 f_X9_9 rfl r0 dX9_shift_166 ?_
        refine x_iload h dX9_shift_169 rfl ?_
        refine x_laldv h i g1 (ix.ni hlt (by decide)) ((wL_ge _ _ _ _ _ (Nat.le_refl i)).trans (eS i hlt)) dX9_shift_171 ?_
        refine x_lload h dX9_shift_172 rfl ?_
        refine x_ldc2 h kl_X9_24 dX9_shift_174 ?_
        refine x_lxor h dX9_shift_177 ?_
        refine x_land h dX9_shift_178 ?_
        refine x_iload h dX9_shift_179 rfl ?_
        refine x_lshl h dX9_shift_181 ?_
        refine x_goto h 202 dX9_shift_182 (by decide) ?_
        refine x_lstore h dX9_shift_202 rfl rfl ?_
        refine x_aload_n h dX9_shift_204 rfl ?_
        refine x_getR h g0 f_X9_9 rfl r0 dX9_shift_205 ?_
        refine x_iload h dX9_shift_208 rfl ?_
        refine x_lload h dX9_shift_210 rfl ?_
        refine x_aload_n h dX9_shift_212 rfl ?_
        refine x_getR h g0 f_X9_9 rfl r0 dX9_shift_213 ?_
        refine x_iload h dX9_shift_216 rfl ?_
        refine x_laldv h i g1 (ix.ni hlt (by decide)) ((wL_ge _ _ _ _ _ (Nat.le_refl i)).trans (eS i hlt)) dX9_shift_218 ?_
        refine x_iload_n h dX9_shift_219 rfl ?_
        refine x_if_eq h 228 dX9_shift_220 (by decide) (fun c220 => ?_) (fun c220 => ?_)
        · refine x_lload h dX9_shift_228 rfl ?_
          refine x_land h dX9_shift_230 ?_
          refine x_lor h dX9_shift_231 ?_
          refine x_lastw h i g1 (ix.ni hlt (by decide)) (sh_up (v := 1) (by decide) (by decide) (st := false) rfl (bit_bot 1 (by decide) (by decide))) dX9_shift_232 ?_
          refine x_incn h dX9_shift_233 rfl rfl rfl ?_
          refine x_goto h 154 dX9_shift_236 (by decide) ?_
          exact ih hlt _ _
        · exact absurd c220 (by decide)
  refine x_iload_n h dX9_shift_0 rfl ?_
  refine x_if_ne h 113 dX9_shift_1 (by decide) (fun c1 => ?_) (fun c1 => ?_)
  · refine x_iload_n h dX9_shift_113 rfl ?_
    refine x_in1 h dX9_shift_114 ?_
    refine x_icmp_ne h 123 dX9_shift_115 (by decide) (fun c115 => ?_) (fun c115 => ?_)
    · exact absurd c115 (by decide)
    · refine x_bipush h (nI 6) (by decide) dX9_shift_118 ?_
      refine x_goto h 124 dX9_shift_120 (by decide) ?_
      refine x_istore h dX9_shift_124 rfl rfl ?_
      refine x_iload_n h dX9_shift_126 rfl ?_
      refine x_in1 h dX9_shift_127 ?_
      refine x_icmp_ne h 137 dX9_shift_128 (by decide) (fun c128 => ?_) (fun c128 => ?_)
      · exact absurd c128 (by decide)
      · refine x_ldc2 h kl_X9_43 dX9_shift_131 ?_
        refine x_goto h 140 dX9_shift_134 (by decide) ?_
        refine x_topl (y := lN (botS 1)) (by decide +kernel) ?_
        refine x_lstore h dX9_shift_140 rfl rfl ?_
        refine x_lload h dX9_shift_142 rfl ?_
        refine x_in5 h dX9_shift_144 ?_
        refine x_iload h dX9_shift_145 rfl ?_
        refine x_imul h dX9_shift_147 ?_
        refine x_topi (y := nI 30) (by decide) ?_
        refine x_lshl h dX9_shift_148 ?_
        refine x_topl (y := lN (topS 1)) (by decide +kernel) ?_
        refine x_lstore h dX9_shift_149 rfl rfl ?_
        refine x_in0 h dX9_shift_151 ?_
        refine x_istore h dX9_shift_152 rfl rfl ?_
        have hl := loop 0 (by decide) none none
        rw [wL_0] at hl
        exact hl
  · exact absurd c1 (by decide)
theorem c_X9_shift_101 {Γ : GT} {G : GG} {M : MM} {a : Nat} {S : ST} (hS : isS G M.2.2 a) (eS : hasS M a S) : Calls Γ q_X9_shift [.ref a, .int (nI 1), .int (nI 0), .int (nI 1)] G M (rV (fun M' => M' = setS M a (shS 1 false true S))) := by
  obtain ⟨g0, r0, g1⟩ := hS
  refine Calls.intro (by decide +kernel) (Nat.le_of_ble_eq_true rfl) (fun z E h hQ => ?_)
  have loop : ∀ i, i ≤ 6 → ∀ w w2, X Γ E 0 0 G z (wL M (a + 1) i (encF (shS 1 false true S))) 154 [some (.ref a), some (.int (nI 1)), some (.int (nI 0)), some (.int (nI 1)), some (.int (nI 6)), some (.long (lN (botS 1))), none, some (.long (lN (topS 1))), none, some (.int (nI i)), w, w2] [] := by
    refine upto 6 (fun i hi ih w w2 => ?_)
    refine x_iload h dX9_shift_154 rfl ?_
    refine x_bipush h (nI 6) (by decide) dX9_shift_156 ?_
    refine x_icmp_ge h 239 dX9_shift_158 (by decide) (fun c158 => ?_) (fun c158 => ?_)
    · obtain rfl : i = 6 := up_ge (by decide) hi c158
      exact x_vret h hQ rfl dX9_shift_239 ⟨rfl, rfl, rfl, rfl⟩
    · have hlt : i < 6 := up_lt (by decide) hi c158
      refine x_iload_n h dX9_shift_161 rfl ?_
      refine x_if_eq h 185 dX9_shift_162 (by decide) (fun c162 => ?_) (fun c162 => ?_)
      · refine x_aload_n h dX9_shift_185 rfl ?_
        refine x_getR h g0 f_X9_9 rfl r0 dX9_shift_186 ?_
        refine x_iload h dX9_shift_189 rfl ?_
        refine x_laldv h i g1 (ix.ni hlt (by decide)) ((wL_ge _ _ _ _ _ (Nat.le_refl i)).trans (eS i hlt)) dX9_shift_191 ?_
        refine x_lload h dX9_shift_192 rfl ?_
        refine x_ldc2 h kl_X9_24 dX9_shift_194 ?_
        refine x_lxor h dX9_shift_197 ?_
        refine x_land h dX9_shift_198 ?_
        refine x_iload h dX9_shift_199 rfl ?_
        refine x_lushr h dX9_shift_201 ?_
        refine x_lstore h dX9_shift_202 rfl rfl ?_
        refine x_aload_n h dX9_shift_204 rfl ?_
        refine x_getR h g0 f_X9_9 rfl r0 dX9_shift_205 ?_
        refine x_iload h dX9_shift_208 rfl ?_
        refine x_lload h dX9_shift_210 rfl ?_
        refine x_aload_n h dX9_shift_212 rfl ?_
        refine x_getR h g0 f_X9_9 rfl r0 dX9_shift_213 ?_
        refine x_iload h dX9_shift_216 rfl ?_
        refine x_laldv h i g1 (ix.ni hlt (by decide)) ((wL_ge _ _ _ _ _ (Nat.le_refl i)).trans (eS i hlt)) dX9_shift_218 ?_
        refine x_iload_n h dX9_shift_219 rfl ?_
        refine x_if_eq h 228 dX9_shift_220 (by decide) (fun c220 => ?_) (fun c220 => ?_)
        · exact absurd c220 (by decide)
        · refine x_lload h dX9_shift_223 rfl ?_
          refine x_goto h 230 dX9_shift_225 (by decide) ?_
          refine x_land h dX9_shift_230 ?_
          refine x_lor h dX9_shift_231 ?_
          refine x_lastw h i g1 (ix.ni hlt (by decide)) (sh_dn (v := 1) (by decide) (by decide) (st := true) rfl (bit_top 1 (by decide) (by decide))) dX9_shift_232 ?_
          refine x_incn h dX9_shift_233 rfl rfl rfl ?_
          refine x_goto h 154 dX9_shift_236 (by decide) ?_
          exact ih hlt _ _
      · exact absurd c162 (by decide)
  refine x_iload_n h dX9_shift_0 rfl ?_
  refine x_if_ne h 113 dX9_shift_1 (by decide) (fun c1 => ?_) (fun c1 => ?_)
  · refine x_iload_n h dX9_shift_113 rfl ?_
    refine x_in1 h dX9_shift_114 ?_
    refine x_icmp_ne h 123 dX9_shift_115 (by decide) (fun c115 => ?_) (fun c115 => ?_)
    · exact absurd c115 (by decide)
    · refine x_bipush h (nI 6) (by decide) dX9_shift_118 ?_
      refine x_goto h 124 dX9_shift_120 (by decide) ?_
      refine x_istore h dX9_shift_124 rfl rfl ?_
      refine x_iload_n h dX9_shift_126 rfl ?_
      refine x_in1 h dX9_shift_127 ?_
      refine x_icmp_ne h 137 dX9_shift_128 (by decide) (fun c128 => ?_) (fun c128 => ?_)
      · exact absurd c128 (by decide)
      · refine x_ldc2 h kl_X9_43 dX9_shift_131 ?_
        refine x_goto h 140 dX9_shift_134 (by decide) ?_
        refine x_topl (y := lN (botS 1)) (by decide +kernel) ?_
        refine x_lstore h dX9_shift_140 rfl rfl ?_
        refine x_lload h dX9_shift_142 rfl ?_
        refine x_in5 h dX9_shift_144 ?_
        refine x_iload h dX9_shift_145 rfl ?_
        refine x_imul h dX9_shift_147 ?_
        refine x_topi (y := nI 30) (by decide) ?_
        refine x_lshl h dX9_shift_148 ?_
        refine x_topl (y := lN (topS 1)) (by decide +kernel) ?_
        refine x_lstore h dX9_shift_149 rfl rfl ?_
        refine x_in0 h dX9_shift_151 ?_
        refine x_istore h dX9_shift_152 rfl rfl ?_
        have hl := loop 0 (by decide) none none
        rw [wL_0] at hl
        exact hl
  · exact absurd c1 (by decide)
theorem c_X9_shift_100 {Γ : GT} {G : GG} {M : MM} {a : Nat} {S : ST} (hS : isS G M.2.2 a) (eS : hasS M a S) : Calls Γ q_X9_shift [.ref a, .int (nI 1), .int (nI 0), .int (nI 0)] G M (rV (fun M' => M' = setS M a (shS 1 false false S))) := by
  obtain ⟨g0, r0, g1⟩ := hS
  refine Calls.intro (by decide +kernel) (Nat.le_of_ble_eq_true rfl) (fun z E h hQ => ?_)
  have loop : ∀ i, i ≤ 6 → ∀ w w2, X Γ E 0 0 G z (wL M (a + 1) i (encF (shS 1 false false S))) 154 [some (.ref a), some (.int (nI 1)), some (.int (nI 0)), some (.int (nI 0)), some (.int (nI 6)), some (.long (lN (botS 1))), none, some (.long (lN (topS 1))), none, some (.int (nI i)), w, w2] [] := by
    refine upto 6 (fun i hi ih w w2 => ?_)
    refine x_iload h dX9_shift_154 rfl ?_
    refine x_bipush h (nI 6) (by decide) dX9_shift_156 ?_
    refine x_icmp_ge h 239 dX9_shift_158 (by decide) (fun c158 => ?_) (fun c158 => ?_)
    · obtain rfl : i = 6 := up_ge (by decide) hi c158
      exact x_vret h hQ rfl dX9_shift_239 ⟨rfl, rfl, rfl, rfl⟩
    · have hlt : i < 6 := up_lt (by decide) hi c158
      refine x_iload_n h dX9_shift_161 rfl ?_
      refine x_if_eq h 185 dX9_shift_162 (by decide) (fun c162 => ?_) (fun c162 => ?_)
      · refine x_aload_n h dX9_shift_185 rfl ?_
        refine x_getR h g0 f_X9_9 rfl r0 dX9_shift_186 ?_
        refine x_iload h dX9_shift_189 rfl ?_
        refine x_laldv h i g1 (ix.ni hlt (by decide)) ((wL_ge _ _ _ _ _ (Nat.le_refl i)).trans (eS i hlt)) dX9_shift_191 ?_
        refine x_lload h dX9_shift_192 rfl ?_
        refine x_ldc2 h kl_X9_24 dX9_shift_194 ?_
        refine x_lxor h dX9_shift_197 ?_
        refine x_land h dX9_shift_198 ?_
        refine x_iload h dX9_shift_199 rfl ?_
        refine x_lushr h dX9_shift_201 ?_
        refine x_lstore h dX9_shift_202 rfl rfl ?_
        refine x_aload_n h dX9_shift_204 rfl ?_
        refine x_getR h g0 f_X9_9 rfl r0 dX9_shift_205 ?_
        refine x_iload h dX9_shift_208 rfl ?_
        refine x_lload h dX9_shift_210 rfl ?_
        refine x_aload_n h dX9_shift_212 rfl ?_
        refine x_getR h g0 f_X9_9 rfl r0 dX9_shift_213 ?_
        refine x_iload h dX9_shift_216 rfl ?_
        refine x_laldv h i g1 (ix.ni hlt (by decide)) ((wL_ge _ _ _ _ _ (Nat.le_refl i)).trans (eS i hlt)) dX9_shift_218 ?_
        refine x_iload_n h dX9_shift_219 rfl ?_
        refine x_if_eq h 228 dX9_shift_220 (by decide) (fun c220 => ?_) (fun c220 => ?_)
        · refine x_lload h dX9_shift_228 rfl ?_
          refine x_land h dX9_shift_230 ?_
          refine x_lor h dX9_shift_231 ?_
          refine x_lastw h i g1 (ix.ni hlt (by decide)) (sh_dn (v := 1) (by decide) (by decide) (st := false) rfl (bit_bot 1 (by decide) (by decide))) dX9_shift_232 ?_
          refine x_incn h dX9_shift_233 rfl rfl rfl ?_
          refine x_goto h 154 dX9_shift_236 (by decide) ?_
          exact ih hlt _ _
        · exact absurd c220 (by decide)
      · exact absurd c162 (by decide)
  refine x_iload_n h dX9_shift_0 rfl ?_
  refine x_if_ne h 113 dX9_shift_1 (by decide) (fun c1 => ?_) (fun c1 => ?_)
  · refine x_iload_n h dX9_shift_113 rfl ?_
    refine x_in1 h dX9_shift_114 ?_
    refine x_icmp_ne h 123 dX9_shift_115 (by decide) (fun c115 => ?_) (fun c115 => ?_)
    · exact absurd c115 (by decide)
    · refine x_bipush h (nI 6) (by decide) dX9_shift_118 ?_
      refine x_goto h 124 dX9_shift_120 (by decide) ?_
      refine x_istore h dX9_shift_124 rfl rfl ?_
      refine x_iload_n h dX9_shift_126 rfl ?_
      refine x_in1 h dX9_shift_127 ?_
      refine x_icmp_ne h 137 dX9_shift_128 (by decide) (fun c128 => ?_) (fun c128 => ?_)
      · exact absurd c128 (by decide)
      · refine x_ldc2 h kl_X9_43 dX9_shift_131 ?_
        refine x_goto h 140 dX9_shift_134 (by decide) ?_
        refine x_topl (y := lN (botS 1)) (by decide +kernel) ?_
        refine x_lstore h dX9_shift_140 rfl rfl ?_
        refine x_lload h dX9_shift_142 rfl ?_
        refine x_in5 h dX9_shift_144 ?_
        refine x_iload h dX9_shift_145 rfl ?_
        refine x_imul h dX9_shift_147 ?_
        refine x_topi (y := nI 30) (by decide) ?_
        refine x_lshl h dX9_shift_148 ?_
        refine x_topl (y := lN (topS 1)) (by decide +kernel) ?_
        refine x_lstore h dX9_shift_149 rfl rfl ?_
        refine x_in0 h dX9_shift_151 ?_
        refine x_istore h dX9_shift_152 rfl rfl ?_
        have hl := loop 0 (by decide) none none
        rw [wL_0] at hl
        exact hl
  · exact absurd c1 (by decide)
theorem c_X9_shift_211 {Γ : GT} {G : GG} {M : MM} {a : Nat} {S : ST} (hS : isS G M.2.2 a) (eS : hasS M a S) : Calls Γ q_X9_shift [.ref a, .int (nI 2), .int (nI 1), .int (nI 1)] G M (rV (fun M' => M' = setS M a (shS 2 true true S))) := by
  obtain ⟨g0, r0, g1⟩ := hS
  refine Calls.intro (by decide +kernel) (Nat.le_of_ble_eq_true rfl) (fun z E h hQ => ?_)
  have loop : ∀ i, i ≤ 6 → ∀ w w2, X Γ E 0 0 G z (wL M (a + 1) i (encF (shS 2 true true S))) 154 [some (.ref a), some (.int (nI 2)), some (.int (nI 1)), some (.int (nI 1)), some (.int (nI 1)), some (.long (lN (botS 2))), none, some (.long (lN (topS 2))), none, some (.int (nI i)), w, w2] [] := by
    refine upto 6 (fun i hi ih w w2 => ?_)
    refine x_iload h dX9_shift_154 rfl ?_
    refine x_bipush h (nI 6) (by decide) dX9_shift_156 ?_
    refine x_icmp_ge h 239 dX9_shift_158 (by decide) (fun c158 => ?_) (fun c158 => ?_)
    · obtain rfl : i = 6 := up_ge (by decide) hi c158
      exact x_vret h hQ rfl dX9_shift_239 ⟨rfl, rfl, rfl, rfl⟩
    · have hlt : i < 6 := up_lt (by decide) hi c158
      refine x_iload_n h dX9_shift_161 rfl ?_
      refine x_if_eq h 185 dX9_shift_162 (by decide) (fun c162 => ?_) (fun c162 => ?_)
      · exact absurd c162 (by decide)
      · refine x_aload_n h dX9_shift_165 rfl ?_
        refine x_getR h g0 f_X9_9 rfl r0 dX9_shift_166 ?_
        refine x_iload h dX9_shift_169 rfl ?_
        refine x_laldv h i g1 (ix.ni hlt (by decide)) ((wL_ge _ _ _ _ _ (Nat.le_refl i)).trans (eS i hlt)) dX9_shift_171 ?_
        refine x_lload h dX9_shift_172 rfl ?_
        refine x_ldc2 h kl_X9_24 dX9_shift_174 ?_
        refine x_lxor h dX9_shift_177 ?_
        refine x_land h dX9_shift_178 ?_
        refine x_iload h dX9_shift_179 rfl ?_
        refine x_lshl h dX9_shift_181 ?_
        refine x_goto h 202 dX9_shift_182 (by decide) ?_
        refine x_lstore h dX9_shift_202 rfl rfl ?_
        refine x_aload_n h dX9_shift_204 rfl ?_
        refine x_getR h g0 f_X9_9 rfl r0 dX9_shift_205 ?_
        refine x_iload h dX9_shift_208 rfl ?_
        refine x_lload h dX9_shift_210 rfl ?_
        refine x_aload_n h dX9_shift_212 rfl ?_
        refine x_getR h g0 f_X9_9 rfl r0 dX9_shift_213 ?_
        refine x_iload h dX9_shift_216 rfl ?_
        refine x_laldv h i g1 (ix.ni hlt (by decide)) ((wL_ge _ _ _ _ _ (Nat.le_refl i)).trans (eS i hlt)) dX9_shift_218 ?_
        refine x_iload_n h dX9_shift_219 rfl ?_
        refine x_if_eq h 228 dX9_shift_220 (by decide) (fun c220 => ?_) (fun c220 => ?_)
        · exact absurd c220 (by decide)
        · refine x_lload h dX9_shift_223 rfl ?_
          refine x_goto h 230 dX9_shift_225 (by decide) ?_
          refine x_land h dX9_shift_230 ?_
          refine x_lor h dX9_shift_231 ?_
          refine x_lastw h i g1 (ix.ni hlt (by decide)) (sh_up (v := 2) (by decide) (by decide) (st := true) rfl (bit_top 2 (by decide) (by decide))) dX9_shift_232 ?_
          refine x_incn h dX9_shift_233 rfl rfl rfl ?_
          refine x_goto h 154 dX9_shift_236 (by decide) ?_
          exact ih hlt _ _
  refine x_iload_n h dX9_shift_0 rfl ?_
  refine x_if_ne h 113 dX9_shift_1 (by decide) (fun c1 => ?_) (fun c1 => ?_)
  · refine x_iload_n h dX9_shift_113 rfl ?_
    refine x_in1 h dX9_shift_114 ?_
    refine x_icmp_ne h 123 dX9_shift_115 (by decide) (fun c115 => ?_) (fun c115 => ?_)
    · refine x_in1 h dX9_shift_123 ?_
      refine x_istore h dX9_shift_124 rfl rfl ?_
      refine x_iload_n h dX9_shift_126 rfl ?_
      refine x_in1 h dX9_shift_127 ?_
      refine x_icmp_ne h 137 dX9_shift_128 (by decide) (fun c128 => ?_) (fun c128 => ?_)
      · refine x_ldc2 h kl_X9_45 dX9_shift_137 ?_
        refine x_topl (y := lN (botS 2)) (by decide +kernel) ?_
        refine x_lstore h dX9_shift_140 rfl rfl ?_
        refine x_lload h dX9_shift_142 rfl ?_
        refine x_in5 h dX9_shift_144 ?_
        refine x_iload h dX9_shift_145 rfl ?_
        refine x_imul h dX9_shift_147 ?_
        refine x_topi (y := nI 5) (by decide) ?_
        refine x_lshl h dX9_shift_148 ?_
        refine x_topl (y := lN (topS 2)) (by decide +kernel) ?_
        refine x_lstore h dX9_shift_149 rfl rfl ?_
        refine x_in0 h dX9_shift_151 ?_
        refine x_istore h dX9_shift_152 rfl rfl ?_
        have hl := loop 0 (by decide) none none
        rw [wL_0] at hl
        exact hl
      · exact absurd c128 (by decide)
    · exact absurd c115 (by decide)
  · exact absurd c1 (by decide)
theorem c_X9_shift_210 {Γ : GT} {G : GG} {M : MM} {a : Nat} {S : ST} (hS : isS G M.2.2 a) (eS : hasS M a S) : Calls Γ q_X9_shift [.ref a, .int (nI 2), .int (nI 1), .int (nI 0)] G M (rV (fun M' => M' = setS M a (shS 2 true false S))) := by
  obtain ⟨g0, r0, g1⟩ := hS
  refine Calls.intro (by decide +kernel) (Nat.le_of_ble_eq_true rfl) (fun z E h hQ => ?_)
  have loop : ∀ i, i ≤ 6 → ∀ w w2, X Γ E 0 0 G z (wL M (a + 1) i (encF (shS 2 true false S))) 154 [some (.ref a), some (.int (nI 2)), some (.int (nI 1)), some (.int (nI 0)), some (.int (nI 1)), some (.long (lN (botS 2))), none, some (.long (lN (topS 2))), none, some (.int (nI i)), w, w2] [] := by
    refine upto 6 (fun i hi ih w w2 => ?_)
    refine x_iload h dX9_shift_154 rfl ?_
    refine x_bipush h (nI 6) (by decide) dX9_shift_156 ?_
    refine x_icmp_ge h 239 dX9_shift_158 (by decide) (fun c158 => ?_) (fun c158 => ?_)
    · obtain rfl : i = 6 := up_ge (by decide) hi c158
      exact x_vret h hQ rfl dX9_shift_239 ⟨rfl, rfl, rfl, rfl⟩
    · have hlt : i < 6 := up_lt (by decide) hi c158
      refine x_iload_n h dX9_shift_161 rfl ?_
      refine x_if_eq h 185 dX9_shift_162 (by decide) (fun c162 => ?_) (fun c162 => ?_)
      · exact absurd c162 (by decide)
      · refine x_aload_n h dX9_shift_165 rfl ?_
        refine x_getR h g0 f_X9_9 rfl r0 dX9_shift_166 ?_
        refine x_iload h dX9_shift_169 rfl ?_
        refine x_laldv h i g1 (ix.ni hlt (by decide)) ((wL_ge _ _ _ _ _ (Nat.le_refl i)).trans (eS i hlt)) dX9_shift_171 ?_
        refine x_lload h dX9_shift_172 rfl ?_
        refine x_ldc2 h kl_X9_24 dX9_shift_174 ?_
        refine x_lxor h dX9_shift_177 ?_
        refine x_land h dX9_shift_178 ?_
        refine x_iload h dX9_shift_179 rfl ?_
        refine x_lshl h dX9_shift_181 ?_
        refine x_goto h 202 dX9_shift_182 (by decide) ?_
        refine x_lstore h dX9_shift_202 rfl rfl ?_
        refine x_aload_n h dX9_shift_204 rfl ?_
        refine x_getR h g0 f_X9_9 rfl r0 dX9_shift_205 ?_
        refine x_iload h dX9_shift_208 rfl ?_
        refine x_lload h dX9_shift_210 rfl ?_
        refine x_aload_n h dX9_shift_212 rfl ?_
        refine x_getR h g0 f_X9_9 rfl r0 dX9_shift_213 ?_
        refine x_iload h dX9_shift_216 rfl ?_
        refine x_laldv h i g1 (ix.ni hlt (by decide)) ((wL_ge _ _ _ _ _ (Nat.le_refl i)).trans (eS i hlt)) dX9_shift_218 ?_
        refine x_iload_n h dX9_shift_219 rfl ?_
        refine x_if_eq h 228 dX9_shift_220 (by decide) (fun c220 => ?_) (fun c220 => ?_)
        · refine x_lload h dX9_shift_228 rfl ?_
          refine x_land h dX9_shift_230 ?_
          refine x_lor h dX9_shift_231 ?_
          refine x_lastw h i g1 (ix.ni hlt (by decide)) (sh_up (v := 2) (by decide) (by decide) (st := false) rfl (bit_bot 2 (by decide) (by decide))) dX9_shift_232 ?_
          refine x_incn h dX9_shift_233 rfl rfl rfl ?_
          refine x_goto h 154 dX9_shift_236 (by decide) ?_
          exact ih hlt _ _
        · exact absurd c220 (by decide)
  refine x_iload_n h dX9_shift_0 rfl ?_
  refine x_if_ne h 113 dX9_shift_1 (by decide) (fun c1 => ?_) (fun c1 => ?_)
  · refine x_iload_n h dX9_shift_113 rfl ?_
    refine x_in1 h dX9_shift_114 ?_
    refine x_icmp_ne h 123 dX9_shift_115 (by decide) (fun c115 => ?_) (fun c115 => ?_)
    · refine x_in1 h dX9_shift_123 ?_
      refine x_istore h dX9_shift_124 rfl rfl ?_
      refine x_iload_n h dX9_shift_126 rfl ?_
      refine x_in1 h dX9_shift_127 ?_
      refine x_icmp_ne h 137 dX9_shift_128 (by decide) (fun c128 => ?_) (fun c128 => ?_)
      · refine x_ldc2 h kl_X9_45 dX9_shift_137 ?_
        refine x_topl (y := lN (botS 2)) (by decide +kernel) ?_
        refine x_lstore h dX9_shift_140 rfl rfl ?_
        refine x_lload h dX9_shift_142 rfl ?_
        refine x_in5 h dX9_shift_144 ?_
        refine x_iload h dX9_shift_145 rfl ?_
        refine x_imul h dX9_shift_147 ?_
        refine x_topi (y := nI 5) (by decide) ?_
        refine x_lshl h dX9_shift_148 ?_
        refine x_topl (y := lN (topS 2)) (by decide +kernel) ?_
        refine x_lstore h dX9_shift_149 rfl rfl ?_
        refine x_in0 h dX9_shift_151 ?_
        refine x_istore h dX9_shift_152 rfl rfl ?_
        have hl := loop 0 (by decide) none none
        rw [wL_0] at hl
        exact hl
      · exact absurd c128 (by decide)
    · exact absurd c115 (by decide)
  · exact absurd c1 (by decide)
theorem c_X9_shift_201 {Γ : GT} {G : GG} {M : MM} {a : Nat} {S : ST} (hS : isS G M.2.2 a) (eS : hasS M a S) : Calls Γ q_X9_shift [.ref a, .int (nI 2), .int (nI 0), .int (nI 1)] G M (rV (fun M' => M' = setS M a (shS 2 false true S))) := by
  obtain ⟨g0, r0, g1⟩ := hS
  refine Calls.intro (by decide +kernel) (Nat.le_of_ble_eq_true rfl) (fun z E h hQ => ?_)
  have loop : ∀ i, i ≤ 6 → ∀ w w2, X Γ E 0 0 G z (wL M (a + 1) i (encF (shS 2 false true S))) 154 [some (.ref a), some (.int (nI 2)), some (.int (nI 0)), some (.int (nI 1)), some (.int (nI 1)), some (.long (lN (botS 2))), none, some (.long (lN (topS 2))), none, some (.int (nI i)), w, w2] [] := by
    refine upto 6 (fun i hi ih w w2 => ?_)
    refine x_iload h dX9_shift_154 rfl ?_
    refine x_bipush h (nI 6) (by decide) dX9_shift_156 ?_
    refine x_icmp_ge h 239 dX9_shift_158 (by decide) (fun c158 => ?_) (fun c158 => ?_)
    · obtain rfl : i = 6 := up_ge (by decide) hi c158
      exact x_vret h hQ rfl dX9_shift_239 ⟨rfl, rfl, rfl, rfl⟩
    · have hlt : i < 6 := up_lt (by decide) hi c158
      refine x_iload_n h dX9_shift_161 rfl ?_
      refine x_if_eq h 185 dX9_shift_162 (by decide) (fun c162 => ?_) (fun c162 => ?_)
      · refine x_aload_n h dX9_shift_185 rfl ?_
        refine x_getR h g0 f_X9_9 rfl r0 dX9_shift_186 ?_
        refine x_iload h dX9_shift_189 rfl ?_
        refine x_laldv h i g1 (ix.ni hlt (by decide)) ((wL_ge _ _ _ _ _ (Nat.le_refl i)).trans (eS i hlt)) dX9_shift_191 ?_
        refine x_lload h dX9_shift_192 rfl ?_
        refine x_ldc2 h kl_X9_24 dX9_shift_194 ?_
        refine x_lxor h dX9_shift_197 ?_
        refine x_land h dX9_shift_198 ?_
        refine x_iload h dX9_shift_199 rfl ?_
        refine x_lushr h dX9_shift_201 ?_
        refine x_lstore h dX9_shift_202 rfl rfl ?_
        refine x_aload_n h dX9_shift_204 rfl ?_
        refine x_getR h g0 f_X9_9 rfl r0 dX9_shift_205 ?_
        refine x_iload h dX9_shift_208 rfl ?_
        refine x_lload h dX9_shift_210 rfl ?_
        refine x_aload_n h dX9_shift_212 rfl ?_
        refine x_getR h g0 f_X9_9 rfl r0 dX9_shift_213 ?_
        refine x_iload h dX9_shift_216 rfl ?_
        refine x_laldv h i g1 (ix.ni hlt (by decide)) ((wL_ge _ _ _ _ _ (Nat.le_refl i)).trans (eS i hlt)) dX9_shift_218 ?_
        refine x_iload_n h dX9_shift_219 rfl ?_
        refine x_if_eq h 228 dX9_shift_220 (by decide) (fun c220 => ?_) (fun c220 => ?_)
        · exact absurd c220 (by decide)
        · refine x_lload h dX9_shift_223 rfl ?_
          refine x_goto h 230 dX9_shift_225 (by decide) ?_
          refine x_land h dX9_shift_230 ?_
          refine x_lor h dX9_shift_231 ?_
          refine x_lastw h i g1 (ix.ni hlt (by decide)) (sh_dn (v := 2) (by decide) (by decide) (st := true) rfl (bit_top 2 (by decide) (by decide))) dX9_shift_232 ?_
          refine x_incn h dX9_shift_233 rfl rfl rfl ?_
          refine x_goto h 154 dX9_shift_236 (by decide) ?_
          exact ih hlt _ _
      · exact absurd c162 (by decide)
  refine x_iload_n h dX9_shift_0 rfl ?_
  refine x_if_ne h 113 dX9_shift_1 (by decide) (fun c1 => ?_) (fun c1 => ?_)
  · refine x_iload_n h dX9_shift_113 rfl ?_
    refine x_in1 h dX9_shift_114 ?_
    refine x_icmp_ne h 123 dX9_shift_115 (by decide) (fun c115 => ?_) (fun c115 => ?_)
    · refine x_in1 h dX9_shift_123 ?_
      refine x_istore h dX9_shift_124 rfl rfl ?_
      refine x_iload_n h dX9_shift_126 rfl ?_
      refine x_in1 h dX9_shift_127 ?_
      refine x_icmp_ne h 137 dX9_shift_128 (by decide) (fun c128 => ?_) (fun c128 => ?_)
      · refine x_ldc2 h kl_X9_45 dX9_shift_137 ?_
        refine x_topl (y := lN (botS 2)) (by decide +kernel) ?_
        refine x_lstore h dX9_shift_140 rfl rfl ?_
        refine x_lload h dX9_shift_142 rfl ?_
        refine x_in5 h dX9_shift_144 ?_
        refine x_iload h dX9_shift_145 rfl ?_
        refine x_imul h dX9_shift_147 ?_
        refine x_topi (y := nI 5) (by decide) ?_
        refine x_lshl h dX9_shift_148 ?_
        refine x_topl (y := lN (topS 2)) (by decide +kernel) ?_
        refine x_lstore h dX9_shift_149 rfl rfl ?_
        refine x_in0 h dX9_shift_151 ?_
        refine x_istore h dX9_shift_152 rfl rfl ?_
        have hl := loop 0 (by decide) none none
        rw [wL_0] at hl
        exact hl
      · exact absurd c128 (by decide)
    · exact absurd c115 (by decide)
  · exact absurd c1 (by decide)
theorem c_X9_shift_200 {Γ : GT} {G : GG} {M : MM} {a : Nat} {S : ST} (hS : isS G M.2.2 a) (eS : hasS M a S) : Calls Γ q_X9_shift [.ref a, .int (nI 2), .int (nI 0), .int (nI 0)] G M (rV (fun M' => M' = setS M a (shS 2 false false S))) := by
  obtain ⟨g0, r0, g1⟩ := hS
  refine Calls.intro (by decide +kernel) (Nat.le_of_ble_eq_true rfl) (fun z E h hQ => ?_)
  have loop : ∀ i, i ≤ 6 → ∀ w w2, X Γ E 0 0 G z (wL M (a + 1) i (encF (shS 2 false false S))) 154 [some (.ref a), some (.int (nI 2)), some (.int (nI 0)), some (.int (nI 0)), some (.int (nI 1)), some (.long (lN (botS 2))), none, some (.long (lN (topS 2))), none, some (.int (nI i)), w, w2] [] := by
    refine upto 6 (fun i hi ih w w2 => ?_)
    refine x_iload h dX9_shift_154 rfl ?_
    refine x_bipush h (nI 6) (by decide) dX9_shift_156 ?_
    refine x_icmp_ge h 239 dX9_shift_158 (by decide) (fun c158 => ?_) (fun c158 => ?_)
    · obtain rfl : i = 6 := up_ge (by decide) hi c158
      exact x_vret h hQ rfl dX9_shift_239 ⟨rfl, rfl, rfl, rfl⟩
    · have hlt : i < 6 := up_lt (by decide) hi c158
      refine x_iload_n h dX9_shift_161 rfl ?_
      refine x_if_eq h 185 dX9_shift_162 (by decide) (fun c162 => ?_) (fun c162 => ?_)
      · refine x_aload_n h dX9_shift_185 rfl ?_
        refine x_getR h g0 f_X9_9 rfl r0 dX9_shift_186 ?_
        refine x_iload h dX9_shift_189 rfl ?_
        refine x_laldv h i g1 (ix.ni hlt (by decide)) ((wL_ge _ _ _ _ _ (Nat.le_refl i)).trans (eS i hlt)) dX9_shift_191 ?_
        refine x_lload h dX9_shift_192 rfl ?_
        refine x_ldc2 h kl_X9_24 dX9_shift_194 ?_
        refine x_lxor h dX9_shift_197 ?_
        refine x_land h dX9_shift_198 ?_
        refine x_iload h dX9_shift_199 rfl ?_
        refine x_lushr h dX9_shift_201 ?_
        refine x_lstore h dX9_shift_202 rfl rfl ?_
        refine x_aload_n h dX9_shift_204 rfl ?_
        refine x_getR h g0 f_X9_9 rfl r0 dX9_shift_205 ?_
        refine x_iload h dX9_shift_208 rfl ?_
        refine x_lload h dX9_shift_210 rfl ?_
        refine x_aload_n h dX9_shift_212 rfl ?_
        refine x_getR h g0 f_X9_9 rfl r0 dX9_shift_213 ?_
        refine x_iload h dX9_shift_216 rfl ?_
        refine x_laldv h i g1 (ix.ni hlt (by decide)) ((wL_ge _ _ _ _ _ (Nat.le_refl i)).trans (eS i hlt)) dX9_shift_218 ?_
        refine x_iload_n h dX9_shift_219 rfl ?_
        refine x_if_eq h 228 dX9_shift_220 (by decide) (fun c220 => ?_) (fun c220 => ?_)
        · refine x_lload h dX9_shift_228 rfl ?_
          refine x_land h dX9_shift_230 ?_
          refine x_lor h dX9_shift_231 ?_
          refine x_lastw h i g1 (ix.ni hlt (by decide)) (sh_dn (v := 2) (by decide) (by decide) (st := false) rfl (bit_bot 2 (by decide) (by decide))) dX9_shift_232 ?_
          refine x_incn h dX9_shift_233 rfl rfl rfl ?_
          refine x_goto h 154 dX9_shift_236 (by decide) ?_
          exact ih hlt _ _
        · exact absurd c220 (by decide)
      · exact absurd c162 (by decide)
  refine x_iload_n h dX9_shift_0 rfl ?_
  refine x_if_ne h 113 dX9_shift_1 (by decide) (fun c1 => ?_) (fun c1 => ?_)
  · refine x_iload_n h dX9_shift_113 rfl ?_
    refine x_in1 h dX9_shift_114 ?_
    refine x_icmp_ne h 123 dX9_shift_115 (by decide) (fun c115 => ?_) (fun c115 => ?_)
    · refine x_in1 h dX9_shift_123 ?_
      refine x_istore h dX9_shift_124 rfl rfl ?_
      refine x_iload_n h dX9_shift_126 rfl ?_
      refine x_in1 h dX9_shift_127 ?_
      refine x_icmp_ne h 137 dX9_shift_128 (by decide) (fun c128 => ?_) (fun c128 => ?_)
      · refine x_ldc2 h kl_X9_45 dX9_shift_137 ?_
        refine x_topl (y := lN (botS 2)) (by decide +kernel) ?_
        refine x_lstore h dX9_shift_140 rfl rfl ?_
        refine x_lload h dX9_shift_142 rfl ?_
        refine x_in5 h dX9_shift_144 ?_
        refine x_iload h dX9_shift_145 rfl ?_
        refine x_imul h dX9_shift_147 ?_
        refine x_topi (y := nI 5) (by decide) ?_
        refine x_lshl h dX9_shift_148 ?_
        refine x_topl (y := lN (topS 2)) (by decide +kernel) ?_
        refine x_lstore h dX9_shift_149 rfl rfl ?_
        refine x_in0 h dX9_shift_151 ?_
        refine x_istore h dX9_shift_152 rfl rfl ?_
        have hl := loop 0 (by decide) none none
        rw [wL_0] at hl
        exact hl
      · exact absurd c128 (by decide)
    · exact absurd c115 (by decide)
  · exact absurd c1 (by decide)
