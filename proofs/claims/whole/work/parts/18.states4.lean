def orN (f : Nat → Nat) : Nat → Nat
  | 0 => 0
  | n + 1 => orN f n ||| f n
theorem orL_lN (f : Nat → Nat) : ∀ n, orL (fun w => lN (f w)) n = lN (orN f n)
  | 0 => rfl
  | n + 1 => by rw [orL, orL_lN f n, fb_orL, orN]
theorem orN_6 (f : Nat → Nat) (j : Nat) : (orN f 6).testBit j = any6 (fun w => (f w).testBit j) := by
  simp [orN, any6, Nat.testBit_or]
theorem orL_fr0 (S : ST) (k : Nat) : orL (encF S) 6 = encF (frS 0 S) k := by
  have h1 : orL (encF S) 6 = orL (fun w => lN (enN S (36 * w) 36)) 6 := rfl
  rw [h1, orL_lN]
  unfold encF
  congr 1
  refine enN_eq (fun i => ?_)
  rw [orN_6]
  simp only [enN_bit]
  by_cases hi : i < 36
  · simp only [frS, val_0 k hi, sgS, if_true, any6, hi, decide_true, Bool.true_and]
    rw [show 36 * k + i - k * 36 = i by omega]
    simp [Nat.add_comm, Nat.mul_comm]
  · simp [any6, hi]
theorem mul_lo : ∀ x, x < 64 → x * 1090785345 < 2 ^ 36 ∧ ∀ j, j < 36 → (x * 1090785345).testBit j = x.testBit (j % 6) := by decide +kernel
def spr (x : Nat) : Nat := (x.testBit 0).toNat + 64 * ((x.testBit 1).toNat + 64 * ((x.testBit 2).toNat + 64 * ((x.testBit 3).toNat + 64 * ((x.testBit 4).toNat + 64 * (x.testBit 5).toNat))))
theorem spr_ok : ∀ x, x < 64 → spr x < 2 ^ 36 ∧ spr x * 63 < 2 ^ 36 ∧ (∀ j, j < 36 → (spr x).testBit j = (decide (j % 6 = 0) && x.testBit (j / 6))) ∧ ∀ j, j < 36 → (spr x * 63).testBit j = x.testBit (j / 6) := by decide +kernel
theorem bit_63 : ∀ j, j < 36 → Nat.testBit 63 j = decide (j < 6) := by decide +kernel
theorem bit_lc : ∀ j, j < 36 → Nat.testBit 1090785345 j = decide (j % 6 = 0) := by decide +kernel
theorem tb_hi {x n i : Nat} (h : x < 2 ^ n) (hi : n ≤ i) : x.testBit i = false := Nat.testBit_lt_two_pow (Nat.lt_of_lt_of_le h (Nat.pow_le_pow_right (by decide) hi))
theorem fr_1 (S : ST) (k : Nat) : lN (orN (fun w => enN S (36 * k) 36 / 2 ^ (w * 6) &&& 63) 6) * lN 1090785345 = encF (frS 1 S) k := by
  have h1 : orN (fun w => enN S (36 * k) 36 / 2 ^ (w * 6) &&& 63) 6 = enN (fun c => any6 (fun w => S (36 * k + (c + w * 6)))) 0 6 := by
    refine enN_eq (fun i => ?_)
    rw [orN_6]
    by_cases hi : i < 6
    · have e : ∀ w, w < 6 → (enN S (36 * k) 36 / 2 ^ (w * 6) &&& 63).testBit i = S (36 * k + (i + w * 6)) := by
        intro w hw
        rw [Nat.testBit_and, Nat.testBit_div_two_pow, enN_bit, bit_63 i (by omega)]
        simp [hi, show i + w * 6 < 36 by omega]
      simp only [any6, e 0 (by decide), e 1 (by decide), e 2 (by decide), e 3 (by decide), e 4 (by decide), e 5 (by decide)]
      simp [hi]
    · have e : ∀ w, (enN S (36 * k) 36 / 2 ^ (w * 6) &&& 63).testBit i = false := by
        intro w
        rw [Nat.testBit_and, tb_hi (n := 6) (x := 63) (by decide) (by omega), Bool.and_false]
      simp only [any6, e]
      simp [hi]
  rw [h1, lN_mul]
  have hlt := enN_lt (fun c => any6 (fun w => S (36 * k + (c + w * 6)))) 0 6
  have h2 := mul_lo _ hlt
  unfold encF
  congr 1
  refine enN_eq (fun i => ?_)
  by_cases hi : i < 36
  · rw [h2.2 i hi, enN_bit]
    simp only [frS, val_dg (Or.inl rfl) k hi, dgS, sgS, if_true, show ¬ (1 = 0) by decide, if_false, hi, decide_true, Bool.true_and, Nat.zero_add, Nat.mod_lt i (show 6 > 0 by decide)]
    rw [show 36 * k + i - i / 6 * 6 = 36 * k + i % 6 by omega]
    simp only [Nat.add_assoc]
  · rw [tb_hi h2.1 (by omega)]
    simp [hi]
theorem fr_2 (S : ST) (k : Nat) : lN (orN (fun w => enN S (36 * k) 36 / 2 ^ (w * 1) &&& 1090785345) 6) * lN 63 = encF (frS 2 S) k := by
  have hlt := enN_lt (fun b => any6 (fun w => S (36 * k + (6 * b + w * 1)))) 0 6
  have h3 := spr_ok _ hlt
  have h1 : orN (fun w => enN S (36 * k) 36 / 2 ^ (w * 1) &&& 1090785345) 6 = spr (enN (fun b => any6 (fun w => S (36 * k + (6 * b + w * 1)))) 0 6) := by
    refine Nat.eq_of_testBit_eq (fun i => ?_)
    rw [orN_6]
    by_cases hi : i < 36
    · rw [h3.2.2.1 i hi, enN_bit]
      have e : ∀ w, w < 6 → (enN S (36 * k) 36 / 2 ^ (w * 1) &&& 1090785345).testBit i = (decide (i % 6 = 0) && S (36 * k + (i + w * 1))) := by
        intro w hw
        rw [Nat.testBit_and, Nat.testBit_div_two_pow, enN_bit, bit_lc i hi]
        by_cases h6 : i % 6 = 0
        · simp [h6, show i + w < 36 by omega]
        · simp [h6]
      simp only [any6, e 0 (by decide), e 1 (by decide), e 2 (by decide), e 3 (by decide), e 4 (by decide), e 5 (by decide)]
      by_cases h6 : i % 6 = 0
      · simp [h6, show i / 6 < 6 by omega, show 6 * (i / 6) = i by omega]
      · simp [h6]
    · have e : ∀ w, (enN S (36 * k) 36 / 2 ^ (w * 1) &&& 1090785345).testBit i = false := by
        intro w
        rw [Nat.testBit_and, tb_hi (n := 31) (x := 1090785345) (by decide) (by omega), Bool.and_false]
      rw [tb_hi h3.1 (by omega)]
      simp only [any6, e]
      rfl
  rw [h1, lN_mul]
  unfold encF
  congr 1
  refine enN_eq (fun i => ?_)
  by_cases hi : i < 36
  · rw [h3.2.2.2 i hi, enN_bit]
    simp only [frS, val_dg (Or.inr rfl) k hi, dgS, sgS, show ¬ (2 = 0) by decide, show ¬ (2 = 1) by decide, if_false, hi, decide_true, Bool.true_and, Nat.zero_add, show i / 6 < 6 by omega]
    rw [show 36 * k + i - i % 6 * 1 = 36 * k + 6 * (i / 6) by omega]
    simp only [Nat.add_assoc]
  · rw [tb_hi h3.2.1 (by omega)]
    simp [hi]
theorem c_X9_free_0 {Γ : GT} {G : GG} {M : MM} {a : Nat} {S : ST} (hS : isS G M.2.2 a) (eS : hasS M a S) : Calls Γ q_X9_free [.ref a, .int (nI 0)] G M (rV (fun M' => M' = setS M a (frS 0 S))) := by
  obtain ⟨g0, r0, g1⟩ := hS
  refine Calls.intro (by decide +kernel) (Nat.le_of_ble_eq_true rfl) (fun z E h hQ => ?_)
  have loop2 : ∀ i, i ≤ 6 → X Γ E 0 0 G z (wL M (a + 1) i (encF (frS 0 S))) 35 [some (.ref a), some (.int (nI 0)), some (.long (orL (encF S) 6)), none, some (.int (nI i)), none, none, none, none, none, none] [] := by
    refine upto 6 (fun i hi ih => ?_)
    refine x_iload h dX9_free_35 rfl ?_
    refine x_bipush h (nI 6) (by decide) dX9_free_37 ?_
    refine x_icmp_ge h 56 dX9_free_39 (by decide) (fun c39 => ?_) (fun c39 => ?_)
    · obtain rfl : i = 6 := up_ge (by decide) hi c39
      exact x_vret h hQ rfl dX9_free_56 ⟨rfl, rfl, rfl, rfl⟩
    · have hlt : i < 6 := up_lt (by decide) hi c39
      refine x_aload_n h dX9_free_42 rfl ?_
      refine x_getR h g0 f_X9_9 rfl r0 dX9_free_43 ?_
      refine x_iload h dX9_free_46 rfl ?_
      refine x_lload_n h dX9_free_48 rfl ?_
      refine x_lastw h i g1 (ix.ni hlt (by decide)) (orL_fr0 S i) dX9_free_49 ?_
      refine x_incn h dX9_free_50 rfl rfl rfl ?_
      refine x_goto h 35 dX9_free_53 (by decide) ?_
      exact ih hlt
  have loop1 : ∀ i, i ≤ 6 → X Γ E 0 0 G z M 9 [some (.ref a), some (.int (nI 0)), some (.long (orL (encF S) i)), none, some (.int (nI i)), none, none, none, none, none, none] [] := by
    refine upto 6 (fun i hi ih => ?_)
    refine x_iload h dX9_free_9 rfl ?_
    refine x_bipush h (nI 6) (by decide) dX9_free_11 ?_
    refine x_icmp_ge h 32 dX9_free_13 (by decide) (fun c13 => ?_) (fun c13 => ?_)
    · obtain rfl : i = 6 := up_ge (by decide) hi c13
      refine x_in0 h dX9_free_32 ?_
      refine x_istore h dX9_free_33 rfl rfl ?_
      have hl := loop2 0 (by decide)
      rw [wL_0] at hl
      exact hl
    · have hlt : i < 6 := up_lt (by decide) hi c13
      refine x_lload_n h dX9_free_16 rfl ?_
      refine x_aload_n h dX9_free_17 rfl ?_
      refine x_getR h g0 f_X9_9 rfl r0 dX9_free_18 ?_
      refine x_iload h dX9_free_21 rfl ?_
      refine x_laldv h i g1 (ix.ni hlt (by decide)) (eS i hlt) dX9_free_23 ?_
      refine x_lor h dX9_free_24 ?_
      refine x_lstore_n h dX9_free_25 rfl rfl ?_
      refine x_incn h dX9_free_26 rfl rfl rfl ?_
      refine x_goto h 9 dX9_free_29 (by decide) ?_
      exact ih hlt
  refine x_iload_n h dX9_free_0 rfl ?_
  refine x_if_ne h 57 dX9_free_1 (by decide) (fun c1 => ?_) (fun c1 => ?_)
  · exact absurd c1 (by decide)
  · refine x_lc0 h dX9_free_4 ?_
    refine x_lstore_n h dX9_free_5 rfl rfl ?_
    refine x_in0 h dX9_free_6 ?_
    refine x_istore h dX9_free_7 rfl rfl ?_
    exact loop1 0 (by decide)
theorem c_X9_free_1 {Γ : GT} {G : GG} {M : MM} {a : Nat} {S : ST} (hS : isS G M.2.2 a) (eS : hasS M a S) : Calls Γ q_X9_free [.ref a, .int (nI 1)] G M (rV (fun M' => M' = setS M a (frS 1 S))) := by
  obtain ⟨g0, r0, g1⟩ := hS
  refine Calls.intro (by decide +kernel) (Nat.le_of_ble_eq_true rfl) (fun z E h hQ => ?_)
  have loop : ∀ i, i ≤ 6 → ∀ w w2, X Γ E 0 0 G z (wL M (a + 1) i (encF (frS 1 S))) 103 [some (.ref a), some (.int (nI 1)), some (.int (nI 6)), some (.long (lN 63)), none, some (.long (lN 1090785345)), none, some (.int (nI i)), w, none, w2] [] := by
    refine upto 6 (fun i hi ih w w2 => ?_)
    refine x_iload h dX9_free_103 rfl ?_
    refine x_bipush h (nI 6) (by decide) dX9_free_105 ?_
    refine x_icmp_ge h 166 dX9_free_107 (by decide) (fun c107 => ?_) (fun c107 => ?_)
    · obtain rfl : i = 6 := up_ge (by decide) hi c107
      exact x_vret h hQ rfl dX9_free_166 ⟨rfl, rfl, rfl, rfl⟩
    · have hlt : i < 6 := up_lt (by decide) hi c107
      refine x_lc0 h dX9_free_110 ?_
      refine x_lstore h dX9_free_111 rfl rfl ?_
      refine x_in0 h dX9_free_113 ?_
      refine x_istore h dX9_free_114 rfl rfl ?_
      have inner : ∀ j, j ≤ 6 → X Γ E 0 0 G z (wL M (a + 1) i (encF (frS 1 S))) 116 [some (.ref a), some (.int (nI 1)), some (.int (nI 6)), some (.long (lN 63)), none, some (.long (lN 1090785345)), none, some (.int (nI i)), some (.long (lN (orN (fun w => enN S (36 * i) 36 / 2 ^ (w * 6) &&& 63) j))), none, some (.int (nI j))] [] := by
        refine upto 6 (fun j hj jh => ?_)
        refine x_iload h dX9_free_116 rfl ?_
        refine x_bipush h (nI 6) (by decide) dX9_free_118 ?_
        refine x_icmp_ge h 148 dX9_free_120 (by decide) (fun c120 => ?_) (fun c120 => ?_)
        · obtain rfl : j = 6 := up_ge (by decide) hj c120
          refine x_aload_n h dX9_free_148 rfl ?_
          refine x_getR h g0 f_X9_9 rfl r0 dX9_free_149 ?_
          refine x_iload h dX9_free_152 rfl ?_
          refine x_lload h dX9_free_154 rfl ?_
          refine x_lload h dX9_free_156 rfl ?_
          refine x_lmul h dX9_free_158 ?_
          refine x_lastw h i g1 (ix.ni hlt (by decide)) (fr_1 S i) dX9_free_159 ?_
          refine x_incn h dX9_free_160 rfl rfl rfl ?_
          refine x_goto h 103 dX9_free_163 (by decide) ?_
          exact ih hlt _ _
        · have hlj : j < 6 := up_lt (by decide) hj c120
          refine x_lload h dX9_free_123 rfl ?_
          refine x_aload_n h dX9_free_125 rfl ?_
          refine x_getR h g0 f_X9_9 rfl r0 dX9_free_126 ?_
          refine x_iload h dX9_free_129 rfl ?_
          refine x_laldv h i g1 (ix.ni hlt (by decide)) ((wL_ge _ _ _ _ _ (Nat.le_refl i)).trans (eS i hlt)) dX9_free_131 ?_
          refine x_iload h dX9_free_132 rfl ?_
          refine x_iload_n h dX9_free_134 rfl ?_
          refine x_imuln h  dX9_free_135 ?_
          refine x_lushr h dX9_free_136 ?_
          refine x_topl (wb_shr (enN_lt64 S (36 * i)) (k := j * 6) (by omega)) ?_
          refine x_lload_n h dX9_free_137 rfl ?_
          refine x_land h dX9_free_138 ?_
          refine x_topl (fb_andL _ _) ?_
          refine x_lor h dX9_free_139 ?_
          refine x_topl (fb_orL _ _) ?_
          refine x_lstore h dX9_free_140 rfl rfl ?_
          refine x_incn h dX9_free_142 rfl rfl rfl ?_
          refine x_goto h 116 dX9_free_145 (by decide) ?_
          exact jh hlj
      exact inner 0 (by decide)
  refine x_iload_n h dX9_free_0 rfl ?_
  refine x_if_ne h 57 dX9_free_1 (by decide) (fun c1 => ?_) (fun c1 => ?_)
  · refine x_iload_n h dX9_free_57 rfl ?_
    refine x_in1 h dX9_free_58 ?_
    refine x_icmp_ne h 67 dX9_free_59 (by decide) (fun c59 => ?_) (fun c59 => ?_)
    · exact absurd c59 (by decide)
    · refine x_bipush h (nI 6) (by decide) dX9_free_62 ?_
      refine x_goto h 68 dX9_free_64 (by decide) ?_
      refine x_istore_n h dX9_free_68 rfl rfl ?_
      refine x_iload_n h dX9_free_69 rfl ?_
      refine x_in1 h dX9_free_70 ?_
      refine x_icmp_ne h 80 dX9_free_71 (by decide) (fun c71 => ?_) (fun c71 => ?_)
      · exact absurd c71 (by decide)
      · refine x_ldc2 h kl_X9_43 dX9_free_74 ?_
        refine x_goto h 83 dX9_free_77 (by decide) ?_
        refine x_topl (y := lN 63) (by decide +kernel) ?_
        refine x_lstore_n h dX9_free_83 rfl rfl ?_
        refine x_iload_n h dX9_free_84 rfl ?_
        refine x_in1 h dX9_free_85 ?_
        refine x_icmp_ne h 95 dX9_free_86 (by decide) (fun c86 => ?_) (fun c86 => ?_)
        · exact absurd c86 (by decide)
        · refine x_ldc2 h kl_X9_45 dX9_free_89 ?_
          refine x_goto h 98 dX9_free_92 (by decide) ?_
          refine x_topl (y := lN 1090785345) (by decide +kernel) ?_
          refine x_lstore h dX9_free_98 rfl rfl ?_
          refine x_in0 h dX9_free_100 ?_
          refine x_istore h dX9_free_101 rfl rfl ?_
          have hl := loop 0 (by decide) none none
          rw [wL_0] at hl
          exact hl
  · exact absurd c1 (by decide)
theorem c_X9_free_2 {Γ : GT} {G : GG} {M : MM} {a : Nat} {S : ST} (hS : isS G M.2.2 a) (eS : hasS M a S) : Calls Γ q_X9_free [.ref a, .int (nI 2)] G M (rV (fun M' => M' = setS M a (frS 2 S))) := by
  obtain ⟨g0, r0, g1⟩ := hS
  refine Calls.intro (by decide +kernel) (Nat.le_of_ble_eq_true rfl) (fun z E h hQ => ?_)
  have loop : ∀ i, i ≤ 6 → ∀ w w2, X Γ E 0 0 G z (wL M (a + 1) i (encF (frS 2 S))) 103 [some (.ref a), some (.int (nI 2)), some (.int (nI 1)), some (.long (lN 1090785345)), none, some (.long (lN 63)), none, some (.int (nI i)), w, none, w2] [] := by
    refine upto 6 (fun i hi ih w w2 => ?_)
    refine x_iload h dX9_free_103 rfl ?_
    refine x_bipush h (nI 6) (by decide) dX9_free_105 ?_
    refine x_icmp_ge h 166 dX9_free_107 (by decide) (fun c107 => ?_) (fun c107 => ?_)
    · obtain rfl : i = 6 := up_ge (by decide) hi c107
      exact x_vret h hQ rfl dX9_free_166 ⟨rfl, rfl, rfl, rfl⟩
    · have hlt : i < 6 := up_lt (by decide) hi c107
      refine x_lc0 h dX9_free_110 ?_
      refine x_lstore h dX9_free_111 rfl rfl ?_
      refine x_in0 h dX9_free_113 ?_
      refine x_istore h dX9_free_114 rfl rfl ?_
      have inner : ∀ j, j ≤ 6 → X Γ E 0 0 G z (wL M (a + 1) i (encF (frS 2 S))) 116 [some (.ref a), some (.int (nI 2)), some (.int (nI 1)), some (.long (lN 1090785345)), none, some (.long (lN 63)), none, some (.int (nI i)), some (.long (lN (orN (fun w => enN S (36 * i) 36 / 2 ^ (w * 1) &&& 1090785345) j))), none, some (.int (nI j))] [] := by
        refine upto 6 (fun j hj jh => ?_)
        refine x_iload h dX9_free_116 rfl ?_
        refine x_bipush h (nI 6) (by decide) dX9_free_118 ?_
        refine x_icmp_ge h 148 dX9_free_120 (by decide) (fun c120 => ?_) (fun c120 => ?_)
        · obtain rfl : j = 6 := up_ge (by decide) hj c120
          refine x_aload_n h dX9_free_148 rfl ?_
          refine x_getR h g0 f_X9_9 rfl r0 dX9_free_149 ?_
          refine x_iload h dX9_free_152 rfl ?_
          refine x_lload h dX9_free_154 rfl ?_
          refine x_lload h dX9_free_156 rfl ?_
          refine x_lmul h dX9_free_158 ?_
          refine x_lastw h i g1 (ix.ni hlt (by decide)) (fr_2 S i) dX9_free_159 ?_
          refine x_incn h dX9_free_160 rfl rfl rfl ?_
          refine x_goto h 103 dX9_free_163 (by decide) ?_
          exact ih hlt _ _
        · have hlj : j < 6 := up_lt (by decide) hj c120
          refine x_lload h dX9_free_123 rfl ?_
          refine x_aload_n h dX9_free_125 rfl ?_
          refine x_getR h g0 f_X9_9 rfl r0 dX9_free_126 ?_
          refine x_iload h dX9_free_129 rfl ?_
          refine x_laldv h i g1 (ix.ni hlt (by decide)) ((wL_ge _ _ _ _ _ (Nat.le_refl i)).trans (eS i hlt)) dX9_free_131 ?_
          refine x_iload h dX9_free_132 rfl ?_
          refine x_iload_n h dX9_free_134 rfl ?_
          refine x_imuln h  dX9_free_135 ?_
          refine x_lushr h dX9_free_136 ?_
          refine x_topl (wb_shr (enN_lt64 S (36 * i)) (k := j * 1) (by omega)) ?_
          refine x_lload_n h dX9_free_137 rfl ?_
          refine x_land h dX9_free_138 ?_
          refine x_topl (fb_andL _ _) ?_
          refine x_lor h dX9_free_139 ?_
          refine x_topl (fb_orL _ _) ?_
          refine x_lstore h dX9_free_140 rfl rfl ?_
          refine x_incn h dX9_free_142 rfl rfl rfl ?_
          refine x_goto h 116 dX9_free_145 (by decide) ?_
          exact jh hlj
      exact inner 0 (by decide)
  refine x_iload_n h dX9_free_0 rfl ?_
  refine x_if_ne h 57 dX9_free_1 (by decide) (fun c1 => ?_) (fun c1 => ?_)
  · refine x_iload_n h dX9_free_57 rfl ?_
    refine x_in1 h dX9_free_58 ?_
    refine x_icmp_ne h 67 dX9_free_59 (by decide) (fun c59 => ?_) (fun c59 => ?_)
    · refine x_in1 h dX9_free_67 ?_
      refine x_istore_n h dX9_free_68 rfl rfl ?_
      refine x_iload_n h dX9_free_69 rfl ?_
      refine x_in1 h dX9_free_70 ?_
      refine x_icmp_ne h 80 dX9_free_71 (by decide) (fun c71 => ?_) (fun c71 => ?_)
      · refine x_ldc2 h kl_X9_45 dX9_free_80 ?_
        refine x_topl (y := lN 1090785345) (by decide +kernel) ?_
        refine x_lstore_n h dX9_free_83 rfl rfl ?_
        refine x_iload_n h dX9_free_84 rfl ?_
        refine x_in1 h dX9_free_85 ?_
        refine x_icmp_ne h 95 dX9_free_86 (by decide) (fun c86 => ?_) (fun c86 => ?_)
        · refine x_ldc2 h kl_X9_43 dX9_free_95 ?_
          refine x_topl (y := lN 63) (by decide +kernel) ?_
          refine x_lstore h dX9_free_98 rfl rfl ?_
          refine x_in0 h dX9_free_100 ?_
          refine x_istore h dX9_free_101 rfl rfl ?_
          have hl := loop 0 (by decide) none none
          rw [wL_0] at hl
          exact hl
        · exact absurd c86 (by decide)
      · exact absurd c71 (by decide)
    · exact absurd c59 (by decide)
  · exact absurd c1 (by decide)
