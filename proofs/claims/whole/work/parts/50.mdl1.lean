/-! ===== the reference: what needs no object ===== -/
theorem i32_l {x : Int32} : x.toInt64.toInt = x.toInt := Int32.toInt_toInt64 x
theorem c_X12_in {Γ : GT} {G : GG} {M : MM} {a b c : Int64} : Calls Γ q_X12_in [.long a, .long b, .long c] G M (rI (fun y M' => y = b2i (decide (b ≤ a) && decide (a ≤ c)) ∧ M' = M)) := by
  refine Calls.intro (by decide +kernel) (Nat.le_of_ble_eq_true rfl) (fun z E h hQ => ?_)
  refine x_loc (L' := [some (.long a), none, some (.long b), none, some (.long c), none]) rfl ?_
  refine x_lload_n h dX12_in_0 rfl ?_
  refine x_lload_n h dX12_in_1 rfl ?_
  refine x_lcmp h dX12_in_2 ?_
  refine x_if_lt h 17 dX12_in_3 (by decide) (fun c3 => ?_) (fun c3 => ?_)
  · have e1 := (lg_cmp_lt _ _).mp c3
    refine x_ic0 h dX12_in_17 ?_
    exact x_zret h hQ rfl (by decide) dX12_in_18 ⟨rfl, rfl, _, rfl, b2i_f (by rw [decide_eq_false (Int64.not_le.mpr e1)]; rfl), rfl⟩
  · have e1 := mt (lg_cmp_lt _ _).mpr c3
    refine x_lload_n h dX12_in_6 rfl ?_
    refine x_lload h dX12_in_7 rfl ?_
    refine x_lcmp h dX12_in_9 ?_
    refine x_if_gt h 17 dX12_in_10 (by decide) (fun c10 => ?_) (fun c10 => ?_)
    · have e2 := (lg_cmp_gt _ _).mp c10
      refine x_ic0 h dX12_in_17 ?_
      exact x_zret h hQ rfl (by decide) dX12_in_18 ⟨rfl, rfl, _, rfl, b2i_f (by rw [decide_eq_false (p := a ≤ c) (Int64.not_le.mpr e2)]; simp), rfl⟩
    · have e2 := mt (lg_cmp_gt _ _).mpr c10
      refine x_ic1 h dX12_in_13 ?_
      refine x_goto h 18 dX12_in_14 (by decide) ?_
      exact x_zret h hQ rfl (by decide) dX12_in_18 ⟨rfl, rfl, _, rfl, b2i_t (by rw [decide_eq_true (Int64.not_lt.mp e1), decide_eq_true (Int64.not_lt.mp e2)]; rfl), rfl⟩
theorem c_X12_isIn {Γ : GT} {G : GG} {M : MM} {m g : Nat} (hm : m < 32) (hg : g < 5) : Calls Γ q_X12_isIn [.int (nI m), .int (nI g)] G M (rI (fun y M' => y = b2i (m.testBit g) ∧ M' = M)) := by
  refine Calls.intro (by decide +kernel) (Nat.le_of_ble_eq_true rfl) (fun z E h hQ => ?_)
  refine x_loc (L' := [some (.int (nI m)), some (.int (nI g))]) rfl ?_
  refine x_iload_n h dX12_isIn_0 rfl ?_
  refine x_iload_n h dX12_isIn_1 rfl ?_
  refine x_ishr h dX12_isIn_2 ?_
  refine x_in1 h dX12_isIn_3 ?_
  refine x_iand h dX12_isIn_4 ?_
  refine x_topi (bit5 m hm g hg) ?_
  refine x_in1 h dX12_isIn_5 ?_
  refine x_icmp_ne h 13 dX12_isIn_6 (by decide) (fun c6 => ?_) (fun c6 => ?_)
  · have e : m.testBit g = false := by
      cases hx : m.testBit g with
      | false => rfl
      | true => rw [hx] at c6; exact absurd rfl c6
    refine x_ic0 h dX12_isIn_13 ?_
    exact x_zret h hQ rfl (by decide) dX12_isIn_14 ⟨rfl, rfl, _, rfl, b2i_f e, rfl⟩
  · have e : m.testBit g = true := by
      cases hx : m.testBit g with
      | true => rfl
      | false => rw [hx] at c6; exact absurd c6 (by decide)
    refine x_ic1 h dX12_isIn_9 ?_
    refine x_goto h 14 dX12_isIn_10 (by decide) ?_
    exact x_zret h hQ rfl (by decide) dX12_isIn_14 ⟨rfl, rfl, _, rfl, b2i_t e, rfl⟩
theorem c_X12_ones {Γ : GT} {G : GG} {M : MM} {m : Nat} (hm : m < 32) : Calls Γ q_X12_ones [.int (nI m)] G M (rI (fun y M' => y = nI (fb_ct (fun i => m.testBit i) 5) ∧ M' = M)) := by
  refine Calls.intro (by decide +kernel) (Nat.le_of_ble_eq_true rfl) (fun z E h hQ => ?_)
  refine x_loc (L' := [some (.int (nI m)), none, none]) rfl ?_
  have loop : ∀ i, i ≤ 5 → X Γ E 0 0 G z M 4 [some (.int (nI m)), some (.int (nI (fb_ct (fun i => m.testBit i) i))), some (.int (nI i))] [] := by
    refine upto 5 (fun i hi ih => ?_)
    refine x_iload_n h dX12_ones_4 rfl ?_
    refine x_in5 h dX12_ones_5 ?_
    refine x_icmp_ge h 23 dX12_ones_6 (by decide) (fun c6 => ?_) (fun c6 => ?_)
    · obtain rfl : i = 5 := up_ge (by decide) hi c6
      refine x_iload_n h dX12_ones_23 rfl ?_
      exact x_iret h hQ rfl dX12_ones_24 ⟨rfl, rfl, _, rfl, rfl, rfl⟩
    · have hlt : i < 5 := up_lt (by decide) hi c6
      refine x_iload_n h dX12_ones_9 rfl ?_
      refine x_iload_n h dX12_ones_10 rfl ?_
      refine x_iload_n h dX12_ones_11 rfl ?_
      refine x_ishr h dX12_ones_12 ?_
      refine x_in1 h dX12_ones_13 ?_
      refine x_iand h dX12_ones_14 ?_
      refine x_topi (bit5 m hm i hlt) ?_
      refine x_iaddn h  dX12_ones_15 ?_
      refine x_istore_n h dX12_ones_16 rfl rfl ?_
      dsimp only [List.set]
      refine x_incn h dX12_ones_17 rfl rfl rfl ?_
      dsimp only [List.set]
      refine x_goto h 4 dX12_ones_20 (by decide) ?_
      exact ih hlt
  refine x_in0 h dX12_ones_0 ?_
  refine x_istore_n h dX12_ones_1 rfl rfl ?_
  dsimp only [List.set]
  refine x_in0 h dX12_ones_2 ?_
  refine x_istore_n h dX12_ones_3 rfl rfl ?_
  dsimp only [List.set]
  exact loop 0 (Nat.zero_le _)
theorem c_X12_power {Γ : GT} {G : GG} {M : MM} {x n : Nat} (hn : n < 2 ^ 31) : Calls Γ q_X12_power [.int (nI x), .int (nI n)] G M (rI (fun y M' => y = nI (x ^ n) ∧ M' = M)) := by
  refine Calls.intro (by decide +kernel) (Nat.le_of_ble_eq_true rfl) (fun z E h hQ => ?_)
  refine x_loc (L' := [some (.int (nI x)), some (.int (nI n)), none, none]) rfl ?_
  have loop : ∀ i, i ≤ n → X Γ E 0 0 G z M 4 [some (.int (nI x)), some (.int (nI n)), some (.int (nI (x ^ i))), some (.int (nI i))] [] := by
    refine upto n (fun i hi ih => ?_)
    refine x_iload_n h dX12_power_4 rfl ?_
    refine x_iload_n h dX12_power_5 rfl ?_
    refine x_icmp_ge h 19 dX12_power_6 (by decide) (fun c6 => ?_) (fun c6 => ?_)
    · obtain rfl : i = n := by
        have := (nI_le_iff hn (by omega)).mp c6
        omega
      refine x_iload_n h dX12_power_19 rfl ?_
      exact x_iret h hQ rfl dX12_power_20 ⟨rfl, rfl, _, rfl, rfl, rfl⟩
    · have hlt : i < n := by
        have := mt (nI_le_iff (a := n) (b := i) hn (by omega)).mpr c6
        omega
      refine x_iload_n h dX12_power_9 rfl ?_
      refine x_iload_n h dX12_power_10 rfl ?_
      refine x_imuln h  dX12_power_11 ?_
      refine x_istore_n h dX12_power_12 rfl rfl ?_
      dsimp only [List.set]
      refine x_incn h dX12_power_13 rfl rfl rfl ?_
      dsimp only [List.set]
      refine x_goto h 4 dX12_power_16 (by decide) ?_
      exact ih hlt
  refine x_in1 h dX12_power_0 ?_
  refine x_istore_n h dX12_power_1 rfl rfl ?_
  dsimp only [List.set]
  refine x_in0 h dX12_power_2 ?_
  refine x_istore_n h dX12_power_3 rfl rfl ?_
  dsimp only [List.set]
  exact loop 0 (Nat.zero_le _)
def fct : Nat → Nat
  | 0 => 1
  | n + 1 => fct n * (n + 1)
theorem c_X12_factorial {Γ : GT} {G : GG} {M : MM} {n : Nat} (hn : n < 100) : Calls Γ q_X12_factorial [.int (nI n)] G M (rI (fun y M' => y = nI (fct n) ∧ M' = M)) := by
  refine Calls.intro (by decide +kernel) (Nat.le_of_ble_eq_true rfl) (fun z E h hQ => ?_)
  refine x_loc (L' := [some (.int (nI n)), none, none]) rfl ?_
  have loop : ∀ i, i ≤ n - 1 → X Γ E 0 0 G z M 4 [some (.int (nI n)), some (.int (nI (fct (i + 1)))), some (.int (nI (i + 2)))] [] := by
    refine upto (n - 1) (fun i hi ih => ?_)
    refine x_iload_n h dX12_factorial_4 rfl ?_
    refine x_iload_n h dX12_factorial_5 rfl ?_
    refine x_icmp_gt h 19 dX12_factorial_6 (by decide) (fun c6 => ?_) (fun c6 => ?_)
    · have e := (nI_lt_iff (by omega) (by omega)).mp c6
      refine x_iload_n h dX12_factorial_19 rfl ?_
      exact x_iret h hQ rfl dX12_factorial_20 ⟨rfl, rfl, _, rfl, by
        rcases Nat.eq_zero_or_pos n with q | q
        · obtain rfl : i = 0 := by omega
          rw [q]; rfl
        · rw [show i + 1 = n by omega], rfl⟩
    · have hlt : i < n - 1 := by
        have := mt (nI_lt_iff (a := n) (b := i + 2) (by omega) (by omega)).mpr c6
        omega
      refine x_iload_n h dX12_factorial_9 rfl ?_
      refine x_iload_n h dX12_factorial_10 rfl ?_
      refine x_imuln h  dX12_factorial_11 ?_
      refine x_istore_n h dX12_factorial_12 rfl rfl ?_
      dsimp only [List.set]
      refine x_incn h dX12_factorial_13 rfl rfl rfl ?_
      dsimp only [List.set]
      refine x_goto h 4 dX12_factorial_16 (by decide) ?_
      exact ih hlt
  refine x_in1 h dX12_factorial_0 ?_
  refine x_istore_n h dX12_factorial_1 rfl rfl ?_
  dsimp only [List.set]
  refine x_in2 h dX12_factorial_2 ?_
  refine x_istore_n h dX12_factorial_3 rfl rfl ?_
  dsimp only [List.set]
  exact loop 0 (Nat.zero_le _)
theorem c_X12_divisor {Γ : GT} {G : GG} {M : MM} {a b : Nat} (ha : a < 2 ^ 31) (hb : b < 2 ^ 31) : Calls Γ q_X12_divisor [.int (nI a), .int (nI b)] G M (rI (fun y M' => y = nI (Nat.gcd a b) ∧ M' = M)) := by
  refine Calls.intro (by decide +kernel) (Nat.le_of_ble_eq_true rfl) (fun z E h hQ => ?_)
  refine x_loc (L' := [some (.int (nI a)), some (.int (nI b)), none, none, none]) rfl ?_
  have loop : ∀ y, ∀ x, y < 2 ^ 31 → x < 2 ^ 31 → Nat.gcd x y = Nat.gcd a b → ∀ w, X Γ E 0 0 G z M 13 [some (.int (nI a)), some (.int (nI b)), some (.int (nI x)), some (.int (nI y)), w] [] := by
    intro y
    induction y using Nat.strongRecOn with
    | ind y ih =>
    intro x hy hx hg w
    refine x_iload_n h dX12_divisor_13 rfl ?_
    refine x_if_eq h 30 dX12_divisor_14 (by decide) (fun c14 => ?_) (fun c14 => ?_)
    · have e : y = 0 := nI_small 0 hy (by decide) (c14.trans nI_0.symm)
      subst e
      rw [Nat.gcd_zero_right] at hg
      refine x_iload_n h dX12_divisor_30 rfl ?_
      exact x_iret h hQ rfl dX12_divisor_31 ⟨rfl, rfl, _, rfl, by rw [hg], rfl⟩
    · have e : 0 < y := by
        rcases Nat.eq_zero_or_pos y with q | q
        · exact absurd (by rw [q]; exact nI_0) c14
        · exact q
      refine x_iload_n h dX12_divisor_17 rfl ?_
      refine x_iload_n h dX12_divisor_18 rfl ?_
      refine x_iremn h ⟨hx, e, hy⟩ dX12_divisor_19 ?_
      refine x_istore h dX12_divisor_20 rfl rfl ?_
      dsimp only [List.set]
      refine x_iload_n h dX12_divisor_22 rfl ?_
      refine x_istore_n h dX12_divisor_23 rfl rfl ?_
      dsimp only [List.set]
      refine x_iload h dX12_divisor_24 rfl ?_
      refine x_istore_n h dX12_divisor_26 rfl rfl ?_
      dsimp only [List.set]
      refine x_goto h 13 dX12_divisor_27 (by decide) ?_
      exact ih (x % y) (Nat.mod_lt _ e) y (Nat.lt_trans (Nat.mod_lt _ e) hy) hy (by rw [← hg, Nat.gcd_comm y, ← Nat.gcd_rec, Nat.gcd_comm]) _
  refine x_iload_n h dX12_divisor_0 rfl ?_
  refine x_if_ge h 9 dX12_divisor_1 (by decide) (fun c1 => ?_) (fun c1 => ?_)
  · refine x_iload_n h dX12_divisor_9 rfl ?_
    refine x_istore_n h dX12_divisor_10 rfl rfl ?_
    dsimp only [List.set]
    refine x_iload_n h dX12_divisor_11 rfl ?_
    refine x_istore_n h dX12_divisor_12 rfl rfl ?_
    dsimp only [List.set]
    exact loop b a hb ha rfl _
  · exact absurd ((nI_le_iff (by decide) ha).mpr (Nat.zero_le a)) c1
theorem c_X12_fraction {Γ : GT} {G : GG} {M : MM} {a b : Nat} {u : Bool} (ha : a < 2 ^ 31) (hb : b < 2 ^ 31) (h0 : 0 < b) : Calls Γ q_X12_fraction [.int (nI a), .int (nI b), .int (b2i u)] G M (rI (fun y M' => y = nI (if u then a / Nat.gcd a b else b / Nat.gcd a b) ∧ M' = M)) := by
  have hg0 : 0 < Nat.gcd a b := Nat.gcd_pos_of_pos_right _ h0
  have hg1 : Nat.gcd a b < 2 ^ 31 := Nat.lt_of_le_of_lt (Nat.gcd_le_right _ h0) hb
  refine Calls.intro (by decide +kernel) (Nat.le_of_ble_eq_true rfl) (fun z E h hQ => ?_)
  refine x_loc (L' := [some (.int (nI a)), some (.int (nI b)), some (.int (b2i u)), none]) rfl ?_
  refine x_iload_n h dX12_fraction_0 rfl ?_
  refine x_iload_n h dX12_fraction_1 rfl ?_
  refine x_cSi h ci_X12_divisor sm_X12_divisor l_X12_108 ⟨Nat.le_of_ble_eq_true rfl, Nat.le_of_ble_eq_true rfl⟩ ⟨rfl, rfl⟩ ⟨Nat.zero_le _, Nat.zero_le _⟩ (c_X12_divisor ha hb) rfl rfl rfl rfl dX12_fraction_2 (fun v2 M2 hp2 => ?_)
  obtain ⟨rfl, hM⟩ := hp2
  obtain rfl := hM.symm
  clear hM
  refine x_istore_n h dX12_fraction_5 rfl rfl ?_
  dsimp only [List.set]
  refine x_iload_n h dX12_fraction_6 rfl ?_
  refine x_if_eq h 16 dX12_fraction_7 (by decide) (fun c7 => ?_) (fun c7 => ?_)
  · have e := b2i_0.mp c7
    refine x_iload_n h dX12_fraction_16 rfl ?_
    refine x_iload_n h dX12_fraction_17 rfl ?_
    refine x_idivn h ⟨hb, hg0, hg1⟩ dX12_fraction_18 ?_
    exact x_iret h hQ rfl dX12_fraction_19 ⟨rfl, rfl, _, rfl, by rw [e]; rfl, rfl⟩
  · have e := bool_nf (fun q => c7 (b2i_0.mpr q))
    refine x_iload_n h dX12_fraction_10 rfl ?_
    refine x_iload_n h dX12_fraction_11 rfl ?_
    refine x_idivn h ⟨ha, hg0, hg1⟩ dX12_fraction_12 ?_
    refine x_goto h 19 dX12_fraction_13 (by decide) ?_
    exact x_iret h hQ rfl dX12_fraction_19 ⟨rfl, rfl, _, rfl, by rw [e]; rfl, rfl⟩
theorem in_nat {x a b : Nat} (hx : x < 2 ^ 31) (ha : a < 2 ^ 31) (hb : b < 2 ^ 31) : (decide (lN a ≤ (nI x).toInt64) && decide ((nI x).toInt64 ≤ lN b)) = decide (a ≤ x ∧ x ≤ b) := by
  have e : ∀ y, y < 2 ^ 31 → (lN y).toInt = (y : Int) := fun y hy => lN_toInt hy
  have e2 : (nI x).toInt64.toInt = (x : Int) := by rw [i32_l, nI_toInt hx]
  rw [← Bool.decide_and]
  refine decide_eq_decide.mpr ?_
  rw [Int64.le_iff_toInt_le, Int64.le_iff_toInt_le, e a ha, e b hb, e2]
  omega
theorem kl97 : (97 : Int64) = lN 97 := rfl
theorem c_X12_variableOf {Γ : GT} {G : GG} {M : MM} {x : Nat} (hx : x < 2 ^ 31) : Calls Γ q_X12_variableOf [.int (nI x)] G M (rI (fun y M' => y = (if isNm x then nI (x - 97) else -9) ∧ M' = M)) := by
  refine Calls.intro (by decide +kernel) (Nat.le_of_ble_eq_true rfl) (fun z E h hQ => ?_)
  refine x_loc (L' := [some (.int (nI x))]) rfl ?_
  refine x_iload_n h dX12_variableOf_0 rfl ?_
  refine x_i2l h dX12_variableOf_1 ?_
  refine x_ldc2 h kl_X12_122 dX12_variableOf_2 ?_
  refine x_ldc2 h kl_X12_124 dX12_variableOf_5 ?_
  refine x_cSi h ci_X12_in sm_X12_in l_X12_114 ⟨Nat.le_of_ble_eq_true rfl, Nat.le_of_ble_eq_true rfl⟩ ⟨rfl, rfl⟩ ⟨Nat.zero_le _, Nat.zero_le _⟩ (c_X12_in (b := lN 97) (c := lN 99)) rfl rfl rfl rfl dX12_variableOf_8 (fun v8 M8 hp8 => ?_)
  obtain ⟨rfl, hM⟩ := hp8
  obtain rfl := hM.symm
  clear hM
  refine x_if_eq h 21 dX12_variableOf_11 (by decide) (fun c11 => ?_) (fun c11 => ?_)
  · have e : isNm x = false := (in_nat hx (by decide) (by decide)).symm.trans (b2i_0.mp c11)
    refine x_bipush h (-9) (by decide) dX12_variableOf_21 ?_
    exact x_iret h hQ rfl dX12_variableOf_23 ⟨rfl, rfl, _, rfl, by rw [e]; rfl, rfl⟩
  · have e : isNm x = true := (in_nat hx (by decide) (by decide)).symm.trans (bool_nf (fun q => c11 (b2i_0.mpr q)))
    have e2 : 97 ≤ x ∧ x ≤ 99 := of_decide_eq_true e
    refine x_iload_n h dX12_variableOf_14 rfl ?_
    refine x_bipush h (nI 97) (by decide) dX12_variableOf_15 ?_
    refine x_isubn h e2.1 dX12_variableOf_17 ?_
    refine x_goto h 23 dX12_variableOf_18 (by decide) ?_
    exact x_iret h hQ rfl dX12_variableOf_23 ⟨rfl, rfl, _, rfl, by rw [e]; rfl, rfl⟩
theorem c_X12_termOf {Γ : GT} {G : GG} {M : MM} {x : Nat} (hx : x < 2 ^ 31) : Calls Γ q_X12_termOf [.int (nI x)] G M (rI (fun y M' => y = (if trmN x < 9 then nI (trmN x) else -9) ∧ M' = M)) := by
  refine Calls.intro (by decide +kernel) (Nat.le_of_ble_eq_true rfl) (fun z E h hQ => ?_)
  refine x_loc (L' := [some (.int (nI x))]) rfl ?_
  refine x_iload_n h dX12_termOf_0 rfl ?_
  refine x_i2l h dX12_termOf_1 ?_
  refine x_ldc2 h kl_X12_126 dX12_termOf_2 ?_
  refine x_ldc2 h kl_X12_128 dX12_termOf_5 ?_
  refine x_cSi h ci_X12_in sm_X12_in l_X12_114 ⟨Nat.le_of_ble_eq_true rfl, Nat.le_of_ble_eq_true rfl⟩ ⟨rfl, rfl⟩ ⟨Nat.zero_le _, Nat.zero_le _⟩ (c_X12_in (b := lN 48) (c := lN 53)) rfl rfl rfl rfl dX12_termOf_8 (fun v8 M8 hp8 => ?_)
  obtain ⟨rfl, hM⟩ := hp8
  obtain rfl := hM.symm
  clear hM
  refine x_if_eq h 21 dX12_termOf_11 (by decide) (fun c11 => ?_) (fun c11 => ?_)
  · have f : ¬ (48 ≤ x ∧ x ≤ 53) := of_decide_eq_false ((in_nat hx (by decide) (by decide)).symm.trans (b2i_0.mp c11))
    refine x_iload_n h dX12_termOf_21 rfl ?_
    refine x_i2l h dX12_termOf_22 ?_
    refine x_ldc2 h kl_X12_122 dX12_termOf_23 ?_
    refine x_ldc2 h kl_X12_124 dX12_termOf_26 ?_
    refine x_cSi h ci_X12_in sm_X12_in l_X12_114 ⟨Nat.le_of_ble_eq_true rfl, Nat.le_of_ble_eq_true rfl⟩ ⟨rfl, rfl⟩ ⟨Nat.zero_le _, Nat.zero_le _⟩ (c_X12_in (b := lN 97) (c := lN 99)) rfl rfl rfl rfl dX12_termOf_29 (fun v29 M29 hp29 => ?_)
    obtain ⟨rfl, hM⟩ := hp29
    obtain rfl := hM.symm
    clear hM
    refine x_if_eq h 45 dX12_termOf_32 (by decide) (fun c32 => ?_) (fun c32 => ?_)
    · have e : isNm x = false := (in_nat hx (by decide) (by decide)).symm.trans (b2i_0.mp c32)
      refine x_bipush h (-9) (by decide) dX12_termOf_45 ?_
      exact x_iret h hQ rfl dX12_termOf_47 ⟨rfl, rfl, _, rfl, by
        have e3 : trmN x = 9 := by simp [trmN, e, f]
        rw [e3]; rfl, rfl⟩
    · have e : isNm x = true := (in_nat hx (by decide) (by decide)).symm.trans (bool_nf (fun q => c32 (b2i_0.mpr q)))
      have e2 : 97 ≤ x ∧ x ≤ 99 := of_decide_eq_true e
      refine x_iload_n h dX12_termOf_35 rfl ?_
      refine x_bipush h (nI 97) (by decide) dX12_termOf_36 ?_
      refine x_isubn h e2.1 dX12_termOf_38 ?_
      refine x_bipush h (nI 6) (by decide) dX12_termOf_39 ?_
      refine x_iaddn h  dX12_termOf_41 ?_
      refine x_goto h 47 dX12_termOf_42 (by decide) ?_
      exact x_iret h hQ rfl dX12_termOf_47 ⟨rfl, rfl, _, rfl, by
        have e3 : trmN x = x - 91 := by simp [trmN, e]
        rw [e3, if_pos (by omega), show x - 97 + 6 = x - 91 by omega], rfl⟩
  · have f : 48 ≤ x ∧ x ≤ 53 := of_decide_eq_true ((in_nat hx (by decide) (by decide)).symm.trans (bool_nf (fun q => c11 (b2i_0.mpr q))))
    refine x_iload_n h dX12_termOf_14 rfl ?_
    refine x_bipush h (nI 48) (by decide) dX12_termOf_15 ?_
    refine x_isubn h f.1 dX12_termOf_17 ?_
    refine x_goto h 47 dX12_termOf_18 (by decide) ?_
    exact x_iret h hQ rfl dX12_termOf_47 ⟨rfl, rfl, _, rfl, by
      have e : isNm x = false := decide_eq_false (by omega)
      have e3 : trmN x = x - 48 := by simp [trmN, e, f]
      rw [e3, if_pos (by omega)], rfl⟩
theorem c_X12_isCompare {Γ : GT} {G : GG} {M : MM} {x : Nat} (hx : x < 2 ^ 31) : Calls Γ q_X12_isCompare [.int (nI x)] G M (rI (fun y M' => y = b2i (isSg x) ∧ M' = M)) := by
  refine Calls.intro (by decide +kernel) (Nat.le_of_ble_eq_true rfl) (fun z E h hQ => ?_)
  refine x_loc (L' := [some (.int (nI x))]) rfl ?_
  refine x_iload_n h dX12_isCompare_0 rfl ?_
  refine x_bipush h (nI 60) (by decide) dX12_isCompare_1 ?_
  refine x_icmp_eq h 24 dX12_isCompare_3 (by decide) (fun c3 => ?_) (fun c3 => ?_)
  · have e1 : x = 60 := nI_small 60 hx (by decide) c3
    refine x_ic1 h dX12_isCompare_24 ?_
    refine x_goto h 29 dX12_isCompare_25 (by decide) ?_
    exact x_zret h hQ rfl (by decide) dX12_isCompare_29 ⟨rfl, rfl, _, rfl, b2i_t (decide_eq_true (by omega)), rfl⟩
  · have e1 : ¬ x = 60 := fun q => c3 (by rw [q])
    refine x_iload_n h dX12_isCompare_6 rfl ?_
    refine x_bipush h (nI 61) (by decide) dX12_isCompare_7 ?_
    refine x_icmp_eq h 24 dX12_isCompare_9 (by decide) (fun c9 => ?_) (fun c9 => ?_)
    · have e2 : x = 61 := nI_small 61 hx (by decide) c9
      refine x_ic1 h dX12_isCompare_24 ?_
      refine x_goto h 29 dX12_isCompare_25 (by decide) ?_
      exact x_zret h hQ rfl (by decide) dX12_isCompare_29 ⟨rfl, rfl, _, rfl, b2i_t (decide_eq_true (by omega)), rfl⟩
    · have e2 : ¬ x = 61 := fun q => c9 (by rw [q])
      refine x_iload_n h dX12_isCompare_12 rfl ?_
      refine x_bipush h (nI 62) (by decide) dX12_isCompare_13 ?_
      refine x_icmp_eq h 24 dX12_isCompare_15 (by decide) (fun c15 => ?_) (fun c15 => ?_)
      · have e3 : x = 62 := nI_small 62 hx (by decide) c15
        refine x_ic1 h dX12_isCompare_24 ?_
        refine x_goto h 29 dX12_isCompare_25 (by decide) ?_
        exact x_zret h hQ rfl (by decide) dX12_isCompare_29 ⟨rfl, rfl, _, rfl, b2i_t (decide_eq_true (by omega)), rfl⟩
      · have e3 : ¬ x = 62 := fun q => c15 (by rw [q])
        refine x_iload_n h dX12_isCompare_18 rfl ?_
        refine x_bipush h (nI 35) (by decide) dX12_isCompare_19 ?_
        refine x_icmp_ne h 28 dX12_isCompare_21 (by decide) (fun c21 => ?_) (fun c21 => ?_)
        · have e4 : ¬ x = 35 := fun q => c21 (by rw [q])
          refine x_ic0 h dX12_isCompare_28 ?_
          exact x_zret h hQ rfl (by decide) dX12_isCompare_29 ⟨rfl, rfl, _, rfl, b2i_f (decide_eq_false (by omega)), rfl⟩
        · have e4 : x = 35 := nI_small 35 hx (by decide) c21
          refine x_ic1 h dX12_isCompare_24 ?_
          refine x_goto h 29 dX12_isCompare_25 (by decide) ?_
          exact x_zret h hQ rfl (by decide) dX12_isCompare_29 ⟨rfl, rfl, _, rfl, b2i_t (decide_eq_true (by omega)), rfl⟩
theorem c_X12_isStatement {Γ : GT} {G : GG} {M : MM} {x : Nat} (hx : x < 2 ^ 31) : Calls Γ q_X12_isStatement [.int (nI x)] G M (rI (fun y M' => y = b2i (isStm x) ∧ M' = M)) := by
  refine Calls.intro (by decide +kernel) (Nat.le_of_ble_eq_true rfl) (fun z E h hQ => ?_)
  refine x_loc (L' := [some (.int (nI x))]) rfl ?_
  refine x_iload_n h dX12_isStatement_0 rfl ?_
  refine x_bipush h (nI 7) (by decide) dX12_isStatement_1 ?_
  refine x_icmp_eq h 22 dX12_isStatement_3 (by decide) (fun c3 => ?_) (fun c3 => ?_)
  · have e1 : x = 7 := nI_small 7 hx (by decide) c3
    refine x_ic0 h dX12_isStatement_22 ?_
    exact x_zret h hQ rfl (by decide) dX12_isStatement_23 ⟨rfl, rfl, _, rfl, b2i_f (by simp [isStm, e1]), rfl⟩
  · have e1 : ¬ x = 7 := fun q => c3 (by rw [q])
    refine x_iload_n h dX12_isStatement_6 rfl ?_
    refine x_bipush h (nI 9) (by decide) dX12_isStatement_7 ?_
    refine x_icmp_eq h 22 dX12_isStatement_9 (by decide) (fun c9 => ?_) (fun c9 => ?_)
    · have e2 : x = 9 := nI_small 9 hx (by decide) c9
      refine x_ic0 h dX12_isStatement_22 ?_
      exact x_zret h hQ rfl (by decide) dX12_isStatement_23 ⟨rfl, rfl, _, rfl, b2i_f (by simp [isStm, e2]), rfl⟩
    · have e2 : ¬ x = 9 := fun q => c9 (by rw [q])
      refine x_iload_n h dX12_isStatement_12 rfl ?_
      refine x_bipush h (nI 10) (by decide) dX12_isStatement_13 ?_
      refine x_icmp_eq h 22 dX12_isStatement_15 (by decide) (fun c15 => ?_) (fun c15 => ?_)
      · have e3 : x = 10 := nI_small 10 hx (by decide) c15
        refine x_ic0 h dX12_isStatement_22 ?_
        exact x_zret h hQ rfl (by decide) dX12_isStatement_23 ⟨rfl, rfl, _, rfl, b2i_f (by simp [isStm, e3]), rfl⟩
      · have e3 : ¬ x = 10 := fun q => c15 (by rw [q])
        refine x_ic1 h dX12_isStatement_18 ?_
        refine x_goto h 23 dX12_isStatement_19 (by decide) ?_
        exact x_zret h hQ rfl (by decide) dX12_isStatement_23 ⟨rfl, rfl, _, rfl, b2i_t (by simp [isStm, e1, e2, e3]), rfl⟩
theorem c_X12_valueOf {Γ : GT} {G : GG} {M : MM} {s v : Nat} (hs : s < 2 ^ 31) (hv : v < 3) : Calls Γ q_X12_valueOf [.int (nI s), .int (nI v)] G M (rI (fun y M' => y = nI (valS s v) ∧ M' = M)) := by
  refine Calls.intro (by decide +kernel) (Nat.le_of_ble_eq_true rfl) (fun z E h hQ => ?_)
  refine x_loc (L' := [some (.int (nI s)), some (.int (nI v))]) rfl ?_
  refine x_iload_n h dX12_valueOf_0 rfl ?_
  refine x_if_ne h 11 dX12_valueOf_1 (by decide) (fun c1 => ?_) (fun c1 => ?_)
  · have e1 : ¬ v = 0 := fun q => c1 (by rw [q]; exact nI_0)
    refine x_iload_n h dX12_valueOf_11 rfl ?_
    refine x_in1 h dX12_valueOf_12 ?_
    refine x_icmp_ne h 26 dX12_valueOf_13 (by decide) (fun c13 => ?_) (fun c13 => ?_)
    · have e2 : ¬ v = 1 := fun q => c13 (by rw [q])
      refine x_iload_n h dX12_valueOf_26 rfl ?_
      refine x_bipush h (nI 6) (by decide) dX12_valueOf_27 ?_
      refine x_iremn h ⟨hs, by decide, by decide⟩ dX12_valueOf_29 ?_
      exact x_iret h hQ rfl dX12_valueOf_30 ⟨rfl, rfl, _, rfl, by rw [valS, if_neg e1, if_neg e2], rfl⟩
    · have e2 : v = 1 := nI_small 1 (by omega) (by decide) c13
      refine x_iload_n h dX12_valueOf_16 rfl ?_
      refine x_bipush h (nI 6) (by decide) dX12_valueOf_17 ?_
      refine x_idivn h ⟨hs, by decide, by decide⟩ dX12_valueOf_19 ?_
      refine x_bipush h (nI 6) (by decide) dX12_valueOf_20 ?_
      refine x_iremn h ⟨by omega, by decide, by decide⟩ dX12_valueOf_22 ?_
      refine x_goto h 30 dX12_valueOf_23 (by decide) ?_
      exact x_iret h hQ rfl dX12_valueOf_30 ⟨rfl, rfl, _, rfl, by rw [valS, if_neg e1, if_pos e2], rfl⟩
  · have e1 : v = 0 := nI_small 0 (by omega) (by decide) (c1.trans nI_0.symm)
    refine x_iload_n h dX12_valueOf_4 rfl ?_
    refine x_bipush h (nI 36) (by decide) dX12_valueOf_5 ?_
    refine x_idivn h ⟨hs, by decide, by decide⟩ dX12_valueOf_7 ?_
    refine x_goto h 30 dX12_valueOf_8 (by decide) ?_
    exact x_iret h hQ rfl dX12_valueOf_30 ⟨rfl, rfl, _, rfl, by rw [valS, if_pos e1], rfl⟩
def wth (s v x : Nat) : Nat := s - valS s v * sgS v + x * sgS v
theorem val_sg {s v : Nat} (hs : s < 216) : valS s v * sgS v ≤ s := by
  unfold valS sgS
  split
  · omega
  · split <;> omega
theorem val_lt {s v : Nat} (hs : s < 216) : valS s v < 6 := by
  unfold valS
  split
  · omega
  · split <;> omega
theorem wth_lt {s v x : Nat} (hs : s < 216) (hx : x < 6) : wth s v x < 216 := by
  unfold wth valS sgS
  split
  · omega
  · split <;> omega
theorem wth_i {s y p x : Nat} (h : y * p ≤ s) : nI s + (nI x - nI y) * nI p = nI (s - y * p + x * p) := by
  have e : nI s = nI (s - y * p) + nI y * nI p := by rw [pk_mul, nI_add, Nat.sub_add_cancel h]
  rw [e, ← nI_add, ← pk_mul x p, Int32.sub_mul, Int32.add_assoc]
  congr 1
  rw [Int32.sub_eq_add_neg, Int32.add_comm (nI x * nI p), ← Int32.add_assoc, Int32.add_right_neg, Int32.zero_add]
theorem c_X12_with {Γ : GT} {G : GG} {M : MM} {s v x : Nat} (hs : s < 216) (hv : v < 3) : Calls Γ q_X12_with [.int (nI s), .int (nI v), .int (nI x)] G M (rI (fun y M' => y = nI (wth s v x) ∧ M' = M)) := by
  refine Calls.intro (by decide +kernel) (Nat.le_of_ble_eq_true rfl) (fun z E h hQ => ?_)
  refine x_loc (L' := [some (.int (nI s)), some (.int (nI v)), some (.int (nI x)), none]) rfl ?_
  refine x_iload_n h dX12_with_0 rfl ?_
  refine x_if_ne h 9 dX12_with_1 (by decide) (fun c1 => ?_) (fun c1 => ?_)
  · have e1 : ¬ v = 0 := fun q => c1 (by rw [q]; exact nI_0)
    refine x_iload_n h dX12_with_9 rfl ?_
    refine x_in1 h dX12_with_10 ?_
    refine x_icmp_ne h 19 dX12_with_11 (by decide) (fun c11 => ?_) (fun c11 => ?_)
    · have e2 : ¬ v = 1 := fun q => c11 (by rw [q])
      refine x_in1 h dX12_with_19 ?_
      refine x_topi (y := nI (sgS v)) (by rw [sgS, if_neg e1, if_neg e2]) ?_
      refine x_istore_n h dX12_with_20 rfl rfl ?_
      dsimp only [List.set]
      refine x_iload_n h dX12_with_21 rfl ?_
      refine x_iload_n h dX12_with_22 rfl ?_
      refine x_iload_n h dX12_with_23 rfl ?_
      refine x_iload_n h dX12_with_24 rfl ?_
      refine x_cSi h ci_X12_valueOf sm_X12_valueOf l_X12_226 ⟨Nat.le_of_ble_eq_true rfl, Nat.le_of_ble_eq_true rfl⟩ ⟨rfl, rfl⟩ ⟨Nat.zero_le _, Nat.zero_le _⟩ (c_X12_valueOf (by omega) hv) rfl rfl rfl rfl dX12_with_25 (fun v25 M25 hp25 => ?_)
      obtain ⟨rfl, hM⟩ := hp25
      obtain rfl := hM.symm
      clear hM
      refine x_isub h dX12_with_28 ?_
      refine x_iload_n h dX12_with_29 rfl ?_
      refine x_imul h dX12_with_30 ?_
      refine x_iadd h dX12_with_31 ?_
      exact x_iret h hQ rfl dX12_with_32 ⟨rfl, rfl, _, rfl, wth_i (val_sg hs), rfl⟩
    · have e2 : v = 1 := nI_small 1 (by omega) (by decide) c11
      refine x_bipush h (nI 6) (by decide) dX12_with_14 ?_
      refine x_goto h 20 dX12_with_16 (by decide) ?_
      refine x_topi (y := nI (sgS v)) (by rw [sgS, if_neg e1, if_pos e2]) ?_
      refine x_istore_n h dX12_with_20 rfl rfl ?_
      dsimp only [List.set]
      refine x_iload_n h dX12_with_21 rfl ?_
      refine x_iload_n h dX12_with_22 rfl ?_
      refine x_iload_n h dX12_with_23 rfl ?_
      refine x_iload_n h dX12_with_24 rfl ?_
      refine x_cSi h ci_X12_valueOf sm_X12_valueOf l_X12_226 ⟨Nat.le_of_ble_eq_true rfl, Nat.le_of_ble_eq_true rfl⟩ ⟨rfl, rfl⟩ ⟨Nat.zero_le _, Nat.zero_le _⟩ (c_X12_valueOf (by omega) hv) rfl rfl rfl rfl dX12_with_25 (fun v25 M25 hp25 => ?_)
      obtain ⟨rfl, hM⟩ := hp25
      obtain rfl := hM.symm
      clear hM
      refine x_isub h dX12_with_28 ?_
      refine x_iload_n h dX12_with_29 rfl ?_
      refine x_imul h dX12_with_30 ?_
      refine x_iadd h dX12_with_31 ?_
      exact x_iret h hQ rfl dX12_with_32 ⟨rfl, rfl, _, rfl, wth_i (val_sg hs), rfl⟩
  · have e1 : v = 0 := nI_small 0 (by omega) (by decide) (c1.trans nI_0.symm)
    refine x_bipush h (nI 36) (by decide) dX12_with_4 ?_
    refine x_goto h 20 dX12_with_6 (by decide) ?_
    refine x_topi (y := nI (sgS v)) (by rw [sgS, if_pos e1]) ?_
    refine x_istore_n h dX12_with_20 rfl rfl ?_
    dsimp only [List.set]
    refine x_iload_n h dX12_with_21 rfl ?_
    refine x_iload_n h dX12_with_22 rfl ?_
    refine x_iload_n h dX12_with_23 rfl ?_
    refine x_iload_n h dX12_with_24 rfl ?_
    refine x_cSi h ci_X12_valueOf sm_X12_valueOf l_X12_226 ⟨Nat.le_of_ble_eq_true rfl, Nat.le_of_ble_eq_true rfl⟩ ⟨rfl, rfl⟩ ⟨Nat.zero_le _, Nat.zero_le _⟩ (c_X12_valueOf (by omega) hv) rfl rfl rfl rfl dX12_with_25 (fun v25 M25 hp25 => ?_)
    obtain ⟨rfl, hM⟩ := hp25
    obtain rfl := hM.symm
    clear hM
    refine x_isub h dX12_with_28 ?_
    refine x_iload_n h dX12_with_29 rfl ?_
    refine x_imul h dX12_with_30 ?_
    refine x_iadd h dX12_with_31 ?_
    exact x_iret h hQ rfl dX12_with_32 ⟨rfl, rfl, _, rfl, wth_i (val_sg hs), rfl⟩
theorem c_X12_told {Γ : GT} {G : GG} {M : MM} {s : Nat} (hs : s < 216) : Calls Γ q_X12_told [.int (nI s)] G M (rI (fun y M' => y = nI (told s) ∧ M' = M)) := by
  refine Calls.intro (by decide +kernel) (Nat.le_of_ble_eq_true rfl) (fun z E h hQ => ?_)
  refine x_loc (L' := [some (.int (nI s))]) rfl ?_
  refine x_bipush h (nI 100) (by decide) dX12_told_0 ?_
  refine x_iload_n h dX12_told_2 rfl ?_
  refine x_bipush h (nI 36) (by decide) dX12_told_3 ?_
  refine x_idivn h ⟨by omega, by decide, by decide⟩ dX12_told_5 ?_
  refine x_imuln h  dX12_told_6 ?_
  refine x_bipush h (nI 10) (by decide) dX12_told_7 ?_
  refine x_iload_n h dX12_told_9 rfl ?_
  refine x_bipush h (nI 6) (by decide) dX12_told_10 ?_
  refine x_idivn h ⟨by omega, by decide, by decide⟩ dX12_told_12 ?_
  refine x_bipush h (nI 6) (by decide) dX12_told_13 ?_
  refine x_iremn h ⟨by omega, by decide, by decide⟩ dX12_told_15 ?_
  refine x_imuln h  dX12_told_16 ?_
  refine x_iaddn h  dX12_told_17 ?_
  refine x_iload_n h dX12_told_18 rfl ?_
  refine x_bipush h (nI 6) (by decide) dX12_told_19 ?_
  refine x_iremn h ⟨by omega, by decide, by decide⟩ dX12_told_21 ?_
  refine x_iaddn h  dX12_told_22 ?_
  exact x_iret h hQ rfl dX12_told_23 ⟨rfl, rfl, _, rfl, rfl, rfl⟩
theorem val_pk (s v : Nat) : valS s v = pkv v (s / 36) (s / 6 % 6) (s % 6) := rfl
theorem c_X12_termBy {Γ : GT} {G : GG} {M : MM} {s t : Nat} (hs : s < 216) (ht : t < 9) : Calls Γ q_X12_termBy [.int (nI s), .int (nI t)] G M (rI (fun y M' => y = nI (trmV t (s / 36) (s / 6 % 6) (s % 6)) ∧ M' = M)) := by
  refine Calls.intro (by decide +kernel) (Nat.le_of_ble_eq_true rfl) (fun z E h hQ => ?_)
  refine x_loc (L' := [some (.int (nI s)), some (.int (nI t))]) rfl ?_
  refine x_iload_n h dX12_termBy_0 rfl ?_
  refine x_bipush h (nI 6) (by decide) dX12_termBy_1 ?_
  refine x_icmp_ge h 10 dX12_termBy_3 (by decide) (fun c3 => ?_) (fun c3 => ?_)
  · have e := (nI_le_iff (by decide) (by omega)).mp c3
    refine x_iload_n h dX12_termBy_10 rfl ?_
    refine x_iload_n h dX12_termBy_11 rfl ?_
    refine x_bipush h (nI 6) (by decide) dX12_termBy_12 ?_
    refine x_isubn h e dX12_termBy_14 ?_
    refine x_cSi h ci_X12_valueOf sm_X12_valueOf l_X12_226 ⟨Nat.le_of_ble_eq_true rfl, Nat.le_of_ble_eq_true rfl⟩ ⟨rfl, rfl⟩ ⟨Nat.zero_le _, Nat.zero_le _⟩ (c_X12_valueOf (by omega) (by omega)) rfl rfl rfl rfl dX12_termBy_15 (fun v15 M15 hp15 => ?_)
    obtain ⟨rfl, hM⟩ := hp15
    obtain rfl := hM.symm
    clear hM
    exact x_iret h hQ rfl dX12_termBy_18 ⟨rfl, rfl, _, rfl, by rw [trmV, if_neg (by omega)]; rfl, rfl⟩
  · have e := mt (nI_le_iff (a := 6) (b := t) (by decide) (by omega)).mpr c3
    refine x_iload_n h dX12_termBy_6 rfl ?_
    refine x_goto h 18 dX12_termBy_7 (by decide) ?_
    exact x_iret h hQ rfl dX12_termBy_18 ⟨rfl, rfl, _, rfl, by rw [trmV, if_pos (by omega)], rfl⟩
theorem c_X12_compares {Γ : GT} {G : GG} {M : MM} {s : Nat} {k : CND} (hs : s < 216) (ok : cndOk k) : Calls Γ q_X12_compares [.int (nI s), .int (nI k.1), .int (nI k.2.1), .int (nI k.2.2)] G M (rI (fun y M' => y = b2i (cndT k s) ∧ M' = M)) := by
  obtain ⟨o1, o2, o3⟩ := ok
  obtain ⟨kv, ks, kt⟩ := k
  dsimp only at o1 o2 o3 ⊢
  refine Calls.intro (by decide +kernel) (Nat.le_of_ble_eq_true rfl) (fun z E h hQ => ?_)
  refine x_loc (L' := [some (.int (nI s)), some (.int (nI kv)), some (.int (nI ks)), some (.int (nI kt)), none, none]) rfl ?_
  refine x_iload_n h dX12_compares_0 rfl ?_
  refine x_iload_n h dX12_compares_1 rfl ?_
  refine x_cSi h ci_X12_valueOf sm_X12_valueOf l_X12_226 ⟨Nat.le_of_ble_eq_true rfl, Nat.le_of_ble_eq_true rfl⟩ ⟨rfl, rfl⟩ ⟨Nat.zero_le _, Nat.zero_le _⟩ (c_X12_valueOf (by omega) o1) rfl rfl rfl rfl dX12_compares_2 (fun v2 M2 hp2 => ?_)
  obtain ⟨rfl, hM⟩ := hp2
  obtain rfl := hM.symm
  clear hM
  refine x_istore h dX12_compares_5 rfl rfl ?_
  dsimp only [List.set]
  refine x_iload_n h dX12_compares_7 rfl ?_
  refine x_iload_n h dX12_compares_8 rfl ?_
  refine x_cSi h ci_X12_termBy sm_X12_termBy l_X12_229 ⟨Nat.le_of_ble_eq_true rfl, Nat.le_of_ble_eq_true rfl⟩ ⟨rfl, rfl⟩ ⟨Nat.zero_le _, Nat.zero_le _⟩ (c_X12_termBy hs o3) rfl rfl rfl rfl dX12_compares_9 (fun v9 M9 hp9 => ?_)
  obtain ⟨rfl, hM⟩ := hp9
  obtain rfl := hM.symm
  clear hM
  have hx : valS s kv < 2 ^ 31 := Nat.lt_trans (val_lt hs) (by decide)
  have hy : trmV kt (s / 36) (s / 6 % 6) (s % 6) < 2 ^ 31 := Nat.lt_trans (trm_lt o3 (by omega) (by omega) (by omega)) (by decide)
  refine x_istore h dX12_compares_12 rfl rfl ?_
  dsimp only [List.set]
  refine x_iload_n h dX12_compares_14 rfl ?_
  rcases o2 with rfl | rfl | rfl | rfl
  · refine x_tin h 40 dX12_compares_15 (by decide) (by decide) (off := 25) (by decide) (by decide) ?_
    refine x_iload h dX12_compares_40 rfl ?_
    refine x_iload h dX12_compares_42 rfl ?_
    refine x_icmp_ge h 51 dX12_compares_44 (by decide) (fun c44 => ?_) (fun c44 => ?_)
    · have e := (nI_le_iff hy hx).mp c44
      refine x_ic0 h dX12_compares_51 ?_
      exact x_zret h hQ rfl (by decide) dX12_compares_52 ⟨rfl, rfl, _, rfl, b2i_f (by rw [val_pk] at e; simp [cndT, cndV, cmpS]; omega), rfl⟩
    · have e := mt (nI_le_iff hy hx).mpr c44
      refine x_ic1 h dX12_compares_47 ?_
      refine x_goto h 52 dX12_compares_48 (by decide) ?_
      exact x_zret h hQ rfl (by decide) dX12_compares_52 ⟨rfl, rfl, _, rfl, b2i_t (by rw [val_pk] at e; simp [cndT, cndV, cmpS]; omega), rfl⟩
  · refine x_tin h 53 dX12_compares_15 (by decide) (by decide) (off := 38) (by decide) (by decide) ?_
    refine x_iload h dX12_compares_53 rfl ?_
    refine x_iload h dX12_compares_55 rfl ?_
    refine x_icmp_ne h 64 dX12_compares_57 (by decide) (fun c57 => ?_) (fun c57 => ?_)
    · have e := mt (nI_eq_iff hx hy).mpr c57
      refine x_ic0 h dX12_compares_64 ?_
      exact x_zret h hQ rfl (by decide) dX12_compares_65 ⟨rfl, rfl, _, rfl, b2i_f (by rw [val_pk] at e; simp [cndT, cndV, cmpS]; omega), rfl⟩
    · have e := (nI_eq_iff hx hy).mp c57
      refine x_ic1 h dX12_compares_60 ?_
      refine x_goto h 65 dX12_compares_61 (by decide) ?_
      exact x_zret h hQ rfl (by decide) dX12_compares_65 ⟨rfl, rfl, _, rfl, b2i_t (by rw [val_pk] at e; simp [cndT, cndV, cmpS]; omega), rfl⟩
  · refine x_tin h 66 dX12_compares_15 (by decide) (by decide) (off := 51) (by decide) (by decide) ?_
    refine x_iload h dX12_compares_66 rfl ?_
    refine x_iload h dX12_compares_68 rfl ?_
    refine x_icmp_le h 77 dX12_compares_70 (by decide) (fun c70 => ?_) (fun c70 => ?_)
    · have e := (nI_le_iff hx hy).mp c70
      refine x_ic0 h dX12_compares_77 ?_
      exact x_zret h hQ rfl (by decide) dX12_compares_78 ⟨rfl, rfl, _, rfl, b2i_f (by rw [val_pk] at e; simp [cndT, cndV, cmpS]; omega), rfl⟩
    · have e := mt (nI_le_iff hx hy).mpr c70
      refine x_ic1 h dX12_compares_73 ?_
      refine x_goto h 78 dX12_compares_74 (by decide) ?_
      exact x_zret h hQ rfl (by decide) dX12_compares_78 ⟨rfl, rfl, _, rfl, b2i_t (by rw [val_pk] at e; simp [cndT, cndV, cmpS]; omega), rfl⟩
  · refine x_tout h 79 dX12_compares_15 (by decide) (by decide) ?_
    refine x_iload h dX12_compares_79 rfl ?_
    refine x_iload h dX12_compares_81 rfl ?_
    refine x_icmp_eq h 90 dX12_compares_83 (by decide) (fun c83 => ?_) (fun c83 => ?_)
    · have e := (nI_eq_iff hx hy).mp c83
      refine x_ic0 h dX12_compares_90 ?_
      exact x_zret h hQ rfl (by decide) dX12_compares_91 ⟨rfl, rfl, _, rfl, b2i_f (by rw [val_pk] at e; simp [cndT, cndV, cmpS]; omega), rfl⟩
    · have e := mt (nI_eq_iff hx hy).mpr c83
      refine x_ic1 h dX12_compares_86 ?_
      refine x_goto h 91 dX12_compares_87 (by decide) ?_
      exact x_zret h hQ rfl (by decide) dX12_compares_91 ⟨rfl, rfl, _, rfl, b2i_t (by rw [val_pk] at e; simp [cndT, cndV, cmpS]; omega), rfl⟩
