/-! ===== States: counts, first states, single states ===== -/
theorem enN_ct (S : ST) (o : Nat) : fb_ct (fun j => (enN S o 36).testBit j) 64 = fb_ct (fun j => S (o + j)) 36 := by
  rw [show (64 : Nat) = 36 + 28 from rfl, fb_ct_split]
  have h1 : fb_ct (fun k => (enN S o 36).testBit (36 + k)) 28 = 0 := fb_ct_zero.mpr (fun k _ => by rw [enN_bit]; simp [show ¬ (36 + k < 36) by omega])
  rw [h1, Nat.add_zero]
  exact fb_ct_cong (fun k hk => by rw [enN_bit]; simp [hk])
theorem ct_plane (S : ST) (i : Nat) : fb_ct S (36 * i) + fb_ct (fun j => S (36 * i + j)) 36 = fb_ct S (36 * (i + 1)) := by
  rw [show 36 * (i + 1) = 36 * i + 36 by omega, fb_ct_split]
/-- a state as its three digits -/
def told (s : Nat) : Nat := 100 * (s / 36) + 10 * (s / 6 % 6) + s % 6
/-- the first state of a set, or NONE -/
def fstV (S : ST) : Int32 := if fa_first S 216 < 216 then nI (told (fa_first S 216)) else -9
theorem first_is {S : ST} {s : Nat} (hs : s < 216) (h : S s = true) (hn : ∀ k, k < s → S k = false) : fa_first S 216 = s := by
  have h1 := fa_first_le S 216
  have h2 := fa_first_no S 216
  have h3 := fa_first_yes S 216
  rcases Nat.lt_trichotomy (fa_first S 216) s with q | q | q
  · have := h3 (by omega)
    rw [hn _ q] at this
    cases this
  · exact q
  · have := h2 s q
    rw [h] at this
    cases this
theorem first_none {S : ST} (hn : ∀ k, k < 216 → S k = false) : ¬ fa_first S 216 < 216 := by
  intro q
  have := fa_first_yes S 216 q
  rw [hn _ q] at this
  cases this
theorem plane_low {S : ST} {k : Nat} (h : ¬ encF S k = 0) : ∃ t, t < 36 ∧ S (36 * k + t) = true ∧ (∀ j, j < t → S (36 * k + j) = false) ∧ lowb (enN S (36 * k) 36) t := by
  have h1 : ∃ t, t < 36 ∧ S (36 * k + t) = true := by
    refine Classical.byContradiction (fun q => h (encF_zero.mpr (fun s hs => ?_)))
    cases hS : S s with
    | false => rfl
    | true => exact absurd ⟨s % 36, Nat.mod_lt _ (by decide), by rw [show 36 * k + s % 36 = s by omega]; exact hS⟩ q
  obtain ⟨t, h2, h3, h4⟩ := fb_first (p := fun t => S (36 * k + t) = true) h1
  refine ⟨t, h2, h3, fun j hj => by cases hS : S (36 * k + j) with | false => rfl | true => exact absurd hS (h4 j hj), ?_⟩
  unfold lowb
  refine Nat.eq_of_testBit_eq (fun i => ?_)
  rw [Nat.testBit_mod_two_pow, enN_bit, Nat.testBit_two_pow]
  by_cases hi : i = t
  · subst hi; simp [h2, h3]
  · by_cases hl : i < t
    · have : S (36 * k + i) = false := by cases hS : S (36 * k + i) with | false => rfl | true => exact absurd hS (h4 i hl)
      simp [this, Ne.symm hi]
    · simp [show ¬ i < t + 1 by omega, Ne.symm hi]
theorem enN_lt64 (S : ST) (o : Nat) : enN S o 36 < 2 ^ 64 := Nat.lt_trans (enN_lt S o 36) (Nat.lt_of_lt_of_le (Nat.pow_lt_pow_right (by decide) (by decide : 36 < 64)) (Nat.le_refl _))

theorem c_X9_count {Γ : GT} {G : GG} {M : MM} {a : Nat} {S : ST} (hS : isS G M.2.2 a) (eS : hasS M a S) : Calls Γ q_X9_count [.ref a] G M (rI (fun v M' => v = nI (fb_ct S 216) ∧ M' = M)) := by
  obtain ⟨g0, r0, g1⟩ := hS
  refine Calls.intro (by decide +kernel) (Nat.le_of_ble_eq_true rfl) (fun z E h hQ => ?_)
  have loop : ∀ i, i ≤ 6 → X Γ E 0 0 G z M 4 [some (.ref a), some (.int (nI (fb_ct S (36 * i)))), some (.int (nI i))] [] := by
    refine upto 6 (fun i hi ih => ?_)
    refine x_iload_n h dX9_count_4 rfl ?_
    refine x_bipush h (nI 6) (by decide) dX9_count_5 ?_
    refine x_icmp_ge h 28 dX9_count_7 (by decide) (fun c7 => ?_) (fun c7 => ?_)
    · obtain rfl : i = 6 := up_ge (by decide) hi c7
      refine x_iload_n h dX9_count_28 rfl ?_
      exact x_iret h hQ rfl dX9_count_29 ⟨rfl, rfl, _, rfl, rfl, rfl⟩
    · have hlt : i < 6 := up_lt (by decide) hi c7
      refine x_iload_n h dX9_count_10 rfl ?_
      refine x_aload_n h dX9_count_11 rfl ?_
      refine x_getR h g0 f_X9_9 rfl r0 dX9_count_12 ?_
      refine x_iload_n h dX9_count_15 rfl ?_
      refine x_laldv h i g1 (ix.ni hlt (by decide)) (eS i hlt) dX9_count_16 ?_
      refine x_cSi h ci_J13_bitCount sm_J13_bitCount l_X9_26 ⟨Nat.le_of_ble_eq_true rfl, Nat.le_of_ble_eq_true rfl⟩ ⟨rfl, rfl⟩ ⟨Nat.zero_le _, Nat.zero_le _⟩ (c_J13_bitCount (enN_lt64 S (36 * i))) rfl rfl rfl rfl dX9_count_17 (fun v17 M17 hp17 => ?_)
      obtain ⟨rfl, rfl⟩ := hp17
      refine x_iaddn h  dX9_count_20 ?_
      refine x_topi (y := nI (fb_ct S (36 * (i + 1)))) (congrArg nI (by rw [enN_ct]; exact ct_plane S i)) ?_
      refine x_istore_n h dX9_count_21 rfl rfl ?_
      refine x_incn h dX9_count_22 rfl rfl rfl ?_
      refine x_goto h 4 dX9_count_25 (by decide) ?_
      exact ih hlt
  refine x_in0 h dX9_count_0 ?_
  refine x_istore_n h dX9_count_1 rfl rfl ?_
  refine x_in0 h dX9_count_2 ?_
  refine x_istore_n h dX9_count_3 rfl rfl ?_
  exact loop 0 (by decide)
theorem c_X9_number {Γ : GT} {G : GG} {M : MM} {x m t : Nat} (hl : lowb m t) (ht : t < 36) (hm : m < 2 ^ 64) : Calls Γ q_X9_number [.int (nI x), .long (lN m)] G M (rI (fun v M' => v = nI (100 * x + 10 * (t / 6) + t % 6) ∧ M' = M)) := by
  refine Calls.intro (by decide +kernel) (Nat.le_of_ble_eq_true rfl) (fun z E h hQ => ?_)
  refine x_lload_n h dX9_number_0 rfl ?_
  refine x_cSi h ci_J13_numberOfTrailingZeros sm_J13_numberOfTrailingZeros l_X9_36 ⟨Nat.le_of_ble_eq_true rfl, Nat.le_of_ble_eq_true rfl⟩ ⟨rfl, rfl⟩ ⟨Nat.zero_le _, Nat.zero_le _⟩ (c_J13_ntz hl (by omega) hm) rfl rfl rfl rfl dX9_number_1 (fun v1 M1 hp1 => ?_)
  obtain ⟨rfl, rfl⟩ := hp1
  refine x_istore_n h dX9_number_4 rfl rfl ?_
  refine x_bipush h (nI 100) (by decide) dX9_number_5 ?_
  refine x_iload_n h dX9_number_7 rfl ?_
  refine x_imuln h  dX9_number_8 ?_
  refine x_bipush h (nI 10) (by decide) dX9_number_9 ?_
  refine x_iload_n h dX9_number_11 rfl ?_
  refine x_bipush h (nI 6) (by decide) dX9_number_12 ?_
  refine x_idivn h ⟨by omega, by decide, by decide⟩ dX9_number_14 ?_
  refine x_imuln h  dX9_number_15 ?_
  refine x_iaddn h  dX9_number_16 ?_
  refine x_iload_n h dX9_number_17 rfl ?_
  refine x_bipush h (nI 6) (by decide) dX9_number_18 ?_
  refine x_iremn h ⟨by omega, by decide, by decide⟩ dX9_number_20 ?_
  refine x_iaddn h  dX9_number_21 ?_
  exact x_iret h hQ rfl dX9_number_22 ⟨rfl, rfl, _, rfl, rfl, rfl⟩
theorem c_X9_smallest {Γ : GT} {G : GG} {M : MM} {a : Nat} {S : ST} (hS : isS G M.2.2 a) (eS : hasS M a S) : Calls Γ q_X9_smallest [.ref a] G M (rI (fun v M' => v = fstV S ∧ M' = M)) := by
  obtain ⟨g0, r0, g1⟩ := hS
  refine Calls.intro (by decide +kernel) (Nat.le_of_ble_eq_true rfl) (fun z E h hQ => ?_)
  have loop : ∀ i, i ≤ 6 → (∀ k, k < 36 * i → S k = false) → X Γ E 0 0 G z M 2 [some (.ref a), some (.int (nI i))] [] := by
    refine upto 6 (fun i hi ih hn => ?_)
    refine x_iload_n h dX9_smallest_2 rfl ?_
    refine x_bipush h (nI 6) (by decide) dX9_smallest_3 ?_
    refine x_icmp_ge h 36 dX9_smallest_5 (by decide) (fun c5 => ?_) (fun c5 => ?_)
    · obtain rfl : i = 6 := up_ge (by decide) hi c5
      refine x_bipush h (-9) (by decide) dX9_smallest_36 ?_
      exact x_iret h hQ rfl dX9_smallest_38 ⟨rfl, rfl, _, rfl, by rw [fstV, if_neg (first_none hn)], rfl⟩
    · have hlt : i < 6 := up_lt (by decide) hi c5
      refine x_aload_n h dX9_smallest_8 rfl ?_
      refine x_getR h g0 f_X9_9 rfl r0 dX9_smallest_9 ?_
      refine x_iload_n h dX9_smallest_12 rfl ?_
      refine x_laldv h i g1 (ix.ni hlt (by decide)) (eS i hlt) dX9_smallest_13 ?_
      refine x_lc0 h dX9_smallest_14 ?_
      refine x_lcmp h dX9_smallest_15 ?_
      refine x_if_eq h 30 dX9_smallest_16 (by decide) (fun c16 => ?_) (fun c16 => ?_)
      · refine x_incn h dX9_smallest_30 rfl rfl rfl ?_
        refine x_goto h 2 dX9_smallest_33 (by decide) ?_
        refine ih hlt (fun k hk => ?_)
        rcases Nat.lt_or_ge k (36 * i) with q | q
        · exact hn k q
        · exact encF_zero.mp ((lg_cmp_eq _ _).mp c16) k (by omega)
      · obtain ⟨t, ht, h1, h2, hl⟩ := plane_low (fun q => c16 ((lg_cmp_eq _ _).mpr q))
        have hf := first_is (S := S) (s := 36 * i + t) (by omega) h1 (fun k hk => by
          rcases Nat.lt_or_ge k (36 * i) with q | q
          · exact hn k q
          · rw [show k = 36 * i + (k - 36 * i) by omega]
            exact h2 _ (by omega))
        refine x_iload_n h dX9_smallest_19 rfl ?_
        refine x_aload_n h dX9_smallest_20 rfl ?_
        refine x_getR h g0 f_X9_9 rfl r0 dX9_smallest_21 ?_
        refine x_iload_n h dX9_smallest_24 rfl ?_
        refine x_laldv h i g1 (ix.ni hlt (by decide)) (eS i hlt) dX9_smallest_25 ?_
        refine x_cSi h ci_X9_number sm_X9_number l_X9_32 ⟨Nat.le_of_ble_eq_true rfl, Nat.le_of_ble_eq_true rfl⟩ ⟨rfl, rfl⟩ ⟨Nat.zero_le _, Nat.zero_le _⟩ (c_X9_number (x := i) hl ht (enN_lt64 S (36 * i))) rfl rfl rfl rfl dX9_smallest_26 (fun v26 M26 hp26 => ?_)
        obtain ⟨rfl, rfl⟩ := hp26
        exact x_iret h hQ rfl dX9_smallest_29 ⟨rfl, rfl, _, rfl, by rw [fstV, hf, if_pos (by omega), told]; exact congrArg nI (by omega), rfl⟩
  refine x_in0 h dX9_smallest_0 ?_
  refine x_istore_n h dX9_smallest_1 rfl rfl ?_
  exact loop 0 (by decide) (fun k hk => absurd hk (by omega))
theorem c_X9_smallestOutside {Γ : GT} {G : GG} {M : MM} {a b : Nat} {S T : ST} (hS : isS G M.2.2 a) (eS : hasS M a S) (hT : isS G M.2.2 b) (eT : hasS M b T) : Calls Γ q_X9_smallestOutside [.ref a, .ref b] G M (rI (fun v M' => v = fstV (fun s => S s && !T s) ∧ M' = M)) := by
  obtain ⟨g0, r0, g1⟩ := hS
  obtain ⟨g2, r2, g3⟩ := hT
  refine Calls.intro (by decide +kernel) (Nat.le_of_ble_eq_true rfl) (fun z E h hQ => ?_)
  have loop : ∀ i, i ≤ 6 → (∀ k, k < 36 * i → (S k && !T k) = false) → ∀ w, X Γ E 0 0 G z M 2 [some (.ref a), some (.ref b), some (.int (nI i)), w, none] [] := by
    refine upto 6 (fun i hi ih hn w => ?_)
    refine x_iload_n h dX9_smallestOutside_2 rfl ?_
    refine x_bipush h (nI 6) (by decide) dX9_smallestOutside_3 ?_
    refine x_icmp_ge h 44 dX9_smallestOutside_5 (by decide) (fun c5 => ?_) (fun c5 => ?_)
    · obtain rfl : i = 6 := up_ge (by decide) hi c5
      refine x_bipush h (-9) (by decide) dX9_smallestOutside_44 ?_
      exact x_iret h hQ rfl dX9_smallestOutside_46 ⟨rfl, rfl, _, rfl, by rw [fstV, if_neg (first_none hn)], rfl⟩
    · have hlt : i < 6 := up_lt (by decide) hi c5
      refine x_aload_n h dX9_smallestOutside_8 rfl ?_
      refine x_getR h g0 f_X9_9 rfl r0 dX9_smallestOutside_9 ?_
      refine x_iload_n h dX9_smallestOutside_12 rfl ?_
      refine x_laldv h i g1 (ix.ni hlt (by decide)) (eS i hlt) dX9_smallestOutside_13 ?_
      refine x_aload_n h dX9_smallestOutside_14 rfl ?_
      refine x_getR h g2 f_X9_9 rfl r2 dX9_smallestOutside_15 ?_
      refine x_iload_n h dX9_smallestOutside_18 rfl ?_
      refine x_laldv h i g3 (ix.ni hlt (by decide)) (eT i hlt) dX9_smallestOutside_19 ?_
      refine x_ldc2 h kl_X9_24 dX9_smallestOutside_20 ?_
      refine x_lxor h dX9_smallestOutside_23 ?_
      refine x_land h dX9_smallestOutside_24 ?_
      refine x_topl (encF_diff S T i) ?_
      refine x_lstore_n h dX9_smallestOutside_25 rfl rfl ?_
      refine x_lload_n h dX9_smallestOutside_26 rfl ?_
      refine x_lc0 h dX9_smallestOutside_27 ?_
      refine x_lcmp h dX9_smallestOutside_28 ?_
      refine x_if_eq h 38 dX9_smallestOutside_29 (by decide) (fun c29 => ?_) (fun c29 => ?_)
      · refine x_incn h dX9_smallestOutside_38 rfl rfl rfl ?_
        refine x_goto h 2 dX9_smallestOutside_41 (by decide) ?_
        refine ih hlt (fun k hk => ?_) _
        rcases Nat.lt_or_ge k (36 * i) with q | q
        · exact hn k q
        · exact encF_zero.mp ((lg_cmp_eq _ _).mp c29) k (by omega)
      · obtain ⟨t, ht, h1, h2, hl⟩ := plane_low (fun q => c29 ((lg_cmp_eq _ _).mpr q))
        have hf := first_is (S := fun s => S s && !T s) (s := 36 * i + t) (by omega) h1 (fun k hk => by
          rcases Nat.lt_or_ge k (36 * i) with q | q
          · exact hn k q
          · rw [show k = 36 * i + (k - 36 * i) by omega]
            exact h2 _ (by omega))
        refine x_iload_n h dX9_smallestOutside_32 rfl ?_
        refine x_lload_n h dX9_smallestOutside_33 rfl ?_
        refine x_cSi h ci_X9_number sm_X9_number l_X9_32 ⟨Nat.le_of_ble_eq_true rfl, Nat.le_of_ble_eq_true rfl⟩ ⟨rfl, rfl⟩ ⟨Nat.zero_le _, Nat.zero_le _⟩ (c_X9_number (x := i) hl ht (enN_lt64 (fun s => S s && !T s) (36 * i))) rfl rfl rfl rfl dX9_smallestOutside_34 (fun v34 M34 hp34 => ?_)
        obtain ⟨rfl, rfl⟩ := hp34
        exact x_iret h hQ rfl dX9_smallestOutside_37 ⟨rfl, rfl, _, rfl, by rw [fstV, hf, if_pos (by omega), told]; exact congrArg nI (by omega), rfl⟩
  refine x_in0 h dX9_smallestOutside_0 ?_
  refine x_istore_n h dX9_smallestOutside_1 rfl rfl ?_
  exact loop 0 (by decide) (fun k hk => absurd hk (by omega)) none
def isSt (x y z : Nat) : Bool := decide (x < 6) && decide (y < 6) && decide (z < 6)
theorem nI_nneg {x : Nat} (h : x < 2 ^ 31) (c : nI x < 0) : False := nI_pos h c
theorem c_X9_isState {Γ : GT} {G : GG} {M : MM} {x y w : Nat} (hx : x < 2 ^ 31) (hy : y < 2 ^ 31) (hw : w < 2 ^ 31) : Calls Γ q_X9_isState [.int (nI x), .int (nI y), .int (nI w)] G M (rI (fun v M' => v = b2i (isSt x y w) ∧ M' = M)) := by
  refine Calls.intro (by decide +kernel) (Nat.le_of_ble_eq_true rfl) (fun z E h hQ => ?_)
  refine x_iload_n h dX9_isState_0 rfl ?_
  refine x_if_lt h 34 dX9_isState_1 (by decide) (fun c1 => ?_) (fun c1 => ?_)
  · exact (nI_nneg hx c1).elim
  · refine x_iload_n h dX9_isState_4 rfl ?_
    refine x_bipush h (nI 6) (by decide) dX9_isState_5 ?_
    refine x_icmp_ge h 34 dX9_isState_7 (by decide) (fun c7 => ?_) (fun c7 => ?_)
    · have c71 := (nI_le_iff (by decide) hx).mp c7
      refine x_ic0 h dX9_isState_34 ?_
      exact x_zret h hQ rfl (by decide) dX9_isState_35 ⟨rfl, rfl, _, rfl, b2i_f (by simp [isSt]; omega), rfl⟩
    · have c71 := mt (nI_le_iff (by decide) hx).mpr c7
      refine x_iload_n h dX9_isState_10 rfl ?_
      refine x_if_lt h 34 dX9_isState_11 (by decide) (fun c11 => ?_) (fun c11 => ?_)
      · exact (nI_nneg hy c11).elim
      · refine x_iload_n h dX9_isState_14 rfl ?_
        refine x_bipush h (nI 6) (by decide) dX9_isState_15 ?_
        refine x_icmp_ge h 34 dX9_isState_17 (by decide) (fun c17 => ?_) (fun c17 => ?_)
        · have c171 := (nI_le_iff (by decide) hy).mp c17
          refine x_ic0 h dX9_isState_34 ?_
          exact x_zret h hQ rfl (by decide) dX9_isState_35 ⟨rfl, rfl, _, rfl, b2i_f (by simp [isSt]; omega), rfl⟩
        · have c171 := mt (nI_le_iff (by decide) hy).mpr c17
          refine x_iload_n h dX9_isState_20 rfl ?_
          refine x_if_lt h 34 dX9_isState_21 (by decide) (fun c21 => ?_) (fun c21 => ?_)
          · exact (nI_nneg hw c21).elim
          · refine x_iload_n h dX9_isState_24 rfl ?_
            refine x_bipush h (nI 6) (by decide) dX9_isState_25 ?_
            refine x_icmp_ge h 34 dX9_isState_27 (by decide) (fun c27 => ?_) (fun c27 => ?_)
            · have c271 := (nI_le_iff (by decide) hw).mp c27
              refine x_ic0 h dX9_isState_34 ?_
              exact x_zret h hQ rfl (by decide) dX9_isState_35 ⟨rfl, rfl, _, rfl, b2i_f (by simp [isSt]; omega), rfl⟩
            · have c271 := mt (nI_le_iff (by decide) hw).mpr c27
              refine x_ic1 h dX9_isState_30 ?_
              refine x_goto h 35 dX9_isState_31 (by decide) ?_
              exact x_zret h hQ rfl (by decide) dX9_isState_35 ⟨rfl, rfl, _, rfl, b2i_t (by simp [isSt]; omega), rfl⟩
theorem encF_test (S : ST) (x : Nat) {j : Nat} (hj : j < 36) : ((encF S x).toUInt64 >>> ((nI j).toInt64.toUInt64 &&& Int64.toUInt64 63)).toInt64 &&& 1 = lN (if S (36 * x + j) then 1 else 0) := by
  unfold encF
  rw [wb_bit (enN_lt64 S _) (by omega)]
  congr 1
  have h1 := enN_bit S (36 * x) 36 j
  rw [Nat.testBit_eq_decide_div_mod_eq] at h1
  have h2 := Nat.mod_two_eq_zero_or_one (enN S (36 * x) 36 / 2 ^ j)
  cases hS : S (36 * x + j) with
  | false =>
    rw [hS] at h1
    simp at h1
    simp
    omega
  | true =>
    rw [hS] at h1
    simp [hj] at h1
    simp
    omega
theorem lN_if {b : Bool} : lN (if b then 1 else 0) = 1 ↔ b = true := by cases b <;> decide
theorem c_X9_has {Γ : GT} {G : GG} {M : MM} {a : Nat} {S : ST} {x y w : Nat} (hS : isS G M.2.2 a) (eS : hasS M a S) (hx : x < 2 ^ 31) (hy : y < 2 ^ 31) (hw : w < 2 ^ 31) : Calls Γ q_X9_has [.ref a, .int (nI x), .int (nI y), .int (nI w)] G M (rI (fun v M' => v = b2i (isSt x y w && S (36 * x + 6 * y + w)) ∧ M' = M)) := by
  obtain ⟨g0, r0, g1⟩ := hS
  refine Calls.intro (by decide +kernel) (Nat.le_of_ble_eq_true rfl) (fun z E h hQ => ?_)
  refine x_iload_n h dX9_has_0 rfl ?_
  refine x_iload_n h dX9_has_1 rfl ?_
  refine x_iload_n h dX9_has_2 rfl ?_
  refine x_cSi h ci_X9_isState sm_X9_isState l_X9_39 ⟨Nat.le_of_ble_eq_true rfl, Nat.le_of_ble_eq_true rfl⟩ ⟨rfl, rfl⟩ ⟨Nat.zero_le _, Nat.zero_le _⟩ (c_X9_isState hx hy hw) rfl rfl rfl rfl dX9_has_3 (fun v3 M3 hp3 => ?_)
  obtain ⟨rfl, rfl⟩ := hp3
  refine x_if_eq h 33 dX9_has_6 (by decide) (fun c6 => ?_) (fun c6 => ?_)
  · have hz := b2i_0.mp c6
    refine x_ic0 h dX9_has_33 ?_
    exact x_zret h hQ rfl (by decide) dX9_has_34 ⟨rfl, rfl, _, rfl, b2i_f (by rw [hz]; rfl), rfl⟩
  · have hz := bool_nf (fun q => c6 (b2i_0.mpr q))
    have hz2 : x < 6 ∧ y < 6 ∧ w < 6 := by simpa [isSt, and_assoc] using hz
    refine x_aload_n h dX9_has_9 rfl ?_
    refine x_getR h g0 f_X9_9 rfl r0 dX9_has_10 ?_
    refine x_iload_n h dX9_has_13 rfl ?_
    refine x_laldv h x g1 (ix.ni hz2.1 (by decide)) (eS x hz2.1) dX9_has_14 ?_
    refine x_bipush h (nI 6) (by decide) dX9_has_15 ?_
    refine x_iload_n h dX9_has_17 rfl ?_
    refine x_imuln h  dX9_has_18 ?_
    refine x_iload_n h dX9_has_19 rfl ?_
    refine x_iaddn h  dX9_has_20 ?_
    refine x_lushr h dX9_has_21 ?_
    refine x_lc1 h dX9_has_22 ?_
    refine x_land h dX9_has_23 ?_
    refine x_topl (encF_test S x (j := 6 * y + w) (by omega)) ?_
    refine x_lc1 h dX9_has_24 ?_
    refine x_lcmp h dX9_has_25 ?_
    refine x_if_ne h 33 dX9_has_26 (by decide) (fun c26 => ?_) (fun c26 => ?_)
    · have h2 : S (36 * x + (6 * y + w)) = false := by
        cases hs : S (36 * x + (6 * y + w)) with
        | false => rfl
        | true => exact absurd ((lg_cmp_eq _ _).mpr (lN_if.mpr hs)) c26
      refine x_ic0 h dX9_has_33 ?_
      exact x_zret h hQ rfl (by decide) dX9_has_34 ⟨rfl, rfl, _, rfl, b2i_f (by rw [hz, Nat.add_assoc, h2]; rfl), rfl⟩
    · have h2 := lN_if.mp ((lg_cmp_eq _ _).mp c26)
      refine x_ic1 h dX9_has_29 ?_
      refine x_goto h 34 dX9_has_30 (by decide) ?_
      exact x_zret h hQ rfl (by decide) dX9_has_34 ⟨rfl, rfl, _, rfl, b2i_t (by rw [hz, Nat.add_assoc, h2]; rfl), rfl⟩
theorem setS_one {M : MM} {a x : Nat} {S T : ST} (hx : x < 6) (e : hasS M a S) (h : ∀ s, s / 36 ≠ x → s < 216 → S s = T s) : sL M (a + 1) x (encF T x) = setS M a T := by
  show (M.1, _, M.2.2) = (M.1, _, M.2.2)
  congr 2
  funext b j
  by_cases hb : b = a + 1
  · subst hb
    by_cases hj : j = x
    · subst hj; simp [up2, hx]
    · by_cases h6 : j < 6
      · simp only [up2, hj, h6, and_false, and_true, if_false, if_true]
        rw [e j h6]
        exact encF_congr (fun s hs => h s (by omega) (by omega))
      · simp [up2, hj, h6]
  · simp [up2, hb]
theorem encF_add (S : ST) (x : Nat) {j : Nat} (hj : j < 36) : encF S x ||| ((1 : Int64) <<< ((nI j).toInt64 &&& 63)) = encF (fun s => S s || decide (s = 36 * x + j)) x := by
  unfold encF
  rw [show (1 : Int64) = lN 1 from rfl, wb_shl 1 (by omega), fb_orL, Nat.one_mul]
  congr 1
  refine enN_eq (fun i => ?_)
  rw [Nat.testBit_or, enN_bit, Nat.testBit_two_pow]
  by_cases hi : j = i
  · subst hi; simp [hj]
  · simp [hi, Ne.symm hi]
theorem c_X9_add {Γ : GT} {G : GG} {M : MM} {a : Nat} {S : ST} {x y w : Nat} (hS : isS G M.2.2 a) (eS : hasS M a S) (hx : x < 6) (hy : y < 6) (hw : w < 6) : Calls Γ q_X9_add [.ref a, .int (nI x), .int (nI y), .int (nI w)] G M (rV (fun M' => M' = setS M a (fun s => S s || decide (s = 36 * x + (6 * y + w))))) := by
  obtain ⟨g0, r0, g1⟩ := hS
  refine Calls.intro (by decide +kernel) (Nat.le_of_ble_eq_true rfl) (fun z E h hQ => ?_)
  refine x_iload_n h dX9_add_0 rfl ?_
  refine x_iload_n h dX9_add_1 rfl ?_
  refine x_iload_n h dX9_add_2 rfl ?_
  refine x_cSi h ci_X9_isState sm_X9_isState l_X9_39 ⟨Nat.le_of_ble_eq_true rfl, Nat.le_of_ble_eq_true rfl⟩ ⟨rfl, rfl⟩ ⟨Nat.zero_le _, Nat.zero_le _⟩ (c_X9_isState (x := x) (y := y) (w := w) (by omega) (by omega) (by omega)) rfl rfl rfl rfl dX9_add_3 (fun v3 M3 hp3 => ?_)
  obtain ⟨rfl, rfl⟩ := hp3
  refine x_if_eq h 26 dX9_add_6 (by decide) (fun c6 => ?_) (fun c6 => ?_)
  · exact absurd (b2i_0.mp c6) (by simp [isSt, hx, hy, hw])
  · refine x_aload_n h dX9_add_9 rfl ?_
    refine x_getR h g0 f_X9_9 rfl r0 dX9_add_10 ?_
    refine x_iload_n h dX9_add_13 rfl ?_
    refine x_dup2 h rfl rfl dX9_add_14 ?_
    refine x_laldv h x g1 (ix.ni hx (by decide)) (eS x hx) dX9_add_15 ?_
    refine x_lc1 h dX9_add_16 ?_
    refine x_bipush h (nI 6) (by decide) dX9_add_17 ?_
    refine x_iload_n h dX9_add_19 rfl ?_
    refine x_imuln h  dX9_add_20 ?_
    refine x_iload_n h dX9_add_21 rfl ?_
    refine x_iaddn h  dX9_add_22 ?_
    refine x_lshl h dX9_add_23 ?_
    refine x_lor h dX9_add_24 ?_
    refine x_topl (encF_add S x (j := 6 * y + w) (by omega)) ?_
    refine x_last h x g1 (ix.ni hx (by decide)) dX9_add_25 ?_
    exact x_vret h hQ rfl dX9_add_26 ⟨rfl, rfl, rfl, setS_one hx eS (fun s hs _ => by simp [show ¬ (s = 36 * x + (6 * y + w)) by omega])⟩
