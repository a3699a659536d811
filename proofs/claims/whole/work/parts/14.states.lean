theorem c_X9_clear {Γ : GT} {G : GG} {M : MM} {a : Nat} (hS : isS G M.2.2 a) : Calls Γ q_X9_clear [.ref a] G M (rV (fun M' => M' = setS M a (fun _ => false))) := by
  obtain ⟨g0, r0, g1⟩ := hS
  refine Calls.intro (by decide +kernel) (Nat.le_of_ble_eq_true rfl) (fun z E h hQ => ?_)
  have loop : ∀ i, i ≤ 6 → X Γ E 0 0 G z (wL M (a + 1) i (encF (fun _ => false))) 2 [some (.ref a), some (.int (nI i))] [] := by
    refine upto 6 (fun i hi ih => ?_)
    refine x_iload_n h dX9_clear_2 rfl ?_
    refine x_bipush h (nI 6) (by decide) dX9_clear_3 ?_
    refine x_icmp_ge h 21 dX9_clear_5 (by decide) (fun c5 => ?_) (fun c5 => ?_)
    · obtain rfl : i = 6 := up_ge (by decide) hi c5
      exact x_vret h hQ rfl dX9_clear_21 ⟨rfl, rfl, rfl, rfl⟩
    · have hlt : i < 6 := up_lt (by decide) hi c5
      refine x_aload_n h dX9_clear_8 rfl ?_
      refine x_getR h g0 f_X9_9 rfl r0 dX9_clear_9 ?_
      refine x_iload_n h dX9_clear_12 rfl ?_
      refine x_lc0 h dX9_clear_13 ?_
      refine x_lastw h i g1 (ix.ni hlt (by decide)) (encF_none i) dX9_clear_14 ?_
      refine x_incn h dX9_clear_15 rfl rfl rfl ?_
      refine x_goto h 2 dX9_clear_18 (by decide) ?_
      exact ih hlt
  refine x_in0 h dX9_clear_0 ?_
  refine x_istore_n h dX9_clear_1 rfl rfl ?_
  have hl := loop 0 (by decide)
  rw [wL_0] at hl
  exact hl
theorem c_X9_fill {Γ : GT} {G : GG} {M : MM} {a : Nat} (hS : isS G M.2.2 a) : Calls Γ q_X9_fill [.ref a] G M (rV (fun M' => M' = setS M a (fun _ => true))) := by
  obtain ⟨g0, r0, g1⟩ := hS
  refine Calls.intro (by decide +kernel) (Nat.le_of_ble_eq_true rfl) (fun z E h hQ => ?_)
  have loop : ∀ i, i ≤ 6 → X Γ E 0 0 G z (wL M (a + 1) i (encF (fun _ => true))) 2 [some (.ref a), some (.int (nI i))] [] := by
    refine upto 6 (fun i hi ih => ?_)
    refine x_iload_n h dX9_fill_2 rfl ?_
    refine x_bipush h (nI 6) (by decide) dX9_fill_3 ?_
    refine x_icmp_ge h 23 dX9_fill_5 (by decide) (fun c5 => ?_) (fun c5 => ?_)
    · obtain rfl : i = 6 := up_ge (by decide) hi c5
      exact x_vret h hQ rfl dX9_fill_23 ⟨rfl, rfl, rfl, rfl⟩
    · have hlt : i < 6 := up_lt (by decide) hi c5
      refine x_aload_n h dX9_fill_8 rfl ?_
      refine x_getR h g0 f_X9_9 rfl r0 dX9_fill_9 ?_
      refine x_iload_n h dX9_fill_12 rfl ?_
      refine x_ldc2 h kl_X9_22 dX9_fill_13 ?_
      refine x_lastw h i g1 (ix.ni hlt (by decide)) (encF_all i) dX9_fill_16 ?_
      refine x_incn h dX9_fill_17 rfl rfl rfl ?_
      refine x_goto h 2 dX9_fill_20 (by decide) ?_
      exact ih hlt
  refine x_in0 h dX9_fill_0 ?_
  refine x_istore_n h dX9_fill_1 rfl rfl ?_
  have hl := loop 0 (by decide)
  rw [wL_0] at hl
  exact hl
theorem c_X9_copy {Γ : GT} {G : GG} {M : MM} {a b : Nat} {T : ST} (hS : isS G M.2.2 a) (hT : isS G M.2.2 b) (eT : hasS M b T) : Calls Γ q_X9_copy [.ref a, .ref b] G M (rV (fun M' => M' = setS M a T)) := by
  obtain ⟨g0, r0, g1⟩ := hS
  obtain ⟨g2, r2, g3⟩ := hT
  refine Calls.intro (by decide +kernel) (Nat.le_of_ble_eq_true rfl) (fun z E h hQ => ?_)
  have loop : ∀ i, i ≤ 6 → X Γ E 0 0 G z (wL M (a + 1) i (encF T)) 2 [some (.ref a), some (.ref b), some (.int (nI i))] [] := by
    refine upto 6 (fun i hi ih => ?_)
    refine x_iload_n h dX9_copy_2 rfl ?_
    refine x_bipush h (nI 6) (by decide) dX9_copy_3 ?_
    refine x_icmp_ge h 26 dX9_copy_5 (by decide) (fun c5 => ?_) (fun c5 => ?_)
    · obtain rfl : i = 6 := up_ge (by decide) hi c5
      exact x_vret h hQ rfl dX9_copy_26 ⟨rfl, rfl, rfl, rfl⟩
    · have hlt : i < 6 := up_lt (by decide) hi c5
      refine x_aload_n h dX9_copy_8 rfl ?_
      refine x_getR h g0 f_X9_9 rfl r0 dX9_copy_9 ?_
      refine x_iload_n h dX9_copy_12 rfl ?_
      refine x_aload_n h dX9_copy_13 rfl ?_
      refine x_getR h g2 f_X9_9 rfl r2 dX9_copy_14 ?_
      refine x_iload_n h dX9_copy_17 rfl ?_
      refine x_laldv h i g3 (ix.ni hlt (by decide)) ((wL_ge _ _ _ _ _ (Nat.le_refl i)).trans (eT i hlt)) dX9_copy_18 ?_
      refine x_lastw h i g1 (ix.ni hlt (by decide)) rfl dX9_copy_19 ?_
      refine x_incn h dX9_copy_20 rfl rfl rfl ?_
      refine x_goto h 2 dX9_copy_23 (by decide) ?_
      exact ih hlt
  refine x_in0 h dX9_copy_0 ?_
  refine x_istore_n h dX9_copy_1 rfl rfl ?_
  have hl := loop 0 (by decide)
  rw [wL_0] at hl
  exact hl
theorem c_X9_meet {Γ : GT} {G : GG} {M : MM} {a b : Nat} {S T : ST} (hS : isS G M.2.2 a) (eS : hasS M a S) (hT : isS G M.2.2 b) (eT : hasS M b T) : Calls Γ q_X9_meet [.ref a, .ref b] G M (rV (fun M' => M' = setS M a (fun s => S s && T s))) := by
  obtain ⟨g0, r0, g1⟩ := hS
  obtain ⟨g2, r2, g3⟩ := hT
  refine Calls.intro (by decide +kernel) (Nat.le_of_ble_eq_true rfl) (fun z E h hQ => ?_)
  have loop : ∀ i, i ≤ 6 → X Γ E 0 0 G z (wL M (a + 1) i (encF (fun s => S s && T s))) 2 [some (.ref a), some (.ref b), some (.int (nI i))] [] := by
    refine upto 6 (fun i hi ih => ?_)
    refine x_iload_n h dX9_meet_2 rfl ?_
    refine x_bipush h (nI 6) (by decide) dX9_meet_3 ?_
    refine x_icmp_ge h 29 dX9_meet_5 (by decide) (fun c5 => ?_) (fun c5 => ?_)
    · obtain rfl : i = 6 := up_ge (by decide) hi c5
      exact x_vret h hQ rfl dX9_meet_29 ⟨rfl, rfl, rfl, rfl⟩
    · have hlt : i < 6 := up_lt (by decide) hi c5
      refine x_aload_n h dX9_meet_8 rfl ?_
      refine x_getR h g0 f_X9_9 rfl r0 dX9_meet_9 ?_
      refine x_iload_n h dX9_meet_12 rfl ?_
      refine x_dup2 h rfl rfl dX9_meet_13 ?_
      refine x_laldv h i g1 (ix.ni hlt (by decide)) ((wL_ge _ _ _ _ _ (Nat.le_refl i)).trans (eS i hlt)) dX9_meet_14 ?_
      refine x_aload_n h dX9_meet_15 rfl ?_
      refine x_getR h g2 f_X9_9 rfl r2 dX9_meet_16 ?_
      refine x_iload_n h dX9_meet_19 rfl ?_
      refine x_laldv h i g3 (ix.ni hlt (by decide)) ((wL_ge _ _ _ _ _ (Nat.le_refl i)).trans (eT i hlt)) dX9_meet_20 ?_
      refine x_land h dX9_meet_21 ?_
      refine x_lastw h i g1 (ix.ni hlt (by decide)) (encF_and S T i) dX9_meet_22 ?_
      refine x_incn h dX9_meet_23 rfl rfl rfl ?_
      refine x_goto h 2 dX9_meet_26 (by decide) ?_
      exact ih hlt
  refine x_in0 h dX9_meet_0 ?_
  refine x_istore_n h dX9_meet_1 rfl rfl ?_
  have hl := loop 0 (by decide)
  rw [wL_0] at hl
  exact hl
theorem c_X9_remove {Γ : GT} {G : GG} {M : MM} {a b : Nat} {S T : ST} (hS : isS G M.2.2 a) (eS : hasS M a S) (hT : isS G M.2.2 b) (eT : hasS M b T) : Calls Γ q_X9_remove [.ref a, .ref b] G M (rV (fun M' => M' = setS M a (fun s => S s && !T s))) := by
  obtain ⟨g0, r0, g1⟩ := hS
  obtain ⟨g2, r2, g3⟩ := hT
  refine Calls.intro (by decide +kernel) (Nat.le_of_ble_eq_true rfl) (fun z E h hQ => ?_)
  have loop : ∀ i, i ≤ 6 → X Γ E 0 0 G z (wL M (a + 1) i (encF (fun s => S s && !T s))) 2 [some (.ref a), some (.ref b), some (.int (nI i))] [] := by
    refine upto 6 (fun i hi ih => ?_)
    refine x_iload_n h dX9_remove_2 rfl ?_
    refine x_bipush h (nI 6) (by decide) dX9_remove_3 ?_
    refine x_icmp_ge h 33 dX9_remove_5 (by decide) (fun c5 => ?_) (fun c5 => ?_)
    · obtain rfl : i = 6 := up_ge (by decide) hi c5
      exact x_vret h hQ rfl dX9_remove_33 ⟨rfl, rfl, rfl, rfl⟩
    · have hlt : i < 6 := up_lt (by decide) hi c5
      refine x_aload_n h dX9_remove_8 rfl ?_
      refine x_getR h g0 f_X9_9 rfl r0 dX9_remove_9 ?_
      refine x_iload_n h dX9_remove_12 rfl ?_
      refine x_dup2 h rfl rfl dX9_remove_13 ?_
      refine x_laldv h i g1 (ix.ni hlt (by decide)) ((wL_ge _ _ _ _ _ (Nat.le_refl i)).trans (eS i hlt)) dX9_remove_14 ?_
      refine x_aload_n h dX9_remove_15 rfl ?_
      refine x_getR h g2 f_X9_9 rfl r2 dX9_remove_16 ?_
      refine x_iload_n h dX9_remove_19 rfl ?_
      refine x_laldv h i g3 (ix.ni hlt (by decide)) ((wL_ge _ _ _ _ _ (Nat.le_refl i)).trans (eT i hlt)) dX9_remove_20 ?_
      refine x_ldc2 h kl_X9_24 dX9_remove_21 ?_
      refine x_lxor h dX9_remove_24 ?_
      refine x_land h dX9_remove_25 ?_
      refine x_lastw h i g1 (ix.ni hlt (by decide)) (encF_diff S T i) dX9_remove_26 ?_
      refine x_incn h dX9_remove_27 rfl rfl rfl ?_
      refine x_goto h 2 dX9_remove_30 (by decide) ?_
      exact ih hlt
  refine x_in0 h dX9_remove_0 ?_
  refine x_istore_n h dX9_remove_1 rfl rfl ?_
  have hl := loop 0 (by decide)
  rw [wL_0] at hl
  exact hl
theorem c_X9_addMissing {Γ : GT} {G : GG} {M : MM} {a b : Nat} {S T : ST} (hS : isS G M.2.2 a) (eS : hasS M a S) (hT : isS G M.2.2 b) (eT : hasS M b T) : Calls Γ q_X9_addMissing [.ref a, .ref b] G M (rV (fun M' => M' = setS M a (fun s => S s || !T s))) := by
  obtain ⟨g0, r0, g1⟩ := hS
  obtain ⟨g2, r2, g3⟩ := hT
  refine Calls.intro (by decide +kernel) (Nat.le_of_ble_eq_true rfl) (fun z E h hQ => ?_)
  have loop : ∀ i, i ≤ 6 → X Γ E 0 0 G z (wL M (a + 1) i (encF (fun s => S s || !T s))) 2 [some (.ref a), some (.ref b), some (.int (nI i))] [] := by
    refine upto 6 (fun i hi ih => ?_)
    refine x_iload_n h dX9_addMissing_2 rfl ?_
    refine x_bipush h (nI 6) (by decide) dX9_addMissing_3 ?_
    refine x_icmp_ge h 37 dX9_addMissing_5 (by decide) (fun c5 => ?_) (fun c5 => ?_)
    · obtain rfl : i = 6 := up_ge (by decide) hi c5
      exact x_vret h hQ rfl dX9_addMissing_37 ⟨rfl, rfl, rfl, rfl⟩
    · have hlt : i < 6 := up_lt (by decide) hi c5
      refine x_aload_n h dX9_addMissing_8 rfl ?_
      refine x_getR h g0 f_X9_9 rfl r0 dX9_addMissing_9 ?_
      refine x_iload_n h dX9_addMissing_12 rfl ?_
      refine x_dup2 h rfl rfl dX9_addMissing_13 ?_
      refine x_laldv h i g1 (ix.ni hlt (by decide)) ((wL_ge _ _ _ _ _ (Nat.le_refl i)).trans (eS i hlt)) dX9_addMissing_14 ?_
      refine x_ldc2 h kl_X9_22 dX9_addMissing_15 ?_
      refine x_aload_n h dX9_addMissing_18 rfl ?_
      refine x_getR h g2 f_X9_9 rfl r2 dX9_addMissing_19 ?_
      refine x_iload_n h dX9_addMissing_22 rfl ?_
      refine x_laldv h i g3 (ix.ni hlt (by decide)) ((wL_ge _ _ _ _ _ (Nat.le_refl i)).trans (eT i hlt)) dX9_addMissing_23 ?_
      refine x_ldc2 h kl_X9_24 dX9_addMissing_24 ?_
      refine x_lxor h dX9_addMissing_27 ?_
      refine x_land h dX9_addMissing_28 ?_
      refine x_lor h dX9_addMissing_29 ?_
      refine x_lastw h i g1 (ix.ni hlt (by decide)) (by rw [encF_all i, encF_diff, encF_or]; rfl) dX9_addMissing_30 ?_
      refine x_incn h dX9_addMissing_31 rfl rfl rfl ?_
      refine x_goto h 2 dX9_addMissing_34 (by decide) ?_
      exact ih hlt
  refine x_in0 h dX9_addMissing_0 ?_
  refine x_istore_n h dX9_addMissing_1 rfl rfl ?_
  have hl := loop 0 (by decide)
  rw [wL_0] at hl
  exact hl
def orL (f : Nat → Int64) : Nat → Int64
  | 0 => 0
  | n + 1 => orL f n ||| f n
theorem orL_zero (f : Nat → Int64) : ∀ n, orL f n = 0 ↔ ∀ k, k < n → f k = 0
  | 0 => by simp [orL]
  | n + 1 => by
    rw [orL, Int64.or_eq_zero_iff, orL_zero f n]
    constructor
    · rintro ⟨h1, h2⟩ k hk
      rcases Nat.lt_or_ge k n with q | q
      · exact h1 k q
      · obtain rfl : k = n := by omega
        exact h2
    · intro h
      exact ⟨fun k hk => h k (by omega), h n (by omega)⟩
theorem orL_any (S : ST) : orL (encF S) 6 = 0 ↔ anyS S = false := by
  rw [orL_zero, anyS_not]
  constructor
  · intro h s hs
    exact encF_zero.mp (h (s / 36) (by omega)) s rfl
  · intro h k hk
    exact encF_zero.mpr (fun s hs => h s (by omega))
theorem b2i_t {b : Bool} (h : b = true) : (1 : Int32) = b2i b := by rw [h]; rfl
theorem b2i_f {b : Bool} (h : b = false) : (0 : Int32) = b2i b := by rw [h]; rfl
theorem bool_nf {b : Bool} (h : ¬ b = false) : b = true := by cases b <;> first | rfl | exact absurd rfl h
theorem c_X9_unite {Γ : GT} {G : GG} {M : MM} {a b : Nat} {S T : ST} (hS : isS G M.2.2 a) (eS : hasS M a S) (hT : isS G M.2.2 b) (eT : hasS M b T) : Calls Γ q_X9_unite [.ref a, .ref b] G M (rI (fun v M' => v = b2i (anyS (fun s => T s && !S s)) ∧ M' = setS M a (fun s => S s || T s))) := by
  obtain ⟨g0, r0, g1⟩ := hS
  obtain ⟨g2, r2, g3⟩ := hT
  refine Calls.intro (by decide +kernel) (Nat.le_of_ble_eq_true rfl) (fun z E h hQ => ?_)
  have loop : ∀ i, i ≤ 6 → X Γ E 0 0 G z (wL M (a + 1) i (encF (fun s => S s || T s))) 5 [some (.ref a), some (.ref b), some (.long (orL (encF (fun s => T s && !S s)) i)), none, some (.int (nI i))] [] := by
    refine upto 6 (fun i hi ih => ?_)
    refine x_iload h dX9_unite_5 rfl ?_
    refine x_bipush h (nI 6) (by decide) dX9_unite_7 ?_
    refine x_icmp_ge h 57 dX9_unite_9 (by decide) (fun c9 => ?_) (fun c9 => ?_)
    · obtain rfl : i = 6 := up_ge (by decide) hi c9
      refine x_lload_n h dX9_unite_57 rfl ?_
      refine x_lc0 h dX9_unite_58 ?_
      refine x_lcmp h dX9_unite_59 ?_
      refine x_if_eq h 67 dX9_unite_60 (by decide) (fun c60 => ?_) (fun c60 => ?_)
      · have hz := (orL_any _).mp ((lg_cmp_eq _ _).mp c60)
        refine x_ic0 h dX9_unite_67 ?_
        exact x_zret h hQ rfl (by decide) dX9_unite_68 ⟨rfl, rfl, _, rfl, b2i_f hz, rfl⟩
      · have hz := bool_nf (fun q => c60 ((lg_cmp_eq _ _).mpr ((orL_any _).mpr q)))
        refine x_ic1 h dX9_unite_63 ?_
        refine x_goto h 68 dX9_unite_64 (by decide) ?_
        exact x_zret h hQ rfl (by decide) dX9_unite_68 ⟨rfl, rfl, _, rfl, b2i_t hz, rfl⟩
    · have hlt : i < 6 := up_lt (by decide) hi c9
      refine x_lload_n h dX9_unite_12 rfl ?_
      refine x_aload_n h dX9_unite_13 rfl ?_
      refine x_getR h g2 f_X9_9 rfl r2 dX9_unite_14 ?_
      refine x_iload h dX9_unite_17 rfl ?_
      refine x_laldv h i g3 (ix.ni hlt (by decide)) ((wL_ge _ _ _ _ _ (Nat.le_refl i)).trans (eT i hlt)) dX9_unite_19 ?_
      refine x_aload_n h dX9_unite_20 rfl ?_
      refine x_getR h g0 f_X9_9 rfl r0 dX9_unite_21 ?_
      refine x_iload h dX9_unite_24 rfl ?_
      refine x_laldv h i g1 (ix.ni hlt (by decide)) ((wL_ge _ _ _ _ _ (Nat.le_refl i)).trans (eS i hlt)) dX9_unite_26 ?_
      refine x_ldc2 h kl_X9_24 dX9_unite_27 ?_
      refine x_lxor h dX9_unite_30 ?_
      refine x_land h dX9_unite_31 ?_
      refine x_topl (encF_diff T S i) ?_
      refine x_lor h dX9_unite_32 ?_
      refine x_lstore_n h dX9_unite_33 rfl rfl ?_
      refine x_aload_n h dX9_unite_34 rfl ?_
      refine x_getR h g0 f_X9_9 rfl r0 dX9_unite_35 ?_
      refine x_iload h dX9_unite_38 rfl ?_
      refine x_dup2 h rfl rfl dX9_unite_40 ?_
      refine x_laldv h i g1 (ix.ni hlt (by decide)) ((wL_ge _ _ _ _ _ (Nat.le_refl i)).trans (eS i hlt)) dX9_unite_41 ?_
      refine x_aload_n h dX9_unite_42 rfl ?_
      refine x_getR h g2 f_X9_9 rfl r2 dX9_unite_43 ?_
      refine x_iload h dX9_unite_46 rfl ?_
      refine x_laldv h i g3 (ix.ni hlt (by decide)) ((wL_ge _ _ _ _ _ (Nat.le_refl i)).trans (eT i hlt)) dX9_unite_48 ?_
      refine x_lor h dX9_unite_49 ?_
      refine x_lastw h i g1 (ix.ni hlt (by decide)) (encF_or S T i) dX9_unite_50 ?_
      refine x_incn h dX9_unite_51 rfl rfl rfl ?_
      refine x_goto h 5 dX9_unite_54 (by decide) ?_
      exact ih hlt
  refine x_lc0 h dX9_unite_0 ?_
  refine x_lstore_n h dX9_unite_1 rfl rfl ?_
  refine x_in0 h dX9_unite_2 ?_
  refine x_istore h dX9_unite_3 rfl rfl ?_
  have hl := loop 0 (by decide)
  rw [wL_0] at hl
  exact hl
theorem c_X9_isWithin {Γ : GT} {G : GG} {M : MM} {a b : Nat} {S T : ST} (hS : isS G M.2.2 a) (eS : hasS M a S) (hT : isS G M.2.2 b) (eT : hasS M b T) : Calls Γ q_X9_isWithin [.ref a, .ref b] G M (rI (fun v M' => v = b2i (!anyS (fun s => S s && !T s)) ∧ M' = M)) := by
  obtain ⟨g0, r0, g1⟩ := hS
  obtain ⟨g2, r2, g3⟩ := hT
  refine Calls.intro (by decide +kernel) (Nat.le_of_ble_eq_true rfl) (fun z E h hQ => ?_)
  have loop : ∀ i, i ≤ 6 → X Γ E 0 0 G z M 5 [some (.ref a), some (.ref b), some (.long (orL (encF (fun s => S s && !T s)) i)), none, some (.int (nI i))] [] := by
    refine upto 6 (fun i hi ih => ?_)
    refine x_iload h dX9_isWithin_5 rfl ?_
    refine x_bipush h (nI 6) (by decide) dX9_isWithin_7 ?_
    refine x_icmp_ge h 40 dX9_isWithin_9 (by decide) (fun c9 => ?_) (fun c9 => ?_)
    · obtain rfl : i = 6 := up_ge (by decide) hi c9
      refine x_lload_n h dX9_isWithin_40 rfl ?_
      refine x_lc0 h dX9_isWithin_41 ?_
      refine x_lcmp h dX9_isWithin_42 ?_
      refine x_if_ne h 50 dX9_isWithin_43 (by decide) (fun c43 => ?_) (fun c43 => ?_)
      · have hz := bool_nf (fun q => c43 ((lg_cmp_eq _ _).mpr ((orL_any _).mpr q)))
        refine x_ic0 h dX9_isWithin_50 ?_
        exact x_zret h hQ rfl (by decide) dX9_isWithin_51 ⟨rfl, rfl, _, rfl, b2i_f (by rw [hz]; rfl), rfl⟩
      · have hz := (orL_any _).mp ((lg_cmp_eq _ _).mp c43)
        refine x_ic1 h dX9_isWithin_46 ?_
        refine x_goto h 51 dX9_isWithin_47 (by decide) ?_
        exact x_zret h hQ rfl (by decide) dX9_isWithin_51 ⟨rfl, rfl, _, rfl, b2i_t (by rw [hz]; rfl), rfl⟩
    · have hlt : i < 6 := up_lt (by decide) hi c9
      refine x_lload_n h dX9_isWithin_12 rfl ?_
      refine x_aload_n h dX9_isWithin_13 rfl ?_
      refine x_getR h g0 f_X9_9 rfl r0 dX9_isWithin_14 ?_
      refine x_iload h dX9_isWithin_17 rfl ?_
      refine x_laldv h i g1 (ix.ni hlt (by decide)) (eS i hlt) dX9_isWithin_19 ?_
      refine x_aload_n h dX9_isWithin_20 rfl ?_
      refine x_getR h g2 f_X9_9 rfl r2 dX9_isWithin_21 ?_
      refine x_iload h dX9_isWithin_24 rfl ?_
      refine x_laldv h i g3 (ix.ni hlt (by decide)) (eT i hlt) dX9_isWithin_26 ?_
      refine x_ldc2 h kl_X9_24 dX9_isWithin_27 ?_
      refine x_lxor h dX9_isWithin_30 ?_
      refine x_land h dX9_isWithin_31 ?_
      refine x_topl (encF_diff S T i) ?_
      refine x_lor h dX9_isWithin_32 ?_
      refine x_lstore_n h dX9_isWithin_33 rfl rfl ?_
      refine x_incn h dX9_isWithin_34 rfl rfl rfl ?_
      refine x_goto h 5 dX9_isWithin_37 (by decide) ?_
      exact ih hlt
  refine x_lc0 h dX9_isWithin_0 ?_
  refine x_lstore_n h dX9_isWithin_1 rfl rfl ?_
  refine x_in0 h dX9_isWithin_2 ?_
  refine x_istore h dX9_isWithin_3 rfl rfl ?_
  exact loop 0 (by decide)
