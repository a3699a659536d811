theorem c_X9_clear {Γ : GT} {G : GG} {M : MM} {a : Nat} (hS : isS G M.2.2 a) : Calls Γ q_X9_clear [.ref a] G M (rV (fun M' => M' = setS M a (fun _ => false))) := by
  obtain ⟨g0, r0, g1⟩ := hS
  refine Calls.intro (by decide +kernel) (by decide) (fun z E h hQ => ?_)
  have loop : ∀ i, i ≤ 6 → X Γ E 0 0 G z (wL M (a + 1) i (encF (fun _ => false))) 2 [some (.ref a), some (.int (nI i))] [] := by
    refine upto 6 (fun i hi ih => ?_)
    refine x_iload_n h dX9_clear_2 rfl ?_
    refine x_bipush h (nI 6) (by decide) dX9_clear_3 ?_
    refine x_icmp_ge h 21 dX9_clear_5 (by decide) (fun c5 => ?_) (fun c5 => ?_)
    · obtain rfl : i = 6 := up_ge (by decide) hi c5
      exact x_vret h hQ rfl dX9_clear_21 ⟨rfl, rfl, rfl, rfl⟩
    · have hlt : i < 6 := up_lt (by decide) hi c5
      refine x_aload_n h dX9_clear_8 rfl ?_
      refine x_getR h g0 f_X9_9 rfl r0 dX9_clear_9 ?_
      refine x_iload_n h dX9_clear_12 rfl ?_
      refine x_lc0 h dX9_clear_13 ?_
      refine x_lastw h i g1 (ix.ni hlt (by decide)) (encF_none i) dX9_clear_14 ?_
      refine x_incn h dX9_clear_15 rfl rfl rfl ?_
      refine x_goto h 2 dX9_clear_18 (by decide) ?_
      exact ih hlt
  refine x_in0 h dX9_clear_0 ?_
  refine x_istore_n h dX9_clear_1 rfl rfl ?_
  have hl := loop 0 (by decide)
  rw [wL_0] at hl
  exact hl
theorem c_X9_fill {Γ : GT} {G : GG} {M : MM} {a : Nat} (hS : isS G M.2.2 a) : Calls Γ q_X9_fill [.ref a] G M (rV (fun M' => M' = setS M a (fun _ => true))) := by
  obtain ⟨g0, r0, g1⟩ := hS
  refine Calls.intro (by decide +kernel) (by decide) (fun z E h hQ => ?_)
  have loop : ∀ i, i ≤ 6 → X Γ E 0 0 G z (wL M (a + 1) i (encF (fun _ => true))) 2 [some (.ref a), some (.int (nI i))] [] := by
    refine upto 6 (fun i hi ih => ?_)
    refine x_iload_n h dX9_fill_2 rfl ?_
    refine x_bipush h (nI 6) (by decide) dX9_fill_3 ?_
    refine x_icmp_ge h 23 dX9_fill_5 (by decide) (fun c5 => ?_) (fun c5 => ?_)
    · obtain rfl : i = 6 := up_ge (by decide) hi c5
      exact x_vret h hQ rfl dX9_fill_23 ⟨rfl, rfl, rfl, rfl⟩
    · have hlt : i < 6 := up_lt (by decide) hi c5
      refine x_aload_n h dX9_fill_8 rfl ?_
      refine x_getR h g0 f_X9_9 rfl r0 dX9_fill_9 ?_
      refine x_iload_n h dX9_fill_12 rfl ?_
      refine x_ldc2 h kl_X9_22 dX9_fill_13 ?_
      refine x_lastw h i g1 (ix.ni hlt (by decide)) (encF_all i) dX9_fill_16 ?_
      refine x_incn h dX9_fill_17 rfl rfl rfl ?_
      refine x_goto h 2 dX9_fill_20 (by decide) ?_
      exact ih hlt
  refine x_in0 h dX9_fill_0 ?_
  refine x_istore_n h dX9_fill_1 rfl rfl ?_
  have hl := loop 0 (by decide)
  rw [wL_0] at hl
  exact hl
