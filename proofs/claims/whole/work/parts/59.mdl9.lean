/-! ===== the reference: slots, and runs ===== -/
theorem c_X12_keep_0 {Γ : GT} {G : GG} {M : MM} {m : Nat} (hF : mdF G M.2.2 m) {tx : Nat → Nat} {len : Nat} {pg : PGM} {su : SU} {hy : HY} {kp : KP} {ze : SE} {sd : Int64} (hI : mInv M m tx len pg su hy kp ze sd) {x : Int32} (hx : ∀ n, n < 2 → x ≠ nI n) : Calls Γ q_X12_keep [.ref m, .int x] G M (rI (fun y M' => y = -1 ∧ mInv M' m (tx) (len) (pg) (su) (hy) (kp) (ze) (sd) ∧ offM m M M')) := by
  have hI0 := hI
  obtain ⟨iT, iP, iN, iD, iK, iS, iE, iC⟩ := hI
  refine Calls.intro (by decide +kernel) (Nat.le_of_ble_eq_true rfl) (fun z E h hQ => ?_)
  refine x_loc (L' := [some (.ref m), some (.int x), none]) rfl ?_
  refine x_iload_n h dX12_keep_0 rfl ?_
  refine x_i2l h dX12_keep_1 ?_
  refine x_lc0 h dX12_keep_2 ?_
  refine x_lc1 h dX12_keep_3 ?_
  refine x_cSi h ci_X12_in sm_X12_in l_X12_114 ⟨Nat.le_of_ble_eq_true rfl, Nat.le_of_ble_eq_true rfl⟩ ⟨rfl, rfl⟩ ⟨Nat.zero_le _, Nat.zero_le _⟩ (c_X12_in (b := lN 0) (c := lN 1)) rfl rfl rfl rfl dX12_keep_4 (fun v4 M4 hp4 => ?_)
  obtain ⟨rfl, hM⟩ := hp4
  obtain rfl := hM.symm
  clear hM
  refine x_if_ne h 12 dX12_keep_7 (by decide) (fun c7 => ?_) (fun c7 => ?_)
  · exact absurd (b2i_0.mpr (in_no hx (by decide))) c7
  · refine x_icm1 h dX12_keep_10 ?_
    exact x_iret h hQ rfl dX12_keep_11 ⟨rfl, rfl, _, rfl, rfl, hI0, off_refl m M⟩
theorem c_X12_keep_1 {Γ : GT} {G : GG} {M : MM} {m : Nat} (hF : mdF G M.2.2 m) {tx : Nat → Nat} {len : Nat} {pg : PGM} {su : SU} {hy : HY} {kp : KP} {ze : SE} {sd : Int64} (hI : mInv M m tx len pg su hy kp ze sd) {n : Nat} (hn : n < 2) : Calls Γ q_X12_keep [.ref m, .int (nI n)] G M (rI (fun y M' => y = nI (fb_ct (fun i => su.2.testBit i) 5) ∧ mInv M' m (tx) (len) (pg) (su) (hy) (fun i => if i = n then some su else kp i) (ze) (sd) ∧ offM m M M')) := by
  have hI0 := hI
  obtain ⟨iT, iP, iN, iD, iK, iS, iE, iC⟩ := hI
  have n0 : M.1 (m + 21) 0 = nI (su.1 0) := iN.1.1 0 (by decide)
  have n1 : M.1 (m + 21) 1 = nI (su.1 1) := iN.1.1 1 (by decide)
  have n2 : M.1 (m + 21) 2 = nI (su.1 2) := iN.1.1 2 (by decide)
  have n3 : M.1 (m + 21) 3 = nI su.2 := iN.1.2
  have o32 := su32 iN.2 iP.2.2.1.1
  refine Calls.intro (by decide +kernel) (Nat.le_of_ble_eq_true rfl) (fun z E h hQ => ?_)
  refine x_loc (L' := [some (.ref m), some (.int (nI n)), none]) rfl ?_
  refine x_iload_n h dX12_keep_0 rfl ?_
  refine x_i2l h dX12_keep_1 ?_
  refine x_lc0 h dX12_keep_2 ?_
  refine x_lc1 h dX12_keep_3 ?_
  refine x_cSi h ci_X12_in sm_X12_in l_X12_114 ⟨Nat.le_of_ble_eq_true rfl, Nat.le_of_ble_eq_true rfl⟩ ⟨rfl, rfl⟩ ⟨Nat.zero_le _, Nat.zero_le _⟩ (c_X12_in (b := lN 0) (c := lN 1)) rfl rfl rfl rfl dX12_keep_4 (fun v4 M4 hp4 => ?_)
  obtain ⟨rfl, hM⟩ := hp4
  obtain rfl := hM.symm
  clear hM
  refine x_if_ne h 12 dX12_keep_7 (by decide) (fun c7 => ?_) (fun c7 => ?_)
  · refine x_aload_n h dX12_keep_12 rfl ?_
    refine x_getR h hF.1 f_X12_82 rfl (md_isKept hF).1 dX12_keep_13 ?_
    refine x_iload_n h dX12_keep_16 rfl ?_
    refine x_ic1 h dX12_keep_17 ?_
    refine x_zast h n (md_isKept hF).2 (ix.ni (by omega) (by decide)) (by decide) dX12_keep_18 ?_
    refine x_in0 h dX12_keep_19 ?_
    refine x_istore_n h dX12_keep_20 rfl rfl ?_
    dsimp only [List.set]
    refine x_iload_n h dX12_keep_21 rfl ?_
    refine x_in4 h dX12_keep_22 ?_
    refine x_icmp_ge h 48 dX12_keep_23 (by decide) (fun c23 => ?_) (fun c23 => ?_)
    · exact absurd c23 (by decide)
    · refine x_aload_n h dX12_keep_26 rfl ?_
      refine x_getR h hF.1 f_X12_79 rfl (md_kept hF).1 dX12_keep_27 ?_
      refine x_in4 h dX12_keep_30 ?_
      refine x_iload_n h dX12_keep_31 rfl ?_
      refine x_imuln h  dX12_keep_32 ?_
      refine x_iload_n h dX12_keep_33 rfl ?_
      refine x_iaddn h  dX12_keep_34 ?_
      refine x_aload_n h dX12_keep_35 rfl ?_
      refine x_getR h hF.1 f_X12_70 rfl (md_now hF).1 dX12_keep_36 ?_
      refine x_iload_n h dX12_keep_39 rfl ?_
      refine x_ialdv h 0 (md_now hF).2 (ix.ni (j := 0) (by decide) (by decide)) (show _ = nI (su.1 0) from by simp [sI, up2]; exact n0) dX12_keep_40 ?_
      refine x_iast h (4 * n + 0) (md_kept hF).2 (ix.ni (by omega) (by decide)) dX12_keep_41 ?_
      refine x_incn h dX12_keep_42 rfl rfl rfl ?_
      dsimp only [List.set]
      refine x_goto h 21 dX12_keep_45 (by decide) ?_
      refine x_iload_n h dX12_keep_21 rfl ?_
      refine x_in4 h dX12_keep_22 ?_
      refine x_icmp_ge h 48 dX12_keep_23 (by decide) (fun c23 => ?_) (fun c23 => ?_)
      · exact absurd c23 (by decide)
      · refine x_aload_n h dX12_keep_26 rfl ?_
        refine x_getR h hF.1 f_X12_79 rfl (md_kept hF).1 dX12_keep_27 ?_
        refine x_in4 h dX12_keep_30 ?_
        refine x_iload_n h dX12_keep_31 rfl ?_
        refine x_imuln h  dX12_keep_32 ?_
        refine x_iload_n h dX12_keep_33 rfl ?_
        refine x_iaddn h  dX12_keep_34 ?_
        refine x_aload_n h dX12_keep_35 rfl ?_
        refine x_getR h hF.1 f_X12_70 rfl (md_now hF).1 dX12_keep_36 ?_
        refine x_iload_n h dX12_keep_39 rfl ?_
        refine x_ialdv h 1 (md_now hF).2 (ix.ni (j := 1) (by decide) (by decide)) (show _ = nI (su.1 1) from by simp [sI, up2]; exact n1) dX12_keep_40 ?_
        refine x_iast h (4 * n + 1) (md_kept hF).2 (ix.ni (by omega) (by decide)) dX12_keep_41 ?_
        refine x_incn h dX12_keep_42 rfl rfl rfl ?_
        dsimp only [List.set]
        refine x_goto h 21 dX12_keep_45 (by decide) ?_
        refine x_iload_n h dX12_keep_21 rfl ?_
        refine x_in4 h dX12_keep_22 ?_
        refine x_icmp_ge h 48 dX12_keep_23 (by decide) (fun c23 => ?_) (fun c23 => ?_)
        · exact absurd c23 (by decide)
        · refine x_aload_n h dX12_keep_26 rfl ?_
          refine x_getR h hF.1 f_X12_79 rfl (md_kept hF).1 dX12_keep_27 ?_
          refine x_in4 h dX12_keep_30 ?_
          refine x_iload_n h dX12_keep_31 rfl ?_
          refine x_imuln h  dX12_keep_32 ?_
          refine x_iload_n h dX12_keep_33 rfl ?_
          refine x_iaddn h  dX12_keep_34 ?_
          refine x_aload_n h dX12_keep_35 rfl ?_
          refine x_getR h hF.1 f_X12_70 rfl (md_now hF).1 dX12_keep_36 ?_
          refine x_iload_n h dX12_keep_39 rfl ?_
          refine x_ialdv h 2 (md_now hF).2 (ix.ni (j := 2) (by decide) (by decide)) (show _ = nI (su.1 2) from by simp [sI, up2]; exact n2) dX12_keep_40 ?_
          refine x_iast h (4 * n + 2) (md_kept hF).2 (ix.ni (by omega) (by decide)) dX12_keep_41 ?_
          refine x_incn h dX12_keep_42 rfl rfl rfl ?_
          dsimp only [List.set]
          refine x_goto h 21 dX12_keep_45 (by decide) ?_
          refine x_iload_n h dX12_keep_21 rfl ?_
          refine x_in4 h dX12_keep_22 ?_
          refine x_icmp_ge h 48 dX12_keep_23 (by decide) (fun c23 => ?_) (fun c23 => ?_)
          · exact absurd c23 (by decide)
          · refine x_aload_n h dX12_keep_26 rfl ?_
            refine x_getR h hF.1 f_X12_79 rfl (md_kept hF).1 dX12_keep_27 ?_
            refine x_in4 h dX12_keep_30 ?_
            refine x_iload_n h dX12_keep_31 rfl ?_
            refine x_imuln h  dX12_keep_32 ?_
            refine x_iload_n h dX12_keep_33 rfl ?_
            refine x_iaddn h  dX12_keep_34 ?_
            refine x_aload_n h dX12_keep_35 rfl ?_
            refine x_getR h hF.1 f_X12_70 rfl (md_now hF).1 dX12_keep_36 ?_
            refine x_iload_n h dX12_keep_39 rfl ?_
            refine x_ialdv h 3 (md_now hF).2 (ix.ni (j := 3) (by decide) (by decide)) (show _ = nI su.2 from by simp [sI, up2]; exact n3) dX12_keep_40 ?_
            refine x_iast h (4 * n + 3) (md_kept hF).2 (ix.ni (by omega) (by decide)) dX12_keep_41 ?_
            refine x_incn h dX12_keep_42 rfl rfl rfl ?_
            dsimp only [List.set]
            refine x_goto h 21 dX12_keep_45 (by decide) ?_
            refine x_iload_n h dX12_keep_21 rfl ?_
            refine x_in4 h dX12_keep_22 ?_
            refine x_icmp_ge h 48 dX12_keep_23 (by decide) (fun c23 => ?_) (fun c23 => ?_)
            · refine x_aload_n h dX12_keep_48 rfl ?_
              refine x_getR h hF.1 f_X12_70 rfl (md_now hF).1 dX12_keep_49 ?_
              refine x_in3 h dX12_keep_52 ?_
              refine x_ialdv h 3 (md_now hF).2 (ix.ni (j := 3) (by decide) (by decide)) (show _ = nI su.2 from by simp [sI, up2]; exact n3) dX12_keep_53 ?_
              refine x_cSi h ci_X12_ones sm_X12_ones l_X12_304 ⟨Nat.le_of_ble_eq_true rfl, Nat.le_of_ble_eq_true rfl⟩ ⟨rfl, rfl⟩ ⟨Nat.zero_le _, Nat.zero_le _⟩ (c_X12_ones o32) rfl rfl rfl rfl dX12_keep_54 (fun v54 M54 hp54 => ?_)
              obtain ⟨rfl, hM⟩ := hp54
              obtain rfl := hM.symm
              clear hM
              refine x_iret h hQ rfl dX12_keep_57 ⟨rfl, rfl, _, rfl, rfl, ⟨(mTx_cg iT (fun a j h => by simp only [sI, up2]; rw [if_neg (by omega), if_neg (by omega), if_neg (by omega), if_neg (by omega), if_neg (by omega)])), (mPg_cg iP (fun a j h => by simp only [sI, up2]; rw [if_neg (by omega), if_neg (by omega), if_neg (by omega), if_neg (by omega), if_neg (by omega)])), (mNw_cg iN (fun a j h => by simp only [sI, up2]; rw [if_neg (by omega), if_neg (by omega), if_neg (by omega), if_neg (by omega), if_neg (by omega)])), (mDy_cg iD (fun a j h => by simp only [sI, up2]; rw [if_neg (by omega), if_neg (by omega), if_neg (by omega), if_neg (by omega), if_neg (by omega)])), fun i hi => ?_, (mSn_cg iS (fun a j h => by simp only [sI, up2]; rw [if_neg (by omega), if_neg (by omega), if_neg (by omega), if_neg (by omega), if_neg (by omega)])), iE, (mCF_cg iC rfl)⟩, (off_I (off_I (off_I (off_I (off_I (off_refl m M) _ (by omega)) _ (by omega)) _ (by omega)) _ (by omega)) _ (by omega))⟩
              show _ = b2i (if i = n then some su else kp i).isSome ∧ ∀ s, (if i = n then some su else kp i) = some s → _
              by_cases q : i = n
              · rw [if_pos q, q]
                refine ⟨by simp [sI, up2]; rfl, fun s hs => ?_⟩
                cases hs
                refine ⟨⟨fun v hv => ?_, by simp [sI, up2]⟩, iN.2⟩
                rcases (show v = 0 ∨ v = 1 ∨ v = 2 by omega) with rfl | rfl | rfl <;> simp [sI, up2]
              · rw [if_neg q]
                have a := iK i hi
                refine ⟨?_, fun s hs => ⟨suA_cg (a.2 s hs).1 (fun j h5 h6 => ?_), (a.2 s hs).2⟩⟩
                · simp only [sI, up2]
                  rw [if_neg (by omega), if_neg (by omega), if_neg (by omega), if_neg (by omega), if_neg (by omega)]
                  exact a.1
                · simp only [sI, up2]
                  rw [if_neg (by omega), if_neg (by omega), if_neg (by omega), if_neg (by omega), if_neg (by omega)]
            · exact absurd c23 (by decide)
  · exact absurd (in_yes (n := n) (b := 1) (by omega) (by decide)) (by rw [b2i_0.mp c7]; decide)
theorem c_X12_again_0 {Γ : GT} {G : GG} {M : MM} {m : Nat} (hF : mdF G M.2.2 m) {tx : Nat → Nat} {len : Nat} {pg : PGM} {su : SU} {hy : HY} {kp : KP} {ze : SE} {sd : Int64} (hI : mInv M m tx len pg su hy kp ze sd) {x : Int32} (hx : ∀ n, n < 2 → x ≠ nI n) : Calls Γ q_X12_again [.ref m, .int x] G M (rI (fun y M' => y = -1 ∧ mInv M' m (tx) (len) (pg) (su) (hy) (kp) (ze) (sd) ∧ offM m M M')) := by
  have hI0 := hI
  obtain ⟨iT, iP, iN, iD, iK, iS, iE, iC⟩ := hI
  refine Calls.intro (by decide +kernel) (Nat.le_of_ble_eq_true rfl) (fun z E h hQ => ?_)
  refine x_loc (L' := [some (.ref m), some (.int x), none]) rfl ?_
  refine x_iload_n h dX12_again_0 rfl ?_
  refine x_i2l h dX12_again_1 ?_
  refine x_lc0 h dX12_again_2 ?_
  refine x_lc1 h dX12_again_3 ?_
  refine x_cSi h ci_X12_in sm_X12_in l_X12_114 ⟨Nat.le_of_ble_eq_true rfl, Nat.le_of_ble_eq_true rfl⟩ ⟨rfl, rfl⟩ ⟨Nat.zero_le _, Nat.zero_le _⟩ (c_X12_in (b := lN 0) (c := lN 1)) rfl rfl rfl rfl dX12_again_4 (fun v4 M4 hp4 => ?_)
  obtain ⟨rfl, hM⟩ := hp4
  obtain rfl := hM.symm
  clear hM
  refine x_if_ne h 12 dX12_again_7 (by decide) (fun c7 => ?_) (fun c7 => ?_)
  · exact absurd (b2i_0.mpr (in_no hx (by decide))) c7
  · refine x_icm1 h dX12_again_10 ?_
    exact x_iret h hQ rfl dX12_again_11 ⟨rfl, rfl, _, rfl, rfl, hI0, off_refl m M⟩
theorem c_X12_again_1 {Γ : GT} {G : GG} {M : MM} {m : Nat} (hF : mdF G M.2.2 m) {tx : Nat → Nat} {len : Nat} {pg : PGM} {su : SU} {hy : HY} {kp : KP} {ze : SE} {sd : Int64} (hI : mInv M m tx len pg su hy kp ze sd) {n : Nat} (hn : n < 2) (hk : kp n = none) : Calls Γ q_X12_again [.ref m, .int (nI n)] G M (rI (fun y M' => y = -3 ∧ mInv M' m (tx) (len) (pg) (su) (hy) (kp) (ze) (sd) ∧ offM m M M')) := by
  have hI0 := hI
  obtain ⟨iT, iP, iN, iD, iK, iS, iE, iC⟩ := hI
  have k0 : M.1 (m + 25) n = 0 := by rw [(iK n hn).1, hk]; rfl
  refine Calls.intro (by decide +kernel) (Nat.le_of_ble_eq_true rfl) (fun z E h hQ => ?_)
  refine x_loc (L' := [some (.ref m), some (.int (nI n)), none]) rfl ?_
  refine x_iload_n h dX12_again_0 rfl ?_
  refine x_i2l h dX12_again_1 ?_
  refine x_lc0 h dX12_again_2 ?_
  refine x_lc1 h dX12_again_3 ?_
  refine x_cSi h ci_X12_in sm_X12_in l_X12_114 ⟨Nat.le_of_ble_eq_true rfl, Nat.le_of_ble_eq_true rfl⟩ ⟨rfl, rfl⟩ ⟨Nat.zero_le _, Nat.zero_le _⟩ (c_X12_in (b := lN 0) (c := lN 1)) rfl rfl rfl rfl dX12_again_4 (fun v4 M4 hp4 => ?_)
  obtain ⟨rfl, hM⟩ := hp4
  obtain rfl := hM.symm
  clear hM
  refine x_if_ne h 12 dX12_again_7 (by decide) (fun c7 => ?_) (fun c7 => ?_)
  · refine x_aload_n h dX12_again_12 rfl ?_
    refine x_getR h hF.1 f_X12_82 rfl (md_isKept hF).1 dX12_again_13 ?_
    refine x_iload_n h dX12_again_16 rfl ?_
    refine x_zald h n (md_isKept hF).2 (ix.ni (by omega) (by decide)) dX12_again_17 ?_
    refine x_if_ne h 24 dX12_again_18 (by decide) (fun c18 => ?_) (fun c18 => ?_)
    · exact absurd k0 c18
    · refine x_bipush h (-3) (by decide) dX12_again_21 ?_
      exact x_iret h hQ rfl dX12_again_23 ⟨rfl, rfl, _, rfl, rfl, hI0, off_refl m M⟩
  · exact absurd (in_yes (n := n) (b := 1) (by omega) (by decide)) (by rw [b2i_0.mp c7]; decide)
theorem c_X12_again_2 {Γ : GT} {G : GG} {M : MM} {m : Nat} (hF : mdF G M.2.2 m) {tx : Nat → Nat} {len : Nat} {pg : PGM} {su : SU} {hy : HY} {kp : KP} {ze : SE} {sd : Int64} (hI : mInv M m tx len pg su hy kp ze sd) {n : Nat} (hn : n < 2) {s : SU} (hk : kp n = some s) : Calls Γ q_X12_again [.ref m, .int (nI n)] G M (rI (fun y M' => y = nI (fb_ct (fun i => s.2.testBit i) 5) ∧ mInv M' m (tx) (len) (pg) (s) ((0, hy.2)) (kp) (ze) (sd) ∧ offM m M M')) := by
  have hI0 := hI
  obtain ⟨iT, iP, iN, iD, iK, iS, iE, iC⟩ := hI
  have k0 : M.1 (m + 25) n = 1 := by rw [(iK n hn).1, hk]; rfl
  obtain ⟨sA, sO⟩ := (iK n hn).2 s hk
  have o32 := su32 sO iP.2.2.1.1
  obtain ⟨d1, d2, nx, d3, d4, d5⟩ := iD
  refine Calls.intro (by decide +kernel) (Nat.le_of_ble_eq_true rfl) (fun z E h hQ => ?_)
  refine x_loc (L' := [some (.ref m), some (.int (nI n)), none]) rfl ?_
  refine x_iload_n h dX12_again_0 rfl ?_
  refine x_i2l h dX12_again_1 ?_
  refine x_lc0 h dX12_again_2 ?_
  refine x_lc1 h dX12_again_3 ?_
  refine x_cSi h ci_X12_in sm_X12_in l_X12_114 ⟨Nat.le_of_ble_eq_true rfl, Nat.le_of_ble_eq_true rfl⟩ ⟨rfl, rfl⟩ ⟨Nat.zero_le _, Nat.zero_le _⟩ (c_X12_in (b := lN 0) (c := lN 1)) rfl rfl rfl rfl dX12_again_4 (fun v4 M4 hp4 => ?_)
  obtain ⟨rfl, hM⟩ := hp4
  obtain rfl := hM.symm
  clear hM
  refine x_if_ne h 12 dX12_again_7 (by decide) (fun c7 => ?_) (fun c7 => ?_)
  · refine x_aload_n h dX12_again_12 rfl ?_
    refine x_getR h hF.1 f_X12_82 rfl (md_isKept hF).1 dX12_again_13 ?_
    refine x_iload_n h dX12_again_16 rfl ?_
    refine x_zald h n (md_isKept hF).2 (ix.ni (by omega) (by decide)) dX12_again_17 ?_
    refine x_if_ne h 24 dX12_again_18 (by decide) (fun c18 => ?_) (fun c18 => ?_)
    · refine x_in0 h dX12_again_24 ?_
      refine x_istore_n h dX12_again_25 rfl rfl ?_
      dsimp only [List.set]
      refine x_iload_n h dX12_again_26 rfl ?_
      refine x_in4 h dX12_again_27 ?_
      refine x_icmp_ge h 53 dX12_again_28 (by decide) (fun c28 => ?_) (fun c28 => ?_)
      · exact absurd c28 (by decide)
      · refine x_aload_n h dX12_again_31 rfl ?_
        refine x_getR h hF.1 f_X12_70 rfl (md_now hF).1 dX12_again_32 ?_
        refine x_iload_n h dX12_again_35 rfl ?_
        refine x_aload_n h dX12_again_36 rfl ?_
        refine x_getR h hF.1 f_X12_79 rfl (md_kept hF).1 dX12_again_37 ?_
        refine x_in4 h dX12_again_40 ?_
        refine x_iload_n h dX12_again_41 rfl ?_
        refine x_imuln h  dX12_again_42 ?_
        refine x_iload_n h dX12_again_43 rfl ?_
        refine x_iaddn h  dX12_again_44 ?_
        refine x_ialdv h (4 * n + 0) (md_kept hF).2 (ix.ni (by omega) (by decide)) (show _ = nI (s.1 0) from by first | exact (sA.1 0 (by decide)) | (simp [sI, up2]; exact sA.1 0 (by decide))) dX12_again_45 ?_
        refine x_iast h 0 (md_now hF).2 (ix.ni (j := 0) (by decide) (by decide)) dX12_again_46 ?_
        refine x_incn h dX12_again_47 rfl rfl rfl ?_
        dsimp only [List.set]
        refine x_goto h 26 dX12_again_50 (by decide) ?_
        refine x_iload_n h dX12_again_26 rfl ?_
        refine x_in4 h dX12_again_27 ?_
        refine x_icmp_ge h 53 dX12_again_28 (by decide) (fun c28 => ?_) (fun c28 => ?_)
        · exact absurd c28 (by decide)
        · refine x_aload_n h dX12_again_31 rfl ?_
          refine x_getR h hF.1 f_X12_70 rfl (md_now hF).1 dX12_again_32 ?_
          refine x_iload_n h dX12_again_35 rfl ?_
          refine x_aload_n h dX12_again_36 rfl ?_
          refine x_getR h hF.1 f_X12_79 rfl (md_kept hF).1 dX12_again_37 ?_
          refine x_in4 h dX12_again_40 ?_
          refine x_iload_n h dX12_again_41 rfl ?_
          refine x_imuln h  dX12_again_42 ?_
          refine x_iload_n h dX12_again_43 rfl ?_
          refine x_iaddn h  dX12_again_44 ?_
          refine x_ialdv h (4 * n + 1) (md_kept hF).2 (ix.ni (by omega) (by decide)) (show _ = nI (s.1 1) from by first | exact (sA.1 1 (by decide)) | (simp [sI, up2]; exact sA.1 1 (by decide))) dX12_again_45 ?_
          refine x_iast h 1 (md_now hF).2 (ix.ni (j := 1) (by decide) (by decide)) dX12_again_46 ?_
          refine x_incn h dX12_again_47 rfl rfl rfl ?_
          dsimp only [List.set]
          refine x_goto h 26 dX12_again_50 (by decide) ?_
          refine x_iload_n h dX12_again_26 rfl ?_
          refine x_in4 h dX12_again_27 ?_
          refine x_icmp_ge h 53 dX12_again_28 (by decide) (fun c28 => ?_) (fun c28 => ?_)
          · exact absurd c28 (by decide)
          · refine x_aload_n h dX12_again_31 rfl ?_
            refine x_getR h hF.1 f_X12_70 rfl (md_now hF).1 dX12_again_32 ?_
            refine x_iload_n h dX12_again_35 rfl ?_
            refine x_aload_n h dX12_again_36 rfl ?_
            refine x_getR h hF.1 f_X12_79 rfl (md_kept hF).1 dX12_again_37 ?_
            refine x_in4 h dX12_again_40 ?_
            refine x_iload_n h dX12_again_41 rfl ?_
            refine x_imuln h  dX12_again_42 ?_
            refine x_iload_n h dX12_again_43 rfl ?_
            refine x_iaddn h  dX12_again_44 ?_
            refine x_ialdv h (4 * n + 2) (md_kept hF).2 (ix.ni (by omega) (by decide)) (show _ = nI (s.1 2) from by first | exact (sA.1 2 (by decide)) | (simp [sI, up2]; exact sA.1 2 (by decide))) dX12_again_45 ?_
            refine x_iast h 2 (md_now hF).2 (ix.ni (j := 2) (by decide) (by decide)) dX12_again_46 ?_
            refine x_incn h dX12_again_47 rfl rfl rfl ?_
            dsimp only [List.set]
            refine x_goto h 26 dX12_again_50 (by decide) ?_
            refine x_iload_n h dX12_again_26 rfl ?_
            refine x_in4 h dX12_again_27 ?_
            refine x_icmp_ge h 53 dX12_again_28 (by decide) (fun c28 => ?_) (fun c28 => ?_)
            · exact absurd c28 (by decide)
            · refine x_aload_n h dX12_again_31 rfl ?_
              refine x_getR h hF.1 f_X12_70 rfl (md_now hF).1 dX12_again_32 ?_
              refine x_iload_n h dX12_again_35 rfl ?_
              refine x_aload_n h dX12_again_36 rfl ?_
              refine x_getR h hF.1 f_X12_79 rfl (md_kept hF).1 dX12_again_37 ?_
              refine x_in4 h dX12_again_40 ?_
              refine x_iload_n h dX12_again_41 rfl ?_
              refine x_imuln h  dX12_again_42 ?_
              refine x_iload_n h dX12_again_43 rfl ?_
              refine x_iaddn h  dX12_again_44 ?_
              refine x_ialdv h (4 * n + 3) (md_kept hF).2 (ix.ni (by omega) (by decide)) (show _ = nI s.2 from by first | exact (sA.2) | (simp [sI, up2]; exact sA.2)) dX12_again_45 ?_
              refine x_iast h 3 (md_now hF).2 (ix.ni (j := 3) (by decide) (by decide)) dX12_again_46 ?_
              refine x_incn h dX12_again_47 rfl rfl rfl ?_
              dsimp only [List.set]
              refine x_goto h 26 dX12_again_50 (by decide) ?_
              refine x_iload_n h dX12_again_26 rfl ?_
              refine x_in4 h dX12_again_27 ?_
              refine x_icmp_ge h 53 dX12_again_28 (by decide) (fun c28 => ?_) (fun c28 => ?_)
              · refine x_aload_n h dX12_again_53 rfl ?_
                refine x_in0 h dX12_again_54 ?_
                refine x_putI h hF.1 f_X12_223 rfl rfl dX12_again_55 ?_
                refine x_aload_n h dX12_again_58 rfl ?_
                refine x_getR h hF.1 f_X12_70 rfl (md_now hF).1 dX12_again_59 ?_
                refine x_in3 h dX12_again_62 ?_
                refine x_ialdv h 3 (md_now hF).2 (ix.ni (j := 3) (by decide) (by decide)) (show _ = nI s.2 from by simp [sI, up2]) dX12_again_63 ?_
                refine x_cSi h ci_X12_ones sm_X12_ones l_X12_304 ⟨Nat.le_of_ble_eq_true rfl, Nat.le_of_ble_eq_true rfl⟩ ⟨rfl, rfl⟩ ⟨Nat.zero_le _, Nat.zero_le _⟩ (c_X12_ones o32) rfl rfl rfl rfl dX12_again_64 (fun v64 M64 hp64 => ?_)
                obtain ⟨rfl, hM⟩ := hp64
                obtain rfl := hM.symm
                clear hM
                refine x_iret h hQ rfl dX12_again_67 ⟨rfl, rfl, _, rfl, rfl, ⟨(mTx_cg iT (fun a j h => by simp only [sI, up2]; rw [if_neg (by omega), if_neg (by omega), if_neg (by omega), if_neg (by omega), if_neg (by omega)])), (mPg_cg iP (fun a j h => by simp only [sI, up2]; rw [if_neg (by omega), if_neg (by omega), if_neg (by omega), if_neg (by omega), if_neg (by omega)])), ⟨⟨fun v hv => ?_, by simp [sI, up2]⟩, sO⟩, ⟨Nat.zero_le _, by simp [sI, up2], nx, d3, by simp [sI, up2]; exact d4, fun i hi => absurd hi (Nat.not_lt_zero _)⟩, (mKp_cg iK (fun a j h => by simp only [sI, up2]; rw [if_neg (by omega), if_neg (by omega), if_neg (by omega), if_neg (by omega), if_neg (by omega)])), (mSn_cg iS (fun a j h => by simp only [sI, up2]; rw [if_neg (by omega), if_neg (by omega), if_neg (by omega), if_neg (by omega), if_neg (by omega)])), iE, (mCF_cg iC rfl)⟩, (off_I (off_I (off_I (off_I (off_I (off_refl m M) _ (by omega)) _ (by omega)) _ (by omega)) _ (by omega)) _ (by omega))⟩
                rcases (show v = 0 ∨ v = 1 ∨ v = 2 by omega) with rfl | rfl | rfl <;> simp [sI, up2]
              · exact absurd c28 (by decide)
    · exact absurd (k0.symm.trans (show _ = (0 : Int32) from c18)) (by decide)
  · exact absurd (in_yes (n := n) (b := 1) (by omega) (by decide)) (by rw [b2i_0.mp c7]; decide)
/-- the memory of a run: seed, state, node -/
def rnM (M : MM) (m : Nat) (x : Int64) (s nd : Nat) : MM := ((fun b j => if b = m ∧ j = 49 then nI s else if b = m ∧ j = 50 then nI nd else M.1 b j), (fun b j => if b = m ∧ j = 43 then x else M.2.1 b j), M.2.2)
theorem rn_s (M : MM) (m : Nat) (x : Int64) (s nd s' : Nat) : sI (rnM M m x s nd) m 49 (nI s') = rnM M m x s' nd := by
  show (_, _, M.2.2) = (_, _, M.2.2)
  congr 1
  funext b j
  simp only [up2]
  by_cases q : b = m ∧ j = 49
  · rw [if_pos q, if_pos q]
  · rw [if_neg q, if_neg q]; simp only [rnM, if_neg q]
theorem rn_n (M : MM) (m : Nat) (x : Int64) (s nd nd' : Nat) : sI (rnM M m x s nd) m 50 (nI nd') = rnM M m x s nd' := by
  show (_, _, M.2.2) = (_, _, M.2.2)
  congr 1
  funext b j
  simp only [up2]
  by_cases q : b = m ∧ j = 50
  · rw [if_pos q, if_neg (by omega), if_pos q]
  · rw [if_neg q]
    by_cases q2 : b = m ∧ j = 49
    · simp only [rnM, if_pos q2]
    · simp only [rnM, if_neg q2, if_neg q]
theorem rn_x (M : MM) (m : Nat) (x : Int64) (s nd : Nat) (x' : Int64) : sL (rnM M m x s nd) m 43 x' = rnM M m x' s nd := by
  show (_, _, M.2.2) = (_, _, M.2.2)
  congr 2
  funext b j
  simp only [up2]
  by_cases q : b = m ∧ j = 43
  · rw [if_pos q, if_pos q]
  · rw [if_neg q, if_neg q]; simp only [rnM, if_neg q]
theorem rn_0 (M : MM) (m : Nat) : sI (sI M m 49 (nI 0)) m 50 (nI 0) = rnM M m (M.2.1 m 43) 0 0 := by
  refine Prod.ext ?_ (Prod.ext ?_ rfl)
  · funext b j
    show (if b = m ∧ j = 50 then _ else if b = m ∧ j = 49 then _ else M.1 b j) = (if b = m ∧ j = 49 then _ else if b = m ∧ j = 50 then _ else M.1 b j)
    by_cases q : b = m ∧ j = 50
    · rw [if_pos q, if_neg (by omega), if_pos q]
    · rw [if_neg q]
      by_cases q2 : b = m ∧ j = 49
      · rw [if_pos q2, if_pos q2]
      · rw [if_neg q2, if_neg q2, if_neg q]
  · funext b j
    show M.2.1 b j = (if b = m ∧ j = 43 then _ else M.2.1 b j)
    by_cases q : b = m ∧ j = 43
    · rw [if_pos q, q.1, q.2]
    · rw [if_neg q]
theorem rn_I {M : MM} {m : Nat} {x : Int64} {s nd : Nat} {b j : Nat} (h : b ≠ m ∨ (j ≠ 49 ∧ j ≠ 50)) : (rnM M m x s nd).1 b j = M.1 b j := by
  show (if b = m ∧ j = 49 then _ else if b = m ∧ j = 50 then _ else M.1 b j) = _
  rw [if_neg (by omega), if_neg (by omega)]
theorem rn_Is (M : MM) (m : Nat) (x : Int64) (s nd : Nat) : (rnM M m x s nd).1 m 49 = nI s := if_pos ⟨rfl, rfl⟩
theorem rn_In (M : MM) (m : Nat) (x : Int64) (s nd : Nat) : (rnM M m x s nd).1 m 50 = nI nd := by
  show (if m = m ∧ 50 = 49 then _ else if m = m ∧ 50 = 50 then _ else _) = _
  rw [if_neg (by omega), if_pos ⟨rfl, rfl⟩]
theorem rn_Lx (M : MM) (m : Nat) (x : Int64) (s nd : Nat) : (rnM M m x s nd).2.1 m 43 = x := if_pos ⟨rfl, rfl⟩
theorem mpW_rn {M : MM} {m : Nat} {Q : AP} (h : mpW M m Q) (x : Int64) (s nd : Nat) : mpW (rnM M m x s nd) m Q := by
  obtain ⟨a, b, c⟩ := h
  refine ⟨a, (rn_I (by omega)).trans b, fun k hk => ?_⟩
  obtain ⟨c1, c2, c3, c4, c5, c6⟩ := c k hk
  exact ⟨(rn_I (by omega)).trans c1, (rn_I (by omega)).trans c2, (rn_I (by omega)).trans c3, (rn_I (by omega)).trans c4, (rn_I (by omega)).trans c5, (rn_I (by omega)).trans c6⟩
theorem c_X12_draw {Γ : GT} {G : GG} {M : MM} {m : Nat} (hF : mdF G M.2.2 m) {x : Int64} {s nd k : Nat} (h0 : 0 < k) (hk : k < 2 ^ 31) : Calls Γ q_X12_draw [.ref m, .int (nI k)] G (rnM M m x s nd) (rI (fun y M' => y = nI (drN x k) ∧ M' = rnM M m (lcg x) s nd)) := by
  refine Calls.intro (by decide +kernel) (Nat.le_of_ble_eq_true rfl) (fun z E h hQ => ?_)
  refine x_loc (L' := [some (.ref m), some (.int (nI k))]) rfl ?_
  refine x_aload_n h dX12_draw_0 rfl ?_
  refine x_aload_n h dX12_draw_1 rfl ?_
  refine x_get h hF.1 f_X12_387 (v := .long x) (congrArg Value.long (rn_Lx M m x s nd)) dX12_draw_2 ?_
  refine x_ldc2 h kl_X12_391 dX12_draw_5 ?_
  refine x_lmul h dX12_draw_8 ?_
  refine x_ldc2 h kl_X12_393 dX12_draw_9 ?_
  refine x_ladd h dX12_draw_12 ?_
  refine x_putL h hF.1 f_X12_387 rfl rfl dX12_draw_13 ?_
  refine x_aload_n h dX12_draw_16 rfl ?_
  refine x_mem (M' := rnM M m (lcg x) s nd) (rn_x M m x s nd (lcg x)) ?_
  refine x_get h hF.1 f_X12_387 (v := .long (lcg x)) (congrArg Value.long (rn_Lx M m (lcg x) s nd)) dX12_draw_17 ?_
  refine x_bipush h (nI 33) (by decide) dX12_draw_20 ?_
  refine x_lushr h dX12_draw_22 ?_
  refine x_iload_n h dX12_draw_23 rfl ?_
  refine x_i2l h dX12_draw_24 ?_
  refine x_lrem h (fun q => absurd (show (nI k).toInt64 = 0 from q) (by rw [nI_l hk]; intro q; have := (fb_lN_inj (Nat.lt_trans hk (by decide)) (by decide)).mp (show lN k = lN 0 from q); omega)) dX12_draw_25 ?_
  refine x_l2i h dX12_draw_26 ?_
  refine x_topi (dr_ok x h0 hk) ?_
  exact x_iret h hQ rfl dX12_draw_27 ⟨rfl, rfl, _, rfl, rfl, rfl⟩
def enI : Option Nat → Int32
  | none => -9
  | some e => nI e
/-- a step of a run: how it ends, if it does; seed, state, node -/
def stM (Q : AP) (nd s : Nat) (x : Int64) : Option Nat × Int64 × Nat × Nat :=
  if kA Q nd ≤ 2 then (none, x, dnM Q nd s 0, nd + 1)
  else if kA Q nd = 3 then (none, lcg x, dnM Q nd s (drN x 6), nd + 1)
  else if kA Q nd = 4 then ((if cndT (cA Q nd) s then none else some 2), x, s, nd + 1)
  else if kA Q nd = 5 then ((if cndT (cA Q nd) s then none else some 1), x, s, nd + 1)
  else if kA Q nd = 6 then (none, x, s, if cndT (cA Q nd) s then nd + 1 else lA Q nd)
  else if kA Q nd = 8 then (none, lcg x, s, if drN x 2 = 0 then nd + 1 else lA Q nd)
  else if kA Q nd = 10 then (none, x, s, nd + 1)
  else (none, x, s, lA Q nd)
theorem c_X12_step {Γ : GT} {G : GG} {M : MM} {m : Nat} (hF : mdF G M.2.2 m) {Q : AP} (hP : mpW M m Q) (hO : okM Q) {x : Int64} {s nd : Nat} (hk : nd < nA Q) (hs : s < 216) : Calls Γ q_X12_step [.ref m] G (rnM M m x s nd) (rI (fun y M' => y = enI (stM Q nd s x).1 ∧ M' = rnM M m (stM Q nd s x).2.1 (stM Q nd s x).2.2.1 (stM Q nd s x).2.2.2)) := by
  have hP0 := hP
  obtain ⟨q60, qn, qk⟩ := hP
  obtain ⟨q1, q2, q3, q4, q5, q6⟩ := qk nd hk
  obtain ⟨o1, o2, o3, o4, o5, o6, o7⟩ := hO nd hk
  refine Calls.intro (by decide +kernel) (Nat.le_of_ble_eq_true rfl) (fun z E h hQ => ?_)
  refine x_loc (L' := [some (.ref m), none]) rfl ?_
  refine x_aload_n h dX12_step_0 rfl ?_
  refine x_getIv h hF.1 f_X12_395 rfl (rn_In M m _ _ _) dX12_step_1 ?_
  refine x_istore_n h dX12_step_4 rfl rfl ?_
  dsimp only [List.set]
  refine x_aload_n h dX12_step_5 rfl ?_
  refine x_dup h rfl dX12_step_6 ?_
  refine x_getIv h hF.1 f_X12_395 rfl (rn_In M m _ _ _) dX12_step_7 ?_
  refine x_in1 h dX12_step_10 ?_
  refine x_iaddn h  dX12_step_11 ?_
  refine x_putI h hF.1 f_X12_395 rfl rfl dX12_step_12 ?_
  refine x_mem (rn_n M m _ _ _ _) ?_
  refine x_aload_n h dX12_step_15 rfl ?_
  refine x_getR h hF.1 f_X12_13 rfl (md_kind hF).1 dX12_step_16 ?_
  refine x_iload_n h dX12_step_19 rfl ?_
  refine x_ialdv h nd (md_kind hF).2 (ix.ni (j := nd) (by omega) (by decide)) ((rn_I (by omega)).trans q1) dX12_step_20 ?_
  rcases (show kA Q nd = 0 ∨ kA Q nd = 1 ∨ kA Q nd = 2 ∨ kA Q nd = 3 ∨ kA Q nd = 4 ∨ kA Q nd = 5 ∨ kA Q nd = 6 ∨ kA Q nd = 7 ∨ kA Q nd = 8 ∨ kA Q nd = 9 ∨ kA Q nd = 10 by omega) with hk0 | hk0 | hk0 | hk0 | hk0 | hk0 | hk0 | hk0 | hk0 | hk0 | hk0 <;> rw [hk0]
  · refine x_tin h 80 dX12_step_21 (by decide) (by decide) (off := 59) (by decide) (by decide) ?_
    refine x_aload_n h dX12_step_80 rfl ?_
    refine x_aload_n h dX12_step_81 rfl ?_
    refine x_iload_n h dX12_step_82 rfl ?_
    refine x_aload_n h dX12_step_83 rfl ?_
    refine x_getIv h hF.1 f_X12_398 rfl (rn_Is M m _ _ _) dX12_step_84 ?_
    refine x_in0 h dX12_step_87 ?_
    refine x_cVi h ci_X12_done im_X12_done l_X12_249 ⟨Nat.le_of_ble_eq_true rfl, Nat.le_of_ble_eq_true rfl⟩ ⟨rfl, rfl⟩ ⟨Nat.zero_le _, Nat.zero_le _⟩ (c_X12_done (M := rnM M m _ _ _) hF (mpW_rn hP0 _ _ _) hO (w := 0) hk hs (by omega)) rfl rfl rfl rfl hF.1 (by decide) rfl dX12_step_88 (fun v88 M88 hp88 => ?_)
    obtain ⟨rfl, hM⟩ := hp88
    obtain rfl := hM.symm
    clear hM
    refine x_putI h hF.1 f_X12_398 rfl rfl dX12_step_91 ?_
    refine x_mem (rn_s M m _ _ _ _) ?_
    refine x_bipush h (-9) (by decide) dX12_step_94 ?_
    exact x_iret h hQ rfl dX12_step_96 ⟨rfl, rfl, _, rfl, by simp only [stM, hk0]; rfl, by simp only [stM, hk0]; rfl⟩
  · refine x_tin h 80 dX12_step_21 (by decide) (by decide) (off := 59) (by decide) (by decide) ?_
    refine x_aload_n h dX12_step_80 rfl ?_
    refine x_aload_n h dX12_step_81 rfl ?_
    refine x_iload_n h dX12_step_82 rfl ?_
    refine x_aload_n h dX12_step_83 rfl ?_
    refine x_getIv h hF.1 f_X12_398 rfl (rn_Is M m _ _ _) dX12_step_84 ?_
    refine x_in0 h dX12_step_87 ?_
    refine x_cVi h ci_X12_done im_X12_done l_X12_249 ⟨Nat.le_of_ble_eq_true rfl, Nat.le_of_ble_eq_true rfl⟩ ⟨rfl, rfl⟩ ⟨Nat.zero_le _, Nat.zero_le _⟩ (c_X12_done (M := rnM M m _ _ _) hF (mpW_rn hP0 _ _ _) hO (w := 0) hk hs (by omega)) rfl rfl rfl rfl hF.1 (by decide) rfl dX12_step_88 (fun v88 M88 hp88 => ?_)
    obtain ⟨rfl, hM⟩ := hp88
    obtain rfl := hM.symm
    clear hM
    refine x_putI h hF.1 f_X12_398 rfl rfl dX12_step_91 ?_
    refine x_mem (rn_s M m _ _ _ _) ?_
    refine x_bipush h (-9) (by decide) dX12_step_94 ?_
    exact x_iret h hQ rfl dX12_step_96 ⟨rfl, rfl, _, rfl, by simp only [stM, hk0]; rfl, by simp only [stM, hk0]; rfl⟩
  · refine x_tin h 80 dX12_step_21 (by decide) (by decide) (off := 59) (by decide) (by decide) ?_
    refine x_aload_n h dX12_step_80 rfl ?_
    refine x_aload_n h dX12_step_81 rfl ?_
    refine x_iload_n h dX12_step_82 rfl ?_
    refine x_aload_n h dX12_step_83 rfl ?_
    refine x_getIv h hF.1 f_X12_398 rfl (rn_Is M m _ _ _) dX12_step_84 ?_
    refine x_in0 h dX12_step_87 ?_
    refine x_cVi h ci_X12_done im_X12_done l_X12_249 ⟨Nat.le_of_ble_eq_true rfl, Nat.le_of_ble_eq_true rfl⟩ ⟨rfl, rfl⟩ ⟨Nat.zero_le _, Nat.zero_le _⟩ (c_X12_done (M := rnM M m _ _ _) hF (mpW_rn hP0 _ _ _) hO (w := 0) hk hs (by omega)) rfl rfl rfl rfl hF.1 (by decide) rfl dX12_step_88 (fun v88 M88 hp88 => ?_)
    obtain ⟨rfl, hM⟩ := hp88
    obtain rfl := hM.symm
    clear hM
    refine x_putI h hF.1 f_X12_398 rfl rfl dX12_step_91 ?_
    refine x_mem (rn_s M m _ _ _ _) ?_
    refine x_bipush h (-9) (by decide) dX12_step_94 ?_
    exact x_iret h hQ rfl dX12_step_96 ⟨rfl, rfl, _, rfl, by simp only [stM, hk0]; rfl, by simp only [stM, hk0]; rfl⟩
  · refine x_tin h 97 dX12_step_21 (by decide) (by decide) (off := 76) (by decide) (by decide) ?_
    refine x_aload_n h dX12_step_97 rfl ?_
    refine x_aload_n h dX12_step_98 rfl ?_
    refine x_iload_n h dX12_step_99 rfl ?_
    refine x_aload_n h dX12_step_100 rfl ?_
    refine x_getIv h hF.1 f_X12_398 rfl (rn_Is M m _ _ _) dX12_step_101 ?_
    refine x_aload_n h dX12_step_104 rfl ?_
    refine x_bipush h (nI 6) (by decide) dX12_step_105 ?_
    refine x_cVi h ci_X12_draw im_X12_draw l_X12_401 ⟨Nat.le_of_ble_eq_true rfl, Nat.le_of_ble_eq_true rfl⟩ ⟨rfl, rfl⟩ ⟨Nat.zero_le _, Nat.zero_le _⟩ (c_X12_draw hF (k := 6) (by decide) (by decide)) rfl rfl rfl rfl hF.1 (by decide) rfl dX12_step_107 (fun v107 M107 hp107 => ?_)
    obtain ⟨rfl, hM⟩ := hp107
    subst hM
    refine x_cVi h ci_X12_done im_X12_done l_X12_249 ⟨Nat.le_of_ble_eq_true rfl, Nat.le_of_ble_eq_true rfl⟩ ⟨rfl, rfl⟩ ⟨Nat.zero_le _, Nat.zero_le _⟩ (c_X12_done (M := rnM M m _ _ _) hF (mpW_rn hP0 _ _ _) hO (w := drN x 6) hk hs (by omega)) rfl rfl rfl rfl hF.1 (by decide) rfl dX12_step_110 (fun v110 M110 hp110 => ?_)
    obtain ⟨rfl, hM⟩ := hp110
    obtain rfl := hM.symm
    clear hM
    refine x_putI h hF.1 f_X12_398 rfl rfl dX12_step_113 ?_
    refine x_mem (rn_s M m _ _ _ _) ?_
    refine x_bipush h (-9) (by decide) dX12_step_116 ?_
    exact x_iret h hQ rfl dX12_step_118 ⟨rfl, rfl, _, rfl, by simp only [stM, hk0]; rfl, by simp only [stM, hk0]; rfl⟩
  · refine x_tin h 119 dX12_step_21 (by decide) (by decide) (off := 98) (by decide) (by decide) ?_
    refine x_aload_n h dX12_step_119 rfl ?_
    refine x_iload_n h dX12_step_120 rfl ?_
    refine x_aload_n h dX12_step_121 rfl ?_
    refine x_getIv h hF.1 f_X12_398 rfl (rn_Is M m _ _ _) dX12_step_122 ?_
    refine x_cVi h ci_X12_isSo im_X12_isSo l_X12_255 ⟨Nat.le_of_ble_eq_true rfl, Nat.le_of_ble_eq_true rfl⟩ ⟨rfl, rfl⟩ ⟨Nat.zero_le _, Nat.zero_le _⟩ (c_X12_isSo (M := rnM M m _ _ _) hF (mpW_rn hP0 _ _ _) hO hk hs (by omega) (by omega)) rfl rfl rfl rfl hF.1 (by decide) rfl dX12_step_125 (fun v125 M125 hp125 => ?_)
    obtain ⟨rfl, hM⟩ := hp125
    obtain rfl := hM.symm
    clear hM
    refine x_if_eq h 136 dX12_step_128 (by decide) (fun c128 => ?_) (fun c128 => ?_)
    · have e := b2i_0.mp c128
      refine x_ic2 h dX12_step_136 ?_
      exact x_iret h hQ rfl dX12_step_137 ⟨rfl, rfl, _, rfl, by simp only [stM, hk0, e]; rfl, by simp only [stM, hk0, e]; rfl⟩
    · have e := bool_nf (fun q => c128 (b2i_0.mpr q))
      refine x_bipush h (-9) (by decide) dX12_step_131 ?_
      refine x_goto h 137 dX12_step_133 (by decide) ?_
      exact x_iret h hQ rfl dX12_step_137 ⟨rfl, rfl, _, rfl, by simp only [stM, hk0, e]; rfl, by simp only [stM, hk0, e]; rfl⟩
  · refine x_tin h 138 dX12_step_21 (by decide) (by decide) (off := 117) (by decide) (by decide) ?_
    refine x_aload_n h dX12_step_138 rfl ?_
    refine x_iload_n h dX12_step_139 rfl ?_
    refine x_aload_n h dX12_step_140 rfl ?_
    refine x_getIv h hF.1 f_X12_398 rfl (rn_Is M m _ _ _) dX12_step_141 ?_
    refine x_cVi h ci_X12_isSo im_X12_isSo l_X12_255 ⟨Nat.le_of_ble_eq_true rfl, Nat.le_of_ble_eq_true rfl⟩ ⟨rfl, rfl⟩ ⟨Nat.zero_le _, Nat.zero_le _⟩ (c_X12_isSo (M := rnM M m _ _ _) hF (mpW_rn hP0 _ _ _) hO hk hs (by omega) (by omega)) rfl rfl rfl rfl hF.1 (by decide) rfl dX12_step_144 (fun v144 M144 hp144 => ?_)
    obtain ⟨rfl, hM⟩ := hp144
    obtain rfl := hM.symm
    clear hM
    refine x_if_eq h 155 dX12_step_147 (by decide) (fun c147 => ?_) (fun c147 => ?_)
    · have e := b2i_0.mp c147
      refine x_ic1 h dX12_step_155 ?_
      exact x_iret h hQ rfl dX12_step_156 ⟨rfl, rfl, _, rfl, by simp only [stM, hk0, e]; rfl, by simp only [stM, hk0, e]; rfl⟩
    · have e := bool_nf (fun q => c147 (b2i_0.mpr q))
      refine x_bipush h (-9) (by decide) dX12_step_150 ?_
      refine x_goto h 156 dX12_step_152 (by decide) ?_
      exact x_iret h hQ rfl dX12_step_156 ⟨rfl, rfl, _, rfl, by simp only [stM, hk0, e]; rfl, by simp only [stM, hk0, e]; rfl⟩
  · refine x_tin h 157 dX12_step_21 (by decide) (by decide) (off := 136) (by decide) (by decide) ?_
    refine x_aload_n h dX12_step_157 rfl ?_
    refine x_aload_n h dX12_step_158 rfl ?_
    refine x_iload_n h dX12_step_159 rfl ?_
    refine x_aload_n h dX12_step_160 rfl ?_
    refine x_getIv h hF.1 f_X12_398 rfl (rn_Is M m _ _ _) dX12_step_161 ?_
    refine x_cVi h ci_X12_isSo im_X12_isSo l_X12_255 ⟨Nat.le_of_ble_eq_true rfl, Nat.le_of_ble_eq_true rfl⟩ ⟨rfl, rfl⟩ ⟨Nat.zero_le _, Nat.zero_le _⟩ (c_X12_isSo (M := rnM M m _ _ _) hF (mpW_rn hP0 _ _ _) hO hk hs (by omega) (by omega)) rfl rfl rfl rfl hF.1 (by decide) rfl dX12_step_164 (fun v164 M164 hp164 => ?_)
    obtain ⟨rfl, hM⟩ := hp164
    obtain rfl := hM.symm
    clear hM
    refine x_if_eq h 176 dX12_step_167 (by decide) (fun c167 => ?_) (fun c167 => ?_)
    · have e := b2i_0.mp c167
      refine x_aload_n h dX12_step_176 rfl ?_
      refine x_getR h hF.1 f_X12_28 rfl (md_leads hF).1 dX12_step_177 ?_
      refine x_iload_n h dX12_step_180 rfl ?_
      refine x_ialdv h nd (md_leads hF).2 (ix.ni (j := nd) (by omega) (by decide)) ((rn_I (by omega)).trans q6) dX12_step_181 ?_
      refine x_putI h hF.1 f_X12_395 rfl rfl dX12_step_182 ?_
      refine x_mem (rn_n M m _ _ _ _) ?_
      refine x_bipush h (-9) (by decide) dX12_step_185 ?_
      exact x_iret h hQ rfl dX12_step_187 ⟨rfl, rfl, _, rfl, by simp only [stM, hk0, e]; rfl, by simp only [stM, hk0, e]; rfl⟩
    · have e := bool_nf (fun q => c167 (b2i_0.mpr q))
      refine x_iload_n h dX12_step_170 rfl ?_
      refine x_in1 h dX12_step_171 ?_
      refine x_iaddn h  dX12_step_172 ?_
      refine x_goto h 182 dX12_step_173 (by decide) ?_
      refine x_putI h hF.1 f_X12_395 rfl rfl dX12_step_182 ?_
      refine x_mem (rn_n M m _ _ _ _) ?_
      refine x_bipush h (-9) (by decide) dX12_step_185 ?_
      exact x_iret h hQ rfl dX12_step_187 ⟨rfl, rfl, _, rfl, by simp only [stM, hk0, e]; rfl, by simp only [stM, hk0, e]; rfl⟩
  · refine x_tin h 218 dX12_step_21 (by decide) (by decide) (off := 197) (by decide) (by decide) ?_
    refine x_aload_n h dX12_step_218 rfl ?_
    refine x_aload_n h dX12_step_219 rfl ?_
    refine x_getR h hF.1 f_X12_28 rfl (md_leads hF).1 dX12_step_220 ?_
    refine x_iload_n h dX12_step_223 rfl ?_
    refine x_ialdv h nd (md_leads hF).2 (ix.ni (j := nd) (by omega) (by decide)) ((rn_I (by omega)).trans q6) dX12_step_224 ?_
    refine x_putI h hF.1 f_X12_395 rfl rfl dX12_step_225 ?_
    refine x_mem (rn_n M m _ _ _ _) ?_
    refine x_bipush h (-9) (by decide) dX12_step_228 ?_
    exact x_iret h hQ rfl dX12_step_230 ⟨rfl, rfl, _, rfl, by simp only [stM, hk0]; rfl, by simp only [stM, hk0]; rfl⟩
  · refine x_tin h 188 dX12_step_21 (by decide) (by decide) (off := 167) (by decide) (by decide) ?_
    refine x_aload_n h dX12_step_188 rfl ?_
    refine x_aload_n h dX12_step_189 rfl ?_
    refine x_in2 h dX12_step_190 ?_
    refine x_cVi h ci_X12_draw im_X12_draw l_X12_401 ⟨Nat.le_of_ble_eq_true rfl, Nat.le_of_ble_eq_true rfl⟩ ⟨rfl, rfl⟩ ⟨Nat.zero_le _, Nat.zero_le _⟩ (c_X12_draw hF (k := 2) (by decide) (by decide)) rfl rfl rfl rfl hF.1 (by decide) rfl dX12_step_191 (fun v191 M191 hp191 => ?_)
    obtain ⟨rfl, hM⟩ := hp191
    subst hM
    refine x_if_ne h 203 dX12_step_194 (by decide) (fun c194 => ?_) (fun c194 => ?_)
    · have e : ¬ drN x 2 = 0 := fun q => c194 (by rw [q]; exact nI_0)
      refine x_aload_n h dX12_step_203 rfl ?_
      refine x_getR h hF.1 f_X12_28 rfl (md_leads hF).1 dX12_step_204 ?_
      refine x_iload_n h dX12_step_207 rfl ?_
      refine x_ialdv h nd (md_leads hF).2 (ix.ni (j := nd) (by omega) (by decide)) ((rn_I (by omega)).trans q6) dX12_step_208 ?_
      refine x_putI h hF.1 f_X12_395 rfl rfl dX12_step_209 ?_
      refine x_mem (rn_n M m _ _ _ _) ?_
      refine x_bipush h (-9) (by decide) dX12_step_212 ?_
      exact x_iret h hQ rfl dX12_step_214 ⟨rfl, rfl, _, rfl, by simp only [stM, hk0, e]; rfl, by simp only [stM, hk0, e]; rfl⟩
    · have e : drN x 2 = 0 := nI_small 0 (Nat.lt_trans (Nat.mod_lt _ (by decide)) (by decide)) (by decide) (c194.trans nI_0.symm)
      refine x_iload_n h dX12_step_197 rfl ?_
      refine x_in1 h dX12_step_198 ?_
      refine x_iaddn h  dX12_step_199 ?_
      refine x_goto h 209 dX12_step_200 (by decide) ?_
      refine x_putI h hF.1 f_X12_395 rfl rfl dX12_step_209 ?_
      refine x_mem (rn_n M m _ _ _ _) ?_
      refine x_bipush h (-9) (by decide) dX12_step_212 ?_
      exact x_iret h hQ rfl dX12_step_214 ⟨rfl, rfl, _, rfl, by simp only [stM, hk0, e]; rfl, by simp only [stM, hk0, e]; rfl⟩
  · refine x_tin h 218 dX12_step_21 (by decide) (by decide) (off := 197) (by decide) (by decide) ?_
    refine x_aload_n h dX12_step_218 rfl ?_
    refine x_aload_n h dX12_step_219 rfl ?_
    refine x_getR h hF.1 f_X12_28 rfl (md_leads hF).1 dX12_step_220 ?_
    refine x_iload_n h dX12_step_223 rfl ?_
    refine x_ialdv h nd (md_leads hF).2 (ix.ni (j := nd) (by omega) (by decide)) ((rn_I (by omega)).trans q6) dX12_step_224 ?_
    refine x_putI h hF.1 f_X12_395 rfl rfl dX12_step_225 ?_
    refine x_mem (rn_n M m _ _ _ _) ?_
    refine x_bipush h (-9) (by decide) dX12_step_228 ?_
    exact x_iret h hQ rfl dX12_step_230 ⟨rfl, rfl, _, rfl, by simp only [stM, hk0]; rfl, by simp only [stM, hk0]; rfl⟩
  · refine x_tin h 215 dX12_step_21 (by decide) (by decide) (off := 194) (by decide) (by decide) ?_
    refine x_bipush h (-9) (by decide) dX12_step_215 ?_
    exact x_iret h hQ rfl dX12_step_217 ⟨rfl, rfl, _, rfl, by simp only [stM, hk0]; rfl, by simp only [stM, hk0]; rfl⟩
