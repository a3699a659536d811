/-! ===== the reference: doings, undone, kept ===== -/
/-- a setup noted behind the others; of fourteen the oldest is forgotten -/
def nteH (hy : HY) (su : SU) : HY := if hy.1 < 14 then (hy.1 + 1, fun i => if i = hy.1 then su else hy.2 i) else (14, fun i => if i = 13 then su else hy.2 (i + 1))
theorem fa_xor (a b : Nat) : nI a ^^^ nI b = nI (a ^^^ b) := by
  apply Int32.toBitVec_inj.mp
  rw [Int32.toBitVec_xor]
  show BitVec.ofNat 32 a ^^^ BitVec.ofNat 32 b = BitVec.ofNat 32 (a ^^^ b)
  apply BitVec.eq_of_getLsbD_eq
  intro i hi
  simp [BitVec.getLsbD_ofNat, Nat.testBit_xor, hi]
theorem nte_dy {M : MM} {m ng : Nat} {hy : HY} {su : SU} {nx : Nat} (hn : nx < 14) (h1 : hy.1 ≤ 14) (hq : ∀ i, i < hy.1 → suA M (m + 23) (4 * ((nx + 14 - hy.1 + i) % 14)) (hy.2 i) ∧ suOk ng (hy.2 i)) (hsu : suOk ng su) {N : MM} (e0 : N.1 m 36 = nI (nteH hy su).1) (e1 : N.1 m 37 = nI ((nx + 1) % 14)) (e2 : suA N (m + 23) (4 * nx) su) (e3 : ∀ j, j < 4 * nx ∨ 4 * nx + 4 ≤ j → N.1 (m + 23) j = M.1 (m + 23) j) : mDy N m ng (nteH hy su) := by
  unfold nteH at e0 ⊢
  by_cases q : hy.1 < 14
  · rw [if_pos q] at e0 ⊢
    refine ⟨by show hy.1 + 1 ≤ 14; omega, e0, (nx + 1) % 14, Nat.mod_lt _ (by decide), e1, fun i hi => ?_⟩
    have hi' : i < hy.1 + 1 := hi
    show suA N (m + 23) (4 * (((nx + 1) % 14 + 14 - (hy.1 + 1) + i) % 14)) (if i = hy.1 then su else hy.2 i) ∧ suOk ng (if i = hy.1 then su else hy.2 i)
    by_cases q2 : i = hy.1
    · rw [if_pos q2, show ((nx + 1) % 14 + 14 - (hy.1 + 1) + i) % 14 = nx by omega]
      exact ⟨e2, hsu⟩
    · rw [if_neg q2, show ((nx + 1) % 14 + 14 - (hy.1 + 1) + i) % 14 = (nx + 14 - hy.1 + i) % 14 by omega]
      have a := hq i (by omega)
      exact ⟨suA_cg a.1 (fun j h5 h6 => e3 j (by omega)), a.2⟩
  · rw [if_neg q] at e0 ⊢
    have e14 : hy.1 = 14 := by omega
    refine ⟨Nat.le_refl _, e0, (nx + 1) % 14, Nat.mod_lt _ (by decide), e1, fun i hi => ?_⟩
    have hi' : i < 14 := hi
    show suA N (m + 23) (4 * (((nx + 1) % 14 + 14 - 14 + i) % 14)) (if i = 13 then su else hy.2 (i + 1)) ∧ suOk ng (if i = 13 then su else hy.2 (i + 1))
    by_cases q2 : i = 13
    · rw [if_pos q2, show ((nx + 1) % 14 + 14 - 14 + i) % 14 = nx by omega]
      exact ⟨e2, hsu⟩
    · rw [if_neg q2, show ((nx + 1) % 14 + 14 - 14 + i) % 14 = (nx + 14 - hy.1 + (i + 1)) % 14 by omega]
      have a := hq (i + 1) (by omega)
      exact ⟨suA_cg a.1 (fun j h5 h6 => e3 j (by omega)), a.2⟩
theorem c_X12_note {Γ : GT} {G : GG} {M : MM} {m : Nat} (hF : mdF G M.2.2 m) {tx : Nat → Nat} {len : Nat} {pg : PGM} {su : SU} {hy : HY} {kp : KP} {ze : SE} {sd : Int64} (hI : mInv M m tx len pg su hy kp ze sd) : Calls Γ q_X12_note [.ref m] G M (rV (fun M' => mInv M' m (tx) (len) (pg) (su) (nteH hy su) (kp) (ze) (sd) ∧ offM m M M')) := by
  have hI0 := hI
  obtain ⟨iT, iP, iN, iD, iK, iS, iE, iC⟩ := hI
  have n0 : M.1 (m + 21) 0 = nI (su.1 0) := iN.1.1 0 (by decide)
  have n1 : M.1 (m + 21) 1 = nI (su.1 1) := iN.1.1 1 (by decide)
  have n2 : M.1 (m + 21) 2 = nI (su.1 2) := iN.1.1 2 (by decide)
  have n3 : M.1 (m + 21) 3 = nI su.2 := iN.1.2
  obtain ⟨d1, d2, nx, d3, d4, d5⟩ := iD
  refine Calls.intro (by decide +kernel) (Nat.le_of_ble_eq_true rfl) (fun z E h hQ => ?_)
  refine x_loc (L' := [some (.ref m), none]) rfl ?_
  refine x_in0 h dX12_note_0 ?_
  refine x_istore_n h dX12_note_1 rfl rfl ?_
  dsimp only [List.set]
  refine x_iload_n h dX12_note_2 rfl ?_
  refine x_in4 h dX12_note_3 ?_
  refine x_icmp_ge h 32 dX12_note_4 (by decide) (fun c4 => ?_) (fun c4 => ?_)
  · exact absurd c4 (by decide)
  · refine x_aload_n h dX12_note_7 rfl ?_
    refine x_getR h hF.1 f_X12_76 rfl (md_diary hF).1 dX12_note_8 ?_
    refine x_in4 h dX12_note_11 ?_
    refine x_aload_n h dX12_note_12 rfl ?_
    refine x_getIv h hF.1 f_X12_326 rfl (show _ = nI nx from by first | exact d4 | (simp [sI, up2]; exact d4)) dX12_note_13 ?_
    refine x_imuln h  dX12_note_16 ?_
    refine x_iload_n h dX12_note_17 rfl ?_
    refine x_iaddn h  dX12_note_18 ?_
    refine x_aload_n h dX12_note_19 rfl ?_
    refine x_getR h hF.1 f_X12_70 rfl (md_now hF).1 dX12_note_20 ?_
    refine x_iload_n h dX12_note_23 rfl ?_
    refine x_ialdv h 0 (md_now hF).2 (ix.ni (j := 0) (by decide) (by decide)) (show _ = nI (su.1 0) from by first | exact n0 | (simp [sI, up2]; exact n0)) dX12_note_24 ?_
    refine x_iast h (4 * nx + 0) (md_diary hF).2 (ix.ni (by omega) (by decide)) dX12_note_25 ?_
    refine x_incn h dX12_note_26 rfl rfl rfl ?_
    dsimp only [List.set]
    refine x_goto h 2 dX12_note_29 (by decide) ?_
    refine x_iload_n h dX12_note_2 rfl ?_
    refine x_in4 h dX12_note_3 ?_
    refine x_icmp_ge h 32 dX12_note_4 (by decide) (fun c4 => ?_) (fun c4 => ?_)
    · exact absurd c4 (by decide)
    · refine x_aload_n h dX12_note_7 rfl ?_
      refine x_getR h hF.1 f_X12_76 rfl (md_diary hF).1 dX12_note_8 ?_
      refine x_in4 h dX12_note_11 ?_
      refine x_aload_n h dX12_note_12 rfl ?_
      refine x_getIv h hF.1 f_X12_326 rfl (show _ = nI nx from by first | exact d4 | (simp [sI, up2]; exact d4)) dX12_note_13 ?_
      refine x_imuln h  dX12_note_16 ?_
      refine x_iload_n h dX12_note_17 rfl ?_
      refine x_iaddn h  dX12_note_18 ?_
      refine x_aload_n h dX12_note_19 rfl ?_
      refine x_getR h hF.1 f_X12_70 rfl (md_now hF).1 dX12_note_20 ?_
      refine x_iload_n h dX12_note_23 rfl ?_
      refine x_ialdv h 1 (md_now hF).2 (ix.ni (j := 1) (by decide) (by decide)) (show _ = nI (su.1 1) from by first | exact n1 | (simp [sI, up2]; exact n1)) dX12_note_24 ?_
      refine x_iast h (4 * nx + 1) (md_diary hF).2 (ix.ni (by omega) (by decide)) dX12_note_25 ?_
      refine x_incn h dX12_note_26 rfl rfl rfl ?_
      dsimp only [List.set]
      refine x_goto h 2 dX12_note_29 (by decide) ?_
      refine x_iload_n h dX12_note_2 rfl ?_
      refine x_in4 h dX12_note_3 ?_
      refine x_icmp_ge h 32 dX12_note_4 (by decide) (fun c4 => ?_) (fun c4 => ?_)
      · exact absurd c4 (by decide)
      · refine x_aload_n h dX12_note_7 rfl ?_
        refine x_getR h hF.1 f_X12_76 rfl (md_diary hF).1 dX12_note_8 ?_
        refine x_in4 h dX12_note_11 ?_
        refine x_aload_n h dX12_note_12 rfl ?_
        refine x_getIv h hF.1 f_X12_326 rfl (show _ = nI nx from by first | exact d4 | (simp [sI, up2]; exact d4)) dX12_note_13 ?_
        refine x_imuln h  dX12_note_16 ?_
        refine x_iload_n h dX12_note_17 rfl ?_
        refine x_iaddn h  dX12_note_18 ?_
        refine x_aload_n h dX12_note_19 rfl ?_
        refine x_getR h hF.1 f_X12_70 rfl (md_now hF).1 dX12_note_20 ?_
        refine x_iload_n h dX12_note_23 rfl ?_
        refine x_ialdv h 2 (md_now hF).2 (ix.ni (j := 2) (by decide) (by decide)) (show _ = nI (su.1 2) from by first | exact n2 | (simp [sI, up2]; exact n2)) dX12_note_24 ?_
        refine x_iast h (4 * nx + 2) (md_diary hF).2 (ix.ni (by omega) (by decide)) dX12_note_25 ?_
        refine x_incn h dX12_note_26 rfl rfl rfl ?_
        dsimp only [List.set]
        refine x_goto h 2 dX12_note_29 (by decide) ?_
        refine x_iload_n h dX12_note_2 rfl ?_
        refine x_in4 h dX12_note_3 ?_
        refine x_icmp_ge h 32 dX12_note_4 (by decide) (fun c4 => ?_) (fun c4 => ?_)
        · exact absurd c4 (by decide)
        · refine x_aload_n h dX12_note_7 rfl ?_
          refine x_getR h hF.1 f_X12_76 rfl (md_diary hF).1 dX12_note_8 ?_
          refine x_in4 h dX12_note_11 ?_
          refine x_aload_n h dX12_note_12 rfl ?_
          refine x_getIv h hF.1 f_X12_326 rfl (show _ = nI nx from by first | exact d4 | (simp [sI, up2]; exact d4)) dX12_note_13 ?_
          refine x_imuln h  dX12_note_16 ?_
          refine x_iload_n h dX12_note_17 rfl ?_
          refine x_iaddn h  dX12_note_18 ?_
          refine x_aload_n h dX12_note_19 rfl ?_
          refine x_getR h hF.1 f_X12_70 rfl (md_now hF).1 dX12_note_20 ?_
          refine x_iload_n h dX12_note_23 rfl ?_
          refine x_ialdv h 3 (md_now hF).2 (ix.ni (j := 3) (by decide) (by decide)) (show _ = nI su.2 from by first | exact n3 | (simp [sI, up2]; exact n3)) dX12_note_24 ?_
          refine x_iast h (4 * nx + 3) (md_diary hF).2 (ix.ni (by omega) (by decide)) dX12_note_25 ?_
          refine x_incn h dX12_note_26 rfl rfl rfl ?_
          dsimp only [List.set]
          refine x_goto h 2 dX12_note_29 (by decide) ?_
          refine x_iload_n h dX12_note_2 rfl ?_
          refine x_in4 h dX12_note_3 ?_
          refine x_icmp_ge h 32 dX12_note_4 (by decide) (fun c4 => ?_) (fun c4 => ?_)
          · refine x_aload_n h dX12_note_32 rfl ?_
            refine x_aload_n h dX12_note_33 rfl ?_
            refine x_getIv h hF.1 f_X12_326 rfl (show _ = nI nx from by simp [sI, up2]; exact d4) dX12_note_34 ?_
            refine x_in1 h dX12_note_37 ?_
            refine x_iaddn h  dX12_note_38 ?_
            refine x_bipush h (nI 14) (by decide) dX12_note_39 ?_
            refine x_iremn h ⟨by omega, by decide, by decide⟩ dX12_note_41 ?_
            refine x_putI h hF.1 f_X12_326 rfl rfl dX12_note_42 ?_
            refine x_aload_n h dX12_note_45 rfl ?_
            refine x_aload_n h dX12_note_46 rfl ?_
            refine x_getIv h hF.1 f_X12_223 rfl (show _ = nI hy.1 from by simp [sI, up2]; exact d2) dX12_note_47 ?_
            refine x_bipush h (nI 14) (by decide) dX12_note_50 ?_
            refine x_icmp_ge h 64 dX12_note_52 (by decide) (fun c52 => ?_) (fun c52 => ?_)
            · have c52e : ¬ hy.1 < 14 := fun q => absurd ((nI_le_iff (a := 14) (b := hy.1) (by decide) (by omega)).mp c52) (by omega)
              refine x_bipush h (nI 14) (by decide) dX12_note_64 ?_
              refine x_putI h hF.1 f_X12_223 rfl rfl dX12_note_66 ?_
              refine x_vret h hQ rfl dX12_note_69 ⟨rfl, rfl, rfl, ⟨(mTx_cg iT (fun a j h => by simp only [sI, up2]; rw [if_neg (by omega), if_neg (by omega), if_neg (by omega), if_neg (by omega), if_neg (by omega), if_neg (by omega)])), (mPg_cg iP (fun a j h => by simp only [sI, up2]; rw [if_neg (by omega), if_neg (by omega), if_neg (by omega), if_neg (by omega), if_neg (by omega), if_neg (by omega)])), (mNw_cg iN (fun a j h => by simp only [sI, up2]; rw [if_neg (by omega), if_neg (by omega), if_neg (by omega), if_neg (by omega), if_neg (by omega), if_neg (by omega)])), nte_dy d3 d1 d5 iN.2 ?_ (by simp [sI, up2]) ⟨fun v hv => ?_, by simp [sI, up2]⟩ (fun j hj => by simp only [sI, up2]; rw [if_neg (by omega), if_neg (by omega), if_neg (by omega), if_neg (by omega), if_neg (by omega), if_neg (by omega)]), (mKp_cg iK (fun a j h => by simp only [sI, up2]; rw [if_neg (by omega), if_neg (by omega), if_neg (by omega), if_neg (by omega), if_neg (by omega), if_neg (by omega)])), (mSn_cg iS (fun a j h => by simp only [sI, up2]; rw [if_neg (by omega), if_neg (by omega), if_neg (by omega), if_neg (by omega), if_neg (by omega), if_neg (by omega)])), iE, (mCF_cg iC rfl)⟩, (off_I (off_I (off_I (off_I (off_I (off_I (off_refl m M) _ (by omega)) _ (by omega)) _ (by omega)) _ (by omega)) _ (by omega)) _ (by omega))⟩
              · unfold nteH
                rw [if_neg c52e]
                simp [sI, up2]
              · rcases (show v = 0 ∨ v = 1 ∨ v = 2 by omega) with rfl | rfl | rfl <;> simp [sI, up2]
            · have c52e : hy.1 < 14 := by
                have := mt (nI_le_iff (a := 14) (b := hy.1) (by decide) (by omega)).mpr c52
                omega
              refine x_aload_n h dX12_note_55 rfl ?_
              refine x_getIv h hF.1 f_X12_223 rfl (show _ = nI hy.1 from by simp [sI, up2]; exact d2) dX12_note_56 ?_
              refine x_in1 h dX12_note_59 ?_
              refine x_iaddn h  dX12_note_60 ?_
              refine x_goto h 66 dX12_note_61 (by decide) ?_
              refine x_putI h hF.1 f_X12_223 rfl rfl dX12_note_66 ?_
              refine x_vret h hQ rfl dX12_note_69 ⟨rfl, rfl, rfl, ⟨(mTx_cg iT (fun a j h => by simp only [sI, up2]; rw [if_neg (by omega), if_neg (by omega), if_neg (by omega), if_neg (by omega), if_neg (by omega), if_neg (by omega)])), (mPg_cg iP (fun a j h => by simp only [sI, up2]; rw [if_neg (by omega), if_neg (by omega), if_neg (by omega), if_neg (by omega), if_neg (by omega), if_neg (by omega)])), (mNw_cg iN (fun a j h => by simp only [sI, up2]; rw [if_neg (by omega), if_neg (by omega), if_neg (by omega), if_neg (by omega), if_neg (by omega), if_neg (by omega)])), nte_dy d3 d1 d5 iN.2 ?_ (by simp [sI, up2]) ⟨fun v hv => ?_, by simp [sI, up2]⟩ (fun j hj => by simp only [sI, up2]; rw [if_neg (by omega), if_neg (by omega), if_neg (by omega), if_neg (by omega), if_neg (by omega), if_neg (by omega)]), (mKp_cg iK (fun a j h => by simp only [sI, up2]; rw [if_neg (by omega), if_neg (by omega), if_neg (by omega), if_neg (by omega), if_neg (by omega), if_neg (by omega)])), (mSn_cg iS (fun a j h => by simp only [sI, up2]; rw [if_neg (by omega), if_neg (by omega), if_neg (by omega), if_neg (by omega), if_neg (by omega), if_neg (by omega)])), iE, (mCF_cg iC rfl)⟩, (off_I (off_I (off_I (off_I (off_I (off_I (off_refl m M) _ (by omega)) _ (by omega)) _ (by omega)) _ (by omega)) _ (by omega)) _ (by omega))⟩
              · unfold nteH
                rw [if_pos c52e]
                simp [sI, up2]
              · rcases (show v = 0 ∨ v = 1 ∨ v = 2 by omega) with rfl | rfl | rfl <;> simp [sI, up2]
          · exact absurd c4 (by decide)
theorem c_X12_begin_0 {Γ : GT} {G : GG} {M : MM} {m : Nat} (hF : mdF G M.2.2 m) {tx : Nat → Nat} {len : Nat} {pg : PGM} {su : SU} {hy : HY} {kp : KP} {ze : SE} {sd : Int64} (hI : mInv M m tx len pg su hy kp ze sd) {x w : Int32} (hx : ∀ n, n < 3 → x ≠ nI n) : Calls Γ q_X12_begin [.ref m, .int x, .int w] G M (rI (fun y M' => y = -1 ∧ mInv M' m (tx) (len) (pg) (su) (hy) (kp) (ze) (sd) ∧ offM m M M')) := by
  have hI0 := hI
  obtain ⟨iT, iP, iN, iD, iK, iS, iE, iC⟩ := hI
  refine Calls.intro (by decide +kernel) (Nat.le_of_ble_eq_true rfl) (fun z E h hQ => ?_)
  refine x_loc (L' := [some (.ref m), some (.int x), some (.int w), none]) rfl ?_
  refine x_iload_n h dX12_begin_0 rfl ?_
  refine x_i2l h dX12_begin_1 ?_
  refine x_lc0 h dX12_begin_2 ?_
  refine x_ldc2 h kl_X12_324 dX12_begin_3 ?_
  refine x_cSi h ci_X12_in sm_X12_in l_X12_114 ⟨Nat.le_of_ble_eq_true rfl, Nat.le_of_ble_eq_true rfl⟩ ⟨rfl, rfl⟩ ⟨Nat.zero_le _, Nat.zero_le _⟩ (c_X12_in (b := lN 0) (c := lN 2)) rfl rfl rfl rfl dX12_begin_6 (fun v6 M6 hp6 => ?_)
  obtain ⟨rfl, hM⟩ := hp6
  obtain rfl := hM.symm
  clear hM
  refine x_if_ne h 14 dX12_begin_9 (by decide) (fun c9 => ?_) (fun c9 => ?_)
  · exact absurd (b2i_0.mpr (in_no hx (by decide))) c9
  · refine x_icm1 h dX12_begin_12 ?_
    exact x_iret h hQ rfl dX12_begin_13 ⟨rfl, rfl, _, rfl, rfl, hI0, off_refl m M⟩
theorem c_X12_begin_1 {Γ : GT} {G : GG} {M : MM} {m : Nat} (hF : mdF G M.2.2 m) {tx : Nat → Nat} {len : Nat} {pg : PGM} {su : SU} {hy : HY} {kp : KP} {ze : SE} {sd : Int64} (hI : mInv M m tx len pg su hy kp ze sd) {n : Nat} {w : Int32} (hn : n < 3) (hw : ∀ n, n < 7 → w ≠ nI n) : Calls Γ q_X12_begin [.ref m, .int (nI n), .int w] G M (rI (fun y M' => y = -2 ∧ mInv M' m (tx) (len) (pg) (su) (hy) (kp) (ze) (sd) ∧ offM m M M')) := by
  have hI0 := hI
  obtain ⟨iT, iP, iN, iD, iK, iS, iE, iC⟩ := hI
  refine Calls.intro (by decide +kernel) (Nat.le_of_ble_eq_true rfl) (fun z E h hQ => ?_)
  refine x_loc (L' := [some (.ref m), some (.int (nI n)), some (.int w), none]) rfl ?_
  refine x_iload_n h dX12_begin_0 rfl ?_
  refine x_i2l h dX12_begin_1 ?_
  refine x_lc0 h dX12_begin_2 ?_
  refine x_ldc2 h kl_X12_324 dX12_begin_3 ?_
  refine x_cSi h ci_X12_in sm_X12_in l_X12_114 ⟨Nat.le_of_ble_eq_true rfl, Nat.le_of_ble_eq_true rfl⟩ ⟨rfl, rfl⟩ ⟨Nat.zero_le _, Nat.zero_le _⟩ (c_X12_in (b := lN 0) (c := lN 2)) rfl rfl rfl rfl dX12_begin_6 (fun v6 M6 hp6 => ?_)
  obtain ⟨rfl, hM⟩ := hp6
  obtain rfl := hM.symm
  clear hM
  refine x_if_ne h 14 dX12_begin_9 (by decide) (fun c9 => ?_) (fun c9 => ?_)
  · refine x_iload_n h dX12_begin_14 rfl ?_
    refine x_i2l h dX12_begin_15 ?_
    refine x_lc0 h dX12_begin_16 ?_
    refine x_ldc2 h kl_X12_329 dX12_begin_17 ?_
    refine x_cSi h ci_X12_in sm_X12_in l_X12_114 ⟨Nat.le_of_ble_eq_true rfl, Nat.le_of_ble_eq_true rfl⟩ ⟨rfl, rfl⟩ ⟨Nat.zero_le _, Nat.zero_le _⟩ (c_X12_in (b := lN 0) (c := lN 6)) rfl rfl rfl rfl dX12_begin_20 (fun v20 M20 hp20 => ?_)
    obtain ⟨rfl, hM⟩ := hp20
    obtain rfl := hM.symm
    clear hM
    refine x_if_ne h 29 dX12_begin_23 (by decide) (fun c23 => ?_) (fun c23 => ?_)
    · exact absurd (b2i_0.mpr (in_no hw (by decide))) c23
    · refine x_bipush h (-2) (by decide) dX12_begin_26 ?_
      exact x_iret h hQ rfl dX12_begin_28 ⟨rfl, rfl, _, rfl, rfl, hI0, off_refl m M⟩
  · exact absurd (in_yes (n := n) (b := 2) (by omega) (by decide)) (by rw [b2i_0.mp c9]; decide)
theorem c_X12_begin_2 {Γ : GT} {G : GG} {M : MM} {m : Nat} (hF : mdF G M.2.2 m) {tx : Nat → Nat} {len : Nat} {pg : PGM} {su : SU} {hy : HY} {kp : KP} {ze : SE} {sd : Int64} (hI : mInv M m tx len pg su hy kp ze sd) {n w : Nat} (hn : n < 3) (hw : w < 7) : Calls Γ q_X12_begin [.ref m, .int (nI n), .int (nI w)] G M (rI (fun y M' => y = nI (su.1 n) ∧ mInv M' m (tx) (len) (pg) ((upN su.1 n w, su.2)) (nteH hy su) (kp) (ze) (sd) ∧ offM m M M')) := by
  have hF9 := hF
  refine Calls.intro (by decide +kernel) (Nat.le_of_ble_eq_true rfl) (fun z E h hQ => ?_)
  refine x_loc (L' := [some (.ref m), some (.int (nI n)), some (.int (nI w)), none]) rfl ?_
  refine x_iload_n h dX12_begin_0 rfl ?_
  refine x_i2l h dX12_begin_1 ?_
  refine x_lc0 h dX12_begin_2 ?_
  refine x_ldc2 h kl_X12_324 dX12_begin_3 ?_
  refine x_cSi h ci_X12_in sm_X12_in l_X12_114 ⟨Nat.le_of_ble_eq_true rfl, Nat.le_of_ble_eq_true rfl⟩ ⟨rfl, rfl⟩ ⟨Nat.zero_le _, Nat.zero_le _⟩ (c_X12_in (b := lN 0) (c := lN 2)) rfl rfl rfl rfl dX12_begin_6 (fun v6 M6 hp6 => ?_)
  obtain ⟨rfl, hM⟩ := hp6
  obtain rfl := hM.symm
  clear hM
  refine x_if_ne h 14 dX12_begin_9 (by decide) (fun c9 => ?_) (fun c9 => ?_)
  · refine x_iload_n h dX12_begin_14 rfl ?_
    refine x_i2l h dX12_begin_15 ?_
    refine x_lc0 h dX12_begin_16 ?_
    refine x_ldc2 h kl_X12_329 dX12_begin_17 ?_
    refine x_cSi h ci_X12_in sm_X12_in l_X12_114 ⟨Nat.le_of_ble_eq_true rfl, Nat.le_of_ble_eq_true rfl⟩ ⟨rfl, rfl⟩ ⟨Nat.zero_le _, Nat.zero_le _⟩ (c_X12_in (b := lN 0) (c := lN 6)) rfl rfl rfl rfl dX12_begin_20 (fun v20 M20 hp20 => ?_)
    obtain ⟨rfl, hM⟩ := hp20
    obtain rfl := hM.symm
    clear hM
    refine x_if_ne h 29 dX12_begin_23 (by decide) (fun c23 => ?_) (fun c23 => ?_)
    · refine x_aload_n h dX12_begin_29 rfl ?_
      refine x_cVv h ci_X12_note im_X12_note l_X12_331 ⟨Nat.le_of_ble_eq_true rfl, Nat.le_of_ble_eq_true rfl⟩ ⟨rfl, rfl⟩ ⟨Nat.zero_le _, Nat.zero_le _⟩ (c_X12_note hF hI) rfl rfl rfl rfl hF.1 (by decide) rfl dX12_begin_30 (fun M30 hp30 => ?_)
      obtain ⟨hI1, hO1⟩ := hp30
      have hF : mdF G M30.2.2 m := by rw [hO1.1]; exact hF9
      obtain ⟨iT, iP, iN, iD, iK, iS, iE, iC⟩ := hI1
      have nn : ∀ v, v < 3 → M30.1 (m + 21) v = nI (su.1 v) := fun v hv => by have := iN.1.1 v hv; rw [Nat.zero_add] at this; exact this
      have n3 : M30.1 (m + 21) 3 = nI su.2 := iN.1.2
      refine x_aload_n h dX12_begin_33 rfl ?_
      refine x_getR h hF.1 f_X12_70 rfl (md_now hF).1 dX12_begin_34 ?_
      refine x_iload_n h dX12_begin_37 rfl ?_
      refine x_ialdv h n (md_now hF).2 (ix.ni (by omega) (by decide)) (nn n hn) dX12_begin_38 ?_
      refine x_istore_n h dX12_begin_39 rfl rfl ?_
      dsimp only [List.set]
      refine x_aload_n h dX12_begin_40 rfl ?_
      refine x_getR h hF.1 f_X12_70 rfl (md_now hF).1 dX12_begin_41 ?_
      refine x_iload_n h dX12_begin_44 rfl ?_
      refine x_iload_n h dX12_begin_45 rfl ?_
      refine x_iast h n (md_now hF).2 (ix.ni (by omega) (by decide)) dX12_begin_46 ?_
      refine x_iload_n h dX12_begin_47 rfl ?_
      refine x_iret h hQ rfl dX12_begin_48 ⟨rfl, rfl, _, rfl, rfl, ⟨(mTx_cg iT (fun a j h => by simp only [sI, up2]; rw [if_neg (by omega)])), (mPg_cg iP (fun a j h => by simp only [sI, up2]; rw [if_neg (by omega)])), ⟨⟨fun v hv => ?_, ?_⟩, fun v hv => ?_, iN.2.2⟩, (mDy_cg iD (fun a j h => by simp only [sI, up2]; rw [if_neg (by omega)])), (mKp_cg iK (fun a j h => by simp only [sI, up2]; rw [if_neg (by omega)])), (mSn_cg iS (fun a j h => by simp only [sI, up2]; rw [if_neg (by omega)])), iE, (mCF_cg iC rfl)⟩, (off_I hO1 _ (by omega))⟩
      · rw [Nat.zero_add]
        show (sI M30 (m + 21) n (nI w)).1 (m + 21) v = nI (upN su.1 n w v)
        by_cases q : v = n
        · rw [q, upN_at]; exact up2_self _ _ _ _
        · rw [upN_ne _ _ q]; exact (up2_ne _ _ (by omega)).trans (nn v hv)
      · exact (up2_ne _ _ (by omega)).trans n3
      · show upN su.1 n w v ≤ 6
        by_cases q : v = n
        · rw [q, upN_at]; omega
        · rw [upN_ne _ _ q]; exact iN.2.1 v hv
    · exact absurd (in_yes (n := w) (b := 6) (by omega) (by decide)) (by rw [b2i_0.mp c23]; decide)
  · exact absurd (in_yes (n := n) (b := 2) (by omega) (by decide)) (by rw [b2i_0.mp c9]; decide)
theorem c_X12_turn_0 {Γ : GT} {G : GG} {M : MM} {m : Nat} (hF : mdF G M.2.2 m) {tx : Nat → Nat} {len : Nat} {pg : PGM} {su : SU} {hy : HY} {kp : KP} {ze : SE} {sd : Int64} (hI : mInv M m tx len pg su hy kp ze sd) {x : Int32} (hx : ∀ n, n < pg.2.1.1 → x ≠ nI n) : Calls Γ q_X12_turn [.ref m, .int x] G M (rI (fun y M' => y = -1 ∧ mInv M' m (tx) (len) (pg) (su) (hy) (kp) (ze) (sd) ∧ offM m M M')) := by
  have hI0 := hI
  obtain ⟨iT, iP, iN, iD, iK, iS, iE, iC⟩ := hI
  have v5 := iP.2.2.1.1
  refine Calls.intro (by decide +kernel) (Nat.le_of_ble_eq_true rfl) (fun z E h hQ => ?_)
  refine x_loc (L' := [some (.ref m), some (.int x)]) rfl ?_
  refine x_iload_n h dX12_turn_0 rfl ?_
  refine x_i2l h dX12_turn_1 ?_
  refine x_lc0 h dX12_turn_2 ?_
  refine x_aload_n h dX12_turn_3 rfl ?_
  refine x_getIv h hF.1 f_X12_217 rfl iP.2.2.1.2.1 dX12_turn_4 ?_
  refine x_in1 h dX12_turn_7 ?_
  refine x_isub h dX12_turn_8 ?_
  refine x_i2l h dX12_turn_9 ?_
  refine x_cSi h ci_X12_in sm_X12_in l_X12_114 ⟨Nat.le_of_ble_eq_true rfl, Nat.le_of_ble_eq_true rfl⟩ ⟨rfl, rfl⟩ ⟨Nat.zero_le _, Nat.zero_le _⟩ (c_X12_in (b := lN 0)) rfl rfl rfl rfl dX12_turn_10 (fun v10 M10 hp10 => ?_)
  obtain ⟨rfl, hM⟩ := hp10
  obtain rfl := hM.symm
  clear hM
  refine x_if_ne h 18 dX12_turn_13 (by decide) (fun c13 => ?_) (fun c13 => ?_)
  · exact absurd (b2i_0.mpr (in_gn hx (by omega))) c13
  · refine x_icm1 h dX12_turn_16 ?_
    exact x_iret h hQ rfl dX12_turn_17 ⟨rfl, rfl, _, rfl, rfl, hI0, off_refl m M⟩
theorem su32 {ng : Nat} {s : SU} (h : suOk ng s) (h5 : ng ≤ 5) : s.2 < 32 := Nat.lt_of_lt_of_le h.2 (show 2 ^ ng ≤ 2 ^ 5 from Nat.pow_le_pow_right (by decide) h5)
theorem c_X12_turn_1 {Γ : GT} {G : GG} {M : MM} {m : Nat} (hF : mdF G M.2.2 m) {tx : Nat → Nat} {len : Nat} {pg : PGM} {su : SU} {hy : HY} {kp : KP} {ze : SE} {sd : Int64} (hI : mInv M m tx len pg su hy kp ze sd) {n : Nat} (hn : n < pg.2.1.1) : Calls Γ q_X12_turn [.ref m, .int (nI n)] G M (rI (fun y M' => y = nI (if (su.2 ^^^ 2 ^ n).testBit n then 1 else 0) ∧ mInv M' m (tx) (len) (pg) ((su.1, su.2 ^^^ 2 ^ n)) (nteH hy su) (kp) (ze) (sd) ∧ offM m M M')) := by
  have hF9 := hF
  have v5 := hI.2.1.2.2.1.1
  have gq := hI.2.1.2.2.1.2.1
  have hxl : su.2 ^^^ 2 ^ n < 2 ^ pg.2.1.1 := Nat.xor_lt_two_pow hI.2.2.1.2.2 (Nat.pow_lt_pow_right (by decide) hn)
  have hx32 : su.2 ^^^ 2 ^ n < 32 := Nat.lt_of_lt_of_le hxl (show 2 ^ pg.2.1.1 ≤ 2 ^ 5 from Nat.pow_le_pow_right (by decide) v5)
  refine Calls.intro (by decide +kernel) (Nat.le_of_ble_eq_true rfl) (fun z E h hQ => ?_)
  refine x_loc (L' := [some (.ref m), some (.int (nI n))]) rfl ?_
  refine x_iload_n h dX12_turn_0 rfl ?_
  refine x_i2l h dX12_turn_1 ?_
  refine x_lc0 h dX12_turn_2 ?_
  refine x_aload_n h dX12_turn_3 rfl ?_
  refine x_getIv h hF.1 f_X12_217 rfl gq dX12_turn_4 ?_
  refine x_in1 h dX12_turn_7 ?_
  refine x_isub h dX12_turn_8 ?_
  refine x_i2l h dX12_turn_9 ?_
  refine x_cSi h ci_X12_in sm_X12_in l_X12_114 ⟨Nat.le_of_ble_eq_true rfl, Nat.le_of_ble_eq_true rfl⟩ ⟨rfl, rfl⟩ ⟨Nat.zero_le _, Nat.zero_le _⟩ (c_X12_in (b := lN 0)) rfl rfl rfl rfl dX12_turn_10 (fun v10 M10 hp10 => ?_)
  obtain ⟨rfl, hM⟩ := hp10
  obtain rfl := hM.symm
  clear hM
  refine x_if_ne h 18 dX12_turn_13 (by decide) (fun c13 => ?_) (fun c13 => ?_)
  · refine x_aload_n h dX12_turn_18 rfl ?_
    refine x_cVv h ci_X12_note im_X12_note l_X12_331 ⟨Nat.le_of_ble_eq_true rfl, Nat.le_of_ble_eq_true rfl⟩ ⟨rfl, rfl⟩ ⟨Nat.zero_le _, Nat.zero_le _⟩ (c_X12_note hF hI) rfl rfl rfl rfl hF.1 (by decide) rfl dX12_turn_19 (fun M19 hp19 => ?_)
    obtain ⟨hI1, hO1⟩ := hp19
    have hF : mdF G M19.2.2 m := by rw [hO1.1]; exact hF9
    obtain ⟨iT, iP, iN, iD, iK, iS, iE, iC⟩ := hI1
    have nn : ∀ v, v < 3 → M19.1 (m + 21) v = nI (su.1 v) := fun v hv => by have := iN.1.1 v hv; rw [Nat.zero_add] at this; exact this
    have n3 : M19.1 (m + 21) 3 = nI su.2 := iN.1.2
    refine x_aload_n h dX12_turn_22 rfl ?_
    refine x_getR h hF.1 f_X12_70 rfl (md_now hF).1 dX12_turn_23 ?_
    refine x_in3 h dX12_turn_26 ?_
    refine x_dup2 h rfl rfl dX12_turn_27 ?_
    refine x_ialdv h 3 (md_now hF).2 (ix.ni (j := 3) (by decide) (by decide)) n3 dX12_turn_28 ?_
    refine x_in1 h dX12_turn_29 ?_
    refine x_iload_n h dX12_turn_30 rfl ?_
    refine x_ishl h dX12_turn_31 ?_
    refine x_topi (shl1 n (by omega)) ?_
    refine x_ixor h dX12_turn_32 ?_
    refine x_topi (fa_xor su.2 (2 ^ n)) ?_
    refine x_iast h 3 (md_now hF).2 (ix.ni (j := 3) (by decide) (by decide)) dX12_turn_33 ?_
    refine x_aload_n h dX12_turn_34 rfl ?_
    refine x_getR h hF.1 f_X12_70 rfl (md_now hF).1 dX12_turn_35 ?_
    refine x_in3 h dX12_turn_38 ?_
    refine x_ialdv h 3 (md_now hF).2 (ix.ni (j := 3) (by decide) (by decide)) (show _ = nI (su.2 ^^^ 2 ^ n) from up2_self _ _ _ _) dX12_turn_39 ?_
    refine x_iload_n h dX12_turn_40 rfl ?_
    refine x_ishr h dX12_turn_41 ?_
    refine x_in1 h dX12_turn_42 ?_
    refine x_iand h dX12_turn_43 ?_
    refine x_topi (bit5 _ hx32 n (by omega)) ?_
    refine x_iret h hQ rfl dX12_turn_44 ⟨rfl, rfl, _, rfl, rfl, ⟨(mTx_cg iT (fun a j h => by simp only [sI, up2]; rw [if_neg (by omega)])), (mPg_cg iP (fun a j h => by simp only [sI, up2]; rw [if_neg (by omega)])), ⟨⟨fun v hv => ?_, up2_self _ _ _ _⟩, iN.2.1, hxl⟩, (mDy_cg iD (fun a j h => by simp only [sI, up2]; rw [if_neg (by omega)])), (mKp_cg iK (fun a j h => by simp only [sI, up2]; rw [if_neg (by omega)])), (mSn_cg iS (fun a j h => by simp only [sI, up2]; rw [if_neg (by omega)])), iE, (mCF_cg iC rfl)⟩, (off_I hO1 _ (by omega))⟩
    rw [Nat.zero_add]
    exact (up2_ne _ _ (by omega)).trans (nn v hv)
  · exact absurd (in_gy hn (by omega)) (by rw [b2i_0.mp c13]; decide)
theorem c_X12_undo {Γ : GT} {G : GG} {M : MM} {m : Nat} (hF : mdF G M.2.2 m) {tx : Nat → Nat} {len : Nat} {pg : PGM} {su : SU} {hy : HY} {kp : KP} {ze : SE} {sd : Int64} (hI : mInv M m tx len pg su hy kp ze sd) : Calls Γ q_X12_undo [.ref m] G M (rI (fun y M' => y = (if hy.1 = 0 then -3 else nI (hy.1 - 1)) ∧ mInv M' m (tx) (len) (pg) (if hy.1 = 0 then su else hy.2 (hy.1 - 1)) ((hy.1 - 1, hy.2)) (kp) (ze) (sd) ∧ offM m M M')) := by
  have hI0 := hI
  obtain ⟨iT, iP, iN, iD, iK, iS, iE, iC⟩ := hI
  obtain ⟨d1, d2, nx, d3, d4, d5⟩ := iD
  refine Calls.intro (by decide +kernel) (Nat.le_of_ble_eq_true rfl) (fun z E h hQ => ?_)
  refine x_loc (L' := [some (.ref m), none]) rfl ?_
  have prev : ¬ hy.1 = 0 → suA M (m + 23) (4 * ((nx + 13) % 14)) (hy.2 (hy.1 - 1)) ∧ suOk pg.2.1.1 (hy.2 (hy.1 - 1)) := fun e => by
    have := d5 (hy.1 - 1) (by omega)
    rw [show (nx + 14 - hy.1 + (hy.1 - 1)) % 14 = (nx + 13) % 14 by omega] at this
    exact this
  refine x_aload_n h dX12_undo_0 rfl ?_
  refine x_getIv h hF.1 f_X12_223 rfl (show _ = nI hy.1 from by first | exact d2 | (simp [sI, up2]; exact d2)) dX12_undo_1 ?_
  refine x_if_ne h 10 dX12_undo_4 (by decide) (fun c4 => ?_) (fun c4 => ?_)
  · have e : ¬ hy.1 = 0 := fun q => c4 (by rw [q]; exact nI_0)
    have pv := prev e
    refine x_aload_n h dX12_undo_10 rfl ?_
    refine x_dup h rfl dX12_undo_11 ?_
    refine x_getIv h hF.1 f_X12_223 rfl (show _ = nI hy.1 from by first | exact d2 | (simp [sI, up2]; exact d2)) dX12_undo_12 ?_
    refine x_in1 h dX12_undo_15 ?_
    refine x_isubn h (by omega) dX12_undo_16 ?_
    refine x_putI h hF.1 f_X12_223 rfl rfl dX12_undo_17 ?_
    refine x_aload_n h dX12_undo_20 rfl ?_
    refine x_aload_n h dX12_undo_21 rfl ?_
    refine x_getIv h hF.1 f_X12_326 rfl (show _ = nI nx from by first | exact d4 | (simp [sI, up2]; exact d4)) dX12_undo_22 ?_
    refine x_bipush h (nI 14) (by decide) dX12_undo_25 ?_
    refine x_iaddn h  dX12_undo_27 ?_
    refine x_in1 h dX12_undo_28 ?_
    refine x_isubn h (by omega) dX12_undo_29 ?_
    refine x_bipush h (nI 14) (by decide) dX12_undo_30 ?_
    refine x_iremn h ⟨by omega, by decide, by decide⟩ dX12_undo_32 ?_
    rw [show nx + 14 - 1 = nx + 13 by omega]
    refine x_putI h hF.1 f_X12_326 rfl rfl dX12_undo_33 ?_
    refine x_in0 h dX12_undo_36 ?_
    refine x_istore_n h dX12_undo_37 rfl rfl ?_
    dsimp only [List.set]
    refine x_iload_n h dX12_undo_38 rfl ?_
    refine x_in4 h dX12_undo_39 ?_
    refine x_icmp_ge h 68 dX12_undo_40 (by decide) (fun c40 => ?_) (fun c40 => ?_)
    · exact absurd c40 (by decide)
    · refine x_aload_n h dX12_undo_43 rfl ?_
      refine x_getR h hF.1 f_X12_70 rfl (md_now hF).1 dX12_undo_44 ?_
      refine x_iload_n h dX12_undo_47 rfl ?_
      refine x_aload_n h dX12_undo_48 rfl ?_
      refine x_getR h hF.1 f_X12_76 rfl (md_diary hF).1 dX12_undo_49 ?_
      refine x_in4 h dX12_undo_52 ?_
      refine x_aload_n h dX12_undo_53 rfl ?_
      refine x_getIv h hF.1 f_X12_326 rfl (show _ = nI ((nx + 13) % 14) from by first | exact rfl | (simp [sI, up2])) dX12_undo_54 ?_
      refine x_imuln h  dX12_undo_57 ?_
      refine x_iload_n h dX12_undo_58 rfl ?_
      refine x_iaddn h  dX12_undo_59 ?_
      refine x_ialdv h (4 * ((nx + 13) % 14) + 0) (md_diary hF).2 (ix.ni (by omega) (by decide)) (show _ = nI ((hy.2 (hy.1 - 1)).1 0) from by first | exact (pv.1.1 0 (by decide)) | (simp [sI, up2]; exact pv.1.1 0 (by decide))) dX12_undo_60 ?_
      refine x_iast h 0 (md_now hF).2 (ix.ni (j := 0) (by decide) (by decide)) dX12_undo_61 ?_
      refine x_incn h dX12_undo_62 rfl rfl rfl ?_
      dsimp only [List.set]
      refine x_goto h 38 dX12_undo_65 (by decide) ?_
      refine x_iload_n h dX12_undo_38 rfl ?_
      refine x_in4 h dX12_undo_39 ?_
      refine x_icmp_ge h 68 dX12_undo_40 (by decide) (fun c40 => ?_) (fun c40 => ?_)
      · exact absurd c40 (by decide)
      · refine x_aload_n h dX12_undo_43 rfl ?_
        refine x_getR h hF.1 f_X12_70 rfl (md_now hF).1 dX12_undo_44 ?_
        refine x_iload_n h dX12_undo_47 rfl ?_
        refine x_aload_n h dX12_undo_48 rfl ?_
        refine x_getR h hF.1 f_X12_76 rfl (md_diary hF).1 dX12_undo_49 ?_
        refine x_in4 h dX12_undo_52 ?_
        refine x_aload_n h dX12_undo_53 rfl ?_
        refine x_getIv h hF.1 f_X12_326 rfl (show _ = nI ((nx + 13) % 14) from by first | exact rfl | (simp [sI, up2])) dX12_undo_54 ?_
        refine x_imuln h  dX12_undo_57 ?_
        refine x_iload_n h dX12_undo_58 rfl ?_
        refine x_iaddn h  dX12_undo_59 ?_
        refine x_ialdv h (4 * ((nx + 13) % 14) + 1) (md_diary hF).2 (ix.ni (by omega) (by decide)) (show _ = nI ((hy.2 (hy.1 - 1)).1 1) from by first | exact (pv.1.1 1 (by decide)) | (simp [sI, up2]; exact pv.1.1 1 (by decide))) dX12_undo_60 ?_
        refine x_iast h 1 (md_now hF).2 (ix.ni (j := 1) (by decide) (by decide)) dX12_undo_61 ?_
        refine x_incn h dX12_undo_62 rfl rfl rfl ?_
        dsimp only [List.set]
        refine x_goto h 38 dX12_undo_65 (by decide) ?_
        refine x_iload_n h dX12_undo_38 rfl ?_
        refine x_in4 h dX12_undo_39 ?_
        refine x_icmp_ge h 68 dX12_undo_40 (by decide) (fun c40 => ?_) (fun c40 => ?_)
        · exact absurd c40 (by decide)
        · refine x_aload_n h dX12_undo_43 rfl ?_
          refine x_getR h hF.1 f_X12_70 rfl (md_now hF).1 dX12_undo_44 ?_
          refine x_iload_n h dX12_undo_47 rfl ?_
          refine x_aload_n h dX12_undo_48 rfl ?_
          refine x_getR h hF.1 f_X12_76 rfl (md_diary hF).1 dX12_undo_49 ?_
          refine x_in4 h dX12_undo_52 ?_
          refine x_aload_n h dX12_undo_53 rfl ?_
          refine x_getIv h hF.1 f_X12_326 rfl (show _ = nI ((nx + 13) % 14) from by first | exact rfl | (simp [sI, up2])) dX12_undo_54 ?_
          refine x_imuln h  dX12_undo_57 ?_
          refine x_iload_n h dX12_undo_58 rfl ?_
          refine x_iaddn h  dX12_undo_59 ?_
          refine x_ialdv h (4 * ((nx + 13) % 14) + 2) (md_diary hF).2 (ix.ni (by omega) (by decide)) (show _ = nI ((hy.2 (hy.1 - 1)).1 2) from by first | exact (pv.1.1 2 (by decide)) | (simp [sI, up2]; exact pv.1.1 2 (by decide))) dX12_undo_60 ?_
          refine x_iast h 2 (md_now hF).2 (ix.ni (j := 2) (by decide) (by decide)) dX12_undo_61 ?_
          refine x_incn h dX12_undo_62 rfl rfl rfl ?_
          dsimp only [List.set]
          refine x_goto h 38 dX12_undo_65 (by decide) ?_
          refine x_iload_n h dX12_undo_38 rfl ?_
          refine x_in4 h dX12_undo_39 ?_
          refine x_icmp_ge h 68 dX12_undo_40 (by decide) (fun c40 => ?_) (fun c40 => ?_)
          · exact absurd c40 (by decide)
          · refine x_aload_n h dX12_undo_43 rfl ?_
            refine x_getR h hF.1 f_X12_70 rfl (md_now hF).1 dX12_undo_44 ?_
            refine x_iload_n h dX12_undo_47 rfl ?_
            refine x_aload_n h dX12_undo_48 rfl ?_
            refine x_getR h hF.1 f_X12_76 rfl (md_diary hF).1 dX12_undo_49 ?_
            refine x_in4 h dX12_undo_52 ?_
            refine x_aload_n h dX12_undo_53 rfl ?_
            refine x_getIv h hF.1 f_X12_326 rfl (show _ = nI ((nx + 13) % 14) from by first | exact rfl | (simp [sI, up2])) dX12_undo_54 ?_
            refine x_imuln h  dX12_undo_57 ?_
            refine x_iload_n h dX12_undo_58 rfl ?_
            refine x_iaddn h  dX12_undo_59 ?_
            refine x_ialdv h (4 * ((nx + 13) % 14) + 3) (md_diary hF).2 (ix.ni (by omega) (by decide)) (show _ = nI (hy.2 (hy.1 - 1)).2 from by first | exact (pv.1.2) | (simp [sI, up2]; exact pv.1.2)) dX12_undo_60 ?_
            refine x_iast h 3 (md_now hF).2 (ix.ni (j := 3) (by decide) (by decide)) dX12_undo_61 ?_
            refine x_incn h dX12_undo_62 rfl rfl rfl ?_
            dsimp only [List.set]
            refine x_goto h 38 dX12_undo_65 (by decide) ?_
            refine x_iload_n h dX12_undo_38 rfl ?_
            refine x_in4 h dX12_undo_39 ?_
            refine x_icmp_ge h 68 dX12_undo_40 (by decide) (fun c40 => ?_) (fun c40 => ?_)
            · refine x_aload_n h dX12_undo_68 rfl ?_
              refine x_getIv h hF.1 f_X12_223 rfl (show _ = nI (hy.1 - 1) from by first | exact rfl | (simp [sI, up2])) dX12_undo_69 ?_
              refine x_iret h hQ rfl dX12_undo_72 ⟨rfl, rfl, _, rfl, by rw [if_neg e], ?_, (off_I (off_I (off_I (off_I (off_I (off_I (off_refl m M) _ (by omega)) _ (by omega)) _ (by omega)) _ (by omega)) _ (by omega)) _ (by omega))⟩
              rw [if_neg e]
              refine ⟨(mTx_cg iT (fun a j h => by simp only [sI, up2]; rw [if_neg (by omega), if_neg (by omega), if_neg (by omega), if_neg (by omega), if_neg (by omega), if_neg (by omega)])), (mPg_cg iP (fun a j h => by simp only [sI, up2]; rw [if_neg (by omega), if_neg (by omega), if_neg (by omega), if_neg (by omega), if_neg (by omega), if_neg (by omega)])), ⟨⟨fun v hv => ?_, by simp [sI, up2]⟩, pv.2⟩, ⟨by show hy.1 - 1 ≤ 14; omega, by simp [sI, up2], (nx + 13) % 14, Nat.mod_lt _ (by decide), by simp [sI, up2], fun i hi => ?_⟩, (mKp_cg iK (fun a j h => by simp only [sI, up2]; rw [if_neg (by omega), if_neg (by omega), if_neg (by omega), if_neg (by omega), if_neg (by omega), if_neg (by omega)])), (mSn_cg iS (fun a j h => by simp only [sI, up2]; rw [if_neg (by omega), if_neg (by omega), if_neg (by omega), if_neg (by omega), if_neg (by omega), if_neg (by omega)])), iE, (mCF_cg iC rfl)⟩
              · rcases (show v = 0 ∨ v = 1 ∨ v = 2 by omega) with rfl | rfl | rfl <;> simp [sI, up2]
              · have hi' : i < hy.1 - 1 := hi
                show suA _ (m + 23) (4 * (((nx + 13) % 14 + 14 - (hy.1 - 1) + i) % 14)) (hy.2 i) ∧ suOk _ (hy.2 i)
                rw [show ((nx + 13) % 14 + 14 - (hy.1 - 1) + i) % 14 = (nx + 14 - hy.1 + i) % 14 by omega]
                have a := d5 i (by omega)
                exact ⟨suA_cg a.1 (fun j h5 h6 => by simp only [sI, up2]; rw [if_neg (by omega), if_neg (by omega), if_neg (by omega), if_neg (by omega), if_neg (by omega), if_neg (by omega)]), a.2⟩
            · exact absurd c40 (by decide)
  · have e : hy.1 = 0 := nI_small 0 (by omega) (by decide) (c4.trans nI_0.symm)
    refine x_bipush h (-3) (by decide) dX12_undo_7 ?_
    exact x_iret h hQ rfl dX12_undo_9 ⟨rfl, rfl, _, rfl, by rw [if_pos e], by rw [if_pos e, show hy.1 - 1 = hy.1 by omega]; exact hI0, off_refl m M⟩
