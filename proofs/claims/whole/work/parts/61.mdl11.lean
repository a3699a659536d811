/-! ===== the reference: about, loop, check ===== -/
def actP (pg : PGM) (su : SU) : Nat := difG (2 ^ pg.2.1.1 - 1) su.2
def hsP (pg : PGM) (su : SU) : Nat → Nat := HS pg.1 pg.2.1 su.1 (actP pg su)
/-- what comes to the nodes by the guesses that are left -/
def lcC (pg : PGM) (su : SU) : NS := (lcP pg.1 pg.2.1 (hsP pg su) su.1).1
theorem actP_lt {pg : PGM} (su : SU) (h : pg.2.1.1 ≤ 5) : actP pg su < 32 := difG_le32 h
theorem wCF_wCF (M : MM) (m : Nat) (C F C' F' : NS) : wCF (wCF M m C F) m C' F' = wCF M m C' F' := by
  refine Prod.ext rfl (Prod.ext ?_ rfl)
  funext b j
  show (if b = m + 28 ∧ j < 248 then _ else if b = m + 29 ∧ j < 248 then _ else if b = m + 28 ∧ j < 248 then _ else if b = m + 29 ∧ j < 248 then _ else M.2.1 b j) = (if b = m + 28 ∧ j < 248 then _ else if b = m + 29 ∧ j < 248 then _ else M.2.1 b j)
  by_cases q : b = m + 28 ∧ j < 248
  · rw [if_pos q, if_pos q]
  · rw [if_neg q, if_neg q, if_neg q]
    by_cases q2 : b = m + 29 ∧ j < 248
    · rw [if_pos q2, if_pos q2]
    · rw [if_neg q2, if_neg q2, if_neg q2]
theorem mInv_CF {M : MM} {m : Nat} {tx : Nat → Nat} {len : Nat} {pg : PGM} {su : SU} {hy : HY} {kp : KP} {ze : SE} {sd : Int64} (hI : mInv M m tx len pg su hy kp ze sd) (C F : NS) : mInv (wCF M m C F) m tx len pg su hy kp ze sd := by
  obtain ⟨iT, iP, iN, iD, iK, iS, iE, iC⟩ := hI
  refine ⟨iT, iP, iN, iD, iK, iS, ?_, C, F, (wCF_wCF M m C F C F).symm⟩
  show (if m = m + 28 ∧ 43 < 248 then _ else if m = m + 29 ∧ 43 < 248 then _ else M.2.1 m 43) = _
  rw [if_neg (by omega), if_neg (by omega)]
  exact iE
theorem mInv_I {M N : MM} {m : Nat} {tx : Nat → Nat} {len : Nat} {pg : PGM} {su : SU} {hy : HY} {kp : KP} {ze : SE} {sd : Int64} (hI : mInv M m tx len pg su hy kp ze sd) (e : ∀ a j, a < 28 → a ≠ 22 → (a = 0 → j < 49) → N.1 (m + a) j = M.1 (m + a) j) (e2 : N.2.1 = M.2.1) : mInv N m tx len pg su hy kp ze sd := by
  obtain ⟨iT, iP, iN, iD, iK, iS, iE, iC⟩ := hI
  exact ⟨mTx_cg iT (fun a j h => e a j (by omega) (by omega) (by omega)), mPg_cg iP (fun a j h => e a j (by omega) (by omega) (by omega)), mNw_cg iN (fun a j h => e a j (by omega) (by omega) (by omega)), mDy_cg iD (fun a j h => e a j (by omega) (by omega) (by omega)), mKp_cg iK (fun a j h => e a j (by omega) (by omega) (by omega)), mSn_cg iS (fun a j h => e a j (by omega) (by omega) (by omega)), (congrFun (congrFun e2 m) 43).trans iE, mCF_cg iC e2⟩
theorem mInv_hs {M : MM} {m : Nat} {tx : Nat → Nat} {len : Nat} {pg : PGM} {su : SU} {hy : HY} {kp : KP} {ze : SE} {sd : Int64} (hI : mInv M m tx len pg su hy kp ze sd) (hs : Nat → Nat) : mInv (hsM M m hs) m tx len pg su hy kp ze sd := mInv_I hI (fun a j h _ _ => hsM_ne hs j (by omega)) rfl
theorem off_hs (M : MM) (m : Nat) (hs : Nat → Nat) (C F : NS) : offM m M (wCF (hsM M m hs) m C F) := off_C (off_wI (off_refl m M) _ (by omega)) C F
theorem off_cf (M : MM) (m : Nat) (C F : NS) : offM m M (wCF M m C F) := off_C (off_refl m M) C F
/-- what about answers -/
def abS (pg : PGM) (su : SU) (hy : HY) (ze : SE) (len : Nat) : Nat → Int32 → Prop
  | 0, y => y = nI pg.2.2.1.1
  | 1, y => y = nI pg.2.2.2.1.1
  | 2, y => y = nI pg.2.2.2.2
  | 3, y => y = nI pg.2.1.1
  | 4, y => y = nI su.2
  | 5, y => y = nI (enN (fneS pg.1 pg.2.2.1.2 (lcC pg su)) 0 pg.2.2.1.1)
  | 6, y => ∃ C, rchC pg.1 (begS su.1) C ∧ y = nI (enN (fneS pg.1 pg.2.2.1.2 C) 0 pg.2.2.1.1)
  | 7, y => y = nI (fb_ct (lcC pg su (nA pg.1)) 216)
  | 8, y => ∃ C, rchC pg.1 (begS su.1) C ∧ y = nI (fb_ct (C (nA pg.1)) 216)
  | 9, y => y = nI hy.1
  | 10, y => y = nI ze.1
  | _, y => y = nI len
theorem ts_out {x : Int32} {b : Nat} (h : ∀ n, n < b + 1 → x ≠ nI n) : x.toInt < 0 ∨ (b : Int) < x.toInt := by
  rcases Int.lt_or_le x.toInt 0 with q | q
  · exact Or.inl q
  · rcases Int.lt_or_le (b : Int) x.toInt with q2 | q2
    · exact Or.inr q2
    · exact absurd (i32_nat q) (h _ (by omega))
theorem c_X12_about_0 {Γ : GT} {G : GG} {M : MM} {m : Nat} (hF : mdF G M.2.2 m) {tx : Nat → Nat} {len : Nat} {pg : PGM} {su : SU} {hy : HY} {kp : KP} {ze : SE} {sd : Int64} (hI : mInv M m tx len pg su hy kp ze sd) {x : Int32} (hx : ∀ n, n < 12 → x ≠ nI n) : Calls Γ q_X12_about [.ref m, .int x] G M (rI (fun y M' => y = -2 ∧ mInv M' m (tx) (len) (pg) (su) (hy) (kp) (ze) (sd) ∧ offM m M M')) := by
  have hI0 := hI
  obtain ⟨iT, iP, iN, iD, iK, iS, iE, iC⟩ := hI
  refine Calls.intro (by decide +kernel) (Nat.le_of_ble_eq_true rfl) (fun z E h hQ => ?_)
  refine x_loc (L' := [some (.ref m), some (.int x)]) rfl ?_
  refine x_iload_n h dX12_about_0 rfl ?_
  refine x_tout h 166 dX12_about_1 (ts_out (b := 11) hx) (by decide) ?_
  refine x_bipush h (-2) (by decide) dX12_about_166 ?_
  exact x_iret h hQ rfl dX12_about_168 ⟨rfl, rfl, _, rfl, rfl, hI0, off_refl m M⟩
theorem c_X12_about_1 {Γ : GT} {G : GG} {M : MM} {m : Nat} (hF : mdF G M.2.2 m) {tx : Nat → Nat} {len : Nat} {pg : PGM} {su : SU} {hy : HY} {kp : KP} {ze : SE} {sd : Int64} (hI : mInv M m tx len pg su hy kp ze sd) {n : Nat} (hn : n < 12) : Calls Γ q_X12_about [.ref m, .int (nI n)] G M (rI (fun y M' => abS pg su hy ze len n y ∧ mInv M' m tx len pg su hy kp ze sd ∧ offM m M M')) := by
  have hI0 := hI
  obtain ⟨iT, iP, iN, iD, iK, iS, iE, iC⟩ := hI
  have q60 := iP.1.1
  have ht : rowI M (m + 21) su.1 := fun v hv => ⟨by have := iN.1.1 v hv; rw [Nat.zero_add] at this; exact this, iN.2.1 v hv⟩
  have n3 : M.1 (m + 21) 3 = nI su.2 := iN.1.2
  have o32 := su32 iN.2 iP.2.2.1.1
  obtain ⟨C0, F0, hCF⟩ := iC
  refine Calls.intro (by decide +kernel) (Nat.le_of_ble_eq_true rfl) (fun z E h hQ => ?_)
  refine x_loc (L' := [some (.ref m), some (.int (nI n))]) rfl ?_
  refine x_iload_n h dX12_about_0 rfl ?_
  rcases (show n = 0 ∨ n = 1 ∨ n = 2 ∨ n = 3 ∨ n = 4 ∨ n = 5 ∨ n = 6 ∨ n = 7 ∨ n = 8 ∨ n = 9 ∨ n = 10 ∨ n = 11 by omega) with rfl | rfl | rfl | rfl | rfl | rfl | rfl | rfl | rfl | rfl | rfl | rfl
  · refine x_tin h 64 dX12_about_1 (by decide) (by decide) (off := 63) (by decide) (by decide) ?_
    refine x_aload_n h dX12_about_64 rfl ?_
    refine x_getIv h hF.1 f_X12_208 rfl iP.2.2.2.1.2.1 dX12_about_65 ?_
    exact x_iret h hQ rfl dX12_about_68 ⟨rfl, rfl, _, rfl, rfl, hI0, off_refl m M⟩
  · refine x_tin h 69 dX12_about_1 (by decide) (by decide) (off := 68) (by decide) (by decide) ?_
    refine x_aload_n h dX12_about_69 rfl ?_
    refine x_getIv h hF.1 f_X12_211 rfl iP.2.2.2.2.1.2.1 dX12_about_70 ?_
    exact x_iret h hQ rfl dX12_about_73 ⟨rfl, rfl, _, rfl, rfl, hI0, off_refl m M⟩
  · refine x_tin h 74 dX12_about_1 (by decide) (by decide) (off := 73) (by decide) (by decide) ?_
    refine x_aload_n h dX12_about_74 rfl ?_
    refine x_getIv h hF.1 f_X12_214 rfl iP.2.2.2.2.2.1 dX12_about_75 ?_
    exact x_iret h hQ rfl dX12_about_78 ⟨rfl, rfl, _, rfl, rfl, hI0, off_refl m M⟩
  · refine x_tin h 79 dX12_about_1 (by decide) (by decide) (off := 78) (by decide) (by decide) ?_
    refine x_aload_n h dX12_about_79 rfl ?_
    refine x_getIv h hF.1 f_X12_217 rfl iP.2.2.1.2.1 dX12_about_80 ?_
    exact x_iret h hQ rfl dX12_about_83 ⟨rfl, rfl, _, rfl, rfl, hI0, off_refl m M⟩
  · refine x_tin h 84 dX12_about_1 (by decide) (by decide) (off := 83) (by decide) (by decide) ?_
    refine x_aload_n h dX12_about_84 rfl ?_
    refine x_getR h hF.1 f_X12_70 rfl (md_now hF).1 dX12_about_85 ?_
    refine x_in3 h dX12_about_88 ?_
    refine x_ialdv h 3 (md_now hF).2 (ix.ni (j := 3) (by decide) (by decide)) n3 dX12_about_89 ?_
    exact x_iret h hQ rfl dX12_about_90 ⟨rfl, rfl, _, rfl, rfl, hI0, off_refl m M⟩
  · refine x_tin h 91 dX12_about_1 (by decide) (by decide) (off := 90) (by decide) (by decide) ?_
    refine x_mem hCF ?_
    refine x_aload_n h dX12_about_91 rfl ?_
    refine x_aload_n h dX12_about_92 rfl ?_
    refine x_getR h hF.1 f_X12_70 rfl (md_now hF).1 dX12_about_93 ?_
    refine x_cVv h ci_X12_invariants im_X12_invariants l_X12_307 ⟨Nat.le_of_ble_eq_true rfl, Nat.le_of_ble_eq_true rfl⟩ ⟨rfl, rfl⟩ ⟨Nat.zero_le _, Nat.zero_le _⟩ (c_X12_invariants (m := m) hF iP.1 iP.2.1 iP.2.2.1 (md_now hF).2 ht (by omega) n3 o32 (act := actP pg su) rfl) rfl rfl rfl rfl hF.1 (by decide) rfl dX12_about_96 (fun M96 hp96 => ?_)
    subst hp96
    refine x_aload_n h dX12_about_99 rfl ?_
    refine x_cVi h ci_X12_fine im_X12_fine l_X12_301 ⟨Nat.le_of_ble_eq_true rfl, Nat.le_of_ble_eq_true rfl⟩ ⟨rfl, rfl⟩ ⟨Nat.zero_le _, Nat.zero_le _⟩ (c_X12_fine (M := hsM M m _) hF (mpW_hs iP.1 _) iP.2.1 (ckW_hs iP.2.2.2.1 _)) rfl rfl rfl rfl hF.1 (by decide) rfl dX12_about_100 (fun v100 M100 hp100 => ?_)
    have hv := hp100.1
    have hM := hp100.2
    clear hp100
    rw [hv]
    clear hv v100
    obtain rfl := hM.symm
    clear hM
    exact x_iret h hQ rfl dX12_about_103 ⟨rfl, rfl, _, rfl, rfl, mInv_CF (mInv_hs hI0 _) _ _, off_hs M m _ _ _⟩
  · refine x_tin h 104 dX12_about_1 (by decide) (by decide) (off := 103) (by decide) (by decide) ?_
    refine x_mem hCF ?_
    refine x_aload_n h dX12_about_104 rfl ?_
    refine x_aload_n h dX12_about_105 rfl ?_
    refine x_getR h hF.1 f_X12_70 rfl (md_now hF).1 dX12_about_106 ?_
    refine x_cVv h ci_X12_layReached im_X12_layReached l_X12_310 ⟨Nat.le_of_ble_eq_true rfl, Nat.le_of_ble_eq_true rfl⟩ ⟨rfl, rfl⟩ ⟨Nat.zero_le _, Nat.zero_le _⟩ (c_X12_layReached (m := m) hF iP.1 iP.2.1 (md_now hF).2 ht) rfl rfl rfl rfl hF.1 (by decide) rfl dX12_about_109 (fun M109 hp109 => ?_)
    obtain ⟨x9, hM, hRC⟩ := hp109
    subst hM
    refine x_aload_n h dX12_about_112 rfl ?_
    refine x_cVi h ci_X12_fine im_X12_fine l_X12_301 ⟨Nat.le_of_ble_eq_true rfl, Nat.le_of_ble_eq_true rfl⟩ ⟨rfl, rfl⟩ ⟨Nat.zero_le _, Nat.zero_le _⟩ (c_X12_fine hF iP.1 iP.2.1 iP.2.2.2.1) rfl rfl rfl rfl hF.1 (by decide) rfl dX12_about_113 (fun v113 M113 hp113 => ?_)
    have hv := hp113.1
    have hM := hp113.2
    clear hp113
    rw [hv]
    clear hv v113
    obtain rfl := hM.symm
    clear hM
    exact x_iret h hQ rfl dX12_about_116 ⟨rfl, rfl, _, rfl, (show ∃ C, rchC _ _ C ∧ _ from ⟨x9.1, hRC, rfl⟩), mInv_CF hI0 _ _, off_cf M m _ _⟩
  · refine x_tin h 117 dX12_about_1 (by decide) (by decide) (off := 116) (by decide) (by decide) ?_
    refine x_mem hCF ?_
    refine x_aload_n h dX12_about_117 rfl ?_
    refine x_aload_n h dX12_about_118 rfl ?_
    refine x_getR h hF.1 f_X12_70 rfl (md_now hF).1 dX12_about_119 ?_
    refine x_cVv h ci_X12_invariants im_X12_invariants l_X12_307 ⟨Nat.le_of_ble_eq_true rfl, Nat.le_of_ble_eq_true rfl⟩ ⟨rfl, rfl⟩ ⟨Nat.zero_le _, Nat.zero_le _⟩ (c_X12_invariants (m := m) hF iP.1 iP.2.1 iP.2.2.1 (md_now hF).2 ht (by omega) n3 o32 (act := actP pg su) rfl) rfl rfl rfl rfl hF.1 (by decide) rfl dX12_about_122 (fun M122 hp122 => ?_)
    subst hp122
    refine x_aload_n h dX12_about_125 rfl ?_
    refine x_aload_n h dX12_about_126 rfl ?_
    refine x_getIv h hF.1 f_X12_205 rfl (show _ = nI (nA pg.1) from (hsM_ne _ 8 (by omega)).trans iP.1.2.1) dX12_about_127 ?_
    refine x_cVi h ci_X12_manyAt im_X12_manyAt l_X12_313 ⟨Nat.le_of_ble_eq_true rfl, Nat.le_of_ble_eq_true rfl⟩ ⟨rfl, rfl⟩ ⟨Nat.zero_le _, Nat.zero_le _⟩ (c_X12_manyAt (M := hsM M m _) hF (by omega)) rfl rfl rfl rfl hF.1 (by decide) rfl dX12_about_130 (fun v130 M130 hp130 => ?_)
    have hv := hp130.1
    have hM := hp130.2
    clear hp130
    rw [hv]
    clear hv v130
    obtain rfl := hM.symm
    clear hM
    exact x_iret h hQ rfl dX12_about_133 ⟨rfl, rfl, _, rfl, rfl, mInv_CF (mInv_hs hI0 _) _ _, off_hs M m _ _ _⟩
  · refine x_tin h 134 dX12_about_1 (by decide) (by decide) (off := 133) (by decide) (by decide) ?_
    refine x_mem hCF ?_
    refine x_aload_n h dX12_about_134 rfl ?_
    refine x_aload_n h dX12_about_135 rfl ?_
    refine x_getR h hF.1 f_X12_70 rfl (md_now hF).1 dX12_about_136 ?_
    refine x_cVv h ci_X12_layReached im_X12_layReached l_X12_310 ⟨Nat.le_of_ble_eq_true rfl, Nat.le_of_ble_eq_true rfl⟩ ⟨rfl, rfl⟩ ⟨Nat.zero_le _, Nat.zero_le _⟩ (c_X12_layReached (m := m) hF iP.1 iP.2.1 (md_now hF).2 ht) rfl rfl rfl rfl hF.1 (by decide) rfl dX12_about_139 (fun M139 hp139 => ?_)
    obtain ⟨x9, hM, hRC⟩ := hp139
    subst hM
    refine x_aload_n h dX12_about_142 rfl ?_
    refine x_aload_n h dX12_about_143 rfl ?_
    refine x_getIv h hF.1 f_X12_205 rfl iP.1.2.1 dX12_about_144 ?_
    refine x_cVi h ci_X12_manyAt im_X12_manyAt l_X12_313 ⟨Nat.le_of_ble_eq_true rfl, Nat.le_of_ble_eq_true rfl⟩ ⟨rfl, rfl⟩ ⟨Nat.zero_le _, Nat.zero_le _⟩ (c_X12_manyAt hF (by omega)) rfl rfl rfl rfl hF.1 (by decide) rfl dX12_about_147 (fun v147 M147 hp147 => ?_)
    have hv := hp147.1
    have hM := hp147.2
    clear hp147
    rw [hv]
    clear hv v147
    obtain rfl := hM.symm
    clear hM
    exact x_iret h hQ rfl dX12_about_150 ⟨rfl, rfl, _, rfl, (show ∃ C, rchC _ _ C ∧ _ from ⟨x9.1, hRC, rfl⟩), mInv_CF hI0 _ _, off_cf M m _ _⟩
  · refine x_tin h 151 dX12_about_1 (by decide) (by decide) (off := 150) (by decide) (by decide) ?_
    refine x_aload_n h dX12_about_151 rfl ?_
    refine x_getIv h hF.1 f_X12_223 rfl iD.2.1 dX12_about_152 ?_
    exact x_iret h hQ rfl dX12_about_155 ⟨rfl, rfl, _, rfl, rfl, hI0, off_refl m M⟩
  · refine x_tin h 156 dX12_about_1 (by decide) (by decide) (off := 155) (by decide) (by decide) ?_
    refine x_aload_n h dX12_about_156 rfl ?_
    refine x_getIv h hF.1 f_X12_316 rfl iS.2.1 dX12_about_157 ?_
    exact x_iret h hQ rfl dX12_about_160 ⟨rfl, rfl, _, rfl, rfl, hI0, off_refl m M⟩
  · refine x_tin h 161 dX12_about_1 (by decide) (by decide) (off := 160) (by decide) (by decide) ?_
    refine x_aload_n h dX12_about_161 rfl ?_
    refine x_getIv h hF.1 f_X12_118 rfl iT.2.1 dX12_about_162 ?_
    exact x_iret h hQ rfl dX12_about_165 ⟨rfl, rfl, _, rfl, rfl, hI0, off_refl m M⟩
theorem c_X12_loop_0 {Γ : GT} {G : GG} {M : MM} {m : Nat} (hF : mdF G M.2.2 m) {tx : Nat → Nat} {len : Nat} {pg : PGM} {su : SU} {hy : HY} {kp : KP} {ze : SE} {sd : Int64} (hI : mInv M m tx len pg su hy kp ze sd) {x w : Int32} (hx : ∀ n, n < pg.2.2.2.1.1 → x ≠ nI n) : Calls Γ q_X12_loop [.ref m, .int x, .int w] G M (rI (fun y M' => y = -1 ∧ mInv M' m (tx) (len) (pg) (su) (hy) (kp) (ze) (sd) ∧ offM m M M')) := by
  have hI0 := hI
  obtain ⟨iT, iP, iN, iD, iK, iS, iE, iC⟩ := hI
  have nl3 := iP.2.2.2.2.1.1
  refine Calls.intro (by decide +kernel) (Nat.le_of_ble_eq_true rfl) (fun z E h hQ => ?_)
  refine x_loc (L' := [some (.ref m), some (.int x), some (.int w), none]) rfl ?_
  refine x_iload_n h dX12_loop_0 rfl ?_
  refine x_i2l h dX12_loop_1 ?_
  refine x_lc0 h dX12_loop_2 ?_
  refine x_aload_n h dX12_loop_3 rfl ?_
  refine x_getIv h hF.1 f_X12_211 rfl iP.2.2.2.2.1.2.1 dX12_loop_4 ?_
  refine x_in1 h dX12_loop_7 ?_
  refine x_isub h dX12_loop_8 ?_
  refine x_i2l h dX12_loop_9 ?_
  refine x_cSi h ci_X12_in sm_X12_in l_X12_114 ⟨Nat.le_of_ble_eq_true rfl, Nat.le_of_ble_eq_true rfl⟩ ⟨rfl, rfl⟩ ⟨Nat.zero_le _, Nat.zero_le _⟩ (c_X12_in (b := lN 0)) rfl rfl rfl rfl dX12_loop_10 (fun v10 M10 hp10 => ?_)
  obtain ⟨rfl, hM⟩ := hp10
  obtain rfl := hM.symm
  clear hM
  refine x_if_ne h 18 dX12_loop_13 (by decide) (fun c13 => ?_) (fun c13 => ?_)
  · exact absurd (b2i_0.mpr (in_gn hx (by omega))) c13
  · refine x_icm1 h dX12_loop_16 ?_
    exact x_iret h hQ rfl dX12_loop_17 ⟨rfl, rfl, _, rfl, rfl, hI0, off_refl m M⟩
theorem c_X12_loop_1 {Γ : GT} {G : GG} {M : MM} {m : Nat} (hF : mdF G M.2.2 m) {tx : Nat → Nat} {len : Nat} {pg : PGM} {su : SU} {hy : HY} {kp : KP} {ze : SE} {sd : Int64} (hI : mInv M m tx len pg su hy kp ze sd) {n : Nat} {w : Int32} (hn : n < pg.2.2.2.1.1) (hw : ∀ n, n < 4 → w ≠ nI n) : Calls Γ q_X12_loop [.ref m, .int (nI n), .int w] G M (rI (fun y M' => y = -2 ∧ mInv M' m (tx) (len) (pg) (su) (hy) (kp) (ze) (sd) ∧ offM m M M')) := by
  have hI0 := hI
  obtain ⟨iT, iP, iN, iD, iK, iS, iE, iC⟩ := hI
  have nl3 := iP.2.2.2.2.1.1
  refine Calls.intro (by decide +kernel) (Nat.le_of_ble_eq_true rfl) (fun z E h hQ => ?_)
  refine x_loc (L' := [some (.ref m), some (.int (nI n)), some (.int w), none]) rfl ?_
  refine x_iload_n h dX12_loop_0 rfl ?_
  refine x_i2l h dX12_loop_1 ?_
  refine x_lc0 h dX12_loop_2 ?_
  refine x_aload_n h dX12_loop_3 rfl ?_
  refine x_getIv h hF.1 f_X12_211 rfl iP.2.2.2.2.1.2.1 dX12_loop_4 ?_
  refine x_in1 h dX12_loop_7 ?_
  refine x_isub h dX12_loop_8 ?_
  refine x_i2l h dX12_loop_9 ?_
  refine x_cSi h ci_X12_in sm_X12_in l_X12_114 ⟨Nat.le_of_ble_eq_true rfl, Nat.le_of_ble_eq_true rfl⟩ ⟨rfl, rfl⟩ ⟨Nat.zero_le _, Nat.zero_le _⟩ (c_X12_in (b := lN 0)) rfl rfl rfl rfl dX12_loop_10 (fun v10 M10 hp10 => ?_)
  obtain ⟨rfl, hM⟩ := hp10
  obtain rfl := hM.symm
  clear hM
  refine x_if_ne h 18 dX12_loop_13 (by decide) (fun c13 => ?_) (fun c13 => ?_)
  · refine x_iload_n h dX12_loop_18 rfl ?_
    refine x_i2l h dX12_loop_19 ?_
    refine x_lc0 h dX12_loop_20 ?_
    refine x_ldc2 h kl_X12_319 dX12_loop_21 ?_
    refine x_cSi h ci_X12_in sm_X12_in l_X12_114 ⟨Nat.le_of_ble_eq_true rfl, Nat.le_of_ble_eq_true rfl⟩ ⟨rfl, rfl⟩ ⟨Nat.zero_le _, Nat.zero_le _⟩ (c_X12_in (b := lN 0) (c := lN 3)) rfl rfl rfl rfl dX12_loop_24 (fun v24 M24 hp24 => ?_)
    obtain ⟨rfl, hM⟩ := hp24
    obtain rfl := hM.symm
    clear hM
    refine x_if_ne h 33 dX12_loop_27 (by decide) (fun c27 => ?_) (fun c27 => ?_)
    · exact absurd (b2i_0.mpr (in_no hw (by decide))) c27
    · refine x_bipush h (-2) (by decide) dX12_loop_30 ?_
      exact x_iret h hQ rfl dX12_loop_32 ⟨rfl, rfl, _, rfl, rfl, hI0, off_refl m M⟩
  · exact absurd (in_gy hn (by omega)) (by rw [b2i_0.mp c13]; decide)
def lpS (pg : PGM) (su : SU) (l : Nat) : Nat → Int32 → Prop
  | 0, y => y = nI (hsP pg su l)
  | 1, y => y = nI (fb_ct (agS pg.2.1 (hsP pg su l)) 216)
  | 2, y => ∃ C, rchC pg.1 (begS su.1) C ∧ y = nI (fb_ct (C (pg.2.2.2.1.2 l)) 216)
  | _, y => y = nI (fb_ct (lcC pg su (pg.2.2.2.1.2 l)) 216)
theorem lp_u {M : MM} {m : Nat} {Q : AP} {nl : Nat} {ln : Nat → Nat} (h : lpW M m Q nl ln) {c : Nat} (hc : c < nl) : ∀ j, j < nA Q → (kA Q j = 6 ∧ mA Q j = c ↔ j = ln c) := fun j hj => ⟨fun q => by rw [← q.2]; exact (h.2.2.2 j hj q.1).2, fun q => by rw [q]; exact (h.2.2.1 c hc).2⟩
theorem c_X12_loop_2 {Γ : GT} {G : GG} {M : MM} {m : Nat} (hF : mdF G M.2.2 m) {tx : Nat → Nat} {len : Nat} {pg : PGM} {su : SU} {hy : HY} {kp : KP} {ze : SE} {sd : Int64} (hI : mInv M m tx len pg su hy kp ze sd) {n w : Nat} (hn : n < pg.2.2.2.1.1) (hw : w < 4) : Calls Γ q_X12_loop [.ref m, .int (nI n), .int (nI w)] G M (rI (fun y M' => lpS pg su n w y ∧ mInv M' m tx len pg su hy kp ze sd ∧ offM m M M')) := by
  have hI0 := hI
  obtain ⟨iT, iP, iN, iD, iK, iS, iE, iC⟩ := hI
  have q60 := iP.1.1
  have ht : rowI M (m + 21) su.1 := fun v hv => ⟨by have := iN.1.1 v hv; rw [Nat.zero_add] at this; exact this, iN.2.1 v hv⟩
  have n3 : M.1 (m + 21) 3 = nI su.2 := iN.1.2
  have o32 := su32 iN.2 iP.2.2.1.1
  obtain ⟨C0, F0, hCF⟩ := iC
  have nl3 := iP.2.2.2.2.1.1
  have hl := iP.2.2.2.2.1.2.2.1 n hn
  have hl1 := hl.1
  have hh : ∀ l, hsP pg su l < 32 := fun l => it_lt (actP_lt su iP.2.2.1.1) 15 l
  refine Calls.intro (by decide +kernel) (Nat.le_of_ble_eq_true rfl) (fun z E h hQ => ?_)
  refine x_loc (L' := [some (.ref m), some (.int (nI n)), some (.int (nI w)), none]) rfl ?_
  refine x_iload_n h dX12_loop_0 rfl ?_
  refine x_i2l h dX12_loop_1 ?_
  refine x_lc0 h dX12_loop_2 ?_
  refine x_aload_n h dX12_loop_3 rfl ?_
  refine x_getIv h hF.1 f_X12_211 rfl iP.2.2.2.2.1.2.1 dX12_loop_4 ?_
  refine x_in1 h dX12_loop_7 ?_
  refine x_isub h dX12_loop_8 ?_
  refine x_i2l h dX12_loop_9 ?_
  refine x_cSi h ci_X12_in sm_X12_in l_X12_114 ⟨Nat.le_of_ble_eq_true rfl, Nat.le_of_ble_eq_true rfl⟩ ⟨rfl, rfl⟩ ⟨Nat.zero_le _, Nat.zero_le _⟩ (c_X12_in (b := lN 0)) rfl rfl rfl rfl dX12_loop_10 (fun v10 M10 hp10 => ?_)
  obtain ⟨rfl, hM⟩ := hp10
  obtain rfl := hM.symm
  clear hM
  refine x_if_ne h 18 dX12_loop_13 (by decide) (fun c13 => ?_) (fun c13 => ?_)
  · refine x_iload_n h dX12_loop_18 rfl ?_
    refine x_i2l h dX12_loop_19 ?_
    refine x_lc0 h dX12_loop_20 ?_
    refine x_ldc2 h kl_X12_319 dX12_loop_21 ?_
    refine x_cSi h ci_X12_in sm_X12_in l_X12_114 ⟨Nat.le_of_ble_eq_true rfl, Nat.le_of_ble_eq_true rfl⟩ ⟨rfl, rfl⟩ ⟨Nat.zero_le _, Nat.zero_le _⟩ (c_X12_in (b := lN 0) (c := lN 3)) rfl rfl rfl rfl dX12_loop_24 (fun v24 M24 hp24 => ?_)
    obtain ⟨rfl, hM⟩ := hp24
    obtain rfl := hM.symm
    clear hM
    refine x_if_ne h 33 dX12_loop_27 (by decide) (fun c27 => ?_) (fun c27 => ?_)
    · refine x_aload_n h dX12_loop_33 rfl ?_
      refine x_bipush h (nI 6) (by decide) dX12_loop_34 ?_
      refine x_iload_n h dX12_loop_36 rfl ?_
      refine x_cVi h ci_X12_nodeOf im_X12_nodeOf l_X12_292 ⟨Nat.le_of_ble_eq_true rfl, Nat.le_of_ble_eq_true rfl⟩ ⟨rfl, rfl⟩ ⟨Nat.zero_le _, Nat.zero_le _⟩ (c_X12_nodeOf hF iP.1 iP.2.1 (kd := 6) (nm := n) (Or.inr rfl) (by omega) hl1 (lp_u iP.2.2.2.2.1 hn)) rfl rfl rfl rfl hF.1 (by decide) rfl dX12_loop_37 (fun v37 M37 hp37 => ?_)
      obtain ⟨rfl, hM⟩ := hp37
      obtain rfl := hM.symm
      clear hM
      refine x_istore_n h dX12_loop_40 rfl rfl ?_
      dsimp only [List.set]
      refine x_iload_n h dX12_loop_41 rfl ?_
      refine x_in2 h dX12_loop_42 ?_
      refine x_icmp_ne h 60 dX12_loop_43 (by decide) (fun c43 => ?_) (fun c43 => ?_)
      · have e2 : ¬ w = 2 := fun q => c43 (by rw [q])
        refine x_mem hCF ?_
        refine x_aload_n h dX12_loop_60 rfl ?_
        refine x_aload_n h dX12_loop_61 rfl ?_
        refine x_getR h hF.1 f_X12_70 rfl (md_now hF).1 dX12_loop_62 ?_
        refine x_cVv h ci_X12_invariants im_X12_invariants l_X12_307 ⟨Nat.le_of_ble_eq_true rfl, Nat.le_of_ble_eq_true rfl⟩ ⟨rfl, rfl⟩ ⟨Nat.zero_le _, Nat.zero_le _⟩ (c_X12_invariants (m := m) hF iP.1 iP.2.1 iP.2.2.1 (md_now hF).2 ht (by omega) n3 o32 (act := actP pg su) rfl) rfl rfl rfl rfl hF.1 (by decide) rfl dX12_loop_65 (fun M65 hp65 => ?_)
        subst hp65
        refine x_iload_n h dX12_loop_68 rfl ?_
        refine x_if_ne h 81 dX12_loop_69 (by decide) (fun c69 => ?_) (fun c69 => ?_)
        · have e0 : ¬ w = 0 := fun q => c69 (by rw [q]; exact nI_0)
          refine x_iload_n h dX12_loop_81 rfl ?_
          refine x_in1 h dX12_loop_82 ?_
          refine x_icmp_ne h 99 dX12_loop_83 (by decide) (fun c83 => ?_) (fun c83 => ?_)
          · have e1 : ¬ w = 1 := fun q => c83 (by rw [q])
            refine x_aload_n h dX12_loop_99 rfl ?_
            refine x_iload_n h dX12_loop_100 rfl ?_
            refine x_cVi h ci_X12_manyAt im_X12_manyAt l_X12_313 ⟨Nat.le_of_ble_eq_true rfl, Nat.le_of_ble_eq_true rfl⟩ ⟨rfl, rfl⟩ ⟨Nat.zero_le _, Nat.zero_le _⟩ (c_X12_manyAt (M := hsM M m _) hF (by omega)) rfl rfl rfl rfl hF.1 (by decide) rfl dX12_loop_101 (fun v101 M101 hp101 => ?_)
            have hv := hp101.1
            have hM := hp101.2
            clear hp101
            rw [hv]
            clear hv v101
            obtain rfl := hM.symm
            clear hM
            exact x_iret h hQ rfl dX12_loop_104 ⟨rfl, rfl, _, rfl, (by have e9 : w = 3 := (by omega); subst e9; exact rfl), mInv_CF (mInv_hs hI0 _) _ _, off_hs M m _ _ _⟩
          · have e1 : w = 1 := nI_small 1 (by omega) (by decide) c83
            subst e1
            refine x_aload_n h dX12_loop_86 rfl ?_
            refine x_aload_n h dX12_loop_87 rfl ?_
            refine x_getR h hF.1 f_X12_99 rfl (md_has hF).1 dX12_loop_88 ?_
            refine x_iload_n h dX12_loop_91 rfl ?_
            refine x_ialdv h n (md_has hF).2 (ix.ni (by omega) (by decide)) (show _ = nI (hsP pg su n) from (hsW_hs hh n (by omega)).1) dX12_loop_92 ?_
            refine x_cVi h ci_X12_manyGuessed im_X12_manyGuessed l_X12_321 ⟨Nat.le_of_ble_eq_true rfl, Nat.le_of_ble_eq_true rfl⟩ ⟨rfl, rfl⟩ ⟨Nat.zero_le _, Nat.zero_le _⟩ (c_X12_manyGuessed (M := wCF (hsM M m _) m _ _) hF (mgW_hs iP.2.2.1 _) (hh n)) rfl rfl rfl rfl hF.1 (by decide) rfl dX12_loop_93 (fun v93 M93 hp93 => ?_)
            have hv := hp93.1
            have hM := hp93.2
            clear hp93
            rw [hv]
            clear hv v93
            obtain rfl := hM.symm
            clear hM
            refine x_goto h 104 dX12_loop_96 (by decide) ?_
            exact x_iret h hQ rfl dX12_loop_104 ⟨rfl, rfl, _, rfl, rfl, mInv_CF (mInv_hs hI0 _) _ _, off_hs M m _ _ _⟩
        · have e0 : w = 0 := nI_small 0 (by omega) (by decide) (c69.trans nI_0.symm)
          subst e0
          refine x_aload_n h dX12_loop_72 rfl ?_
          refine x_getR h hF.1 f_X12_99 rfl (md_has hF).1 dX12_loop_73 ?_
          refine x_iload_n h dX12_loop_76 rfl ?_
          refine x_ialdv h n (md_has hF).2 (ix.ni (by omega) (by decide)) (show _ = nI (hsP pg su n) from (hsW_hs hh n (by omega)).1) dX12_loop_77 ?_
          refine x_goto h 104 dX12_loop_78 (by decide) ?_
          exact x_iret h hQ rfl dX12_loop_104 ⟨rfl, rfl, _, rfl, rfl, mInv_CF (mInv_hs hI0 _) _ _, off_hs M m _ _ _⟩
      · have e2 : w = 2 := nI_small 2 (by omega) (by decide) c43
        subst e2
        refine x_mem hCF ?_
        refine x_aload_n h dX12_loop_46 rfl ?_
        refine x_aload_n h dX12_loop_47 rfl ?_
        refine x_getR h hF.1 f_X12_70 rfl (md_now hF).1 dX12_loop_48 ?_
        refine x_cVv h ci_X12_layReached im_X12_layReached l_X12_310 ⟨Nat.le_of_ble_eq_true rfl, Nat.le_of_ble_eq_true rfl⟩ ⟨rfl, rfl⟩ ⟨Nat.zero_le _, Nat.zero_le _⟩ (c_X12_layReached (m := m) hF iP.1 iP.2.1 (md_now hF).2 ht) rfl rfl rfl rfl hF.1 (by decide) rfl dX12_loop_51 (fun M51 hp51 => ?_)
        obtain ⟨x9, hM, hRC⟩ := hp51
        subst hM
        refine x_aload_n h dX12_loop_54 rfl ?_
        refine x_iload_n h dX12_loop_55 rfl ?_
        refine x_cVi h ci_X12_manyAt im_X12_manyAt l_X12_313 ⟨Nat.le_of_ble_eq_true rfl, Nat.le_of_ble_eq_true rfl⟩ ⟨rfl, rfl⟩ ⟨Nat.zero_le _, Nat.zero_le _⟩ (c_X12_manyAt hF (by omega)) rfl rfl rfl rfl hF.1 (by decide) rfl dX12_loop_56 (fun v56 M56 hp56 => ?_)
        have hv := hp56.1
        have hM := hp56.2
        clear hp56
        rw [hv]
        clear hv v56
        obtain rfl := hM.symm
        clear hM
        exact x_iret h hQ rfl dX12_loop_59 ⟨rfl, rfl, _, rfl, (show ∃ C, rchC _ _ C ∧ _ from ⟨x9.1, hRC, rfl⟩), mInv_CF hI0 _ _, off_cf M m _ _⟩
    · exact absurd (in_yes (n := w) (b := 3) (by omega) (by decide)) (by rw [b2i_0.mp c27]; decide)
  · exact absurd (in_gy hn (by omega)) (by rw [b2i_0.mp c13]; decide)
theorem c_X12_check_0 {Γ : GT} {G : GG} {M : MM} {m : Nat} (hF : mdF G M.2.2 m) {tx : Nat → Nat} {len : Nat} {pg : PGM} {su : SU} {hy : HY} {kp : KP} {ze : SE} {sd : Int64} (hI : mInv M m tx len pg su hy kp ze sd) {x w : Int32} (hx : ∀ n, n < pg.2.2.1.1 → x ≠ nI n) : Calls Γ q_X12_check [.ref m, .int x, .int w] G M (rI (fun y M' => y = -1 ∧ mInv M' m (tx) (len) (pg) (su) (hy) (kp) (ze) (sd) ∧ offM m M M')) := by
  have hI0 := hI
  obtain ⟨iT, iP, iN, iD, iK, iS, iE, iC⟩ := hI
  have nk4 := iP.2.2.2.1.1
  refine Calls.intro (by decide +kernel) (Nat.le_of_ble_eq_true rfl) (fun z E h hQ => ?_)
  refine x_loc (L' := [some (.ref m), some (.int x), some (.int w)]) rfl ?_
  refine x_iload_n h dX12_check_0 rfl ?_
  refine x_i2l h dX12_check_1 ?_
  refine x_lc0 h dX12_check_2 ?_
  refine x_aload_n h dX12_check_3 rfl ?_
  refine x_getIv h hF.1 f_X12_208 rfl iP.2.2.2.1.2.1 dX12_check_4 ?_
  refine x_in1 h dX12_check_7 ?_
  refine x_isub h dX12_check_8 ?_
  refine x_i2l h dX12_check_9 ?_
  refine x_cSi h ci_X12_in sm_X12_in l_X12_114 ⟨Nat.le_of_ble_eq_true rfl, Nat.le_of_ble_eq_true rfl⟩ ⟨rfl, rfl⟩ ⟨Nat.zero_le _, Nat.zero_le _⟩ (c_X12_in (b := lN 0)) rfl rfl rfl rfl dX12_check_10 (fun v10 M10 hp10 => ?_)
  obtain ⟨rfl, hM⟩ := hp10
  obtain rfl := hM.symm
  clear hM
  refine x_if_ne h 18 dX12_check_13 (by decide) (fun c13 => ?_) (fun c13 => ?_)
  · exact absurd (b2i_0.mpr (in_gn hx (by omega))) c13
  · refine x_icm1 h dX12_check_16 ?_
    exact x_iret h hQ rfl dX12_check_17 ⟨rfl, rfl, _, rfl, rfl, hI0, off_refl m M⟩
theorem c_X12_check_1 {Γ : GT} {G : GG} {M : MM} {m : Nat} (hF : mdF G M.2.2 m) {tx : Nat → Nat} {len : Nat} {pg : PGM} {su : SU} {hy : HY} {kp : KP} {ze : SE} {sd : Int64} (hI : mInv M m tx len pg su hy kp ze sd) {n : Nat} {w : Int32} (hn : n < pg.2.2.1.1) (hw : ∀ n, n < 4 → w ≠ nI n) : Calls Γ q_X12_check [.ref m, .int (nI n), .int w] G M (rI (fun y M' => y = -2 ∧ mInv M' m (tx) (len) (pg) (su) (hy) (kp) (ze) (sd) ∧ offM m M M')) := by
  have hI0 := hI
  obtain ⟨iT, iP, iN, iD, iK, iS, iE, iC⟩ := hI
  have nk4 := iP.2.2.2.1.1
  refine Calls.intro (by decide +kernel) (Nat.le_of_ble_eq_true rfl) (fun z E h hQ => ?_)
  refine x_loc (L' := [some (.ref m), some (.int (nI n)), some (.int w)]) rfl ?_
  refine x_iload_n h dX12_check_0 rfl ?_
  refine x_i2l h dX12_check_1 ?_
  refine x_lc0 h dX12_check_2 ?_
  refine x_aload_n h dX12_check_3 rfl ?_
  refine x_getIv h hF.1 f_X12_208 rfl iP.2.2.2.1.2.1 dX12_check_4 ?_
  refine x_in1 h dX12_check_7 ?_
  refine x_isub h dX12_check_8 ?_
  refine x_i2l h dX12_check_9 ?_
  refine x_cSi h ci_X12_in sm_X12_in l_X12_114 ⟨Nat.le_of_ble_eq_true rfl, Nat.le_of_ble_eq_true rfl⟩ ⟨rfl, rfl⟩ ⟨Nat.zero_le _, Nat.zero_le _⟩ (c_X12_in (b := lN 0)) rfl rfl rfl rfl dX12_check_10 (fun v10 M10 hp10 => ?_)
  obtain ⟨rfl, hM⟩ := hp10
  obtain rfl := hM.symm
  clear hM
  refine x_if_ne h 18 dX12_check_13 (by decide) (fun c13 => ?_) (fun c13 => ?_)
  · refine x_iload_n h dX12_check_18 rfl ?_
    refine x_i2l h dX12_check_19 ?_
    refine x_lc0 h dX12_check_20 ?_
    refine x_ldc2 h kl_X12_319 dX12_check_21 ?_
    refine x_cSi h ci_X12_in sm_X12_in l_X12_114 ⟨Nat.le_of_ble_eq_true rfl, Nat.le_of_ble_eq_true rfl⟩ ⟨rfl, rfl⟩ ⟨Nat.zero_le _, Nat.zero_le _⟩ (c_X12_in (b := lN 0) (c := lN 3)) rfl rfl rfl rfl dX12_check_24 (fun v24 M24 hp24 => ?_)
    obtain ⟨rfl, hM⟩ := hp24
    obtain rfl := hM.symm
    clear hM
    refine x_if_ne h 33 dX12_check_27 (by decide) (fun c27 => ?_) (fun c27 => ?_)
    · exact absurd (b2i_0.mpr (in_no hw (by decide))) c27
    · refine x_bipush h (-2) (by decide) dX12_check_30 ?_
      exact x_iret h hQ rfl dX12_check_32 ⟨rfl, rfl, _, rfl, rfl, hI0, off_refl m M⟩
  · exact absurd (in_gy hn (by omega)) (by rw [b2i_0.mp c13]; decide)
def ckS (pg : PGM) (su : SU) (c : Nat) : Nat → Int32 → Prop
  | 0, y => y = nI (fb_ct (lcC pg su (pg.2.2.1.2 c)) 216)
  | 1, y => ∃ C, rchC pg.1 (begS su.1) C ∧ y = nI (fb_ct (C (pg.2.2.1.2 c)) 216)
  | 2, y => y = fstV (fun s => lcC pg su (pg.2.2.1.2 c) s && !cndT (cA pg.1 (pg.2.2.1.2 c)) s)
  | _, y => ∃ C, rchC pg.1 (begS su.1) C ∧ y = fstV (fun s => C (pg.2.2.1.2 c) s && !cndT (cA pg.1 (pg.2.2.1.2 c)) s)
theorem c_X12_check_2 {Γ : GT} {G : GG} {M : MM} {m : Nat} (hF : mdF G M.2.2 m) {tx : Nat → Nat} {len : Nat} {pg : PGM} {su : SU} {hy : HY} {kp : KP} {ze : SE} {sd : Int64} (hI : mInv M m tx len pg su hy kp ze sd) {n w : Nat} (hn : n < pg.2.2.1.1) (hw : w < 4) : Calls Γ q_X12_check [.ref m, .int (nI n), .int (nI w)] G M (rI (fun y M' => ckS pg su n w y ∧ mInv M' m tx len pg su hy kp ze sd ∧ offM m M M')) := by
  have hI0 := hI
  obtain ⟨iT, iP, iN, iD, iK, iS, iE, iC⟩ := hI
  have q60 := iP.1.1
  have ht : rowI M (m + 21) su.1 := fun v hv => ⟨by have := iN.1.1 v hv; rw [Nat.zero_add] at this; exact this, iN.2.1 v hv⟩
  have n3 : M.1 (m + 21) 3 = nI su.2 := iN.1.2
  have o32 := su32 iN.2 iP.2.2.1.1
  obtain ⟨C0, F0, hCF⟩ := iC
  have nk4 := iP.2.2.2.1.1
  have hl1 := (iP.2.2.2.1.2.2.1 n hn).1
  refine Calls.intro (by decide +kernel) (Nat.le_of_ble_eq_true rfl) (fun z E h hQ => ?_)
  refine x_loc (L' := [some (.ref m), some (.int (nI n)), some (.int (nI w))]) rfl ?_
  refine x_iload_n h dX12_check_0 rfl ?_
  refine x_i2l h dX12_check_1 ?_
  refine x_lc0 h dX12_check_2 ?_
  refine x_aload_n h dX12_check_3 rfl ?_
  refine x_getIv h hF.1 f_X12_208 rfl iP.2.2.2.1.2.1 dX12_check_4 ?_
  refine x_in1 h dX12_check_7 ?_
  refine x_isub h dX12_check_8 ?_
  refine x_i2l h dX12_check_9 ?_
  refine x_cSi h ci_X12_in sm_X12_in l_X12_114 ⟨Nat.le_of_ble_eq_true rfl, Nat.le_of_ble_eq_true rfl⟩ ⟨rfl, rfl⟩ ⟨Nat.zero_le _, Nat.zero_le _⟩ (c_X12_in (b := lN 0)) rfl rfl rfl rfl dX12_check_10 (fun v10 M10 hp10 => ?_)
  obtain ⟨rfl, hM⟩ := hp10
  obtain rfl := hM.symm
  clear hM
  refine x_if_ne h 18 dX12_check_13 (by decide) (fun c13 => ?_) (fun c13 => ?_)
  · refine x_iload_n h dX12_check_18 rfl ?_
    refine x_i2l h dX12_check_19 ?_
    refine x_lc0 h dX12_check_20 ?_
    refine x_ldc2 h kl_X12_319 dX12_check_21 ?_
    refine x_cSi h ci_X12_in sm_X12_in l_X12_114 ⟨Nat.le_of_ble_eq_true rfl, Nat.le_of_ble_eq_true rfl⟩ ⟨rfl, rfl⟩ ⟨Nat.zero_le _, Nat.zero_le _⟩ (c_X12_in (b := lN 0) (c := lN 3)) rfl rfl rfl rfl dX12_check_24 (fun v24 M24 hp24 => ?_)
    obtain ⟨rfl, hM⟩ := hp24
    obtain rfl := hM.symm
    clear hM
    refine x_if_ne h 33 dX12_check_27 (by decide) (fun c27 => ?_) (fun c27 => ?_)
    · refine x_iload_n h dX12_check_33 rfl ?_
      refine x_in2 h dX12_check_34 ?_
      refine x_iremn h ⟨by omega, by decide, by decide⟩ dX12_check_35 ?_
      refine x_if_ne h 50 dX12_check_36 (by decide) (fun c36 => ?_) (fun c36 => ?_)
      · have e1 : ¬ w % 2 = 0 := fun q => c36 (by rw [q]; exact nI_0)
        refine x_mem hCF ?_
        refine x_aload_n h dX12_check_50 rfl ?_
        refine x_aload_n h dX12_check_51 rfl ?_
        refine x_getR h hF.1 f_X12_70 rfl (md_now hF).1 dX12_check_52 ?_
        refine x_cVv h ci_X12_layReached im_X12_layReached l_X12_310 ⟨Nat.le_of_ble_eq_true rfl, Nat.le_of_ble_eq_true rfl⟩ ⟨rfl, rfl⟩ ⟨Nat.zero_le _, Nat.zero_le _⟩ (c_X12_layReached (m := m) hF iP.1 iP.2.1 (md_now hF).2 ht) rfl rfl rfl rfl hF.1 (by decide) rfl dX12_check_55 (fun M55 hp55 => ?_)
        obtain ⟨x9, hM, hRC⟩ := hp55
        subst hM
        refine x_iload_n h dX12_check_58 rfl ?_
        refine x_in2 h dX12_check_59 ?_
        refine x_icmp_ge h 76 dX12_check_60 (by decide) (fun c60 => ?_) (fun c60 => ?_)
        · have e2 : 2 ≤ w := (nI_le_iff (by decide) (by omega)).mp c60
          refine x_aload_n h dX12_check_76 rfl ?_
          refine x_iload_n h dX12_check_77 rfl ?_
          refine x_cVi h ci_X12_failing im_X12_failing l_X12_298 ⟨Nat.le_of_ble_eq_true rfl, Nat.le_of_ble_eq_true rfl⟩ ⟨rfl, rfl⟩ ⟨Nat.zero_le _, Nat.zero_le _⟩ (c_X12_failing hF iP.1 iP.2.1 iP.2.2.2.1 hn) rfl rfl rfl rfl hF.1 (by decide) rfl dX12_check_78 (fun v78 M78 hp78 => ?_)
          have hv := hp78.1
          have hM := hp78.2
          clear hp78
          rw [hv]
          clear hv v78
          obtain rfl := hM.symm
          clear hM
          exact x_iret h hQ rfl dX12_check_81 ⟨rfl, rfl, _, rfl, (by have e9 : w = 3 := (by omega); subst e9; exact (show ∃ C, rchC _ _ C ∧ _ from ⟨x9.1, hRC, rfl⟩)), mInv_CF hI0 _ _, off_cf M m _ _⟩
        · have e2 : ¬ 2 ≤ w := mt (nI_le_iff (a := 2) (b := w) (by decide) (by omega)).mpr c60
          refine x_aload_n h dX12_check_63 rfl ?_
          refine x_aload_n h dX12_check_64 rfl ?_
          refine x_in5 h dX12_check_65 ?_
          refine x_iload_n h dX12_check_66 rfl ?_
          refine x_cVi h ci_X12_nodeOf im_X12_nodeOf l_X12_292 ⟨Nat.le_of_ble_eq_true rfl, Nat.le_of_ble_eq_true rfl⟩ ⟨rfl, rfl⟩ ⟨Nat.zero_le _, Nat.zero_le _⟩ (c_X12_nodeOf (M := wCF M m _ _) hF iP.1 iP.2.1 (kd := 5) (nm := n) (Or.inl rfl) (by omega) hl1 (ck_u iP.2.2.2.1 hn)) rfl rfl rfl rfl hF.1 (by decide) rfl dX12_check_67 (fun v67 M67 hp67 => ?_)
          obtain ⟨rfl, hM⟩ := hp67
          obtain rfl := hM.symm
          clear hM
          refine x_cVi h ci_X12_manyAt im_X12_manyAt l_X12_313 ⟨Nat.le_of_ble_eq_true rfl, Nat.le_of_ble_eq_true rfl⟩ ⟨rfl, rfl⟩ ⟨Nat.zero_le _, Nat.zero_le _⟩ (c_X12_manyAt hF (by omega)) rfl rfl rfl rfl hF.1 (by decide) rfl dX12_check_70 (fun v70 M70 hp70 => ?_)
          have hv := hp70.1
          have hM := hp70.2
          clear hp70
          rw [hv]
          clear hv v70
          obtain rfl := hM.symm
          clear hM
          refine x_goto h 81 dX12_check_73 (by decide) ?_
          exact x_iret h hQ rfl dX12_check_81 ⟨rfl, rfl, _, rfl, (by have e9 : w = 1 := (by omega); subst e9; exact (show ∃ C, rchC _ _ C ∧ _ from ⟨x9.1, hRC, rfl⟩)), mInv_CF hI0 _ _, off_cf M m _ _⟩
      · have e1 : w % 2 = 0 := nI_small 0 (by omega) (by decide) (c36.trans nI_0.symm)
        refine x_mem hCF ?_
        refine x_aload_n h dX12_check_39 rfl ?_
        refine x_aload_n h dX12_check_40 rfl ?_
        refine x_getR h hF.1 f_X12_70 rfl (md_now hF).1 dX12_check_41 ?_
        refine x_cVv h ci_X12_invariants im_X12_invariants l_X12_307 ⟨Nat.le_of_ble_eq_true rfl, Nat.le_of_ble_eq_true rfl⟩ ⟨rfl, rfl⟩ ⟨Nat.zero_le _, Nat.zero_le _⟩ (c_X12_invariants (m := m) hF iP.1 iP.2.1 iP.2.2.1 (md_now hF).2 ht (by omega) n3 o32 (act := actP pg su) rfl) rfl rfl rfl rfl hF.1 (by decide) rfl dX12_check_44 (fun M44 hp44 => ?_)
        subst hp44
        refine x_goto h 58 dX12_check_47 (by decide) ?_
        refine x_iload_n h dX12_check_58 rfl ?_
        refine x_in2 h dX12_check_59 ?_
        refine x_icmp_ge h 76 dX12_check_60 (by decide) (fun c60 => ?_) (fun c60 => ?_)
        · have e2 : 2 ≤ w := (nI_le_iff (by decide) (by omega)).mp c60
          refine x_aload_n h dX12_check_76 rfl ?_
          refine x_iload_n h dX12_check_77 rfl ?_
          refine x_cVi h ci_X12_failing im_X12_failing l_X12_298 ⟨Nat.le_of_ble_eq_true rfl, Nat.le_of_ble_eq_true rfl⟩ ⟨rfl, rfl⟩ ⟨Nat.zero_le _, Nat.zero_le _⟩ (c_X12_failing (M := hsM M m _) hF (mpW_hs iP.1 _) iP.2.1 (ckW_hs iP.2.2.2.1 _) hn) rfl rfl rfl rfl hF.1 (by decide) rfl dX12_check_78 (fun v78 M78 hp78 => ?_)
          have hv := hp78.1
          have hM := hp78.2
          clear hp78
          rw [hv]
          clear hv v78
          obtain rfl := hM.symm
          clear hM
          exact x_iret h hQ rfl dX12_check_81 ⟨rfl, rfl, _, rfl, (by have e9 : w = 2 := (by omega); subst e9; exact rfl), mInv_CF (mInv_hs hI0 _) _ _, off_hs M m _ _ _⟩
        · have e2 : ¬ 2 ≤ w := mt (nI_le_iff (a := 2) (b := w) (by decide) (by omega)).mpr c60
          refine x_aload_n h dX12_check_63 rfl ?_
          refine x_aload_n h dX12_check_64 rfl ?_
          refine x_in5 h dX12_check_65 ?_
          refine x_iload_n h dX12_check_66 rfl ?_
          refine x_cVi h ci_X12_nodeOf im_X12_nodeOf l_X12_292 ⟨Nat.le_of_ble_eq_true rfl, Nat.le_of_ble_eq_true rfl⟩ ⟨rfl, rfl⟩ ⟨Nat.zero_le _, Nat.zero_le _⟩ (c_X12_nodeOf (M := wCF (hsM M m _) m _ _) hF (mpW_hs iP.1 _) iP.2.1 (kd := 5) (nm := n) (Or.inl rfl) (by omega) hl1 (ck_u iP.2.2.2.1 hn)) rfl rfl rfl rfl hF.1 (by decide) rfl dX12_check_67 (fun v67 M67 hp67 => ?_)
          obtain ⟨rfl, hM⟩ := hp67
          obtain rfl := hM.symm
          clear hM
          refine x_cVi h ci_X12_manyAt im_X12_manyAt l_X12_313 ⟨Nat.le_of_ble_eq_true rfl, Nat.le_of_ble_eq_true rfl⟩ ⟨rfl, rfl⟩ ⟨Nat.zero_le _, Nat.zero_le _⟩ (c_X12_manyAt (M := hsM M m _) hF (by omega)) rfl rfl rfl rfl hF.1 (by decide) rfl dX12_check_70 (fun v70 M70 hp70 => ?_)
          have hv := hp70.1
          have hM := hp70.2
          clear hp70
          rw [hv]
          clear hv v70
          obtain rfl := hM.symm
          clear hM
          refine x_goto h 81 dX12_check_73 (by decide) ?_
          exact x_iret h hQ rfl dX12_check_81 ⟨rfl, rfl, _, rfl, (by have e9 : w = 0 := (by omega); subst e9; exact rfl), mInv_CF (mInv_hs hI0 _) _ _, off_hs M m _ _ _⟩
    · exact absurd (in_yes (n := w) (b := 3) (by omega) (by decide)) (by rw [b2i_0.mp c27]; decide)
  · exact absurd (in_gy hn (by omega)) (by rw [b2i_0.mp c13]; decide)
