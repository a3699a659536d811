/-! ===== the reference: judge, whole ===== -/
/-- the line k of n in a number -/
def lnN (w n k : Nat) : Nat := w / 10000 ^ (n - 1 - k) % 10000
/-- what judge answers, r lines before its end -/
def jgC (pg : PGM) (w n : Nat) : Nat → SU → Int32 → Prop
  | 0, _, y => y = -9
  | r + 1, ts, y => ∃ rr ts2, jdS pg (lnN w n (n - (r + 1)) / 1000) (lnN w n (n - (r + 1)) / 100 % 10) (lnN w n (n - (r + 1)) / 10 % 10) (lnN w n (n - (r + 1)) % 10) ts rr ts2 ∧ (rr = true → jgC pg w n r ts2 y) ∧ (rr = false → y = nI (n - (r + 1)))
theorem in_no4 {x : Int32} (h : ∀ n, n < 4 → x ≠ nI (n + 1)) : (decide (lN 1 ≤ x.toInt64) && decide (x.toInt64 ≤ lN 4)) = false := by
  cases hx : (decide (lN 1 ≤ x.toInt64) && decide (x.toInt64 ≤ lN 4)) with
  | false => rfl
  | true =>
    rw [Bool.and_eq_true, decide_eq_true_iff, decide_eq_true_iff, Int64.le_iff_toInt_le, Int64.le_iff_toInt_le, lN_toInt (by decide), lN_toInt (by decide), i32_l] at hx
    have e := i32_nat (x := x) (by omega)
    exact absurd (e.trans (by congr 1; omega)) (h (x.toInt.toNat - 1) (by omega))
theorem t4_lt : ∀ n, n < 5 → 10000 ^ n < 2 ^ 62 := by decide +kernel
theorem lN_sub1 {a : Nat} (h : 0 < a) : lN a - 1 = lN (a - 1) := by
  have e : lN a = lN (a - 1) + 1 := by
    obtain ⟨k, rfl⟩ : ∃ k, a = k + 1 := ⟨a - 1, by omega⟩
    show lN (k + 1) = lN k + lN 1
    rw [lN_add]
  rw [e]
  exact Int64.add_sub_cancel _ _
theorem in_row_n {x : Int64} {n : Nat} (hn : n < 5) (h : ∀ w, w < 10000 ^ n → x ≠ lN w) : (decide (lN 0 ≤ x) && decide (x ≤ lN (10000 ^ n - 1))) = false := by
  cases hx : (decide (lN 0 ≤ x) && decide (x ≤ lN (10000 ^ n - 1))) with
  | false => rfl
  | true =>
    rw [Bool.and_eq_true, decide_eq_true_iff, decide_eq_true_iff] at hx
    obtain ⟨k, hk, rfl⟩ := pk_lOf (x := x) (Int64.not_lt.mpr hx.1)
    have h1 := t4_lt n hn
    have h2 := (pk_lLE hk (by omega)).mp hx.2
    have h3 : 0 < 10000 ^ n := Nat.pow_pos (by decide)
    exact absurd rfl (h k (by omega))
theorem in_row_y {w n : Nat} (hn : n < 5) (h : w < 10000 ^ n) : (decide (lN 0 ≤ lN w) && decide (lN w ≤ lN (10000 ^ n - 1))) = true := by
  have h1 := t4_lt n hn
  rw [decide_eq_true ((pk_lLE (by decide) (by omega)).mpr (Nat.zero_le _)), decide_eq_true ((pk_lLE (by omega) (by omega)).mpr (by omega))]
  rfl
theorem in_14 {n : Nat} (h : n < 4) : (decide (lN 1 ≤ (nI (n + 1)).toInt64) && decide ((nI (n + 1)).toInt64 ≤ lN 4)) = true := by
  rw [in_nat (by omega) (by decide) (by decide)]
  exact decide_eq_true (by omega)
theorem c_X12_judge_0 {Γ : GT} {G : GG} {M : MM} {m : Nat} (hF : mdF G M.2.2 m) {tx : Nat → Nat} {len : Nat} {pg : PGM} {su : SU} {hy : HY} {kp : KP} {ze : SE} {sd : Int64} (hI : mInv M m tx len pg su hy kp ze sd) {x : Int32} {w : Int64} (hx : ∀ n, n < 4 → x ≠ nI (n + 1)) : Calls Γ q_X12_judge [.ref m, .int x, .long w] G M (rI (fun y M' => y = -2 ∧ mInv M' m (tx) (len) (pg) (su) (hy) (kp) (ze) (sd) ∧ offM m M M')) := by
  have hI0 := hI
  obtain ⟨iT, iP, iN, iD, iK, iS, iE, iC⟩ := hI
  refine Calls.intro (by decide +kernel) (Nat.le_of_ble_eq_true rfl) (fun z E h hQ => ?_)
  refine x_loc (L' := [some (.ref m), some (.int x), some (.long w), none, none, none]) rfl ?_
  refine x_iload_n h dX12_judge_0 rfl ?_
  refine x_i2l h dX12_judge_1 ?_
  refine x_lc1 h dX12_judge_2 ?_
  refine x_ldc2 h kl_X12_348 dX12_judge_3 ?_
  refine x_cSi h ci_X12_in sm_X12_in l_X12_114 ⟨Nat.le_of_ble_eq_true rfl, Nat.le_of_ble_eq_true rfl⟩ ⟨rfl, rfl⟩ ⟨Nat.zero_le _, Nat.zero_le _⟩ (c_X12_in (b := lN 1) (c := lN 4)) rfl rfl rfl rfl dX12_judge_6 (fun v6 M6 hp6 => ?_)
  obtain ⟨rfl, hM⟩ := hp6
  obtain rfl := hM.symm
  clear hM
  refine x_if_eq h 26 dX12_judge_9 (by decide) (fun c9 => ?_) (fun c9 => ?_)
  · refine x_bipush h (-2) (by decide) dX12_judge_26 ?_
    exact x_iret h hQ rfl dX12_judge_28 ⟨rfl, rfl, _, rfl, rfl, hI0, off_refl m M⟩
  · exact absurd (b2i_0.mpr (in_no4 hx)) c9
theorem c_X12_judge_1 {Γ : GT} {G : GG} {M : MM} {m : Nat} (hF : mdF G M.2.2 m) {tx : Nat → Nat} {len : Nat} {pg : PGM} {su : SU} {hy : HY} {kp : KP} {ze : SE} {sd : Int64} (hI : mInv M m tx len pg su hy kp ze sd) {n : Nat} {w : Int64} (hn : n < 4) (hw : ∀ k, k < 10000 ^ (n + 1) → w ≠ lN k) : Calls Γ q_X12_judge [.ref m, .int (nI (n + 1)), .long w] G M (rI (fun y M' => y = -2 ∧ mInv M' m (tx) (len) (pg) (su) (hy) (kp) (ze) (sd) ∧ offM m M M')) := by
  have hI0 := hI
  obtain ⟨iT, iP, iN, iD, iK, iS, iE, iC⟩ := hI
  refine Calls.intro (by decide +kernel) (Nat.le_of_ble_eq_true rfl) (fun z E h hQ => ?_)
  refine x_loc (L' := [some (.ref m), some (.int (nI (n + 1))), some (.long w), none, none, none]) rfl ?_
  refine x_iload_n h dX12_judge_0 rfl ?_
  refine x_i2l h dX12_judge_1 ?_
  refine x_lc1 h dX12_judge_2 ?_
  refine x_ldc2 h kl_X12_348 dX12_judge_3 ?_
  refine x_cSi h ci_X12_in sm_X12_in l_X12_114 ⟨Nat.le_of_ble_eq_true rfl, Nat.le_of_ble_eq_true rfl⟩ ⟨rfl, rfl⟩ ⟨Nat.zero_le _, Nat.zero_le _⟩ (c_X12_in (b := lN 1) (c := lN 4)) rfl rfl rfl rfl dX12_judge_6 (fun v6 M6 hp6 => ?_)
  obtain ⟨rfl, hM⟩ := hp6
  obtain rfl := hM.symm
  clear hM
  refine x_if_eq h 26 dX12_judge_9 (by decide) (fun c9 => ?_) (fun c9 => ?_)
  · exact absurd (in_14 hn) (by rw [b2i_0.mp c9]; decide)
  · refine x_lload_n h dX12_judge_12 rfl ?_
    refine x_lc0 h dX12_judge_13 ?_
    refine x_iload_n h dX12_judge_14 rfl ?_
    refine x_cSl h ci_X12_tenThousands sm_X12_tenThousands l_X12_350 ⟨Nat.le_of_ble_eq_true rfl, Nat.le_of_ble_eq_true rfl⟩ ⟨rfl, rfl⟩ ⟨Nat.zero_le _, Nat.zero_le _⟩ (c_X12_tenThousands (n := n + 1) (by omega)) rfl rfl rfl rfl dX12_judge_15 (fun v15 M15 hp15 => ?_)
    have hv := hp15.1
    have hM := hp15.2
    clear hp15
    rw [hv]
    clear hv v15
    obtain rfl := hM.symm
    clear hM
    refine x_lc1 h dX12_judge_18 ?_
    refine x_lsub h dX12_judge_19 ?_
    refine x_topl (lN_sub1 (Nat.pow_pos (by decide))) ?_
    refine x_cSi h ci_X12_in sm_X12_in l_X12_114 ⟨Nat.le_of_ble_eq_true rfl, Nat.le_of_ble_eq_true rfl⟩ ⟨rfl, rfl⟩ ⟨Nat.zero_le _, Nat.zero_le _⟩ (c_X12_in (b := lN 0)) rfl rfl rfl rfl dX12_judge_20 (fun v20 M20 hp20 => ?_)
    obtain ⟨rfl, hM⟩ := hp20
    obtain rfl := hM.symm
    clear hM
    refine x_if_ne h 29 dX12_judge_23 (by decide) (fun c23 => ?_) (fun c23 => ?_)
    · exact absurd (b2i_0.mpr (in_row_n (by omega) hw)) c23
    · refine x_bipush h (-2) (by decide) dX12_judge_26 ?_
      exact x_iret h hQ rfl dX12_judge_28 ⟨rfl, rfl, _, rfl, rfl, hI0, off_refl m M⟩
theorem jgN {pg : PGM} {w n k : Nat} {ts : SU} {rr : Bool} {ts2 : SU} (hk : k < n) (hj : jdS pg (lnN w n k / 1000) (lnN w n k / 100 % 10) (lnN w n k / 10 % 10) (lnN w n k % 10) ts rr ts2) : (rr = true → ∀ y, jgC pg w n (n - (k + 1)) ts2 y → jgC pg w n (n - k) ts y) ∧ (rr = false → jgC pg w n (n - k) ts (nI k)) := by
  obtain ⟨d, hd⟩ : ∃ d, n - k = d + 1 := ⟨n - k - 1, by omega⟩
  have e1 : n - (d + 1) = k := by omega
  rw [hd, show n - (k + 1) = d by omega]
  refine ⟨fun er y q => ?_, fun er => ?_⟩
  · exact ⟨rr, ts2, by rw [e1]; exact hj, fun _ => q, fun q2 => by rw [er] at q2; cases q2⟩
  · exact ⟨rr, ts2, by rw [e1]; exact hj, (fun q2 => absurd (er.symm.trans q2) (by decide)), fun _ => by rw [e1]⟩
theorem c_X12_judge_2 {Γ : GT} {G : GG} {M : MM} {m : Nat} (hF : mdF G M.2.2 m) {tx : Nat → Nat} {len : Nat} {pg : PGM} {su : SU} {hy : HY} {kp : KP} {ze : SE} {sd : Int64} (hI : mInv M m tx len pg su hy kp ze sd) {n w : Nat} (hn : n < 4) (hw : w < 10000 ^ (n + 1)) : Calls Γ q_X12_judge [.ref m, .int (nI (n + 1)), .long (lN w)] G M (rI (fun y M' => jgC pg w (n + 1) (n + 1) su y ∧ mInv M' m tx len pg su hy kp ze sd ∧ offM m M M')) := by
  have hF9 := hF
  have hI9 := hI
  have w63 : w < 2 ^ 63 := by have := t4_lt (n + 1) (by omega); omega
  refine Calls.intro (by decide +kernel) (Nat.le_of_ble_eq_true rfl) (fun z E h hQ => ?_)
  refine x_loc (L' := [some (.ref m), some (.int (nI (n + 1))), some (.long (lN w)), none, none, none]) rfl ?_
  have loop : ∀ k, k ≤ n + 1 → ∀ N ts w5, mInv N m tx len pg su hy kp ze sd → suA N (m + 22) 0 ts → suOk pg.2.1.1 ts → offM m M N → (∀ y, jgC pg w (n + 1) (n + 1 - k) ts y → jgC pg w (n + 1) (n + 1) su y) → X Γ E 0 0 G z N 36 [some (.ref m), some (.int (nI (n + 1))), some (.long (lN w)), none, some (.int (nI k)), w5] [] := by
    refine upto (n + 1) (fun k hk ih N ts w5 hI hT hS hO hJ => ?_)
    have hF : mdF G N.2.2 m := by rw [hO.1]; exact hF9
    refine x_iload h dX12_judge_36 rfl ?_
    refine x_iload_n h dX12_judge_38 rfl ?_
    refine x_icmp_ge h 103 dX12_judge_39 (by decide) (fun c39 => ?_) (fun c39 => ?_)
    · obtain rfl : k = n + 1 := by
        have := (nI_le_iff (by omega) (by omega)).mp c39
        omega
      refine x_bipush h (-9) (by decide) dX12_judge_103 ?_
      exact x_iret h hQ rfl dX12_judge_105 ⟨rfl, rfl, _, rfl, hJ _ (by rw [Nat.sub_self]; exact rfl), hI, hO⟩
    · have hlt : k < n + 1 := by
        have := mt (nI_le_iff (a := n + 1) (b := k) (by omega) (by omega)).mpr c39
        omega
      have hlk : lnN w (n + 1) k < 10000 := Nat.mod_lt _ (by decide)
      refine x_lload_n h dX12_judge_42 rfl ?_
      refine x_iload_n h dX12_judge_43 rfl ?_
      refine x_in1 h dX12_judge_44 ?_
      refine x_isubn h (by omega) dX12_judge_45 ?_
      refine x_iload h dX12_judge_46 rfl ?_
      refine x_isubn h (by omega) dX12_judge_48 ?_
      refine x_cSl h ci_X12_tenThousands sm_X12_tenThousands l_X12_350 ⟨Nat.le_of_ble_eq_true rfl, Nat.le_of_ble_eq_true rfl⟩ ⟨rfl, rfl⟩ ⟨Nat.zero_le _, Nat.zero_le _⟩ (c_X12_tenThousands (n := n + 1 - 1 - k) (by omega)) rfl rfl rfl rfl dX12_judge_49 (fun v49 M49 hp49 => ?_)
      have hv := hp49.1
      have hM := hp49.2
      clear hp49
      rw [hv]
      clear hv v49
      obtain rfl := hM.symm
      clear hM
      refine x_ldiv h (fun q => absurd ((pk_lEQ (by have := t4_lt (n + 1 - 1 - k) (by omega); omega) (by decide)).mp (show lN (10000 ^ (n + 1 - 1 - k)) = lN 0 from q)) (Nat.ne_of_gt (Nat.pow_pos (by decide)))) dX12_judge_52 ?_
      refine x_topl (pk_lDiv w63 (Nat.pow_pos (by decide)) (by have := t4_lt (n + 1 - 1 - k) (by omega); omega)) ?_
      refine x_ldc2 h kl_X12_346 dX12_judge_53 ?_
      refine x_lrem h (by decide) dX12_judge_56 ?_
      refine x_topl (pk_lRem (Nat.lt_of_le_of_lt (Nat.div_le_self _ _) w63) (by decide) (by decide)) ?_
      refine x_l2i h dX12_judge_57 ?_
      refine x_topi (show _ = nI (lnN w (n + 1) k) from lN_i _) ?_
      refine x_istore h dX12_judge_58 rfl rfl ?_
      dsimp only [List.set]
      refine x_aload_n h dX12_judge_60 rfl ?_
      refine x_iload h dX12_judge_61 rfl ?_
      refine x_sipush h (nI 1000) (by decide) dX12_judge_63 ?_
      refine x_idivn h ⟨by omega, by decide, by decide⟩ dX12_judge_66 ?_
      refine x_iload h dX12_judge_67 rfl ?_
      refine x_bipush h (nI 100) (by decide) dX12_judge_69 ?_
      refine x_idivn h ⟨by omega, by decide, by decide⟩ dX12_judge_71 ?_
      refine x_bipush h (nI 10) (by decide) dX12_judge_72 ?_
      refine x_iremn h ⟨by omega, by decide, by decide⟩ dX12_judge_74 ?_
      refine x_iload h dX12_judge_75 rfl ?_
      refine x_bipush h (nI 10) (by decide) dX12_judge_77 ?_
      refine x_idivn h ⟨by omega, by decide, by decide⟩ dX12_judge_79 ?_
      refine x_bipush h (nI 10) (by decide) dX12_judge_80 ?_
      refine x_iremn h ⟨by omega, by decide, by decide⟩ dX12_judge_82 ?_
      refine x_iload h dX12_judge_83 rfl ?_
      refine x_bipush h (nI 10) (by decide) dX12_judge_85 ?_
      refine x_iremn h ⟨by omega, by decide, by decide⟩ dX12_judge_87 ?_
      refine x_cVi h ci_X12_judged im_X12_judged l_X12_357 ⟨Nat.le_of_ble_eq_true rfl, Nat.le_of_ble_eq_true rfl⟩ ⟨rfl, rfl⟩ ⟨Nat.zero_le _, Nat.zero_le _⟩ (c_X12_judged hF hI hT hS (how := lnN w (n + 1) k / 1000) (a := lnN w (n + 1) k / 100 % 10) (b := lnN w (n + 1) k / 10 % 10) (v := lnN w (n + 1) k % 10) (by omega) (by omega) (by omega) (by omega)) rfl rfl rfl rfl hF.1 (by decide) rfl dX12_judge_88 (fun v88 M88 hp88 => ?_)
      obtain ⟨rr, ts2, hv9, hj, hI2, hT2, hS2, hO2⟩ := hp88
      subst hv9
      have hN := jgN (pg := pg) (w := w) (n := n + 1) (k := k) (ts := ts) hlt hj
      refine x_if_ne h 97 dX12_judge_91 (by decide) (fun c91 => ?_) (fun c91 => ?_)
      · have er := bool_nf (fun q => c91 (b2i_0.mpr q))
        refine x_incn h dX12_judge_97 rfl rfl rfl ?_
        dsimp only [List.set]
        refine x_goto h 36 dX12_judge_100 (by decide) ?_
        exact ih hlt _ ts2 _ hI2 hT2 hS2 (off_trans hO hO2) (fun y q => hJ y (hN.1 er y q))
      · have er := b2i_0.mp c91
        refine x_iload h dX12_judge_94 rfl ?_
        exact x_iret h hQ rfl dX12_judge_96 ⟨rfl, rfl, _, rfl, hJ _ (hN.2 er), hI2, off_trans hO hO2⟩
  refine x_iload_n h dX12_judge_0 rfl ?_
  refine x_i2l h dX12_judge_1 ?_
  refine x_lc1 h dX12_judge_2 ?_
  refine x_ldc2 h kl_X12_348 dX12_judge_3 ?_
  refine x_cSi h ci_X12_in sm_X12_in l_X12_114 ⟨Nat.le_of_ble_eq_true rfl, Nat.le_of_ble_eq_true rfl⟩ ⟨rfl, rfl⟩ ⟨Nat.zero_le _, Nat.zero_le _⟩ (c_X12_in (b := lN 1) (c := lN 4)) rfl rfl rfl rfl dX12_judge_6 (fun v6 M6 hp6 => ?_)
  obtain ⟨rfl, hM⟩ := hp6
  obtain rfl := hM.symm
  clear hM
  refine x_if_eq h 26 dX12_judge_9 (by decide) (fun c9 => ?_) (fun c9 => ?_)
  · exact absurd (in_14 hn) (by rw [b2i_0.mp c9]; decide)
  · refine x_lload_n h dX12_judge_12 rfl ?_
    refine x_lc0 h dX12_judge_13 ?_
    refine x_iload_n h dX12_judge_14 rfl ?_
    refine x_cSl h ci_X12_tenThousands sm_X12_tenThousands l_X12_350 ⟨Nat.le_of_ble_eq_true rfl, Nat.le_of_ble_eq_true rfl⟩ ⟨rfl, rfl⟩ ⟨Nat.zero_le _, Nat.zero_le _⟩ (c_X12_tenThousands (n := n + 1) (by omega)) rfl rfl rfl rfl dX12_judge_15 (fun v15 M15 hp15 => ?_)
    have hv := hp15.1
    have hM := hp15.2
    clear hp15
    rw [hv]
    clear hv v15
    obtain rfl := hM.symm
    clear hM
    refine x_lc1 h dX12_judge_18 ?_
    refine x_lsub h dX12_judge_19 ?_
    refine x_topl (lN_sub1 (Nat.pow_pos (by decide))) ?_
    refine x_cSi h ci_X12_in sm_X12_in l_X12_114 ⟨Nat.le_of_ble_eq_true rfl, Nat.le_of_ble_eq_true rfl⟩ ⟨rfl, rfl⟩ ⟨Nat.zero_le _, Nat.zero_le _⟩ (c_X12_in (b := lN 0)) rfl rfl rfl rfl dX12_judge_20 (fun v20 M20 hp20 => ?_)
    obtain ⟨rfl, hM⟩ := hp20
    obtain rfl := hM.symm
    clear hM
    refine x_if_ne h 29 dX12_judge_23 (by decide) (fun c23 => ?_) (fun c23 => ?_)
    · refine x_aload_n h dX12_judge_29 rfl ?_
      refine x_cVv h ci_X12_layTrial im_X12_layTrial l_X12_354 ⟨Nat.le_of_ble_eq_true rfl, Nat.le_of_ble_eq_true rfl⟩ ⟨rfl, rfl⟩ ⟨Nat.zero_le _, Nat.zero_le _⟩ (c_X12_layTrial hF hI9) rfl rfl rfl rfl hF.1 (by decide) rfl dX12_judge_30 (fun M30 hp30 => ?_)
      obtain ⟨hI1, hT1, hO1⟩ := hp30
      refine x_in0 h dX12_judge_33 ?_
      refine x_istore h dX12_judge_34 rfl rfl ?_
      dsimp only [List.set]
      exact loop 0 (Nat.zero_le _) _ su _ hI1 hT1 hI9.2.2.1.2 hO1 (fun y q => q)
    · exact absurd (in_row_y (by omega) hw) (by rw [b2i_0.mp c23]; decide)
