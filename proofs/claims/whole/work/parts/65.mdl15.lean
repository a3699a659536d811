/-! ===== the reference: judge ===== -/
/-- what is judged by a line, on a trial setup: so or not, and the setup behind it -/
def jdS (pg : PGM) (how a b v : Nat) (ts : SU) (rr : Bool) (ts2 : SU) : Prop :=
  if how = 1 then (if a ≤ 2 ∧ b = 0 ∧ v ≤ 6 then rr = true ∧ ts2 = (upN ts.1 a v, ts.2) else rr = false ∧ ts2 = ts)
  else if how = 2 then (if a < pg.2.1.1 ∧ b = 0 ∧ v ≤ 1 then rr = true ∧ ts2 = (ts.1, offP ts.2 a v) else rr = false ∧ ts2 = ts)
  else if how = 3 then ts2 = ts ∧ (if a < pg.2.2.1.1 ∧ b = 0 ∧ v ≤ 1 then rr = (fneS pg.1 pg.2.2.1.2 (lcC pg ts) a == decide (v = 1)) else rr = false)
  else if how = 4 then ts2 = ts ∧ (if a < pg.2.2.1.1 ∧ b = 0 ∧ v ≤ 1 then ∃ C, rchC pg.1 (begS ts.1) C ∧ rr = (fneS pg.1 pg.2.2.1.2 C a == decide (v = 1)) else rr = false)
  else if how = 5 then ts2 = ts ∧ (if a < pg.2.2.2.1.1 ∧ b < pg.2.1.1 ∧ v ≤ 1 then rr = ((hsP pg ts a).testBit b == decide (v = 1)) else rr = false)
  else if how = 6 then ts2 = ts ∧ (if a < 6 ∧ b < 6 ∧ v < 6 then ∃ C, rchC pg.1 (begS ts.1) C ∧ rr = C (nA pg.1) (36 * a + 6 * b + v) else rr = false)
  else rr = false ∧ ts2 = ts
section JD
variable {pg : PGM} {a b v : Nat} {ts : SU}
theorem jd_f1 (h : ¬ (a ≤ 2 ∧ b = 0 ∧ v ≤ 6)) : jdS pg 1 a b v ts false ts := by unfold jdS; rw [if_pos rfl, if_neg h]; exact ⟨rfl, rfl⟩
theorem jd_t1 (h : a ≤ 2 ∧ b = 0 ∧ v ≤ 6) : jdS pg 1 a b v ts true (upN ts.1 a v, ts.2) := by unfold jdS; rw [if_pos rfl, if_pos h]; exact ⟨rfl, rfl⟩
theorem jd_f2 (h : ¬ (a < pg.2.1.1 ∧ b = 0 ∧ v ≤ 1)) : jdS pg 2 a b v ts false ts := by unfold jdS; rw [if_neg (by decide), if_pos rfl, if_neg h]; exact ⟨rfl, rfl⟩
theorem jd_t2 (h : a < pg.2.1.1 ∧ b = 0 ∧ v ≤ 1) : jdS pg 2 a b v ts true (ts.1, offP ts.2 a v) := by unfold jdS; rw [if_neg (by decide), if_pos rfl, if_pos h]; exact ⟨rfl, rfl⟩
theorem jd_f3 (h : ¬ (a < pg.2.2.1.1 ∧ b = 0 ∧ v ≤ 1)) : jdS pg 3 a b v ts false ts := by unfold jdS; rw [if_neg (by decide), if_neg (by decide), if_pos rfl, if_neg h]; exact ⟨rfl, rfl⟩
theorem jd_t3 (h : a < pg.2.2.1.1 ∧ b = 0 ∧ v ≤ 1) {rr : Bool} (e : rr = (fneS pg.1 pg.2.2.1.2 (lcC pg ts) a == decide (v = 1))) : jdS pg 3 a b v ts rr ts := by unfold jdS; rw [if_neg (by decide), if_neg (by decide), if_pos rfl, if_pos h]; exact ⟨rfl, e⟩
theorem jd_f4 (h : ¬ (a < pg.2.2.1.1 ∧ b = 0 ∧ v ≤ 1)) : jdS pg 4 a b v ts false ts := by unfold jdS; rw [if_neg (by decide), if_neg (by decide), if_neg (by decide), if_pos rfl, if_neg h]; exact ⟨rfl, rfl⟩
theorem jd_t4 (h : a < pg.2.2.1.1 ∧ b = 0 ∧ v ≤ 1) {rr : Bool} {C : NS} (hC : rchC pg.1 (begS ts.1) C) (e : rr = (fneS pg.1 pg.2.2.1.2 C a == decide (v = 1))) : jdS pg 4 a b v ts rr ts := by unfold jdS; rw [if_neg (by decide), if_neg (by decide), if_neg (by decide), if_pos rfl, if_pos h]; exact ⟨rfl, C, hC, e⟩
theorem jd_f5 (h : ¬ (a < pg.2.2.2.1.1 ∧ b < pg.2.1.1 ∧ v ≤ 1)) : jdS pg 5 a b v ts false ts := by unfold jdS; rw [if_neg (by decide), if_neg (by decide), if_neg (by decide), if_neg (by decide), if_pos rfl, if_neg h]; exact ⟨rfl, rfl⟩
theorem jd_t5 (h : a < pg.2.2.2.1.1 ∧ b < pg.2.1.1 ∧ v ≤ 1) {rr : Bool} (e : rr = ((hsP pg ts a).testBit b == decide (v = 1))) : jdS pg 5 a b v ts rr ts := by unfold jdS; rw [if_neg (by decide), if_neg (by decide), if_neg (by decide), if_neg (by decide), if_pos rfl, if_pos h]; exact ⟨rfl, e⟩
theorem jd_f6 (h : ¬ (a < 6 ∧ b < 6 ∧ v < 6)) : jdS pg 6 a b v ts false ts := by unfold jdS; rw [if_neg (by decide), if_neg (by decide), if_neg (by decide), if_neg (by decide), if_neg (by decide), if_pos rfl, if_neg h]; exact ⟨rfl, rfl⟩
theorem jd_t6 (h : a < 6 ∧ b < 6 ∧ v < 6) {rr : Bool} {C : NS} (hC : rchC pg.1 (begS ts.1) C) (e : rr = C (nA pg.1) (36 * a + 6 * b + v)) : jdS pg 6 a b v ts rr ts := by unfold jdS; rw [if_neg (by decide), if_neg (by decide), if_neg (by decide), if_neg (by decide), if_neg (by decide), if_pos rfl, if_pos h]; exact ⟨rfl, C, hC, e⟩
theorem jd_f7 {how : Nat} (h : how = 0 ∨ 6 < how) : jdS pg how a b v ts false ts := by unfold jdS; rw [if_neg (by omega), if_neg (by omega), if_neg (by omega), if_neg (by omega), if_neg (by omega), if_neg (by omega)]; exact ⟨rfl, rfl⟩
theorem offP_lt {off ng g : Nat} (bb : Nat) (h : off < 2 ^ ng) (hg : g < ng) : offP off g bb < 2 ^ ng := by
  unfold offP
  split
  · exact Nat.lt_of_le_of_lt Nat.and_le_left h
  · exact Nat.or_lt_two_pow h (Nat.pow_lt_pow_right (by decide) hg)
end JD
theorem c_X12_isState {Γ : GT} {G : GG} {M : MM} {m : Nat} (hF : mdF G M.2.2 m) {a b v : Nat} (ha : a < 10) (hb : b < 10) (hv : v < 10) : Calls Γ q_X12_isState [.ref m, .int (nI (100 * a + 10 * b + v))] G M (rI (fun y M' => y = b2i (decide (a < 6 ∧ b < 6 ∧ v < 6)) ∧ M' = M)) := by
  refine Calls.intro (by decide +kernel) (Nat.le_of_ble_eq_true rfl) (fun z E h hQ => ?_)
  refine x_loc (L' := [some (.ref m), some (.int (nI (100 * a + 10 * b + v)))]) rfl ?_
  refine x_iload_n h dX12_isState_0 rfl ?_
  refine x_bipush h (nI 100) (by decide) dX12_isState_1 ?_
  refine x_idivn h ⟨by omega, by decide, by decide⟩ dX12_isState_3 ?_
  rw [show (100 * a + 10 * b + v) / 100 = a by omega]
  refine x_i2l h dX12_isState_4 ?_
  refine x_lc0 h dX12_isState_5 ?_
  refine x_ldc2 h kl_X12_338 dX12_isState_6 ?_
  refine x_cSi h ci_X12_in sm_X12_in l_X12_114 ⟨Nat.le_of_ble_eq_true rfl, Nat.le_of_ble_eq_true rfl⟩ ⟨rfl, rfl⟩ ⟨Nat.zero_le _, Nat.zero_le _⟩ (c_X12_in (b := lN 0) (c := lN 5)) rfl rfl rfl rfl dX12_isState_9 (fun v9 M9 hp9 => ?_)
  obtain ⟨rfl, hM⟩ := hp9
  obtain rfl := hM.symm
  clear hM
  refine x_if_eq h 52 dX12_isState_12 (by decide) (fun c12 => ?_) (fun c12 => ?_)
  · have e1 : ¬ (0 ≤ a ∧ a ≤ 5) := of_decide_eq_false ((in_nat (a := 0) (b := 5) (by omega) (by decide) (by decide)).symm.trans (b2i_0.mp c12))
    refine x_ic0 h dX12_isState_52 ?_
    exact x_zret h hQ rfl (by decide) dX12_isState_53 ⟨rfl, rfl, _, rfl, b2i_f (decide_eq_false (by omega)), rfl⟩
  · have e1 : 0 ≤ a ∧ a ≤ 5 := of_decide_eq_true ((in_nat (a := 0) (b := 5) (by omega) (by decide) (by decide)).symm.trans (bool_nf (fun q => c12 (b2i_0.mpr q))))
    refine x_iload_n h dX12_isState_15 rfl ?_
    refine x_bipush h (nI 10) (by decide) dX12_isState_16 ?_
    refine x_idivn h ⟨by omega, by decide, by decide⟩ dX12_isState_18 ?_
    refine x_bipush h (nI 10) (by decide) dX12_isState_19 ?_
    refine x_iremn h ⟨by omega, by decide, by decide⟩ dX12_isState_21 ?_
    rw [show (100 * a + 10 * b + v) / 10 % 10 = b by omega]
    refine x_i2l h dX12_isState_22 ?_
    refine x_lc0 h dX12_isState_23 ?_
    refine x_ldc2 h kl_X12_338 dX12_isState_24 ?_
    refine x_cSi h ci_X12_in sm_X12_in l_X12_114 ⟨Nat.le_of_ble_eq_true rfl, Nat.le_of_ble_eq_true rfl⟩ ⟨rfl, rfl⟩ ⟨Nat.zero_le _, Nat.zero_le _⟩ (c_X12_in (b := lN 0) (c := lN 5)) rfl rfl rfl rfl dX12_isState_27 (fun v27 M27 hp27 => ?_)
    obtain ⟨rfl, hM⟩ := hp27
    obtain rfl := hM.symm
    clear hM
    refine x_if_eq h 52 dX12_isState_30 (by decide) (fun c30 => ?_) (fun c30 => ?_)
    · have e2 : ¬ (0 ≤ b ∧ b ≤ 5) := of_decide_eq_false ((in_nat (a := 0) (b := 5) (by omega) (by decide) (by decide)).symm.trans (b2i_0.mp c30))
      refine x_ic0 h dX12_isState_52 ?_
      exact x_zret h hQ rfl (by decide) dX12_isState_53 ⟨rfl, rfl, _, rfl, b2i_f (decide_eq_false (by omega)), rfl⟩
    · have e2 : 0 ≤ b ∧ b ≤ 5 := of_decide_eq_true ((in_nat (a := 0) (b := 5) (by omega) (by decide) (by decide)).symm.trans (bool_nf (fun q => c30 (b2i_0.mpr q))))
      refine x_iload_n h dX12_isState_33 rfl ?_
      refine x_bipush h (nI 10) (by decide) dX12_isState_34 ?_
      refine x_iremn h ⟨by omega, by decide, by decide⟩ dX12_isState_36 ?_
      rw [show (100 * a + 10 * b + v) % 10 = v by omega]
      refine x_i2l h dX12_isState_37 ?_
      refine x_lc0 h dX12_isState_38 ?_
      refine x_ldc2 h kl_X12_338 dX12_isState_39 ?_
      refine x_cSi h ci_X12_in sm_X12_in l_X12_114 ⟨Nat.le_of_ble_eq_true rfl, Nat.le_of_ble_eq_true rfl⟩ ⟨rfl, rfl⟩ ⟨Nat.zero_le _, Nat.zero_le _⟩ (c_X12_in (b := lN 0) (c := lN 5)) rfl rfl rfl rfl dX12_isState_42 (fun v42 M42 hp42 => ?_)
      obtain ⟨rfl, hM⟩ := hp42
      obtain rfl := hM.symm
      clear hM
      refine x_if_eq h 52 dX12_isState_45 (by decide) (fun c45 => ?_) (fun c45 => ?_)
      · have e3 : ¬ (0 ≤ v ∧ v ≤ 5) := of_decide_eq_false ((in_nat (a := 0) (b := 5) (by omega) (by decide) (by decide)).symm.trans (b2i_0.mp c45))
        refine x_ic0 h dX12_isState_52 ?_
        exact x_zret h hQ rfl (by decide) dX12_isState_53 ⟨rfl, rfl, _, rfl, b2i_f (decide_eq_false (by omega)), rfl⟩
      · have e3 : 0 ≤ v ∧ v ≤ 5 := of_decide_eq_true ((in_nat (a := 0) (b := 5) (by omega) (by decide) (by decide)).symm.trans (bool_nf (fun q => c45 (b2i_0.mpr q))))
        refine x_ic1 h dX12_isState_48 ?_
        refine x_goto h 53 dX12_isState_49 (by decide) ?_
        exact x_zret h hQ rfl (by decide) dX12_isState_53 ⟨rfl, rfl, _, rfl, b2i_t (decide_eq_true (by omega)), rfl⟩
theorem c_X12_isReachedAtEnd {Γ : GT} {G : GG} {M : MM} {m : Nat} (hF : mdF G M.2.2 m) {tx : Nat → Nat} {len : Nat} {pg : PGM} {su : SU} {hy : HY} {kp : KP} {ze : SE} {sd : Int64} (hI : mInv M m tx len pg su hy kp ze sd) {ts : SU} (hT : suA M (m + 22) 0 ts) (hS : suOk pg.2.1.1 ts) {a b v : Nat} (ha : a < 10) (hb : b < 10) (hv : v < 10) : Calls Γ q_X12_isReachedAtEnd [.ref m, .int (nI (100 * a + 10 * b + v))] G M (rI (fun y M' => ∃ rr ts2, y = b2i rr ∧ jdS pg 6 a b v ts rr ts2 ∧ mInv M' m tx len pg su hy kp ze sd ∧ suA M' (m + 22) 0 ts2 ∧ suOk pg.2.1.1 ts2 ∧ offM m M M')) := by
  have hI0 := hI
  obtain ⟨iT, iP, iN, iD, iK, iS, iE, iC⟩ := hI
  have q60 := iP.1.1
  have v5 := iP.2.2.1.1
  have nk4 := iP.2.2.2.1.1
  have nl3 := iP.2.2.2.2.1.1
  have ht : rowI M (m + 22) ts.1 := fun v hv => ⟨by have := hT.1 v hv; rw [Nat.zero_add] at this; exact this, hS.1 v hv⟩
  have n3 : M.1 (m + 22) 3 = nI ts.2 := hT.2
  have o32 := su32 hS v5
  obtain ⟨C0, F0, hCF⟩ := iC
  refine Calls.intro (by decide +kernel) (Nat.le_of_ble_eq_true rfl) (fun z E h hQ => ?_)
  refine x_loc (L' := [some (.ref m), some (.int (nI (100 * a + 10 * b + v)))]) rfl ?_
  refine x_aload_n h dX12_isReachedAtEnd_0 rfl ?_
  refine x_iload_n h dX12_isReachedAtEnd_1 rfl ?_
  refine x_cVi h ci_X12_isState im_X12_isState l_X12_340 ⟨Nat.le_of_ble_eq_true rfl, Nat.le_of_ble_eq_true rfl⟩ ⟨rfl, rfl⟩ ⟨Nat.zero_le _, Nat.zero_le _⟩ (c_X12_isState hF ha hb hv) rfl rfl rfl rfl hF.1 (by decide) rfl dX12_isReachedAtEnd_2 (fun v2 M2 hp2 => ?_)
  obtain ⟨rfl, hM⟩ := hp2
  obtain rfl := hM.symm
  clear hM
  refine x_if_ne h 10 dX12_isReachedAtEnd_5 (by decide) (fun c5 => ?_) (fun c5 => ?_)
  · have e : a < 6 ∧ b < 6 ∧ v < 6 := of_decide_eq_true (bool_nf (fun q => c5 (b2i_0.mpr q)))
    refine x_mem hCF ?_
    refine x_aload_n h dX12_isReachedAtEnd_10 rfl ?_
    refine x_aload_n h dX12_isReachedAtEnd_11 rfl ?_
    refine x_getR h hF.1 f_X12_73 rfl (md_trial hF).1 dX12_isReachedAtEnd_12 ?_
    refine x_cVv h ci_X12_layReached im_X12_layReached l_X12_310 ⟨Nat.le_of_ble_eq_true rfl, Nat.le_of_ble_eq_true rfl⟩ ⟨rfl, rfl⟩ ⟨Nat.zero_le _, Nat.zero_le _⟩ (c_X12_layReached (m := m) hF iP.1 iP.2.1 (md_trial hF).2 ht) rfl rfl rfl rfl hF.1 (by decide) rfl dX12_isReachedAtEnd_15 (fun M15 hp15 => ?_)
    obtain ⟨x9, hM, hRC⟩ := hp15
    subst hM
    refine x_aload_n h dX12_isReachedAtEnd_18 rfl ?_
    refine x_aload_n h dX12_isReachedAtEnd_19 rfl ?_
    refine x_getIv h hF.1 f_X12_205 rfl iP.1.2.1 dX12_isReachedAtEnd_20 ?_
    refine x_bipush h (nI 36) (by decide) dX12_isReachedAtEnd_23 ?_
    refine x_iload_n h dX12_isReachedAtEnd_25 rfl ?_
    refine x_bipush h (nI 100) (by decide) dX12_isReachedAtEnd_26 ?_
    refine x_idivn h ⟨by omega, by decide, by decide⟩ dX12_isReachedAtEnd_28 ?_
    refine x_imuln h  dX12_isReachedAtEnd_29 ?_
    refine x_bipush h (nI 6) (by decide) dX12_isReachedAtEnd_30 ?_
    refine x_iload_n h dX12_isReachedAtEnd_32 rfl ?_
    refine x_bipush h (nI 10) (by decide) dX12_isReachedAtEnd_33 ?_
    refine x_idivn h ⟨by omega, by decide, by decide⟩ dX12_isReachedAtEnd_35 ?_
    refine x_bipush h (nI 10) (by decide) dX12_isReachedAtEnd_36 ?_
    refine x_iremn h ⟨by omega, by decide, by decide⟩ dX12_isReachedAtEnd_38 ?_
    refine x_imuln h  dX12_isReachedAtEnd_39 ?_
    refine x_iaddn h  dX12_isReachedAtEnd_40 ?_
    refine x_iload_n h dX12_isReachedAtEnd_41 rfl ?_
    refine x_bipush h (nI 10) (by decide) dX12_isReachedAtEnd_42 ?_
    refine x_iremn h ⟨by omega, by decide, by decide⟩ dX12_isReachedAtEnd_44 ?_
    refine x_iaddn h  dX12_isReachedAtEnd_45 ?_
    rw [show 36 * ((100 * a + 10 * b + v) / 100) + 6 * ((100 * a + 10 * b + v) / 10 % 10) + (100 * a + 10 * b + v) % 10 = 36 * a + 6 * b + v by omega]
    refine x_cVi h ci_X12_isThere im_X12_isThere l_X12_246 ⟨Nat.le_of_ble_eq_true rfl, Nat.le_of_ble_eq_true rfl⟩ ⟨rfl, rfl⟩ ⟨Nat.zero_le _, Nat.zero_le _⟩ (c_X12_isThere hF (by omega) (by omega)) rfl rfl rfl rfl hF.1 (by decide) rfl dX12_isReachedAtEnd_46 (fun v46 M46 hp46 => ?_)
    have hv := hp46.1
    have hM := hp46.2
    clear hp46
    rw [hv]
    clear hv v46
    obtain rfl := hM.symm
    clear hM
    exact x_zret h hQ rfl (b2i_01 _) dX12_isReachedAtEnd_49 ⟨rfl, rfl, _, rfl, _, ts, rfl, jd_t6 e hRC rfl, mInv_CF hI0 _ _, hT, hS, off_cf M m _ _⟩
  · have e : ¬ (a < 6 ∧ b < 6 ∧ v < 6) := of_decide_eq_false (b2i_0.mp c5)
    refine x_ic0 h dX12_isReachedAtEnd_8 ?_
    exact x_zret h hQ rfl (by decide) dX12_isReachedAtEnd_9 ⟨rfl, rfl, _, rfl, false, ts, rfl, jd_f6 e, hI0, hT, hS, off_refl m M⟩
theorem c_X12_judged {Γ : GT} {G : GG} {M : MM} {m : Nat} (hF : mdF G M.2.2 m) {tx : Nat → Nat} {len : Nat} {pg : PGM} {su : SU} {hy : HY} {kp : KP} {ze : SE} {sd : Int64} (hI : mInv M m tx len pg su hy kp ze sd) {ts : SU} (hT : suA M (m + 22) 0 ts) (hS : suOk pg.2.1.1 ts) {how a b v : Nat} (hh : how < 10) (ha : a < 10) (hb : b < 10) (hv : v < 10) : Calls Γ q_X12_judged [.ref m, .int (nI how), .int (nI a), .int (nI b), .int (nI v)] G M (rI (fun y M' => ∃ rr ts2, y = b2i rr ∧ jdS pg how a b v ts rr ts2 ∧ mInv M' m tx len pg su hy kp ze sd ∧ suA M' (m + 22) 0 ts2 ∧ suOk pg.2.1.1 ts2 ∧ offM m M M')) := by
  have hI0 := hI
  obtain ⟨iT, iP, iN, iD, iK, iS, iE, iC⟩ := hI
  have q60 := iP.1.1
  have v5 := iP.2.2.1.1
  have nk4 := iP.2.2.2.1.1
  have nl3 := iP.2.2.2.2.1.1
  have ht : rowI M (m + 22) ts.1 := fun v hv => ⟨by have := hT.1 v hv; rw [Nat.zero_add] at this; exact this, hS.1 v hv⟩
  have n3 : M.1 (m + 22) 3 = nI ts.2 := hT.2
  have o32 := su32 hS v5
  obtain ⟨C0, F0, hCF⟩ := iC
  have hh2 : ∀ l, hsP pg ts l < 32 := fun l => it_lt (actP_lt ts v5) 15 l
  refine Calls.intro (by decide +kernel) (Nat.le_of_ble_eq_true rfl) (fun z E h hQ => ?_)
  refine x_loc (L' := [some (.ref m), some (.int (nI how)), some (.int (nI a)), some (.int (nI b)), some (.int (nI v))]) rfl ?_
  refine x_iload_n h dX12_judged_0 rfl ?_
  rcases (show how = 1 ∨ how = 2 ∨ how = 3 ∨ how = 4 ∨ how = 5 ∨ how = 6 ∨ how = 0 ∨ 6 < how by omega) with rfl | rfl | rfl | rfl | rfl | rfl | rfl | h7
  · refine x_tin h 40 dX12_judged_1 (by decide) (by decide) (off := 39) (by decide) (by decide) ?_
    refine x_iload_n h dX12_judged_40 rfl ?_
    refine x_in2 h dX12_judged_41 ?_
    refine x_icmp_gt h 56 dX12_judged_42 (by decide) (fun c42 => ?_) (fun c42 => ?_)
    · have g1 : ¬ a ≤ 2 := fun q => absurd ((nI_lt_iff (a := 2) (b := a) (by decide) (by omega)).mp c42) (by omega)
      refine x_ic0 h dX12_judged_56 ?_
      exact x_zret h hQ rfl (by decide) dX12_judged_57 ⟨rfl, rfl, _, rfl, false, ts, rfl, jd_f1 (by omega), hI0, hT, hS, off_refl m M⟩
    · have g1 : a ≤ 2 := by
        have := mt (nI_lt_iff (a := 2) (b := a) (by decide) (by omega)).mpr c42
        omega
      refine x_iload_n h dX12_judged_45 rfl ?_
      refine x_if_ne h 56 dX12_judged_46 (by decide) (fun c46 => ?_) (fun c46 => ?_)
      · have g2 : ¬ b = 0 := fun q => c46 (by rw [q]; exact nI_0)
        refine x_ic0 h dX12_judged_56 ?_
        exact x_zret h hQ rfl (by decide) dX12_judged_57 ⟨rfl, rfl, _, rfl, false, ts, rfl, jd_f1 (by omega), hI0, hT, hS, off_refl m M⟩
      · have g2 : b = 0 := nI_small 0 (by omega) (by decide) (c46.trans nI_0.symm)
        refine x_iload h dX12_judged_49 rfl ?_
        refine x_bipush h (nI 6) (by decide) dX12_judged_51 ?_
        refine x_icmp_le h 58 dX12_judged_53 (by decide) (fun c53 => ?_) (fun c53 => ?_)
        · have g3 : v ≤ 6 := (nI_le_iff (by omega) (by decide)).mp c53
          refine x_aload_n h dX12_judged_58 rfl ?_
          refine x_getR h hF.1 f_X12_73 rfl (md_trial hF).1 dX12_judged_59 ?_
          refine x_iload_n h dX12_judged_62 rfl ?_
          refine x_iload h dX12_judged_63 rfl ?_
          refine x_iast h a (md_trial hF).2 (ix.ni (by omega) (by decide)) dX12_judged_65 ?_
          refine x_ic1 h dX12_judged_66 ?_
          refine x_zret h hQ rfl (by decide) dX12_judged_67 ⟨rfl, rfl, _, rfl, true, (upN ts.1 a v, ts.2), rfl, jd_t1 ⟨g1, g2, g3⟩, mInv_I hI0 (fun a9 j h1 h2 _ => up2_ne _ _ (by omega)) rfl, ⟨fun v9 hv9 => ?_, (up2_ne _ _ (by omega)).trans n3⟩, ⟨fun v9 hv9 => ?_, hS.2⟩, off_I (off_refl m M) _ (by omega)⟩
          · rw [Nat.zero_add]
            show (sI M (m + 22) a (nI v)).1 (m + 22) v9 = nI (upN ts.1 a v v9)
            by_cases q : v9 = a
            · rw [q, upN_at]; exact up2_self _ _ _ _
            · rw [upN_ne _ _ q]; exact (up2_ne _ _ (by omega)).trans (ht v9 hv9).1
          · show upN ts.1 a v v9 ≤ 6
            by_cases q : v9 = a
            · rw [q, upN_at]; omega
            · rw [upN_ne _ _ q]; exact hS.1 v9 hv9
        · have g3 : ¬ v ≤ 6 := mt (nI_le_iff (a := v) (b := 6) (by omega) (by decide)).mpr c53
          refine x_ic0 h dX12_judged_56 ?_
          exact x_zret h hQ rfl (by decide) dX12_judged_57 ⟨rfl, rfl, _, rfl, false, ts, rfl, jd_f1 (by omega), hI0, hT, hS, off_refl m M⟩
  · refine x_tin h 68 dX12_judged_1 (by decide) (by decide) (off := 67) (by decide) (by decide) ?_
    refine x_iload_n h dX12_judged_68 rfl ?_
    refine x_aload_n h dX12_judged_69 rfl ?_
    refine x_getIv h hF.1 f_X12_217 rfl iP.2.2.1.2.1 dX12_judged_70 ?_
    refine x_icmp_ge h 86 dX12_judged_73 (by decide) (fun c73 => ?_) (fun c73 => ?_)
    · have g1 : ¬ a < pg.2.1.1 := fun q => absurd ((nI_le_iff (by omega) (by omega)).mp c73) (by omega)
      refine x_ic0 h dX12_judged_86 ?_
      exact x_zret h hQ rfl (by decide) dX12_judged_87 ⟨rfl, rfl, _, rfl, false, ts, rfl, jd_f2 (by omega), hI0, hT, hS, off_refl m M⟩
    · have g1 : a < pg.2.1.1 := by
        have := mt (nI_le_iff (a := pg.2.1.1) (b := a) (by omega) (by omega)).mpr c73
        omega
      refine x_iload_n h dX12_judged_76 rfl ?_
      refine x_if_ne h 86 dX12_judged_77 (by decide) (fun c77 => ?_) (fun c77 => ?_)
      · have g2 : ¬ b = 0 := fun q => c77 (by rw [q]; exact nI_0)
        refine x_ic0 h dX12_judged_86 ?_
        exact x_zret h hQ rfl (by decide) dX12_judged_87 ⟨rfl, rfl, _, rfl, false, ts, rfl, jd_f2 (by omega), hI0, hT, hS, off_refl m M⟩
      · have g2 : b = 0 := nI_small 0 (by omega) (by decide) (c77.trans nI_0.symm)
        refine x_iload h dX12_judged_80 rfl ?_
        refine x_in1 h dX12_judged_82 ?_
        refine x_icmp_le h 88 dX12_judged_83 (by decide) (fun c83 => ?_) (fun c83 => ?_)
        · have g3 : v ≤ 1 := (nI_le_iff (by omega) (by decide)).mp c83
          refine x_aload_n h dX12_judged_88 rfl ?_
          refine x_getR h hF.1 f_X12_73 rfl (md_trial hF).1 dX12_judged_89 ?_
          refine x_in3 h dX12_judged_92 ?_
          refine x_aload_n h dX12_judged_93 rfl ?_
          refine x_getR h hF.1 f_X12_73 rfl (md_trial hF).1 dX12_judged_94 ?_
          refine x_in3 h dX12_judged_97 ?_
          refine x_ialdv h 3 (md_trial hF).2 (ix.ni (j := 3) (by decide) (by decide)) n3 dX12_judged_98 ?_
          refine x_in1 h dX12_judged_99 ?_
          refine x_iload_n h dX12_judged_100 rfl ?_
          refine x_ishl h dX12_judged_101 ?_
          refine x_icm1 h dX12_judged_102 ?_
          refine x_ixor h dX12_judged_103 ?_
          refine x_iand h dX12_judged_104 ?_
          refine x_iload h dX12_judged_105 rfl ?_
          refine x_iload_n h dX12_judged_107 rfl ?_
          refine x_ishl h dX12_judged_108 ?_
          refine x_ior h dX12_judged_109 ?_
          refine x_topi (offP_ok ts.2 o32 a (by omega) v (by omega)).1 ?_
          refine x_iast h 3 (md_trial hF).2 (ix.ni (j := 3) (by decide) (by decide)) dX12_judged_110 ?_
          refine x_ic1 h dX12_judged_111 ?_
          exact x_zret h hQ rfl (by decide) dX12_judged_112 ⟨rfl, rfl, _, rfl, true, (ts.1, offP ts.2 a v), rfl, jd_t2 ⟨g1, g2, g3⟩, mInv_I hI0 (fun a9 j h1 h2 _ => up2_ne _ _ (by omega)) rfl, ⟨fun v9 hv9 => by rw [Nat.zero_add]; exact (up2_ne _ _ (by omega)).trans (ht v9 hv9).1, up2_self _ _ _ _⟩, ⟨hS.1, offP_lt v hS.2 g1⟩, off_I (off_refl m M) _ (by omega)⟩
        · have g3 : ¬ v ≤ 1 := mt (nI_le_iff (a := v) (b := 1) (by omega) (by decide)).mpr c83
          refine x_ic0 h dX12_judged_86 ?_
          exact x_zret h hQ rfl (by decide) dX12_judged_87 ⟨rfl, rfl, _, rfl, false, ts, rfl, jd_f2 (by omega), hI0, hT, hS, off_refl m M⟩
  · refine x_tin h 113 dX12_judged_1 (by decide) (by decide) (off := 112) (by decide) (by decide) ?_
    refine x_iload_n h dX12_judged_113 rfl ?_
    refine x_aload_n h dX12_judged_114 rfl ?_
    refine x_getIv h hF.1 f_X12_208 rfl iP.2.2.2.1.2.1 dX12_judged_115 ?_
    refine x_icmp_ge h 131 dX12_judged_118 (by decide) (fun c118 => ?_) (fun c118 => ?_)
    · have g1 : ¬ a < pg.2.2.1.1 := fun q => absurd ((nI_le_iff (by omega) (by omega)).mp c118) (by omega)
      refine x_ic0 h dX12_judged_131 ?_
      exact x_zret h hQ rfl (by decide) dX12_judged_132 ⟨rfl, rfl, _, rfl, false, ts, rfl, jd_f3 (by omega), hI0, hT, hS, off_refl m M⟩
    · have g1 : a < pg.2.2.1.1 := by
        have := mt (nI_le_iff (a := pg.2.2.1.1) (b := a) (by omega) (by omega)).mpr c118
        omega
      refine x_iload_n h dX12_judged_121 rfl ?_
      refine x_if_ne h 131 dX12_judged_122 (by decide) (fun c122 => ?_) (fun c122 => ?_)
      · have g2 : ¬ b = 0 := fun q => c122 (by rw [q]; exact nI_0)
        refine x_ic0 h dX12_judged_131 ?_
        exact x_zret h hQ rfl (by decide) dX12_judged_132 ⟨rfl, rfl, _, rfl, false, ts, rfl, jd_f3 (by omega), hI0, hT, hS, off_refl m M⟩
      · have g2 : b = 0 := nI_small 0 (by omega) (by decide) (c122.trans nI_0.symm)
        refine x_iload h dX12_judged_125 rfl ?_
        refine x_in1 h dX12_judged_127 ?_
        refine x_icmp_le h 133 dX12_judged_128 (by decide) (fun c128 => ?_) (fun c128 => ?_)
        · have g3 : v ≤ 1 := (nI_le_iff (by omega) (by decide)).mp c128
          refine x_mem hCF ?_
          refine x_aload_n h dX12_judged_133 rfl ?_
          refine x_aload_n h dX12_judged_134 rfl ?_
          refine x_getR h hF.1 f_X12_73 rfl (md_trial hF).1 dX12_judged_135 ?_
          refine x_cVv h ci_X12_invariants im_X12_invariants l_X12_307 ⟨Nat.le_of_ble_eq_true rfl, Nat.le_of_ble_eq_true rfl⟩ ⟨rfl, rfl⟩ ⟨Nat.zero_le _, Nat.zero_le _⟩ (c_X12_invariants (m := m) hF iP.1 iP.2.1 iP.2.2.1 (md_trial hF).2 ht (by omega) n3 o32 (act := actP pg ts) rfl) rfl rfl rfl rfl hF.1 (by decide) rfl dX12_judged_138 (fun M138 hp138 => ?_)
          subst hp138
          refine x_aload_n h dX12_judged_141 rfl ?_
          refine x_iload_n h dX12_judged_142 rfl ?_
          refine x_cVi h ci_X12_failing im_X12_failing l_X12_298 ⟨Nat.le_of_ble_eq_true rfl, Nat.le_of_ble_eq_true rfl⟩ ⟨rfl, rfl⟩ ⟨Nat.zero_le _, Nat.zero_le _⟩ (c_X12_failing (M := hsM M m _) hF (mpW_hs iP.1 _) iP.2.1 (ckW_hs iP.2.2.2.1 _) g1) rfl rfl rfl rfl hF.1 (by decide) rfl dX12_judged_143 (fun v143 M143 hp143 => ?_)
          have hv := hp143.1
          have hM := hp143.2
          clear hp143
          rw [hv]
          clear hv v143
          obtain rfl := hM.symm
          clear hM
          refine x_bipush h (-9) (by decide) dX12_judged_146 ?_
          refine x_icmp_ne h 155 dX12_judged_148 (by decide) (fun c148 => ?_) (fun c148 => ?_)
          · have f1 : fneS pg.1 pg.2.2.1.2 (lcC pg ts) a = false := by
              unfold fneS
              rw [show anyS (fun s => (lcC pg ts) (pg.2.2.1.2 a) s && !cndT (cA pg.1 (pg.2.2.1.2 a)) s) = true from bool_nf (fun q => c148 (fst_none.mpr q))]
              rfl
            refine x_in0 h dX12_judged_155 ?_
            refine x_iload h dX12_judged_156 rfl ?_
            refine x_in1 h dX12_judged_158 ?_
            refine x_icmp_ne h 166 dX12_judged_159 (by decide) (fun c159 => ?_) (fun c159 => ?_)
            · have f2 : ¬ v = 1 := fun q => c159 (by rw [q])
              refine x_in0 h dX12_judged_166 ?_
              refine x_icmp_ne h 174 dX12_judged_167 (by decide) (fun c167 => ?_) (fun c167 => ?_)
              · exact absurd c167 (by decide)
              · refine x_ic1 h dX12_judged_170 ?_
                refine x_goto h 175 dX12_judged_171 (by decide) ?_
                exact x_zret h hQ rfl (by decide) dX12_judged_175 ⟨rfl, rfl, _, rfl, true, ts, rfl, jd_t3 ⟨g1, g2, g3⟩ (by rw [f1, decide_eq_false f2]; rfl), mInv_CF (mInv_hs hI0 _) _ _, suA_cg hT (fun j _ _ => hsM_ne _ j (by omega)), hS, off_hs M m _ _ _⟩
            · have f2 : v = 1 := nI_small 1 (by omega) (by decide) c159
              refine x_in1 h dX12_judged_162 ?_
              refine x_goto h 167 dX12_judged_163 (by decide) ?_
              refine x_icmp_ne h 174 dX12_judged_167 (by decide) (fun c167 => ?_) (fun c167 => ?_)
              · refine x_ic0 h dX12_judged_174 ?_
                exact x_zret h hQ rfl (by decide) dX12_judged_175 ⟨rfl, rfl, _, rfl, false, ts, rfl, jd_t3 ⟨g1, g2, g3⟩ (by rw [f1, decide_eq_true f2]; rfl), mInv_CF (mInv_hs hI0 _) _ _, suA_cg hT (fun j _ _ => hsM_ne _ j (by omega)), hS, off_hs M m _ _ _⟩
              · exact absurd c167 (by decide)
          · have f1 : fneS pg.1 pg.2.2.1.2 (lcC pg ts) a = true := by
              unfold fneS
              exact congrArg (fun b => !b) (fst_none.mp c148)
            refine x_in1 h dX12_judged_151 ?_
            refine x_goto h 156 dX12_judged_152 (by decide) ?_
            refine x_iload h dX12_judged_156 rfl ?_
            refine x_in1 h dX12_judged_158 ?_
            refine x_icmp_ne h 166 dX12_judged_159 (by decide) (fun c159 => ?_) (fun c159 => ?_)
            · have f2 : ¬ v = 1 := fun q => c159 (by rw [q])
              refine x_in0 h dX12_judged_166 ?_
              refine x_icmp_ne h 174 dX12_judged_167 (by decide) (fun c167 => ?_) (fun c167 => ?_)
              · refine x_ic0 h dX12_judged_174 ?_
                exact x_zret h hQ rfl (by decide) dX12_judged_175 ⟨rfl, rfl, _, rfl, false, ts, rfl, jd_t3 ⟨g1, g2, g3⟩ (by rw [f1, decide_eq_false f2]; rfl), mInv_CF (mInv_hs hI0 _) _ _, suA_cg hT (fun j _ _ => hsM_ne _ j (by omega)), hS, off_hs M m _ _ _⟩
              · exact absurd c167 (by decide)
            · have f2 : v = 1 := nI_small 1 (by omega) (by decide) c159
              refine x_in1 h dX12_judged_162 ?_
              refine x_goto h 167 dX12_judged_163 (by decide) ?_
              refine x_icmp_ne h 174 dX12_judged_167 (by decide) (fun c167 => ?_) (fun c167 => ?_)
              · exact absurd c167 (by decide)
              · refine x_ic1 h dX12_judged_170 ?_
                refine x_goto h 175 dX12_judged_171 (by decide) ?_
                exact x_zret h hQ rfl (by decide) dX12_judged_175 ⟨rfl, rfl, _, rfl, true, ts, rfl, jd_t3 ⟨g1, g2, g3⟩ (by rw [f1, decide_eq_true f2]; rfl), mInv_CF (mInv_hs hI0 _) _ _, suA_cg hT (fun j _ _ => hsM_ne _ j (by omega)), hS, off_hs M m _ _ _⟩
        · have g3 : ¬ v ≤ 1 := mt (nI_le_iff (a := v) (b := 1) (by omega) (by decide)).mpr c128
          refine x_ic0 h dX12_judged_131 ?_
          exact x_zret h hQ rfl (by decide) dX12_judged_132 ⟨rfl, rfl, _, rfl, false, ts, rfl, jd_f3 (by omega), hI0, hT, hS, off_refl m M⟩
  · refine x_tin h 176 dX12_judged_1 (by decide) (by decide) (off := 175) (by decide) (by decide) ?_
    refine x_iload_n h dX12_judged_176 rfl ?_
    refine x_aload_n h dX12_judged_177 rfl ?_
    refine x_getIv h hF.1 f_X12_208 rfl iP.2.2.2.1.2.1 dX12_judged_178 ?_
    refine x_icmp_ge h 194 dX12_judged_181 (by decide) (fun c181 => ?_) (fun c181 => ?_)
    · have g1 : ¬ a < pg.2.2.1.1 := fun q => absurd ((nI_le_iff (by omega) (by omega)).mp c181) (by omega)
      refine x_ic0 h dX12_judged_194 ?_
      exact x_zret h hQ rfl (by decide) dX12_judged_195 ⟨rfl, rfl, _, rfl, false, ts, rfl, jd_f4 (by omega), hI0, hT, hS, off_refl m M⟩
    · have g1 : a < pg.2.2.1.1 := by
        have := mt (nI_le_iff (a := pg.2.2.1.1) (b := a) (by omega) (by omega)).mpr c181
        omega
      refine x_iload_n h dX12_judged_184 rfl ?_
      refine x_if_ne h 194 dX12_judged_185 (by decide) (fun c185 => ?_) (fun c185 => ?_)
      · have g2 : ¬ b = 0 := fun q => c185 (by rw [q]; exact nI_0)
        refine x_ic0 h dX12_judged_194 ?_
        exact x_zret h hQ rfl (by decide) dX12_judged_195 ⟨rfl, rfl, _, rfl, false, ts, rfl, jd_f4 (by omega), hI0, hT, hS, off_refl m M⟩
      · have g2 : b = 0 := nI_small 0 (by omega) (by decide) (c185.trans nI_0.symm)
        refine x_iload h dX12_judged_188 rfl ?_
        refine x_in1 h dX12_judged_190 ?_
        refine x_icmp_le h 196 dX12_judged_191 (by decide) (fun c191 => ?_) (fun c191 => ?_)
        · have g3 : v ≤ 1 := (nI_le_iff (by omega) (by decide)).mp c191
          refine x_mem hCF ?_
          refine x_aload_n h dX12_judged_196 rfl ?_
          refine x_aload_n h dX12_judged_197 rfl ?_
          refine x_getR h hF.1 f_X12_73 rfl (md_trial hF).1 dX12_judged_198 ?_
          refine x_cVv h ci_X12_layReached im_X12_layReached l_X12_310 ⟨Nat.le_of_ble_eq_true rfl, Nat.le_of_ble_eq_true rfl⟩ ⟨rfl, rfl⟩ ⟨Nat.zero_le _, Nat.zero_le _⟩ (c_X12_layReached (m := m) hF iP.1 iP.2.1 (md_trial hF).2 ht) rfl rfl rfl rfl hF.1 (by decide) rfl dX12_judged_201 (fun M201 hp201 => ?_)
          obtain ⟨x9, hM, hRC⟩ := hp201
          subst hM
          refine x_aload_n h dX12_judged_204 rfl ?_
          refine x_iload_n h dX12_judged_205 rfl ?_
          refine x_cVi h ci_X12_failing im_X12_failing l_X12_298 ⟨Nat.le_of_ble_eq_true rfl, Nat.le_of_ble_eq_true rfl⟩ ⟨rfl, rfl⟩ ⟨Nat.zero_le _, Nat.zero_le _⟩ (c_X12_failing hF iP.1 iP.2.1 iP.2.2.2.1 g1) rfl rfl rfl rfl hF.1 (by decide) rfl dX12_judged_206 (fun v206 M206 hp206 => ?_)
          have hv := hp206.1
          have hM := hp206.2
          clear hp206
          rw [hv]
          clear hv v206
          obtain rfl := hM.symm
          clear hM
          refine x_bipush h (-9) (by decide) dX12_judged_209 ?_
          refine x_icmp_ne h 218 dX12_judged_211 (by decide) (fun c211 => ?_) (fun c211 => ?_)
          · have f1 : fneS pg.1 pg.2.2.1.2 (x9.1) a = false := by
              unfold fneS
              rw [show anyS (fun s => (x9.1) (pg.2.2.1.2 a) s && !cndT (cA pg.1 (pg.2.2.1.2 a)) s) = true from bool_nf (fun q => c211 (fst_none.mpr q))]
              rfl
            refine x_in0 h dX12_judged_218 ?_
            refine x_iload h dX12_judged_219 rfl ?_
            refine x_in1 h dX12_judged_221 ?_
            refine x_icmp_ne h 229 dX12_judged_222 (by decide) (fun c222 => ?_) (fun c222 => ?_)
            · have f2 : ¬ v = 1 := fun q => c222 (by rw [q])
              refine x_in0 h dX12_judged_229 ?_
              refine x_icmp_ne h 237 dX12_judged_230 (by decide) (fun c230 => ?_) (fun c230 => ?_)
              · exact absurd c230 (by decide)
              · refine x_ic1 h dX12_judged_233 ?_
                refine x_goto h 238 dX12_judged_234 (by decide) ?_
                exact x_zret h hQ rfl (by decide) dX12_judged_238 ⟨rfl, rfl, _, rfl, true, ts, rfl, jd_t4 ⟨g1, g2, g3⟩ hRC (by rw [f1, decide_eq_false f2]; rfl), mInv_CF hI0 _ _, hT, hS, off_cf M m _ _⟩
            · have f2 : v = 1 := nI_small 1 (by omega) (by decide) c222
              refine x_in1 h dX12_judged_225 ?_
              refine x_goto h 230 dX12_judged_226 (by decide) ?_
              refine x_icmp_ne h 237 dX12_judged_230 (by decide) (fun c230 => ?_) (fun c230 => ?_)
              · refine x_ic0 h dX12_judged_237 ?_
                exact x_zret h hQ rfl (by decide) dX12_judged_238 ⟨rfl, rfl, _, rfl, false, ts, rfl, jd_t4 ⟨g1, g2, g3⟩ hRC (by rw [f1, decide_eq_true f2]; rfl), mInv_CF hI0 _ _, hT, hS, off_cf M m _ _⟩
              · exact absurd c230 (by decide)
          · have f1 : fneS pg.1 pg.2.2.1.2 (x9.1) a = true := by
              unfold fneS
              exact congrArg (fun b => !b) (fst_none.mp c211)
            refine x_in1 h dX12_judged_214 ?_
            refine x_goto h 219 dX12_judged_215 (by decide) ?_
            refine x_iload h dX12_judged_219 rfl ?_
            refine x_in1 h dX12_judged_221 ?_
            refine x_icmp_ne h 229 dX12_judged_222 (by decide) (fun c222 => ?_) (fun c222 => ?_)
            · have f2 : ¬ v = 1 := fun q => c222 (by rw [q])
              refine x_in0 h dX12_judged_229 ?_
              refine x_icmp_ne h 237 dX12_judged_230 (by decide) (fun c230 => ?_) (fun c230 => ?_)
              · refine x_ic0 h dX12_judged_237 ?_
                exact x_zret h hQ rfl (by decide) dX12_judged_238 ⟨rfl, rfl, _, rfl, false, ts, rfl, jd_t4 ⟨g1, g2, g3⟩ hRC (by rw [f1, decide_eq_false f2]; rfl), mInv_CF hI0 _ _, hT, hS, off_cf M m _ _⟩
              · exact absurd c230 (by decide)
            · have f2 : v = 1 := nI_small 1 (by omega) (by decide) c222
              refine x_in1 h dX12_judged_225 ?_
              refine x_goto h 230 dX12_judged_226 (by decide) ?_
              refine x_icmp_ne h 237 dX12_judged_230 (by decide) (fun c230 => ?_) (fun c230 => ?_)
              · exact absurd c230 (by decide)
              · refine x_ic1 h dX12_judged_233 ?_
                refine x_goto h 238 dX12_judged_234 (by decide) ?_
                exact x_zret h hQ rfl (by decide) dX12_judged_238 ⟨rfl, rfl, _, rfl, true, ts, rfl, jd_t4 ⟨g1, g2, g3⟩ hRC (by rw [f1, decide_eq_true f2]; rfl), mInv_CF hI0 _ _, hT, hS, off_cf M m _ _⟩
        · have g3 : ¬ v ≤ 1 := mt (nI_le_iff (a := v) (b := 1) (by omega) (by decide)).mpr c191
          refine x_ic0 h dX12_judged_194 ?_
          exact x_zret h hQ rfl (by decide) dX12_judged_195 ⟨rfl, rfl, _, rfl, false, ts, rfl, jd_f4 (by omega), hI0, hT, hS, off_refl m M⟩
  · refine x_tin h 239 dX12_judged_1 (by decide) (by decide) (off := 238) (by decide) (by decide) ?_
    refine x_iload_n h dX12_judged_239 rfl ?_
    refine x_aload_n h dX12_judged_240 rfl ?_
    refine x_getIv h hF.1 f_X12_211 rfl iP.2.2.2.2.1.2.1 dX12_judged_241 ?_
    refine x_icmp_ge h 261 dX12_judged_244 (by decide) (fun c244 => ?_) (fun c244 => ?_)
    · have g1 : ¬ a < pg.2.2.2.1.1 := fun q => absurd ((nI_le_iff (by omega) (by omega)).mp c244) (by omega)
      refine x_ic0 h dX12_judged_261 ?_
      exact x_zret h hQ rfl (by decide) dX12_judged_262 ⟨rfl, rfl, _, rfl, false, ts, rfl, jd_f5 (by omega), hI0, hT, hS, off_refl m M⟩
    · have g1 : a < pg.2.2.2.1.1 := by
        have := mt (nI_le_iff (a := pg.2.2.2.1.1) (b := a) (by omega) (by omega)).mpr c244
        omega
      refine x_iload_n h dX12_judged_247 rfl ?_
      refine x_aload_n h dX12_judged_248 rfl ?_
      refine x_getIv h hF.1 f_X12_217 rfl iP.2.2.1.2.1 dX12_judged_249 ?_
      refine x_icmp_ge h 261 dX12_judged_252 (by decide) (fun c252 => ?_) (fun c252 => ?_)
      · have g2 : ¬ b < pg.2.1.1 := fun q => absurd ((nI_le_iff (by omega) (by omega)).mp c252) (by omega)
        refine x_ic0 h dX12_judged_261 ?_
        exact x_zret h hQ rfl (by decide) dX12_judged_262 ⟨rfl, rfl, _, rfl, false, ts, rfl, jd_f5 (by omega), hI0, hT, hS, off_refl m M⟩
      · have g2 : b < pg.2.1.1 := by
          have := mt (nI_le_iff (a := pg.2.1.1) (b := b) (by omega) (by omega)).mpr c252
          omega
        refine x_iload h dX12_judged_255 rfl ?_
        refine x_in1 h dX12_judged_257 ?_
        refine x_icmp_le h 263 dX12_judged_258 (by decide) (fun c258 => ?_) (fun c258 => ?_)
        · have g3 : v ≤ 1 := (nI_le_iff (by omega) (by decide)).mp c258
          refine x_mem hCF ?_
          refine x_aload_n h dX12_judged_263 rfl ?_
          refine x_aload_n h dX12_judged_264 rfl ?_
          refine x_getR h hF.1 f_X12_73 rfl (md_trial hF).1 dX12_judged_265 ?_
          refine x_cVv h ci_X12_invariants im_X12_invariants l_X12_307 ⟨Nat.le_of_ble_eq_true rfl, Nat.le_of_ble_eq_true rfl⟩ ⟨rfl, rfl⟩ ⟨Nat.zero_le _, Nat.zero_le _⟩ (c_X12_invariants (m := m) hF iP.1 iP.2.1 iP.2.2.1 (md_trial hF).2 ht (by omega) n3 o32 (act := actP pg ts) rfl) rfl rfl rfl rfl hF.1 (by decide) rfl dX12_judged_268 (fun M268 hp268 => ?_)
          subst hp268
          refine x_aload_n h dX12_judged_271 rfl ?_
          refine x_getR h hF.1 f_X12_99 rfl (md_has hF).1 dX12_judged_272 ?_
          refine x_iload_n h dX12_judged_275 rfl ?_
          refine x_ialdv h a (md_has hF).2 (ix.ni (by omega) (by decide)) (show _ = nI (hsP pg ts a) from (hsW_hs hh2 a (by omega)).1) dX12_judged_276 ?_
          refine x_iload_n h dX12_judged_277 rfl ?_
          refine x_cSi h ci_X12_isIn sm_X12_isIn l_X12_236 ⟨Nat.le_of_ble_eq_true rfl, Nat.le_of_ble_eq_true rfl⟩ ⟨rfl, rfl⟩ ⟨Nat.zero_le _, Nat.zero_le _⟩ (c_X12_isIn (hh2 a) (by omega)) rfl rfl rfl rfl dX12_judged_278 (fun v278 M278 hp278 => ?_)
          have hv := hp278.1
          have hM := hp278.2
          clear hp278
          rw [hv]
          clear hv v278
          obtain rfl := hM.symm
          clear hM
          refine x_iload h dX12_judged_281 rfl ?_
          refine x_in1 h dX12_judged_283 ?_
          refine x_icmp_ne h 291 dX12_judged_284 (by decide) (fun c284 => ?_) (fun c284 => ?_)
          · have f2 : ¬ v = 1 := fun q => c284 (by rw [q])
            refine x_in0 h dX12_judged_291 ?_
            refine x_icmp_ne h 299 dX12_judged_292 (by decide) (fun c292 => ?_) (fun c292 => ?_)
            · have f1 : (hsP pg ts a).testBit b = true := by
                cases hz : (hsP pg ts a).testBit b with
                | true => rfl
                | false => rw [hz] at c292; exact absurd rfl c292
              refine x_ic0 h dX12_judged_299 ?_
              exact x_zret h hQ rfl (by decide) dX12_judged_300 ⟨rfl, rfl, _, rfl, false, ts, rfl, jd_t5 ⟨g1, g2, g3⟩ (by rw [f1, decide_eq_false f2]; rfl), mInv_CF (mInv_hs hI0 _) _ _, suA_cg hT (fun j _ _ => hsM_ne _ j (by omega)), hS, off_hs M m _ _ _⟩
            · have f1 : (hsP pg ts a).testBit b = false := by
                cases hz : (hsP pg ts a).testBit b with
                | false => rfl
                | true => rw [hz] at c292; exact absurd c292 (by decide)
              refine x_ic1 h dX12_judged_295 ?_
              refine x_goto h 300 dX12_judged_296 (by decide) ?_
              exact x_zret h hQ rfl (by decide) dX12_judged_300 ⟨rfl, rfl, _, rfl, true, ts, rfl, jd_t5 ⟨g1, g2, g3⟩ (by rw [f1, decide_eq_false f2]; rfl), mInv_CF (mInv_hs hI0 _) _ _, suA_cg hT (fun j _ _ => hsM_ne _ j (by omega)), hS, off_hs M m _ _ _⟩
          · have f2 : v = 1 := nI_small 1 (by omega) (by decide) c284
            refine x_in1 h dX12_judged_287 ?_
            refine x_goto h 292 dX12_judged_288 (by decide) ?_
            refine x_icmp_ne h 299 dX12_judged_292 (by decide) (fun c292 => ?_) (fun c292 => ?_)
            · have f1 : (hsP pg ts a).testBit b = false := by
                cases hz : (hsP pg ts a).testBit b with
                | false => rfl
                | true => rw [hz] at c292; exact absurd rfl c292
              refine x_ic0 h dX12_judged_299 ?_
              exact x_zret h hQ rfl (by decide) dX12_judged_300 ⟨rfl, rfl, _, rfl, false, ts, rfl, jd_t5 ⟨g1, g2, g3⟩ (by rw [f1, decide_eq_true f2]; rfl), mInv_CF (mInv_hs hI0 _) _ _, suA_cg hT (fun j _ _ => hsM_ne _ j (by omega)), hS, off_hs M m _ _ _⟩
            · have f1 : (hsP pg ts a).testBit b = true := by
                cases hz : (hsP pg ts a).testBit b with
                | true => rfl
                | false => rw [hz] at c292; exact absurd c292 (by decide)
              refine x_ic1 h dX12_judged_295 ?_
              refine x_goto h 300 dX12_judged_296 (by decide) ?_
              exact x_zret h hQ rfl (by decide) dX12_judged_300 ⟨rfl, rfl, _, rfl, true, ts, rfl, jd_t5 ⟨g1, g2, g3⟩ (by rw [f1, decide_eq_true f2]; rfl), mInv_CF (mInv_hs hI0 _) _ _, suA_cg hT (fun j _ _ => hsM_ne _ j (by omega)), hS, off_hs M m _ _ _⟩
        · have g3 : ¬ v ≤ 1 := mt (nI_le_iff (a := v) (b := 1) (by omega) (by decide)).mpr c258
          refine x_ic0 h dX12_judged_261 ?_
          exact x_zret h hQ rfl (by decide) dX12_judged_262 ⟨rfl, rfl, _, rfl, false, ts, rfl, jd_f5 (by omega), hI0, hT, hS, off_refl m M⟩
  · refine x_tin h 301 dX12_judged_1 (by decide) (by decide) (off := 300) (by decide) (by decide) ?_
    refine x_aload_n h dX12_judged_301 rfl ?_
    refine x_bipush h (nI 100) (by decide) dX12_judged_302 ?_
    refine x_iload_n h dX12_judged_304 rfl ?_
    refine x_imuln h  dX12_judged_305 ?_
    refine x_bipush h (nI 10) (by decide) dX12_judged_306 ?_
    refine x_iload_n h dX12_judged_308 rfl ?_
    refine x_imuln h  dX12_judged_309 ?_
    refine x_iaddn h  dX12_judged_310 ?_
    refine x_iload h dX12_judged_311 rfl ?_
    refine x_iaddn h  dX12_judged_313 ?_
    refine x_cVi h ci_X12_isReachedAtEnd im_X12_isReachedAtEnd l_X12_343 ⟨Nat.le_of_ble_eq_true rfl, Nat.le_of_ble_eq_true rfl⟩ ⟨rfl, rfl⟩ ⟨Nat.zero_le _, Nat.zero_le _⟩ (c_X12_isReachedAtEnd hF hI0 hT hS ha hb hv) rfl rfl rfl rfl hF.1 (by decide) rfl dX12_judged_314 (fun v314 M314 hp314 => ?_)
    obtain ⟨rr, ts2, hv9, hj⟩ := hp314
    subst hv9
    exact x_zret h hQ rfl (b2i_01 _) dX12_judged_317 ⟨rfl, rfl, _, rfl, rr, ts2, rfl, hj⟩
  · refine x_tout h 318 dX12_judged_1 (by decide) (by decide) ?_
    refine x_ic0 h dX12_judged_318 ?_
    exact x_zret h hQ rfl (by decide) dX12_judged_319 ⟨rfl, rfl, _, rfl, false, ts, rfl, jd_f7 (Or.inl rfl), hI0, hT, hS, off_refl m M⟩
  · refine x_tout h 318 dX12_judged_1 (Or.inr (by rw [nI_toInt (by omega)]; omega)) (by decide) ?_
    refine x_ic0 h dX12_judged_318 ?_
    exact x_zret h hQ rfl (by decide) dX12_judged_319 ⟨rfl, rfl, _, rfl, false, ts, rfl, jd_f7 (Or.inr h7), hI0, hT, hS, off_refl m M⟩
theorem c_X12_tenThousands {Γ : GT} {G : GG} {M : MM} {n : Nat} (hn : n < 2 ^ 31) : Calls Γ q_X12_tenThousands [.int (nI n)] G M (rL (fun y M' => y = lN (10000 ^ n) ∧ M' = M)) := by
  refine Calls.intro (by decide +kernel) (Nat.le_of_ble_eq_true rfl) (fun z E h hQ => ?_)
  refine x_loc (L' := [some (.int (nI n)), none, none, none]) rfl ?_
  have loop : ∀ i, i ≤ n → X Γ E 0 0 G z M 4 [some (.int (nI n)), some (.long (lN (10000 ^ i))), none, some (.int (nI i))] [] := by
    refine upto n (fun i hi ih => ?_)
    refine x_iload_n h dX12_tenThousands_4 rfl ?_
    refine x_iload_n h dX12_tenThousands_5 rfl ?_
    refine x_icmp_ge h 21 dX12_tenThousands_6 (by decide) (fun c6 => ?_) (fun c6 => ?_)
    · obtain rfl : i = n := by
        have := (nI_le_iff hn (by omega)).mp c6
        omega
      refine x_lload_n h dX12_tenThousands_21 rfl ?_
      exact x_lret h hQ rfl dX12_tenThousands_22 ⟨rfl, rfl, _, rfl, rfl, rfl⟩
    · have hlt : i < n := by
        have := mt (nI_le_iff (a := n) (b := i) hn (by omega)).mpr c6
        omega
      refine x_lload_n h dX12_tenThousands_9 rfl ?_
      refine x_ldc2 h kl_X12_346 dX12_tenThousands_10 ?_
      refine x_lmul h dX12_tenThousands_13 ?_
      refine x_topl (show lN (10000 ^ i) * lN 10000 = lN (10000 ^ (i + 1)) from lN_mul _ _) ?_
      refine x_lstore_n h dX12_tenThousands_14 rfl rfl ?_
      dsimp only [List.set]
      refine x_incn h dX12_tenThousands_15 rfl rfl rfl ?_
      dsimp only [List.set]
      refine x_goto h 4 dX12_tenThousands_18 (by decide) ?_
      exact ih hlt
  refine x_lc1 h dX12_tenThousands_0 ?_
  refine x_lstore_n h dX12_tenThousands_1 rfl rfl ?_
  dsimp only [List.set]
  refine x_in0 h dX12_tenThousands_2 ?_
  refine x_istore_n h dX12_tenThousands_3 rfl rfl ?_
  dsimp only [List.set]
  exact loop 0 (Nat.zero_le _)
theorem c_X12_layTrial {Γ : GT} {G : GG} {M : MM} {m : Nat} (hF : mdF G M.2.2 m) {tx : Nat → Nat} {len : Nat} {pg : PGM} {su : SU} {hy : HY} {kp : KP} {ze : SE} {sd : Int64} (hI : mInv M m tx len pg su hy kp ze sd) : Calls Γ q_X12_layTrial [.ref m] G M (rV (fun M' => mInv M' m tx len pg su hy kp ze sd ∧ suA M' (m + 22) 0 su ∧ offM m M M')) := by
  have hI0 := hI
  obtain ⟨iT, iP, iN, iD, iK, iS, iE, iC⟩ := hI
  have n0 : M.1 (m + 21) 0 = nI (su.1 0) := iN.1.1 0 (by decide)
  have n1 : M.1 (m + 21) 1 = nI (su.1 1) := iN.1.1 1 (by decide)
  have n2 : M.1 (m + 21) 2 = nI (su.1 2) := iN.1.1 2 (by decide)
  have n3 : M.1 (m + 21) 3 = nI su.2 := iN.1.2
  refine Calls.intro (by decide +kernel) (Nat.le_of_ble_eq_true rfl) (fun z E h hQ => ?_)
  refine x_loc (L' := [some (.ref m), none]) rfl ?_
  refine x_in0 h dX12_layTrial_0 ?_
  refine x_istore_n h dX12_layTrial_1 rfl rfl ?_
  dsimp only [List.set]
  refine x_iload_n h dX12_layTrial_2 rfl ?_
  refine x_in4 h dX12_layTrial_3 ?_
  refine x_icmp_ge h 25 dX12_layTrial_4 (by decide) (fun c4 => ?_) (fun c4 => ?_)
  · exact absurd c4 (by decide)
  · refine x_aload_n h dX12_layTrial_7 rfl ?_
    refine x_getR h hF.1 f_X12_73 rfl (md_trial hF).1 dX12_layTrial_8 ?_
    refine x_iload_n h dX12_layTrial_11 rfl ?_
    refine x_aload_n h dX12_layTrial_12 rfl ?_
    refine x_getR h hF.1 f_X12_70 rfl (md_now hF).1 dX12_layTrial_13 ?_
    refine x_iload_n h dX12_layTrial_16 rfl ?_
    refine x_ialdv h 0 (md_now hF).2 (ix.ni (j := 0) (by decide) (by decide)) (show _ = nI (su.1 0) from by first | exact n0 | (simp [sI, up2]; exact n0)) dX12_layTrial_17 ?_
    refine x_iast h 0 (md_trial hF).2 (ix.ni (j := 0) (by decide) (by decide)) dX12_layTrial_18 ?_
    refine x_incn h dX12_layTrial_19 rfl rfl rfl ?_
    dsimp only [List.set]
    refine x_goto h 2 dX12_layTrial_22 (by decide) ?_
    refine x_iload_n h dX12_layTrial_2 rfl ?_
    refine x_in4 h dX12_layTrial_3 ?_
    refine x_icmp_ge h 25 dX12_layTrial_4 (by decide) (fun c4 => ?_) (fun c4 => ?_)
    · exact absurd c4 (by decide)
    · refine x_aload_n h dX12_layTrial_7 rfl ?_
      refine x_getR h hF.1 f_X12_73 rfl (md_trial hF).1 dX12_layTrial_8 ?_
      refine x_iload_n h dX12_layTrial_11 rfl ?_
      refine x_aload_n h dX12_layTrial_12 rfl ?_
      refine x_getR h hF.1 f_X12_70 rfl (md_now hF).1 dX12_layTrial_13 ?_
      refine x_iload_n h dX12_layTrial_16 rfl ?_
      refine x_ialdv h 1 (md_now hF).2 (ix.ni (j := 1) (by decide) (by decide)) (show _ = nI (su.1 1) from by first | exact n1 | (simp [sI, up2]; exact n1)) dX12_layTrial_17 ?_
      refine x_iast h 1 (md_trial hF).2 (ix.ni (j := 1) (by decide) (by decide)) dX12_layTrial_18 ?_
      refine x_incn h dX12_layTrial_19 rfl rfl rfl ?_
      dsimp only [List.set]
      refine x_goto h 2 dX12_layTrial_22 (by decide) ?_
      refine x_iload_n h dX12_layTrial_2 rfl ?_
      refine x_in4 h dX12_layTrial_3 ?_
      refine x_icmp_ge h 25 dX12_layTrial_4 (by decide) (fun c4 => ?_) (fun c4 => ?_)
      · exact absurd c4 (by decide)
      · refine x_aload_n h dX12_layTrial_7 rfl ?_
        refine x_getR h hF.1 f_X12_73 rfl (md_trial hF).1 dX12_layTrial_8 ?_
        refine x_iload_n h dX12_layTrial_11 rfl ?_
        refine x_aload_n h dX12_layTrial_12 rfl ?_
        refine x_getR h hF.1 f_X12_70 rfl (md_now hF).1 dX12_layTrial_13 ?_
        refine x_iload_n h dX12_layTrial_16 rfl ?_
        refine x_ialdv h 2 (md_now hF).2 (ix.ni (j := 2) (by decide) (by decide)) (show _ = nI (su.1 2) from by first | exact n2 | (simp [sI, up2]; exact n2)) dX12_layTrial_17 ?_
        refine x_iast h 2 (md_trial hF).2 (ix.ni (j := 2) (by decide) (by decide)) dX12_layTrial_18 ?_
        refine x_incn h dX12_layTrial_19 rfl rfl rfl ?_
        dsimp only [List.set]
        refine x_goto h 2 dX12_layTrial_22 (by decide) ?_
        refine x_iload_n h dX12_layTrial_2 rfl ?_
        refine x_in4 h dX12_layTrial_3 ?_
        refine x_icmp_ge h 25 dX12_layTrial_4 (by decide) (fun c4 => ?_) (fun c4 => ?_)
        · exact absurd c4 (by decide)
        · refine x_aload_n h dX12_layTrial_7 rfl ?_
          refine x_getR h hF.1 f_X12_73 rfl (md_trial hF).1 dX12_layTrial_8 ?_
          refine x_iload_n h dX12_layTrial_11 rfl ?_
          refine x_aload_n h dX12_layTrial_12 rfl ?_
          refine x_getR h hF.1 f_X12_70 rfl (md_now hF).1 dX12_layTrial_13 ?_
          refine x_iload_n h dX12_layTrial_16 rfl ?_
          refine x_ialdv h 3 (md_now hF).2 (ix.ni (j := 3) (by decide) (by decide)) (show _ = nI su.2 from by first | exact n3 | (simp [sI, up2]; exact n3)) dX12_layTrial_17 ?_
          refine x_iast h 3 (md_trial hF).2 (ix.ni (j := 3) (by decide) (by decide)) dX12_layTrial_18 ?_
          refine x_incn h dX12_layTrial_19 rfl rfl rfl ?_
          dsimp only [List.set]
          refine x_goto h 2 dX12_layTrial_22 (by decide) ?_
          refine x_iload_n h dX12_layTrial_2 rfl ?_
          refine x_in4 h dX12_layTrial_3 ?_
          refine x_icmp_ge h 25 dX12_layTrial_4 (by decide) (fun c4 => ?_) (fun c4 => ?_)
          · refine x_vret h hQ rfl dX12_layTrial_25 ⟨rfl, rfl, rfl, mInv_I hI0 (fun a j h1 h2 _ => by simp only [sI, up2]; rw [if_neg (by omega), if_neg (by omega), if_neg (by omega), if_neg (by omega)]) rfl, ⟨fun v hv => ?_, by simp [sI, up2]⟩, (off_I (off_I (off_I (off_I (off_refl m M) _ (by omega)) _ (by omega)) _ (by omega)) _ (by omega))⟩
            rcases (show v = 0 ∨ v = 1 ∨ v = 2 by omega) with rfl | rfl | rfl <;> simp [sI, up2]
          · exact absurd c4 (by decide)
