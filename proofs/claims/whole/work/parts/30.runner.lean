/-! ===== Runner: runs with random choices ===== -/
def ruW (G : GG) (R : Nat → Nat → Value) (w : Nat) : Prop := G w = some (.inl 7) ∧ R w 1 = .ref (w + 1) ∧ G (w + 1) = some (.inr (.int, 3))
/-- the memory with a seed and three values in the Runner -/
def ruM (M : MM) (w : Nat) (x : Int64) (vs : Nat → Nat) : MM := wI (sL M w 0 x) (w + 1) 3 (fun j => nI (vs j))
def lcg (x : Int64) : Int64 := x * 6364136223846793005 + 1442695040888963407
def drN (x : Int64) (k : Nat) : Nat := uN (lcg x) / 2 ^ 33 % k
theorem lN_uN (x : Int64) : lN (uN x) = x := uN_inj (by
  show (Int64.ofNat (uN x)).toUInt64.toNat = uN x
  have h : (Int64.ofNat (uN x)).toUInt64 = UInt64.ofNat (uN x) := rfl
  rw [h, u_tn (uN_lt x)])
theorem dr_ok (x : Int64) {k : Nat} (h0 : 0 < k) (hk : k < 2 ^ 31) : (((lcg x).toUInt64 >>> ((nI 33).toInt64.toUInt64 &&& Int64.toUInt64 63)).toInt64 - ((lcg x).toUInt64 >>> ((nI 33).toInt64.toUInt64 &&& Int64.toUInt64 63)).toInt64 / (nI k).toInt64 * (nI k).toInt64).toInt32 = nI (drN x k) := by
  have e : ((lcg x).toUInt64 >>> ((nI 33).toInt64.toUInt64 &&& Int64.toUInt64 63)).toInt64 = lN (uN (lcg x) / 2 ^ 33) := by
    have h1 := wb_shr (n := uN (lcg x)) (k := 33) (uN_lt (lcg x)) (by decide)
    rw [lN_uN] at h1
    exact h1
  have hl : uN (lcg x) / 2 ^ 33 < 2 ^ 63 := Nat.lt_of_le_of_lt (Nat.div_le_div_right (Nat.le_of_lt (uN_lt (lcg x)))) (by decide)
  rw [e, nI_l hk, pk_lRem hl h0 (Nat.lt_trans hk (by decide)), lN_i]
  rfl
theorem sL_wI (M : MM) (w : Nat) (x y : Int64) (p n : Nat) (f : Nat → Int32) : sL (wI (sL M w 0 x) p n f) w 0 y = wI (sL M w 0 y) p n f := by
  show (_, _, M.2.2) = (_, _, M.2.2)
  congr 2
  funext b j
  by_cases h : b = w ∧ j = 0
  · obtain ⟨rfl, rfl⟩ := h
    simp [up2, wI, sL]
  · simp only [up2, wI, sL, if_neg h]
theorem lm_X7_79 : KW (.methodLink RX7 79 q_J9_min.1) := KW.by 906 (by decide +kernel) rfl
theorem lm_X7_85 : KW (.methodLink RX7 85 q_J9_max.1) := KW.by 907 (by decide +kernel) rfl
theorem c_X7_draw {Γ : GT} {G : GG} {M : MM} {w : Nat} {x : Int64} {vs : Nat → Nat} (hR : ruW G M.2.2 w) {k : Nat} (h0 : 0 < k) (hk : k < 2 ^ 31) : Calls Γ q_X7_draw [.ref w, .int (nI k)] G (ruM M w x vs) (rI (fun y M' => y = nI (drN x k) ∧ M' = ruM M w (lcg x) vs)) := by
  have hR0 := hR
  obtain ⟨gw, rv, gv⟩ := hR
  refine Calls.intro (by decide +kernel) (Nat.le_of_ble_eq_true rfl) (fun z E h hQ => ?_)
  refine x_loc (L' := [some (.ref w), some (.int (nI k))]) rfl ?_
  refine x_aload_n h dX7_draw_0 rfl ?_
  refine x_aload_n h dX7_draw_1 rfl ?_
  refine x_get h gw f_X7_15 (v := .long x) (by show Value.long ((ruM M w x vs).2.1 w 0) = _; simp [ruM, wI, sL, up2]) dX7_draw_2 ?_
  refine x_ldc2 h kl_X7_19 dX7_draw_5 ?_
  refine x_lmul h dX7_draw_8 ?_
  refine x_ldc2 h kl_X7_21 dX7_draw_9 ?_
  refine x_ladd h dX7_draw_12 ?_
  refine x_putL h gw f_X7_15 rfl rfl dX7_draw_13 ?_
  refine x_iload_n h dX7_draw_16 rfl ?_
  refine x_in1 h dX7_draw_17 ?_
  refine x_icmp_ge h 25 dX7_draw_18 (by decide) (fun c18 => ?_) (fun c18 => ?_)
  · refine x_aload_n h dX7_draw_25 rfl ?_
    refine x_mem (M' := ruM M w (lcg x) vs) (sL_wI M w x (lcg x) (w + 1) 3 _) ?_
    refine x_get h gw f_X7_15 (v := .long (lcg x)) (by show Value.long ((ruM M w (lcg x) vs).2.1 w 0) = _; simp [ruM, wI, sL, up2]) dX7_draw_26 ?_
    refine x_bipush h (nI 33) (by decide) dX7_draw_29 ?_
    refine x_lushr h dX7_draw_31 ?_
    refine x_iload_n h dX7_draw_32 rfl ?_
    refine x_i2l h dX7_draw_33 ?_
    refine x_lrem h (fun q => absurd (show (nI k).toInt64 = 0 from q) (by rw [nI_l hk]; intro q; have := (fb_lN_inj (Nat.lt_trans hk (by decide)) (by decide)).mp (show lN k = lN 0 from q); omega)) dX7_draw_34 ?_
    refine x_l2i h dX7_draw_35 ?_
    refine x_topi (dr_ok x h0 hk) ?_
    exact x_iret h hQ rfl dX7_draw_36 ⟨rfl, rfl, _, rfl, rfl, rfl⟩
  · exact absurd ((nI_le_iff (by decide) hk).mpr h0) c18
/-- a step as a run sees it: kind, variable, partner, condition -/
def stepR (G : GG) (M : MM) (w a k v p : Nat) (kc : CND) : Prop := G a = some (.inl 10) ∧ a ≠ w + 1 ∧ M.1 a 0 = nI k ∧ M.1 a 1 = nI v ∧ M.1 a 3 = nI p ∧ ∃ q, M.2.2 a 4 = .ref q ∧ q ≠ w + 1 ∧ G q = some (.inl 3) ∧ cnIs M q kc
theorem ruM_I (M : MM) {w b : Nat} (x : Int64) (vs : Nat → Nat) (j : Nat) (h : b ≠ w + 1) : (ruM M w x vs).1 b j = M.1 b j := wI_ne _ _ _ _ h
theorem ruM_v (M : MM) (w : Nat) (x : Int64) (vs : Nat → Nat) {j : Nat} (h : j < 3) : (ruM M w x vs).1 (w + 1) j = nI (vs j) := (wI_at _ _ _ _ _).trans (if_pos h)
theorem cnIs_ru {M : MM} {w q : Nat} {kc : CND} (x : Int64) (vs : Nat → Nat) (h : cnIs M q kc) (hq : q ≠ w + 1) : cnIs (ruM M w x vs) q kc := ⟨(ruM_I M x vs 0 hq).trans h.1, (ruM_I M x vs 1 hq).trans h.2.1, (ruM_I M x vs 2 hq).trans h.2.2⟩
theorem c_X7_isTrue {Γ : GT} {G : GG} {M : MM} {w : Nat} {x : Int64} {vs : Nat → Nat} (hR : ruW G M.2.2 w) {a k v p : Nat} {kc : CND} (hs : stepR G M w a k v p kc) (ok : cndOk kc) (h6 : vs 0 < 6 ∧ vs 1 < 6 ∧ vs 2 < 6) : Calls Γ q_X7_isTrue [.ref w, .ref a] G (ruM M w x vs) (rI (fun y M' => y = b2i (cndV kc (vs 0) (vs 1) (vs 2)) ∧ M' = ruM M w x vs)) := by
  have hR0 := hR
  obtain ⟨gw, rv, gv⟩ := hR
  obtain ⟨ga, ha, ka, va, pa, q, rq, hq, gq, cq⟩ := hs
  refine Calls.intro (by decide +kernel) (Nat.le_of_ble_eq_true rfl) (fun z E h hQ => ?_)
  refine x_loc (L' := [some (.ref w), some (.ref a)]) rfl ?_
  refine x_aload_n h dX7_isTrue_0 rfl ?_
  refine x_getR h ga f_X7_63 rfl rq dX7_isTrue_1 ?_
  refine x_aload_n h dX7_isTrue_4 rfl ?_
  refine x_getR h gw f_X7_11 rfl rv dX7_isTrue_5 ?_
  refine x_in0 h dX7_isTrue_8 ?_
  refine x_ialdv h 0 gv (ix.ni (j := 0) (by decide) (by decide)) (ruM_v M w x vs (by decide)) dX7_isTrue_9 ?_
  refine x_aload_n h dX7_isTrue_10 rfl ?_
  refine x_getR h gw f_X7_11 rfl rv dX7_isTrue_11 ?_
  refine x_in1 h dX7_isTrue_14 ?_
  refine x_ialdv h 1 gv (ix.ni (j := 1) (by decide) (by decide)) (ruM_v M w x vs (by decide)) dX7_isTrue_15 ?_
  refine x_aload_n h dX7_isTrue_16 rfl ?_
  refine x_getR h gw f_X7_11 rfl rv dX7_isTrue_17 ?_
  refine x_in2 h dX7_isTrue_20 ?_
  refine x_ialdv h 2 gv (ix.ni (j := 2) (by decide) (by decide)) (ruM_v M w x vs (by decide)) dX7_isTrue_21 ?_
  refine x_cVi h ci_X3_isTrue im_X3_isTrue l_X7_67 ⟨Nat.le_of_ble_eq_true rfl, Nat.le_of_ble_eq_true rfl⟩ ⟨rfl, rfl⟩ ⟨Nat.zero_le _, Nat.zero_le _⟩ (c_X3_isTrue gq (cnIs_ru x vs cq hq) ok h6.1 h6.2.1 h6.2.2) rfl rfl rfl rfl gq (by decide) rfl dX7_isTrue_22 (fun v22 M22 hp22 => ?_)
  obtain ⟨rfl, hM⟩ := hp22
  obtain rfl := hM.symm
  clear hM
  exact x_zret h hQ rfl (b2i_01 _) dX7_isTrue_25 ⟨rfl, rfl, _, rfl, rfl, rfl⟩
def upN (vs : Nat → Nat) (k y : Nat) : Nat → Nat := fun j => if j = k then y else vs j
def chgV (k v : Nat) (kc : CND) (x : Int64) (vs : Nat → Nat) : Int64 × (Nat → Nat) := if k = 0 then (x, upN vs v (trmV kc.2.2 (vs 0) (vs 1) (vs 2))) else if k = 1 then (x, upN vs v (if 5 < vs v + 1 then 5 else vs v + 1)) else if k = 2 then (x, upN vs v (vs v - 1)) else if k = 3 then (lcg x, upN vs v (drN x 6)) else (x, vs)
theorem ruM_set (M : MM) (w : Nat) (x : Int64) (vs : Nat → Nat) {v : Nat} (y : Nat) (h : v < 3) : sI (ruM M w x vs) (w + 1) v (nI y) = ruM M w x (upN vs v y) := by
  unfold ruM
  rw [wI_set h]
  refine wI_congr _ _ _ (fun j hj => ?_)
  unfold updI upN
  by_cases e : j = v <;> simp [e]
theorem c_X7_change {Γ : GT} {G : GG} {M : MM} {w : Nat} {x : Int64} {vs : Nat → Nat} (hR : ruW G M.2.2 w) {a k v p : Nat} {kc : CND} (hs : stepR G M w a k v p kc) (ok : k = 0 → cndOk kc) (hk : k ≤ 10) (hv : k ≤ 3 → v < 3) (h6 : vs 0 < 6 ∧ vs 1 < 6 ∧ vs 2 < 6) : Calls Γ q_X7_change [.ref w, .ref a] G (ruM M w x vs) (rV (fun M' => M' = ruM M w (chgV k v kc x vs).1 (chgV k v kc x vs).2)) := by
  have hR0 := hR
  obtain ⟨gw, rv, gv⟩ := hR
  obtain ⟨ga, ha, ka, va, pa, q, rq, hq, gq, cq⟩ := hs
  have hvs : ∀ j, j < 3 → vs j < 6 := fun j hj => by
    rcases (show j = 0 ∨ j = 1 ∨ j = 2 by omega) with rfl | rfl | rfl
    · exact h6.1
    · exact h6.2.1
    · exact h6.2.2
  refine Calls.intro (by decide +kernel) (Nat.le_of_ble_eq_true rfl) (fun z E h hQ => ?_)
  refine x_loc (L' := [some (.ref w), some (.ref a), none]) rfl ?_
  refine x_aload_n h dX7_change_0 rfl ?_
  refine x_getIv h ga f_X7_72 rfl ((ruM_I M x vs 1 ha).trans va) dX7_change_1 ?_
  refine x_istore_n h dX7_change_4 rfl rfl ?_
  dsimp only [List.set]
  refine x_iload_n h dX7_change_5 rfl ?_
  refine x_if_lt h 18 dX7_change_6 (by decide) (fun c6 => ?_) (fun c6 => ?_)
  · have hk4 : ¬ k ≤ 3 := fun q => (nI_nneg (by have := hv q; omega) c6).elim
    exact x_vret h hQ rfl dX7_change_18 ⟨rfl, rfl, rfl, by unfold chgV; rw [if_neg (by omega), if_neg (by omega), if_neg (by omega), if_neg (by omega)]⟩
  · refine x_iload_n h dX7_change_9 rfl ?_
    refine x_aload_n h dX7_change_10 rfl ?_
    refine x_getR h gw f_X7_11 rfl rv dX7_change_11 ?_
    refine x_alen h gv (by decide) dX7_change_14 ?_
    refine x_icmp_lt h 19 dX7_change_15 (by decide) (fun c15 => ?_) (fun c15 => ?_)
    · refine x_aload_n h dX7_change_19 rfl ?_
      refine x_getIv h ga f_X7_48 rfl ((ruM_I M x vs 0 ha).trans ka) dX7_change_20 ?_
      rcases (show k = 0 ∨ k = 1 ∨ k = 2 ∨ k = 3 ∨ 4 ≤ k by omega) with rfl | rfl | rfl | rfl | hk4
      · have hv3 : v < 3 := hv (by decide)
        refine x_tin h 52 dX7_change_23 (by decide) (by decide) (off := 29) (by decide) (by decide) ?_
        refine x_aload_n h dX7_change_52 rfl ?_
        refine x_getR h gw f_X7_11 rfl rv dX7_change_53 ?_
        refine x_iload_n h dX7_change_56 rfl ?_
        refine x_aload_n h dX7_change_57 rfl ?_
        refine x_getR h ga f_X7_63 rfl rq dX7_change_58 ?_
        refine x_aload_n h dX7_change_61 rfl ?_
        refine x_getR h gw f_X7_11 rfl rv dX7_change_62 ?_
        refine x_in0 h dX7_change_65 ?_
        refine x_ialdv h 0 gv (ix.ni (j := 0) (by decide) (by decide)) (ruM_v M w x vs (by decide)) dX7_change_66 ?_
        refine x_aload_n h dX7_change_67 rfl ?_
        refine x_getR h gw f_X7_11 rfl rv dX7_change_68 ?_
        refine x_in1 h dX7_change_71 ?_
        refine x_ialdv h 1 gv (ix.ni (j := 1) (by decide) (by decide)) (ruM_v M w x vs (by decide)) dX7_change_72 ?_
        refine x_aload_n h dX7_change_73 rfl ?_
        refine x_getR h gw f_X7_11 rfl rv dX7_change_74 ?_
        refine x_in2 h dX7_change_77 ?_
        refine x_ialdv h 2 gv (ix.ni (j := 2) (by decide) (by decide)) (ruM_v M w x vs (by decide)) dX7_change_78 ?_
        refine x_cVi h ci_X3_value im_X3_value l_X7_75 ⟨Nat.le_of_ble_eq_true rfl, Nat.le_of_ble_eq_true rfl⟩ ⟨rfl, rfl⟩ ⟨Nat.zero_le _, Nat.zero_le _⟩ (c_X3_value gq (cnIs_ru x vs cq hq) (ok rfl)) rfl rfl rfl rfl gq (by decide) rfl dX7_change_79 (fun v79 M79 hp79 => ?_)
        obtain ⟨rfl, hM⟩ := hp79
        obtain rfl := hM.symm
        clear hM
        refine x_iast h v gv (ix.ni hv3 (by decide)) dX7_change_82 ?_
        refine x_mem (ruM_set M w _ vs _ hv3) ?_
        refine x_goto h 143 dX7_change_83 (by decide) ?_
        exact x_vret h hQ rfl dX7_change_143 ⟨rfl, rfl, rfl, rfl⟩
      · have hv3 : v < 3 := hv (by decide)
        refine x_tin h 86 dX7_change_23 (by decide) (by decide) (off := 63) (by decide) (by decide) ?_
        refine x_aload_n h dX7_change_86 rfl ?_
        refine x_getR h gw f_X7_11 rfl rv dX7_change_87 ?_
        refine x_iload_n h dX7_change_90 rfl ?_
        refine x_aload_n h dX7_change_91 rfl ?_
        refine x_getR h gw f_X7_11 rfl rv dX7_change_92 ?_
        refine x_iload_n h dX7_change_95 rfl ?_
        refine x_ialdv h v gv (ix.ni hv3 (by decide)) (show _ = nI (vs v) from ruM_v M w x vs hv3) dX7_change_96 ?_
        refine x_in1 h dX7_change_97 ?_
        refine x_iaddn h  dX7_change_98 ?_
        refine x_in5 h dX7_change_99 ?_
        refine x_mmin h lm_X7_79 rfl ⟨by decide, by decide⟩ ⟨Nat.zero_le _, Nat.zero_le _⟩ rfl dX7_change_100 ?_
        refine x_topi (y := nI (if 5 < vs v + 1 then 5 else vs v + 1)) (by
          have h9 := hvs v hv3
          by_cases h5 : 5 < vs v + 1
          · rw [if_pos h5, if_pos ((nI_lt_iff (by decide) (by omega)).mpr h5)]
          · rw [if_neg h5, if_neg (fun q => h5 ((nI_lt_iff (by decide) (by omega)).mp q))]) ?_
        refine x_iast h v gv (ix.ni hv3 (by decide)) dX7_change_103 ?_
        refine x_mem (ruM_set M w _ vs _ hv3) ?_
        refine x_goto h 143 dX7_change_104 (by decide) ?_
        exact x_vret h hQ rfl dX7_change_143 ⟨rfl, rfl, rfl, rfl⟩
      · have hv3 : v < 3 := hv (by decide)
        refine x_tin h 107 dX7_change_23 (by decide) (by decide) (off := 84) (by decide) (by decide) ?_
        refine x_aload_n h dX7_change_107 rfl ?_
        refine x_getR h gw f_X7_11 rfl rv dX7_change_108 ?_
        refine x_iload_n h dX7_change_111 rfl ?_
        refine x_aload_n h dX7_change_112 rfl ?_
        refine x_getR h gw f_X7_11 rfl rv dX7_change_113 ?_
        refine x_iload_n h dX7_change_116 rfl ?_
        refine x_ialdv h v gv (ix.ni hv3 (by decide)) (show _ = nI (vs v) from ruM_v M w x vs hv3) dX7_change_117 ?_
        refine x_in1 h dX7_change_118 ?_
        refine x_isub h dX7_change_119 ?_
        refine x_in0 h dX7_change_120 ?_
        refine x_mmax h lm_X7_85 rfl ⟨by decide, by decide⟩ ⟨Nat.zero_le _, Nat.zero_le _⟩ rfl dX7_change_121 ?_
        refine x_topi (y := nI (vs v - 1)) (by
          have h9 := hvs v hv3
          rcases Nat.eq_zero_or_pos (vs v) with e | e
          · rw [e]; decide
          · rw [pk_sub (by omega), if_neg (fun q => absurd ((nI_lt_iff (by omega) (by decide)).mp q) (by omega))]) ?_
        refine x_iast h v gv (ix.ni hv3 (by decide)) dX7_change_124 ?_
        refine x_mem (ruM_set M w _ vs _ hv3) ?_
        refine x_goto h 143 dX7_change_125 (by decide) ?_
        exact x_vret h hQ rfl dX7_change_143 ⟨rfl, rfl, rfl, rfl⟩
      · have hv3 : v < 3 := hv (by decide)
        refine x_tin h 128 dX7_change_23 (by decide) (by decide) (off := 105) (by decide) (by decide) ?_
        refine x_aload_n h dX7_change_128 rfl ?_
        refine x_getR h gw f_X7_11 rfl rv dX7_change_129 ?_
        refine x_iload_n h dX7_change_132 rfl ?_
        refine x_aload_n h dX7_change_133 rfl ?_
        refine x_bipush h (nI 6) (by decide) dX7_change_134 ?_
        refine x_cVi h ci_X7_draw im_X7_draw l_X7_28 ⟨Nat.le_of_ble_eq_true rfl, Nat.le_of_ble_eq_true rfl⟩ ⟨rfl, rfl⟩ ⟨Nat.zero_le _, Nat.zero_le _⟩ (c_X7_draw hR0 (k := 6) (by decide) (by decide)) rfl rfl rfl rfl gw (by decide) rfl dX7_change_136 (fun v136 M136 hp136 => ?_)
        obtain ⟨rfl, rfl⟩ := hp136
        refine x_iast h v gv (ix.ni hv3 (by decide)) dX7_change_139 ?_
        refine x_mem (ruM_set M w _ vs _ hv3) ?_
        refine x_goto h 143 dX7_change_140 (by decide) ?_
        exact x_vret h hQ rfl dX7_change_143 ⟨rfl, rfl, rfl, rfl⟩
      · refine x_tout h 143 dX7_change_23 (Or.inr (by rw [nI_toInt (by omega)]; omega)) (by decide) ?_
        exact x_vret h hQ rfl dX7_change_143 ⟨rfl, rfl, rfl, by unfold chgV; rw [if_neg (by omega), if_neg (by omega), if_neg (by omega), if_neg (by omega)]⟩
    · have hk4 : ¬ k ≤ 3 := fun q => c15 ((nI_lt_iff (by have := hv q; omega) (by decide)).mpr (hv q))
      exact x_vret h hQ rfl dX7_change_18 ⟨rfl, rfl, rfl, by unfold chgV; rw [if_neg (by omega), if_neg (by omega), if_neg (by omega), if_neg (by omega)]⟩
def nxtV (k p pl : Nat) (kc : CND) (x : Int64) (vs : Nat → Nat) : Nat × Int64 := if k = 6 then ((if cndV kc (vs 0) (vs 1) (vs 2) then pl + 1 else p + 1), x) else if k = 7 ∨ k = 9 then (p, x) else if k = 8 then ((if drN x 2 = 0 then pl + 1 else p + 1), lcg x) else (pl + 1, x)
theorem c_X7_next {Γ : GT} {G : GG} {M : MM} {w : Nat} {x : Int64} {vs : Nat → Nat} (hR : ruW G M.2.2 w) {a k v p : Nat} {kc : CND} (hs : stepR G M w a k v p kc) (ok : k = 6 → cndOk kc) (hk : k ≤ 10) (h6 : vs 0 < 6 ∧ vs 1 < 6 ∧ vs 2 < 6) {pl : Nat} : Calls Γ q_X7_next [.ref w, .ref a, .int (nI pl)] G (ruM M w x vs) (rI (fun y M' => y = nI (nxtV k p pl kc x vs).1 ∧ M' = ruM M w (nxtV k p pl kc x vs).2 vs)) := by
  have hR0 := hR
  obtain ⟨gw, rv, gv⟩ := hR
  have hs0 := hs
  obtain ⟨ga, ha, ka, va, pa, q, rq, hq, gq, cq⟩ := hs
  refine Calls.intro (by decide +kernel) (Nat.le_of_ble_eq_true rfl) (fun z E h hQ => ?_)
  refine x_loc (L' := [some (.ref w), some (.ref a), some (.int (nI pl))]) rfl ?_
  refine x_aload_n h dX7_next_0 rfl ?_
  refine x_getIv h ga f_X7_48 rfl ((ruM_I M _ vs 0 ha).trans ka) dX7_next_1 ?_
  rcases (show k = 6 ∨ k = 7 ∨ k = 8 ∨ k = 9 ∨ k < 6 ∨ k = 10 by omega) with rfl | rfl | rfl | rfl | hk5 | rfl
  · refine x_tin h 36 dX7_next_4 (by decide) (by decide) (off := 32) (by decide) (by decide) ?_
    refine x_aload_n h dX7_next_36 rfl ?_
    refine x_aload_n h dX7_next_37 rfl ?_
    refine x_cVi h ci_X7_isTrue im_X7_isTrue l_X7_51 ⟨Nat.le_of_ble_eq_true rfl, Nat.le_of_ble_eq_true rfl⟩ ⟨rfl, rfl⟩ ⟨Nat.zero_le _, Nat.zero_le _⟩ (c_X7_isTrue hR0 hs0 (ok rfl) h6) rfl rfl rfl rfl gw (by decide) rfl dX7_next_38 (fun v38 M38 hp38 => ?_)
    obtain ⟨rfl, hM⟩ := hp38
    obtain rfl := hM.symm
    clear hM
    refine x_if_eq h 50 dX7_next_41 (by decide) (fun c41 => ?_) (fun c41 => ?_)
    · have e := b2i_0.mp c41
      refine x_aload_n h dX7_next_50 rfl ?_
      refine x_getIv h ga f_X7_88 rfl ((ruM_I M _ vs 3 ha).trans pa) dX7_next_51 ?_
      refine x_in1 h dX7_next_54 ?_
      refine x_iaddn h  dX7_next_55 ?_
      exact x_iret h hQ rfl dX7_next_56 ⟨rfl, rfl, _, rfl, by simp only [nxtV, e]; rfl, rfl⟩
    · have e := bool_nf (fun q => c41 (b2i_0.mpr q))
      refine x_iload_n h dX7_next_44 rfl ?_
      refine x_in1 h dX7_next_45 ?_
      refine x_iaddn h  dX7_next_46 ?_
      refine x_goto h 56 dX7_next_47 (by decide) ?_
      exact x_iret h hQ rfl dX7_next_56 ⟨rfl, rfl, _, rfl, by simp only [nxtV, e]; rfl, rfl⟩
  · refine x_tin h 57 dX7_next_4 (by decide) (by decide) (off := 53) (by decide) (by decide) ?_
    refine x_aload_n h dX7_next_57 rfl ?_
    refine x_getIv h ga f_X7_88 rfl ((ruM_I M _ vs 3 ha).trans pa) dX7_next_58 ?_
    exact x_iret h hQ rfl dX7_next_61 ⟨rfl, rfl, _, rfl, rfl, rfl⟩
  · refine x_tin h 62 dX7_next_4 (by decide) (by decide) (off := 58) (by decide) (by decide) ?_
    refine x_aload_n h dX7_next_62 rfl ?_
    refine x_in2 h dX7_next_63 ?_
    refine x_cVi h ci_X7_draw im_X7_draw l_X7_28 ⟨Nat.le_of_ble_eq_true rfl, Nat.le_of_ble_eq_true rfl⟩ ⟨rfl, rfl⟩ ⟨Nat.zero_le _, Nat.zero_le _⟩ (c_X7_draw hR0 (k := 2) (by decide) (by decide)) rfl rfl rfl rfl gw (by decide) rfl dX7_next_64 (fun v64 M64 hp64 => ?_)
    obtain ⟨rfl, rfl⟩ := hp64
    refine x_if_ne h 76 dX7_next_67 (by decide) (fun c67 => ?_) (fun c67 => ?_)
    · have e : ¬ drN x 2 = 0 := fun q => c67 (by rw [q]; exact nI_0)
      refine x_aload_n h dX7_next_76 rfl ?_
      refine x_getIv h ga f_X7_88 rfl ((ruM_I M _ vs 3 ha).trans pa) dX7_next_77 ?_
      refine x_in1 h dX7_next_80 ?_
      refine x_iaddn h  dX7_next_81 ?_
      exact x_iret h hQ rfl dX7_next_82 ⟨rfl, rfl, _, rfl, by simp only [nxtV, e]; rfl, rfl⟩
    · have e : drN x 2 = 0 := nI_small 0 (Nat.lt_trans (Nat.mod_lt _ (by decide)) (by decide)) (by decide) (c67.trans nI_0.symm)
      refine x_iload_n h dX7_next_70 rfl ?_
      refine x_in1 h dX7_next_71 ?_
      refine x_iaddn h  dX7_next_72 ?_
      refine x_goto h 82 dX7_next_73 (by decide) ?_
      exact x_iret h hQ rfl dX7_next_82 ⟨rfl, rfl, _, rfl, by simp only [nxtV, e]; rfl, rfl⟩
  · refine x_tin h 57 dX7_next_4 (by decide) (by decide) (off := 53) (by decide) (by decide) ?_
    refine x_aload_n h dX7_next_57 rfl ?_
    refine x_getIv h ga f_X7_88 rfl ((ruM_I M _ vs 3 ha).trans pa) dX7_next_58 ?_
    exact x_iret h hQ rfl dX7_next_61 ⟨rfl, rfl, _, rfl, rfl, rfl⟩
  · refine x_tout h 83 dX7_next_4 (Or.inl (by rw [nI_toInt (by omega)]; omega)) (by decide) ?_
    refine x_iload_n h dX7_next_83 rfl ?_
    refine x_in1 h dX7_next_84 ?_
    refine x_iaddn h  dX7_next_85 ?_
    exact x_iret h hQ rfl dX7_next_86 ⟨rfl, rfl, _, rfl, by rw [nxtV, if_neg (by omega), if_neg (by omega), if_neg (by omega)], by rw [nxtV, if_neg (by omega), if_neg (by omega), if_neg (by omega)]⟩
  · refine x_tout h 83 dX7_next_4 (by decide) (by decide) ?_
    refine x_iload_n h dX7_next_83 rfl ?_
    refine x_in1 h dX7_next_84 ?_
    refine x_iaddn h  dX7_next_85 ?_
    exact x_iret h hQ rfl dX7_next_86 ⟨rfl, rfl, _, rfl, rfl, rfl⟩
/-- the program of a run: length; kinds, variables, partners, conditions -/
abbrev RV : Type := Nat × (Nat → Nat) × (Nat → Nat) × (Nat → Nat) × (Nat → CND)
def rvW (G : GG) (M : MM) (w c : Nat) (Q : RV) : Prop := Q.1 ≤ 60 ∧ c ≠ w + 1 ∧ M.1 c 1 = nI Q.1 ∧ ∀ i, i < Q.1 → stepR G M w (c + 65 + i) (Q.2.1 i) (Q.2.2.1 i) (Q.2.2.2.1 i) (Q.2.2.2.2 i) ∧ Q.2.1 i ≤ 10 ∧ (Q.2.1 i ≤ 3 → Q.2.2.1 i < 3) ∧ (Q.2.1 i = 0 ∨ Q.2.1 i = 4 ∨ Q.2.1 i = 5 ∨ Q.2.1 i = 6 → cndOk (Q.2.2.2.2 i)) ∧ (6 ≤ Q.2.1 i → Q.2.1 i ≤ 9 → Q.2.2.2.1 i ≤ 60)
def iniV (t : Nat → Nat) (x : Int64) (vs : Nat → Nat) : Nat → Int64 × (Nat → Nat)
  | 0 => (x, vs)
  | i + 1 => if t i = 6 then (lcg (iniV t x vs i).1, upN (iniV t x vs i).2 i (drN (iniV t x vs i).1 6)) else ((iniV t x vs i).1, upN (iniV t x vs i).2 i (t i))
def runF (Q : RV) : Nat → Nat → Nat → Int64 → (Nat → Nat) → Nat × Int64 × (Nat → Nat)
  | 0, _, _, x, vs => (0, x, vs)
  | m + 1, pl, dn, x, vs => if Q.1 ≤ pl then (0, x, vs) else if isStm (Q.2.1 pl) = true ∧ 60 ≤ dn then (3, x, vs) else if Q.2.1 pl = 5 ∧ cndV (Q.2.2.2.2 pl) (vs 0) (vs 1) (vs 2) = false then (1, x, vs) else if Q.2.1 pl = 4 ∧ cndV (Q.2.2.2.2 pl) (vs 0) (vs 1) (vs 2) = false then (2, x, vs) else
    runF Q m (nxtV (Q.2.1 pl) (Q.2.2.2.1 pl) pl (Q.2.2.2.2 pl) (chgV (Q.2.1 pl) (Q.2.2.1 pl) (Q.2.2.2.2 pl) x vs).1 (chgV (Q.2.1 pl) (Q.2.2.1 pl) (Q.2.2.2.2 pl) x vs).2).1 (if isStm (Q.2.1 pl) then dn + 1 else dn) (nxtV (Q.2.1 pl) (Q.2.2.2.1 pl) pl (Q.2.2.2.2 pl) (chgV (Q.2.1 pl) (Q.2.2.1 pl) (Q.2.2.2.2 pl) x vs).1 (chgV (Q.2.1 pl) (Q.2.2.1 pl) (Q.2.2.2.2 pl) x vs).2).2 (chgV (Q.2.1 pl) (Q.2.2.1 pl) (Q.2.2.2.2 pl) x vs).2
theorem drN_lt (x : Int64) {k : Nat} (h : 0 < k) : drN x k < k := Nat.mod_lt _ h
def lt6 (vs : Nat → Nat) : Prop := vs 0 < 6 ∧ vs 1 < 6 ∧ vs 2 < 6
theorem upN_lt6 {vs : Nat → Nat} {v y : Nat} (h : lt6 vs) (hy : y < 6) : lt6 (upN vs v y) := by
  obtain ⟨a, b, c⟩ := h
  refine ⟨?_, ?_, ?_⟩ <;> unfold upN <;> split <;> assumption
theorem chg_lt6 {k v : Nat} {kc : CND} {x : Int64} {vs : Nat → Nat} (h : lt6 vs) (hv : k ≤ 3 → v < 3) (ok : k = 0 → cndOk kc) : lt6 (chgV k v kc x vs).2 := by
  have hvs : ∀ j, j < 3 → vs j < 6 := fun j hj => by
    rcases (show j = 0 ∨ j = 1 ∨ j = 2 by omega) with rfl | rfl | rfl
    · exact h.1
    · exact h.2.1
    · exact h.2.2
  unfold chgV
  split
  · rename_i e
    exact upN_lt6 h (trm_lt (ok e).2.2 h.1 h.2.1 h.2.2)
  · split
    · refine upN_lt6 h ?_
      split <;> omega
    · split
      · refine upN_lt6 h ?_
        have := hvs v (hv (by omega))
        omega
      · split
        · exact upN_lt6 h (drN_lt x (by decide))
        · exact h
theorem c_X7_run {Γ : GT} {G : GG} {M : MM} {w c u : Nat} {x : Int64} {vs : Nat → Nat} {t : Nat → Nat} {off : Nat} {Q : RV} (hR : ruW G M.2.2 w) (hW : codeF G M.2.2 c) (hQv : rvW G M w c Q) (hU : suW G M.2.2 u) (hT : suIs M u t off) (huw : u ≠ w) (h6 : t 0 ≤ 6 ∧ t 1 ≤ 6 ∧ t 2 ≤ 6) : Calls Γ q_X7_run [.ref w, .ref c, .ref u] G (ruM M w x vs) (rI (fun y M' => y = nI (runF Q 3721 0 0 (iniV t x vs 3).1 (iniV t x vs 3).2).1 ∧ M' = ruM M w (runF Q 3721 0 0 (iniV t x vs 3).1 (iniV t x vs 3).2).2.1 (runF Q 3721 0 0 (iniV t x vs 3).1 (iniV t x vs 3).2).2.2)) := by
  have hR0 := hR
  obtain ⟨gw, rv, gv⟩ := hR
  have hW0 := hW
  have gc := hW.1
  obtain ⟨q60, hcw, hlen, hst⟩ := hQv
  obtain ⟨gu, ru, gu1⟩ := hU
  have hts : ∀ i, i < 3 → M.1 (u + 1) i = nI (t i) ∧ t i ≤ 6 := fun i hi => by
    rcases (show i = 0 ∨ i = 1 ∨ i = 2 by omega) with rfl | rfl | rfl
    · exact ⟨hT.1, h6.1⟩
    · exact ⟨hT.2.1, h6.2.1⟩
    · exact ⟨hT.2.2.1, h6.2.2⟩
  have hini : lt6 (iniV t x vs 3).2 := by
    have a0 : ∀ i (y : Int64 × (Nat → Nat)), i < 3 → (if t i = 6 then drN y.1 6 else t i) < 6 := fun i y hi => by
      split
      · exact drN_lt _ (by decide)
      · have := (hts i hi).2; omega
    have e : ∀ i, (iniV t x vs (i + 1)).2 = upN (iniV t x vs i).2 i (if t i = 6 then drN (iniV t x vs i).1 6 else t i) := fun i => by
      rw [iniV]; split <;> simp [*]
    refine ⟨?_, ?_, ?_⟩
    · rw [e 2, e 1, e 0]; simp only [upN]; exact a0 0 _ (by decide)
    · rw [e 2, e 1]; simp only [upN]; exact a0 1 _ (by decide)
    · rw [e 2]; simp only [upN]; exact a0 2 _ (by decide)
  refine Calls.intro (by decide +kernel) (Nat.le_of_ble_eq_true rfl) (fun z E h hQ => ?_)
  refine x_loc (L' := [some (.ref w), some (.ref c), some (.ref u), none, none, none, none]) rfl ?_
  have main : ∀ fuel m pl dn (x1 : Int64) (v1 : Nat → Nat), m + fuel = 3721 → pl < 1000 → dn ≤ 60 → lt6 v1 → runF Q fuel pl dn x1 v1 = runF Q 3721 0 0 (iniV t x vs 3).1 (iniV t x vs 3).2 → ∀ w9, X Γ E 0 0 G z (ruM M w x1 v1) 66 [some (.ref w), some (.ref c), some (.ref u), some (.int (nI pl)), some (.int (nI dn)), some (.int (nI m)), w9] [] := by
    intro fuel
    induction fuel with
    | zero =>
      intro m pl dn x1 v1 hm hpl hdn hv1 hres w9
      rw [runF] at hres
      refine x_iload h dX7_run_66 rfl ?_
      refine x_sipush h (nI 3721) (by decide) dX7_run_68 ?_
      refine x_icmp_ge h 169 dX7_run_71 (by decide) (fun c71 => ?_) (fun c71 => ?_)
      · refine x_ic0 h dX7_run_169 ?_
        exact x_iret h hQ rfl dX7_run_170 ⟨rfl, rfl, _, rfl, by rw [← hres]; rfl, by rw [← hres]⟩
      · exact absurd ((nI_le_iff (by decide) (by omega)).mpr (by omega)) c71
    | succ fuel ih =>
      intro m pl dn x1 v1 hm hpl hdn hv1 hres w9
      rw [runF] at hres
      refine x_iload h dX7_run_66 rfl ?_
      refine x_sipush h (nI 3721) (by decide) dX7_run_68 ?_
      refine x_icmp_ge h 169 dX7_run_71 (by decide) (fun c71 => ?_) (fun c71 => ?_)
      · exact absurd ((nI_le_iff (by decide) (by omega)).mp c71) (by omega)
      · refine x_iload_n h dX7_run_74 rfl ?_
        refine x_aload_n h dX7_run_75 rfl ?_
        refine x_getIv h gc f_X7_32 rfl ((ruM_I M _ _ 1 hcw).trans hlen) dX7_run_76 ?_
        refine x_icmp_ge h 169 dX7_run_79 (by decide) (fun c79 => ?_) (fun c79 => ?_)
        · have hn := (nI_le_iff (by omega) (by omega)).mp c79
          rw [if_pos hn] at hres
          refine x_ic0 h dX7_run_169 ?_
          exact x_iret h hQ rfl dX7_run_170 ⟨rfl, rfl, _, rfl, by rw [← hres]; rfl, by rw [← hres]⟩
        · have hn : ¬ Q.1 ≤ pl := mt (nI_le_iff (by omega) (by omega)).mpr c79
          rw [if_neg hn] at hres
          obtain ⟨sv, k10, kv, okc, pr9⟩ := hst pl (by omega)
          refine x_aload_n h dX7_run_82 rfl ?_
          refine x_iload_n h dX7_run_83 rfl ?_
          refine x_cVr h ci_X2_at im_X2_at l_X7_38 ⟨Nat.le_of_ble_eq_true rfl, Nat.le_of_ble_eq_true rfl⟩ ⟨rfl, rfl⟩ ⟨Nat.zero_le _, Nat.zero_le _⟩ (c_X2_at (M := ruM M w x1 v1) hW0 (i := pl) (by omega)) rfl rfl rfl rfl gc (by decide) rfl dX7_run_84 (fun v84 M84 hp84 => ?_)
          obtain ⟨rfl, hM⟩ := hp84
          obtain rfl := hM.symm
          clear hM
          refine x_astore h dX7_run_87 rfl rfl ?_
          dsimp only [List.set]
          refine x_aload h dX7_run_89 rfl ?_
          refine x_cVi h ci_X10_isStatement im_X10_isStatement l_X7_42 ⟨Nat.le_of_ble_eq_true rfl, Nat.le_of_ble_eq_true rfl⟩ ⟨rfl, rfl⟩ ⟨Nat.zero_le _, Nat.zero_le _⟩ (c_X10_isStatement (k := Q.2.1 pl) sv.1 ((ruM_I M _ _ 0 sv.2.1).trans sv.2.2.1) (by omega)) rfl rfl rfl rfl sv.1 (by decide) rfl dX7_run_91 (fun v91 M91 hp91 => ?_)
          obtain ⟨rfl, hM⟩ := hp91
          obtain rfl := hM.symm
          clear hM
          refine x_if_eq h 109 dX7_run_94 (by decide) (fun c94 => ?_) (fun c94 => ?_)
          · have hstm := b2i_0.mp c94
            rw [if_neg (by rw [hstm]; simp)] at hres
            refine x_aload h dX7_run_109 rfl ?_
            refine x_getIv h sv.1 f_X7_48 rfl ((ruM_I M _ _ 0 sv.2.1).trans sv.2.2.1) dX7_run_111 ?_
            refine x_in5 h dX7_run_114 ?_
            refine x_icmp_ne h 129 dX7_run_115 (by decide) (fun c115 => ?_) (fun c115 => ?_)
            · have k5 : ¬ Q.2.1 pl = 5 := fun q => c115 (by rw [q])
              rw [if_neg (fun q => k5 q.1)] at hres
              refine x_aload h dX7_run_129 rfl ?_
              refine x_getIv h sv.1 f_X7_48 rfl ((ruM_I M _ _ 0 sv.2.1).trans sv.2.2.1) dX7_run_131 ?_
              refine x_in4 h dX7_run_134 ?_
              refine x_icmp_ne h 149 dX7_run_135 (by decide) (fun c135 => ?_) (fun c135 => ?_)
              · have k4 : ¬ Q.2.1 pl = 4 := fun q => c135 (by rw [q])
                rw [if_neg (fun q => k4 q.1)] at hres
                refine x_aload_n h dX7_run_149 rfl ?_
                refine x_aload h dX7_run_150 rfl ?_
                refine x_cVv h ci_X7_change im_X7_change l_X7_55 ⟨Nat.le_of_ble_eq_true rfl, Nat.le_of_ble_eq_true rfl⟩ ⟨rfl, rfl⟩ ⟨Nat.zero_le _, Nat.zero_le _⟩ (c_X7_change hR0 sv (fun q => okc (Or.inl q)) k10 kv hv1) rfl rfl rfl rfl gw (by decide) rfl dX7_run_152 (fun M152 hp152 => ?_)
                subst hp152
                refine x_aload_n h dX7_run_155 rfl ?_
                refine x_aload h dX7_run_156 rfl ?_
                refine x_iload_n h dX7_run_158 rfl ?_
                refine x_cVi h ci_X7_next im_X7_next l_X7_59 ⟨Nat.le_of_ble_eq_true rfl, Nat.le_of_ble_eq_true rfl⟩ ⟨rfl, rfl⟩ ⟨Nat.zero_le _, Nat.zero_le _⟩ (c_X7_next hR0 sv (fun q => okc (Or.inr (Or.inr (Or.inr q)))) k10 (chg_lt6 hv1 kv (fun q => okc (Or.inl q))) (pl := pl)) rfl rfl rfl rfl gw (by decide) rfl dX7_run_159 (fun v159 M159 hp159 => ?_)
                obtain ⟨rfl, rfl⟩ := hp159
                refine x_istore_n h dX7_run_162 rfl rfl ?_
                dsimp only [List.set]
                refine x_incn h dX7_run_163 rfl rfl rfl ?_
                dsimp only [List.set]
                refine x_goto h 66 dX7_run_166 (by decide) ?_
                simp only [hstm, if_true, if_false, Bool.false_eq_true] at hres
                refine ih (m + 1) _ _ _ _ (by omega) ?_ ?_ (chg_lt6 hv1 kv (fun q => okc (Or.inl q))) hres _
                · unfold nxtV
                  have hb := pr9
                  split
                  · simp only; split <;> omega
                  · split
                    · simp only; omega
                    · split
                      · simp only; split <;> omega
                      · simp only; omega
                · omega
              · have k4 : Q.2.1 pl = 4 := nI_small 4 (by omega) (by decide) c135
                refine x_aload_n h dX7_run_138 rfl ?_
                refine x_aload h dX7_run_139 rfl ?_
                refine x_cVi h ci_X7_isTrue im_X7_isTrue l_X7_51 ⟨Nat.le_of_ble_eq_true rfl, Nat.le_of_ble_eq_true rfl⟩ ⟨rfl, rfl⟩ ⟨Nat.zero_le _, Nat.zero_le _⟩ (c_X7_isTrue hR0 sv (okc (Or.inr (Or.inl k4))) hv1) rfl rfl rfl rfl gw (by decide) rfl dX7_run_141 (fun v141 M141 hp141 => ?_)
                obtain ⟨rfl, hM⟩ := hp141
                obtain rfl := hM.symm
                clear hM
                refine x_if_ne h 149 dX7_run_144 (by decide) (fun c144 => ?_) (fun c144 => ?_)
                · have hc4 := bool_nf (fun q => c144 (b2i_0.mpr q))
                  rw [if_neg (fun q => by rw [hc4] at q; cases q.2)] at hres
                  refine x_aload_n h dX7_run_149 rfl ?_
                  refine x_aload h dX7_run_150 rfl ?_
                  refine x_cVv h ci_X7_change im_X7_change l_X7_55 ⟨Nat.le_of_ble_eq_true rfl, Nat.le_of_ble_eq_true rfl⟩ ⟨rfl, rfl⟩ ⟨Nat.zero_le _, Nat.zero_le _⟩ (c_X7_change hR0 sv (fun q => okc (Or.inl q)) k10 kv hv1) rfl rfl rfl rfl gw (by decide) rfl dX7_run_152 (fun M152 hp152 => ?_)
                  subst hp152
                  refine x_aload_n h dX7_run_155 rfl ?_
                  refine x_aload h dX7_run_156 rfl ?_
                  refine x_iload_n h dX7_run_158 rfl ?_
                  refine x_cVi h ci_X7_next im_X7_next l_X7_59 ⟨Nat.le_of_ble_eq_true rfl, Nat.le_of_ble_eq_true rfl⟩ ⟨rfl, rfl⟩ ⟨Nat.zero_le _, Nat.zero_le _⟩ (c_X7_next hR0 sv (fun q => okc (Or.inr (Or.inr (Or.inr q)))) k10 (chg_lt6 hv1 kv (fun q => okc (Or.inl q))) (pl := pl)) rfl rfl rfl rfl gw (by decide) rfl dX7_run_159 (fun v159 M159 hp159 => ?_)
                  obtain ⟨rfl, rfl⟩ := hp159
                  refine x_istore_n h dX7_run_162 rfl rfl ?_
                  dsimp only [List.set]
                  refine x_incn h dX7_run_163 rfl rfl rfl ?_
                  dsimp only [List.set]
                  refine x_goto h 66 dX7_run_166 (by decide) ?_
                  simp only [hstm, if_true, if_false, Bool.false_eq_true] at hres
                  refine ih (m + 1) _ _ _ _ (by omega) ?_ ?_ (chg_lt6 hv1 kv (fun q => okc (Or.inl q))) hres _
                  · unfold nxtV
                    have hb := pr9
                    split
                    · simp only; split <;> omega
                    · split
                      · simp only; omega
                      · split
                        · simp only; split <;> omega
                        · simp only; omega
                  · omega
                · have hc4 := b2i_0.mp c144
                  rw [if_pos ⟨k4, hc4⟩] at hres
                  refine x_ic2 h dX7_run_147 ?_
                  exact x_iret h hQ rfl dX7_run_148 ⟨rfl, rfl, _, rfl, by rw [← hres]; rfl, by rw [← hres]⟩
            · have k5 : Q.2.1 pl = 5 := nI_small 5 (by omega) (by decide) c115
              refine x_aload_n h dX7_run_118 rfl ?_
              refine x_aload h dX7_run_119 rfl ?_
              refine x_cVi h ci_X7_isTrue im_X7_isTrue l_X7_51 ⟨Nat.le_of_ble_eq_true rfl, Nat.le_of_ble_eq_true rfl⟩ ⟨rfl, rfl⟩ ⟨Nat.zero_le _, Nat.zero_le _⟩ (c_X7_isTrue hR0 sv (okc (Or.inr (Or.inr (Or.inl k5)))) hv1) rfl rfl rfl rfl gw (by decide) rfl dX7_run_121 (fun v121 M121 hp121 => ?_)
              obtain ⟨rfl, hM⟩ := hp121
              obtain rfl := hM.symm
              clear hM
              refine x_if_ne h 129 dX7_run_124 (by decide) (fun c124 => ?_) (fun c124 => ?_)
              · have hc5 := bool_nf (fun q => c124 (b2i_0.mpr q))
                rw [if_neg (fun q => by rw [hc5] at q; cases q.2)] at hres
                refine x_aload h dX7_run_129 rfl ?_
                refine x_getIv h sv.1 f_X7_48 rfl ((ruM_I M _ _ 0 sv.2.1).trans sv.2.2.1) dX7_run_131 ?_
                refine x_in4 h dX7_run_134 ?_
                refine x_icmp_ne h 149 dX7_run_135 (by decide) (fun c135 => ?_) (fun c135 => ?_)
                · have k4 : ¬ Q.2.1 pl = 4 := fun q => c135 (by rw [q])
                  rw [if_neg (fun q => k4 q.1)] at hres
                  refine x_aload_n h dX7_run_149 rfl ?_
                  refine x_aload h dX7_run_150 rfl ?_
                  refine x_cVv h ci_X7_change im_X7_change l_X7_55 ⟨Nat.le_of_ble_eq_true rfl, Nat.le_of_ble_eq_true rfl⟩ ⟨rfl, rfl⟩ ⟨Nat.zero_le _, Nat.zero_le _⟩ (c_X7_change hR0 sv (fun q => okc (Or.inl q)) k10 kv hv1) rfl rfl rfl rfl gw (by decide) rfl dX7_run_152 (fun M152 hp152 => ?_)
                  subst hp152
                  refine x_aload_n h dX7_run_155 rfl ?_
                  refine x_aload h dX7_run_156 rfl ?_
                  refine x_iload_n h dX7_run_158 rfl ?_
                  refine x_cVi h ci_X7_next im_X7_next l_X7_59 ⟨Nat.le_of_ble_eq_true rfl, Nat.le_of_ble_eq_true rfl⟩ ⟨rfl, rfl⟩ ⟨Nat.zero_le _, Nat.zero_le _⟩ (c_X7_next hR0 sv (fun q => okc (Or.inr (Or.inr (Or.inr q)))) k10 (chg_lt6 hv1 kv (fun q => okc (Or.inl q))) (pl := pl)) rfl rfl rfl rfl gw (by decide) rfl dX7_run_159 (fun v159 M159 hp159 => ?_)
                  obtain ⟨rfl, rfl⟩ := hp159
                  refine x_istore_n h dX7_run_162 rfl rfl ?_
                  dsimp only [List.set]
                  refine x_incn h dX7_run_163 rfl rfl rfl ?_
                  dsimp only [List.set]
                  refine x_goto h 66 dX7_run_166 (by decide) ?_
                  simp only [hstm, if_true, if_false, Bool.false_eq_true] at hres
                  refine ih (m + 1) _ _ _ _ (by omega) ?_ ?_ (chg_lt6 hv1 kv (fun q => okc (Or.inl q))) hres _
                  · unfold nxtV
                    have hb := pr9
                    split
                    · simp only; split <;> omega
                    · split
                      · simp only; omega
                      · split
                        · simp only; split <;> omega
                        · simp only; omega
                  · omega
                · have k4 : Q.2.1 pl = 4 := nI_small 4 (by omega) (by decide) c135
                  refine x_aload_n h dX7_run_138 rfl ?_
                  refine x_aload h dX7_run_139 rfl ?_
                  refine x_cVi h ci_X7_isTrue im_X7_isTrue l_X7_51 ⟨Nat.le_of_ble_eq_true rfl, Nat.le_of_ble_eq_true rfl⟩ ⟨rfl, rfl⟩ ⟨Nat.zero_le _, Nat.zero_le _⟩ (c_X7_isTrue hR0 sv (okc (Or.inr (Or.inl k4))) hv1) rfl rfl rfl rfl gw (by decide) rfl dX7_run_141 (fun v141 M141 hp141 => ?_)
                  obtain ⟨rfl, hM⟩ := hp141
                  obtain rfl := hM.symm
                  clear hM
                  refine x_if_ne h 149 dX7_run_144 (by decide) (fun c144 => ?_) (fun c144 => ?_)
                  · have hc4 := bool_nf (fun q => c144 (b2i_0.mpr q))
                    rw [if_neg (fun q => by rw [hc4] at q; cases q.2)] at hres
                    refine x_aload_n h dX7_run_149 rfl ?_
                    refine x_aload h dX7_run_150 rfl ?_
                    refine x_cVv h ci_X7_change im_X7_change l_X7_55 ⟨Nat.le_of_ble_eq_true rfl, Nat.le_of_ble_eq_true rfl⟩ ⟨rfl, rfl⟩ ⟨Nat.zero_le _, Nat.zero_le _⟩ (c_X7_change hR0 sv (fun q => okc (Or.inl q)) k10 kv hv1) rfl rfl rfl rfl gw (by decide) rfl dX7_run_152 (fun M152 hp152 => ?_)
                    subst hp152
                    refine x_aload_n h dX7_run_155 rfl ?_
                    refine x_aload h dX7_run_156 rfl ?_
                    refine x_iload_n h dX7_run_158 rfl ?_
                    refine x_cVi h ci_X7_next im_X7_next l_X7_59 ⟨Nat.le_of_ble_eq_true rfl, Nat.le_of_ble_eq_true rfl⟩ ⟨rfl, rfl⟩ ⟨Nat.zero_le _, Nat.zero_le _⟩ (c_X7_next hR0 sv (fun q => okc (Or.inr (Or.inr (Or.inr q)))) k10 (chg_lt6 hv1 kv (fun q => okc (Or.inl q))) (pl := pl)) rfl rfl rfl rfl gw (by decide) rfl dX7_run_159 (fun v159 M159 hp159 => ?_)
                    obtain ⟨rfl, rfl⟩ := hp159
                    refine x_istore_n h dX7_run_162 rfl rfl ?_
                    dsimp only [List.set]
                    refine x_incn h dX7_run_163 rfl rfl rfl ?_
                    dsimp only [List.set]
                    refine x_goto h 66 dX7_run_166 (by decide) ?_
                    simp only [hstm, if_true, if_false, Bool.false_eq_true] at hres
                    refine ih (m + 1) _ _ _ _ (by omega) ?_ ?_ (chg_lt6 hv1 kv (fun q => okc (Or.inl q))) hres _
                    · unfold nxtV
                      have hb := pr9
                      split
                      · simp only; split <;> omega
                      · split
                        · simp only; omega
                        · split
                          · simp only; split <;> omega
                          · simp only; omega
                    · omega
                  · have hc4 := b2i_0.mp c144
                    rw [if_pos ⟨k4, hc4⟩] at hres
                    refine x_ic2 h dX7_run_147 ?_
                    exact x_iret h hQ rfl dX7_run_148 ⟨rfl, rfl, _, rfl, by rw [← hres]; rfl, by rw [← hres]⟩
              · have hc5 := b2i_0.mp c124
                rw [if_pos ⟨k5, hc5⟩] at hres
                refine x_ic1 h dX7_run_127 ?_
                exact x_iret h hQ rfl dX7_run_128 ⟨rfl, rfl, _, rfl, by rw [← hres]; rfl, by rw [← hres]⟩
          · have hstm := bool_nf (fun q => c94 (b2i_0.mpr q))
            refine x_iload h dX7_run_97 rfl ?_
            refine x_bipush h (nI 60) (by decide) dX7_run_99 ?_
            refine x_icmp_lt h 106 dX7_run_101 (by decide) (fun c101 => ?_) (fun c101 => ?_)
            · have h60 := (nI_lt_iff (by omega) (by decide)).mp c101
              rw [if_neg (by omega)] at hres
              refine x_incn h dX7_run_106 rfl rfl rfl ?_
              dsimp only [List.set]
              refine x_aload h dX7_run_109 rfl ?_
              refine x_getIv h sv.1 f_X7_48 rfl ((ruM_I M _ _ 0 sv.2.1).trans sv.2.2.1) dX7_run_111 ?_
              refine x_in5 h dX7_run_114 ?_
              refine x_icmp_ne h 129 dX7_run_115 (by decide) (fun c115 => ?_) (fun c115 => ?_)
              · have k5 : ¬ Q.2.1 pl = 5 := fun q => c115 (by rw [q])
                rw [if_neg (fun q => k5 q.1)] at hres
                refine x_aload h dX7_run_129 rfl ?_
                refine x_getIv h sv.1 f_X7_48 rfl ((ruM_I M _ _ 0 sv.2.1).trans sv.2.2.1) dX7_run_131 ?_
                refine x_in4 h dX7_run_134 ?_
                refine x_icmp_ne h 149 dX7_run_135 (by decide) (fun c135 => ?_) (fun c135 => ?_)
                · have k4 : ¬ Q.2.1 pl = 4 := fun q => c135 (by rw [q])
                  rw [if_neg (fun q => k4 q.1)] at hres
                  refine x_aload_n h dX7_run_149 rfl ?_
                  refine x_aload h dX7_run_150 rfl ?_
                  refine x_cVv h ci_X7_change im_X7_change l_X7_55 ⟨Nat.le_of_ble_eq_true rfl, Nat.le_of_ble_eq_true rfl⟩ ⟨rfl, rfl⟩ ⟨Nat.zero_le _, Nat.zero_le _⟩ (c_X7_change hR0 sv (fun q => okc (Or.inl q)) k10 kv hv1) rfl rfl rfl rfl gw (by decide) rfl dX7_run_152 (fun M152 hp152 => ?_)
                  subst hp152
                  refine x_aload_n h dX7_run_155 rfl ?_
                  refine x_aload h dX7_run_156 rfl ?_
                  refine x_iload_n h dX7_run_158 rfl ?_
                  refine x_cVi h ci_X7_next im_X7_next l_X7_59 ⟨Nat.le_of_ble_eq_true rfl, Nat.le_of_ble_eq_true rfl⟩ ⟨rfl, rfl⟩ ⟨Nat.zero_le _, Nat.zero_le _⟩ (c_X7_next hR0 sv (fun q => okc (Or.inr (Or.inr (Or.inr q)))) k10 (chg_lt6 hv1 kv (fun q => okc (Or.inl q))) (pl := pl)) rfl rfl rfl rfl gw (by decide) rfl dX7_run_159 (fun v159 M159 hp159 => ?_)
                  obtain ⟨rfl, rfl⟩ := hp159
                  refine x_istore_n h dX7_run_162 rfl rfl ?_
                  dsimp only [List.set]
                  refine x_incn h dX7_run_163 rfl rfl rfl ?_
                  dsimp only [List.set]
                  refine x_goto h 66 dX7_run_166 (by decide) ?_
                  simp only [hstm, if_true, if_false, Bool.false_eq_true] at hres
                  refine ih (m + 1) _ _ _ _ (by omega) ?_ ?_ (chg_lt6 hv1 kv (fun q => okc (Or.inl q))) hres _
                  · unfold nxtV
                    have hb := pr9
                    split
                    · simp only; split <;> omega
                    · split
                      · simp only; omega
                      · split
                        · simp only; split <;> omega
                        · simp only; omega
                  · omega
                · have k4 : Q.2.1 pl = 4 := nI_small 4 (by omega) (by decide) c135
                  refine x_aload_n h dX7_run_138 rfl ?_
                  refine x_aload h dX7_run_139 rfl ?_
                  refine x_cVi h ci_X7_isTrue im_X7_isTrue l_X7_51 ⟨Nat.le_of_ble_eq_true rfl, Nat.le_of_ble_eq_true rfl⟩ ⟨rfl, rfl⟩ ⟨Nat.zero_le _, Nat.zero_le _⟩ (c_X7_isTrue hR0 sv (okc (Or.inr (Or.inl k4))) hv1) rfl rfl rfl rfl gw (by decide) rfl dX7_run_141 (fun v141 M141 hp141 => ?_)
                  obtain ⟨rfl, hM⟩ := hp141
                  obtain rfl := hM.symm
                  clear hM
                  refine x_if_ne h 149 dX7_run_144 (by decide) (fun c144 => ?_) (fun c144 => ?_)
                  · have hc4 := bool_nf (fun q => c144 (b2i_0.mpr q))
                    rw [if_neg (fun q => by rw [hc4] at q; cases q.2)] at hres
                    refine x_aload_n h dX7_run_149 rfl ?_
                    refine x_aload h dX7_run_150 rfl ?_
                    refine x_cVv h ci_X7_change im_X7_change l_X7_55 ⟨Nat.le_of_ble_eq_true rfl, Nat.le_of_ble_eq_true rfl⟩ ⟨rfl, rfl⟩ ⟨Nat.zero_le _, Nat.zero_le _⟩ (c_X7_change hR0 sv (fun q => okc (Or.inl q)) k10 kv hv1) rfl rfl rfl rfl gw (by decide) rfl dX7_run_152 (fun M152 hp152 => ?_)
                    subst hp152
                    refine x_aload_n h dX7_run_155 rfl ?_
                    refine x_aload h dX7_run_156 rfl ?_
                    refine x_iload_n h dX7_run_158 rfl ?_
                    refine x_cVi h ci_X7_next im_X7_next l_X7_59 ⟨Nat.le_of_ble_eq_true rfl, Nat.le_of_ble_eq_true rfl⟩ ⟨rfl, rfl⟩ ⟨Nat.zero_le _, Nat.zero_le _⟩ (c_X7_next hR0 sv (fun q => okc (Or.inr (Or.inr (Or.inr q)))) k10 (chg_lt6 hv1 kv (fun q => okc (Or.inl q))) (pl := pl)) rfl rfl rfl rfl gw (by decide) rfl dX7_run_159 (fun v159 M159 hp159 => ?_)
                    obtain ⟨rfl, rfl⟩ := hp159
                    refine x_istore_n h dX7_run_162 rfl rfl ?_
                    dsimp only [List.set]
                    refine x_incn h dX7_run_163 rfl rfl rfl ?_
                    dsimp only [List.set]
                    refine x_goto h 66 dX7_run_166 (by decide) ?_
                    simp only [hstm, if_true, if_false, Bool.false_eq_true] at hres
                    refine ih (m + 1) _ _ _ _ (by omega) ?_ ?_ (chg_lt6 hv1 kv (fun q => okc (Or.inl q))) hres _
                    · unfold nxtV
                      have hb := pr9
                      split
                      · simp only; split <;> omega
                      · split
                        · simp only; omega
                        · split
                          · simp only; split <;> omega
                          · simp only; omega
                    · omega
                  · have hc4 := b2i_0.mp c144
                    rw [if_pos ⟨k4, hc4⟩] at hres
                    refine x_ic2 h dX7_run_147 ?_
                    exact x_iret h hQ rfl dX7_run_148 ⟨rfl, rfl, _, rfl, by rw [← hres]; rfl, by rw [← hres]⟩
              · have k5 : Q.2.1 pl = 5 := nI_small 5 (by omega) (by decide) c115
                refine x_aload_n h dX7_run_118 rfl ?_
                refine x_aload h dX7_run_119 rfl ?_
                refine x_cVi h ci_X7_isTrue im_X7_isTrue l_X7_51 ⟨Nat.le_of_ble_eq_true rfl, Nat.le_of_ble_eq_true rfl⟩ ⟨rfl, rfl⟩ ⟨Nat.zero_le _, Nat.zero_le _⟩ (c_X7_isTrue hR0 sv (okc (Or.inr (Or.inr (Or.inl k5)))) hv1) rfl rfl rfl rfl gw (by decide) rfl dX7_run_121 (fun v121 M121 hp121 => ?_)
                obtain ⟨rfl, hM⟩ := hp121
                obtain rfl := hM.symm
                clear hM
                refine x_if_ne h 129 dX7_run_124 (by decide) (fun c124 => ?_) (fun c124 => ?_)
                · have hc5 := bool_nf (fun q => c124 (b2i_0.mpr q))
                  rw [if_neg (fun q => by rw [hc5] at q; cases q.2)] at hres
                  refine x_aload h dX7_run_129 rfl ?_
                  refine x_getIv h sv.1 f_X7_48 rfl ((ruM_I M _ _ 0 sv.2.1).trans sv.2.2.1) dX7_run_131 ?_
                  refine x_in4 h dX7_run_134 ?_
                  refine x_icmp_ne h 149 dX7_run_135 (by decide) (fun c135 => ?_) (fun c135 => ?_)
                  · have k4 : ¬ Q.2.1 pl = 4 := fun q => c135 (by rw [q])
                    rw [if_neg (fun q => k4 q.1)] at hres
                    refine x_aload_n h dX7_run_149 rfl ?_
                    refine x_aload h dX7_run_150 rfl ?_
                    refine x_cVv h ci_X7_change im_X7_change l_X7_55 ⟨Nat.le_of_ble_eq_true rfl, Nat.le_of_ble_eq_true rfl⟩ ⟨rfl, rfl⟩ ⟨Nat.zero_le _, Nat.zero_le _⟩ (c_X7_change hR0 sv (fun q => okc (Or.inl q)) k10 kv hv1) rfl rfl rfl rfl gw (by decide) rfl dX7_run_152 (fun M152 hp152 => ?_)
                    subst hp152
                    refine x_aload_n h dX7_run_155 rfl ?_
                    refine x_aload h dX7_run_156 rfl ?_
                    refine x_iload_n h dX7_run_158 rfl ?_
                    refine x_cVi h ci_X7_next im_X7_next l_X7_59 ⟨Nat.le_of_ble_eq_true rfl, Nat.le_of_ble_eq_true rfl⟩ ⟨rfl, rfl⟩ ⟨Nat.zero_le _, Nat.zero_le _⟩ (c_X7_next hR0 sv (fun q => okc (Or.inr (Or.inr (Or.inr q)))) k10 (chg_lt6 hv1 kv (fun q => okc (Or.inl q))) (pl := pl)) rfl rfl rfl rfl gw (by decide) rfl dX7_run_159 (fun v159 M159 hp159 => ?_)
                    obtain ⟨rfl, rfl⟩ := hp159
                    refine x_istore_n h dX7_run_162 rfl rfl ?_
                    dsimp only [List.set]
                    refine x_incn h dX7_run_163 rfl rfl rfl ?_
                    dsimp only [List.set]
                    refine x_goto h 66 dX7_run_166 (by decide) ?_
                    simp only [hstm, if_true, if_false, Bool.false_eq_true] at hres
                    refine ih (m + 1) _ _ _ _ (by omega) ?_ ?_ (chg_lt6 hv1 kv (fun q => okc (Or.inl q))) hres _
                    · unfold nxtV
                      have hb := pr9
                      split
                      · simp only; split <;> omega
                      · split
                        · simp only; omega
                        · split
                          · simp only; split <;> omega
                          · simp only; omega
                    · omega
                  · have k4 : Q.2.1 pl = 4 := nI_small 4 (by omega) (by decide) c135
                    refine x_aload_n h dX7_run_138 rfl ?_
                    refine x_aload h dX7_run_139 rfl ?_
                    refine x_cVi h ci_X7_isTrue im_X7_isTrue l_X7_51 ⟨Nat.le_of_ble_eq_true rfl, Nat.le_of_ble_eq_true rfl⟩ ⟨rfl, rfl⟩ ⟨Nat.zero_le _, Nat.zero_le _⟩ (c_X7_isTrue hR0 sv (okc (Or.inr (Or.inl k4))) hv1) rfl rfl rfl rfl gw (by decide) rfl dX7_run_141 (fun v141 M141 hp141 => ?_)
                    obtain ⟨rfl, hM⟩ := hp141
                    obtain rfl := hM.symm
                    clear hM
                    refine x_if_ne h 149 dX7_run_144 (by decide) (fun c144 => ?_) (fun c144 => ?_)
                    · have hc4 := bool_nf (fun q => c144 (b2i_0.mpr q))
                      rw [if_neg (fun q => by rw [hc4] at q; cases q.2)] at hres
                      refine x_aload_n h dX7_run_149 rfl ?_
                      refine x_aload h dX7_run_150 rfl ?_
                      refine x_cVv h ci_X7_change im_X7_change l_X7_55 ⟨Nat.le_of_ble_eq_true rfl, Nat.le_of_ble_eq_true rfl⟩ ⟨rfl, rfl⟩ ⟨Nat.zero_le _, Nat.zero_le _⟩ (c_X7_change hR0 sv (fun q => okc (Or.inl q)) k10 kv hv1) rfl rfl rfl rfl gw (by decide) rfl dX7_run_152 (fun M152 hp152 => ?_)
                      subst hp152
                      refine x_aload_n h dX7_run_155 rfl ?_
                      refine x_aload h dX7_run_156 rfl ?_
                      refine x_iload_n h dX7_run_158 rfl ?_
                      refine x_cVi h ci_X7_next im_X7_next l_X7_59 ⟨Nat.le_of_ble_eq_true rfl, Nat.le_of_ble_eq_true rfl⟩ ⟨rfl, rfl⟩ ⟨Nat.zero_le _, Nat.zero_le _⟩ (c_X7_next hR0 sv (fun q => okc (Or.inr (Or.inr (Or.inr q)))) k10 (chg_lt6 hv1 kv (fun q => okc (Or.inl q))) (pl := pl)) rfl rfl rfl rfl gw (by decide) rfl dX7_run_159 (fun v159 M159 hp159 => ?_)
                      obtain ⟨rfl, rfl⟩ := hp159
                      refine x_istore_n h dX7_run_162 rfl rfl ?_
                      dsimp only [List.set]
                      refine x_incn h dX7_run_163 rfl rfl rfl ?_
                      dsimp only [List.set]
                      refine x_goto h 66 dX7_run_166 (by decide) ?_
                      simp only [hstm, if_true, if_false, Bool.false_eq_true] at hres
                      refine ih (m + 1) _ _ _ _ (by omega) ?_ ?_ (chg_lt6 hv1 kv (fun q => okc (Or.inl q))) hres _
                      · unfold nxtV
                        have hb := pr9
                        split
                        · simp only; split <;> omega
                        · split
                          · simp only; omega
                          · split
                            · simp only; split <;> omega
                            · simp only; omega
                      · omega
                    · have hc4 := b2i_0.mp c144
                      rw [if_pos ⟨k4, hc4⟩] at hres
                      refine x_ic2 h dX7_run_147 ?_
                      exact x_iret h hQ rfl dX7_run_148 ⟨rfl, rfl, _, rfl, by rw [← hres]; rfl, by rw [← hres]⟩
                · have hc5 := b2i_0.mp c124
                  rw [if_pos ⟨k5, hc5⟩] at hres
                  refine x_ic1 h dX7_run_127 ?_
                  exact x_iret h hQ rfl dX7_run_128 ⟨rfl, rfl, _, rfl, by rw [← hres]; rfl, by rw [← hres]⟩
            · have h60 := mt (nI_lt_iff (by omega) (by decide)).mpr c101
              rw [if_pos ⟨hstm, by omega⟩] at hres
              refine x_ic3 h dX7_run_104 ?_
              exact x_iret h hQ rfl dX7_run_105 ⟨rfl, rfl, _, rfl, by rw [← hres]; rfl, by rw [← hres]⟩
  have ini : ∀ i, i ≤ 3 → X Γ E 0 0 G z (ruM M w (iniV t x vs i).1 (iniV t x vs i).2) 2 [some (.ref w), some (.ref c), some (.ref u), some (.int (nI i)), none, none, none] [] := by
    refine upto 3 (fun i hi ih => ?_)
    refine x_iload_n h dX7_run_2 rfl ?_
    refine x_aload_n h dX7_run_3 rfl ?_
    refine x_getR h gw f_X7_11 rfl rv dX7_run_4 ?_
    refine x_alen h gv (by decide) dX7_run_7 ?_
    refine x_icmp_ge h 58 dX7_run_8 (by decide) (fun c8 => ?_) (fun c8 => ?_)
    · obtain rfl : i = 3 := up_ge (by decide) hi c8
      refine x_in0 h dX7_run_58 ?_
      refine x_istore_n h dX7_run_59 rfl rfl ?_
      dsimp only [List.set]
      refine x_in0 h dX7_run_60 ?_
      refine x_istore h dX7_run_61 rfl rfl ?_
      dsimp only [List.set]
      refine x_in0 h dX7_run_63 ?_
      refine x_istore h dX7_run_64 rfl rfl ?_
      dsimp only [List.set]
      exact main 3721 0 0 0 _ _ rfl (by decide) (by decide) hini rfl none
    · have hlt : i < 3 := up_lt (by decide) hi c8
      refine x_iload_n h dX7_run_11 rfl ?_
      refine x_aload_n h dX7_run_12 rfl ?_
      refine x_getR h gu f_X7_23 rfl ru dX7_run_13 ?_
      refine x_alen h gu1 (by decide) dX7_run_16 ?_
      refine x_icmp_ge h 58 dX7_run_17 (by decide) (fun c17 => ?_) (fun c17 => ?_)
      · exact absurd ((nI_le_iff (by decide) (by omega)).mp c17) (by omega)
      · refine x_aload_n h dX7_run_20 rfl ?_
        refine x_getR h gw f_X7_11 rfl rv dX7_run_21 ?_
        refine x_iload_n h dX7_run_24 rfl ?_
        refine x_aload_n h dX7_run_25 rfl ?_
        refine x_getR h gu f_X7_23 rfl ru dX7_run_26 ?_
        refine x_iload_n h dX7_run_29 rfl ?_
        refine x_ialdv h i gu1 (ix.ni hlt (by decide)) ((ruM_I M _ _ i (by omega)).trans (hts i hlt).1) dX7_run_30 ?_
        refine x_bipush h (nI 6) (by decide) dX7_run_31 ?_
        refine x_icmp_ne h 45 dX7_run_33 (by decide) (fun c33 => ?_) (fun c33 => ?_)
        · have e6 : ¬ t i = 6 := fun q => c33 (by rw [q])
          refine x_aload_n h dX7_run_45 rfl ?_
          refine x_getR h gu f_X7_23 rfl ru dX7_run_46 ?_
          refine x_iload_n h dX7_run_49 rfl ?_
          refine x_ialdv h i gu1 (ix.ni hlt (by decide)) ((ruM_I M _ _ i (by omega)).trans (hts i hlt).1) dX7_run_50 ?_
          refine x_iast h i gv (ix.ni hlt (by decide)) dX7_run_51 ?_
          refine x_mem (ruM_set M w _ _ _ hlt) ?_
          refine x_incn h dX7_run_52 rfl rfl rfl ?_
          dsimp only [List.set]
          refine x_goto h 2 dX7_run_55 (by decide) ?_
          have ihh := ih hlt
          rw [iniV, if_neg e6] at ihh
          exact ihh
        · have e6 : t i = 6 := nI_small 6 (by have := (hts i hlt).2; omega) (by decide) c33
          refine x_aload_n h dX7_run_36 rfl ?_
          refine x_bipush h (nI 6) (by decide) dX7_run_37 ?_
          refine x_cVi h ci_X7_draw im_X7_draw l_X7_28 ⟨Nat.le_of_ble_eq_true rfl, Nat.le_of_ble_eq_true rfl⟩ ⟨rfl, rfl⟩ ⟨Nat.zero_le _, Nat.zero_le _⟩ (c_X7_draw hR0 (k := 6) (by decide) (by decide)) rfl rfl rfl rfl gw (by decide) rfl dX7_run_39 (fun v39 M39 hp39 => ?_)
          obtain ⟨rfl, rfl⟩ := hp39
          refine x_goto h 51 dX7_run_42 (by decide) ?_
          refine x_iast h i gv (ix.ni hlt (by decide)) dX7_run_51 ?_
          refine x_mem (ruM_set M w _ _ _ hlt) ?_
          refine x_incn h dX7_run_52 rfl rfl rfl ?_
          dsimp only [List.set]
          refine x_goto h 2 dX7_run_55 (by decide) ?_
          have ihh := ih hlt
          rw [iniV, if_pos e6] at ihh
          exact ihh
  refine x_in0 h dX7_run_0 ?_
  refine x_istore_n h dX7_run_1 rfl rfl ?_
  dsimp only [List.set]
  exact ini 0 (by decide)
