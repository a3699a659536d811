/-! ===== Runner: runs with random choices ===== -/
def ruW (G : GG) (R : Nat → Nat → Value) (w : Nat) : Prop := G w = some (.inl 7) ∧ R w 1 = .ref (w + 1) ∧ G (w + 1) = some (.inr (.int, 3))
/-- the memory with a seed and three values in the Runner -/
def ruM (M : MM) (w : Nat) (x : Int64) (vs : Nat → Nat) : MM := wI (sL M w 0 x) (w + 1) 3 (fun j => nI (vs j))
def lcg (x : Int64) : Int64 := x * 6364136223846793005 + 1442695040888963407
def drN (x : Int64) (k : Nat) : Nat := uN (lcg x) / 2 ^ 33 % k
theorem lN_uN (x : Int64) : lN (uN x) = x := uN_inj (by
  show (Int64.ofNat (uN x)).toUInt64.toNat = uN x
  have h : (Int64.ofNat (uN x)).toUInt64 = UInt64.ofNat (uN x) := rfl
  rw [h, u_tn (uN_lt x)])
theorem dr_ok (x : Int64) {k : Nat} (h0 : 0 < k) (hk : k < 2 ^ 31) : (((lcg x).toUInt64 >>> ((nI 33).toInt64.toUInt64 &&& Int64.toUInt64 63)).toInt64 - ((lcg x).toUInt64 >>> ((nI 33).toInt64.toUInt64 &&& Int64.toUInt64 63)).toInt64 / (nI k).toInt64 * (nI k).toInt64).toInt32 = nI (drN x k) := by
  have e : ((lcg x).toUInt64 >>> ((nI 33).toInt64.toUInt64 &&& Int64.toUInt64 63)).toInt64 = lN (uN (lcg x) / 2 ^ 33) := by
    have h1 := wb_shr (n := uN (lcg x)) (k := 33) (uN_lt (lcg x)) (by decide)
    rw [lN_uN] at h1
    exact h1
  have hl : uN (lcg x) / 2 ^ 33 < 2 ^ 63 := Nat.lt_of_le_of_lt (Nat.div_le_div_right (Nat.le_of_lt (uN_lt (lcg x)))) (by decide)
  rw [e, nI_l hk, pk_lRem hl h0 (Nat.lt_trans hk (by decide)), lN_i]
  rfl
theorem sL_wI (M : MM) (w : Nat) (x y : Int64) (p n : Nat) (f : Nat → Int32) : sL (wI (sL M w 0 x) p n f) w 0 y = wI (sL M w 0 y) p n f := by
  show (_, _, M.2.2) = (_, _, M.2.2)
  congr 2
  funext b j
  by_cases h : b = w ∧ j = 0
  · obtain ⟨rfl, rfl⟩ := h
    simp [up2, wI, sL]
  · simp only [up2, wI, sL, if_neg h]
theorem lm_X7_79 : KW (.methodLink RX7 79 q_J9_min.1) := KW.by 906 (by decide +kernel) rfl
theorem lm_X7_85 : KW (.methodLink RX7 85 q_J9_max.1) := KW.by 907 (by decide +kernel) rfl
theorem c_X7_draw {Γ : GT} {G : GG} {M : MM} {w : Nat} {x : Int64} {vs : Nat → Nat} (hR : ruW G M.2.2 w) {k : Nat} (h0 : 0 < k) (hk : k < 2 ^ 31) : Calls Γ q_X7_draw [.ref w, .int (nI k)] G (ruM M w x vs) (rI (fun y M' => y = nI (drN x k) ∧ M' = ruM M w (lcg x) vs)) := by
  have hR0 := hR
  obtain ⟨gw, rv, gv⟩ := hR
  refine Calls.intro (by decide +kernel) (Nat.le_of_ble_eq_true rfl) (fun z E h hQ => ?_)
  refine x_loc (L' := [some (.ref w), some (.int (nI k))]) rfl ?_
  refine x_aload_n h dX7_draw_0 rfl ?_
  refine x_aload_n h dX7_draw_1 rfl ?_
  refine x_get h gw f_X7_15 (v := .long x) (by show Value.long ((ruM M w x vs).2.1 w 0) = _; simp [ruM, wI, sL, up2]) dX7_draw_2 ?_
  refine x_ldc2 h kl_X7_19 dX7_draw_5 ?_
  refine x_lmul h dX7_draw_8 ?_
  refine x_ldc2 h kl_X7_21 dX7_draw_9 ?_
  refine x_ladd h dX7_draw_12 ?_
  refine x_putL h gw f_X7_15 rfl rfl dX7_draw_13 ?_
  refine x_iload_n h dX7_draw_16 rfl ?_
  refine x_in1 h dX7_draw_17 ?_
  refine x_icmp_ge h 25 dX7_draw_18 (by decide) (fun c18 => ?_) (fun c18 => ?_)
  · refine x_aload_n h dX7_draw_25 rfl ?_
    refine x_mem (M' := ruM M w (lcg x) vs) (sL_wI M w x (lcg x) (w + 1) 3 _) ?_
    refine x_get h gw f_X7_15 (v := .long (lcg x)) (by show Value.long ((ruM M w (lcg x) vs).2.1 w 0) = _; simp [ruM, wI, sL, up2]) dX7_draw_26 ?_
    refine x_bipush h (nI 33) (by decide) dX7_draw_29 ?_
    refine x_lushr h dX7_draw_31 ?_
    refine x_iload_n h dX7_draw_32 rfl ?_
    refine x_i2l h dX7_draw_33 ?_
    refine x_lrem h (fun q => absurd (show (nI k).toInt64 = 0 from q) (by rw [nI_l hk]; intro q; have := (fb_lN_inj (Nat.lt_trans hk (by decide)) (by decide)).mp (show lN k = lN 0 from q); omega)) dX7_draw_34 ?_
    refine x_l2i h dX7_draw_35 ?_
    refine x_topi (dr_ok x h0 hk) ?_
    exact x_iret h hQ rfl dX7_draw_36 ⟨rfl, rfl, _, rfl, rfl, rfl⟩
  · exact absurd ((nI_le_iff (by decide) hk).mpr h0) c18
/-- a step as a run sees it: kind, variable, partner, condition -/
def stepR (G : GG) (M : MM) (w a k v p : Nat) (kc : CND) : Prop := G a = some (.inl 10) ∧ a ≠ w + 1 ∧ M.1 a 0 = nI k ∧ M.1 a 1 = nI v ∧ M.1 a 3 = nI p ∧ ∃ q, M.2.2 a 4 = .ref q ∧ q ≠ w + 1 ∧ G q = some (.inl 3) ∧ cnIs M q kc
theorem ruM_I (M : MM) {w b : Nat} (x : Int64) (vs : Nat → Nat) (j : Nat) (h : b ≠ w + 1) : (ruM M w x vs).1 b j = M.1 b j := wI_ne _ _ _ _ h
theorem ruM_v (M : MM) (w : Nat) (x : Int64) (vs : Nat → Nat) {j : Nat} (h : j < 3) : (ruM M w x vs).1 (w + 1) j = nI (vs j) := (wI_at _ _ _ _ _).trans (if_pos h)
theorem cnIs_ru {M : MM} {w q : Nat} {kc : CND} (x : Int64) (vs : Nat → Nat) (h : cnIs M q kc) (hq : q ≠ w + 1) : cnIs (ruM M w x vs) q kc := ⟨(ruM_I M x vs 0 hq).trans h.1, (ruM_I M x vs 1 hq).trans h.2.1, (ruM_I M x vs 2 hq).trans h.2.2⟩
theorem c_X7_isTrue {Γ : GT} {G : GG} {M : MM} {w : Nat} {x : Int64} {vs : Nat → Nat} (hR : ruW G M.2.2 w) {a k v p : Nat} {kc : CND} (hs : stepR G M w a k v p kc) (ok : cndOk kc) (h6 : vs 0 < 6 ∧ vs 1 < 6 ∧ vs 2 < 6) : Calls Γ q_X7_isTrue [.ref w, .ref a] G (ruM M w x vs) (rI (fun y M' => y = b2i (cndV kc (vs 0) (vs 1) (vs 2)) ∧ M' = ruM M w x vs)) := by
  have hR0 := hR
  obtain ⟨gw, rv, gv⟩ := hR
  obtain ⟨ga, ha, ka, va, pa, q, rq, hq, gq, cq⟩ := hs
  refine Calls.intro (by decide +kernel) (Nat.le_of_ble_eq_true rfl) (fun z E h hQ => ?_)
  refine x_loc (L' := [some (.ref w), some (.ref a)]) rfl ?_
  refine x_aload_n h dX7_isTrue_0 rfl ?_
  refine x_getR h ga f_X7_63 rfl rq dX7_isTrue_1 ?_
  refine x_aload_n h dX7_isTrue_4 rfl ?_
  refine x_getR h gw f_X7_11 rfl rv dX7_isTrue_5 ?_
  refine x_in0 h dX7_isTrue_8 ?_
  refine x_ialdv h 0 gv (ix.ni (j := 0) (by decide) (by decide)) (ruM_v M w x vs (by decide)) dX7_isTrue_9 ?_
  refine x_aload_n h dX7_isTrue_10 rfl ?_
  refine x_getR h gw f_X7_11 rfl rv dX7_isTrue_11 ?_
  refine x_in1 h dX7_isTrue_14 ?_
  refine x_ialdv h 1 gv (ix.ni (j := 1) (by decide) (by decide)) (ruM_v M w x vs (by decide)) dX7_isTrue_15 ?_
  refine x_aload_n h dX7_isTrue_16 rfl ?_
  refine x_getR h gw f_X7_11 rfl rv dX7_isTrue_17 ?_
  refine x_in2 h dX7_isTrue_20 ?_
  refine x_ialdv h 2 gv (ix.ni (j := 2) (by decide) (by decide)) (ruM_v M w x vs (by decide)) dX7_isTrue_21 ?_
  refine x_cVi h ci_X3_isTrue im_X3_isTrue l_X7_67 ⟨Nat.le_of_ble_eq_true rfl, Nat.le_of_ble_eq_true rfl⟩ ⟨rfl, rfl⟩ ⟨Nat.zero_le _, Nat.zero_le _⟩ (c_X3_isTrue gq (cnIs_ru x vs cq hq) ok h6.1 h6.2.1 h6.2.2) rfl rfl rfl rfl gq (by decide) rfl dX7_isTrue_22 (fun v22 M22 hp22 => ?_)
  obtain ⟨rfl, hM⟩ := hp22
  obtain rfl := hM.symm
  clear hM
  exact x_zret h hQ rfl (b2i_01 _) dX7_isTrue_25 ⟨rfl, rfl, _, rfl, rfl, rfl⟩
def upN (vs : Nat → Nat) (k y : Nat) : Nat → Nat := fun j => if j = k then y else vs j
def chgV (k v : Nat) (kc : CND) (x : Int64) (vs : Nat → Nat) : Int64 × (Nat → Nat) := if k = 0 then (x, upN vs v (trmV kc.2.2 (vs 0) (vs 1) (vs 2))) else if k = 1 then (x, upN vs v (if 5 < vs v + 1 then 5 else vs v + 1)) else if k = 2 then (x, upN vs v (vs v - 1)) else if k = 3 then (lcg x, upN vs v (drN x 6)) else (x, vs)
theorem ruM_set (M : MM) (w : Nat) (x : Int64) (vs : Nat → Nat) {v : Nat} (y : Nat) (h : v < 3) : sI (ruM M w x vs) (w + 1) v (nI y) = ruM M w x (upN vs v y) := by
  unfold ruM
  rw [wI_set h]
  refine wI_congr _ _ _ (fun j hj => ?_)
  unfold updI upN
  by_cases e : j = v <;> simp [e]
theorem c_X7_change {Γ : GT} {G : GG} {M : MM} {w : Nat} {x : Int64} {vs : Nat → Nat} (hR : ruW G M.2.2 w) {a k v p : Nat} {kc : CND} (hs : stepR G M w a k v p kc) (ok : cndOk kc) (hk : k ≤ 10) (hv : k ≤ 3 → v < 3) (h6 : vs 0 < 6 ∧ vs 1 < 6 ∧ vs 2 < 6) : Calls Γ q_X7_change [.ref w, .ref a] G (ruM M w x vs) (rV (fun M' => M' = ruM M w (chgV k v kc x vs).1 (chgV k v kc x vs).2)) := by
  have hR0 := hR
  obtain ⟨gw, rv, gv⟩ := hR
  obtain ⟨ga, ha, ka, va, pa, q, rq, hq, gq, cq⟩ := hs
  have hvs : ∀ j, j < 3 → vs j < 6 := fun j hj => by
    rcases (show j = 0 ∨ j = 1 ∨ j = 2 by omega) with rfl | rfl | rfl
    · exact h6.1
    · exact h6.2.1
    · exact h6.2.2
  refine Calls.intro (by decide +kernel) (Nat.le_of_ble_eq_true rfl) (fun z E h hQ => ?_)
  refine x_loc (L' := [some (.ref w), some (.ref a), none]) rfl ?_
  refine x_aload_n h dX7_change_0 rfl ?_
  refine x_getIv h ga f_X7_72 rfl ((ruM_I M x vs 1 ha).trans va) dX7_change_1 ?_
  refine x_istore_n h dX7_change_4 rfl rfl ?_
  dsimp only [List.set]
  refine x_iload_n h dX7_change_5 rfl ?_
  refine x_if_lt h 18 dX7_change_6 (by decide) (fun c6 => ?_) (fun c6 => ?_)
  · have hk4 : ¬ k ≤ 3 := fun q => (nI_nneg (by have := hv q; omega) c6).elim
    exact x_vret h hQ rfl dX7_change_18 ⟨rfl, rfl, rfl, by unfold chgV; rw [if_neg (by omega), if_neg (by omega), if_neg (by omega), if_neg (by omega)]⟩
  · refine x_iload_n h dX7_change_9 rfl ?_
    refine x_aload_n h dX7_change_10 rfl ?_
    refine x_getR h gw f_X7_11 rfl rv dX7_change_11 ?_
    refine x_alen h gv (by decide) dX7_change_14 ?_
    refine x_icmp_lt h 19 dX7_change_15 (by decide) (fun c15 => ?_) (fun c15 => ?_)
    · refine x_aload_n h dX7_change_19 rfl ?_
      refine x_getIv h ga f_X7_48 rfl ((ruM_I M x vs 0 ha).trans ka) dX7_change_20 ?_
      rcases (show k = 0 ∨ k = 1 ∨ k = 2 ∨ k = 3 ∨ 4 ≤ k by omega) with rfl | rfl | rfl | rfl | hk4
      · have hv3 : v < 3 := hv (by decide)
        refine x_tin h 52 dX7_change_23 (by decide) (by decide) (off := 29) (by decide) (by decide) ?_
        refine x_aload_n h dX7_change_52 rfl ?_
        refine x_getR h gw f_X7_11 rfl rv dX7_change_53 ?_
        refine x_iload_n h dX7_change_56 rfl ?_
        refine x_aload_n h dX7_change_57 rfl ?_
        refine x_getR h ga f_X7_63 rfl rq dX7_change_58 ?_
        refine x_aload_n h dX7_change_61 rfl ?_
        refine x_getR h gw f_X7_11 rfl rv dX7_change_62 ?_
        refine x_in0 h dX7_change_65 ?_
        refine x_ialdv h 0 gv (ix.ni (j := 0) (by decide) (by decide)) (ruM_v M w x vs (by decide)) dX7_change_66 ?_
        refine x_aload_n h dX7_change_67 rfl ?_
        refine x_getR h gw f_X7_11 rfl rv dX7_change_68 ?_
        refine x_in1 h dX7_change_71 ?_
        refine x_ialdv h 1 gv (ix.ni (j := 1) (by decide) (by decide)) (ruM_v M w x vs (by decide)) dX7_change_72 ?_
        refine x_aload_n h dX7_change_73 rfl ?_
        refine x_getR h gw f_X7_11 rfl rv dX7_change_74 ?_
        refine x_in2 h dX7_change_77 ?_
        refine x_ialdv h 2 gv (ix.ni (j := 2) (by decide) (by decide)) (ruM_v M w x vs (by decide)) dX7_change_78 ?_
        refine x_cVi h ci_X3_value im_X3_value l_X7_75 ⟨Nat.le_of_ble_eq_true rfl, Nat.le_of_ble_eq_true rfl⟩ ⟨rfl, rfl⟩ ⟨Nat.zero_le _, Nat.zero_le _⟩ (c_X3_value gq (cnIs_ru x vs cq hq) ok) rfl rfl rfl rfl gq (by decide) rfl dX7_change_79 (fun v79 M79 hp79 => ?_)
        obtain ⟨rfl, hM⟩ := hp79
        obtain rfl := hM.symm
        clear hM
        refine x_iast h v gv (ix.ni hv3 (by decide)) dX7_change_82 ?_
        refine x_mem (ruM_set M w _ vs _ hv3) ?_
        refine x_goto h 143 dX7_change_83 (by decide) ?_
        exact x_vret h hQ rfl dX7_change_143 ⟨rfl, rfl, rfl, rfl⟩
      · have hv3 : v < 3 := hv (by decide)
        refine x_tin h 86 dX7_change_23 (by decide) (by decide) (off := 63) (by decide) (by decide) ?_
        refine x_aload_n h dX7_change_86 rfl ?_
        refine x_getR h gw f_X7_11 rfl rv dX7_change_87 ?_
        refine x_iload_n h dX7_change_90 rfl ?_
        refine x_aload_n h dX7_change_91 rfl ?_
        refine x_getR h gw f_X7_11 rfl rv dX7_change_92 ?_
        refine x_iload_n h dX7_change_95 rfl ?_
        refine x_ialdv h v gv (ix.ni hv3 (by decide)) (show _ = nI (vs v) from ruM_v M w x vs hv3) dX7_change_96 ?_
        refine x_in1 h dX7_change_97 ?_
        refine x_iaddn h  dX7_change_98 ?_
        refine x_in5 h dX7_change_99 ?_
        refine x_mmin h lm_X7_79 rfl ⟨by decide, by decide⟩ ⟨Nat.zero_le _, Nat.zero_le _⟩ rfl dX7_change_100 ?_
        refine x_topi (y := nI (if 5 < vs v + 1 then 5 else vs v + 1)) (by
          have h9 := hvs v hv3
          by_cases h5 : 5 < vs v + 1
          · rw [if_pos h5, if_pos ((nI_lt_iff (by decide) (by omega)).mpr h5)]
          · rw [if_neg h5, if_neg (fun q => h5 ((nI_lt_iff (by decide) (by omega)).mp q))]) ?_
        refine x_iast h v gv (ix.ni hv3 (by decide)) dX7_change_103 ?_
        refine x_mem (ruM_set M w _ vs _ hv3) ?_
        refine x_goto h 143 dX7_change_104 (by decide) ?_
        exact x_vret h hQ rfl dX7_change_143 ⟨rfl, rfl, rfl, rfl⟩
      · have hv3 : v < 3 := hv (by decide)
        refine x_tin h 107 dX7_change_23 (by decide) (by decide) (off := 84) (by decide) (by decide) ?_
        refine x_aload_n h dX7_change_107 rfl ?_
        refine x_getR h gw f_X7_11 rfl rv dX7_change_108 ?_
        refine x_iload_n h dX7_change_111 rfl ?_
        refine x_aload_n h dX7_change_112 rfl ?_
        refine x_getR h gw f_X7_11 rfl rv dX7_change_113 ?_
        refine x_iload_n h dX7_change_116 rfl ?_
        refine x_ialdv h v gv (ix.ni hv3 (by decide)) (show _ = nI (vs v) from ruM_v M w x vs hv3) dX7_change_117 ?_
        refine x_in1 h dX7_change_118 ?_
        refine x_isub h dX7_change_119 ?_
        refine x_in0 h dX7_change_120 ?_
        refine x_mmax h lm_X7_85 rfl ⟨by decide, by decide⟩ ⟨Nat.zero_le _, Nat.zero_le _⟩ rfl dX7_change_121 ?_
        refine x_topi (y := nI (vs v - 1)) (by
          have h9 := hvs v hv3
          rcases Nat.eq_zero_or_pos (vs v) with e | e
          · rw [e]; decide
          · rw [pk_sub (by omega), if_neg (fun q => absurd ((nI_lt_iff (by omega) (by decide)).mp q) (by omega))]) ?_
        refine x_iast h v gv (ix.ni hv3 (by decide)) dX7_change_124 ?_
        refine x_mem (ruM_set M w _ vs _ hv3) ?_
        refine x_goto h 143 dX7_change_125 (by decide) ?_
        exact x_vret h hQ rfl dX7_change_143 ⟨rfl, rfl, rfl, rfl⟩
      · have hv3 : v < 3 := hv (by decide)
        refine x_tin h 128 dX7_change_23 (by decide) (by decide) (off := 105) (by decide) (by decide) ?_
        refine x_aload_n h dX7_change_128 rfl ?_
        refine x_getR h gw f_X7_11 rfl rv dX7_change_129 ?_
        refine x_iload_n h dX7_change_132 rfl ?_
        refine x_aload_n h dX7_change_133 rfl ?_
        refine x_bipush h (nI 6) (by decide) dX7_change_134 ?_
        refine x_cVi h ci_X7_draw im_X7_draw l_X7_28 ⟨Nat.le_of_ble_eq_true rfl, Nat.le_of_ble_eq_true rfl⟩ ⟨rfl, rfl⟩ ⟨Nat.zero_le _, Nat.zero_le _⟩ (c_X7_draw hR0 (k := 6) (by decide) (by decide)) rfl rfl rfl rfl gw (by decide) rfl dX7_change_136 (fun v136 M136 hp136 => ?_)
        obtain ⟨rfl, rfl⟩ := hp136
        refine x_iast h v gv (ix.ni hv3 (by decide)) dX7_change_139 ?_
        refine x_mem (ruM_set M w _ vs _ hv3) ?_
        refine x_goto h 143 dX7_change_140 (by decide) ?_
        exact x_vret h hQ rfl dX7_change_143 ⟨rfl, rfl, rfl, rfl⟩
      · refine x_tout h 143 dX7_change_23 (Or.inr (by rw [nI_toInt (by omega)]; omega)) (by decide) ?_
        exact x_vret h hQ rfl dX7_change_143 ⟨rfl, rfl, rfl, by unfold chgV; rw [if_neg (by omega), if_neg (by omega), if_neg (by omega), if_neg (by omega)]⟩
    · have hk4 : ¬ k ≤ 3 := fun q => c15 ((nI_lt_iff (by have := hv q; omega) (by decide)).mpr (hv q))
      exact x_vret h hQ rfl dX7_change_18 ⟨rfl, rfl, rfl, by unfold chgV; rw [if_neg (by omega), if_neg (by omega), if_neg (by omega), if_neg (by omega)]⟩
def nxtV (k p pl : Nat) (kc : CND) (x : Int64) (vs : Nat → Nat) : Nat × Int64 := if k = 6 then ((if cndV kc (vs 0) (vs 1) (vs 2) then pl + 1 else p + 1), x) else if k = 7 ∨ k = 9 then (p, x) else if k = 8 then ((if drN x 2 = 0 then pl + 1 else p + 1), lcg x) else (pl + 1, x)
theorem c_X7_next {Γ : GT} {G : GG} {M : MM} {w : Nat} {x : Int64} {vs : Nat → Nat} (hR : ruW G M.2.2 w) {a k v p : Nat} {kc : CND} (hs : stepR G M w a k v p kc) (ok : cndOk kc) (hk : k ≤ 10) (h6 : vs 0 < 6 ∧ vs 1 < 6 ∧ vs 2 < 6) {pl : Nat} : Calls Γ q_X7_next [.ref w, .ref a, .int (nI pl)] G (ruM M w x vs) (rI (fun y M' => y = nI (nxtV k p pl kc x vs).1 ∧ M' = ruM M w (nxtV k p pl kc x vs).2 vs)) := by
  have hR0 := hR
  obtain ⟨gw, rv, gv⟩ := hR
  have hs0 := hs
  obtain ⟨ga, ha, ka, va, pa, q, rq, hq, gq, cq⟩ := hs
  refine Calls.intro (by decide +kernel) (Nat.le_of_ble_eq_true rfl) (fun z E h hQ => ?_)
  refine x_loc (L' := [some (.ref w), some (.ref a), some (.int (nI pl))]) rfl ?_
  refine x_aload_n h dX7_next_0 rfl ?_
  refine x_getIv h ga f_X7_48 rfl ((ruM_I M _ vs 0 ha).trans ka) dX7_next_1 ?_
  rcases (show k = 6 ∨ k = 7 ∨ k = 8 ∨ k = 9 ∨ k < 6 ∨ k = 10 by omega) with rfl | rfl | rfl | rfl | hk5 | rfl
  · refine x_tin h 36 dX7_next_4 (by decide) (by decide) (off := 32) (by decide) (by decide) ?_
    refine x_aload_n h dX7_next_36 rfl ?_
    refine x_aload_n h dX7_next_37 rfl ?_
    refine x_cVi h ci_X7_isTrue im_X7_isTrue l_X7_51 ⟨Nat.le_of_ble_eq_true rfl, Nat.le_of_ble_eq_true rfl⟩ ⟨rfl, rfl⟩ ⟨Nat.zero_le _, Nat.zero_le _⟩ (c_X7_isTrue hR0 hs0 ok h6) rfl rfl rfl rfl gw (by decide) rfl dX7_next_38 (fun v38 M38 hp38 => ?_)
    obtain ⟨rfl, hM⟩ := hp38
    obtain rfl := hM.symm
    clear hM
    refine x_if_eq h 50 dX7_next_41 (by decide) (fun c41 => ?_) (fun c41 => ?_)
    · have e := b2i_0.mp c41
      refine x_aload_n h dX7_next_50 rfl ?_
      refine x_getIv h ga f_X7_88 rfl ((ruM_I M _ vs 3 ha).trans pa) dX7_next_51 ?_
      refine x_in1 h dX7_next_54 ?_
      refine x_iaddn h  dX7_next_55 ?_
      exact x_iret h hQ rfl dX7_next_56 ⟨rfl, rfl, _, rfl, by simp only [nxtV, e]; rfl, rfl⟩
    · have e := bool_nf (fun q => c41 (b2i_0.mpr q))
      refine x_iload_n h dX7_next_44 rfl ?_
      refine x_in1 h dX7_next_45 ?_
      refine x_iaddn h  dX7_next_46 ?_
      refine x_goto h 56 dX7_next_47 (by decide) ?_
      exact x_iret h hQ rfl dX7_next_56 ⟨rfl, rfl, _, rfl, by simp only [nxtV, e]; rfl, rfl⟩
  · refine x_tin h 57 dX7_next_4 (by decide) (by decide) (off := 53) (by decide) (by decide) ?_
    refine x_aload_n h dX7_next_57 rfl ?_
    refine x_getIv h ga f_X7_88 rfl ((ruM_I M _ vs 3 ha).trans pa) dX7_next_58 ?_
    exact x_iret h hQ rfl dX7_next_61 ⟨rfl, rfl, _, rfl, rfl, rfl⟩
  · refine x_tin h 62 dX7_next_4 (by decide) (by decide) (off := 58) (by decide) (by decide) ?_
    refine x_aload_n h dX7_next_62 rfl ?_
    refine x_in2 h dX7_next_63 ?_
    refine x_cVi h ci_X7_draw im_X7_draw l_X7_28 ⟨Nat.le_of_ble_eq_true rfl, Nat.le_of_ble_eq_true rfl⟩ ⟨rfl, rfl⟩ ⟨Nat.zero_le _, Nat.zero_le _⟩ (c_X7_draw hR0 (k := 2) (by decide) (by decide)) rfl rfl rfl rfl gw (by decide) rfl dX7_next_64 (fun v64 M64 hp64 => ?_)
    obtain ⟨rfl, rfl⟩ := hp64
    refine x_if_ne h 76 dX7_next_67 (by decide) (fun c67 => ?_) (fun c67 => ?_)
    · have e : ¬ drN x 2 = 0 := fun q => c67 (by rw [q]; exact nI_0)
      refine x_aload_n h dX7_next_76 rfl ?_
      refine x_getIv h ga f_X7_88 rfl ((ruM_I M _ vs 3 ha).trans pa) dX7_next_77 ?_
      refine x_in1 h dX7_next_80 ?_
      refine x_iaddn h  dX7_next_81 ?_
      exact x_iret h hQ rfl dX7_next_82 ⟨rfl, rfl, _, rfl, by simp only [nxtV, e]; rfl, rfl⟩
    · have e : drN x 2 = 0 := nI_small 0 (Nat.lt_trans (Nat.mod_lt _ (by decide)) (by decide)) (by decide) (c67.trans nI_0.symm)
      refine x_iload_n h dX7_next_70 rfl ?_
      refine x_in1 h dX7_next_71 ?_
      refine x_iaddn h  dX7_next_72 ?_
      refine x_goto h 82 dX7_next_73 (by decide) ?_
      exact x_iret h hQ rfl dX7_next_82 ⟨rfl, rfl, _, rfl, by simp only [nxtV, e]; rfl, rfl⟩
  · refine x_tin h 57 dX7_next_4 (by decide) (by decide) (off := 53) (by decide) (by decide) ?_
    refine x_aload_n h dX7_next_57 rfl ?_
    refine x_getIv h ga f_X7_88 rfl ((ruM_I M _ vs 3 ha).trans pa) dX7_next_58 ?_
    exact x_iret h hQ rfl dX7_next_61 ⟨rfl, rfl, _, rfl, rfl, rfl⟩
  · refine x_tout h 83 dX7_next_4 (Or.inl (by rw [nI_toInt (by omega)]; omega)) (by decide) ?_
    refine x_iload_n h dX7_next_83 rfl ?_
    refine x_in1 h dX7_next_84 ?_
    refine x_iaddn h  dX7_next_85 ?_
    exact x_iret h hQ rfl dX7_next_86 ⟨rfl, rfl, _, rfl, by rw [nxtV, if_neg (by omega), if_neg (by omega), if_neg (by omega)], by rw [nxtV, if_neg (by omega), if_neg (by omega), if_neg (by omega)]⟩
  · refine x_tout h 83 dX7_next_4 (by decide) (by decide) ?_
    refine x_iload_n h dX7_next_83 rfl ?_
    refine x_in1 h dX7_next_84 ?_
    refine x_iaddn h  dX7_next_85 ?_
    exact x_iret h hQ rfl dX7_next_86 ⟨rfl, rfl, _, rfl, rfl, rfl⟩
