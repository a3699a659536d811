/-! ===== the reference: its reader ===== -/
def regR (a j : Nat) : Bool := (decide (a = 0) && (decide (22 ≤ j ∧ j ≤ 26) || decide (j = 31) || decide (j = 32))) || decide (11 ≤ a ∧ a ≤ 20)
/-- the memory with a table of numbers in the cells of the reading -/
def mtM (M : MM) (m : Nat) (U : RT) : MM := ((fun b j => if m ≤ b ∧ regR (b - m) j = true then nI (U (b - m) j) else M.1 b j), M.2)
theorem mt_get (M : MM) (m : Nat) (U : RT) {a j : Nat} (h : regR a j = true) : (mtM M m U).1 (m + a) j = nI (U a j) := by
  show (if m ≤ m + a ∧ regR (m + a - m) j = true then nI (U (m + a - m) j) else M.1 (m + a) j) = _
  rw [show m + a - m = a by omega, if_pos ⟨by omega, h⟩]
theorem mt_f (M : MM) (m : Nat) (U : RT) {j : Nat} (h : regR 0 j = true) : (mtM M m U).1 m j = nI (U 0 j) := mt_get M m U (a := 0) h
theorem mt_ne (M : MM) (m : Nat) (U : RT) {a j : Nat} (h : regR a j = false) : (mtM M m U).1 (m + a) j = M.1 (m + a) j := by
  show (if m ≤ m + a ∧ regR (m + a - m) j = true then nI (U (m + a - m) j) else M.1 (m + a) j) = _
  rw [show m + a - m = a by omega, if_neg (fun q => by rw [h] at q; cases q.2)]
theorem mt_set (M : MM) (m : Nat) (U : RT) {a j : Nat} (x : Nat) (h : regR a j = true) : sI (mtM M m U) (m + a) j (nI x) = mtM M m (tU U a j x) := by
  refine Prod.ext ?_ rfl
  funext b i
  show (if b = m + a ∧ i = j then nI x else if m ≤ b ∧ regR (b - m) i = true then nI (U (b - m) i) else M.1 b i) = (if m ≤ b ∧ regR (b - m) i = true then nI (tU U a j x (b - m) i) else M.1 b i)
  by_cases q : b = m + a ∧ i = j
  · obtain ⟨rfl, rfl⟩ := q
    rw [if_pos ⟨rfl, rfl⟩, show m + a - m = a by omega, if_pos ⟨by omega, h⟩]
    simp [tU]
  · rw [if_neg q]
    by_cases q2 : m ≤ b ∧ regR (b - m) i = true
    · rw [if_pos q2, if_pos q2]
      have : ¬ (b - m = a ∧ i = j) := fun q3 => q ⟨by omega, q3.2⟩
      simp [tU, this]
    · rw [if_neg q2, if_neg q2]
theorem mt_set0 (M : MM) (m : Nat) (U : RT) {j : Nat} (x : Nat) (h : regR 0 j = true) : sI (mtM M m U) m j (nI x) = mtM M m (tU U 0 j x) := mt_set M m U (a := 0) x h
def nnU (U : RT) (k : Nat) : RT := tU (tU (tU U 11 (U 0 22) k) 16 (U 0 22) (U 0 22 + 1)) 0 22 (U 0 22 + 1)
def akU (U : RT) (k : Nat) : RT := if k = 5 then tU (tU (tU (nnU U 5) 0 32 3) 15 (U 0 22) (U 0 23)) 0 23 (U 0 23 + 1) else if k = 6 then tU (tU (tU (tU (tU (nnU U 6) 0 32 3) 15 (U 0 22) (U 0 24)) 0 24 (U 0 24 + 1)) 20 (U 0 31) (U 0 22)) 0 31 (U 0 31 + 1) else tU (nnU U k) 0 32 3
def etU (U : RT) : RT := tU (tU (tU (nnU U 8) 0 25 (U 0 25 + 1)) 20 (U 0 31) (U 0 22)) 0 31 (U 0 31 + 1)
def opU (U : RT) : Nat := U 20 (U 0 31 - 1)
def clU (U : RT) : RT := tU (tU (nnU (tU U 0 31 (U 0 31 - 1)) 7) 16 (U 0 22) (opU U)) 16 (opU U) (U 0 22 + 1)
def baU (U : RT) : RT := tU (tU (nnU U 9) 16 (opU U) (U 0 22 + 1)) 20 (U 0 31 - 1) (U 0 22)
def jnU (U : RT) : RT := tU (nnU (tU U 0 31 (U 0 31 - 1)) 10) 16 (opU U) (U 0 22)
def gsU (U : RT) : RT := tU (tU U 0 26 (U 0 26 + 1)) 0 32 3
def nmU (U : RT) (x : Nat) : RT := tU (tU (nnU U 0) 12 (U 0 22) x) 0 32 1
def ddU (U : RT) (k : Nat) : RT := tU (tU U 11 (U 0 22 - 1) k) 0 32 (if k = 0 then 2 else 0)
def teU (U : RT) (x : Nat) : RT := tU (tU U 14 (U 0 22 - 1) x) 0 32 0
def wpU (U : RT) (p : Nat) : Nat := if p = 0 then 4 else if p = 1 then 5 else if 0 < U 0 26 then 6 else 0
def ptU (U : RT) (p x : Nat) : RT := if 0 < U 0 26 then tU (tU U (17 + p) (U 0 26 - 1) x) 0 32 (wpU U p) else tU (tU U (12 + p) (U 0 22 - 1) x) 0 32 (wpU U p)
theorem c_X12_newNode {Γ : GT} {G : GG} {M : MM} {m : Nat} (hF : mdF G M.2.2 m) {U : RT} {k : Nat} (hn : U 0 22 < 62) : Calls Γ q_X12_newNode [.ref m, .int (nI k)] G (mtM M m U) (rV (fun M' => M' = mtM M m (nnU U k))) := by
  refine Calls.intro (by decide +kernel) (Nat.le_of_ble_eq_true rfl) (fun z E h hQ => ?_)
  refine x_loc (L' := [some (.ref m), some (.int (nI k))]) rfl ?_
  refine x_aload_n h dX12_newNode_0 rfl ?_
  refine x_getR h hF.1 f_X12_40 rfl (md_readKind hF).1 dX12_newNode_1 ?_
  refine x_aload_n h dX12_newNode_4 rfl ?_
  refine x_getIv h hF.1 f_X12_130 rfl (mt_f M m U (j := 22) (by decide)) dX12_newNode_5 ?_
  refine x_iload_n h dX12_newNode_8 rfl ?_
  refine x_iast h (U 0 22) (md_readKind hF).2 (ix.ni (j := U 0 22) (by omega) (by decide)) dX12_newNode_9 ?_
  refine x_mem (mt_set M m _ _ (by simp [regR])) ?_
  refine x_aload_n h dX12_newNode_10 rfl ?_
  refine x_getR h hF.1 f_X12_55 rfl (md_readLeads hF).1 dX12_newNode_11 ?_
  refine x_aload_n h dX12_newNode_14 rfl ?_
  refine x_getIv h hF.1 f_X12_130 rfl (show _ = nI (U 0 22) from (mt_f M m _ (by decide)).trans (congrArg nI (by simp [nnU, tU]))) dX12_newNode_15 ?_
  refine x_aload_n h dX12_newNode_18 rfl ?_
  refine x_getIv h hF.1 f_X12_130 rfl (show _ = nI (U 0 22) from (mt_f M m _ (by decide)).trans (congrArg nI (by simp [nnU, tU]))) dX12_newNode_19 ?_
  refine x_in1 h dX12_newNode_22 ?_
  refine x_iaddn h  dX12_newNode_23 ?_
  refine x_iast h (U 0 22) (md_readLeads hF).2 (ix.ni (j := U 0 22) (by omega) (by decide)) dX12_newNode_24 ?_
  refine x_mem (mt_set M m _ _ (by simp [regR])) ?_
  refine x_aload_n h dX12_newNode_25 rfl ?_
  refine x_dup h rfl dX12_newNode_26 ?_
  refine x_getIv h hF.1 f_X12_130 rfl (show _ = nI (U 0 22) from (mt_f M m _ (by decide)).trans (congrArg nI (by simp [nnU, tU]))) dX12_newNode_27 ?_
  refine x_in1 h dX12_newNode_30 ?_
  refine x_iaddn h  dX12_newNode_31 ?_
  refine x_putI h hF.1 f_X12_130 rfl rfl dX12_newNode_32 ?_
  refine x_mem (mt_set0 M m _ _ (by decide)) ?_
  exact x_vret h hQ rfl dX12_newNode_35 ⟨rfl, rfl, rfl, rfl⟩
def inU (U : RT) : Nat := if U 0 31 = 0 then 0 else U 11 (opU U)
theorem c_X12_innermost {Γ : GT} {G : GG} {M : MM} {m : Nat} (hF : mdF G M.2.2 m) {U : RT} (h31 : U 0 31 ≤ 8) (ho : 1 ≤ U 0 31 → opU U < 62) : Calls Γ q_X12_innermost [.ref m] G (mtM M m U) (rI (fun y M' => y = nI (inU U) ∧ M' = mtM M m U)) := by
  refine Calls.intro (by decide +kernel) (Nat.le_of_ble_eq_true rfl) (fun z E h hQ => ?_)
  refine x_loc (L' := [some (.ref m)]) rfl ?_
  refine x_aload_n h dX12_innermost_0 rfl ?_
  refine x_getIv h hF.1 f_X12_133 rfl (mt_f M m U (j := 31) (by decide)) dX12_innermost_1 ?_
  refine x_if_ne h 11 dX12_innermost_4 (by decide) (fun c4 => ?_) (fun c4 => ?_)
  · have e : ¬ U 0 31 = 0 := fun q => c4 (by rw [q]; exact nI_0)
    refine x_aload_n h dX12_innermost_11 rfl ?_
    refine x_getR h hF.1 f_X12_40 rfl (md_readKind hF).1 dX12_innermost_12 ?_
    refine x_aload_n h dX12_innermost_15 rfl ?_
    refine x_getR h hF.1 f_X12_67 rfl (md_open hF).1 dX12_innermost_16 ?_
    refine x_aload_n h dX12_innermost_19 rfl ?_
    refine x_getIv h hF.1 f_X12_133 rfl (mt_f M m U (j := 31) (by decide)) dX12_innermost_20 ?_
    refine x_in1 h dX12_innermost_23 ?_
    refine x_isubn h (by omega) dX12_innermost_24 ?_
    refine x_ialdv h (U 0 31 - 1) (md_open hF).2 (ix.ni (by omega) (by decide)) (show _ = nI (opU U) from mt_get M m U (by simp [regR])) dX12_innermost_25 ?_
    refine x_ialdv h (opU U) (md_readKind hF).2 (ix.ni (ho (by omega)) (by decide)) (mt_get M m U (by simp [regR])) dX12_innermost_26 ?_
    exact x_iret h hQ rfl dX12_innermost_27 ⟨rfl, rfl, _, rfl, by rw [inU, if_neg e], rfl⟩
  · have e : U 0 31 = 0 := nI_small 0 (by omega) (by decide) (c4.trans nI_0.symm)
    refine x_in0 h dX12_innermost_7 ?_
    refine x_goto h 27 dX12_innermost_8 (by decide) ?_
    exact x_iret h hQ rfl dX12_innermost_27 ⟨rfl, rfl, _, rfl, by rw [inU, if_pos e], rfl⟩
theorem c_X12_takeAsking {Γ : GT} {G : GG} {M : MM} {m : Nat} (hF : mdF G M.2.2 m) {U : RT} {k : Nat} (hn : U 0 22 < 61) (h31 : U 0 31 < 8) (hk : k < 10) : Calls Γ q_X12_takeAsking [.ref m, .int (nI k)] G (mtM M m U) (rI (fun y M' => y = 1 ∧ M' = mtM M m (akU U k))) := by
  refine Calls.intro (by decide +kernel) (Nat.le_of_ble_eq_true rfl) (fun z E h hQ => ?_)
  refine x_loc (L' := [some (.ref m), some (.int (nI k))]) rfl ?_
  refine x_aload_n h dX12_takeAsking_0 rfl ?_
  refine x_iload_n h dX12_takeAsking_1 rfl ?_
  refine x_cVv h ci_X12_newNode im_X12_newNode l_X12_140 ⟨Nat.le_of_ble_eq_true rfl, Nat.le_of_ble_eq_true rfl⟩ ⟨rfl, rfl⟩ ⟨Nat.zero_le _, Nat.zero_le _⟩ (c_X12_newNode hF (U := U) (k := k) (by omega)) rfl rfl rfl rfl hF.1 (by decide) rfl dX12_takeAsking_2 (fun M2 hp2 => ?_)
  subst hp2
  refine x_aload_n h dX12_takeAsking_5 rfl ?_
  refine x_in3 h dX12_takeAsking_6 ?_
  refine x_putI h hF.1 f_X12_144 rfl rfl dX12_takeAsking_7 ?_
  refine x_mem (mt_set0 M m _ _ (by decide)) ?_
  refine x_iload_n h dX12_takeAsking_10 rfl ?_
  refine x_in5 h dX12_takeAsking_11 ?_
  refine x_icmp_ne h 40 dX12_takeAsking_12 (by decide) (fun c12 => ?_) (fun c12 => ?_)
  · have e5 : ¬ k = 5 := fun q => c12 (by rw [q])
    refine x_iload_n h dX12_takeAsking_40 rfl ?_
    refine x_bipush h (nI 6) (by decide) dX12_takeAsking_41 ?_
    refine x_icmp_ne h 96 dX12_takeAsking_43 (by decide) (fun c43 => ?_) (fun c43 => ?_)
    · have e6 : ¬ k = 6 := fun q => c43 (by rw [q])
      refine x_ic1 h dX12_takeAsking_96 ?_
      exact x_zret h hQ rfl (by decide) dX12_takeAsking_97 ⟨rfl, rfl, _, rfl, rfl, by rw [akU, if_neg e5, if_neg e6]⟩
    · have e6 : k = 6 := nI_small 6 (by omega) (by decide) c43
      refine x_aload_n h dX12_takeAsking_46 rfl ?_
      refine x_getR h hF.1 f_X12_52 rfl (md_readNumber hF).1 dX12_takeAsking_47 ?_
      refine x_aload_n h dX12_takeAsking_50 rfl ?_
      refine x_getIv h hF.1 f_X12_130 rfl (show _ = nI (U 0 22 + 1) from (mt_f M m _ (by decide)).trans (congrArg nI (by simp [nnU, tU]))) dX12_takeAsking_51 ?_
      refine x_in1 h dX12_takeAsking_54 ?_
      refine x_isubn h (by omega) dX12_takeAsking_55 ?_
      refine x_aload_n h dX12_takeAsking_56 rfl ?_
      refine x_getIv h hF.1 f_X12_154 rfl (show _ = nI (U 0 24) from (mt_f M m _ (by decide)).trans (congrArg nI (by simp [nnU, tU]))) dX12_takeAsking_57 ?_
      rw [show U 0 22 + 1 - 1 = U 0 22 by omega]
      refine x_iast h (U 0 22) (md_readNumber hF).2 (ix.ni (j := U 0 22) (by omega) (by decide)) dX12_takeAsking_60 ?_
      refine x_mem (mt_set M m _ _ (by simp [regR])) ?_
      refine x_aload_n h dX12_takeAsking_61 rfl ?_
      refine x_dup h rfl dX12_takeAsking_62 ?_
      refine x_getIv h hF.1 f_X12_154 rfl (show _ = nI (U 0 24) from (mt_f M m _ (by decide)).trans (congrArg nI (by simp [nnU, tU]))) dX12_takeAsking_63 ?_
      refine x_in1 h dX12_takeAsking_66 ?_
      refine x_iaddn h  dX12_takeAsking_67 ?_
      refine x_putI h hF.1 f_X12_154 rfl rfl dX12_takeAsking_68 ?_
      refine x_mem (mt_set0 M m _ _ (by decide)) ?_
      refine x_aload_n h dX12_takeAsking_71 rfl ?_
      refine x_getR h hF.1 f_X12_67 rfl (md_open hF).1 dX12_takeAsking_72 ?_
      refine x_aload_n h dX12_takeAsking_75 rfl ?_
      refine x_getIv h hF.1 f_X12_133 rfl (show _ = nI (U 0 31) from (mt_f M m _ (by decide)).trans (congrArg nI (by simp [nnU, tU]))) dX12_takeAsking_76 ?_
      refine x_aload_n h dX12_takeAsking_79 rfl ?_
      refine x_getIv h hF.1 f_X12_130 rfl (show _ = nI (U 0 22 + 1) from (mt_f M m _ (by decide)).trans (congrArg nI (by simp [nnU, tU]))) dX12_takeAsking_80 ?_
      refine x_in1 h dX12_takeAsking_83 ?_
      refine x_isubn h (by omega) dX12_takeAsking_84 ?_
      rw [show U 0 22 + 1 - 1 = U 0 22 by omega]
      refine x_iast h (U 0 31) (md_open hF).2 (ix.ni h31 (by decide)) dX12_takeAsking_85 ?_
      refine x_mem (mt_set M m _ _ (by simp [regR])) ?_
      refine x_aload_n h dX12_takeAsking_86 rfl ?_
      refine x_dup h rfl dX12_takeAsking_87 ?_
      refine x_getIv h hF.1 f_X12_133 rfl (show _ = nI (U 0 31) from (mt_f M m _ (by decide)).trans (congrArg nI (by simp [nnU, tU]))) dX12_takeAsking_88 ?_
      refine x_in1 h dX12_takeAsking_91 ?_
      refine x_iaddn h  dX12_takeAsking_92 ?_
      refine x_putI h hF.1 f_X12_133 rfl rfl dX12_takeAsking_93 ?_
      refine x_mem (mt_set0 M m _ _ (by decide)) ?_
      refine x_ic1 h dX12_takeAsking_96 ?_
      exact x_zret h hQ rfl (by decide) dX12_takeAsking_97 ⟨rfl, rfl, _, rfl, rfl, by subst e6; rfl⟩
  · have e5 : k = 5 := nI_small 5 (by omega) (by decide) c12
    refine x_aload_n h dX12_takeAsking_15 rfl ?_
    refine x_getR h hF.1 f_X12_52 rfl (md_readNumber hF).1 dX12_takeAsking_16 ?_
    refine x_aload_n h dX12_takeAsking_19 rfl ?_
    refine x_getIv h hF.1 f_X12_130 rfl (show _ = nI (U 0 22 + 1) from (mt_f M m _ (by decide)).trans (congrArg nI (by simp [nnU, tU]))) dX12_takeAsking_20 ?_
    refine x_in1 h dX12_takeAsking_23 ?_
    refine x_isubn h (by omega) dX12_takeAsking_24 ?_
    refine x_aload_n h dX12_takeAsking_25 rfl ?_
    refine x_getIv h hF.1 f_X12_151 rfl (show _ = nI (U 0 23) from (mt_f M m _ (by decide)).trans (congrArg nI (by simp [nnU, tU]))) dX12_takeAsking_26 ?_
    rw [show U 0 22 + 1 - 1 = U 0 22 by omega]
    refine x_iast h (U 0 22) (md_readNumber hF).2 (ix.ni (j := U 0 22) (by omega) (by decide)) dX12_takeAsking_29 ?_
    refine x_mem (mt_set M m _ _ (by simp [regR])) ?_
    refine x_aload_n h dX12_takeAsking_30 rfl ?_
    refine x_dup h rfl dX12_takeAsking_31 ?_
    refine x_getIv h hF.1 f_X12_151 rfl (show _ = nI (U 0 23) from (mt_f M m _ (by decide)).trans (congrArg nI (by simp [nnU, tU]))) dX12_takeAsking_32 ?_
    refine x_in1 h dX12_takeAsking_35 ?_
    refine x_iaddn h  dX12_takeAsking_36 ?_
    refine x_putI h hF.1 f_X12_151 rfl rfl dX12_takeAsking_37 ?_
    refine x_mem (mt_set0 M m _ _ (by decide)) ?_
    refine x_iload_n h dX12_takeAsking_40 rfl ?_
    refine x_bipush h (nI 6) (by decide) dX12_takeAsking_41 ?_
    refine x_icmp_ne h 96 dX12_takeAsking_43 (by decide) (fun c43 => ?_) (fun c43 => ?_)
    · have e6 : ¬ k = 6 := fun q => c43 (by rw [q])
      refine x_ic1 h dX12_takeAsking_96 ?_
      exact x_zret h hQ rfl (by decide) dX12_takeAsking_97 ⟨rfl, rfl, _, rfl, rfl, by subst e5; rfl⟩
    · exact absurd (e5.symm.trans (nI_small 6 (by omega) (by decide) c43)) (by decide)
theorem c_X12_takeEither {Γ : GT} {G : GG} {M : MM} {m : Nat} (hF : mdF G M.2.2 m) {U : RT} (hn : U 0 22 < 61) (h31 : U 0 31 < 8) : Calls Γ q_X12_takeEither [.ref m] G (mtM M m U) (rI (fun y M' => y = 1 ∧ M' = mtM M m (etU U))) := by
  refine Calls.intro (by decide +kernel) (Nat.le_of_ble_eq_true rfl) (fun z E h hQ => ?_)
  refine x_loc (L' := [some (.ref m)]) rfl ?_
  refine x_aload_n h dX12_takeEither_0 rfl ?_
  refine x_bipush h (nI 8) (by decide) dX12_takeEither_1 ?_
  refine x_cVv h ci_X12_newNode im_X12_newNode l_X12_140 ⟨Nat.le_of_ble_eq_true rfl, Nat.le_of_ble_eq_true rfl⟩ ⟨rfl, rfl⟩ ⟨Nat.zero_le _, Nat.zero_le _⟩ (c_X12_newNode hF (U := U) (k := 8) (by omega)) rfl rfl rfl rfl hF.1 (by decide) rfl dX12_takeEither_3 (fun M3 hp3 => ?_)
  subst hp3
  refine x_aload_n h dX12_takeEither_6 rfl ?_
  refine x_dup h rfl dX12_takeEither_7 ?_
  refine x_getIv h hF.1 f_X12_157 rfl (show _ = nI (U 0 25) from (mt_f M m _ (by decide)).trans (congrArg nI (by simp [nnU, tU]))) dX12_takeEither_8 ?_
  refine x_in1 h dX12_takeEither_11 ?_
  refine x_iaddn h  dX12_takeEither_12 ?_
  refine x_putI h hF.1 f_X12_157 rfl rfl dX12_takeEither_13 ?_
  refine x_mem (mt_set0 M m _ _ (by decide)) ?_
  refine x_aload_n h dX12_takeEither_16 rfl ?_
  refine x_getR h hF.1 f_X12_67 rfl (md_open hF).1 dX12_takeEither_17 ?_
  refine x_aload_n h dX12_takeEither_20 rfl ?_
  refine x_getIv h hF.1 f_X12_133 rfl (show _ = nI (U 0 31) from (mt_f M m _ (by decide)).trans (congrArg nI (by simp [nnU, tU]))) dX12_takeEither_21 ?_
  refine x_aload_n h dX12_takeEither_24 rfl ?_
  refine x_getIv h hF.1 f_X12_130 rfl (show _ = nI (U 0 22 + 1) from (mt_f M m _ (by decide)).trans (congrArg nI (by simp [nnU, tU]))) dX12_takeEither_25 ?_
  refine x_in1 h dX12_takeEither_28 ?_
  refine x_isubn h (by omega) dX12_takeEither_29 ?_
  rw [show U 0 22 + 1 - 1 = U 0 22 by omega]
  refine x_iast h (U 0 31) (md_open hF).2 (ix.ni h31 (by decide)) dX12_takeEither_30 ?_
  refine x_mem (mt_set M m _ _ (by simp [regR])) ?_
  refine x_aload_n h dX12_takeEither_31 rfl ?_
  refine x_dup h rfl dX12_takeEither_32 ?_
  refine x_getIv h hF.1 f_X12_133 rfl (show _ = nI (U 0 31) from (mt_f M m _ (by decide)).trans (congrArg nI (by simp [nnU, tU]))) dX12_takeEither_33 ?_
  refine x_in1 h dX12_takeEither_36 ?_
  refine x_iaddn h  dX12_takeEither_37 ?_
  refine x_putI h hF.1 f_X12_133 rfl rfl dX12_takeEither_38 ?_
  refine x_mem (mt_set0 M m _ _ (by decide)) ?_
  refine x_ic1 h dX12_takeEither_41 ?_
  exact x_zret h hQ rfl (by decide) dX12_takeEither_42 ⟨rfl, rfl, _, rfl, rfl, rfl⟩
theorem c_X12_takeClose {Γ : GT} {G : GG} {M : MM} {m : Nat} (hF : mdF G M.2.2 m) {U : RT} (hn : U 0 22 < 61) (h31 : U 0 31 < 8) (h1 : 1 ≤ U 0 31) (ho : opU U < U 0 22) : Calls Γ q_X12_takeClose [.ref m] G (mtM M m U) (rI (fun y M' => y = 1 ∧ M' = mtM M m (clU U))) := by
  refine Calls.intro (by decide +kernel) (Nat.le_of_ble_eq_true rfl) (fun z E h hQ => ?_)
  refine x_loc (L' := [some (.ref m)]) rfl ?_
  refine x_aload_n h dX12_takeClose_0 rfl ?_
  refine x_dup h rfl dX12_takeClose_1 ?_
  refine x_getIv h hF.1 f_X12_133 rfl (mt_f M m U (j := 31) (by decide)) dX12_takeClose_2 ?_
  refine x_in1 h dX12_takeClose_5 ?_
  refine x_isubn h (by omega) dX12_takeClose_6 ?_
  refine x_putI h hF.1 f_X12_133 rfl rfl dX12_takeClose_7 ?_
  refine x_mem (mt_set0 M m _ _ (by decide)) ?_
  refine x_aload_n h dX12_takeClose_10 rfl ?_
  refine x_bipush h (nI 7) (by decide) dX12_takeClose_11 ?_
  refine x_cVv h ci_X12_newNode im_X12_newNode l_X12_140 ⟨Nat.le_of_ble_eq_true rfl, Nat.le_of_ble_eq_true rfl⟩ ⟨rfl, rfl⟩ ⟨Nat.zero_le _, Nat.zero_le _⟩ (c_X12_newNode hF (U := tU U 0 31 (U 0 31 - 1)) (k := 7) (by simp [tU]; omega)) rfl rfl rfl rfl hF.1 (by decide) rfl dX12_takeClose_13 (fun M13 hp13 => ?_)
  subst hp13
  refine x_aload_n h dX12_takeClose_16 rfl ?_
  refine x_getR h hF.1 f_X12_55 rfl (md_readLeads hF).1 dX12_takeClose_17 ?_
  refine x_aload_n h dX12_takeClose_20 rfl ?_
  refine x_getIv h hF.1 f_X12_130 rfl (show _ = nI (U 0 22 + 1) from (mt_f M m _ (by decide)).trans (congrArg nI (by simp [nnU, tU]))) dX12_takeClose_21 ?_
  refine x_in1 h dX12_takeClose_24 ?_
  refine x_isubn h (by omega) dX12_takeClose_25 ?_
  refine x_aload_n h dX12_takeClose_26 rfl ?_
  refine x_getR h hF.1 f_X12_67 rfl (md_open hF).1 dX12_takeClose_27 ?_
  refine x_aload_n h dX12_takeClose_30 rfl ?_
  refine x_getIv h hF.1 f_X12_133 rfl (show _ = nI (U 0 31 - 1) from (mt_f M m _ (by decide)).trans (congrArg nI (by simp [nnU, tU]))) dX12_takeClose_31 ?_
  refine x_ialdv h (U 0 31 - 1) (md_open hF).2 (ix.ni (by omega) (by decide)) (show _ = nI (opU U) from (mt_get M m _ (by simp [regR])).trans (congrArg nI (by simp [nnU, tU, opU]))) dX12_takeClose_34 ?_
  rw [show U 0 22 + 1 - 1 = U 0 22 by omega]
  refine x_iast h (U 0 22) (md_readLeads hF).2 (ix.ni (j := U 0 22) (by omega) (by decide)) dX12_takeClose_35 ?_
  refine x_mem (mt_set M m _ _ (by simp [regR])) ?_
  refine x_aload_n h dX12_takeClose_36 rfl ?_
  refine x_getR h hF.1 f_X12_55 rfl (md_readLeads hF).1 dX12_takeClose_37 ?_
  refine x_aload_n h dX12_takeClose_40 rfl ?_
  refine x_getR h hF.1 f_X12_67 rfl (md_open hF).1 dX12_takeClose_41 ?_
  refine x_aload_n h dX12_takeClose_44 rfl ?_
  refine x_getIv h hF.1 f_X12_133 rfl (show _ = nI (U 0 31 - 1) from (mt_f M m _ (by decide)).trans (congrArg nI (by simp [nnU, tU]))) dX12_takeClose_45 ?_
  refine x_ialdv h (U 0 31 - 1) (md_open hF).2 (ix.ni (by omega) (by decide)) (show _ = nI (opU U) from (mt_get M m _ (by simp [regR])).trans (congrArg nI (by simp [nnU, tU, opU]))) dX12_takeClose_48 ?_
  refine x_aload_n h dX12_takeClose_49 rfl ?_
  refine x_getIv h hF.1 f_X12_130 rfl (show _ = nI (U 0 22 + 1) from (mt_f M m _ (by decide)).trans (congrArg nI (by simp [nnU, tU]))) dX12_takeClose_50 ?_
  refine x_iast h (opU U) (md_readLeads hF).2 (ix.ni (by omega) (by decide)) dX12_takeClose_53 ?_
  refine x_mem (mt_set M m _ _ (by simp [regR])) ?_
  refine x_ic1 h dX12_takeClose_54 ?_
  exact x_zret h hQ rfl (by decide) dX12_takeClose_55 ⟨rfl, rfl, _, rfl, rfl, rfl⟩
theorem c_X12_takeBar {Γ : GT} {G : GG} {M : MM} {m : Nat} (hF : mdF G M.2.2 m) {U : RT} (hn : U 0 22 < 61) (h31 : U 0 31 < 8) (h1 : 1 ≤ U 0 31) (ho : opU U < U 0 22) : Calls Γ q_X12_takeBar [.ref m] G (mtM M m U) (rI (fun y M' => y = 1 ∧ M' = mtM M m (baU U))) := by
  refine Calls.intro (by decide +kernel) (Nat.le_of_ble_eq_true rfl) (fun z E h hQ => ?_)
  refine x_loc (L' := [some (.ref m)]) rfl ?_
  refine x_aload_n h dX12_takeBar_0 rfl ?_
  refine x_bipush h (nI 9) (by decide) dX12_takeBar_1 ?_
  refine x_cVv h ci_X12_newNode im_X12_newNode l_X12_140 ⟨Nat.le_of_ble_eq_true rfl, Nat.le_of_ble_eq_true rfl⟩ ⟨rfl, rfl⟩ ⟨Nat.zero_le _, Nat.zero_le _⟩ (c_X12_newNode hF (U := U) (k := 9) (by omega)) rfl rfl rfl rfl hF.1 (by decide) rfl dX12_takeBar_3 (fun M3 hp3 => ?_)
  subst hp3
  refine x_aload_n h dX12_takeBar_6 rfl ?_
  refine x_getR h hF.1 f_X12_55 rfl (md_readLeads hF).1 dX12_takeBar_7 ?_
  refine x_aload_n h dX12_takeBar_10 rfl ?_
  refine x_getR h hF.1 f_X12_67 rfl (md_open hF).1 dX12_takeBar_11 ?_
  refine x_aload_n h dX12_takeBar_14 rfl ?_
  refine x_getIv h hF.1 f_X12_133 rfl (show _ = nI (U 0 31) from (mt_f M m _ (by decide)).trans (congrArg nI (by simp [nnU, tU]))) dX12_takeBar_15 ?_
  refine x_in1 h dX12_takeBar_18 ?_
  refine x_isubn h (by omega) dX12_takeBar_19 ?_
  refine x_ialdv h (U 0 31 - 1) (md_open hF).2 (ix.ni (by omega) (by decide)) (show _ = nI (opU U) from (mt_get M m _ (by simp [regR])).trans (congrArg nI (by simp [nnU, tU, opU]))) dX12_takeBar_20 ?_
  refine x_aload_n h dX12_takeBar_21 rfl ?_
  refine x_getIv h hF.1 f_X12_130 rfl (show _ = nI (U 0 22 + 1) from (mt_f M m _ (by decide)).trans (congrArg nI (by simp [nnU, tU]))) dX12_takeBar_22 ?_
  refine x_iast h (opU U) (md_readLeads hF).2 (ix.ni (by omega) (by decide)) dX12_takeBar_25 ?_
  refine x_mem (mt_set M m _ _ (by simp [regR])) ?_
  refine x_aload_n h dX12_takeBar_26 rfl ?_
  refine x_getR h hF.1 f_X12_67 rfl (md_open hF).1 dX12_takeBar_27 ?_
  refine x_aload_n h dX12_takeBar_30 rfl ?_
  refine x_getIv h hF.1 f_X12_133 rfl (show _ = nI (U 0 31) from (mt_f M m _ (by decide)).trans (congrArg nI (by simp [nnU, tU]))) dX12_takeBar_31 ?_
  refine x_in1 h dX12_takeBar_34 ?_
  refine x_isubn h (by omega) dX12_takeBar_35 ?_
  refine x_aload_n h dX12_takeBar_36 rfl ?_
  refine x_getIv h hF.1 f_X12_130 rfl (show _ = nI (U 0 22 + 1) from (mt_f M m _ (by decide)).trans (congrArg nI (by simp [nnU, tU]))) dX12_takeBar_37 ?_
  refine x_in1 h dX12_takeBar_40 ?_
  refine x_isubn h (by omega) dX12_takeBar_41 ?_
  rw [show U 0 22 + 1 - 1 = U 0 22 by omega]
  refine x_iast h (U 0 31 - 1) (md_open hF).2 (ix.ni (by omega) (by decide)) dX12_takeBar_42 ?_
  refine x_mem (mt_set M m _ _ (by simp [regR])) ?_
  refine x_ic1 h dX12_takeBar_43 ?_
  exact x_zret h hQ rfl (by decide) dX12_takeBar_44 ⟨rfl, rfl, _, rfl, rfl, rfl⟩
theorem c_X12_takeJoin {Γ : GT} {G : GG} {M : MM} {m : Nat} (hF : mdF G M.2.2 m) {U : RT} (hn : U 0 22 < 61) (h31 : U 0 31 < 8) (h1 : 1 ≤ U 0 31) (ho : opU U < U 0 22) : Calls Γ q_X12_takeJoin [.ref m] G (mtM M m U) (rI (fun y M' => y = 1 ∧ M' = mtM M m (jnU U))) := by
  refine Calls.intro (by decide +kernel) (Nat.le_of_ble_eq_true rfl) (fun z E h hQ => ?_)
  refine x_loc (L' := [some (.ref m)]) rfl ?_
  refine x_aload_n h dX12_takeJoin_0 rfl ?_
  refine x_dup h rfl dX12_takeJoin_1 ?_
  refine x_getIv h hF.1 f_X12_133 rfl (mt_f M m U (j := 31) (by decide)) dX12_takeJoin_2 ?_
  refine x_in1 h dX12_takeJoin_5 ?_
  refine x_isubn h (by omega) dX12_takeJoin_6 ?_
  refine x_putI h hF.1 f_X12_133 rfl rfl dX12_takeJoin_7 ?_
  refine x_mem (mt_set0 M m _ _ (by decide)) ?_
  refine x_aload_n h dX12_takeJoin_10 rfl ?_
  refine x_bipush h (nI 10) (by decide) dX12_takeJoin_11 ?_
  refine x_cVv h ci_X12_newNode im_X12_newNode l_X12_140 ⟨Nat.le_of_ble_eq_true rfl, Nat.le_of_ble_eq_true rfl⟩ ⟨rfl, rfl⟩ ⟨Nat.zero_le _, Nat.zero_le _⟩ (c_X12_newNode hF (U := tU U 0 31 (U 0 31 - 1)) (k := 10) (by simp [tU]; omega)) rfl rfl rfl rfl hF.1 (by decide) rfl dX12_takeJoin_13 (fun M13 hp13 => ?_)
  subst hp13
  refine x_aload_n h dX12_takeJoin_16 rfl ?_
  refine x_getR h hF.1 f_X12_55 rfl (md_readLeads hF).1 dX12_takeJoin_17 ?_
  refine x_aload_n h dX12_takeJoin_20 rfl ?_
  refine x_getR h hF.1 f_X12_67 rfl (md_open hF).1 dX12_takeJoin_21 ?_
  refine x_aload_n h dX12_takeJoin_24 rfl ?_
  refine x_getIv h hF.1 f_X12_133 rfl (show _ = nI (U 0 31 - 1) from (mt_f M m _ (by decide)).trans (congrArg nI (by simp [nnU, tU]))) dX12_takeJoin_25 ?_
  refine x_ialdv h (U 0 31 - 1) (md_open hF).2 (ix.ni (by omega) (by decide)) (show _ = nI (opU U) from (mt_get M m _ (by simp [regR])).trans (congrArg nI (by simp [nnU, tU, opU]))) dX12_takeJoin_28 ?_
  refine x_aload_n h dX12_takeJoin_29 rfl ?_
  refine x_getIv h hF.1 f_X12_130 rfl (show _ = nI (U 0 22 + 1) from (mt_f M m _ (by decide)).trans (congrArg nI (by simp [nnU, tU]))) dX12_takeJoin_30 ?_
  refine x_in1 h dX12_takeJoin_33 ?_
  refine x_isubn h (by omega) dX12_takeJoin_34 ?_
  rw [show U 0 22 + 1 - 1 = U 0 22 by omega]
  refine x_iast h (opU U) (md_readLeads hF).2 (ix.ni (by omega) (by decide)) dX12_takeJoin_35 ?_
  refine x_mem (mt_set M m _ _ (by simp [regR])) ?_
  refine x_ic1 h dX12_takeJoin_36 ?_
  exact x_zret h hQ rfl (by decide) dX12_takeJoin_37 ⟨rfl, rfl, _, rfl, rfl, rfl⟩
theorem c_X12_takeGuess {Γ : GT} {G : GG} {M : MM} {m : Nat} (hF : mdF G M.2.2 m) {U : RT} (h5 : U 0 26 ≤ 5) : Calls Γ q_X12_takeGuess [.ref m] G (mtM M m U) (rI (fun y M' => (U 0 26 = 5 → y = 0 ∧ M' = mtM M m U) ∧ (¬ U 0 26 = 5 → y = 1 ∧ M' = mtM M m (gsU U)))) := by
  refine Calls.intro (by decide +kernel) (Nat.le_of_ble_eq_true rfl) (fun z E h hQ => ?_)
  refine x_loc (L' := [some (.ref m)]) rfl ?_
  refine x_aload_n h dX12_takeGuess_0 rfl ?_
  refine x_getIv h hF.1 f_X12_180 rfl (mt_f M m U (j := 26) (by decide)) dX12_takeGuess_1 ?_
  refine x_in5 h dX12_takeGuess_4 ?_
  refine x_icmp_ne h 10 dX12_takeGuess_5 (by decide) (fun c5 => ?_) (fun c5 => ?_)
  · have e : ¬ U 0 26 = 5 := fun q => c5 (by rw [q])
    refine x_aload_n h dX12_takeGuess_10 rfl ?_
    refine x_dup h rfl dX12_takeGuess_11 ?_
    refine x_getIv h hF.1 f_X12_180 rfl (mt_f M m U (j := 26) (by decide)) dX12_takeGuess_12 ?_
    refine x_in1 h dX12_takeGuess_15 ?_
    refine x_iaddn h  dX12_takeGuess_16 ?_
    refine x_putI h hF.1 f_X12_180 rfl rfl dX12_takeGuess_17 ?_
    refine x_mem (mt_set0 M m _ _ (by decide)) ?_
    refine x_aload_n h dX12_takeGuess_20 rfl ?_
    refine x_in3 h dX12_takeGuess_21 ?_
    refine x_putI h hF.1 f_X12_144 rfl rfl dX12_takeGuess_22 ?_
    refine x_mem (mt_set0 M m _ _ (by decide)) ?_
    refine x_ic1 h dX12_takeGuess_25 ?_
    exact x_zret h hQ rfl (by decide) dX12_takeGuess_26 ⟨rfl, rfl, _, rfl, fun q => absurd q e, fun _ => ⟨rfl, rfl⟩⟩
  · have e : U 0 26 = 5 := nI_small 5 (by omega) (by decide) c5
    refine x_ic0 h dX12_takeGuess_8 ?_
    exact x_zret h hQ rfl (by decide) dX12_takeGuess_9 ⟨rfl, rfl, _, rfl, fun _ => ⟨rfl, rfl⟩, fun q => absurd e q⟩
def ddK (ch : Nat) : Nat := if ch = 61 then 0 else if ch = 43 then 1 else if ch = 45 then 2 else if ch = 63 then 3 else 4294967287
theorem c_X12_takeDeed {Γ : GT} {G : GG} {M : MM} {m : Nat} (hF : mdF G M.2.2 m) {U : RT} {ch : Nat} (hc : ch < 256) (hn : U 0 22 < 62) (h1 : 1 ≤ U 0 22) : Calls Γ q_X12_takeDeed [.ref m, .int (nI ch)] G (mtM M m U) (rI (fun y M' => y = b2i (decide (ddK ch < 4)) ∧ M' = mtM M m (ddU U (ddK ch)))) := by
  refine Calls.intro (by decide +kernel) (Nat.le_of_ble_eq_true rfl) (fun z E h hQ => ?_)
  refine x_loc (L' := [some (.ref m), some (.int (nI ch)), none]) rfl ?_
  refine x_iload_n h dX12_takeDeed_0 rfl ?_
  refine x_bipush h (nI 61) (by decide) dX12_takeDeed_1 ?_
  refine x_icmp_ne h 10 dX12_takeDeed_3 (by decide) (fun c3 => ?_) (fun c3 => ?_)
  · have e1 : ¬ ch = 61 := fun q => c3 (by rw [q])
    refine x_iload_n h dX12_takeDeed_10 rfl ?_
    refine x_bipush h (nI 43) (by decide) dX12_takeDeed_11 ?_
    refine x_icmp_ne h 20 dX12_takeDeed_13 (by decide) (fun c13 => ?_) (fun c13 => ?_)
    · have e2 : ¬ ch = 43 := fun q => c13 (by rw [q])
      refine x_iload_n h dX12_takeDeed_20 rfl ?_
      refine x_bipush h (nI 45) (by decide) dX12_takeDeed_21 ?_
      refine x_icmp_ne h 30 dX12_takeDeed_23 (by decide) (fun c23 => ?_) (fun c23 => ?_)
      · have e3 : ¬ ch = 45 := fun q => c23 (by rw [q])
        refine x_iload_n h dX12_takeDeed_30 rfl ?_
        refine x_bipush h (nI 63) (by decide) dX12_takeDeed_31 ?_
        refine x_icmp_ne h 40 dX12_takeDeed_33 (by decide) (fun c33 => ?_) (fun c33 => ?_)
        · have e4 : ¬ ch = 63 := fun q => c33 (by rw [q])
          refine x_bipush h (-9) (by decide) dX12_takeDeed_40 ?_
          refine x_topi (y := nI (ddK ch)) (by rw [ddK, if_neg e1, if_neg e2, if_neg e3, if_neg e4]; decide) ?_
          refine x_istore_n h dX12_takeDeed_42 rfl rfl ?_
          dsimp only [List.set]
          refine x_aload_n h dX12_takeDeed_43 rfl ?_
          refine x_getR h hF.1 f_X12_40 rfl (md_readKind hF).1 dX12_takeDeed_44 ?_
          refine x_aload_n h dX12_takeDeed_47 rfl ?_
          refine x_getIv h hF.1 f_X12_130 rfl (mt_f M m U (j := 22) (by decide)) dX12_takeDeed_48 ?_
          refine x_in1 h dX12_takeDeed_51 ?_
          refine x_isubn h h1 dX12_takeDeed_52 ?_
          refine x_iload_n h dX12_takeDeed_53 rfl ?_
          refine x_iast h (U 0 22 - 1) (md_readKind hF).2 (ix.ni (by omega) (by decide)) dX12_takeDeed_54 ?_
          refine x_mem (mt_set M m _ _ (by simp [regR])) ?_
          refine x_aload_n h dX12_takeDeed_55 rfl ?_
          refine x_iload_n h dX12_takeDeed_56 rfl ?_
          refine x_if_ne h 64 dX12_takeDeed_57 (by decide) (fun c57 => ?_) (fun c57 => ?_)
          · refine x_in0 h dX12_takeDeed_64 ?_
            refine x_putI h hF.1 f_X12_144 rfl rfl dX12_takeDeed_65 ?_
            refine x_mem (mt_set0 M m _ _ (by decide)) ?_
            refine x_iload_n h dX12_takeDeed_68 rfl ?_
            refine x_bipush h (-9) (by decide) dX12_takeDeed_69 ?_
            refine x_icmp_eq h 78 dX12_takeDeed_71 (by decide) (fun c71 => ?_) (fun c71 => ?_)
            · refine x_ic0 h dX12_takeDeed_78 ?_
              exact x_zret h hQ rfl (by decide) dX12_takeDeed_79 ⟨rfl, rfl, _, rfl, b2i_f (decide_eq_false (by rw [ddK, if_neg e1, if_neg e2, if_neg e3, if_neg e4]; decide)), by rw [ddU, if_neg (by rw [ddK, if_neg e1, if_neg e2, if_neg e3, if_neg e4]; decide)]⟩
            · exact absurd (show nI (ddK ch) = -9 from by rw [ddK, if_neg e1, if_neg e2, if_neg e3, if_neg e4]; decide) c71
          · exact absurd (show nI (ddK ch) = 0 from c57) (by rw [ddK, if_neg e1, if_neg e2, if_neg e3, if_neg e4]; decide)
        · have e4 : ch = 63 := nI_small 63 (by omega) (by decide) c33
          subst e4
          refine x_in3 h dX12_takeDeed_36 ?_
          refine x_goto h 42 dX12_takeDeed_37 (by decide) ?_
          refine x_topi (y := nI (ddK 63)) rfl ?_
          refine x_istore_n h dX12_takeDeed_42 rfl rfl ?_
          dsimp only [List.set]
          refine x_aload_n h dX12_takeDeed_43 rfl ?_
          refine x_getR h hF.1 f_X12_40 rfl (md_readKind hF).1 dX12_takeDeed_44 ?_
          refine x_aload_n h dX12_takeDeed_47 rfl ?_
          refine x_getIv h hF.1 f_X12_130 rfl (mt_f M m U (j := 22) (by decide)) dX12_takeDeed_48 ?_
          refine x_in1 h dX12_takeDeed_51 ?_
          refine x_isubn h h1 dX12_takeDeed_52 ?_
          refine x_iload_n h dX12_takeDeed_53 rfl ?_
          refine x_iast h (U 0 22 - 1) (md_readKind hF).2 (ix.ni (by omega) (by decide)) dX12_takeDeed_54 ?_
          refine x_mem (mt_set M m _ _ (by simp [regR])) ?_
          refine x_aload_n h dX12_takeDeed_55 rfl ?_
          refine x_iload_n h dX12_takeDeed_56 rfl ?_
          refine x_if_ne h 64 dX12_takeDeed_57 (by decide) (fun c57 => ?_) (fun c57 => ?_)
          · refine x_in0 h dX12_takeDeed_64 ?_
            refine x_putI h hF.1 f_X12_144 rfl rfl dX12_takeDeed_65 ?_
            refine x_mem (mt_set0 M m _ _ (by decide)) ?_
            refine x_iload_n h dX12_takeDeed_68 rfl ?_
            refine x_bipush h (-9) (by decide) dX12_takeDeed_69 ?_
            refine x_icmp_eq h 78 dX12_takeDeed_71 (by decide) (fun c71 => ?_) (fun c71 => ?_)
            · exact absurd c71 (by decide)
            · refine x_ic1 h dX12_takeDeed_74 ?_
              refine x_goto h 79 dX12_takeDeed_75 (by decide) ?_
              exact x_zret h hQ rfl (by decide) dX12_takeDeed_79 ⟨rfl, rfl, _, rfl, rfl, rfl⟩
          · exact absurd c57 (by decide)
      · have e3 : ch = 45 := nI_small 45 (by omega) (by decide) c23
        subst e3
        refine x_in2 h dX12_takeDeed_26 ?_
        refine x_goto h 42 dX12_takeDeed_27 (by decide) ?_
        refine x_topi (y := nI (ddK 45)) rfl ?_
        refine x_istore_n h dX12_takeDeed_42 rfl rfl ?_
        dsimp only [List.set]
        refine x_aload_n h dX12_takeDeed_43 rfl ?_
        refine x_getR h hF.1 f_X12_40 rfl (md_readKind hF).1 dX12_takeDeed_44 ?_
        refine x_aload_n h dX12_takeDeed_47 rfl ?_
        refine x_getIv h hF.1 f_X12_130 rfl (mt_f M m U (j := 22) (by decide)) dX12_takeDeed_48 ?_
        refine x_in1 h dX12_takeDeed_51 ?_
        refine x_isubn h h1 dX12_takeDeed_52 ?_
        refine x_iload_n h dX12_takeDeed_53 rfl ?_
        refine x_iast h (U 0 22 - 1) (md_readKind hF).2 (ix.ni (by omega) (by decide)) dX12_takeDeed_54 ?_
        refine x_mem (mt_set M m _ _ (by simp [regR])) ?_
        refine x_aload_n h dX12_takeDeed_55 rfl ?_
        refine x_iload_n h dX12_takeDeed_56 rfl ?_
        refine x_if_ne h 64 dX12_takeDeed_57 (by decide) (fun c57 => ?_) (fun c57 => ?_)
        · refine x_in0 h dX12_takeDeed_64 ?_
          refine x_putI h hF.1 f_X12_144 rfl rfl dX12_takeDeed_65 ?_
          refine x_mem (mt_set0 M m _ _ (by decide)) ?_
          refine x_iload_n h dX12_takeDeed_68 rfl ?_
          refine x_bipush h (-9) (by decide) dX12_takeDeed_69 ?_
          refine x_icmp_eq h 78 dX12_takeDeed_71 (by decide) (fun c71 => ?_) (fun c71 => ?_)
          · exact absurd c71 (by decide)
          · refine x_ic1 h dX12_takeDeed_74 ?_
            refine x_goto h 79 dX12_takeDeed_75 (by decide) ?_
            exact x_zret h hQ rfl (by decide) dX12_takeDeed_79 ⟨rfl, rfl, _, rfl, rfl, rfl⟩
        · exact absurd c57 (by decide)
    · have e2 : ch = 43 := nI_small 43 (by omega) (by decide) c13
      subst e2
      refine x_in1 h dX12_takeDeed_16 ?_
      refine x_goto h 42 dX12_takeDeed_17 (by decide) ?_
      refine x_topi (y := nI (ddK 43)) rfl ?_
      refine x_istore_n h dX12_takeDeed_42 rfl rfl ?_
      dsimp only [List.set]
      refine x_aload_n h dX12_takeDeed_43 rfl ?_
      refine x_getR h hF.1 f_X12_40 rfl (md_readKind hF).1 dX12_takeDeed_44 ?_
      refine x_aload_n h dX12_takeDeed_47 rfl ?_
      refine x_getIv h hF.1 f_X12_130 rfl (mt_f M m U (j := 22) (by decide)) dX12_takeDeed_48 ?_
      refine x_in1 h dX12_takeDeed_51 ?_
      refine x_isubn h h1 dX12_takeDeed_52 ?_
      refine x_iload_n h dX12_takeDeed_53 rfl ?_
      refine x_iast h (U 0 22 - 1) (md_readKind hF).2 (ix.ni (by omega) (by decide)) dX12_takeDeed_54 ?_
      refine x_mem (mt_set M m _ _ (by simp [regR])) ?_
      refine x_aload_n h dX12_takeDeed_55 rfl ?_
      refine x_iload_n h dX12_takeDeed_56 rfl ?_
      refine x_if_ne h 64 dX12_takeDeed_57 (by decide) (fun c57 => ?_) (fun c57 => ?_)
      · refine x_in0 h dX12_takeDeed_64 ?_
        refine x_putI h hF.1 f_X12_144 rfl rfl dX12_takeDeed_65 ?_
        refine x_mem (mt_set0 M m _ _ (by decide)) ?_
        refine x_iload_n h dX12_takeDeed_68 rfl ?_
        refine x_bipush h (-9) (by decide) dX12_takeDeed_69 ?_
        refine x_icmp_eq h 78 dX12_takeDeed_71 (by decide) (fun c71 => ?_) (fun c71 => ?_)
        · exact absurd c71 (by decide)
        · refine x_ic1 h dX12_takeDeed_74 ?_
          refine x_goto h 79 dX12_takeDeed_75 (by decide) ?_
          exact x_zret h hQ rfl (by decide) dX12_takeDeed_79 ⟨rfl, rfl, _, rfl, rfl, rfl⟩
      · exact absurd c57 (by decide)
  · have e1 : ch = 61 := nI_small 61 (by omega) (by decide) c3
    subst e1
    refine x_in0 h dX12_takeDeed_6 ?_
    refine x_goto h 42 dX12_takeDeed_7 (by decide) ?_
    refine x_topi (y := nI (ddK 61)) rfl ?_
    refine x_istore_n h dX12_takeDeed_42 rfl rfl ?_
    dsimp only [List.set]
    refine x_aload_n h dX12_takeDeed_43 rfl ?_
    refine x_getR h hF.1 f_X12_40 rfl (md_readKind hF).1 dX12_takeDeed_44 ?_
    refine x_aload_n h dX12_takeDeed_47 rfl ?_
    refine x_getIv h hF.1 f_X12_130 rfl (mt_f M m U (j := 22) (by decide)) dX12_takeDeed_48 ?_
    refine x_in1 h dX12_takeDeed_51 ?_
    refine x_isubn h h1 dX12_takeDeed_52 ?_
    refine x_iload_n h dX12_takeDeed_53 rfl ?_
    refine x_iast h (U 0 22 - 1) (md_readKind hF).2 (ix.ni (by omega) (by decide)) dX12_takeDeed_54 ?_
    refine x_mem (mt_set M m _ _ (by simp [regR])) ?_
    refine x_aload_n h dX12_takeDeed_55 rfl ?_
    refine x_iload_n h dX12_takeDeed_56 rfl ?_
    refine x_if_ne h 64 dX12_takeDeed_57 (by decide) (fun c57 => ?_) (fun c57 => ?_)
    · exact absurd c57 (by decide)
    · refine x_in2 h dX12_takeDeed_60 ?_
      refine x_goto h 65 dX12_takeDeed_61 (by decide) ?_
      refine x_putI h hF.1 f_X12_144 rfl rfl dX12_takeDeed_65 ?_
      refine x_mem (mt_set0 M m _ _ (by decide)) ?_
      refine x_iload_n h dX12_takeDeed_68 rfl ?_
      refine x_bipush h (-9) (by decide) dX12_takeDeed_69 ?_
      refine x_icmp_eq h 78 dX12_takeDeed_71 (by decide) (fun c71 => ?_) (fun c71 => ?_)
      · exact absurd c71 (by decide)
      · refine x_ic1 h dX12_takeDeed_74 ?_
        refine x_goto h 79 dX12_takeDeed_75 (by decide) ?_
        exact x_zret h hQ rfl (by decide) dX12_takeDeed_79 ⟨rfl, rfl, _, rfl, rfl, rfl⟩
