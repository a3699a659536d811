/-! ===== the reference: a letter taken ===== -/
theorem nI_ne9 {x : Nat} (h : x < 2 ^ 31) : ¬ nI x = -9 := fun q => by
  have := congrArg Int32.toInt q
  rw [nI_toInt h] at this
  have e : (-9 : Int32).toInt = -9 := by decide
  rw [e] at this
  omega
theorem c_X12_takePart_01 {Γ : GT} {G : GG} {M : MM} {m : Nat} (hF : mdF G M.2.2 m) {U : RT} {ch : Nat} (hc : ch < 256) (hn : U 0 22 < 62) (h26 : U 0 26 ≤ 5) (h1 : 1 ≤ U 0 26 ∨ 1 ≤ U 0 22) (e : isNm ch = true) : Calls Γ q_X12_takePart [.ref m, .int (nI 0), .int (nI ch)] G (mtM M m U) (rI (fun y M' => y = 1 ∧ M' = mtM M m (ptU U 0 (ch - 97)))) := by
  have e2 : 97 ≤ ch ∧ ch ≤ 99 := of_decide_eq_true e
  refine Calls.intro (by decide +kernel) (Nat.le_of_ble_eq_true rfl) (fun z E h hQ => ?_)
  refine x_loc (L' := [some (.ref m), some (.int (nI 0)), some (.int (nI ch)), none]) rfl ?_
  refine x_iload_n h dX12_takePart_0 rfl ?_
  refine x_if_ne h 11 dX12_takePart_1 (by decide) (fun c1 => ?_) (fun c1 => ?_)
  · exact absurd c1 (by decide)
  · refine x_iload_n h dX12_takePart_4 rfl ?_
    refine x_cSi h ci_X12_variableOf sm_X12_variableOf l_X12_136 ⟨Nat.le_of_ble_eq_true rfl, Nat.le_of_ble_eq_true rfl⟩ ⟨rfl, rfl⟩ ⟨Nat.zero_le _, Nat.zero_le _⟩ (c_X12_variableOf (x := ch) (by omega)) rfl rfl rfl rfl dX12_takePart_5 (fun v5 M5 hp5 => ?_)
    obtain ⟨rfl, hM⟩ := hp5
    obtain rfl := hM.symm
    clear hM
    rw [e]
    refine x_topi (show _ = nI (ch - 97) from rfl) ?_
    refine x_goto h 36 dX12_takePart_8 (by decide) ?_
    refine x_istore_n h dX12_takePart_36 rfl rfl ?_
    dsimp only [List.set]
    refine x_iload_n h dX12_takePart_37 rfl ?_
    refine x_bipush h (-9) (by decide) dX12_takePart_38 ?_
    refine x_icmp_ne h 45 dX12_takePart_40 (by decide) (fun c40 => ?_) (fun c40 => ?_)
    · refine x_aload_n h dX12_takePart_45 rfl ?_
      refine x_getIv h hF.1 f_X12_180 rfl (show _ = nI (U 0 26) from (mt_f M m _ (by decide)).trans (congrArg nI (by first | rfl | simp [tU]))) dX12_takePart_46 ?_
      refine x_if_le h 106 dX12_takePart_49 (by decide) (fun c49 => ?_) (fun c49 => ?_)
      · have eg : ¬ 0 < U 0 26 := by
          have := (nI_le_iff (a := U 0 26) (b := 0) (by omega) (by decide)).mp c49
          omega
        refine x_iload_n h dX12_takePart_106 rfl ?_
        refine x_if_ne h 125 dX12_takePart_107 (by decide) (fun c107 => ?_) (fun c107 => ?_)
        · exact absurd c107 (by decide)
        · refine x_aload_n h dX12_takePart_110 rfl ?_
          refine x_getR h hF.1 f_X12_43 rfl (md_readVariable hF).1 dX12_takePart_111 ?_
          refine x_aload_n h dX12_takePart_114 rfl ?_
          refine x_getIv h hF.1 f_X12_130 rfl (show _ = nI (U 0 22) from (mt_f M m _ (by decide)).trans (congrArg nI (by first | rfl | simp [tU]))) dX12_takePart_115 ?_
          refine x_in1 h dX12_takePart_118 ?_
          refine x_isubn h (by omega) dX12_takePart_119 ?_
          refine x_iload_n h dX12_takePart_120 rfl ?_
          refine x_iast h (U 0 22 - 1) (md_readVariable hF).2 (ix.ni (by omega) (by decide)) dX12_takePart_121 ?_
          refine x_mem (mt_set M m _ _ (by simp [regR])) ?_
          refine x_goto h 157 dX12_takePart_122 (by decide) ?_
          refine x_aload_n h dX12_takePart_157 rfl ?_
          refine x_iload_n h dX12_takePart_158 rfl ?_
          refine x_if_ne h 166 dX12_takePart_159 (by decide) (fun c159 => ?_) (fun c159 => ?_)
          · exact absurd c159 (by decide)
          · refine x_in4 h dX12_takePart_162 ?_
            refine x_goto h 188 dX12_takePart_163 (by decide) ?_
            refine x_putI h hF.1 f_X12_144 rfl rfl dX12_takePart_188 ?_
            refine x_mem (mt_set0 M m _ _ (by decide)) ?_
            refine x_ic1 h dX12_takePart_191 ?_
            exact x_zret h hQ rfl (by decide) dX12_takePart_192 ⟨rfl, rfl, _, rfl, rfl, by rw [ptU, if_neg eg]; rfl⟩
      · have eg : 0 < U 0 26 := by
          have := mt (nI_le_iff (a := U 0 26) (b := 0) (by omega) (by decide)).mpr c49
          omega
        refine x_iload_n h dX12_takePart_52 rfl ?_
        refine x_if_ne h 71 dX12_takePart_53 (by decide) (fun c53 => ?_) (fun c53 => ?_)
        · exact absurd c53 (by decide)
        · refine x_aload_n h dX12_takePart_56 rfl ?_
          refine x_getR h hF.1 f_X12_58 rfl (md_readGuessVariable hF).1 dX12_takePart_57 ?_
          refine x_aload_n h dX12_takePart_60 rfl ?_
          refine x_getIv h hF.1 f_X12_180 rfl (show _ = nI (U 0 26) from (mt_f M m _ (by decide)).trans (congrArg nI (by first | rfl | simp [tU]))) dX12_takePart_61 ?_
          refine x_in1 h dX12_takePart_64 ?_
          refine x_isubn h (by omega) dX12_takePart_65 ?_
          refine x_iload_n h dX12_takePart_66 rfl ?_
          refine x_iast h (U 0 26 - 1) (md_readGuessVariable hF).2 (ix.ni (by omega) (by decide)) dX12_takePart_67 ?_
          refine x_mem (mt_set M m _ _ (by simp [regR])) ?_
          refine x_goto h 157 dX12_takePart_68 (by decide) ?_
          refine x_aload_n h dX12_takePart_157 rfl ?_
          refine x_iload_n h dX12_takePart_158 rfl ?_
          refine x_if_ne h 166 dX12_takePart_159 (by decide) (fun c159 => ?_) (fun c159 => ?_)
          · exact absurd c159 (by decide)
          · refine x_in4 h dX12_takePart_162 ?_
            refine x_goto h 188 dX12_takePart_163 (by decide) ?_
            refine x_putI h hF.1 f_X12_144 rfl rfl dX12_takePart_188 ?_
            refine x_mem (mt_set0 M m _ _ (by decide)) ?_
            refine x_ic1 h dX12_takePart_191 ?_
            exact x_zret h hQ rfl (by decide) dX12_takePart_192 ⟨rfl, rfl, _, rfl, rfl, by rw [ptU, if_pos eg]; rfl⟩
    · exact absurd c40 (nI_ne9 (by omega))
theorem c_X12_takePart_00 {Γ : GT} {G : GG} {M : MM} {m : Nat} (hF : mdF G M.2.2 m) {U : RT} {ch : Nat} (hc : ch < 256) (hn : U 0 22 < 62) (h26 : U 0 26 ≤ 5) (h1 : 1 ≤ U 0 26 ∨ 1 ≤ U 0 22) (e : isNm ch = false) : Calls Γ q_X12_takePart [.ref m, .int (nI 0), .int (nI ch)] G (mtM M m U) (rI (fun y M' => y = 0 ∧ M' = mtM M m U)) := by
  refine Calls.intro (by decide +kernel) (Nat.le_of_ble_eq_true rfl) (fun z E h hQ => ?_)
  refine x_loc (L' := [some (.ref m), some (.int (nI 0)), some (.int (nI ch)), none]) rfl ?_
  refine x_iload_n h dX12_takePart_0 rfl ?_
  refine x_if_ne h 11 dX12_takePart_1 (by decide) (fun c1 => ?_) (fun c1 => ?_)
  · exact absurd c1 (by decide)
  · refine x_iload_n h dX12_takePart_4 rfl ?_
    refine x_cSi h ci_X12_variableOf sm_X12_variableOf l_X12_136 ⟨Nat.le_of_ble_eq_true rfl, Nat.le_of_ble_eq_true rfl⟩ ⟨rfl, rfl⟩ ⟨Nat.zero_le _, Nat.zero_le _⟩ (c_X12_variableOf (x := ch) (by omega)) rfl rfl rfl rfl dX12_takePart_5 (fun v5 M5 hp5 => ?_)
    obtain ⟨rfl, hM⟩ := hp5
    obtain rfl := hM.symm
    clear hM
    rw [e]
    refine x_topi (show _ = -9 from rfl) ?_
    refine x_goto h 36 dX12_takePart_8 (by decide) ?_
    refine x_istore_n h dX12_takePart_36 rfl rfl ?_
    dsimp only [List.set]
    refine x_iload_n h dX12_takePart_37 rfl ?_
    refine x_bipush h (-9) (by decide) dX12_takePart_38 ?_
    refine x_icmp_ne h 45 dX12_takePart_40 (by decide) (fun c40 => ?_) (fun c40 => ?_)
    · exact absurd rfl c40
    · refine x_ic0 h dX12_takePart_43 ?_
      exact x_zret h hQ rfl (by decide) dX12_takePart_44 ⟨rfl, rfl, _, rfl, rfl, rfl⟩
theorem c_X12_takePart_11 {Γ : GT} {G : GG} {M : MM} {m : Nat} (hF : mdF G M.2.2 m) {U : RT} {ch : Nat} (hc : ch < 256) (hn : U 0 22 < 62) (h26 : U 0 26 ≤ 5) (h1 : 1 ≤ U 0 26 ∨ 1 ≤ U 0 22) (e : isSg ch = true) : Calls Γ q_X12_takePart [.ref m, .int (nI 1), .int (nI ch)] G (mtM M m U) (rI (fun y M' => y = 1 ∧ M' = mtM M m (ptU U 1 ch))) := by
  refine Calls.intro (by decide +kernel) (Nat.le_of_ble_eq_true rfl) (fun z E h hQ => ?_)
  refine x_loc (L' := [some (.ref m), some (.int (nI 1)), some (.int (nI ch)), none]) rfl ?_
  refine x_iload_n h dX12_takePart_0 rfl ?_
  refine x_if_ne h 11 dX12_takePart_1 (by decide) (fun c1 => ?_) (fun c1 => ?_)
  · refine x_iload_n h dX12_takePart_11 rfl ?_
    refine x_in1 h dX12_takePart_12 ?_
    refine x_icmp_ne h 32 dX12_takePart_13 (by decide) (fun c13 => ?_) (fun c13 => ?_)
    · exact absurd c13 (by decide)
    · refine x_iload_n h dX12_takePart_16 rfl ?_
      refine x_cSi h ci_X12_isCompare sm_X12_isCompare l_X12_183 ⟨Nat.le_of_ble_eq_true rfl, Nat.le_of_ble_eq_true rfl⟩ ⟨rfl, rfl⟩ ⟨Nat.zero_le _, Nat.zero_le _⟩ (c_X12_isCompare (x := ch) (by omega)) rfl rfl rfl rfl dX12_takePart_17 (fun v17 M17 hp17 => ?_)
      obtain ⟨rfl, hM⟩ := hp17
      obtain rfl := hM.symm
      clear hM
      refine x_if_eq h 27 dX12_takePart_20 (by decide) (fun c20 => ?_) (fun c20 => ?_)
      · exact absurd (e.symm.trans (b2i_0.mp c20)) (by decide)
      · refine x_iload_n h dX12_takePart_23 rfl ?_
        refine x_goto h 36 dX12_takePart_24 (by decide) ?_
        refine x_istore_n h dX12_takePart_36 rfl rfl ?_
        dsimp only [List.set]
        refine x_iload_n h dX12_takePart_37 rfl ?_
        refine x_bipush h (-9) (by decide) dX12_takePart_38 ?_
        refine x_icmp_ne h 45 dX12_takePart_40 (by decide) (fun c40 => ?_) (fun c40 => ?_)
        · refine x_aload_n h dX12_takePart_45 rfl ?_
          refine x_getIv h hF.1 f_X12_180 rfl (show _ = nI (U 0 26) from (mt_f M m _ (by decide)).trans (congrArg nI (by first | rfl | simp [tU]))) dX12_takePart_46 ?_
          refine x_if_le h 106 dX12_takePart_49 (by decide) (fun c49 => ?_) (fun c49 => ?_)
          · have eg : ¬ 0 < U 0 26 := by
              have := (nI_le_iff (a := U 0 26) (b := 0) (by omega) (by decide)).mp c49
              omega
            refine x_iload_n h dX12_takePart_106 rfl ?_
            refine x_if_ne h 125 dX12_takePart_107 (by decide) (fun c107 => ?_) (fun c107 => ?_)
            · refine x_iload_n h dX12_takePart_125 rfl ?_
              refine x_in1 h dX12_takePart_126 ?_
              refine x_icmp_ne h 145 dX12_takePart_127 (by decide) (fun c127 => ?_) (fun c127 => ?_)
              · exact absurd c127 (by decide)
              · refine x_aload_n h dX12_takePart_130 rfl ?_
                refine x_getR h hF.1 f_X12_46 rfl (md_readSign hF).1 dX12_takePart_131 ?_
                refine x_aload_n h dX12_takePart_134 rfl ?_
                refine x_getIv h hF.1 f_X12_130 rfl (show _ = nI (U 0 22) from (mt_f M m _ (by decide)).trans (congrArg nI (by first | rfl | simp [tU]))) dX12_takePart_135 ?_
                refine x_in1 h dX12_takePart_138 ?_
                refine x_isubn h (by omega) dX12_takePart_139 ?_
                refine x_iload_n h dX12_takePart_140 rfl ?_
                refine x_iast h (U 0 22 - 1) (md_readSign hF).2 (ix.ni (by omega) (by decide)) dX12_takePart_141 ?_
                refine x_mem (mt_set M m _ _ (by simp [regR])) ?_
                refine x_goto h 157 dX12_takePart_142 (by decide) ?_
                refine x_aload_n h dX12_takePart_157 rfl ?_
                refine x_iload_n h dX12_takePart_158 rfl ?_
                refine x_if_ne h 166 dX12_takePart_159 (by decide) (fun c159 => ?_) (fun c159 => ?_)
                · refine x_iload_n h dX12_takePart_166 rfl ?_
                  refine x_in1 h dX12_takePart_167 ?_
                  refine x_icmp_ne h 175 dX12_takePart_168 (by decide) (fun c168 => ?_) (fun c168 => ?_)
                  · exact absurd c168 (by decide)
                  · refine x_in5 h dX12_takePart_171 ?_
                    refine x_goto h 188 dX12_takePart_172 (by decide) ?_
                    refine x_putI h hF.1 f_X12_144 rfl rfl dX12_takePart_188 ?_
                    refine x_mem (mt_set0 M m _ _ (by decide)) ?_
                    refine x_ic1 h dX12_takePart_191 ?_
                    exact x_zret h hQ rfl (by decide) dX12_takePart_192 ⟨rfl, rfl, _, rfl, rfl, by rw [ptU, if_neg eg]; rfl⟩
                · exact absurd c159 (by decide)
            · exact absurd c107 (by decide)
          · have eg : 0 < U 0 26 := by
              have := mt (nI_le_iff (a := U 0 26) (b := 0) (by omega) (by decide)).mpr c49
              omega
            refine x_iload_n h dX12_takePart_52 rfl ?_
            refine x_if_ne h 71 dX12_takePart_53 (by decide) (fun c53 => ?_) (fun c53 => ?_)
            · refine x_iload_n h dX12_takePart_71 rfl ?_
              refine x_in1 h dX12_takePart_72 ?_
              refine x_icmp_ne h 91 dX12_takePart_73 (by decide) (fun c73 => ?_) (fun c73 => ?_)
              · exact absurd c73 (by decide)
              · refine x_aload_n h dX12_takePart_76 rfl ?_
                refine x_getR h hF.1 f_X12_61 rfl (md_readGuessSign hF).1 dX12_takePart_77 ?_
                refine x_aload_n h dX12_takePart_80 rfl ?_
                refine x_getIv h hF.1 f_X12_180 rfl (show _ = nI (U 0 26) from (mt_f M m _ (by decide)).trans (congrArg nI (by first | rfl | simp [tU]))) dX12_takePart_81 ?_
                refine x_in1 h dX12_takePart_84 ?_
                refine x_isubn h (by omega) dX12_takePart_85 ?_
                refine x_iload_n h dX12_takePart_86 rfl ?_
                refine x_iast h (U 0 26 - 1) (md_readGuessSign hF).2 (ix.ni (by omega) (by decide)) dX12_takePart_87 ?_
                refine x_mem (mt_set M m _ _ (by simp [regR])) ?_
                refine x_goto h 157 dX12_takePart_88 (by decide) ?_
                refine x_aload_n h dX12_takePart_157 rfl ?_
                refine x_iload_n h dX12_takePart_158 rfl ?_
                refine x_if_ne h 166 dX12_takePart_159 (by decide) (fun c159 => ?_) (fun c159 => ?_)
                · refine x_iload_n h dX12_takePart_166 rfl ?_
                  refine x_in1 h dX12_takePart_167 ?_
                  refine x_icmp_ne h 175 dX12_takePart_168 (by decide) (fun c168 => ?_) (fun c168 => ?_)
                  · exact absurd c168 (by decide)
                  · refine x_in5 h dX12_takePart_171 ?_
                    refine x_goto h 188 dX12_takePart_172 (by decide) ?_
                    refine x_putI h hF.1 f_X12_144 rfl rfl dX12_takePart_188 ?_
                    refine x_mem (mt_set0 M m _ _ (by decide)) ?_
                    refine x_ic1 h dX12_takePart_191 ?_
                    exact x_zret h hQ rfl (by decide) dX12_takePart_192 ⟨rfl, rfl, _, rfl, rfl, by rw [ptU, if_pos eg]; rfl⟩
                · exact absurd c159 (by decide)
            · exact absurd c53 (by decide)
        · exact absurd c40 (nI_ne9 (by omega))
  · exact absurd c1 (by decide)
theorem c_X12_takePart_10 {Γ : GT} {G : GG} {M : MM} {m : Nat} (hF : mdF G M.2.2 m) {U : RT} {ch : Nat} (hc : ch < 256) (hn : U 0 22 < 62) (h26 : U 0 26 ≤ 5) (h1 : 1 ≤ U 0 26 ∨ 1 ≤ U 0 22) (e : isSg ch = false) : Calls Γ q_X12_takePart [.ref m, .int (nI 1), .int (nI ch)] G (mtM M m U) (rI (fun y M' => y = 0 ∧ M' = mtM M m U)) := by
  refine Calls.intro (by decide +kernel) (Nat.le_of_ble_eq_true rfl) (fun z E h hQ => ?_)
  refine x_loc (L' := [some (.ref m), some (.int (nI 1)), some (.int (nI ch)), none]) rfl ?_
  refine x_iload_n h dX12_takePart_0 rfl ?_
  refine x_if_ne h 11 dX12_takePart_1 (by decide) (fun c1 => ?_) (fun c1 => ?_)
  · refine x_iload_n h dX12_takePart_11 rfl ?_
    refine x_in1 h dX12_takePart_12 ?_
    refine x_icmp_ne h 32 dX12_takePart_13 (by decide) (fun c13 => ?_) (fun c13 => ?_)
    · exact absurd c13 (by decide)
    · refine x_iload_n h dX12_takePart_16 rfl ?_
      refine x_cSi h ci_X12_isCompare sm_X12_isCompare l_X12_183 ⟨Nat.le_of_ble_eq_true rfl, Nat.le_of_ble_eq_true rfl⟩ ⟨rfl, rfl⟩ ⟨Nat.zero_le _, Nat.zero_le _⟩ (c_X12_isCompare (x := ch) (by omega)) rfl rfl rfl rfl dX12_takePart_17 (fun v17 M17 hp17 => ?_)
      obtain ⟨rfl, hM⟩ := hp17
      obtain rfl := hM.symm
      clear hM
      refine x_if_eq h 27 dX12_takePart_20 (by decide) (fun c20 => ?_) (fun c20 => ?_)
      · refine x_bipush h (-9) (by decide) dX12_takePart_27 ?_
        refine x_goto h 36 dX12_takePart_29 (by decide) ?_
        refine x_istore_n h dX12_takePart_36 rfl rfl ?_
        dsimp only [List.set]
        refine x_iload_n h dX12_takePart_37 rfl ?_
        refine x_bipush h (-9) (by decide) dX12_takePart_38 ?_
        refine x_icmp_ne h 45 dX12_takePart_40 (by decide) (fun c40 => ?_) (fun c40 => ?_)
        · exact absurd rfl c40
        · refine x_ic0 h dX12_takePart_43 ?_
          exact x_zret h hQ rfl (by decide) dX12_takePart_44 ⟨rfl, rfl, _, rfl, rfl, rfl⟩
      · exact absurd (b2i_0.mpr e) c20
  · exact absurd c1 (by decide)
theorem c_X12_takePart_21 {Γ : GT} {G : GG} {M : MM} {m : Nat} (hF : mdF G M.2.2 m) {U : RT} {ch : Nat} (hc : ch < 256) (hn : U 0 22 < 62) (h26 : U 0 26 ≤ 5) (h1 : 1 ≤ U 0 26 ∨ 1 ≤ U 0 22) (e : decide (trmN ch < 9) = true) : Calls Γ q_X12_takePart [.ref m, .int (nI 2), .int (nI ch)] G (mtM M m U) (rI (fun y M' => y = 1 ∧ M' = mtM M m (ptU U 2 (trmN ch)))) := by
  have e2 := of_decide_eq_true e
  refine Calls.intro (by decide +kernel) (Nat.le_of_ble_eq_true rfl) (fun z E h hQ => ?_)
  refine x_loc (L' := [some (.ref m), some (.int (nI 2)), some (.int (nI ch)), none]) rfl ?_
  refine x_iload_n h dX12_takePart_0 rfl ?_
  refine x_if_ne h 11 dX12_takePart_1 (by decide) (fun c1 => ?_) (fun c1 => ?_)
  · refine x_iload_n h dX12_takePart_11 rfl ?_
    refine x_in1 h dX12_takePart_12 ?_
    refine x_icmp_ne h 32 dX12_takePart_13 (by decide) (fun c13 => ?_) (fun c13 => ?_)
    · refine x_iload_n h dX12_takePart_32 rfl ?_
      refine x_cSi h ci_X12_termOf sm_X12_termOf l_X12_186 ⟨Nat.le_of_ble_eq_true rfl, Nat.le_of_ble_eq_true rfl⟩ ⟨rfl, rfl⟩ ⟨Nat.zero_le _, Nat.zero_le _⟩ (c_X12_termOf (x := ch) (by omega)) rfl rfl rfl rfl dX12_takePart_33 (fun v33 M33 hp33 => ?_)
      obtain ⟨rfl, hM⟩ := hp33
      obtain rfl := hM.symm
      clear hM
      rw [if_pos e2]
      refine x_istore_n h dX12_takePart_36 rfl rfl ?_
      dsimp only [List.set]
      refine x_iload_n h dX12_takePart_37 rfl ?_
      refine x_bipush h (-9) (by decide) dX12_takePart_38 ?_
      refine x_icmp_ne h 45 dX12_takePart_40 (by decide) (fun c40 => ?_) (fun c40 => ?_)
      · refine x_aload_n h dX12_takePart_45 rfl ?_
        refine x_getIv h hF.1 f_X12_180 rfl (show _ = nI (U 0 26) from (mt_f M m _ (by decide)).trans (congrArg nI (by first | rfl | simp [tU]))) dX12_takePart_46 ?_
        refine x_if_le h 106 dX12_takePart_49 (by decide) (fun c49 => ?_) (fun c49 => ?_)
        · have eg : ¬ 0 < U 0 26 := by
            have := (nI_le_iff (a := U 0 26) (b := 0) (by omega) (by decide)).mp c49
            omega
          refine x_iload_n h dX12_takePart_106 rfl ?_
          refine x_if_ne h 125 dX12_takePart_107 (by decide) (fun c107 => ?_) (fun c107 => ?_)
          · refine x_iload_n h dX12_takePart_125 rfl ?_
            refine x_in1 h dX12_takePart_126 ?_
            refine x_icmp_ne h 145 dX12_takePart_127 (by decide) (fun c127 => ?_) (fun c127 => ?_)
            · refine x_aload_n h dX12_takePart_145 rfl ?_
              refine x_getR h hF.1 f_X12_49 rfl (md_readTerm hF).1 dX12_takePart_146 ?_
              refine x_aload_n h dX12_takePart_149 rfl ?_
              refine x_getIv h hF.1 f_X12_130 rfl (show _ = nI (U 0 22) from (mt_f M m _ (by decide)).trans (congrArg nI (by first | rfl | simp [tU]))) dX12_takePart_150 ?_
              refine x_in1 h dX12_takePart_153 ?_
              refine x_isubn h (by omega) dX12_takePart_154 ?_
              refine x_iload_n h dX12_takePart_155 rfl ?_
              refine x_iast h (U 0 22 - 1) (md_readTerm hF).2 (ix.ni (by omega) (by decide)) dX12_takePart_156 ?_
              refine x_mem (mt_set M m _ _ (by simp [regR])) ?_
              refine x_aload_n h dX12_takePart_157 rfl ?_
              refine x_iload_n h dX12_takePart_158 rfl ?_
              refine x_if_ne h 166 dX12_takePart_159 (by decide) (fun c159 => ?_) (fun c159 => ?_)
              · refine x_iload_n h dX12_takePart_166 rfl ?_
                refine x_in1 h dX12_takePart_167 ?_
                refine x_icmp_ne h 175 dX12_takePart_168 (by decide) (fun c168 => ?_) (fun c168 => ?_)
                · refine x_aload_n h dX12_takePart_175 rfl ?_
                  refine x_getIv h hF.1 f_X12_180 rfl (show _ = nI (U 0 26) from (mt_f M m _ (by decide)).trans (congrArg nI (by first | rfl | simp [tU]))) dX12_takePart_176 ?_
                  refine x_if_le h 187 dX12_takePart_179 (by decide) (fun c179 => ?_) (fun c179 => ?_)
                  · refine x_in0 h dX12_takePart_187 ?_
                    refine x_putI h hF.1 f_X12_144 rfl rfl dX12_takePart_188 ?_
                    refine x_mem (mt_set0 M m _ _ (by decide)) ?_
                    refine x_ic1 h dX12_takePart_191 ?_
                    exact x_zret h hQ rfl (by decide) dX12_takePart_192 ⟨rfl, rfl, _, rfl, rfl, by rw [ptU, if_neg eg, wpU, if_neg (by decide), if_neg (by decide), if_neg eg]⟩
                  · exact absurd ((nI_le_iff (a := U 0 26) (b := 0) (by omega) (by decide)).mpr (by omega)) c179
                · exact absurd c168 (by decide)
              · exact absurd c159 (by decide)
            · exact absurd c127 (by decide)
          · exact absurd c107 (by decide)
        · have eg : 0 < U 0 26 := by
            have := mt (nI_le_iff (a := U 0 26) (b := 0) (by omega) (by decide)).mpr c49
            omega
          refine x_iload_n h dX12_takePart_52 rfl ?_
          refine x_if_ne h 71 dX12_takePart_53 (by decide) (fun c53 => ?_) (fun c53 => ?_)
          · refine x_iload_n h dX12_takePart_71 rfl ?_
            refine x_in1 h dX12_takePart_72 ?_
            refine x_icmp_ne h 91 dX12_takePart_73 (by decide) (fun c73 => ?_) (fun c73 => ?_)
            · refine x_aload_n h dX12_takePart_91 rfl ?_
              refine x_getR h hF.1 f_X12_64 rfl (md_readGuessTerm hF).1 dX12_takePart_92 ?_
              refine x_aload_n h dX12_takePart_95 rfl ?_
              refine x_getIv h hF.1 f_X12_180 rfl (show _ = nI (U 0 26) from (mt_f M m _ (by decide)).trans (congrArg nI (by first | rfl | simp [tU]))) dX12_takePart_96 ?_
              refine x_in1 h dX12_takePart_99 ?_
              refine x_isubn h (by omega) dX12_takePart_100 ?_
              refine x_iload_n h dX12_takePart_101 rfl ?_
              refine x_iast h (U 0 26 - 1) (md_readGuessTerm hF).2 (ix.ni (by omega) (by decide)) dX12_takePart_102 ?_
              refine x_mem (mt_set M m _ _ (by simp [regR])) ?_
              refine x_goto h 157 dX12_takePart_103 (by decide) ?_
              refine x_aload_n h dX12_takePart_157 rfl ?_
              refine x_iload_n h dX12_takePart_158 rfl ?_
              refine x_if_ne h 166 dX12_takePart_159 (by decide) (fun c159 => ?_) (fun c159 => ?_)
              · refine x_iload_n h dX12_takePart_166 rfl ?_
                refine x_in1 h dX12_takePart_167 ?_
                refine x_icmp_ne h 175 dX12_takePart_168 (by decide) (fun c168 => ?_) (fun c168 => ?_)
                · refine x_aload_n h dX12_takePart_175 rfl ?_
                  refine x_getIv h hF.1 f_X12_180 rfl (show _ = nI (U 0 26) from (mt_f M m _ (by decide)).trans (congrArg nI (by first | rfl | simp [tU]))) dX12_takePart_176 ?_
                  refine x_if_le h 187 dX12_takePart_179 (by decide) (fun c179 => ?_) (fun c179 => ?_)
                  · exact absurd ((nI_le_iff (a := U 0 26) (b := 0) (by omega) (by decide)).mp c179) (by omega)
                  · refine x_bipush h (nI 6) (by decide) dX12_takePart_182 ?_
                    refine x_goto h 188 dX12_takePart_184 (by decide) ?_
                    refine x_putI h hF.1 f_X12_144 rfl rfl dX12_takePart_188 ?_
                    refine x_mem (mt_set0 M m _ _ (by decide)) ?_
                    refine x_ic1 h dX12_takePart_191 ?_
                    exact x_zret h hQ rfl (by decide) dX12_takePart_192 ⟨rfl, rfl, _, rfl, rfl, by rw [ptU, if_pos eg, wpU, if_neg (by decide), if_neg (by decide), if_pos eg]⟩
                · exact absurd c168 (by decide)
              · exact absurd c159 (by decide)
            · exact absurd c73 (by decide)
          · exact absurd c53 (by decide)
      · exact absurd c40 (nI_ne9 (by omega))
    · exact absurd c13 (by decide)
  · exact absurd c1 (by decide)
theorem c_X12_takePart_20 {Γ : GT} {G : GG} {M : MM} {m : Nat} (hF : mdF G M.2.2 m) {U : RT} {ch : Nat} (hc : ch < 256) (hn : U 0 22 < 62) (h26 : U 0 26 ≤ 5) (h1 : 1 ≤ U 0 26 ∨ 1 ≤ U 0 22) (e : decide (trmN ch < 9) = false) : Calls Γ q_X12_takePart [.ref m, .int (nI 2), .int (nI ch)] G (mtM M m U) (rI (fun y M' => y = 0 ∧ M' = mtM M m U)) := by
  have e2 := of_decide_eq_false e
  refine Calls.intro (by decide +kernel) (Nat.le_of_ble_eq_true rfl) (fun z E h hQ => ?_)
  refine x_loc (L' := [some (.ref m), some (.int (nI 2)), some (.int (nI ch)), none]) rfl ?_
  refine x_iload_n h dX12_takePart_0 rfl ?_
  refine x_if_ne h 11 dX12_takePart_1 (by decide) (fun c1 => ?_) (fun c1 => ?_)
  · refine x_iload_n h dX12_takePart_11 rfl ?_
    refine x_in1 h dX12_takePart_12 ?_
    refine x_icmp_ne h 32 dX12_takePart_13 (by decide) (fun c13 => ?_) (fun c13 => ?_)
    · refine x_iload_n h dX12_takePart_32 rfl ?_
      refine x_cSi h ci_X12_termOf sm_X12_termOf l_X12_186 ⟨Nat.le_of_ble_eq_true rfl, Nat.le_of_ble_eq_true rfl⟩ ⟨rfl, rfl⟩ ⟨Nat.zero_le _, Nat.zero_le _⟩ (c_X12_termOf (x := ch) (by omega)) rfl rfl rfl rfl dX12_takePart_33 (fun v33 M33 hp33 => ?_)
      obtain ⟨rfl, hM⟩ := hp33
      obtain rfl := hM.symm
      clear hM
      rw [if_neg e2]
      refine x_istore_n h dX12_takePart_36 rfl rfl ?_
      dsimp only [List.set]
      refine x_iload_n h dX12_takePart_37 rfl ?_
      refine x_bipush h (-9) (by decide) dX12_takePart_38 ?_
      refine x_icmp_ne h 45 dX12_takePart_40 (by decide) (fun c40 => ?_) (fun c40 => ?_)
      · exact absurd rfl c40
      · refine x_ic0 h dX12_takePart_43 ?_
        exact x_zret h hQ rfl (by decide) dX12_takePart_44 ⟨rfl, rfl, _, rfl, rfl, rfl⟩
    · exact absurd c13 (by decide)
  · exact absurd c1 (by decide)
def stU (U : RT) (ch : Nat) : Option RT :=
  if isNm ch then some (nmU U (ch - 97))
  else if ch = 64 then some (akU U 4)
  else if ch = 33 then (if U 0 23 < 4 then some (akU U 5) else none)
  else if ch = 40 then (if U 0 24 < 3 then some (akU U 6) else none)
  else if ch = 41 then (if inU U = 6 then some (clU U) else none)
  else if ch = 123 then (if U 0 25 < 3 then some (etU U) else none)
  else if ch = 124 then (if inU U = 8 then some (baU U) else none)
  else if ch = 125 then (if inU U = 9 then some (jnU U) else none)
  else if ch = 59 then (if U 0 31 = 0 ∧ ¬ U 0 26 = 5 then some (gsU U) else none)
  else none
def mkP (m : Nat) (M : MM) (res : Option RT) (y : Int32) (M' : MM) : Prop := (∀ U', res = some U' → y = 1 ∧ M' = mtM M m U') ∧ (res = none → y = 0 ∧ ∃ U', M' = mtM M m U')
theorem mk_some {m : Nat} {M : MM} {res : Option RT} {U' : RT} (h : res = some U') : mkP m M res 1 (mtM M m U') := ⟨fun V q => by rw [h] at q; cases q; exact ⟨rfl, rfl⟩, fun q => by rw [h] at q; cases q⟩
theorem mk_none {m : Nat} {M : MM} {res : Option RT} (U' : RT) (h : res = none) : mkP m M res 0 (mtM M m U') := ⟨fun V q => by (rw [h] at q; cases q), fun _ => ⟨rfl, U', rfl⟩⟩
/-- the numbers of a reading are in range -/
def okU (U : RT) : Prop := U 0 22 < 61 ∧ U 0 31 < 7 ∧ (∀ d, d < U 0 31 → U 20 d < U 0 22) ∧ U 0 23 ≤ 4 ∧ U 0 24 ≤ 3 ∧ U 0 25 ≤ 3 ∧ U 0 26 ≤ 5 ∧ (∀ j, j < U 0 22 → U 11 j ≤ 10) ∧ U 0 32 ≤ 6 ∧ (U 0 32 = 1 ∨ U 0 32 = 2 → 1 ≤ U 0 22) ∧ (3 ≤ U 0 32 → U 0 32 ≤ 5 → 1 ≤ U 0 26 ∨ 1 ≤ U 0 22)
theorem inU_le {U : RT} (h : okU U) : inU U ≤ 10 := by
  unfold inU
  split
  · omega
  · exact h.2.2.2.2.2.2.2.1 _ (h.2.2.1 _ (by omega))
theorem c_X12_takeStatement {Γ : GT} {G : GG} {M : MM} {m : Nat} (hF : mdF G M.2.2 m) {U : RT} (hU : okU U) {ch : Nat} (hc : ch < 256) : Calls Γ q_X12_takeStatement [.ref m, .int (nI ch)] G (mtM M m U) (rI (mkP m M (stU U ch))) := by
  have hin := inU_le hU
  obtain ⟨u1, u2, u3, u4, u5, u6, u7, u8, u9, u10, u11⟩ := hU
  have hop : 1 ≤ U 0 31 → opU U < U 0 22 := fun q => u3 _ (by omega)
  refine Calls.intro (by decide +kernel) (Nat.le_of_ble_eq_true rfl) (fun z E h hQ => ?_)
  refine x_loc (L' := [some (.ref m), some (.int (nI ch))]) rfl ?_
  refine x_iload_n h dX12_takeStatement_0 rfl ?_
  refine x_cSi h ci_X12_variableOf sm_X12_variableOf l_X12_136 ⟨Nat.le_of_ble_eq_true rfl, Nat.le_of_ble_eq_true rfl⟩ ⟨rfl, rfl⟩ ⟨Nat.zero_le _, Nat.zero_le _⟩ (c_X12_variableOf (x := ch) (by omega)) rfl rfl rfl rfl dX12_takeStatement_1 (fun v1 M1 hp1 => ?_)
  obtain ⟨rfl, hM⟩ := hp1
  obtain rfl := hM.symm
  clear hM
  refine x_bipush h (-9) (by decide) dX12_takeStatement_4 ?_
  refine x_icmp_eq h 36 dX12_takeStatement_6 (by decide) (fun c6 => ?_) (fun c6 => ?_)
  · have e0 : isNm ch = false := by
      cases hz : isNm ch with
      | false => rfl
      | true =>
        have e2 : 97 ≤ ch ∧ ch ≤ 99 := of_decide_eq_true hz
        rw [hz] at c6
        exact absurd c6 (nI_ne9 (x := ch - 97) (by omega))
    refine x_iload_n h dX12_takeStatement_36 rfl ?_
    rcases (show ch = 64 ∨ ch = 33 ∨ ch = 40 ∨ ch = 41 ∨ ch = 123 ∨ ch = 124 ∨ ch = 125 ∨ ch = 59 ∨ (¬ ch = 64 ∧ ¬ ch = 33 ∧ ¬ ch = 40 ∧ ¬ ch = 41 ∧ ¬ ch = 123 ∧ ¬ ch = 124 ∧ ¬ ch = 125 ∧ ¬ ch = 59) by omega) with rfl | rfl | rfl | rfl | rfl | rfl | rfl | rfl | ⟨d1, d2, d3, d4, d5, d6, d7, d8⟩
    · refine x_look h 112 dX12_takeStatement_37 (by decide) (off := 75) (by decide) (by decide) ?_
      refine x_aload_n h dX12_takeStatement_112 rfl ?_
      refine x_in4 h dX12_takeStatement_113 ?_
      refine x_cVi h ci_X12_takeAsking im_X12_takeAsking l_X12_147 ⟨Nat.le_of_ble_eq_true rfl, Nat.le_of_ble_eq_true rfl⟩ ⟨rfl, rfl⟩ ⟨Nat.zero_le _, Nat.zero_le _⟩ (c_X12_takeAsking hF (k := 4) (by omega) (by omega) (by decide)) rfl rfl rfl rfl hF.1 (by decide) rfl dX12_takeStatement_114 (fun v114 M114 hp114 => ?_)
      obtain ⟨rfl, hM⟩ := hp114
      subst hM
      exact x_zret h hQ rfl (by decide) dX12_takeStatement_117 ⟨rfl, rfl, _, rfl, mk_some (by simp [stU, isNm])⟩
    · refine x_look h 118 dX12_takeStatement_37 (by decide) (off := 81) (by decide) (by decide) ?_
      refine x_aload_n h dX12_takeStatement_118 rfl ?_
      refine x_getIv h hF.1 f_X12_151 rfl (mt_f M m U (j := 23) (by decide)) dX12_takeStatement_119 ?_
      refine x_in4 h dX12_takeStatement_122 ?_
      refine x_icmp_ge h 138 dX12_takeStatement_123 (by decide) (fun c123 => ?_) (fun c123 => ?_)
      · have e2 : ¬ U 0 23 < 4 := fun q => absurd ((nI_le_iff (a := 4) (b := U 0 23) (by decide) (by omega)).mp c123) (by omega)
        refine x_ic0 h dX12_takeStatement_138 ?_
        exact x_zret h hQ rfl (by decide) dX12_takeStatement_139 ⟨rfl, rfl, _, rfl, mk_none U (by simp [stU, isNm, e2])⟩
      · have e2 : U 0 23 < 4 := by
          have := mt (nI_le_iff (a := 4) (b := U 0 23) (by decide) (by omega)).mpr c123
          omega
        refine x_aload_n h dX12_takeStatement_126 rfl ?_
        refine x_in5 h dX12_takeStatement_127 ?_
        refine x_cVi h ci_X12_takeAsking im_X12_takeAsking l_X12_147 ⟨Nat.le_of_ble_eq_true rfl, Nat.le_of_ble_eq_true rfl⟩ ⟨rfl, rfl⟩ ⟨Nat.zero_le _, Nat.zero_le _⟩ (c_X12_takeAsking hF (k := 5) (by omega) (by omega) (by decide)) rfl rfl rfl rfl hF.1 (by decide) rfl dX12_takeStatement_128 (fun v128 M128 hp128 => ?_)
        obtain ⟨rfl, hM⟩ := hp128
        subst hM
        refine x_if_eq h 138 dX12_takeStatement_131 (by decide) (fun c131 => ?_) (fun c131 => ?_)
        · exact absurd c131 (by decide)
        · refine x_ic1 h dX12_takeStatement_134 ?_
          refine x_goto h 139 dX12_takeStatement_135 (by decide) ?_
          exact x_zret h hQ rfl (by decide) dX12_takeStatement_139 ⟨rfl, rfl, _, rfl, mk_some (by simp [stU, isNm, e2])⟩
    · refine x_look h 140 dX12_takeStatement_37 (by decide) (off := 103) (by decide) (by decide) ?_
      refine x_aload_n h dX12_takeStatement_140 rfl ?_
      refine x_getIv h hF.1 f_X12_154 rfl (mt_f M m U (j := 24) (by decide)) dX12_takeStatement_141 ?_
      refine x_in3 h dX12_takeStatement_144 ?_
      refine x_icmp_ge h 161 dX12_takeStatement_145 (by decide) (fun c145 => ?_) (fun c145 => ?_)
      · have e2 : ¬ U 0 24 < 3 := fun q => absurd ((nI_le_iff (a := 3) (b := U 0 24) (by decide) (by omega)).mp c145) (by omega)
        refine x_ic0 h dX12_takeStatement_161 ?_
        exact x_zret h hQ rfl (by decide) dX12_takeStatement_162 ⟨rfl, rfl, _, rfl, mk_none U (by simp [stU, isNm, e2])⟩
      · have e2 : U 0 24 < 3 := by
          have := mt (nI_le_iff (a := 3) (b := U 0 24) (by decide) (by omega)).mpr c145
          omega
        refine x_aload_n h dX12_takeStatement_148 rfl ?_
        refine x_bipush h (nI 6) (by decide) dX12_takeStatement_149 ?_
        refine x_cVi h ci_X12_takeAsking im_X12_takeAsking l_X12_147 ⟨Nat.le_of_ble_eq_true rfl, Nat.le_of_ble_eq_true rfl⟩ ⟨rfl, rfl⟩ ⟨Nat.zero_le _, Nat.zero_le _⟩ (c_X12_takeAsking hF (k := 6) (by omega) (by omega) (by decide)) rfl rfl rfl rfl hF.1 (by decide) rfl dX12_takeStatement_151 (fun v151 M151 hp151 => ?_)
        obtain ⟨rfl, hM⟩ := hp151
        subst hM
        refine x_if_eq h 161 dX12_takeStatement_154 (by decide) (fun c154 => ?_) (fun c154 => ?_)
        · exact absurd c154 (by decide)
        · refine x_ic1 h dX12_takeStatement_157 ?_
          refine x_goto h 162 dX12_takeStatement_158 (by decide) ?_
          exact x_zret h hQ rfl (by decide) dX12_takeStatement_162 ⟨rfl, rfl, _, rfl, mk_some (by simp [stU, isNm, e2])⟩
    · refine x_look h 184 dX12_takeStatement_37 (by decide) (off := 147) (by decide) (by decide) ?_
      refine x_aload_n h dX12_takeStatement_184 rfl ?_
      refine x_cVi h ci_X12_innermost im_X12_innermost l_X12_164 ⟨Nat.le_of_ble_eq_true rfl, Nat.le_of_ble_eq_true rfl⟩ ⟨rfl, rfl⟩ ⟨Nat.zero_le _, Nat.zero_le _⟩ (c_X12_innermost hF (by omega) (fun q => by have := hop q; omega)) rfl rfl rfl rfl hF.1 (by decide) rfl dX12_takeStatement_185 (fun v185 M185 hp185 => ?_)
      obtain ⟨rfl, hM⟩ := hp185
      obtain rfl := hM.symm
      clear hM
      refine x_bipush h (nI 6) (by decide) dX12_takeStatement_188 ?_
      refine x_icmp_ne h 204 dX12_takeStatement_190 (by decide) (fun c190 => ?_) (fun c190 => ?_)
      · have e2 : ¬ inU U = 6 := fun q => c190 (by rw [q])
        refine x_ic0 h dX12_takeStatement_204 ?_
        exact x_zret h hQ rfl (by decide) dX12_takeStatement_205 ⟨rfl, rfl, _, rfl, mk_none U (by simp [stU, isNm, e2])⟩
      · have e2 : inU U = 6 := nI_small 6 (by omega) (by decide) c190
        have hd1 : 1 ≤ U 0 31 := by
          rcases Nat.eq_zero_or_pos (U 0 31) with q | q
          · rw [inU, if_pos q] at e2; cases e2
          · exact q
        refine x_aload_n h dX12_takeStatement_193 rfl ?_
        refine x_cVi h ci_X12_takeClose im_X12_takeClose l_X12_168 ⟨Nat.le_of_ble_eq_true rfl, Nat.le_of_ble_eq_true rfl⟩ ⟨rfl, rfl⟩ ⟨Nat.zero_le _, Nat.zero_le _⟩ (c_X12_takeClose hF (by omega) (by omega) hd1 (hop hd1)) rfl rfl rfl rfl hF.1 (by decide) rfl dX12_takeStatement_194 (fun v194 M194 hp194 => ?_)
        obtain ⟨rfl, hM⟩ := hp194
        subst hM
        refine x_if_eq h 204 dX12_takeStatement_197 (by decide) (fun c197 => ?_) (fun c197 => ?_)
        · exact absurd c197 (by decide)
        · refine x_ic1 h dX12_takeStatement_200 ?_
          refine x_goto h 205 dX12_takeStatement_201 (by decide) ?_
          exact x_zret h hQ rfl (by decide) dX12_takeStatement_205 ⟨rfl, rfl, _, rfl, mk_some (by simp [stU, isNm, e2])⟩
    · refine x_look h 163 dX12_takeStatement_37 (by decide) (off := 126) (by decide) (by decide) ?_
      refine x_aload_n h dX12_takeStatement_163 rfl ?_
      refine x_getIv h hF.1 f_X12_157 rfl (mt_f M m U (j := 25) (by decide)) dX12_takeStatement_164 ?_
      refine x_in3 h dX12_takeStatement_167 ?_
      refine x_icmp_ge h 182 dX12_takeStatement_168 (by decide) (fun c168 => ?_) (fun c168 => ?_)
      · have e2 : ¬ U 0 25 < 3 := fun q => absurd ((nI_le_iff (a := 3) (b := U 0 25) (by decide) (by omega)).mp c168) (by omega)
        refine x_ic0 h dX12_takeStatement_182 ?_
        exact x_zret h hQ rfl (by decide) dX12_takeStatement_183 ⟨rfl, rfl, _, rfl, mk_none U (by simp [stU, isNm, e2])⟩
      · have e2 : U 0 25 < 3 := by
          have := mt (nI_le_iff (a := 3) (b := U 0 25) (by decide) (by omega)).mpr c168
          omega
        refine x_aload_n h dX12_takeStatement_171 rfl ?_
        refine x_cVi h ci_X12_takeEither im_X12_takeEither l_X12_160 ⟨Nat.le_of_ble_eq_true rfl, Nat.le_of_ble_eq_true rfl⟩ ⟨rfl, rfl⟩ ⟨Nat.zero_le _, Nat.zero_le _⟩ (c_X12_takeEither hF (by omega) (by omega)) rfl rfl rfl rfl hF.1 (by decide) rfl dX12_takeStatement_172 (fun v172 M172 hp172 => ?_)
        obtain ⟨rfl, hM⟩ := hp172
        subst hM
        refine x_if_eq h 182 dX12_takeStatement_175 (by decide) (fun c175 => ?_) (fun c175 => ?_)
        · exact absurd c175 (by decide)
        · refine x_ic1 h dX12_takeStatement_178 ?_
          refine x_goto h 183 dX12_takeStatement_179 (by decide) ?_
          exact x_zret h hQ rfl (by decide) dX12_takeStatement_183 ⟨rfl, rfl, _, rfl, mk_some (by simp [stU, isNm, e2])⟩
    · refine x_look h 206 dX12_takeStatement_37 (by decide) (off := 169) (by decide) (by decide) ?_
      refine x_aload_n h dX12_takeStatement_206 rfl ?_
      refine x_cVi h ci_X12_innermost im_X12_innermost l_X12_164 ⟨Nat.le_of_ble_eq_true rfl, Nat.le_of_ble_eq_true rfl⟩ ⟨rfl, rfl⟩ ⟨Nat.zero_le _, Nat.zero_le _⟩ (c_X12_innermost hF (by omega) (fun q => by have := hop q; omega)) rfl rfl rfl rfl hF.1 (by decide) rfl dX12_takeStatement_207 (fun v207 M207 hp207 => ?_)
      obtain ⟨rfl, hM⟩ := hp207
      obtain rfl := hM.symm
      clear hM
      refine x_bipush h (nI 8) (by decide) dX12_takeStatement_210 ?_
      refine x_icmp_ne h 226 dX12_takeStatement_212 (by decide) (fun c212 => ?_) (fun c212 => ?_)
      · have e2 : ¬ inU U = 8 := fun q => c212 (by rw [q])
        refine x_ic0 h dX12_takeStatement_226 ?_
        exact x_zret h hQ rfl (by decide) dX12_takeStatement_227 ⟨rfl, rfl, _, rfl, mk_none U (by simp [stU, isNm, e2])⟩
      · have e2 : inU U = 8 := nI_small 8 (by omega) (by decide) c212
        have hd1 : 1 ≤ U 0 31 := by
          rcases Nat.eq_zero_or_pos (U 0 31) with q | q
          · rw [inU, if_pos q] at e2; cases e2
          · exact q
        refine x_aload_n h dX12_takeStatement_215 rfl ?_
        refine x_cVi h ci_X12_takeBar im_X12_takeBar l_X12_171 ⟨Nat.le_of_ble_eq_true rfl, Nat.le_of_ble_eq_true rfl⟩ ⟨rfl, rfl⟩ ⟨Nat.zero_le _, Nat.zero_le _⟩ (c_X12_takeBar hF (by omega) (by omega) hd1 (hop hd1)) rfl rfl rfl rfl hF.1 (by decide) rfl dX12_takeStatement_216 (fun v216 M216 hp216 => ?_)
        obtain ⟨rfl, hM⟩ := hp216
        subst hM
        refine x_if_eq h 226 dX12_takeStatement_219 (by decide) (fun c219 => ?_) (fun c219 => ?_)
        · exact absurd c219 (by decide)
        · refine x_ic1 h dX12_takeStatement_222 ?_
          refine x_goto h 227 dX12_takeStatement_223 (by decide) ?_
          exact x_zret h hQ rfl (by decide) dX12_takeStatement_227 ⟨rfl, rfl, _, rfl, mk_some (by simp [stU, isNm, e2])⟩
    · refine x_look h 228 dX12_takeStatement_37 (by decide) (off := 191) (by decide) (by decide) ?_
      refine x_aload_n h dX12_takeStatement_228 rfl ?_
      refine x_cVi h ci_X12_innermost im_X12_innermost l_X12_164 ⟨Nat.le_of_ble_eq_true rfl, Nat.le_of_ble_eq_true rfl⟩ ⟨rfl, rfl⟩ ⟨Nat.zero_le _, Nat.zero_le _⟩ (c_X12_innermost hF (by omega) (fun q => by have := hop q; omega)) rfl rfl rfl rfl hF.1 (by decide) rfl dX12_takeStatement_229 (fun v229 M229 hp229 => ?_)
      obtain ⟨rfl, hM⟩ := hp229
      obtain rfl := hM.symm
      clear hM
      refine x_bipush h (nI 9) (by decide) dX12_takeStatement_232 ?_
      refine x_icmp_ne h 248 dX12_takeStatement_234 (by decide) (fun c234 => ?_) (fun c234 => ?_)
      · have e2 : ¬ inU U = 9 := fun q => c234 (by rw [q])
        refine x_ic0 h dX12_takeStatement_248 ?_
        exact x_zret h hQ rfl (by decide) dX12_takeStatement_249 ⟨rfl, rfl, _, rfl, mk_none U (by simp [stU, isNm, e2])⟩
      · have e2 : inU U = 9 := nI_small 9 (by omega) (by decide) c234
        have hd1 : 1 ≤ U 0 31 := by
          rcases Nat.eq_zero_or_pos (U 0 31) with q | q
          · rw [inU, if_pos q] at e2; cases e2
          · exact q
        refine x_aload_n h dX12_takeStatement_237 rfl ?_
        refine x_cVi h ci_X12_takeJoin im_X12_takeJoin l_X12_174 ⟨Nat.le_of_ble_eq_true rfl, Nat.le_of_ble_eq_true rfl⟩ ⟨rfl, rfl⟩ ⟨Nat.zero_le _, Nat.zero_le _⟩ (c_X12_takeJoin hF (by omega) (by omega) hd1 (hop hd1)) rfl rfl rfl rfl hF.1 (by decide) rfl dX12_takeStatement_238 (fun v238 M238 hp238 => ?_)
        obtain ⟨rfl, hM⟩ := hp238
        subst hM
        refine x_if_eq h 248 dX12_takeStatement_241 (by decide) (fun c241 => ?_) (fun c241 => ?_)
        · exact absurd c241 (by decide)
        · refine x_ic1 h dX12_takeStatement_244 ?_
          refine x_goto h 249 dX12_takeStatement_245 (by decide) ?_
          exact x_zret h hQ rfl (by decide) dX12_takeStatement_249 ⟨rfl, rfl, _, rfl, mk_some (by simp [stU, isNm, e2])⟩
    · refine x_look h 250 dX12_takeStatement_37 (by decide) (off := 213) (by decide) (by decide) ?_
      refine x_aload_n h dX12_takeStatement_250 rfl ?_
      refine x_getIv h hF.1 f_X12_133 rfl (mt_f M m U (j := 31) (by decide)) dX12_takeStatement_251 ?_
      refine x_if_ne h 268 dX12_takeStatement_254 (by decide) (fun c254 => ?_) (fun c254 => ?_)
      · have e2 : ¬ U 0 31 = 0 := fun q => c254 (by rw [q]; exact nI_0)
        refine x_ic0 h dX12_takeStatement_268 ?_
        exact x_zret h hQ rfl (by decide) dX12_takeStatement_269 ⟨rfl, rfl, _, rfl, mk_none U (by simp [stU, isNm, e2])⟩
      · have e2 : U 0 31 = 0 := nI_small 0 (by omega) (by decide) (c254.trans nI_0.symm)
        refine x_aload_n h dX12_takeStatement_257 rfl ?_
        refine x_cVi h ci_X12_takeGuess im_X12_takeGuess l_X12_177 ⟨Nat.le_of_ble_eq_true rfl, Nat.le_of_ble_eq_true rfl⟩ ⟨rfl, rfl⟩ ⟨Nat.zero_le _, Nat.zero_le _⟩ (c_X12_takeGuess hF u7) rfl rfl rfl rfl hF.1 (by decide) rfl dX12_takeStatement_258 (fun v258 M258 hp258 => ?_)
        by_cases e3 : U 0 26 = 5
        · obtain ⟨rfl, hM⟩ := hp258.1 e3
          subst hM
          refine x_if_eq h 268 dX12_takeStatement_261 (by decide) (fun c261 => ?_) (fun c261 => ?_)
          · refine x_ic0 h dX12_takeStatement_268 ?_
            exact x_zret h hQ rfl (by decide) dX12_takeStatement_269 ⟨rfl, rfl, _, rfl, mk_none U (by simp [stU, isNm, e2, e3])⟩
          · exact absurd rfl c261
        obtain ⟨rfl, hM⟩ := hp258.2 e3
        subst hM
        refine x_if_eq h 268 dX12_takeStatement_261 (by decide) (fun c261 => ?_) (fun c261 => ?_)
        · exact absurd c261 (by decide)
        · refine x_ic1 h dX12_takeStatement_264 ?_
          refine x_goto h 269 dX12_takeStatement_265 (by decide) ?_
          exact x_zret h hQ rfl (by decide) dX12_takeStatement_269 ⟨rfl, rfl, _, rfl, mk_some (by simp [stU, isNm, e2, e3])⟩
    · refine x_look h 270 dX12_takeStatement_37 (by decide) (off := 233) (lk_def _ _ _ (by rw [nI_toInt (by omega)]; simp; omega)) (by decide) ?_
      refine x_ic0 h dX12_takeStatement_270 ?_
      exact x_zret h hQ rfl (by decide) dX12_takeStatement_271 ⟨rfl, rfl, _, rfl, mk_none U (by simp [stU, e0, d1, d2, d3, d4, d5, d6, d7, d8])⟩
  · have e0 : isNm ch = true := by
      cases hz : isNm ch with
      | true => rfl
      | false => rw [hz] at c6; exact absurd rfl c6
    have e2 : 97 ≤ ch ∧ ch ≤ 99 := of_decide_eq_true e0
    refine x_aload_n h dX12_takeStatement_9 rfl ?_
    refine x_in0 h dX12_takeStatement_10 ?_
    refine x_cVv h ci_X12_newNode im_X12_newNode l_X12_140 ⟨Nat.le_of_ble_eq_true rfl, Nat.le_of_ble_eq_true rfl⟩ ⟨rfl, rfl⟩ ⟨Nat.zero_le _, Nat.zero_le _⟩ (c_X12_newNode hF (k := 0) (by omega)) rfl rfl rfl rfl hF.1 (by decide) rfl dX12_takeStatement_11 (fun M11 hp11 => ?_)
    subst hp11
    refine x_aload_n h dX12_takeStatement_14 rfl ?_
    refine x_getR h hF.1 f_X12_43 rfl (md_readVariable hF).1 dX12_takeStatement_15 ?_
    refine x_aload_n h dX12_takeStatement_18 rfl ?_
    refine x_getIv h hF.1 f_X12_130 rfl (show _ = nI (U 0 22 + 1) from (mt_f M m _ (by decide)).trans (congrArg nI (by simp [nnU, tU]))) dX12_takeStatement_19 ?_
    refine x_in1 h dX12_takeStatement_22 ?_
    refine x_isubn h (by omega) dX12_takeStatement_23 ?_
    refine x_iload_n h dX12_takeStatement_24 rfl ?_
    refine x_cSi h ci_X12_variableOf sm_X12_variableOf l_X12_136 ⟨Nat.le_of_ble_eq_true rfl, Nat.le_of_ble_eq_true rfl⟩ ⟨rfl, rfl⟩ ⟨Nat.zero_le _, Nat.zero_le _⟩ (c_X12_variableOf (x := ch) (by omega)) rfl rfl rfl rfl dX12_takeStatement_25 (fun v25 M25 hp25 => ?_)
    obtain ⟨rfl, hM⟩ := hp25
    obtain rfl := hM.symm
    clear hM
    rw [e0]
    refine x_topi (show _ = nI (ch - 97) from rfl) ?_
    rw [show U 0 22 + 1 - 1 = U 0 22 by omega]
    refine x_iast h (U 0 22) (md_readVariable hF).2 (ix.ni (by omega) (by decide)) dX12_takeStatement_28 ?_
    refine x_mem (mt_set M m _ _ (by simp [regR])) ?_
    refine x_aload_n h dX12_takeStatement_29 rfl ?_
    refine x_in1 h dX12_takeStatement_30 ?_
    refine x_putI h hF.1 f_X12_144 rfl rfl dX12_takeStatement_31 ?_
    refine x_mem (mt_set0 M m _ _ (by decide)) ?_
    refine x_ic1 h dX12_takeStatement_34 ?_
    exact x_zret h hQ rfl (by decide) dX12_takeStatement_35 ⟨rfl, rfl, _, rfl, mk_some (by rw [stU, if_pos e0]; rfl)⟩
