/-! ===== the reference: the text read ===== -/
def mkU (U : RT) (ch : Nat) : Option RT :=
  if U 0 32 = 0 then stU U ch
  else if U 0 32 = 1 then (if ddK ch < 4 then some (ddU U (ddK ch)) else none)
  else if U 0 32 = 2 then (if trmN ch < 9 then some (teU U (trmN ch)) else none)
  else if U 0 32 = 3 then (if isNm ch then some (ptU U 0 (ch - 97)) else none)
  else if U 0 32 = 4 then (if isSg ch then some (ptU U 1 ch) else none)
  else if U 0 32 = 5 then (if trmN ch < 9 then some (ptU U 2 (trmN ch)) else none)
  else (if ch = 59 ∧ ¬ U 0 26 = 5 then some (gsU U) else none)
theorem trm9 (ch : Nat) : (if trmN ch < 9 then nI (trmN ch) else -9) = nI (if trmN ch < 9 then trmN ch else 4294967287) := by
  split
  · rfl
  · decide
theorem mk01 {m : Nat} {M : MM} {res : Option RT} {y : Int32} {M' : MM} (h : mkP m M res y M') : y = 0 ∨ y = 1 := by
  cases res with
  | none => exact Or.inl (h.2 rfl).1
  | some V => exact Or.inr (h.1 V rfl).1
theorem takeDeed_any {Γ : GT} {G : GG} {M : MM} {m : Nat} (hF : mdF G M.2.2 m) {U : RT} {ch : Nat} (hc : ch < 256) (hn : U 0 22 < 62) (h1 : 1 ≤ U 0 22) : Calls Γ q_X12_takeDeed [.ref m, .int (nI ch)] G (mtM M m U) (rI (mkP m M (if ddK ch < 4 then some (ddU U (ddK ch)) else none))) := by
  refine (c_X12_takeDeed hF hc hn h1).imp (fun rr M2 h => ?_)
  obtain ⟨y, e, e1, e2⟩ := h
  refine ⟨y, e, ?_⟩
  rw [e1, e2]
  by_cases q : ddK ch < 4
  · rw [if_pos q, decide_eq_true q]; exact mk_some rfl
  · rw [if_neg q, decide_eq_false q]; exact mk_none _ rfl
theorem takePart_any0 {Γ : GT} {G : GG} {M : MM} {m : Nat} (hF : mdF G M.2.2 m) {U : RT} {ch : Nat} (hc : ch < 256) (hn : U 0 22 < 62) (h26 : U 0 26 ≤ 5) (h1 : 1 ≤ U 0 26 ∨ 1 ≤ U 0 22) : Calls Γ q_X12_takePart [.ref m, .int (nI 0), .int (nI ch)] G (mtM M m U) (rI (mkP m M (if isNm ch then some (ptU U 0 (ch - 97)) else none))) := by
  by_cases q : isNm ch = true
  · refine (c_X12_takePart_01 hF hc hn h26 h1 q).imp (fun rr M2 h => ?_)
    obtain ⟨y, e, e1, e2⟩ := h
    refine ⟨y, e, ?_⟩
    rw [e1, e2, if_pos q]
    exact mk_some rfl
  · refine (c_X12_takePart_00 hF hc hn h26 h1 (by cases hz : isNm ch with | false => rfl | true => exact absurd hz q)).imp (fun rr M2 h => ?_)
    obtain ⟨y, e, e1, e2⟩ := h
    refine ⟨y, e, ?_⟩
    rw [e1, e2, if_neg q]
    exact mk_none U rfl
theorem takePart_any1 {Γ : GT} {G : GG} {M : MM} {m : Nat} (hF : mdF G M.2.2 m) {U : RT} {ch : Nat} (hc : ch < 256) (hn : U 0 22 < 62) (h26 : U 0 26 ≤ 5) (h1 : 1 ≤ U 0 26 ∨ 1 ≤ U 0 22) : Calls Γ q_X12_takePart [.ref m, .int (nI 1), .int (nI ch)] G (mtM M m U) (rI (mkP m M (if isSg ch then some (ptU U 1 ch) else none))) := by
  by_cases q : isSg ch = true
  · refine (c_X12_takePart_11 hF hc hn h26 h1 q).imp (fun rr M2 h => ?_)
    obtain ⟨y, e, e1, e2⟩ := h
    refine ⟨y, e, ?_⟩
    rw [e1, e2, if_pos q]
    exact mk_some rfl
  · refine (c_X12_takePart_10 hF hc hn h26 h1 (by cases hz : isSg ch with | false => rfl | true => exact absurd hz q)).imp (fun rr M2 h => ?_)
    obtain ⟨y, e, e1, e2⟩ := h
    refine ⟨y, e, ?_⟩
    rw [e1, e2, if_neg q]
    exact mk_none U rfl
theorem takePart_any2 {Γ : GT} {G : GG} {M : MM} {m : Nat} (hF : mdF G M.2.2 m) {U : RT} {ch : Nat} (hc : ch < 256) (hn : U 0 22 < 62) (h26 : U 0 26 ≤ 5) (h1 : 1 ≤ U 0 26 ∨ 1 ≤ U 0 22) : Calls Γ q_X12_takePart [.ref m, .int (nI 2), .int (nI ch)] G (mtM M m U) (rI (mkP m M (if trmN ch < 9 then some (ptU U 2 (trmN ch)) else none))) := by
  by_cases q : trmN ch < 9
  · refine (c_X12_takePart_21 hF hc hn h26 h1 (decide_eq_true q)).imp (fun rr M2 h => ?_)
    obtain ⟨y, e, e1, e2⟩ := h
    refine ⟨y, e, ?_⟩
    rw [e1, e2, if_pos q]
    exact mk_some rfl
  · refine (c_X12_takePart_20 hF hc hn h26 h1 (decide_eq_false q)).imp (fun rr M2 h => ?_)
    obtain ⟨y, e, e1, e2⟩ := h
    refine ⟨y, e, ?_⟩
    rw [e1, e2, if_neg q]
    exact mk_none U rfl
theorem c_X12_take {Γ : GT} {G : GG} {M : MM} {m : Nat} (hF : mdF G M.2.2 m) {U : RT} (hU : okU U) {ch : Nat} (hc : ch < 256) : Calls Γ q_X12_take [.ref m, .int (nI ch)] G (mtM M m U) (rI (mkP m M (mkU U ch))) := by
  have hU0 := hU
  obtain ⟨u1, u2, u3, u4, u5, u6, u7, u8, u9, u10, u11⟩ := hU
  refine Calls.intro (by decide +kernel) (Nat.le_of_ble_eq_true rfl) (fun z E h hQ => ?_)
  refine x_loc (L' := [some (.ref m), some (.int (nI ch))]) rfl ?_
  refine x_aload_n h dX12_take_0 rfl ?_
  refine x_getIv h hF.1 f_X12_144 rfl (mt_f M m U (j := 32) (by decide)) dX12_take_1 ?_
  rcases (show U 0 32 = 0 ∨ U 0 32 = 1 ∨ U 0 32 = 2 ∨ U 0 32 = 3 ∨ U 0 32 = 4 ∨ U 0 32 = 5 ∨ U 0 32 = 6 by omega) with hk0 | hk0 | hk0 | hk0 | hk0 | hk0 | hk0 <;> rw [hk0]
  · refine x_tin h 44 dX12_take_4 (by decide) (by decide) (off := 40) (by decide) (by decide) ?_
    refine x_aload_n h dX12_take_44 rfl ?_
    refine x_iload_n h dX12_take_45 rfl ?_
    refine x_cVi h ci_X12_takeStatement im_X12_takeStatement l_X12_189 ⟨Nat.le_of_ble_eq_true rfl, Nat.le_of_ble_eq_true rfl⟩ ⟨rfl, rfl⟩ ⟨Nat.zero_le _, Nat.zero_le _⟩ (c_X12_takeStatement hF hU0 hc) rfl rfl rfl rfl hF.1 (by decide) rfl dX12_take_46 (fun v46 M46 hp46 => ?_)
    exact x_zret h hQ rfl (mk01 hp46) dX12_take_49 ⟨rfl, rfl, _, rfl, by rw [mkU, if_pos hk0]; exact hp46⟩
  · refine x_tin h 50 dX12_take_4 (by decide) (by decide) (off := 46) (by decide) (by decide) ?_
    refine x_aload_n h dX12_take_50 rfl ?_
    refine x_iload_n h dX12_take_51 rfl ?_
    refine x_cVi h ci_X12_takeDeed im_X12_takeDeed l_X12_192 ⟨Nat.le_of_ble_eq_true rfl, Nat.le_of_ble_eq_true rfl⟩ ⟨rfl, rfl⟩ ⟨Nat.zero_le _, Nat.zero_le _⟩ (takeDeed_any hF hc (by omega) (u10 (Or.inl hk0))) rfl rfl rfl rfl hF.1 (by decide) rfl dX12_take_52 (fun v52 M52 hp52 => ?_)
    exact x_zret h hQ rfl (mk01 hp52) dX12_take_55 ⟨rfl, rfl, _, rfl, by rw [mkU, if_neg (by omega), if_pos hk0]; exact hp52⟩
  · refine x_tin h 56 dX12_take_4 (by decide) (by decide) (off := 52) (by decide) (by decide) ?_
    refine x_aload_n h dX12_take_56 rfl ?_
    refine x_getR h hF.1 f_X12_49 rfl (md_readTerm hF).1 dX12_take_57 ?_
    refine x_aload_n h dX12_take_60 rfl ?_
    refine x_getIv h hF.1 f_X12_130 rfl (mt_f M m U (j := 22) (by decide)) dX12_take_61 ?_
    refine x_in1 h dX12_take_64 ?_
    refine x_isubn h (by have := u10 (Or.inr hk0); omega) dX12_take_65 ?_
    refine x_iload_n h dX12_take_66 rfl ?_
    refine x_cSi h ci_X12_termOf sm_X12_termOf l_X12_186 ⟨Nat.le_of_ble_eq_true rfl, Nat.le_of_ble_eq_true rfl⟩ ⟨rfl, rfl⟩ ⟨Nat.zero_le _, Nat.zero_le _⟩ (c_X12_termOf (x := ch) (by omega)) rfl rfl rfl rfl dX12_take_67 (fun v67 M67 hp67 => ?_)
    obtain ⟨rfl, hM⟩ := hp67
    obtain rfl := hM.symm
    clear hM
    refine x_topi (trm9 ch) ?_
    refine x_iast h (U 0 22 - 1) (md_readTerm hF).2 (ix.ni (by omega) (by decide)) dX12_take_70 ?_
    refine x_mem (mt_set M m _ _ (by simp [regR])) ?_
    refine x_aload_n h dX12_take_71 rfl ?_
    refine x_in0 h dX12_take_72 ?_
    refine x_putI h hF.1 f_X12_144 rfl rfl dX12_take_73 ?_
    refine x_mem (mt_set0 M m _ _ (by decide)) ?_
    refine x_iload_n h dX12_take_76 rfl ?_
    refine x_cSi h ci_X12_termOf sm_X12_termOf l_X12_186 ⟨Nat.le_of_ble_eq_true rfl, Nat.le_of_ble_eq_true rfl⟩ ⟨rfl, rfl⟩ ⟨Nat.zero_le _, Nat.zero_le _⟩ (c_X12_termOf (x := ch) (by omega)) rfl rfl rfl rfl dX12_take_77 (fun v77 M77 hp77 => ?_)
    obtain ⟨rfl, hM⟩ := hp77
    obtain rfl := hM.symm
    clear hM
    refine x_bipush h (-9) (by decide) dX12_take_80 ?_
    refine x_icmp_eq h 89 dX12_take_82 (by decide) (fun c82 => ?_) (fun c82 => ?_)
    · have e : ¬ trmN ch < 9 := fun q => by rw [if_pos q] at c82; exact absurd c82 (nI_ne9 (by omega))
      refine x_ic0 h dX12_take_89 ?_
      exact x_zret h hQ rfl (by decide) dX12_take_90 ⟨rfl, rfl, _, rfl, mk_none _ (by rw [mkU, if_neg (by omega), if_neg (by omega), if_pos hk0, if_neg e])⟩
    · have e : trmN ch < 9 := by
        rcases Nat.lt_or_ge (trmN ch) 9 with q | q
        · exact q
        · rw [if_neg (by omega)] at c82; exact absurd rfl c82
      refine x_ic1 h dX12_take_85 ?_
      refine x_goto h 90 dX12_take_86 (by decide) ?_
      exact x_zret h hQ rfl (by decide) dX12_take_90 ⟨rfl, rfl, _, rfl, mk_some (by rw [mkU, if_neg (by omega), if_neg (by omega), if_pos hk0, if_pos e, teU, if_pos e])⟩
  · refine x_tin h 91 dX12_take_4 (by decide) (by decide) (off := 87) (by decide) (by decide) ?_
    refine x_aload_n h dX12_take_91 rfl ?_
    refine x_in0 h dX12_take_92 ?_
    refine x_iload_n h dX12_take_93 rfl ?_
    refine x_cVi h ci_X12_takePart im_X12_takePart l_X12_195 ⟨Nat.le_of_ble_eq_true rfl, Nat.le_of_ble_eq_true rfl⟩ ⟨rfl, rfl⟩ ⟨Nat.zero_le _, Nat.zero_le _⟩ (takePart_any0 hF hc (by omega) u7 (u11 (by omega) (by omega))) rfl rfl rfl rfl hF.1 (by decide) rfl dX12_take_94 (fun v94 M94 hp94 => ?_)
    exact x_zret h hQ rfl (mk01 hp94) dX12_take_97 ⟨rfl, rfl, _, rfl, by rw [mkU, if_neg (by omega), if_neg (by omega), if_neg (by omega), if_pos hk0]; exact hp94⟩
  · refine x_tin h 98 dX12_take_4 (by decide) (by decide) (off := 94) (by decide) (by decide) ?_
    refine x_aload_n h dX12_take_98 rfl ?_
    refine x_in1 h dX12_take_99 ?_
    refine x_iload_n h dX12_take_100 rfl ?_
    refine x_cVi h ci_X12_takePart im_X12_takePart l_X12_195 ⟨Nat.le_of_ble_eq_true rfl, Nat.le_of_ble_eq_true rfl⟩ ⟨rfl, rfl⟩ ⟨Nat.zero_le _, Nat.zero_le _⟩ (takePart_any1 hF hc (by omega) u7 (u11 (by omega) (by omega))) rfl rfl rfl rfl hF.1 (by decide) rfl dX12_take_101 (fun v101 M101 hp101 => ?_)
    exact x_zret h hQ rfl (mk01 hp101) dX12_take_104 ⟨rfl, rfl, _, rfl, by rw [mkU, if_neg (by omega), if_neg (by omega), if_neg (by omega), if_neg (by omega), if_pos hk0]; exact hp101⟩
  · refine x_tin h 105 dX12_take_4 (by decide) (by decide) (off := 101) (by decide) (by decide) ?_
    refine x_aload_n h dX12_take_105 rfl ?_
    refine x_in2 h dX12_take_106 ?_
    refine x_iload_n h dX12_take_107 rfl ?_
    refine x_cVi h ci_X12_takePart im_X12_takePart l_X12_195 ⟨Nat.le_of_ble_eq_true rfl, Nat.le_of_ble_eq_true rfl⟩ ⟨rfl, rfl⟩ ⟨Nat.zero_le _, Nat.zero_le _⟩ (takePart_any2 hF hc (by omega) u7 (u11 (by omega) (by omega))) rfl rfl rfl rfl hF.1 (by decide) rfl dX12_take_108 (fun v108 M108 hp108 => ?_)
    exact x_zret h hQ rfl (mk01 hp108) dX12_take_111 ⟨rfl, rfl, _, rfl, by rw [mkU, if_neg (by omega), if_neg (by omega), if_neg (by omega), if_neg (by omega), if_neg (by omega), if_pos hk0]; exact hp108⟩
  · refine x_tout h 112 dX12_take_4 (by decide) (by decide) ?_
    refine x_iload_n h dX12_take_112 rfl ?_
    refine x_bipush h (nI 59) (by decide) dX12_take_113 ?_
    refine x_icmp_ne h 129 dX12_take_115 (by decide) (fun c115 => ?_) (fun c115 => ?_)
    · have e : ¬ ch = 59 := fun q => c115 (by rw [q])
      refine x_ic0 h dX12_take_129 ?_
      exact x_zret h hQ rfl (by decide) dX12_take_130 ⟨rfl, rfl, _, rfl, mk_none U (by rw [mkU, if_neg (by omega), if_neg (by omega), if_neg (by omega), if_neg (by omega), if_neg (by omega), if_neg (by omega), if_neg (fun q => e q.1)])⟩
    · have e : ch = 59 := nI_small 59 (by omega) (by decide) c115
      refine x_aload_n h dX12_take_118 rfl ?_
      refine x_cVi h ci_X12_takeGuess im_X12_takeGuess l_X12_177 ⟨Nat.le_of_ble_eq_true rfl, Nat.le_of_ble_eq_true rfl⟩ ⟨rfl, rfl⟩ ⟨Nat.zero_le _, Nat.zero_le _⟩ (c_X12_takeGuess hF u7) rfl rfl rfl rfl hF.1 (by decide) rfl dX12_take_119 (fun v119 M119 hp119 => ?_)
      by_cases e3 : U 0 26 = 5
      · obtain ⟨rfl, hM⟩ := hp119.1 e3
        subst hM
        refine x_if_eq h 129 dX12_take_122 (by decide) (fun c122 => ?_) (fun c122 => ?_)
        · refine x_ic0 h dX12_take_129 ?_
          exact x_zret h hQ rfl (by decide) dX12_take_130 ⟨rfl, rfl, _, rfl, mk_none U (by rw [mkU, if_neg (by omega), if_neg (by omega), if_neg (by omega), if_neg (by omega), if_neg (by omega), if_neg (by omega), if_neg (fun q => q.2 e3)])⟩
        · exact absurd rfl c122
      obtain ⟨rfl, hM⟩ := hp119.2 e3
      subst hM
      refine x_if_eq h 129 dX12_take_122 (by decide) (fun c122 => ?_) (fun c122 => ?_)
      · exact absurd c122 (by decide)
      · refine x_ic1 h dX12_take_125 ?_
        refine x_goto h 130 dX12_take_126 (by decide) ?_
        exact x_zret h hQ rfl (by decide) dX12_take_130 ⟨rfl, rfl, _, rfl, mk_some (by rw [mkU, if_neg (by omega), if_neg (by omega), if_neg (by omega), if_neg (by omega), if_neg (by omega), if_neg (by omega), if_pos ⟨e, e3⟩])⟩
def mdI (tx : Nat → Nat) (U : RT) : Nat → Option RT
  | 0 => some U
  | i + 1 => (mdI tx U i).bind (fun V => mkU V (tx i))
def u0U (U : RT) : RT := tU (tU (tU (tU (tU (tU (tU U 0 22 0) 0 23 0) 0 24 0) 0 25 0) 0 26 0) 0 31 0) 0 32 0
def wholeU (V : RT) : Prop := V 0 32 = 6 ∨ (V 0 32 = 0 ∧ V 0 31 = 0)
def rdmP (m : Nat) (M : MM) (tx : Nat → Nat) (len : Nat) (U : RT) (y : Int32) (M' : MM) : Prop := ∃ k V, k ≤ len ∧ mdI tx (u0U U) k = some V ∧ ((k < len ∧ mkU V (tx k) = none ∧ y = nI k ∧ ∃ U', M' = mtM M m U') ∨ (k = len ∧ M' = mtM M m V ∧ (wholeU V → y = -9) ∧ (¬ wholeU V → y = nI len)))
theorem c_X12_readText {Γ : GT} {G : GG} {M : MM} {m : Nat} (hF : mdF G M.2.2 m) {U : RT} {tx : Nat → Nat} {len : Nat} (hT : mTx M m tx len) (hok : ∀ i V, i < len → mdI tx (u0U U) i = some V → okU V) (hok2 : ∀ V, mdI tx (u0U U) len = some V → V 0 32 ≤ 6 ∧ V 0 31 < 8) : Calls Γ q_X12_readText [.ref m] G (mtM M m U) (rI (rdmP m M tx len U)) := by
  obtain ⟨l60, hl, htx⟩ := hT
  have hl2 : ∀ V, (mtM M m V).1 m 1 = nI len := fun V => (mt_ne M m V (a := 0) (by decide)).trans hl
  refine Calls.intro (by decide +kernel) (Nat.le_of_ble_eq_true rfl) (fun z E h hQ => ?_)
  refine x_loc (L' := [some (.ref m), none]) rfl ?_
  have loop : ∀ i, i ≤ len → ∀ V, mdI tx (u0U U) i = some V → X Γ E 0 0 G z (mtM M m V) 37 [some (.ref m), some (.int (nI i))] [] := by
    refine upto len (fun i hi ih V hV => ?_)
    have w67 : V 0 32 ≤ 6 ∧ V 0 31 < 8 := by
      rcases Nat.lt_or_ge i len with q | q
      · have hU := hok i V q hV
        exact ⟨hU.2.2.2.2.2.2.2.2.1, by have := hU.2.1; omega⟩
      · obtain rfl : i = len := by omega
        exact hok2 V hV
    obtain ⟨w6, d7⟩ := w67
    refine x_iload_n h dX12_readText_37 rfl ?_
    refine x_aload_n h dX12_readText_38 rfl ?_
    refine x_getIv h hF.1 f_X12_118 rfl (hl2 _) dX12_readText_39 ?_
    refine x_icmp_ge h 66 dX12_readText_42 (by decide) (fun c42 => ?_) (fun c42 => ?_)
    · obtain rfl : i = len := by
        have := (nI_le_iff (by omega) (by omega)).mp c42
        omega
      refine x_aload_n h dX12_readText_66 rfl ?_
      refine x_getIv h hF.1 f_X12_144 rfl (mt_f M m V (j := 32) (by decide)) dX12_readText_67 ?_
      refine x_bipush h (nI 6) (by decide) dX12_readText_70 ?_
      refine x_icmp_eq h 89 dX12_readText_72 (by decide) (fun c72 => ?_) (fun c72 => ?_)
      · have e6 : V 0 32 = 6 := nI_small 6 (by omega) (by decide) c72
        refine x_bipush h (-9) (by decide) dX12_readText_89 ?_
        refine x_goto h 98 dX12_readText_91 (by decide) ?_
        exact x_iret h hQ rfl dX12_readText_98 ⟨rfl, rfl, _, rfl, _, V, Nat.le_refl _, hV, Or.inr ⟨rfl, rfl, fun _ => rfl, fun q => absurd (Or.inl e6) q⟩⟩
      · have e6 : ¬ V 0 32 = 6 := fun q => c72 (by rw [q])
        refine x_aload_n h dX12_readText_75 rfl ?_
        refine x_getIv h hF.1 f_X12_144 rfl (mt_f M m V (j := 32) (by decide)) dX12_readText_76 ?_
        refine x_if_ne h 94 dX12_readText_79 (by decide) (fun c79 => ?_) (fun c79 => ?_)
        · have e0 : ¬ V 0 32 = 0 := fun q => c79 (by rw [q]; exact nI_0)
          refine x_aload_n h dX12_readText_94 rfl ?_
          refine x_getIv h hF.1 f_X12_118 rfl (hl2 _) dX12_readText_95 ?_
          exact x_iret h hQ rfl dX12_readText_98 ⟨rfl, rfl, _, rfl, _, V, Nat.le_refl _, hV, Or.inr ⟨rfl, rfl, fun q => absurd q (fun q => q.elim e6 (fun q => e0 q.1)), fun _ => rfl⟩⟩
        · have e0 : V 0 32 = 0 := nI_small 0 (by omega) (by decide) (c79.trans nI_0.symm)
          refine x_aload_n h dX12_readText_82 rfl ?_
          refine x_getIv h hF.1 f_X12_133 rfl (mt_f M m V (j := 31) (by decide)) dX12_readText_83 ?_
          refine x_if_ne h 94 dX12_readText_86 (by decide) (fun c86 => ?_) (fun c86 => ?_)
          · have ed : ¬ V 0 31 = 0 := fun q => c86 (by rw [q]; exact nI_0)
            refine x_aload_n h dX12_readText_94 rfl ?_
            refine x_getIv h hF.1 f_X12_118 rfl (hl2 _) dX12_readText_95 ?_
            exact x_iret h hQ rfl dX12_readText_98 ⟨rfl, rfl, _, rfl, _, V, Nat.le_refl _, hV, Or.inr ⟨rfl, rfl, fun q => absurd q (fun q => q.elim e6 (fun q => ed q.2)), fun _ => rfl⟩⟩
          · have ed : V 0 31 = 0 := nI_small 0 (by omega) (by decide) (c86.trans nI_0.symm)
            refine x_bipush h (-9) (by decide) dX12_readText_89 ?_
            refine x_goto h 98 dX12_readText_91 (by decide) ?_
            exact x_iret h hQ rfl dX12_readText_98 ⟨rfl, rfl, _, rfl, _, V, Nat.le_refl _, hV, Or.inr ⟨rfl, rfl, fun _ => rfl, fun q => absurd (Or.inr ⟨e0, ed⟩) q⟩⟩
    · have hlt : i < len := by
        have := mt (nI_le_iff (a := len) (b := i) (by omega) (by omega)).mpr c42
        omega
      have hU := hok i V hlt hV
      refine x_aload_n h dX12_readText_45 rfl ?_
      refine x_aload_n h dX12_readText_46 rfl ?_
      refine x_getR h hF.1 f_X12_7 rfl (md_text hF).1 dX12_readText_47 ?_
      refine x_iload_n h dX12_readText_50 rfl ?_
      refine x_ialdv h i (md_text hF).2 (ix.ni (by omega) (by decide)) ((mt_ne M m V (a := 1) (by simp [regR])).trans (htx i hlt).1) dX12_readText_51 ?_
      refine x_cVi h ci_X12_take im_X12_take l_X12_199 ⟨Nat.le_of_ble_eq_true rfl, Nat.le_of_ble_eq_true rfl⟩ ⟨rfl, rfl⟩ ⟨Nat.zero_le _, Nat.zero_le _⟩ (c_X12_take hF hU (htx i hlt).2) rfl rfl rfl rfl hF.1 (by decide) rfl dX12_readText_52 (fun v52 M52 hp52 => ?_)
      refine x_if_ne h 60 dX12_readText_55 (by decide) (fun c55 => ?_) (fun c55 => ?_)
      · have hs : mkU V (tx i) ≠ none := fun q => c55 (hp52.2 q).1
        obtain ⟨V2, hV2⟩ : ∃ V2, mkU V (tx i) = some V2 := by
          cases hz : mkU V (tx i) with
          | none => exact absurd hz hs
          | some V2 => exact ⟨V2, rfl⟩
        obtain ⟨hy, hM⟩ := hp52.1 V2 hV2
        subst hM
        refine x_incn h dX12_readText_60 rfl rfl rfl ?_
        dsimp only [List.set]
        refine x_goto h 37 dX12_readText_63 (by decide) ?_
        exact ih hlt V2 (by rw [mdI, hV]; exact hV2)
      · have hs : mkU V (tx i) = none := by
          cases hz : mkU V (tx i) with
          | none => rfl
          | some V2 => exact absurd ((hp52.1 V2 hz).1.symm.trans c55) (by decide)
        obtain ⟨hy, U2, hM⟩ := hp52.2 hs
        subst hM
        refine x_iload_n h dX12_readText_58 rfl ?_
        exact x_iret h hQ rfl dX12_readText_59 ⟨rfl, rfl, _, rfl, i, V, hi, hV, Or.inl ⟨hlt, hs, rfl, U2, rfl⟩⟩
  refine x_aload_n h dX12_readText_0 rfl ?_
  refine x_in0 h dX12_readText_1 ?_
  refine x_putI h hF.1 f_X12_130 rfl rfl dX12_readText_2 ?_
  refine x_mem (mt_set0 M m _ _ (by decide)) ?_
  refine x_aload_n h dX12_readText_5 rfl ?_
  refine x_in0 h dX12_readText_6 ?_
  refine x_putI h hF.1 f_X12_151 rfl rfl dX12_readText_7 ?_
  refine x_mem (mt_set0 M m _ _ (by decide)) ?_
  refine x_aload_n h dX12_readText_10 rfl ?_
  refine x_in0 h dX12_readText_11 ?_
  refine x_putI h hF.1 f_X12_154 rfl rfl dX12_readText_12 ?_
  refine x_mem (mt_set0 M m _ _ (by decide)) ?_
  refine x_aload_n h dX12_readText_15 rfl ?_
  refine x_in0 h dX12_readText_16 ?_
  refine x_putI h hF.1 f_X12_157 rfl rfl dX12_readText_17 ?_
  refine x_mem (mt_set0 M m _ _ (by decide)) ?_
  refine x_aload_n h dX12_readText_20 rfl ?_
  refine x_in0 h dX12_readText_21 ?_
  refine x_putI h hF.1 f_X12_180 rfl rfl dX12_readText_22 ?_
  refine x_mem (mt_set0 M m _ _ (by decide)) ?_
  refine x_aload_n h dX12_readText_25 rfl ?_
  refine x_in0 h dX12_readText_26 ?_
  refine x_putI h hF.1 f_X12_133 rfl rfl dX12_readText_27 ?_
  refine x_mem (mt_set0 M m _ _ (by decide)) ?_
  refine x_aload_n h dX12_readText_30 rfl ?_
  refine x_in0 h dX12_readText_31 ?_
  refine x_putI h hF.1 f_X12_144 rfl rfl dX12_readText_32 ?_
  refine x_mem (mt_set0 M m _ _ (by decide)) ?_
  refine x_in0 h dX12_readText_35 ?_
  refine x_istore_n h dX12_readText_36 rfl rfl ?_
  dsimp only [List.set]
  exact loop 0 (Nat.zero_le _) (u0U U) rfl
theorem i32_U (x : Int32) : nI x.toBitVec.toNat = x := by
  apply Int32.toBitVec_inj.mp
  show BitVec.ofNat 32 x.toBitVec.toNat = x.toBitVec
  simp
theorem mt_ex (M : MM) (m : Nat) : ∃ U, M = mtM M m U := by
  refine ⟨fun a j => (M.1 (m + a) j).toBitVec.toNat, Prod.ext ?_ rfl⟩
  funext b j
  show M.1 b j = (if m ≤ b ∧ regR (b - m) j = true then nI (M.1 (m + (b - m)) j).toBitVec.toNat else M.1 b j)
  by_cases q : m ≤ b ∧ regR (b - m) j = true
  · rw [if_pos q, i32_U, show m + (b - m) = b by omega]
  · rw [if_neg q]
