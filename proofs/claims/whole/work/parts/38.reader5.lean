/-! ===== Reader: a letter taken ===== -/
theorem lk_def : ∀ (l : List (Int × Int)) (d k : Int), (l.all (fun p => decide (p.1 ≠ k))) = true → Op.lookupswitch.offset l d k = d
  | [], _, _, _ => rfl
  | p :: l, d, k, h => by
    obtain ⟨a, b⟩ := p
    rw [List.all_cons, Bool.and_eq_true] at h
    have h1 : ¬ a = k := of_decide_eq_true h.1
    rw [Op.lookupswitch.offset, if_neg h1]
    exact lk_def l d k h.2
def tkP (u c : Nat) (M : MM) (o : Option RT) : Int32 → MM → Prop := fun y M' => (∀ T', o = some T' → y = 1 ∧ rdS u c M M' T') ∧ (o = none → y = 0 ∧ M' = M)
theorem tk_some {u c : Nat} {M M' : MM} {o : Option RT} {T' : RT} (e : o = some T') (h : rdS u c M M' T') : tkP u c M o 1 M' := ⟨fun T2 q => by rw [e] at q; cases q; exact ⟨rfl, h⟩, fun q => by rw [e] at q; cases q⟩
theorem tk_none {u c : Nat} {M : MM} {o : Option RT} (e : o = none) : tkP u c M o 0 M := ⟨(fun T2 q => by rw [e] at q; cases q), fun _ => ⟨rfl, rfl⟩⟩
def opT (T : RT) (ch : Nat) : Option RT := if ch = 61 then some (tU T 200 0 2) else if ch = 43 then some (chT T 1) else if ch = 45 then some (chT T 2) else if ch = 63 then some (chT T 3) else none
def ecT (T : RT) (w : Nat) : RT := tU (tU T 200 1 w) 200 0 3
def plT (T : RT) : Nat := if 1 ≤ T 200 5 then T 201 (T 200 5 - 1) else 0
def innT (T : RT) (k : Nat) : Prop := 1 ≤ T 200 5 ∧ T (65 + plT T) 0 = k
theorem c_X6_takeOperation {Γ : GT} {G : GG} {M : MM} {u c : Nat} {T : RT} (hR : rdF G M.2.2 u) (hW : codeF G M.2.2 c) (hd : u + 2 ≤ c ∨ c + 125 ≤ u) (hT : rdW M u c T) (h60 : T 0 1 < 60) {ch : Nat} (hch : ch < 2 ^ 16) : Calls Γ q_X6_takeOperation [.ref u, .int (nI ch), .ref c] G M (rI (tkP u c M (opT T ch))) := by
  refine Calls.intro (by decide +kernel) (Nat.le_of_ble_eq_true rfl) (fun z E h hQ => ?_)
  refine x_loc (L' := [some (.ref u), some (.int (nI ch)), some (.ref c)]) rfl ?_
  refine x_iload_n h dX6_takeOperation_0 rfl ?_
  rcases (show ch = 61 ∨ ch = 43 ∨ ch = 45 ∨ ch = 63 ∨ (ch ≠ 61 ∧ ch ≠ 43 ∧ ch ≠ 45 ∧ ch ≠ 63) by omega) with rfl | rfl | rfl | rfl | hne
  · refine x_look h 44 dX6_takeOperation_1 (by decide) (off := 43) (by decide) (by decide) ?_
    refine x_aload_n h dX6_takeOperation_44 rfl ?_
    refine x_in2 h dX6_takeOperation_45 ?_
    refine x_putI h hR.1 f_X6_20 rfl rfl dX6_takeOperation_46 ?_
    refine x_ic1 h dX6_takeOperation_49 ?_
    exact x_zret h hQ rfl (by decide) dX6_takeOperation_50 ⟨rfl, rfl, _, rfl, tk_some (o := opT T 61) rfl (rdS_u hd (rdS_0 hT) (a := 0) (by decide))⟩
  · refine x_look h 51 dX6_takeOperation_1 (by decide) (off := 50) (by decide) (by decide) ?_
    refine x_aload_n h dX6_takeOperation_51 rfl ?_
    refine x_in1 h dX6_takeOperation_52 ?_
    refine x_aload_n h dX6_takeOperation_53 rfl ?_
    refine x_cVi h ci_X6_appendChange im_X6_appendChange l_X6_96 ⟨Nat.le_of_ble_eq_true rfl, Nat.le_of_ble_eq_true rfl⟩ ⟨rfl, rfl⟩ ⟨Nat.zero_le _, Nat.zero_le _⟩ (c_X6_appendChange (n := T 0 1) (st := T 0 10) (v := T 200 2) hR hW hd (rdW_c hT 1) (rdW_c hT 10) h60 (by decide) (rdW_u hT 2)) rfl rfl rfl rfl hR.1 (by decide) rfl dX6_takeOperation_54 (fun v54 M54 hp54 => ?_)
    obtain ⟨rfl, rfl⟩ := hp54
    exact x_zret h hQ rfl (Or.inr rfl) dX6_takeOperation_57 ⟨rfl, rfl, _, rfl, tk_some (o := opT T 43) rfl (rdS_ch hd (rdS_0 hT) h60 _)⟩
  · refine x_look h 58 dX6_takeOperation_1 (by decide) (off := 57) (by decide) (by decide) ?_
    refine x_aload_n h dX6_takeOperation_58 rfl ?_
    refine x_in2 h dX6_takeOperation_59 ?_
    refine x_aload_n h dX6_takeOperation_60 rfl ?_
    refine x_cVi h ci_X6_appendChange im_X6_appendChange l_X6_96 ⟨Nat.le_of_ble_eq_true rfl, Nat.le_of_ble_eq_true rfl⟩ ⟨rfl, rfl⟩ ⟨Nat.zero_le _, Nat.zero_le _⟩ (c_X6_appendChange (n := T 0 1) (st := T 0 10) (v := T 200 2) hR hW hd (rdW_c hT 1) (rdW_c hT 10) h60 (by decide) (rdW_u hT 2)) rfl rfl rfl rfl hR.1 (by decide) rfl dX6_takeOperation_61 (fun v61 M61 hp61 => ?_)
    obtain ⟨rfl, rfl⟩ := hp61
    exact x_zret h hQ rfl (Or.inr rfl) dX6_takeOperation_64 ⟨rfl, rfl, _, rfl, tk_some (o := opT T 45) rfl (rdS_ch hd (rdS_0 hT) h60 _)⟩
  · refine x_look h 65 dX6_takeOperation_1 (by decide) (off := 64) (by decide) (by decide) ?_
    refine x_aload_n h dX6_takeOperation_65 rfl ?_
    refine x_in3 h dX6_takeOperation_66 ?_
    refine x_aload_n h dX6_takeOperation_67 rfl ?_
    refine x_cVi h ci_X6_appendChange im_X6_appendChange l_X6_96 ⟨Nat.le_of_ble_eq_true rfl, Nat.le_of_ble_eq_true rfl⟩ ⟨rfl, rfl⟩ ⟨Nat.zero_le _, Nat.zero_le _⟩ (c_X6_appendChange (n := T 0 1) (st := T 0 10) (v := T 200 2) hR hW hd (rdW_c hT 1) (rdW_c hT 10) h60 (by decide) (rdW_u hT 2)) rfl rfl rfl rfl hR.1 (by decide) rfl dX6_takeOperation_68 (fun v68 M68 hp68 => ?_)
    obtain ⟨rfl, rfl⟩ := hp68
    exact x_zret h hQ rfl (Or.inr rfl) dX6_takeOperation_71 ⟨rfl, rfl, _, rfl, tk_some (o := opT T 63) rfl (rdS_ch hd (rdS_0 hT) h60 _)⟩
  · refine x_look h 72 dX6_takeOperation_1 (by decide) (off := 71) (lk_def _ _ _ (by rw [nI_toInt (by omega)]; simp; omega)) (by decide) ?_
    refine x_ic0 h dX6_takeOperation_72 ?_
    exact x_zret h hQ rfl (by decide) dX6_takeOperation_73 ⟨rfl, rfl, _, rfl, tk_none (by simp [opT, hne])⟩
def stT (T : RT) (ch : Nat) : Option RT :=
  if isNm ch then some (tU (tU T 200 2 (ch - 97)) 200 0 1) else if ch = 64 then some (ecT T 4)
  else if ch = 33 then (if T 0 7 < 4 then some (ecT T 5) else none)
  else if ch = 40 then (if T 0 8 < 3 then some (ecT T 6) else none)
  else if ch = 41 then (if 1 ≤ T 200 5 ∧ T (65 + plT T) 0 = 6 then some (clT T (plT T)) else none)
  else if ch = 123 then (if T 0 9 < 3 then some (ocT T) else none)
  else if ch = 124 then (if 1 ≤ T 200 5 ∧ T (65 + plT T) 0 = 8 then some (pbT T (plT T) 9) else none)
  else if ch = 125 then (if 1 ≤ T 200 5 ∧ T (65 + plT T) 0 = 9 then some (pbT T (plT T) 10) else none)
  else if ch = 59 then (if T 200 5 = 0 ∧ T 0 6 < 5 then some (ecT T 4294967295) else none) else none
/-- a table as it is when i letters have been taken -/
def rdOk (T : RT) (i : Nat) : Prop := T 0 1 ≤ i ∧ 3 * T 0 3 + (if T 200 0 = 1 ∨ T 200 0 = 3 then 1 else if T 200 0 = 2 ∨ T 200 0 = 4 then 2 else if T 200 0 = 5 then 3 else 0) ≤ i ∧ T 200 0 ≤ 6 ∧ T 200 2 < 3 ∧ T 200 5 ≤ T 0 8 + T 0 9 ∧ T 0 8 ≤ 3 ∧ T 0 9 ≤ 3 ∧ T 0 6 ≤ 5 ∧ T 0 7 ≤ 4 ∧ (∀ j, j < T 200 5 → T 201 j < T 0 1) ∧ (∀ j, j < 60 → T (65 + j) 0 ≤ 10) ∧ (3 ≤ T 200 0 → T 200 0 ≤ 5 → T 200 1 = 4 ∨ (T 200 1 = 5 ∧ T 0 7 < 4) ∨ (T 200 1 = 6 ∧ T 0 8 < 3) ∨ (T 200 1 = 4294967295 ∧ T 0 6 < 5))
theorem c_X6_takeStatement {Γ : GT} {G : GG} {M : MM} {u c : Nat} {T : RT} (hR : rdF G M.2.2 u) (hW : codeF G M.2.2 c) (hd : u + 2 ≤ c ∨ c + 125 ≤ u) (hT : rdW M u c T) (h60 : T 0 1 < 60) {ch i : Nat} (hch : ch < 2 ^ 16) (hok : rdOk T i) : Calls Γ q_X6_takeStatement [.ref u, .int (nI ch), .ref c] G M (rI (tkP u c M (stT T ch))) := by
  obtain ⟨o1, o2, o3, o4, o5, o6, o7, o8, o9, o10, o11, o12⟩ := hok
  have hpl : 1 ≤ T 200 5 → T 201 (T 200 5 - 1) = plT T ∧ plT T < T 0 1 := fun q => ⟨(if_pos q).symm, by rw [show plT T = T 201 (T 200 5 - 1) from if_pos q]; exact o10 _ (by omega)⟩
  have hp60 : plT T < 60 := by
    by_cases q : 1 ≤ T 200 5
    · exact Nat.lt_trans (hpl q).2 h60
    · rw [show plT T = 0 from if_neg q]; decide
  have hk : T (65 + plT T) 0 < 2 ^ 31 := Nat.lt_of_le_of_lt (o11 _ hp60) (by decide)
  refine Calls.intro (by decide +kernel) (Nat.le_of_ble_eq_true rfl) (fun z E h hQ => ?_)
  refine x_loc (L' := [some (.ref u), some (.int (nI ch)), some (.ref c)]) rfl ?_
  refine x_iload_n h dX6_takeStatement_0 rfl ?_
  refine x_cSi h ci_X6_isName sm_X6_isName l_X6_59 ⟨Nat.le_of_ble_eq_true rfl, Nat.le_of_ble_eq_true rfl⟩ ⟨rfl, rfl⟩ ⟨Nat.zero_le _, Nat.zero_le _⟩ (c_X6_isName (by omega)) rfl rfl rfl rfl dX6_takeStatement_1 (fun v1 M1 hp1 => ?_)
  obtain ⟨rfl, hM⟩ := hp1
  obtain rfl := hM.symm
  clear hM
  refine x_if_eq h 22 dX6_takeStatement_4 (by decide) (fun c4 => ?_) (fun c4 => ?_)
  · have en := b2i_0.mp c4
    refine x_iload_n h dX6_takeStatement_22 rfl ?_
    rcases (show ch = 64 ∨ ch = 33 ∨ ch = 40 ∨ ch = 41 ∨ ch = 123 ∨ ch = 124 ∨ ch = 125 ∨ ch = 59 ∨ (ch ≠ 64 ∧ ch ≠ 33 ∧ ch ≠ 40 ∧ ch ≠ 41 ∧ ch ≠ 123 ∧ ch ≠ 124 ∧ ch ≠ 125 ∧ ch ≠ 59) by omega) with rfl | rfl | rfl | rfl | rfl | rfl | rfl | rfl | hne
    · refine x_look h 96 dX6_takeStatement_23 (by decide) (off := 73) (by decide) (by decide) ?_
      refine x_aload_n h dX6_takeStatement_96 rfl ?_
      refine x_in4 h dX6_takeStatement_97 ?_
      refine x_cVi h ci_X6_expectCondition im_X6_expectCondition l_X6_67 ⟨Nat.le_of_ble_eq_true rfl, Nat.le_of_ble_eq_true rfl⟩ ⟨rfl, rfl⟩ ⟨Nat.zero_le _, Nat.zero_le _⟩ (c_X6_expectCondition hR) rfl rfl rfl rfl hR.1 (by decide) rfl dX6_takeStatement_98 (fun v98 M98 hp98 => ?_)
      obtain ⟨rfl, rfl⟩ := hp98
      exact x_zret h hQ rfl (Or.inr rfl) dX6_takeStatement_101 ⟨rfl, rfl, _, rfl, tk_some (o := stT T 64) rfl (rdS_u hd (rdS_u hd (rdS_0 hT) (a := 0) (f := 1) (x := 4) (by decide)) (a := 0) (by decide))⟩
    · refine x_look h 102 dX6_takeStatement_23 (by decide) (off := 79) (by decide) (by decide) ?_
      refine x_aload_n h dX6_takeStatement_102 rfl ?_
      refine x_getIv h hW.1 f_X6_71 rfl (rdW_c hT 7) dX6_takeStatement_103 ?_
      refine x_in4 h dX6_takeStatement_106 ?_
      refine x_icmp_ge h 122 dX6_takeStatement_107 (by decide) (fun c107 => ?_) (fun c107 => ?_)
      · have e107 : ¬ T 0 7 < 4 := Nat.not_lt.mpr ((nI_le_iff (by decide) (by omega)).mp c107)
        refine x_ic0 h dX6_takeStatement_122 ?_
        exact x_zret h hQ rfl (by decide) dX6_takeStatement_123 ⟨rfl, rfl, _, rfl, tk_none (by simp [stT, isNm]; omega)⟩
      · have e107 : T 0 7 < 4 := Nat.lt_of_not_le (mt (nI_le_iff (a := 4) (b := T 0 7) (by decide) (by omega)).mpr c107)
        refine x_aload_n h dX6_takeStatement_110 rfl ?_
        refine x_in5 h dX6_takeStatement_111 ?_
        refine x_cVi h ci_X6_expectCondition im_X6_expectCondition l_X6_67 ⟨Nat.le_of_ble_eq_true rfl, Nat.le_of_ble_eq_true rfl⟩ ⟨rfl, rfl⟩ ⟨Nat.zero_le _, Nat.zero_le _⟩ (c_X6_expectCondition hR) rfl rfl rfl rfl hR.1 (by decide) rfl dX6_takeStatement_112 (fun v112 M112 hp112 => ?_)
        obtain ⟨rfl, rfl⟩ := hp112
        refine x_if_eq h 122 dX6_takeStatement_115 (by decide) (fun c115 => ?_) (fun c115 => ?_)
        · exact absurd c115 (by decide)
        · refine x_ic1 h dX6_takeStatement_118 ?_
          refine x_goto h 123 dX6_takeStatement_119 (by decide) ?_
          exact x_zret h hQ rfl (by decide) dX6_takeStatement_123 ⟨rfl, rfl, _, rfl, tk_some (T' := ecT T 5) (by simp [stT, isNm]; omega) (rdS_u hd (rdS_u hd (rdS_0 hT) (a := 0) (f := 1) (x := 5) (by decide)) (a := 0) (by decide))⟩
    · refine x_look h 124 dX6_takeStatement_23 (by decide) (off := 101) (by decide) (by decide) ?_
      refine x_aload_n h dX6_takeStatement_124 rfl ?_
      refine x_getIv h hW.1 f_X6_74 rfl (rdW_c hT 8) dX6_takeStatement_125 ?_
      refine x_in3 h dX6_takeStatement_128 ?_
      refine x_icmp_ge h 145 dX6_takeStatement_129 (by decide) (fun c129 => ?_) (fun c129 => ?_)
      · have e129 : ¬ T 0 8 < 3 := Nat.not_lt.mpr ((nI_le_iff (by decide) (by omega)).mp c129)
        refine x_ic0 h dX6_takeStatement_145 ?_
        exact x_zret h hQ rfl (by decide) dX6_takeStatement_146 ⟨rfl, rfl, _, rfl, tk_none (by simp [stT, isNm]; omega)⟩
      · have e129 : T 0 8 < 3 := Nat.lt_of_not_le (mt (nI_le_iff (a := 3) (b := T 0 8) (by decide) (by omega)).mpr c129)
        refine x_aload_n h dX6_takeStatement_132 rfl ?_
        refine x_bipush h (nI 6) (by decide) dX6_takeStatement_133 ?_
        refine x_cVi h ci_X6_expectCondition im_X6_expectCondition l_X6_67 ⟨Nat.le_of_ble_eq_true rfl, Nat.le_of_ble_eq_true rfl⟩ ⟨rfl, rfl⟩ ⟨Nat.zero_le _, Nat.zero_le _⟩ (c_X6_expectCondition hR) rfl rfl rfl rfl hR.1 (by decide) rfl dX6_takeStatement_135 (fun v135 M135 hp135 => ?_)
        obtain ⟨rfl, rfl⟩ := hp135
        refine x_if_eq h 145 dX6_takeStatement_138 (by decide) (fun c138 => ?_) (fun c138 => ?_)
        · exact absurd c138 (by decide)
        · refine x_ic1 h dX6_takeStatement_141 ?_
          refine x_goto h 146 dX6_takeStatement_142 (by decide) ?_
          exact x_zret h hQ rfl (by decide) dX6_takeStatement_146 ⟨rfl, rfl, _, rfl, tk_some (T' := ecT T 6) (by simp [stT, isNm]; omega) (rdS_u hd (rdS_u hd (rdS_0 hT) (a := 0) (f := 1) (x := 6) (by decide)) (a := 0) (by decide))⟩
    · refine x_look h 147 dX6_takeStatement_23 (by decide) (off := 124) (by decide) (by decide) ?_
      refine x_aload_n h dX6_takeStatement_147 rfl ?_
      refine x_aload_n h dX6_takeStatement_148 rfl ?_
      refine x_cVi h ci_X6_closeLoop im_X6_closeLoop l_X6_77 ⟨Nat.le_of_ble_eq_true rfl, Nat.le_of_ble_eq_true rfl⟩ ⟨rfl, rfl⟩ ⟨Nat.zero_le _, Nat.zero_le _⟩ (c_X6_closeLoop (pl := plT T) hR hW hd hT h60 (by omega) hp60 hpl hk) rfl rfl rfl rfl hR.1 (by decide) rfl dX6_takeStatement_149 (fun v149 M149 hp149 => ?_)
      have hq := hp149
      obtain rfl := hp149.1
      exact x_zret h hQ rfl (b2i_01 _) dX6_takeStatement_152 ⟨rfl, rfl, _, rfl, by
          by_cases q : 1 ≤ T 200 5 ∧ T (65 + plT T) 0 = 6
          · rw [decide_eq_true q]; exact tk_some (T' := clT T (plT T)) (by simp [stT, isNm, q]) (hq.2.1 q)
          · rw [hq.2.2 q, decide_eq_false q]; exact tk_none (by simp only [stT]; simp [isNm]; intro a b; exact q ⟨a, b⟩)⟩
    · refine x_look h 153 dX6_takeStatement_23 (by decide) (off := 130) (by decide) (by decide) ?_
      refine x_aload_n h dX6_takeStatement_153 rfl ?_
      refine x_getIv h hW.1 f_X6_80 rfl (rdW_c hT 9) dX6_takeStatement_154 ?_
      refine x_in3 h dX6_takeStatement_157 ?_
      refine x_icmp_ge h 173 dX6_takeStatement_158 (by decide) (fun c158 => ?_) (fun c158 => ?_)
      · have e158 : ¬ T 0 9 < 3 := Nat.not_lt.mpr ((nI_le_iff (by decide) (by omega)).mp c158)
        refine x_ic0 h dX6_takeStatement_173 ?_
        exact x_zret h hQ rfl (by decide) dX6_takeStatement_174 ⟨rfl, rfl, _, rfl, tk_none (by simp [stT, isNm]; omega)⟩
      · have e158 : T 0 9 < 3 := Nat.lt_of_not_le (mt (nI_le_iff (a := 3) (b := T 0 9) (by decide) (by omega)).mpr c158)
        refine x_aload_n h dX6_takeStatement_161 rfl ?_
        refine x_aload_n h dX6_takeStatement_162 rfl ?_
        refine x_cVi h ci_X6_openChoice im_X6_openChoice l_X6_83 ⟨Nat.le_of_ble_eq_true rfl, Nat.le_of_ble_eq_true rfl⟩ ⟨rfl, rfl⟩ ⟨Nat.zero_le _, Nat.zero_le _⟩ (c_X6_openChoice (n := T 0 1) (st := T 0 10) (dp := T 200 5) (l := T 0 9) hR hW hd (rdW_c hT 1) (rdW_c hT 10) h60 (rdW_u hT 5) (by omega) (rdW_c hT 9)) rfl rfl rfl rfl hR.1 (by decide) rfl dX6_takeStatement_163 (fun v163 M163 hp163 => ?_)
        obtain ⟨rfl, rfl⟩ := hp163
        refine x_if_eq h 173 dX6_takeStatement_166 (by decide) (fun c166 => ?_) (fun c166 => ?_)
        · exact absurd c166 (by decide)
        · refine x_ic1 h dX6_takeStatement_169 ?_
          refine x_goto h 174 dX6_takeStatement_170 (by decide) ?_
          exact x_zret h hQ rfl (by decide) dX6_takeStatement_174 ⟨rfl, rfl, _, rfl, tk_some (T' := ocT T) (by simp [stT, isNm]; omega) (rdS_oc hd (rdS_0 hT) h60)⟩
    · refine x_look h 175 dX6_takeStatement_23 (by decide) (off := 152) (by decide) (by decide) ?_
      refine x_aload_n h dX6_takeStatement_175 rfl ?_
      refine x_bipush h (nI 8) (by decide) dX6_takeStatement_176 ?_
      refine x_bipush h (nI 9) (by decide) dX6_takeStatement_178 ?_
      refine x_aload_n h dX6_takeStatement_180 rfl ?_
      refine x_cVi h ci_X6_passBar im_X6_passBar l_X6_86 ⟨Nat.le_of_ble_eq_true rfl, Nat.le_of_ble_eq_true rfl⟩ ⟨rfl, rfl⟩ ⟨Nat.zero_le _, Nat.zero_le _⟩ (c_X6_passBar (pl := plT T) hR hW hd hT h60 (by omega) hp60 hpl hk (by decide) (by decide)) rfl rfl rfl rfl hR.1 (by decide) rfl dX6_takeStatement_181 (fun v181 M181 hp181 => ?_)
      have hq := hp181
      obtain rfl := hp181.1
      exact x_zret h hQ rfl (b2i_01 _) dX6_takeStatement_184 ⟨rfl, rfl, _, rfl, by
          by_cases q : 1 ≤ T 200 5 ∧ T (65 + plT T) 0 = 8
          · rw [decide_eq_true q]; exact tk_some (T' := pbT T (plT T) 9) (by simp [stT, isNm, q]) (hq.2.1 q)
          · rw [hq.2.2 q, decide_eq_false q]; exact tk_none (by simp only [stT]; simp [isNm]; intro a b; exact q ⟨a, b⟩)⟩
    · refine x_look h 185 dX6_takeStatement_23 (by decide) (off := 162) (by decide) (by decide) ?_
      refine x_aload_n h dX6_takeStatement_185 rfl ?_
      refine x_bipush h (nI 9) (by decide) dX6_takeStatement_186 ?_
      refine x_bipush h (nI 10) (by decide) dX6_takeStatement_188 ?_
      refine x_aload_n h dX6_takeStatement_190 rfl ?_
      refine x_cVi h ci_X6_passBar im_X6_passBar l_X6_86 ⟨Nat.le_of_ble_eq_true rfl, Nat.le_of_ble_eq_true rfl⟩ ⟨rfl, rfl⟩ ⟨Nat.zero_le _, Nat.zero_le _⟩ (c_X6_passBar (pl := plT T) hR hW hd hT h60 (by omega) hp60 hpl hk (by decide) (by decide)) rfl rfl rfl rfl hR.1 (by decide) rfl dX6_takeStatement_191 (fun v191 M191 hp191 => ?_)
      have hq := hp191
      obtain rfl := hp191.1
      exact x_zret h hQ rfl (b2i_01 _) dX6_takeStatement_194 ⟨rfl, rfl, _, rfl, by
          by_cases q : 1 ≤ T 200 5 ∧ T (65 + plT T) 0 = 9
          · rw [decide_eq_true q]; exact tk_some (T' := pbT T (plT T) 10) (by simp [stT, isNm, q]) (hq.2.1 q)
          · rw [hq.2.2 q, decide_eq_false q]; exact tk_none (by simp only [stT]; simp [isNm]; intro a b; exact q ⟨a, b⟩)⟩
    · refine x_look h 195 dX6_takeStatement_23 (by decide) (off := 172) (by decide) (by decide) ?_
      refine x_aload_n h dX6_takeStatement_195 rfl ?_
      refine x_getIv h hR.1 f_X6_24 rfl (rdW_u hT 5) dX6_takeStatement_196 ?_
      refine x_if_ne h 214 dX6_takeStatement_199 (by decide) (fun c199 => ?_) (fun c199 => ?_)
      · have e199 : ¬ T 200 5 = 0 := fun q => c199 ((congrArg nI q).trans nI_0)
        refine x_ic0 h dX6_takeStatement_214 ?_
        exact x_zret h hQ rfl (by decide) dX6_takeStatement_215 ⟨rfl, rfl, _, rfl, tk_none (by simp [stT, isNm]; omega)⟩
      · have e199 : T 200 5 = 0 := nI_small 0 (by omega) (by decide) (c199.trans nI_0.symm)
        refine x_aload_n h dX6_takeStatement_202 rfl ?_
        refine x_aload_n h dX6_takeStatement_203 rfl ?_
        refine x_cVi h ci_X6_beginGuess im_X6_beginGuess l_X6_55 ⟨Nat.le_of_ble_eq_true rfl, Nat.le_of_ble_eq_true rfl⟩ ⟨rfl, rfl⟩ ⟨Nat.zero_le _, Nat.zero_le _⟩ (c_X6_beginGuess (m := T 0 6) hR hW (rdW_c hT 6) o8) rfl rfl rfl rfl hR.1 (by decide) rfl dX6_takeStatement_204 (fun v204 M204 hp204 => ?_)
        have hq := hp204
        obtain rfl := hp204.1
        refine x_if_eq h 214 dX6_takeStatement_207 (by decide) (fun c207 => ?_) (fun c207 => ?_)
        · have eg : ¬ T 0 6 < 5 := of_decide_eq_false (b2i_0.mp c207)
          refine x_ic0 h dX6_takeStatement_214 ?_
          exact x_zret h hQ rfl (by decide) dX6_takeStatement_215 ⟨rfl, rfl, _, rfl, (by rw [hq.2.2 eg]; exact tk_none (by simp [stT, isNm]; omega))⟩
        · have eg : T 0 6 < 5 := of_decide_eq_true (bool_nf (fun q => c207 (b2i_0.mpr q)))
          refine x_ic1 h dX6_takeStatement_210 ?_
          refine x_goto h 215 dX6_takeStatement_211 (by decide) ?_
          exact x_zret h hQ rfl (by decide) dX6_takeStatement_215 ⟨rfl, rfl, _, rfl, (by rw [hq.2.1 eg]; exact tk_some (T' := ecT T 4294967295) (by simp [stT, isNm]; omega) (rdS_u hd (rdS_u hd (rdS_0 hT) (a := 0) (f := 1) (x := 4294967295) (by decide)) (a := 0) (by decide)))⟩
    · refine x_look h 216 dX6_takeStatement_23 (by decide) (off := 193) (lk_def _ _ _ (by rw [nI_toInt (by omega)]; simp; omega)) (by decide) ?_
      refine x_ic0 h dX6_takeStatement_216 ?_
      exact x_zret h hQ rfl (by decide) dX6_takeStatement_217 ⟨rfl, rfl, _, rfl, tk_none (by simp [stT, en, hne])⟩
  · have en := bool_nf (fun q => c4 (b2i_0.mpr q))
    have en2 : 97 ≤ ch ∧ ch ≤ 99 := of_decide_eq_true en
    refine x_aload_n h dX6_takeStatement_7 rfl ?_
    refine x_iload_n h dX6_takeStatement_8 rfl ?_
    refine x_bipush h (nI 97) (by decide) dX6_takeStatement_9 ?_
    refine x_isubn h en2.1 dX6_takeStatement_11 ?_
    refine x_putI h hR.1 f_X6_62 rfl rfl dX6_takeStatement_12 ?_
    refine x_aload_n h dX6_takeStatement_15 rfl ?_
    refine x_in1 h dX6_takeStatement_16 ?_
    refine x_putI h hR.1 f_X6_20 rfl rfl dX6_takeStatement_17 ?_
    refine x_ic1 h dX6_takeStatement_20 ?_
    exact x_zret h hQ rfl (by decide) dX6_takeStatement_21 ⟨rfl, rfl, _, rfl, tk_some (show stT T ch = some _ from if_pos en) (rdS_u hd (rdS_u hd (rdS_0 hT) (a := 0) (by decide)) (a := 0) (by decide))⟩
