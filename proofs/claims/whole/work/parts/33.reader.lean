/-! ===== Reader: the small methods ===== -/
def isNm (ch : Nat) : Bool := decide (97 ≤ ch ∧ ch ≤ 99)
/-- a term's number; 9 if it is none -/
def trmN (ch : Nat) : Nat := if isNm ch then ch - 91 else if 48 ≤ ch ∧ ch ≤ 53 then ch - 48 else 9
def trmI (t : Nat) : Int32 := if t < 9 then nI t else -1
theorem trmI_lt {t : Nat} : trmI t < 0 ↔ ¬ t < 9 := by
  unfold trmI
  split
  · rename_i q; exact ⟨fun c => (nI_nneg (by omega) c).elim, fun c => absurd q c⟩
  · rename_i q; exact ⟨fun _ => q, fun _ => by decide⟩
/-- the reader -/
def rdF (G : GG) (R : Nat → Nat → Value) (u : Nat) : Prop := G u = some (.inl 6) ∧ R u 4 = .ref (u + 1) ∧ G (u + 1) = some (.inr (.int, 6))
theorem c_X6_isName {Γ : GT} {G : GG} {M : MM} {ch : Nat} (hch : ch < 2 ^ 31) : Calls Γ q_X6_isName [.int (nI ch)] G M (rI (fun v M' => v = b2i (isNm ch) ∧ M' = M)) := by
  refine Calls.intro (by decide +kernel) (Nat.le_of_ble_eq_true rfl) (fun z E h hQ => ?_)
  refine x_loc (L' := [some (.int (nI ch))]) rfl ?_
  refine x_iload_n h dX6_isName_0 rfl ?_
  refine x_bipush h (nI 97) (by decide) dX6_isName_1 ?_
  refine x_icmp_lt h 16 dX6_isName_3 (by decide) (fun c3 => ?_) (fun c3 => ?_)
  · have e3 := (nI_lt_iff hch (by decide)).mp c3
    refine x_ic0 h dX6_isName_16 ?_
    exact x_zret h hQ rfl (by decide) dX6_isName_17 ⟨rfl, rfl, _, rfl, b2i_f (by simp [isNm]; omega), rfl⟩
  · have e3 := mt (nI_lt_iff (a := ch) (b := 97) hch (by decide)).mpr c3
    refine x_iload_n h dX6_isName_6 rfl ?_
    refine x_bipush h (nI 99) (by decide) dX6_isName_7 ?_
    refine x_icmp_gt h 16 dX6_isName_9 (by decide) (fun c9 => ?_) (fun c9 => ?_)
    · have e9 := (nI_lt_iff (by decide) hch).mp c9
      refine x_ic0 h dX6_isName_16 ?_
      exact x_zret h hQ rfl (by decide) dX6_isName_17 ⟨rfl, rfl, _, rfl, b2i_f (by simp [isNm]; omega), rfl⟩
    · have e9 := mt (nI_lt_iff (a := 99) (b := ch) (by decide) hch).mpr c9
      refine x_ic1 h dX6_isName_12 ?_
      refine x_goto h 17 dX6_isName_13 (by decide) ?_
      exact x_zret h hQ rfl (by decide) dX6_isName_17 ⟨rfl, rfl, _, rfl, b2i_t (by simp [isNm]; omega), rfl⟩
theorem c_X6_term {Γ : GT} {G : GG} {M : MM} {ch : Nat} (hch : ch < 2 ^ 16) : Calls Γ q_X6_term [.int (nI ch)] G M (rI (fun v M' => v = trmI (trmN ch) ∧ M' = M)) := by
  refine Calls.intro (by decide +kernel) (Nat.le_of_ble_eq_true rfl) (fun z E h hQ => ?_)
  refine x_loc (L' := [some (.int (nI ch))]) rfl ?_
  refine x_iload_n h dX6_term_0 rfl ?_
  refine x_cSi h ci_X6_isName sm_X6_isName l_X6_59 ⟨Nat.le_of_ble_eq_true rfl, Nat.le_of_ble_eq_true rfl⟩ ⟨rfl, rfl⟩ ⟨Nat.zero_le _, Nat.zero_le _⟩ (c_X6_isName (by omega)) rfl rfl rfl rfl dX6_term_1 (fun v1 M1 hp1 => ?_)
  obtain ⟨rfl, hM⟩ := hp1
  obtain rfl := hM.symm
  clear hM
  refine x_if_eq h 15 dX6_term_4 (by decide) (fun c4 => ?_) (fun c4 => ?_)
  · have en := b2i_0.mp c4
    refine x_iload_n h dX6_term_15 rfl ?_
    refine x_bipush h (nI 48) (by decide) dX6_term_16 ?_
    refine x_icmp_lt h 34 dX6_term_18 (by decide) (fun c18 => ?_) (fun c18 => ?_)
    · have e18 := (nI_lt_iff (by omega) (by decide)).mp c18
      refine x_icm1 h dX6_term_34 ?_
      exact x_iret h hQ rfl dX6_term_35 ⟨rfl, rfl, _, rfl, by rw [trmN, if_neg (by rw [en]; decide), if_neg (by omega)]; rfl, rfl⟩
    · have e18 := mt (nI_lt_iff (a := ch) (b := 48) (by omega) (by decide)).mpr c18
      refine x_iload_n h dX6_term_21 rfl ?_
      refine x_bipush h (nI 53) (by decide) dX6_term_22 ?_
      refine x_icmp_gt h 34 dX6_term_24 (by decide) (fun c24 => ?_) (fun c24 => ?_)
      · have e24 := (nI_lt_iff (by decide) (by omega)).mp c24
        refine x_icm1 h dX6_term_34 ?_
        exact x_iret h hQ rfl dX6_term_35 ⟨rfl, rfl, _, rfl, by rw [trmN, if_neg (by rw [en]; decide), if_neg (by omega)]; rfl, rfl⟩
      · have e24 := mt (nI_lt_iff (a := 53) (b := ch) (by decide) (by omega)).mpr c24
        refine x_iload_n h dX6_term_27 rfl ?_
        refine x_bipush h (nI 48) (by decide) dX6_term_28 ?_
        refine x_isubn h (by omega) dX6_term_30 ?_
        refine x_goto h 35 dX6_term_31 (by decide) ?_
        exact x_iret h hQ rfl dX6_term_35 ⟨rfl, rfl, _, rfl, by rw [trmN, if_neg (by rw [en]; decide), if_pos (by omega), trmI, if_pos (by omega)], rfl⟩
  · have en := bool_nf (fun q => c4 (b2i_0.mpr q))
    have en2 : 97 ≤ ch ∧ ch ≤ 99 := of_decide_eq_true en
    refine x_bipush h (nI 6) (by decide) dX6_term_7 ?_
    refine x_iload_n h dX6_term_9 rfl ?_
    refine x_iaddn h  dX6_term_10 ?_
    refine x_bipush h (nI 97) (by decide) dX6_term_11 ?_
    refine x_isubn h (by omega) dX6_term_13 ?_
    exact x_iret h hQ rfl dX6_term_14 ⟨rfl, rfl, _, rfl, by rw [trmN, if_pos en, trmI, if_pos (by omega)]; exact congrArg nI (by omega), rfl⟩
theorem c_X6_expectCondition {Γ : GT} {G : GG} {M : MM} {u : Nat} (hR : rdF G M.2.2 u) {w : Int32} : Calls Γ q_X6_expectCondition [.ref u, .int w] G M (rI (fun v M' => v = 1 ∧ M' = sI (sI M u 1 w) u 0 (nI 3))) := by
  refine Calls.intro (by decide +kernel) (Nat.le_of_ble_eq_true rfl) (fun z E h hQ => ?_)
  refine x_loc (L' := [some (.ref u), some (.int w)]) rfl ?_
  refine x_aload_n h dX6_expectCondition_0 rfl ?_
  refine x_iload_n h dX6_expectCondition_1 rfl ?_
  refine x_putI h hR.1 f_X6_93 rfl rfl dX6_expectCondition_2 ?_
  refine x_aload_n h dX6_expectCondition_5 rfl ?_
  refine x_in3 h dX6_expectCondition_6 ?_
  refine x_putI h hR.1 f_X6_20 rfl rfl dX6_expectCondition_7 ?_
  refine x_ic1 h dX6_expectCondition_10 ?_
  exact x_zret h hQ rfl (by decide) dX6_expectCondition_11 ⟨rfl, rfl, _, rfl, rfl, rfl⟩
theorem c_X6_beginGuess {Γ : GT} {G : GG} {M : MM} {u : Nat} (hR : rdF G M.2.2 u) {c : Nat} (hW : codeF G M.2.2 c) {m : Nat} (hm : M.1 c 6 = nI m) (hm5 : m ≤ 5) : Calls Γ q_X6_beginGuess [.ref u, .ref c] G M (rI (fun v M' => v = b2i (decide (m < 5)) ∧ (m < 5 → M' = sI (sI M u 1 (-1)) u 0 (nI 3)) ∧ (¬ m < 5 → M' = M))) := by
  refine Calls.intro (by decide +kernel) (Nat.le_of_ble_eq_true rfl) (fun z E h hQ => ?_)
  refine x_loc (L' := [some (.ref u), some (.ref c)]) rfl ?_
  refine x_aload_n h dX6_beginGuess_0 rfl ?_
  refine x_getIv h hW.1 f_X6_90 rfl hm dX6_beginGuess_1 ?_
  refine x_in5 h dX6_beginGuess_4 ?_
  refine x_icmp_ge h 20 dX6_beginGuess_5 (by decide) (fun c5 => ?_) (fun c5 => ?_)
  · have e5 := (nI_le_iff (by decide) (by omega)).mp c5
    refine x_ic0 h dX6_beginGuess_20 ?_
    exact x_zret h hQ rfl (by decide) dX6_beginGuess_21 ⟨rfl, rfl, _, rfl, b2i_f (decide_eq_false (by omega)), fun q => absurd q (by omega), fun _ => rfl⟩
  · have e5 := mt (nI_le_iff (a := 5) (b := m) (by decide) (by omega)).mpr c5
    refine x_aload_n h dX6_beginGuess_8 rfl ?_
    refine x_icm1 h dX6_beginGuess_9 ?_
    refine x_cVi h ci_X6_expectCondition im_X6_expectCondition l_X6_67 ⟨Nat.le_of_ble_eq_true rfl, Nat.le_of_ble_eq_true rfl⟩ ⟨rfl, rfl⟩ ⟨Nat.zero_le _, Nat.zero_le _⟩ (c_X6_expectCondition hR) rfl rfl rfl rfl hR.1 (by decide) rfl dX6_beginGuess_10 (fun v10 M10 hp10 => ?_)
    obtain ⟨rfl, rfl⟩ := hp10
    refine x_if_eq h 20 dX6_beginGuess_13 (by decide) (fun c13 => ?_) (fun c13 => ?_)
    · exact absurd c13 (by decide)
    · refine x_ic1 h dX6_beginGuess_16 ?_
      refine x_goto h 21 dX6_beginGuess_17 (by decide) ?_
      exact x_zret h hQ rfl (by decide) dX6_beginGuess_21 ⟨rfl, rfl, _, rfl, b2i_t (decide_eq_true (by omega)), fun _ => rfl, fun q => absurd q (by omega)⟩
theorem c_X6_takeLeft {Γ : GT} {G : GG} {M : MM} {u : Nat} (hR : rdF G M.2.2 u) {ch : Nat} (hch : ch < 2 ^ 16) : Calls Γ q_X6_takeLeft [.ref u, .int (nI ch)] G M (rI (fun v M' => v = b2i (isNm ch) ∧ (isNm ch = true → M' = sI (sI M u 2 (nI (ch - 97))) u 0 (nI 4)) ∧ (isNm ch = false → M' = M))) := by
  refine Calls.intro (by decide +kernel) (Nat.le_of_ble_eq_true rfl) (fun z E h hQ => ?_)
  refine x_loc (L' := [some (.ref u), some (.int (nI ch))]) rfl ?_
  refine x_iload_n h dX6_takeLeft_0 rfl ?_
  refine x_cSi h ci_X6_isName sm_X6_isName l_X6_59 ⟨Nat.le_of_ble_eq_true rfl, Nat.le_of_ble_eq_true rfl⟩ ⟨rfl, rfl⟩ ⟨Nat.zero_le _, Nat.zero_le _⟩ (c_X6_isName (by omega)) rfl rfl rfl rfl dX6_takeLeft_1 (fun v1 M1 hp1 => ?_)
  obtain ⟨rfl, hM⟩ := hp1
  obtain rfl := hM.symm
  clear hM
  refine x_if_ne h 9 dX6_takeLeft_4 (by decide) (fun c4 => ?_) (fun c4 => ?_)
  · have en := bool_nf (fun q => c4 (b2i_0.mpr q))
    have en2 : 97 ≤ ch ∧ ch ≤ 99 := of_decide_eq_true en
    refine x_aload_n h dX6_takeLeft_9 rfl ?_
    refine x_iload_n h dX6_takeLeft_10 rfl ?_
    refine x_bipush h (nI 97) (by decide) dX6_takeLeft_11 ?_
    refine x_isubn h (by omega) dX6_takeLeft_13 ?_
    refine x_putI h hR.1 f_X6_62 rfl rfl dX6_takeLeft_14 ?_
    refine x_aload_n h dX6_takeLeft_17 rfl ?_
    refine x_in4 h dX6_takeLeft_18 ?_
    refine x_putI h hR.1 f_X6_20 rfl rfl dX6_takeLeft_19 ?_
    refine x_ic1 h dX6_takeLeft_22 ?_
    exact x_zret h hQ rfl (by decide) dX6_takeLeft_23 ⟨rfl, rfl, _, rfl, b2i_t en, fun _ => rfl, (fun q => by rw [en] at q; cases q)⟩
  · have en := b2i_0.mp c4
    refine x_ic0 h dX6_takeLeft_7 ?_
    exact x_zret h hQ rfl (by decide) dX6_takeLeft_8 ⟨rfl, rfl, _, rfl, b2i_f en, (fun q => by rw [en] at q; cases q), fun _ => rfl⟩
def isSg (ch : Nat) : Bool := decide (ch = 60 ∨ ch = 61 ∨ ch = 62 ∨ ch = 35)
theorem c_X6_takeSign {Γ : GT} {G : GG} {M : MM} {u : Nat} (hR : rdF G M.2.2 u) {ch : Nat} (hch : ch < 2 ^ 16) : Calls Γ q_X6_takeSign [.ref u, .int (nI ch)] G M (rI (fun v M' => v = b2i (isSg ch) ∧ (isSg ch = true → M' = sI (sI M u 3 (nI ch)) u 0 (nI 5)) ∧ (isSg ch = false → M' = M))) := by
  refine Calls.intro (by decide +kernel) (Nat.le_of_ble_eq_true rfl) (fun z E h hQ => ?_)
  refine x_loc (L' := [some (.ref u), some (.int (nI ch))]) rfl ?_
  refine x_iload_n h dX6_takeSign_0 rfl ?_
  refine x_bipush h (nI 60) (by decide) dX6_takeSign_1 ?_
  refine x_icmp_eq h 26 dX6_takeSign_3 (by decide) (fun c3 => ?_) (fun c3 => ?_)
  · have en : isSg ch = true := decide_eq_true (by have := nI_small 60 (by omega) (by decide) c3; omega)
    refine x_aload_n h dX6_takeSign_26 rfl ?_
    refine x_iload_n h dX6_takeSign_27 rfl ?_
    refine x_putI h hR.1 f_X6_112 rfl rfl dX6_takeSign_28 ?_
    refine x_aload_n h dX6_takeSign_31 rfl ?_
    refine x_in5 h dX6_takeSign_32 ?_
    refine x_putI h hR.1 f_X6_20 rfl rfl dX6_takeSign_33 ?_
    refine x_ic1 h dX6_takeSign_36 ?_
    exact x_zret h hQ rfl (by decide) dX6_takeSign_37 ⟨rfl, rfl, _, rfl, b2i_t en, fun _ => rfl, (fun q => by rw [en] at q; cases q)⟩
  · have e3 : ¬ ch = 60 := fun q => c3 (by rw [q])
    refine x_iload_n h dX6_takeSign_6 rfl ?_
    refine x_bipush h (nI 61) (by decide) dX6_takeSign_7 ?_
    refine x_icmp_eq h 26 dX6_takeSign_9 (by decide) (fun c9 => ?_) (fun c9 => ?_)
    · have en : isSg ch = true := decide_eq_true (by have := nI_small 61 (by omega) (by decide) c9; omega)
      refine x_aload_n h dX6_takeSign_26 rfl ?_
      refine x_iload_n h dX6_takeSign_27 rfl ?_
      refine x_putI h hR.1 f_X6_112 rfl rfl dX6_takeSign_28 ?_
      refine x_aload_n h dX6_takeSign_31 rfl ?_
      refine x_in5 h dX6_takeSign_32 ?_
      refine x_putI h hR.1 f_X6_20 rfl rfl dX6_takeSign_33 ?_
      refine x_ic1 h dX6_takeSign_36 ?_
      exact x_zret h hQ rfl (by decide) dX6_takeSign_37 ⟨rfl, rfl, _, rfl, b2i_t en, fun _ => rfl, (fun q => by rw [en] at q; cases q)⟩
    · have e9 : ¬ ch = 61 := fun q => c9 (by rw [q])
      refine x_iload_n h dX6_takeSign_12 rfl ?_
      refine x_bipush h (nI 62) (by decide) dX6_takeSign_13 ?_
      refine x_icmp_eq h 26 dX6_takeSign_15 (by decide) (fun c15 => ?_) (fun c15 => ?_)
      · have en : isSg ch = true := decide_eq_true (by have := nI_small 62 (by omega) (by decide) c15; omega)
        refine x_aload_n h dX6_takeSign_26 rfl ?_
        refine x_iload_n h dX6_takeSign_27 rfl ?_
        refine x_putI h hR.1 f_X6_112 rfl rfl dX6_takeSign_28 ?_
        refine x_aload_n h dX6_takeSign_31 rfl ?_
        refine x_in5 h dX6_takeSign_32 ?_
        refine x_putI h hR.1 f_X6_20 rfl rfl dX6_takeSign_33 ?_
        refine x_ic1 h dX6_takeSign_36 ?_
        exact x_zret h hQ rfl (by decide) dX6_takeSign_37 ⟨rfl, rfl, _, rfl, b2i_t en, fun _ => rfl, (fun q => by rw [en] at q; cases q)⟩
      · have e15 : ¬ ch = 62 := fun q => c15 (by rw [q])
        refine x_iload_n h dX6_takeSign_18 rfl ?_
        refine x_bipush h (nI 35) (by decide) dX6_takeSign_19 ?_
        refine x_icmp_eq h 26 dX6_takeSign_21 (by decide) (fun c21 => ?_) (fun c21 => ?_)
        · have en : isSg ch = true := decide_eq_true (by have := nI_small 35 (by omega) (by decide) c21; omega)
          refine x_aload_n h dX6_takeSign_26 rfl ?_
          refine x_iload_n h dX6_takeSign_27 rfl ?_
          refine x_putI h hR.1 f_X6_112 rfl rfl dX6_takeSign_28 ?_
          refine x_aload_n h dX6_takeSign_31 rfl ?_
          refine x_in5 h dX6_takeSign_32 ?_
          refine x_putI h hR.1 f_X6_20 rfl rfl dX6_takeSign_33 ?_
          refine x_ic1 h dX6_takeSign_36 ?_
          exact x_zret h hQ rfl (by decide) dX6_takeSign_37 ⟨rfl, rfl, _, rfl, b2i_t en, fun _ => rfl, (fun q => by rw [en] at q; cases q)⟩
        · have e21 : ¬ ch = 35 := fun q => c21 (by rw [q])
          have en : isSg ch = false := decide_eq_false (by omega)
          refine x_ic0 h dX6_takeSign_24 ?_
          exact x_zret h hQ rfl (by decide) dX6_takeSign_25 ⟨rfl, rfl, _, rfl, b2i_f en, (fun q => by rw [en] at q; cases q), fun _ => rfl⟩
theorem apM_u {M : MM} {u c n k st j : Nat} (hd : u + 2 ≤ c ∨ c + 125 ≤ u) (hn : n < 60) : (apM M c n k st).1 u j = M.1 u j := by
  have h1 : u ≠ c := by omega
  have h2 : u ≠ c + 65 + n := by omega
  simp [apM, sI, sR, up2, h1, h2]
theorem c_X6_appendChange {Γ : GT} {G : GG} {M : MM} {u : Nat} (hR : rdF G M.2.2 u) {c : Nat} (hW : codeF G M.2.2 c) (hd : u + 2 ≤ c ∨ c + 125 ≤ u) {n st : Nat} (hn : M.1 c 1 = nI n) (hst : M.1 c 10 = nI st) (h60 : n < 60) {k v : Nat} (hk : k < 2 ^ 31) (hv : M.1 u 2 = nI v) : Calls Γ q_X6_appendChange [.ref u, .int (nI k), .ref c] G M (rI (fun y M' => y = 1 ∧ M' = sI (sI (apM M c n k st) (c + 65 + n) 1 (nI v)) u 0 (nI 0))) := by
  refine Calls.intro (by decide +kernel) (Nat.le_of_ble_eq_true rfl) (fun z E h hQ => ?_)
  refine x_loc (L' := [some (.ref u), some (.int (nI k)), some (.ref c)]) rfl ?_
  refine x_aload_n h dX6_appendChange_0 rfl ?_
  refine x_iload_n h dX6_appendChange_1 rfl ?_
  refine x_cVr h ci_X2_append im_X2_append l_X6_99 ⟨Nat.le_of_ble_eq_true rfl, Nat.le_of_ble_eq_true rfl⟩ ⟨rfl, rfl⟩ ⟨Nat.zero_le _, Nat.zero_le _⟩ (c_X2_append hW hn hst h60 hk) rfl rfl rfl rfl hW.1 (by decide) rfl dX6_appendChange_2 (fun v2 M2 hp2 => ?_)
  obtain ⟨rfl, rfl⟩ := hp2
  refine x_aload_n h dX6_appendChange_5 rfl ?_
  refine x_getIv h hR.1 f_X6_62 rfl (show _ = nI v from by rw [apM_u hd (by omega)]; exact hv) dX6_appendChange_6 ?_
  refine x_putI h (hW.2.2.2.1 n h60).2 f_X6_103 rfl rfl dX6_appendChange_9 ?_
  refine x_aload_n h dX6_appendChange_12 rfl ?_
  refine x_in0 h dX6_appendChange_13 ?_
  refine x_putI h hR.1 f_X6_20 rfl rfl dX6_appendChange_14 ?_
  refine x_ic1 h dX6_appendChange_17 ?_
  exact x_zret h hQ rfl (by decide) dX6_appendChange_18 ⟨rfl, rfl, _, rfl, rfl, rfl⟩
