/-! ===== any variable; Code: a program that is read ===== -/
theorem c_X9_free {Γ : GT} {G : GG} {M : MM} {a v : Nat} {S : ST} (hv : v < 3) (hS : isS G M.2.2 a) (eS : hasS M a S) : Calls Γ q_X9_free [.ref a, .int (nI v)] G M (rV (fun M' => M' = setS M a (frS v S))) := by
  rcases (show v = 0 ∨ v = 1 ∨ v = 2 by omega) with rfl | rfl | rfl
  · exact c_X9_free_0 hS eS
  · exact c_X9_free_1 hS eS
  · exact c_X9_free_2 hS eS
theorem c_X9_shift {Γ : GT} {G : GG} {M : MM} {a v up st : Nat} {S : ST} (hv : v < 3) (hu : up < 2) (ht : st < 2) (hS : isS G M.2.2 a) (eS : hasS M a S) : Calls Γ q_X9_shift [.ref a, .int (nI v), .int (nI up), .int (nI st)] G M (rV (fun M' => M' = setS M a (shS v (decide (up = 1)) (decide (st = 1)) S))) := by
  rcases (show v = 0 ∨ v = 1 ∨ v = 2 by omega) with rfl | rfl | rfl <;> rcases (show up = 0 ∨ up = 1 by omega) with rfl | rfl <;> rcases (show st = 0 ∨ st = 1 by omega) with rfl | rfl
  · exact c_X9_shift_000 hS eS
  · exact c_X9_shift_001 hS eS
  · exact c_X9_shift_010 hS eS
  · exact c_X9_shift_011 hS eS
  · exact c_X9_shift_100 hS eS
  · exact c_X9_shift_101 hS eS
  · exact c_X9_shift_110 hS eS
  · exact c_X9_shift_111 hS eS
  · exact c_X9_shift_200 hS eS
  · exact c_X9_shift_201 hS eS
  · exact c_X9_shift_210 hS eS
  · exact c_X9_shift_211 hS eS
/-- the cells of a Code at c that never move -/
def codeF (G : GG) (R : Nat → Nat → Value) (c : Nat) : Prop := G c = some (.inl 2) ∧ R c 0 = .ref (c + 1) ∧ G (c + 1) = some (.inr (.object "LoopGuesses$Step", 60)) ∧ (∀ i, i < 60 → R (c + 1) i = .ref (c + 65 + i) ∧ G (c + 65 + i) = some (.inl 10)) ∧ R c 2 = .ref (c + 2) ∧ G (c + 2) = some (.inr (.object "LoopGuesses$Condition", 20)) ∧ (∀ i, i < 20 → R (c + 2) i = .ref (c + 5 + 3 * i) ∧ G (c + 5 + 3 * i) = some (.inl 3) ∧ R (c + 5 + 3 * i) 3 = .ref (c + 5 + 3 * i + 1) ∧ isS G R (c + 5 + 3 * i + 1)) ∧ R c 4 = .ref (c + 3) ∧ G (c + 3) = some (.inr (.object "LoopGuesses$Condition", 5)) ∧ R c 5 = .ref (c + 4) ∧ G (c + 4) = some (.inr (.object "LoopGuesses$Condition", 4))
theorem lm_X2_59 : KW (.methodLink RX2 59 q_J9_min.1) := KW.by 467 (by decide +kernel) rfl
theorem c_X2_at {Γ : GT} {G : GG} {M : MM} {c : Nat} (hW : codeF G M.2.2 c) {i : Nat} (hi : i < 60) : Calls Γ q_X2_at [.ref c, .int (nI i)] G M (rR (fun a M' => a = c + 65 + i ∧ M' = M)) := by
  have hW0 := hW
  obtain ⟨gc, rs, gs, hs, rc, gcn, hc, rg, gg, rk, gk⟩ := hW
  refine Calls.intro (by decide +kernel) (Nat.le_of_ble_eq_true rfl) (fun z E h hQ => ?_)
  refine x_loc (L' := [some (.ref c), some (.int (nI i))]) rfl ?_
  refine x_aload_n h dX2_at_0 rfl ?_
  refine x_getR h gc f_X2_11 rfl rs dX2_at_1 ?_
  refine x_iload_n h dX2_at_4 rfl ?_
  refine x_if_lt h 17 dX2_at_5 (by decide) (fun c5 => ?_) (fun c5 => ?_)
  · exact (nI_nneg (by omega) c5).elim
  · refine x_iload_n h dX2_at_8 rfl ?_
    refine x_aload_n h dX2_at_9 rfl ?_
    refine x_getR h gc f_X2_11 rfl rs dX2_at_10 ?_
    refine x_alen h gs (by decide) dX2_at_13 ?_
    refine x_icmp_lt h 21 dX2_at_14 (by decide) (fun c14 => ?_) (fun c14 => ?_)
    · refine x_iload_n h dX2_at_21 rfl ?_
      refine x_aald h i gs (by decide) (ix.ni hi (by decide)) (hs i hi).1 dX2_at_22 ?_
      exact x_aret h hQ rfl rfl dX2_at_23 ⟨rfl, rfl, _, rfl, rfl, rfl⟩
    · exact absurd ((nI_lt_iff (by omega) (by decide)).mpr hi) c14
def clrM (M : MM) (c : Nat) : MM := sI (sI (sI (sI (sI (sI (sI M c 1 (nI 0)) c 3 (nI 0)) c 6 (nI 0)) c 7 (nI 0)) c 8 (nI 0)) c 9 (nI 0)) c 10 (nI 0)
theorem c_X2_clear {Γ : GT} {G : GG} {M : MM} {c : Nat} (hW : codeF G M.2.2 c) : Calls Γ q_X2_clear [.ref c] G M (rV (fun M' => M' = clrM M c)) := by
  have hW0 := hW
  obtain ⟨gc, rs, gs, hs, rc, gcn, hc, rg, gg, rk, gk⟩ := hW
  refine Calls.intro (by decide +kernel) (Nat.le_of_ble_eq_true rfl) (fun z E h hQ => ?_)
  refine x_loc (L' := [some (.ref c)]) rfl ?_
  refine x_aload_n h dX2_clear_0 rfl ?_
  refine x_in0 h dX2_clear_1 ?_
  refine x_putI h gc f_X2_33 rfl rfl dX2_clear_2 ?_
  refine x_aload_n h dX2_clear_5 rfl ?_
  refine x_in0 h dX2_clear_6 ?_
  refine x_putI h gc f_X2_37 rfl rfl dX2_clear_7 ?_
  refine x_aload_n h dX2_clear_10 rfl ?_
  refine x_in0 h dX2_clear_11 ?_
  refine x_putI h gc f_X2_40 rfl rfl dX2_clear_12 ?_
  refine x_aload_n h dX2_clear_15 rfl ?_
  refine x_in0 h dX2_clear_16 ?_
  refine x_putI h gc f_X2_43 rfl rfl dX2_clear_17 ?_
  refine x_aload_n h dX2_clear_20 rfl ?_
  refine x_in0 h dX2_clear_21 ?_
  refine x_putI h gc f_X2_46 rfl rfl dX2_clear_22 ?_
  refine x_aload_n h dX2_clear_25 rfl ?_
  refine x_in0 h dX2_clear_26 ?_
  refine x_putI h gc f_X2_49 rfl rfl dX2_clear_27 ?_
  refine x_aload_n h dX2_clear_30 rfl ?_
  refine x_in0 h dX2_clear_31 ?_
  refine x_putI h gc f_X2_52 rfl rfl dX2_clear_32 ?_
  exact x_vret h hQ rfl dX2_clear_35 ⟨rfl, rfl, rfl, rfl⟩
def apM (M : MM) (c n k st : Nat) : MM := sI (sR (sI (sI M c 1 (nI (n + 1))) (c + 65 + n) 0 (nI k)) (c + 65 + n) 4 (.ref (c + 5))) c 10 (nI (if isStm k then st + 1 else st))
theorem sI_same (M : MM) (a k : Nat) {x : Int32} (h : M.1 a k = x) : sI M a k x = M := by
  show (_, M.2.1, M.2.2) = (M.1, M.2.1, M.2.2)
  congr 1
  funext b j
  by_cases hb : b = a ∧ j = k
  · obtain ⟨rfl, rfl⟩ := hb
    simp [up2, h]
  · simp only [up2, if_neg hb]
theorem c_X2_append {Γ : GT} {G : GG} {M : MM} {c : Nat} (hW : codeF G M.2.2 c) {n k st : Nat} (hn : M.1 c 1 = nI n) (hst : M.1 c 10 = nI st) (h60 : n < 60) (hk : k < 2 ^ 31) : Calls Γ q_X2_append [.ref c, .int (nI k)] G M (rR (fun a M' => a = c + 65 + n ∧ M' = apM M c n k st)) := by
  have hW0 := hW
  obtain ⟨gc, rs, gs, hs, rc, gcn, hc, rg, gg, rk, gk⟩ := hW
  refine Calls.intro (by decide +kernel) (Nat.le_of_ble_eq_true rfl) (fun z E h hQ => ?_)
  refine x_loc (L' := [some (.ref c), some (.int (nI k)), none]) rfl ?_
  refine x_aload_n h dX2_append_0 rfl ?_
  refine x_aload_n h dX2_append_1 rfl ?_
  refine x_getIv h gc f_X2_33 rfl hn dX2_append_2 ?_
  refine x_cVr h ci_X2_at im_X2_at l_X2_55 ⟨Nat.le_of_ble_eq_true rfl, Nat.le_of_ble_eq_true rfl⟩ ⟨rfl, rfl⟩ ⟨Nat.zero_le _, Nat.zero_le _⟩ (c_X2_at hW0 h60) rfl rfl rfl rfl gc (by decide) rfl dX2_append_5 (fun v5 M5 hp5 => ?_)
  obtain ⟨rfl, hM⟩ := hp5
  obtain rfl := hM.symm
  clear hM
  refine x_astore_n h dX2_append_8 rfl rfl ?_
  dsimp only [List.set]
  refine x_aload_n h dX2_append_9 rfl ?_
  refine x_aload_n h dX2_append_10 rfl ?_
  refine x_getIv h gc f_X2_33 rfl hn dX2_append_11 ?_
  refine x_in1 h dX2_append_14 ?_
  refine x_iaddn h  dX2_append_15 ?_
  refine x_aload_n h dX2_append_16 rfl ?_
  refine x_getR h gc f_X2_11 rfl rs dX2_append_17 ?_
  refine x_alen h gs (by decide) dX2_append_20 ?_
  refine x_mmin h lm_X2_59 rfl ⟨by decide, by decide⟩ ⟨Nat.zero_le _, Nat.zero_le _⟩ rfl dX2_append_21 ?_
  refine x_topi (y := nI (n + 1)) (if_neg (fun q => absurd ((nI_lt_iff (by decide) (by omega)).mp q) (by omega))) ?_
  refine x_putI h gc f_X2_33 rfl rfl dX2_append_24 ?_
  refine x_aload_n h dX2_append_27 rfl ?_
  refine x_iload_n h dX2_append_28 rfl ?_
  refine x_putI h (hs n h60).2 f_X2_65 rfl rfl dX2_append_29 ?_
  refine x_aload_n h dX2_append_32 rfl ?_
  refine x_aload_n h dX2_append_33 rfl ?_
  refine x_getR h gc f_X2_19 rfl rc dX2_append_34 ?_
  refine x_in0 h dX2_append_37 ?_
  refine x_aald h 0 gcn (by decide) (ix.ni (j := 0) (by decide) (by decide)) (show _ = Value.ref (c + 5) from (hc 0 (by decide)).1) dX2_append_38 ?_
  refine x_putR h (hs n h60).2 f_X2_68 rfl rfl dX2_append_39 ?_
  refine x_aload_n h dX2_append_42 rfl ?_
  refine x_cVi h ci_X10_isStatement im_X10_isStatement l_X2_72 ⟨Nat.le_of_ble_eq_true rfl, Nat.le_of_ble_eq_true rfl⟩ ⟨rfl, rfl⟩ ⟨Nat.zero_le _, Nat.zero_le _⟩ (c_X10_isStatement (k := k) (hs n h60).2 (by simp [sI, sR, up2]) hk) rfl rfl rfl rfl (hs n h60).2 (by decide) rfl dX2_append_43 (fun v43 M43 hp43 => ?_)
  obtain ⟨rfl, hM⟩ := hp43
  obtain rfl := hM.symm
  clear hM
  refine x_if_eq h 59 dX2_append_46 (by decide) (fun c46 => ?_) (fun c46 => ?_)
  · have e := b2i_0.mp c46
    refine x_mem (M' := apM M c n k st) ?_ ?_
    · unfold apM
      rw [e]
      exact (sI_same _ _ _ (by simp [sI, sR, up2, hst])).symm
    refine x_aload_n h dX2_append_59 rfl ?_
    exact x_aret h hQ rfl rfl dX2_append_60 ⟨rfl, rfl, _, rfl, rfl, rfl⟩
  · have e := bool_nf (fun q => c46 (b2i_0.mpr q))
    refine x_aload_n h dX2_append_49 rfl ?_
    refine x_dup h rfl dX2_append_50 ?_
    refine x_getIv h gc f_X2_52 rfl (show _ = nI st from by simp [sI, sR, up2, hst]) dX2_append_51 ?_
    refine x_in1 h dX2_append_54 ?_
    refine x_iaddn h  dX2_append_55 ?_
    refine x_putI h gc f_X2_52 rfl rfl dX2_append_56 ?_
    refine x_aload_n h dX2_append_59 rfl ?_
    exact x_aret h hQ rfl rfl dX2_append_60 ⟨rfl, rfl, _, rfl, rfl, by unfold apM; rw [e]; rfl⟩
def ncM (M : MM) (c j : Nat) (x y w : Int32) : MM := sI (sI (sI (sI M c 3 (nI (j + 1))) (c + 5 + 3 * j) 0 x) (c + 5 + 3 * j) 1 y) (c + 5 + 3 * j) 2 w
theorem c_X2_newCondition {Γ : GT} {G : GG} {M : MM} {c : Nat} (hW : codeF G M.2.2 c) {j : Nat} {x y w : Int32} (hu : M.1 c 3 = nI j) (hj : j < 20) : Calls Γ q_X2_newCondition [.ref c, .int x, .int y, .int w] G M (rR (fun a M' => a = c + 5 + 3 * j ∧ M' = ncM M c j x y w)) := by
  have hW0 := hW
  obtain ⟨gc, rs, gs, hs, rc, gcn, hc, rg, gg, rk, gk⟩ := hW
  refine Calls.intro (by decide +kernel) (Nat.le_of_ble_eq_true rfl) (fun z E h hQ => ?_)
  refine x_loc (L' := [some (.ref c), some (.int x), some (.int y), some (.int w), none]) rfl ?_
  refine x_aload_n h dX2_newCondition_0 rfl ?_
  refine x_getR h gc f_X2_19 rfl rc dX2_newCondition_1 ?_
  refine x_aload_n h dX2_newCondition_4 rfl ?_
  refine x_getIv h gc f_X2_37 rfl hu dX2_newCondition_5 ?_
  refine x_if_lt h 23 dX2_newCondition_8 (by decide) (fun c8 => ?_) (fun c8 => ?_)
  · exact (nI_nneg (by omega) c8).elim
  · refine x_aload_n h dX2_newCondition_11 rfl ?_
    refine x_getIv h gc f_X2_37 rfl hu dX2_newCondition_12 ?_
    refine x_aload_n h dX2_newCondition_15 rfl ?_
    refine x_getR h gc f_X2_19 rfl rc dX2_newCondition_16 ?_
    refine x_alen h gcn (by decide) dX2_newCondition_19 ?_
    refine x_icmp_lt h 27 dX2_newCondition_20 (by decide) (fun c20 => ?_) (fun c20 => ?_)
    · refine x_aload_n h dX2_newCondition_27 rfl ?_
      refine x_getIv h gc f_X2_37 rfl hu dX2_newCondition_28 ?_
      refine x_aald h j gcn (by decide) (ix.ni hj (by decide)) (hc j hj).1 dX2_newCondition_31 ?_
      refine x_astore h dX2_newCondition_32 rfl rfl ?_
      dsimp only [List.set]
      refine x_aload_n h dX2_newCondition_34 rfl ?_
      refine x_dup h rfl dX2_newCondition_35 ?_
      refine x_getIv h gc f_X2_37 rfl hu dX2_newCondition_36 ?_
      refine x_in1 h dX2_newCondition_39 ?_
      refine x_iaddn h  dX2_newCondition_40 ?_
      refine x_putI h gc f_X2_37 rfl rfl dX2_newCondition_41 ?_
      refine x_aload h dX2_newCondition_44 rfl ?_
      refine x_iload_n h dX2_newCondition_46 rfl ?_
      refine x_iload_n h dX2_newCondition_47 rfl ?_
      refine x_iload_n h dX2_newCondition_48 rfl ?_
      refine x_cVv h ci_X3_put im_X3_put l_X2_76 ⟨Nat.le_of_ble_eq_true rfl, Nat.le_of_ble_eq_true rfl⟩ ⟨rfl, rfl⟩ ⟨Nat.zero_le _, Nat.zero_le _⟩ (c_X3_put (hc j hj).2.1) rfl rfl rfl rfl (hc j hj).2.1 (by decide) rfl dX2_newCondition_49 (fun M49 hp49 => ?_)
      subst hp49
      refine x_aload h dX2_newCondition_52 rfl ?_
      exact x_aret h hQ rfl rfl dX2_newCondition_54 ⟨rfl, rfl, _, rfl, rfl, rfl⟩
    · exact absurd ((nI_lt_iff (by omega) (by decide)).mpr hj) c20
def acM (M : MM) (c n st m q : Nat) : MM := sI (sR (sI (sR (apM M c n 5 st) (c + 65 + n) 4 (.ref q)) (c + 65 + n) 2 (nI m)) (c + 4) m (.ref q)) c 7 (nI (m + 1))
def agM (M : MM) (c m q : Nat) : MM := sI (sR M (c + 3) m (.ref q)) c 6 (nI (m + 1))
theorem c_X2_appendCheck {Γ : GT} {G : GG} {M : MM} {c : Nat} (hW : codeF G M.2.2 c) {n st m q : Nat} (hn : M.1 c 1 = nI n) (hst : M.1 c 10 = nI st) (h60 : n < 60) (hm : M.1 c 7 = nI m) (h4 : m < 4) (gq : G q = some (.inl 3)) : Calls Γ q_X2_appendCheck [.ref c, .ref q] G M (rV (fun M' => M' = acM M c n st m q)) := by
  have hW0 := hW
  obtain ⟨gc, rs, gs, hs, rc, gcn, hc, rg, gg, rk, gk⟩ := hW
  refine Calls.intro (by decide +kernel) (Nat.le_of_ble_eq_true rfl) (fun z E h hQ => ?_)
  refine x_loc (L' := [some (.ref c), some (.ref q), none]) rfl ?_
  refine x_aload_n h dX2_appendCheck_0 rfl ?_
  refine x_in5 h dX2_appendCheck_1 ?_
  refine x_cVr h ci_X2_append im_X2_append l_X2_80 ⟨Nat.le_of_ble_eq_true rfl, Nat.le_of_ble_eq_true rfl⟩ ⟨rfl, rfl⟩ ⟨Nat.zero_le _, Nat.zero_le _⟩ (c_X2_append hW0 hn hst h60 (by decide)) rfl rfl rfl rfl gc (by decide) rfl dX2_appendCheck_2 (fun v2 M2 hp2 => ?_)
  obtain ⟨rfl, rfl⟩ := hp2
  refine x_astore_n h dX2_appendCheck_5 rfl rfl ?_
  dsimp only [List.set]
  refine x_aload_n h dX2_appendCheck_6 rfl ?_
  refine x_aload_n h dX2_appendCheck_7 rfl ?_
  refine x_putR h (hs n h60).2 f_X2_68 rfl rfl dX2_appendCheck_8 ?_
  refine x_aload_n h dX2_appendCheck_11 rfl ?_
  refine x_aload_n h dX2_appendCheck_12 rfl ?_
  refine x_getIv h gc f_X2_43 rfl (show _ = nI m from by simp [apM, sI, sR, up2, hm]) dX2_appendCheck_13 ?_
  refine x_putI h (hs n h60).2 f_X2_83 rfl rfl dX2_appendCheck_16 ?_
  refine x_aload_n h dX2_appendCheck_19 rfl ?_
  refine x_getIv h gc f_X2_43 rfl (show _ = nI m from by simp [apM, sI, sR, up2, hm]) dX2_appendCheck_20 ?_
  refine x_if_lt h 48 dX2_appendCheck_23 (by decide) (fun c23 => ?_) (fun c23 => ?_)
  · exact (nI_nneg (by omega) c23).elim
  · refine x_aload_n h dX2_appendCheck_26 rfl ?_
    refine x_getIv h gc f_X2_43 rfl (show _ = nI m from by simp [apM, sI, sR, up2, hm]) dX2_appendCheck_27 ?_
    refine x_aload_n h dX2_appendCheck_30 rfl ?_
    refine x_getR h gc f_X2_26 rfl (show _ = Value.ref (c + 4) from by simp [apM, sI, sR, up2, rk]) dX2_appendCheck_31 ?_
    refine x_alen h gk (by decide) dX2_appendCheck_34 ?_
    refine x_icmp_ge h 48 dX2_appendCheck_35 (by decide) (fun c35 => ?_) (fun c35 => ?_)
    · exact absurd ((nI_le_iff (by decide) (by omega)).mp c35) (by omega)
    · refine x_aload_n h dX2_appendCheck_38 rfl ?_
      refine x_getR h gc f_X2_26 rfl (show _ = Value.ref (c + 4) from by simp [apM, sI, sR, up2, rk]) dX2_appendCheck_39 ?_
      refine x_aload_n h dX2_appendCheck_42 rfl ?_
      refine x_getIv h gc f_X2_43 rfl (show _ = nI m from by simp [apM, sI, sR, up2, hm]) dX2_appendCheck_43 ?_
      refine x_aload_n h dX2_appendCheck_46 rfl ?_
      refine x_aast (ci := 3) h m gk (by decide) (by decide) gq (ix.ni h4 (by decide)) dX2_appendCheck_47 ?_
      refine x_aload_n h dX2_appendCheck_48 rfl ?_
      refine x_dup h rfl dX2_appendCheck_49 ?_
      refine x_getIv h gc f_X2_43 rfl (show _ = nI m from by simp [apM, sI, sR, up2, hm]) dX2_appendCheck_50 ?_
      refine x_in1 h dX2_appendCheck_53 ?_
      refine x_iaddn h  dX2_appendCheck_54 ?_
      refine x_putI h gc f_X2_43 rfl rfl dX2_appendCheck_55 ?_
      exact x_vret h hQ rfl dX2_appendCheck_58 ⟨rfl, rfl, rfl, rfl⟩
theorem c_X2_appendGuess {Γ : GT} {G : GG} {M : MM} {c : Nat} (hW : codeF G M.2.2 c) {m q : Nat} (hm : M.1 c 6 = nI m) (h5 : m < 5) (gq : G q = some (.inl 3)) : Calls Γ q_X2_appendGuess [.ref c, .ref q] G M (rV (fun M' => M' = agM M c m q)) := by
  have hW0 := hW
  obtain ⟨gc, rs, gs, hs, rc, gcn, hc, rg, gg, rk, gk⟩ := hW
  refine Calls.intro (by decide +kernel) (Nat.le_of_ble_eq_true rfl) (fun z E h hQ => ?_)
  refine x_loc (L' := [some (.ref c), some (.ref q)]) rfl ?_
  refine x_aload_n h dX2_appendGuess_0 rfl ?_
  refine x_getIv h gc f_X2_40 rfl hm dX2_appendGuess_1 ?_
  refine x_if_lt h 29 dX2_appendGuess_4 (by decide) (fun c4 => ?_) (fun c4 => ?_)
  · exact (nI_nneg (by omega) c4).elim
  · refine x_aload_n h dX2_appendGuess_7 rfl ?_
    refine x_getIv h gc f_X2_40 rfl hm dX2_appendGuess_8 ?_
    refine x_aload_n h dX2_appendGuess_11 rfl ?_
    refine x_getR h gc f_X2_23 rfl rg dX2_appendGuess_12 ?_
    refine x_alen h gg (by decide) dX2_appendGuess_15 ?_
    refine x_icmp_ge h 29 dX2_appendGuess_16 (by decide) (fun c16 => ?_) (fun c16 => ?_)
    · exact absurd ((nI_le_iff (by decide) (by omega)).mp c16) (by omega)
    · refine x_aload_n h dX2_appendGuess_19 rfl ?_
      refine x_getR h gc f_X2_23 rfl rg dX2_appendGuess_20 ?_
      refine x_aload_n h dX2_appendGuess_23 rfl ?_
      refine x_getIv h gc f_X2_40 rfl hm dX2_appendGuess_24 ?_
      refine x_aload_n h dX2_appendGuess_27 rfl ?_
      refine x_aast (ci := 3) h m gg (by decide) (by decide) gq (ix.ni h5 (by decide)) dX2_appendGuess_28 ?_
      refine x_aload_n h dX2_appendGuess_29 rfl ?_
      refine x_dup h rfl dX2_appendGuess_30 ?_
      refine x_getIv h gc f_X2_40 rfl hm dX2_appendGuess_31 ?_
      refine x_in1 h dX2_appendGuess_34 ?_
      refine x_iaddn h  dX2_appendGuess_35 ?_
      refine x_putI h gc f_X2_40 rfl rfl dX2_appendGuess_36 ?_
      exact x_vret h hQ rfl dX2_appendGuess_39 ⟨rfl, rfl, rfl, rfl⟩
