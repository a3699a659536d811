/-! ===== Analysis: what has been found out ===== -/
def anW (G : GG) (R : Nat → Nat → Value) (D : DS) (n : Nat) : Prop := G n = some (.inl 0) ∧ R n 2 = .ref (n + 1) ∧ isD G R D (n + 1) ∧ R n 3 = .ref (n + 3) ∧ flowW G R D (n + 3) ∧ R n 5 = .ref (n + 43) ∧ invW G R D (n + 43) ∧ R n 7 = .ref (n + 85) ∧ invW G R D (n + 85) ∧ R n 8 = .ref (n + 127) ∧ G (n + 127) = some (.inr (.int, 32)) ∧ R n 9 = .ref (n + 128) ∧ blameW G R D (n + 128) ∧ R n 10 = .ref (n + 159) ∧ arrS G R D (n + 159) 4
/-- a program in a Code: what flows, guesses and checks see of it -/
def codeX (G : GG) (M : MM) (D : DS) (c : Nat) (P : PV) (V K : GV) (nl : Nat) : Prop := codeF G M.2.2 c ∧ pvW G M D c P ∧ gvW G M D c V ∧ kvW G M D c K ∧ M.1 c 8 = nI nl ∧ nl ≤ 3
theorem kvW_wI {G : GG} {M : MM} {D : DS} {c p n : Nat} {V : GV} {f : Nat → Int32} (h : kvW G M D c V) (hd : p < c ∨ c + 125 ≤ p) : kvW G (wI M p n f) D c V := by
  obtain ⟨h1, h2, h3⟩ := h
  exact ⟨h1, by rw [wI_ne _ _ _ _ (by omega)]; exact h2, h3⟩
theorem bit_or4 : ∀ m, m < 32 → ∀ g, g < 4 → nI m ||| (nI 1 <<< (nI g &&& 31)) = nI (m ||| 2 ^ g) := by decide +kernel
theorem c_X0_forget {Γ : GT} {G : GG} {M : MM} {D : DS} {σ : SG} {n : Nat} (hA : anW G M.2.2 D n) {c : Nat} : Calls Γ q_X0_forget [.ref n, .ref c] G (wS D M σ) (rV (fun M' => M' = wS D (sI (sI (sR M n 0 (.ref c)) n 1 (-1)) n 11 (nI 0)) σ)) := by
  have hA0 := hA
  obtain ⟨gn, rb, db, rr, fr, rp, ip, rt, it, rv, gv, rm, bm, rx, ax⟩ := hA
  refine Calls.intro (by decide +kernel) (Nat.le_of_ble_eq_true rfl) (fun z E h hQ => ?_)
  refine x_loc (L' := [some (.ref n), some (.ref c)]) rfl ?_
  refine x_aload_n h dX0_forget_0 rfl ?_
  refine x_aload_n h dX0_forget_1 rfl ?_
  refine x_putR h gn f_X0_58 rfl rfl dX0_forget_2 ?_
  refine x_aload_n h dX0_forget_5 rfl ?_
  refine x_icm1 h dX0_forget_6 ?_
  refine x_putI h gn f_X0_62 rfl rfl dX0_forget_7 ?_
  refine x_aload_n h dX0_forget_10 rfl ?_
  refine x_in0 h dX0_forget_11 ?_
  refine x_putI h gn f_X0_66 rfl rfl dX0_forget_12 ?_
  exact x_vret h hQ rfl dX0_forget_15 ⟨rfl, rfl, rfl, rfl⟩
theorem c_X0_lookAt {Γ : GT} {G : GG} {M : MM} {D : DS} {σ : SG} {n : Nat} (hA : anW G M.2.2 D n) {u : Nat} {t : Nat → Nat} {off : Nat} (hU : suW G M.2.2 u) (hT : suIs M u t off) (h6 : t 0 ≤ 6 ∧ t 1 ≤ 6 ∧ t 2 ≤ 6) (hun : u ≠ n ∧ u + 1 ≠ n) : Calls Γ q_X0_lookAt [.ref n, .ref u] G (wS D M σ) (rV (fun M' => (M.1 n 1 = nI (pkS t) → M' = wS D M σ) ∧ (M.1 n 1 ≠ nI (pkS t) → M' = wS D (wI (sI (sI (sI M n 1 (nI (pkS t))) n 4 0) n 6 (-1)) (n + 127) 32 (fun _ => -1)) (upσ σ (n + 1) (begS t))))) := by
  have hA0 := hA
  obtain ⟨gn, rb, db, rr, fr, rp, ip, rt, it, rv, gv, rm, bm, rx, ax⟩ := hA
  refine Calls.intro (by decide +kernel) (Nat.le_of_ble_eq_true rfl) (fun z E h hQ => ?_)
  refine x_loc (L' := [some (.ref n), some (.ref u), none, none]) rfl ?_
  have loop : ∀ i, i ≤ 32 → M.1 n 1 ≠ nI (pkS t) → X Γ E 0 0 G z (wI (wS D (sI (sI (sI M n 1 (nI (pkS t))) n 4 0) n 6 (-1)) (upσ σ (n + 1) (begS t))) (n + 127) i (fun _ => -1)) 39 [some (.ref n), some (.ref u), some (.int (nI (pkS t))), some (.int (nI i))] [] := by
    refine upto 32 (fun i hi ih hne => ?_)
    refine x_iload_n h dX0_lookAt_39 rfl ?_
    refine x_aload_n h dX0_lookAt_40 rfl ?_
    refine x_getR h gn f_X0_35 rfl rv dX0_lookAt_41 ?_
    refine x_alen h gv (by decide) dX0_lookAt_44 ?_
    refine x_icmp_ge h 61 dX0_lookAt_45 (by decide) (fun c45 => ?_) (fun c45 => ?_)
    · obtain rfl : i = 32 := up_ge (by decide) hi c45
      exact x_vret h hQ rfl dX0_lookAt_61 ⟨rfl, rfl, rfl, fun q => absurd q hne, fun _ => rfl⟩
    · have hlt : i < 32 := up_lt (by decide) hi c45
      refine x_aload_n h dX0_lookAt_48 rfl ?_
      refine x_getR h gn f_X0_35 rfl rv dX0_lookAt_49 ?_
      refine x_iload_n h dX0_lookAt_52 rfl ?_
      refine x_icm1 h dX0_lookAt_53 ?_
      refine x_iastw h i gv (ix.ni hlt (by decide)) rfl dX0_lookAt_54 ?_
      refine x_incn h dX0_lookAt_55 rfl rfl rfl ?_
      dsimp only [List.set]
      refine x_goto h 39 dX0_lookAt_58 (by decide) ?_
      exact ih hlt hne
  refine x_aload_n h dX0_lookAt_0 rfl ?_
  refine x_cVi h ci_X8_packedStart im_X8_packedStart l_X0_69 ⟨Nat.le_of_ble_eq_true rfl, Nat.le_of_ble_eq_true rfl⟩ ⟨rfl, rfl⟩ ⟨Nat.zero_le _, Nat.zero_le _⟩ (c_X8_packedStart (M := wS D M σ) hU hT) rfl rfl rfl rfl hU.1 (by decide) rfl dX0_lookAt_1 (fun v1 M1 hp1 => ?_)
  obtain ⟨rfl, hM⟩ := hp1
  obtain rfl := hM.symm
  clear hM
  refine x_istore_n h dX0_lookAt_4 rfl rfl ?_
  dsimp only [List.set]
  refine x_aload_n h dX0_lookAt_5 rfl ?_
  refine x_getI h gn f_X0_62 rfl dX0_lookAt_6 ?_
  refine x_iload_n h dX0_lookAt_9 rfl ?_
  refine x_icmp_ne h 14 dX0_lookAt_10 (by decide) (fun c10 => ?_) (fun c10 => ?_)
  · have hTn : suIs (sI M n 1 (nI (pkS t))) u t off := by
      obtain ⟨t0, t1, t2, t3⟩ := hT
      refine ⟨?_, ?_, ?_, ?_⟩ <;> simp only [sI] <;> rw [up2_ne _ _ (by omega)] <;> assumption
    refine x_aload_n h dX0_lookAt_14 rfl ?_
    refine x_iload_n h dX0_lookAt_15 rfl ?_
    refine x_putI h gn f_X0_62 rfl rfl dX0_lookAt_16 ?_
    refine x_aload_n h dX0_lookAt_19 rfl ?_
    refine x_aload_n h dX0_lookAt_20 rfl ?_
    refine x_getR h gn f_X0_12 rfl rb dX0_lookAt_21 ?_
    refine x_cVv h ci_X8_fillIn im_X8_fillIn l_X0_75 ⟨Nat.le_of_ble_eq_true rfl, Nat.le_of_ble_eq_true rfl⟩ ⟨rfl, rfl⟩ ⟨Nat.zero_le _, Nat.zero_le _⟩ (s_fillIn (M := sI M n 1 (nI (pkS t))) hU hTn db h6) rfl rfl rfl rfl hU.1 (by decide) rfl dX0_lookAt_24 (fun M24 hp24 => ?_)
    subst hp24
    refine x_aload_n h dX0_lookAt_27 rfl ?_
    refine x_ic0 h dX0_lookAt_28 ?_
    refine x_putZ h gn f_X0_79 rfl rfl (Or.inl rfl) dX0_lookAt_29 ?_
    refine x_aload_n h dX0_lookAt_32 rfl ?_
    refine x_icm1 h dX0_lookAt_33 ?_
    refine x_putI h gn f_X0_83 rfl rfl dX0_lookAt_34 ?_
    refine x_in0 h dX0_lookAt_37 ?_
    refine x_istore_n h dX0_lookAt_38 rfl rfl ?_
    dsimp only [List.set]
    have hl := loop 0 (by decide) c10
    rw [wI_0] at hl
    exact hl
  · exact x_vret h hQ rfl dX0_lookAt_13 ⟨rfl, rfl, rfl, fun _ => rfl, fun q => absurd c10 q⟩
theorem c_X0_reached {Γ : GT} {G : GG} {M : MM} {D : DS} {σ : SG} {n : Nat} (hA : anW G M.2.2 D n) {c nl : Nat} {P : PV} {V K : GV} (rc : M.2.2 n 0 = .ref c) (hX : codeX G M D c P V K nl) (hd : c + 125 ≤ n) : Calls Γ q_X0_reached [.ref n] G (wS D M σ) (rR (fun a M' => a = n + 3 ∧ (M.1 n 4 = 0 → M' = wS D (sI M n 4 1) (rchσ (n + 3) (n + 1) P σ)) ∧ (M.1 n 4 ≠ 0 → M' = wS D M σ))) := by
  have hA0 := hA
  obtain ⟨gn, rb, db, rr, fr, rp, ip, rt, it, rv, gv, rm, bm, rx, ax⟩ := hA
  refine Calls.intro (by decide +kernel) (Nat.le_of_ble_eq_true rfl) (fun z E h hQ => ?_)
  refine x_loc (L' := [some (.ref n)]) rfl ?_
  refine x_aload_n h dX0_reached_0 rfl ?_
  refine x_getI h gn f_X0_79 rfl dX0_reached_1 ?_
  refine x_if_ne h 27 dX0_reached_4 (by decide) (fun c4 => ?_) (fun c4 => ?_)
  · refine x_aload_n h dX0_reached_27 rfl ?_
    refine x_getR h gn f_X0_21 rfl rr dX0_reached_28 ?_
    exact x_aret h hQ rfl rfl dX0_reached_31 ⟨rfl, rfl, _, rfl, rfl, fun q => absurd q c4, fun _ => rfl⟩
  · refine x_aload_n h dX0_reached_7 rfl ?_
    refine x_getR h gn f_X0_21 rfl rr dX0_reached_8 ?_
    refine x_aload_n h dX0_reached_11 rfl ?_
    refine x_getR h gn f_X0_58 rfl rc dX0_reached_12 ?_
    refine x_aload_n h dX0_reached_15 rfl ?_
    refine x_getR h gn f_X0_12 rfl rb dX0_reached_16 ?_
    refine x_cVv h ci_X4_reach im_X4_reach l_X0_86 ⟨Nat.le_of_ble_eq_true rfl, Nat.le_of_ble_eq_true rfl⟩ ⟨rfl, rfl⟩ ⟨Nat.zero_le _, Nat.zero_le _⟩ (c_X4_reach fr hX.1 hX.2.1 db) rfl rfl rfl rfl fr.1 (by decide) rfl dX0_reached_19 (fun M19 hp19 => ?_)
    subst hp19
    refine x_aload_n h dX0_reached_22 rfl ?_
    refine x_ic1 h dX0_reached_23 ?_
    refine x_putZ h gn f_X0_79 rfl rfl (Or.inr rfl) dX0_reached_24 ?_
    refine x_aload_n h dX0_reached_27 rfl ?_
    refine x_getR h gn f_X0_21 rfl rr dX0_reached_28 ?_
    exact x_aret h hQ rfl rfl dX0_reached_31 ⟨rfl, rfl, _, rfl, rfl, fun _ => rfl, fun q => absurd c4 q⟩
theorem c_X0_invariants {Γ : GT} {G : GG} {M : MM} {D : DS} {σ : SG} {n : Nat} (hA : anW G M.2.2 D n) {c nl : Nat} {P : PV} {V K : GV} (rc : M.2.2 n 0 = .ref c) (hX : codeX G M D c P V K nl) (hd : c + 125 ≤ n) {act : Nat} (hact : act < 2 ^ V.1) : Calls Γ q_X0_invariants [.ref n, .int (nI act)] G (wS D M σ) (rR (fun a M' => a = n + 43 ∧ (M.1 n 6 = nI act → M' = wS D M σ) ∧ (M.1 n 6 ≠ nI act → M' = wS D (sI (wI M (n + 43 + 41) 3 (fun i => nI ((invR (n + 43 + 1) (n + 1) P V nl act σ).2 i))) n 6 (nI act)) (invR (n + 43 + 1) (n + 1) P V nl act σ).1))) := by
  have hA0 := hA
  obtain ⟨gn, rb, db, rr, fr, rp, ip, rt, it, rv, gv, rm, bm, rx, ax⟩ := hA
  refine Calls.intro (by decide +kernel) (Nat.le_of_ble_eq_true rfl) (fun z E h hQ => ?_)
  refine x_loc (L' := [some (.ref n), some (.int (nI act))]) rfl ?_
  refine x_aload_n h dX0_invariants_0 rfl ?_
  refine x_getI h gn f_X0_83 rfl dX0_invariants_1 ?_
  refine x_iload_n h dX0_invariants_4 rfl ?_
  refine x_icmp_eq h 29 dX0_invariants_5 (by decide) (fun c5 => ?_) (fun c5 => ?_)
  · refine x_aload_n h dX0_invariants_29 rfl ?_
    refine x_getR h gn f_X0_28 rfl rp dX0_invariants_30 ?_
    exact x_aret h hQ rfl rfl dX0_invariants_33 ⟨rfl, rfl, _, rfl, rfl, fun _ => rfl, fun q => absurd c5 q⟩
  · refine x_aload_n h dX0_invariants_8 rfl ?_
    refine x_getR h gn f_X0_28 rfl rp dX0_invariants_9 ?_
    refine x_aload_n h dX0_invariants_12 rfl ?_
    refine x_getR h gn f_X0_58 rfl rc dX0_invariants_13 ?_
    refine x_aload_n h dX0_invariants_16 rfl ?_
    refine x_getR h gn f_X0_12 rfl rb dX0_invariants_17 ?_
    refine x_iload_n h dX0_invariants_20 rfl ?_
    refine x_cVv h ci_X5_find im_X5_find l_X0_90 ⟨Nat.le_of_ble_eq_true rfl, Nat.le_of_ble_eq_true rfl⟩ ⟨rfl, rfl⟩ ⟨Nat.zero_le _, Nat.zero_le _⟩ (c_X5_find ip hX.1 hX.2.1 hX.2.2.1 db hX.2.2.2.2.1 hX.2.2.2.2.2 (by omega) hact) rfl rfl rfl rfl ip.1 (by decide) rfl dX0_invariants_21 (fun M21 hp21 => ?_)
    subst hp21
    refine x_aload_n h dX0_invariants_24 rfl ?_
    refine x_iload_n h dX0_invariants_25 rfl ?_
    refine x_putI h gn f_X0_83 rfl rfl dX0_invariants_26 ?_
    refine x_aload_n h dX0_invariants_29 rfl ?_
    refine x_getR h gn f_X0_28 rfl rp dX0_invariants_30 ?_
    exact x_aret h hQ rfl rfl dX0_invariants_33 ⟨rfl, rfl, _, rfl, rfl, fun q => absurd q c5, fun _ => rfl⟩
theorem c_X0_proved {Γ : GT} {G : GG} {M : MM} {D : DS} {σ : SG} {n : Nat} (hA : anW G M.2.2 D n) {c nl : Nat} {P : PV} {V K : GV} (rc : M.2.2 n 0 = .ref c) (hX : codeX G M D c P V K nl) (hd : c + 125 ≤ n) {act : Nat} (hact : act < 2 ^ V.1) : Calls Γ q_X0_proved [.ref n, .int (nI act)] G (wS D M σ) (rI (fun y M' => (M.1 (n + 127) act = -1 → y = nI (enN (fulS (invR (n + 85 + 1) (n + 1) P V nl act σ).1 (n + 85 + 1) K.2) 0 K.1) ∧ M' = wS D (sI (wI M (n + 85 + 41) 3 (fun i => nI ((invR (n + 85 + 1) (n + 1) P V nl act σ).2 i))) (n + 127) act (nI (enN (fulS (invR (n + 85 + 1) (n + 1) P V nl act σ).1 (n + 85 + 1) K.2) 0 K.1))) (invR (n + 85 + 1) (n + 1) P V nl act σ).1) ∧ (M.1 (n + 127) act ≠ -1 → y = M.1 (n + 127) act ∧ M' = wS D M σ))) := by
  have hA0 := hA
  obtain ⟨gn, rb, db, rr, fr, rp, ip, rt, it, rv, gv, rm, bm, rx, ax⟩ := hA
  have h32 : act < 32 := Nat.lt_of_lt_of_le hact (Nat.pow_le_pow_right (by decide) hX.2.2.1.1)
  refine Calls.intro (by decide +kernel) (Nat.le_of_ble_eq_true rfl) (fun z E h hQ => ?_)
  refine x_loc (L' := [some (.ref n), some (.int (nI act))]) rfl ?_
  refine x_iload_n h dX0_proved_0 rfl ?_
  refine x_if_lt h 13 dX0_proved_1 (by decide) (fun c1 => ?_) (fun c1 => ?_)
  · exact (nI_nneg (by omega) c1).elim
  · refine x_iload_n h dX0_proved_4 rfl ?_
    refine x_aload_n h dX0_proved_5 rfl ?_
    refine x_getR h gn f_X0_35 rfl rv dX0_proved_6 ?_
    refine x_alen h gv (by decide) dX0_proved_9 ?_
    refine x_icmp_lt h 15 dX0_proved_10 (by decide) (fun c10 => ?_) (fun c10 => ?_)
    · refine x_aload_n h dX0_proved_15 rfl ?_
      refine x_getR h gn f_X0_35 rfl rv dX0_proved_16 ?_
      refine x_iload_n h dX0_proved_19 rfl ?_
      refine x_iald h act gv (ix.ni h32 (by decide)) dX0_proved_20 ?_
      refine x_icm1 h dX0_proved_21 ?_
      refine x_icmp_ne h 61 dX0_proved_22 (by decide) (fun c22 => ?_) (fun c22 => ?_)
      · refine x_aload_n h dX0_proved_61 rfl ?_
        refine x_getR h gn f_X0_35 rfl rv dX0_proved_62 ?_
        refine x_iload_n h dX0_proved_65 rfl ?_
        refine x_iald h act gv (ix.ni h32 (by decide)) dX0_proved_66 ?_
        exact x_iret h hQ rfl dX0_proved_67 ⟨rfl, rfl, _, rfl, fun q => absurd q c22, fun _ => ⟨rfl, rfl⟩⟩
      · refine x_aload_n h dX0_proved_25 rfl ?_
        refine x_getR h gn f_X0_32 rfl rt dX0_proved_26 ?_
        refine x_aload_n h dX0_proved_29 rfl ?_
        refine x_getR h gn f_X0_58 rfl rc dX0_proved_30 ?_
        refine x_aload_n h dX0_proved_33 rfl ?_
        refine x_getR h gn f_X0_12 rfl rb dX0_proved_34 ?_
        refine x_iload_n h dX0_proved_37 rfl ?_
        refine x_cVv h ci_X5_find im_X5_find l_X0_90 ⟨Nat.le_of_ble_eq_true rfl, Nat.le_of_ble_eq_true rfl⟩ ⟨rfl, rfl⟩ ⟨Nat.zero_le _, Nat.zero_le _⟩ (c_X5_find it hX.1 hX.2.1 hX.2.2.1 db hX.2.2.2.2.1 hX.2.2.2.2.2 (by omega) hact) rfl rfl rfl rfl it.1 (by decide) rfl dX0_proved_38 (fun M38 hp38 => ?_)
        subst hp38
        refine x_aload_n h dX0_proved_41 rfl ?_
        refine x_getR h gn f_X0_35 rfl rv dX0_proved_42 ?_
        refine x_iload_n h dX0_proved_45 rfl ?_
        refine x_aload_n h dX0_proved_46 rfl ?_
        refine x_getR h gn f_X0_58 rfl rc dX0_proved_47 ?_
        refine x_aload_n h dX0_proved_50 rfl ?_
        refine x_getR h gn f_X0_32 rfl rt dX0_proved_51 ?_
        refine x_getR h it.1 f_X0_94 rfl it.2.1 dX0_proved_54 ?_
        refine x_cVi h ci_X2_fulfilled im_X2_fulfilled l_X0_97 ⟨Nat.le_of_ble_eq_true rfl, Nat.le_of_ble_eq_true rfl⟩ ⟨rfl, rfl⟩ ⟨Nat.zero_le _, Nat.zero_le _⟩ (c_X2_fulfilled (M := wI M (n + 85 + 41) 3 _) hX.1 (kvW_wI hX.2.2.2.1 (by omega)) it.2.2.1) rfl rfl rfl rfl hX.1.1 (by decide) rfl dX0_proved_57 (fun v57 M57 hp57 => ?_)
        obtain ⟨rfl, hM⟩ := hp57
        obtain rfl := hM.symm
        clear hM
        refine x_iast h act gv (ix.ni h32 (by decide)) dX0_proved_60 ?_
        refine x_aload_n h dX0_proved_61 rfl ?_
        refine x_getR h gn f_X0_35 rfl rv dX0_proved_62 ?_
        refine x_iload_n h dX0_proved_65 rfl ?_
        refine x_iald h act gv (ix.ni h32 (by decide)) dX0_proved_66 ?_
        exact x_iret h hQ rfl dX0_proved_67 ⟨rfl, rfl, _, rfl, fun _ => ⟨up2_self _ _ _ _, rfl⟩, fun q => absurd c22 q⟩
    · exact absurd ((nI_lt_iff (by omega) (by decide)).mpr h32) c10
theorem c_X0_failing {Γ : GT} {G : GG} {M : MM} {D : DS} {σ : SG} {n : Nat} (hA : anW G M.2.2 D n) {c nl : Nat} {P : PV} {V K : GV} (rc : M.2.2 n 0 = .ref c) (hX : codeX G M D c P V K nl) (hd : c + 125 ≤ n) {ck ff : Nat} (hck : ck < 4) (hff : M.1 n 11 = nI ff) (h16 : ff < 32) : Calls Γ q_X0_failing [.ref n, .int (nI ck)] G (wS D M σ) (rR (fun a M' => a = n + 159 + 1 + 2 * ck ∧ (ff.testBit ck = true → M' = wS D M σ) ∧ (ff.testBit ck = false → M' = wS D (sI M n 11 (nI (ff ||| 2 ^ ck))) (copσ (blmσ (n + 128) ck P σ) (n + 159 + 1 + 2 * ck) (n + 128 + 1))))) := by
  have hA0 := hA
  obtain ⟨gn, rb, db, rr, fr, rp, ip, rt, it, rv, gv, rm, bm, rx, ax⟩ := hA
  refine Calls.intro (by decide +kernel) (Nat.le_of_ble_eq_true rfl) (fun z E h hQ => ?_)
  refine x_loc (L' := [some (.ref n), some (.int (nI ck)), none]) rfl ?_
  refine x_iload_n h dX0_failing_0 rfl ?_
  refine x_if_lt h 13 dX0_failing_1 (by decide) (fun c1 => ?_) (fun c1 => ?_)
  · exact (nI_nneg (by omega) c1).elim
  · refine x_iload_n h dX0_failing_4 rfl ?_
    refine x_aload_n h dX0_failing_5 rfl ?_
    refine x_getR h gn f_X0_50 rfl rx dX0_failing_6 ?_
    refine x_alen h ax.1 (by decide) dX0_failing_9 ?_
    refine x_icmp_lt h 17 dX0_failing_10 (by decide) (fun c10 => ?_) (fun c10 => ?_)
    · refine x_iload_n h dX0_failing_17 rfl ?_
      refine x_istore_n h dX0_failing_18 rfl rfl ?_
      dsimp only [List.set]
      refine x_aload_n h dX0_failing_19 rfl ?_
      refine x_getIv h gn f_X0_66 rfl hff dX0_failing_20 ?_
      refine x_iload_n h dX0_failing_23 rfl ?_
      refine x_ishr h dX0_failing_24 ?_
      refine x_in1 h dX0_failing_25 ?_
      refine x_iand h dX0_failing_26 ?_
      refine x_topi (bit5 ff h16 ck (by omega)) ?_
      refine x_if_ne h 60 dX0_failing_27 (by decide) (fun c27 => ?_) (fun c27 => ?_)
      · have hb : ff.testBit ck = true := by
          cases hx : ff.testBit ck with
          | true => rfl
          | false => rw [hx] at c27; exact absurd rfl c27
        refine x_aload_n h dX0_failing_60 rfl ?_
        refine x_getR h gn f_X0_50 rfl rx dX0_failing_61 ?_
        refine x_iload_n h dX0_failing_64 rfl ?_
        refine x_aald h ck ax.1 (by decide) (ix.ni hck (by decide)) (ax.2 ck hck).1 dX0_failing_65 ?_
        exact x_aret h hQ rfl rfl dX0_failing_66 ⟨rfl, rfl, _, rfl, rfl, fun _ => rfl, (fun q => by rw [hb] at q; cases q)⟩
      · have hb : ff.testBit ck = false := by
          cases hx : ff.testBit ck with
          | false => rfl
          | true => rw [hx] at c27; exact absurd c27 (by decide)
        refine x_aload_n h dX0_failing_30 rfl ?_
        refine x_getR h gn f_X0_42 rfl rm dX0_failing_31 ?_
        refine x_aload_n h dX0_failing_34 rfl ?_
        refine x_getR h gn f_X0_58 rfl rc dX0_failing_35 ?_
        refine x_iload_n h dX0_failing_38 rfl ?_
        refine x_aload_n h dX0_failing_39 rfl ?_
        refine x_getR h gn f_X0_50 rfl rx dX0_failing_40 ?_
        refine x_iload_n h dX0_failing_43 rfl ?_
        refine x_aald h ck ax.1 (by decide) (ix.ni hck (by decide)) (ax.2 ck hck).1 dX0_failing_44 ?_
        refine x_cVv h ci_X1_find im_X1_find l_X0_131 ⟨Nat.le_of_ble_eq_true rfl, Nat.le_of_ble_eq_true rfl⟩ ⟨rfl, rfl⟩ ⟨Nat.zero_le _, Nat.zero_le _⟩ (c_X1_find bm hX.1 hX.2.1 hck (ax.2 ck hck).2) rfl rfl rfl rfl bm.1 (by decide) rfl dX0_failing_45 (fun M45 hp45 => ?_)
        subst hp45
        refine x_aload_n h dX0_failing_48 rfl ?_
        refine x_dup h rfl dX0_failing_49 ?_
        refine x_getIv h gn f_X0_66 rfl hff dX0_failing_50 ?_
        refine x_in1 h dX0_failing_53 ?_
        refine x_iload_n h dX0_failing_54 rfl ?_
        refine x_ishl h dX0_failing_55 ?_
        refine x_ior h dX0_failing_56 ?_
        refine x_topi (bit_or4 ff h16 ck hck) ?_
        refine x_putI h gn f_X0_66 rfl rfl dX0_failing_57 ?_
        refine x_aload_n h dX0_failing_60 rfl ?_
        refine x_getR h gn f_X0_50 rfl rx dX0_failing_61 ?_
        refine x_iload_n h dX0_failing_64 rfl ?_
        refine x_aald h ck ax.1 (by decide) (ix.ni hck (by decide)) (ax.2 ck hck).1 dX0_failing_65 ?_
        exact x_aret h hQ rfl rfl dX0_failing_66 ⟨rfl, rfl, _, rfl, rfl, (fun q => by rw [hb] at q; cases q), fun _ => rfl⟩
    · exact absurd ((nI_lt_iff (by omega) (by decide)).mpr hck) c10
