/-! ===== Setup: the start and the switches ===== -/
def suW (G : GG) (R : Nat → Nat → Value) (u : Nat) : Prop := G u = some (.inl 8) ∧ R u 0 = .ref (u + 1) ∧ G (u + 1) = some (.inr (.int, 3))
def suIs (M : MM) (u : Nat) (t : Nat → Nat) (off : Nat) : Prop := M.1 (u + 1) 0 = nI (t 0) ∧ M.1 (u + 1) 1 = nI (t 1) ∧ M.1 (u + 1) 2 = nI (t 2) ∧ M.1 u 1 = nI off
def setSu (M : MM) (u : Nat) (t : Nat → Nat) (off : Nat) : MM := sI (sI (sI (sI M (u + 1) 0 (nI (t 0))) (u + 1) 1 (nI (t 1))) (u + 1) 2 (nI (t 2))) u 1 (nI off)
theorem suIs_set (M : MM) (u : Nat) (t : Nat → Nat) (off : Nat) : suIs (setSu M u t off) u t off := by
  refine ⟨?_, ?_, ?_, ?_⟩ <;> simp [setSu, sI, up2]
theorem sI_comm (M : MM) {a k b j : Nat} (x y : Int32) (h : ¬ (a = b ∧ k = j)) : sI (sI M a k x) b j y = sI (sI M b j y) a k x := by
  show (_, M.2.1, M.2.2) = (_, M.2.1, M.2.2)
  congr 1
  funext c i
  simp only [up2, sI]
  by_cases h1 : c = a ∧ i = k
  · have h2 : ¬ (c = b ∧ i = j) := fun q => h ⟨h1.1.symm.trans q.1, h1.2.symm.trans q.2⟩
    rw [if_neg h2, if_pos h1, if_pos h1]
  · rw [if_neg h1, if_neg h1]
/-- what the start has as a number -/
def pkS (t : Nat → Nat) : Nat := (t 0 * 7 + t 1) * 7 + t 2
def begS (t : Nat → Nat) : ST := fun s => (decide (t 0 = 6) || decide (valS s 0 = t 0)) && (decide (t 1 = 6) || decide (valS s 1 = t 1)) && (decide (t 2 = 6) || decide (valS s 2 = t 2))
def offP (off g b : Nat) : Nat := if b = 0 then off &&& (31 ^^^ 2 ^ g) else off ||| 2 ^ g
theorem offP_ok : ∀ off, off < 32 → ∀ g, g < 5 → ∀ b, b < 2 → ((nI off &&& ((nI 1 <<< (nI g &&& 31)) ^^^ (-1))) ||| (nI b <<< (nI g &&& 31))) = nI (offP off g b) ∧ offP off g b < 32 := by decide +kernel
theorem c_X8_reset {Γ : GT} {G : GG} {M : MM} {u : Nat} (hW : suW G M.2.2 u) : Calls Γ q_X8_reset [.ref u] G M (rV (fun M' => M' = setSu M u (fun _ => 6) 0)) := by
  obtain ⟨g0, r0, g1⟩ := hW
  refine Calls.intro (by decide +kernel) (Nat.le_of_ble_eq_true rfl) (fun z E h hQ => ?_)
  refine x_loc (L' := [some (.ref u), none]) rfl ?_
  refine x_in0 h dX8_reset_0 ?_
  refine x_istore_n h dX8_reset_1 rfl rfl ?_
  dsimp only [List.set]
  refine x_iload_n h dX8_reset_2 rfl ?_
  refine x_aload_n h dX8_reset_3 rfl ?_
  refine x_getR h g0 f_X8_9 rfl r0 dX8_reset_4 ?_
  refine x_alen h g1 (by decide) dX8_reset_7 ?_
  refine x_icmp_ge h 25 dX8_reset_8 (by decide) (fun c8 => ?_) (fun c8 => ?_)
  · exact absurd c8 (by decide)
  · refine x_aload_n h dX8_reset_11 rfl ?_
    refine x_getR h g0 f_X8_9 rfl r0 dX8_reset_12 ?_
    refine x_iload_n h dX8_reset_15 rfl ?_
    refine x_bipush h (nI 6) (by decide) dX8_reset_16 ?_
    refine x_iast h 0 g1 (ix.ni (j := 0) (by decide) (by decide)) dX8_reset_18 ?_
    refine x_incn h dX8_reset_19 rfl rfl rfl ?_
    dsimp only [List.set]
    refine x_goto h 2 dX8_reset_22 (by decide) ?_
    refine x_iload_n h dX8_reset_2 rfl ?_
    refine x_aload_n h dX8_reset_3 rfl ?_
    refine x_getR h g0 f_X8_9 rfl r0 dX8_reset_4 ?_
    refine x_alen h g1 (by decide) dX8_reset_7 ?_
    refine x_icmp_ge h 25 dX8_reset_8 (by decide) (fun c8 => ?_) (fun c8 => ?_)
    · exact absurd c8 (by decide)
    · refine x_aload_n h dX8_reset_11 rfl ?_
      refine x_getR h g0 f_X8_9 rfl r0 dX8_reset_12 ?_
      refine x_iload_n h dX8_reset_15 rfl ?_
      refine x_bipush h (nI 6) (by decide) dX8_reset_16 ?_
      refine x_iast h 1 g1 (ix.ni (j := 1) (by decide) (by decide)) dX8_reset_18 ?_
      refine x_incn h dX8_reset_19 rfl rfl rfl ?_
      dsimp only [List.set]
      refine x_goto h 2 dX8_reset_22 (by decide) ?_
      refine x_iload_n h dX8_reset_2 rfl ?_
      refine x_aload_n h dX8_reset_3 rfl ?_
      refine x_getR h g0 f_X8_9 rfl r0 dX8_reset_4 ?_
      refine x_alen h g1 (by decide) dX8_reset_7 ?_
      refine x_icmp_ge h 25 dX8_reset_8 (by decide) (fun c8 => ?_) (fun c8 => ?_)
      · exact absurd c8 (by decide)
      · refine x_aload_n h dX8_reset_11 rfl ?_
        refine x_getR h g0 f_X8_9 rfl r0 dX8_reset_12 ?_
        refine x_iload_n h dX8_reset_15 rfl ?_
        refine x_bipush h (nI 6) (by decide) dX8_reset_16 ?_
        refine x_iast h 2 g1 (ix.ni (j := 2) (by decide) (by decide)) dX8_reset_18 ?_
        refine x_incn h dX8_reset_19 rfl rfl rfl ?_
        dsimp only [List.set]
        refine x_goto h 2 dX8_reset_22 (by decide) ?_
        refine x_iload_n h dX8_reset_2 rfl ?_
        refine x_aload_n h dX8_reset_3 rfl ?_
        refine x_getR h g0 f_X8_9 rfl r0 dX8_reset_4 ?_
        refine x_alen h g1 (by decide) dX8_reset_7 ?_
        refine x_icmp_ge h 25 dX8_reset_8 (by decide) (fun c8 => ?_) (fun c8 => ?_)
        · refine x_aload_n h dX8_reset_25 rfl ?_
          refine x_in0 h dX8_reset_26 ?_
          refine x_putI h g0 f_X8_18 rfl rfl dX8_reset_27 ?_
          exact x_vret h hQ rfl dX8_reset_30 ⟨rfl, rfl, rfl, rfl⟩
        · exact absurd c8 (by decide)
theorem c_X8_packedStart {Γ : GT} {G : GG} {M : MM} {u : Nat} (hW : suW G M.2.2 u) {t : Nat → Nat} {off : Nat} (hT : suIs M u t off) : Calls Γ q_X8_packedStart [.ref u] G M (rI (fun v M' => v = nI (pkS t) ∧ M' = M)) := by
  obtain ⟨g0, r0, g1⟩ := hW
  obtain ⟨t0, t1, t2, tf⟩ := hT
  refine Calls.intro (by decide +kernel) (Nat.le_of_ble_eq_true rfl) (fun z E h hQ => ?_)
  refine x_loc (L' := [some (.ref u), none, none]) rfl ?_
  refine x_in0 h dX8_packedStart_0 ?_
  refine x_istore_n h dX8_packedStart_1 rfl rfl ?_
  dsimp only [List.set]
  refine x_in0 h dX8_packedStart_2 ?_
  refine x_istore_n h dX8_packedStart_3 rfl rfl ?_
  dsimp only [List.set]
  refine x_iload_n h dX8_packedStart_4 rfl ?_
  refine x_aload_n h dX8_packedStart_5 rfl ?_
  refine x_getR h g0 f_X8_9 rfl r0 dX8_packedStart_6 ?_
  refine x_alen h g1 (by decide) dX8_packedStart_9 ?_
  refine x_icmp_ge h 31 dX8_packedStart_10 (by decide) (fun c10 => ?_) (fun c10 => ?_)
  · exact absurd c10 (by decide)
  · refine x_iload_n h dX8_packedStart_13 rfl ?_
    refine x_bipush h (nI 7) (by decide) dX8_packedStart_14 ?_
    refine x_imuln h  dX8_packedStart_16 ?_
    refine x_aload_n h dX8_packedStart_17 rfl ?_
    refine x_getR h g0 f_X8_9 rfl r0 dX8_packedStart_18 ?_
    refine x_iload_n h dX8_packedStart_21 rfl ?_
    refine x_ialdv h 0 g1 (ix.ni (j := 0) (by decide) (by decide)) t0 dX8_packedStart_22 ?_
    refine x_iaddn h  dX8_packedStart_23 ?_
    refine x_istore_n h dX8_packedStart_24 rfl rfl ?_
    dsimp only [List.set]
    refine x_incn h dX8_packedStart_25 rfl rfl rfl ?_
    dsimp only [List.set]
    refine x_goto h 4 dX8_packedStart_28 (by decide) ?_
    refine x_iload_n h dX8_packedStart_4 rfl ?_
    refine x_aload_n h dX8_packedStart_5 rfl ?_
    refine x_getR h g0 f_X8_9 rfl r0 dX8_packedStart_6 ?_
    refine x_alen h g1 (by decide) dX8_packedStart_9 ?_
    refine x_icmp_ge h 31 dX8_packedStart_10 (by decide) (fun c10 => ?_) (fun c10 => ?_)
    · exact absurd c10 (by decide)
    · refine x_iload_n h dX8_packedStart_13 rfl ?_
      refine x_bipush h (nI 7) (by decide) dX8_packedStart_14 ?_
      refine x_imuln h  dX8_packedStart_16 ?_
      refine x_aload_n h dX8_packedStart_17 rfl ?_
      refine x_getR h g0 f_X8_9 rfl r0 dX8_packedStart_18 ?_
      refine x_iload_n h dX8_packedStart_21 rfl ?_
      refine x_ialdv h 1 g1 (ix.ni (j := 1) (by decide) (by decide)) t1 dX8_packedStart_22 ?_
      refine x_iaddn h  dX8_packedStart_23 ?_
      refine x_istore_n h dX8_packedStart_24 rfl rfl ?_
      dsimp only [List.set]
      refine x_incn h dX8_packedStart_25 rfl rfl rfl ?_
      dsimp only [List.set]
      refine x_goto h 4 dX8_packedStart_28 (by decide) ?_
      refine x_iload_n h dX8_packedStart_4 rfl ?_
      refine x_aload_n h dX8_packedStart_5 rfl ?_
      refine x_getR h g0 f_X8_9 rfl r0 dX8_packedStart_6 ?_
      refine x_alen h g1 (by decide) dX8_packedStart_9 ?_
      refine x_icmp_ge h 31 dX8_packedStart_10 (by decide) (fun c10 => ?_) (fun c10 => ?_)
      · exact absurd c10 (by decide)
      · refine x_iload_n h dX8_packedStart_13 rfl ?_
        refine x_bipush h (nI 7) (by decide) dX8_packedStart_14 ?_
        refine x_imuln h  dX8_packedStart_16 ?_
        refine x_aload_n h dX8_packedStart_17 rfl ?_
        refine x_getR h g0 f_X8_9 rfl r0 dX8_packedStart_18 ?_
        refine x_iload_n h dX8_packedStart_21 rfl ?_
        refine x_ialdv h 2 g1 (ix.ni (j := 2) (by decide) (by decide)) t2 dX8_packedStart_22 ?_
        refine x_iaddn h  dX8_packedStart_23 ?_
        refine x_istore_n h dX8_packedStart_24 rfl rfl ?_
        dsimp only [List.set]
        refine x_incn h dX8_packedStart_25 rfl rfl rfl ?_
        dsimp only [List.set]
        refine x_goto h 4 dX8_packedStart_28 (by decide) ?_
        refine x_iload_n h dX8_packedStart_4 rfl ?_
        refine x_aload_n h dX8_packedStart_5 rfl ?_
        refine x_getR h g0 f_X8_9 rfl r0 dX8_packedStart_6 ?_
        refine x_alen h g1 (by decide) dX8_packedStart_9 ?_
        refine x_icmp_ge h 31 dX8_packedStart_10 (by decide) (fun c10 => ?_) (fun c10 => ?_)
        · refine x_iload_n h dX8_packedStart_31 rfl ?_
          exact x_iret h hQ rfl dX8_packedStart_32 ⟨rfl, rfl, _, rfl, congrArg nI (by unfold pkS; omega), rfl⟩
        · exact absurd c10 (by decide)
theorem c_X8_packed {Γ : GT} {G : GG} {M : MM} {u : Nat} (hW : suW G M.2.2 u) {t : Nat → Nat} {off : Nat} (hT : suIs M u t off) : Calls Γ q_X8_packed [.ref u] G M (rI (fun v M' => v = nI (pkS t * 32 + off) ∧ M' = M)) := by
  have hW0 := hW
  have hT0 := hT
  obtain ⟨g0, r0, g1⟩ := hW
  obtain ⟨t0, t1, t2, tf⟩ := hT
  refine Calls.intro (by decide +kernel) (Nat.le_of_ble_eq_true rfl) (fun z E h hQ => ?_)
  refine x_loc (L' := [some (.ref u)]) rfl ?_
  refine x_aload_n h dX8_packed_0 rfl ?_
  refine x_cVi h ci_X8_packedStart im_X8_packedStart l_X8_22 ⟨Nat.le_of_ble_eq_true rfl, Nat.le_of_ble_eq_true rfl⟩ ⟨rfl, rfl⟩ ⟨Nat.zero_le _, Nat.zero_le _⟩ (c_X8_packedStart hW0 hT0) rfl rfl rfl rfl g0 (by decide) rfl dX8_packed_1 (fun v1 M1 hp1 => ?_)
  obtain ⟨rfl, rfl⟩ := hp1
  refine x_bipush h (nI 32) (by decide) dX8_packed_4 ?_
  refine x_imuln h  dX8_packed_6 ?_
  refine x_aload_n h dX8_packed_7 rfl ?_
  refine x_getIv h g0 f_X8_18 rfl tf dX8_packed_8 ?_
  refine x_iaddn h  dX8_packed_11 ?_
  exact x_iret h hQ rfl dX8_packed_12 ⟨rfl, rfl, _, rfl, rfl, rfl⟩
theorem c_X8_unpack {Γ : GT} {G : GG} {M : MM} {u : Nat} (hW : suW G M.2.2 u) {p : Nat} (hp : p < 2 ^ 31) : Calls Γ q_X8_unpack [.ref u, .int (nI p)] G M (rV (fun M' => M' = setSu M u (fun v => if v = 0 then p / 32 / 7 / 7 % 7 else if v = 1 then p / 32 / 7 % 7 else p / 32 % 7) (p % 32))) := by
  obtain ⟨g0, r0, g1⟩ := hW
  refine Calls.intro (by decide +kernel) (Nat.le_of_ble_eq_true rfl) (fun z E h hQ => ?_)
  refine x_loc (L' := [some (.ref u), some (.int (nI p)), none, none]) rfl ?_
  refine x_aload_n h dX8_unpack_0 rfl ?_
  refine x_iload_n h dX8_unpack_1 rfl ?_
  refine x_bipush h (nI 32) (by decide) dX8_unpack_2 ?_
  refine x_iremn h ⟨by omega, by decide, by decide⟩ dX8_unpack_4 ?_
  refine x_putI h g0 f_X8_18 rfl rfl dX8_unpack_5 ?_
  refine x_iload_n h dX8_unpack_8 rfl ?_
  refine x_bipush h (nI 32) (by decide) dX8_unpack_9 ?_
  refine x_idivn h ⟨by omega, by decide, by decide⟩ dX8_unpack_11 ?_
  refine x_istore_n h dX8_unpack_12 rfl rfl ?_
  dsimp only [List.set]
  refine x_aload_n h dX8_unpack_13 rfl ?_
  refine x_getR h g0 f_X8_9 rfl r0 dX8_unpack_14 ?_
  refine x_alen h g1 (by decide) dX8_unpack_17 ?_
  refine x_in1 h dX8_unpack_18 ?_
  refine x_isub h dX8_unpack_19 ?_
  refine x_topi (y := nI 2) (by decide) ?_
  refine x_istore_n h dX8_unpack_20 rfl rfl ?_
  dsimp only [List.set]
  refine x_iload_n h dX8_unpack_21 rfl ?_
  refine x_if_lt h 46 dX8_unpack_22 (by decide) (fun c22 => ?_) (fun c22 => ?_)
  · exact absurd c22 (by decide)
  · refine x_aload_n h dX8_unpack_25 rfl ?_
    refine x_getR h g0 f_X8_9 rfl r0 dX8_unpack_26 ?_
    refine x_iload_n h dX8_unpack_29 rfl ?_
    refine x_iload_n h dX8_unpack_30 rfl ?_
    refine x_bipush h (nI 7) (by decide) dX8_unpack_31 ?_
    refine x_iremn h ⟨by omega, by decide, by decide⟩ dX8_unpack_33 ?_
    refine x_iast h 2 g1 (ix.ni (j := 2) (by decide) (by decide)) dX8_unpack_34 ?_
    refine x_iload_n h dX8_unpack_35 rfl ?_
    refine x_bipush h (nI 7) (by decide) dX8_unpack_36 ?_
    refine x_idivn h ⟨by omega, by decide, by decide⟩ dX8_unpack_38 ?_
    refine x_istore_n h dX8_unpack_39 rfl rfl ?_
    dsimp only [List.set]
    refine x_iincv h (nI 1) (v := -1) (by decide) dX8_unpack_40 rfl (by decide) rfl rfl ?_
    dsimp only [List.set]
    refine x_goto h 21 dX8_unpack_43 (by decide) ?_
    refine x_iload_n h dX8_unpack_21 rfl ?_
    refine x_if_lt h 46 dX8_unpack_22 (by decide) (fun c22 => ?_) (fun c22 => ?_)
    · exact absurd c22 (by decide)
    · refine x_aload_n h dX8_unpack_25 rfl ?_
      refine x_getR h g0 f_X8_9 rfl r0 dX8_unpack_26 ?_
      refine x_iload_n h dX8_unpack_29 rfl ?_
      refine x_iload_n h dX8_unpack_30 rfl ?_
      refine x_bipush h (nI 7) (by decide) dX8_unpack_31 ?_
      refine x_iremn h ⟨by omega, by decide, by decide⟩ dX8_unpack_33 ?_
      refine x_iast h 1 g1 (ix.ni (j := 1) (by decide) (by decide)) dX8_unpack_34 ?_
      refine x_iload_n h dX8_unpack_35 rfl ?_
      refine x_bipush h (nI 7) (by decide) dX8_unpack_36 ?_
      refine x_idivn h ⟨by omega, by decide, by decide⟩ dX8_unpack_38 ?_
      refine x_istore_n h dX8_unpack_39 rfl rfl ?_
      dsimp only [List.set]
      refine x_iincv h (nI 0) (v := -1) (by decide) dX8_unpack_40 rfl (by decide) rfl rfl ?_
      dsimp only [List.set]
      refine x_goto h 21 dX8_unpack_43 (by decide) ?_
      refine x_iload_n h dX8_unpack_21 rfl ?_
      refine x_if_lt h 46 dX8_unpack_22 (by decide) (fun c22 => ?_) (fun c22 => ?_)
      · exact absurd c22 (by decide)
      · refine x_aload_n h dX8_unpack_25 rfl ?_
        refine x_getR h g0 f_X8_9 rfl r0 dX8_unpack_26 ?_
        refine x_iload_n h dX8_unpack_29 rfl ?_
        refine x_iload_n h dX8_unpack_30 rfl ?_
        refine x_bipush h (nI 7) (by decide) dX8_unpack_31 ?_
        refine x_iremn h ⟨by omega, by decide, by decide⟩ dX8_unpack_33 ?_
        refine x_iast h 0 g1 (ix.ni (j := 0) (by decide) (by decide)) dX8_unpack_34 ?_
        refine x_iload_n h dX8_unpack_35 rfl ?_
        refine x_bipush h (nI 7) (by decide) dX8_unpack_36 ?_
        refine x_idivn h ⟨by omega, by decide, by decide⟩ dX8_unpack_38 ?_
        refine x_istore_n h dX8_unpack_39 rfl rfl ?_
        dsimp only [List.set]
        refine x_iinc h (-1) (by decide) dX8_unpack_40 rfl rfl rfl ?_
        dsimp only [List.set]
        refine x_goto h 21 dX8_unpack_43 (by decide) ?_
        refine x_iload_n h dX8_unpack_21 rfl ?_
        refine x_if_lt h 46 dX8_unpack_22 (by decide) (fun c22 => ?_) (fun c22 => ?_)
        · exact x_vret h hQ rfl dX8_unpack_46 ⟨rfl, rfl, rfl, by
              unfold setSu
              rw [sI_comm _ (a := u) (k := 1) (b := u + 1) (j := 2) _ _ (by omega), sI_comm _ (a := u) (k := 1) (b := u + 1) (j := 1) _ _ (by omega), sI_comm _ (a := u) (k := 1) (b := u + 1) (j := 0) _ _ (by omega), sI_comm _ (a := u + 1) (k := 2) (b := u + 1) (j := 1) _ _ (by omega), sI_comm _ (a := u + 1) (k := 2) (b := u + 1) (j := 0) _ _ (by omega), sI_comm _ (a := u + 1) (k := 1) (b := u + 1) (j := 0) _ _ (by omega)]
              rfl⟩
        · exact absurd c22 (by decide)
theorem c_X8_putStart {Γ : GT} {G : GG} {M : MM} {u : Nat} (hW : suW G M.2.2 u) {v x : Nat} (hv : v < 2 ^ 31) (hx : x < 2 ^ 31) : Calls Γ q_X8_putStart [.ref u, .int (nI v), .int (nI x)] G M (rI (fun r M' => r = b2i (decide (v < 3) && decide (x ≤ 6)) ∧ M' = if v < 3 ∧ x ≤ 6 then sI M (u + 1) v (nI x) else M)) := by
  obtain ⟨g0, r0, g1⟩ := hW
  refine Calls.intro (by decide +kernel) (Nat.le_of_ble_eq_true rfl) (fun z E h hQ => ?_)
  refine x_loc (L' := [some (.ref u), some (.int (nI v)), some (.int (nI x))]) rfl ?_
  refine x_iload_n h dX8_putStart_0 rfl ?_
  refine x_if_lt h 23 dX8_putStart_1 (by decide) (fun c1 => ?_) (fun c1 => ?_)
  · exact (nI_nneg hv c1).elim
  · refine x_iload_n h dX8_putStart_4 rfl ?_
    refine x_aload_n h dX8_putStart_5 rfl ?_
    refine x_getR h g0 f_X8_9 rfl r0 dX8_putStart_6 ?_
    refine x_alen h g1 (by decide) dX8_putStart_9 ?_
    refine x_icmp_ge h 23 dX8_putStart_10 (by decide) (fun c10 => ?_) (fun c10 => ?_)
    · have e := (nI_le_iff (by decide) hv).mp c10
      refine x_ic0 h dX8_putStart_23 ?_
      exact x_zret h hQ rfl (by decide) dX8_putStart_24 ⟨rfl, rfl, _, rfl, b2i_f (by simp; omega), by rw [if_neg (by omega)]⟩
    · have e := mt (nI_le_iff (by decide) hv).mpr c10
      refine x_iload_n h dX8_putStart_13 rfl ?_
      refine x_if_lt h 23 dX8_putStart_14 (by decide) (fun c14 => ?_) (fun c14 => ?_)
      · exact (nI_nneg hx c14).elim
      · refine x_iload_n h dX8_putStart_17 rfl ?_
        refine x_bipush h (nI 6) (by decide) dX8_putStart_18 ?_
        refine x_icmp_le h 25 dX8_putStart_20 (by decide) (fun c20 => ?_) (fun c20 => ?_)
        · have e2 := (nI_le_iff hx (by decide)).mp c20
          refine x_aload_n h dX8_putStart_25 rfl ?_
          refine x_getR h g0 f_X8_9 rfl r0 dX8_putStart_26 ?_
          refine x_iload_n h dX8_putStart_29 rfl ?_
          refine x_iload_n h dX8_putStart_30 rfl ?_
          refine x_iast h v g1 (ix.ni (by omega) (by decide)) dX8_putStart_31 ?_
          refine x_ic1 h dX8_putStart_32 ?_
          exact x_zret h hQ rfl (by decide) dX8_putStart_33 ⟨rfl, rfl, _, rfl, b2i_t (by simp; omega), by rw [if_pos (by omega)]⟩
        · have e2 := mt (nI_le_iff hx (by decide)).mpr c20
          refine x_ic0 h dX8_putStart_23 ?_
          exact x_zret h hQ rfl (by decide) dX8_putStart_24 ⟨rfl, rfl, _, rfl, b2i_f (by simp; omega), by rw [if_neg (by omega)]⟩
theorem c_X8_putOff {Γ : GT} {G : GG} {M : MM} {u : Nat} (hW : suW G M.2.2 u) {t : Nat → Nat} {off : Nat} (hT : suIs M u t off) (ho : off < 32) {gu b : Nat} (hg : gu < 5) (hb : b < 2 ^ 31) : Calls Γ q_X8_putOff [.ref u, .int (nI gu), .int (nI b)] G M (rI (fun r M' => r = b2i (decide (b ≤ 1)) ∧ M' = if b ≤ 1 then sI M u 1 (nI (offP off gu b)) else M)) := by
  obtain ⟨g0, r0, g1⟩ := hW
  obtain ⟨t0, t1, t2, tf⟩ := hT
  refine Calls.intro (by decide +kernel) (Nat.le_of_ble_eq_true rfl) (fun z E h hQ => ?_)
  refine x_loc (L' := [some (.ref u), some (.int (nI gu)), some (.int (nI b))]) rfl ?_
  refine x_iload_n h dX8_putOff_0 rfl ?_
  refine x_if_lt h 9 dX8_putOff_1 (by decide) (fun c1 => ?_) (fun c1 => ?_)
  · exact (nI_nneg hb c1).elim
  · refine x_iload_n h dX8_putOff_4 rfl ?_
    refine x_in1 h dX8_putOff_5 ?_
    refine x_icmp_le h 11 dX8_putOff_6 (by decide) (fun c6 => ?_) (fun c6 => ?_)
    · have e := (nI_le_iff hb (by decide)).mp c6
      refine x_aload_n h dX8_putOff_11 rfl ?_
      refine x_aload_n h dX8_putOff_12 rfl ?_
      refine x_getIv h g0 f_X8_18 rfl tf dX8_putOff_13 ?_
      refine x_in1 h dX8_putOff_16 ?_
      refine x_iload_n h dX8_putOff_17 rfl ?_
      refine x_ishl h dX8_putOff_18 ?_
      refine x_icm1 h dX8_putOff_19 ?_
      refine x_ixor h dX8_putOff_20 ?_
      refine x_iand h dX8_putOff_21 ?_
      refine x_iload_n h dX8_putOff_22 rfl ?_
      refine x_iload_n h dX8_putOff_23 rfl ?_
      refine x_ishl h dX8_putOff_24 ?_
      refine x_ior h dX8_putOff_25 ?_
      refine x_topi (offP_ok off ho gu hg b (by omega)).1 ?_
      refine x_putI h g0 f_X8_18 rfl rfl dX8_putOff_26 ?_
      refine x_ic1 h dX8_putOff_29 ?_
      exact x_zret h hQ rfl (by decide) dX8_putOff_30 ⟨rfl, rfl, _, rfl, b2i_t (by simp [e]), by rw [if_pos e]⟩
    · have e := mt (nI_le_iff hb (by decide)).mpr c6
      refine x_ic0 h dX8_putOff_9 ?_
      exact x_zret h hQ rfl (by decide) dX8_putOff_10 ⟨rfl, rfl, _, rfl, b2i_f (by simp [e]), by rw [if_neg e]⟩
theorem c_X8_fillIn {Γ : GT} {G : GG} {M : MM} {u b : Nat} (hW : suW G M.2.2 u) {t : Nat → Nat} {off : Nat} (hT : suIs M u t off) (hS : isS G M.2.2 b) (h6 : t 0 ≤ 6 ∧ t 1 ≤ 6 ∧ t 2 ≤ 6) : Calls Γ q_X8_fillIn [.ref u, .ref b] G M (rV (fun M' => M' = setS M b (begS t))) := by
  obtain ⟨g0, r0, g1⟩ := hW
  obtain ⟨t0, t1, t2, tf⟩ := hT
  refine Calls.intro (by decide +kernel) (Nat.le_of_ble_eq_true rfl) (fun z E h hQ => ?_)
  refine x_loc (L' := [some (.ref u), some (.ref b), none]) rfl ?_
  refine x_aload_n h dX8_fillIn_0 rfl ?_
  refine x_cVv h ci_X9_fill im_X9_fill l_X8_26 ⟨Nat.le_of_ble_eq_true rfl, Nat.le_of_ble_eq_true rfl⟩ ⟨rfl, rfl⟩ ⟨Nat.zero_le _, Nat.zero_le _⟩ (c_X9_fill hS) rfl rfl rfl rfl hS.1 (by decide) rfl dX8_fillIn_1 (fun M1 hp1 => ?_)
  subst hp1
  refine x_in0 h dX8_fillIn_4 ?_
  refine x_istore_n h dX8_fillIn_5 rfl rfl ?_
  dsimp only [List.set]
  refine x_iload_n h dX8_fillIn_6 rfl ?_
  refine x_aload_n h dX8_fillIn_7 rfl ?_
  refine x_getR h g0 f_X8_9 rfl r0 dX8_fillIn_8 ?_
  refine x_alen h g1 (by decide) dX8_fillIn_11 ?_
  refine x_icmp_ge h 43 dX8_fillIn_12 (by decide) (fun c12 => ?_) (fun c12 => ?_)
  · exact absurd c12 (by decide)
  · refine x_aload_n h dX8_fillIn_15 rfl ?_
    refine x_getR h g0 f_X8_9 rfl r0 dX8_fillIn_16 ?_
    refine x_iload_n h dX8_fillIn_19 rfl ?_
    refine x_ialdv h 0 g1 (ix.ni (j := 0) (by decide) (by decide)) t0 dX8_fillIn_20 ?_
    refine x_bipush h (nI 6) (by decide) dX8_fillIn_21 ?_
    refine x_icmp_ge h 37 dX8_fillIn_23 (by decide) (fun c23 => ?_) (fun c23 => ?_)
    · have d0 := (nI_le_iff (by decide) (by omega)).mp c23
      refine x_incn h dX8_fillIn_37 rfl rfl rfl ?_
      dsimp only [List.set]
      refine x_goto h 6 dX8_fillIn_40 (by decide) ?_
      refine x_iload_n h dX8_fillIn_6 rfl ?_
      refine x_aload_n h dX8_fillIn_7 rfl ?_
      refine x_getR h g0 f_X8_9 rfl r0 dX8_fillIn_8 ?_
      refine x_alen h g1 (by decide) dX8_fillIn_11 ?_
      refine x_icmp_ge h 43 dX8_fillIn_12 (by decide) (fun c12 => ?_) (fun c12 => ?_)
      · exact absurd c12 (by decide)
      · refine x_aload_n h dX8_fillIn_15 rfl ?_
        refine x_getR h g0 f_X8_9 rfl r0 dX8_fillIn_16 ?_
        refine x_iload_n h dX8_fillIn_19 rfl ?_
        refine x_ialdv h 1 g1 (ix.ni (j := 1) (by decide) (by decide)) t1 dX8_fillIn_20 ?_
        refine x_bipush h (nI 6) (by decide) dX8_fillIn_21 ?_
        refine x_icmp_ge h 37 dX8_fillIn_23 (by decide) (fun c23 => ?_) (fun c23 => ?_)
        · have d1 := (nI_le_iff (by decide) (by omega)).mp c23
          refine x_incn h dX8_fillIn_37 rfl rfl rfl ?_
          dsimp only [List.set]
          refine x_goto h 6 dX8_fillIn_40 (by decide) ?_
          refine x_iload_n h dX8_fillIn_6 rfl ?_
          refine x_aload_n h dX8_fillIn_7 rfl ?_
          refine x_getR h g0 f_X8_9 rfl r0 dX8_fillIn_8 ?_
          refine x_alen h g1 (by decide) dX8_fillIn_11 ?_
          refine x_icmp_ge h 43 dX8_fillIn_12 (by decide) (fun c12 => ?_) (fun c12 => ?_)
          · exact absurd c12 (by decide)
          · refine x_aload_n h dX8_fillIn_15 rfl ?_
            refine x_getR h g0 f_X8_9 rfl r0 dX8_fillIn_16 ?_
            refine x_iload_n h dX8_fillIn_19 rfl ?_
            refine x_ialdv h 2 g1 (ix.ni (j := 2) (by decide) (by decide)) t2 dX8_fillIn_20 ?_
            refine x_bipush h (nI 6) (by decide) dX8_fillIn_21 ?_
            refine x_icmp_ge h 37 dX8_fillIn_23 (by decide) (fun c23 => ?_) (fun c23 => ?_)
            · have d2 := (nI_le_iff (by decide) (by omega)).mp c23
              refine x_incn h dX8_fillIn_37 rfl rfl rfl ?_
              dsimp only [List.set]
              refine x_goto h 6 dX8_fillIn_40 (by decide) ?_
              refine x_iload_n h dX8_fillIn_6 rfl ?_
              refine x_aload_n h dX8_fillIn_7 rfl ?_
              refine x_getR h g0 f_X8_9 rfl r0 dX8_fillIn_8 ?_
              refine x_alen h g1 (by decide) dX8_fillIn_11 ?_
              refine x_icmp_ge h 43 dX8_fillIn_12 (by decide) (fun c12 => ?_) (fun c12 => ?_)
              · exact x_vret h hQ rfl dX8_fillIn_43 ⟨rfl, rfl, rfl, setS_congr _ _ (fun s hs => by simp [begS, mvS, show t 0 = 6 by omega, show t 1 = 6 by omega, show t 2 = 6 by omega])⟩
              · exact absurd c12 (by decide)
            · have d2 := mt (nI_le_iff (by decide) (by omega)).mpr c23
              refine x_aload_n h dX8_fillIn_26 rfl ?_
              refine x_iload_n h dX8_fillIn_27 rfl ?_
              refine x_aload_n h dX8_fillIn_28 rfl ?_
              refine x_getR h g0 f_X8_9 rfl r0 dX8_fillIn_29 ?_
              refine x_iload_n h dX8_fillIn_32 rfl ?_
              refine x_ialdv h 2 g1 (ix.ni (j := 2) (by decide) (by decide)) t2 dX8_fillIn_33 ?_
              refine x_cVv h ci_X9_meetValue im_X9_meetValue l_X8_31 ⟨Nat.le_of_ble_eq_true rfl, Nat.le_of_ble_eq_true rfl⟩ ⟨rfl, rfl⟩ ⟨Nat.zero_le _, Nat.zero_le _⟩ (c_X9_meetValue_2 (x := t 2) (by omega) hS (hasS_set _ _ _)) rfl rfl rfl rfl hS.1 (by decide) rfl dX8_fillIn_34 (fun M34 hp34 => ?_)
              subst hp34
              refine x_mem (setS_set _ _ _ _) ?_
              refine x_incn h dX8_fillIn_37 rfl rfl rfl ?_
              dsimp only [List.set]
              refine x_goto h 6 dX8_fillIn_40 (by decide) ?_
              refine x_iload_n h dX8_fillIn_6 rfl ?_
              refine x_aload_n h dX8_fillIn_7 rfl ?_
              refine x_getR h g0 f_X8_9 rfl r0 dX8_fillIn_8 ?_
              refine x_alen h g1 (by decide) dX8_fillIn_11 ?_
              refine x_icmp_ge h 43 dX8_fillIn_12 (by decide) (fun c12 => ?_) (fun c12 => ?_)
              · exact x_vret h hQ rfl dX8_fillIn_43 ⟨rfl, rfl, rfl, setS_congr _ _ (fun s hs => by simp [begS, mvS, show t 0 = 6 by omega, show t 1 = 6 by omega, show ¬ (t 2 = 6) by omega])⟩
              · exact absurd c12 (by decide)
        · have d1 := mt (nI_le_iff (by decide) (by omega)).mpr c23
          refine x_aload_n h dX8_fillIn_26 rfl ?_
          refine x_iload_n h dX8_fillIn_27 rfl ?_
          refine x_aload_n h dX8_fillIn_28 rfl ?_
          refine x_getR h g0 f_X8_9 rfl r0 dX8_fillIn_29 ?_
          refine x_iload_n h dX8_fillIn_32 rfl ?_
          refine x_ialdv h 1 g1 (ix.ni (j := 1) (by decide) (by decide)) t1 dX8_fillIn_33 ?_
          refine x_cVv h ci_X9_meetValue im_X9_meetValue l_X8_31 ⟨Nat.le_of_ble_eq_true rfl, Nat.le_of_ble_eq_true rfl⟩ ⟨rfl, rfl⟩ ⟨Nat.zero_le _, Nat.zero_le _⟩ (c_X9_meetValue_1 (x := t 1) (by omega) hS (hasS_set _ _ _)) rfl rfl rfl rfl hS.1 (by decide) rfl dX8_fillIn_34 (fun M34 hp34 => ?_)
          subst hp34
          refine x_mem (setS_set _ _ _ _) ?_
          refine x_incn h dX8_fillIn_37 rfl rfl rfl ?_
          dsimp only [List.set]
          refine x_goto h 6 dX8_fillIn_40 (by decide) ?_
          refine x_iload_n h dX8_fillIn_6 rfl ?_
          refine x_aload_n h dX8_fillIn_7 rfl ?_
          refine x_getR h g0 f_X8_9 rfl r0 dX8_fillIn_8 ?_
          refine x_alen h g1 (by decide) dX8_fillIn_11 ?_
          refine x_icmp_ge h 43 dX8_fillIn_12 (by decide) (fun c12 => ?_) (fun c12 => ?_)
          · exact absurd c12 (by decide)
          · refine x_aload_n h dX8_fillIn_15 rfl ?_
            refine x_getR h g0 f_X8_9 rfl r0 dX8_fillIn_16 ?_
            refine x_iload_n h dX8_fillIn_19 rfl ?_
            refine x_ialdv h 2 g1 (ix.ni (j := 2) (by decide) (by decide)) t2 dX8_fillIn_20 ?_
            refine x_bipush h (nI 6) (by decide) dX8_fillIn_21 ?_
            refine x_icmp_ge h 37 dX8_fillIn_23 (by decide) (fun c23 => ?_) (fun c23 => ?_)
            · have d2 := (nI_le_iff (by decide) (by omega)).mp c23
              refine x_incn h dX8_fillIn_37 rfl rfl rfl ?_
              dsimp only [List.set]
              refine x_goto h 6 dX8_fillIn_40 (by decide) ?_
              refine x_iload_n h dX8_fillIn_6 rfl ?_
              refine x_aload_n h dX8_fillIn_7 rfl ?_
              refine x_getR h g0 f_X8_9 rfl r0 dX8_fillIn_8 ?_
              refine x_alen h g1 (by decide) dX8_fillIn_11 ?_
              refine x_icmp_ge h 43 dX8_fillIn_12 (by decide) (fun c12 => ?_) (fun c12 => ?_)
              · exact x_vret h hQ rfl dX8_fillIn_43 ⟨rfl, rfl, rfl, setS_congr _ _ (fun s hs => by simp [begS, mvS, show t 0 = 6 by omega, show ¬ (t 1 = 6) by omega, show t 2 = 6 by omega])⟩
              · exact absurd c12 (by decide)
            · have d2 := mt (nI_le_iff (by decide) (by omega)).mpr c23
              refine x_aload_n h dX8_fillIn_26 rfl ?_
              refine x_iload_n h dX8_fillIn_27 rfl ?_
              refine x_aload_n h dX8_fillIn_28 rfl ?_
              refine x_getR h g0 f_X8_9 rfl r0 dX8_fillIn_29 ?_
              refine x_iload_n h dX8_fillIn_32 rfl ?_
              refine x_ialdv h 2 g1 (ix.ni (j := 2) (by decide) (by decide)) t2 dX8_fillIn_33 ?_
              refine x_cVv h ci_X9_meetValue im_X9_meetValue l_X8_31 ⟨Nat.le_of_ble_eq_true rfl, Nat.le_of_ble_eq_true rfl⟩ ⟨rfl, rfl⟩ ⟨Nat.zero_le _, Nat.zero_le _⟩ (c_X9_meetValue_2 (x := t 2) (by omega) hS (hasS_set _ _ _)) rfl rfl rfl rfl hS.1 (by decide) rfl dX8_fillIn_34 (fun M34 hp34 => ?_)
              subst hp34
              refine x_mem (setS_set _ _ _ _) ?_
              refine x_incn h dX8_fillIn_37 rfl rfl rfl ?_
              dsimp only [List.set]
              refine x_goto h 6 dX8_fillIn_40 (by decide) ?_
              refine x_iload_n h dX8_fillIn_6 rfl ?_
              refine x_aload_n h dX8_fillIn_7 rfl ?_
              refine x_getR h g0 f_X8_9 rfl r0 dX8_fillIn_8 ?_
              refine x_alen h g1 (by decide) dX8_fillIn_11 ?_
              refine x_icmp_ge h 43 dX8_fillIn_12 (by decide) (fun c12 => ?_) (fun c12 => ?_)
              · exact x_vret h hQ rfl dX8_fillIn_43 ⟨rfl, rfl, rfl, setS_congr _ _ (fun s hs => by simp [begS, mvS, show t 0 = 6 by omega, show ¬ (t 1 = 6) by omega, show ¬ (t 2 = 6) by omega])⟩
              · exact absurd c12 (by decide)
    · have d0 := mt (nI_le_iff (by decide) (by omega)).mpr c23
      refine x_aload_n h dX8_fillIn_26 rfl ?_
      refine x_iload_n h dX8_fillIn_27 rfl ?_
      refine x_aload_n h dX8_fillIn_28 rfl ?_
      refine x_getR h g0 f_X8_9 rfl r0 dX8_fillIn_29 ?_
      refine x_iload_n h dX8_fillIn_32 rfl ?_
      refine x_ialdv h 0 g1 (ix.ni (j := 0) (by decide) (by decide)) t0 dX8_fillIn_33 ?_
      refine x_cVv h ci_X9_meetValue im_X9_meetValue l_X8_31 ⟨Nat.le_of_ble_eq_true rfl, Nat.le_of_ble_eq_true rfl⟩ ⟨rfl, rfl⟩ ⟨Nat.zero_le _, Nat.zero_le _⟩ (c_X9_meetValue_0 (x := t 0) (by omega) hS (hasS_set _ _ _)) rfl rfl rfl rfl hS.1 (by decide) rfl dX8_fillIn_34 (fun M34 hp34 => ?_)
      subst hp34
      refine x_mem (setS_set _ _ _ _) ?_
      refine x_incn h dX8_fillIn_37 rfl rfl rfl ?_
      dsimp only [List.set]
      refine x_goto h 6 dX8_fillIn_40 (by decide) ?_
      refine x_iload_n h dX8_fillIn_6 rfl ?_
      refine x_aload_n h dX8_fillIn_7 rfl ?_
      refine x_getR h g0 f_X8_9 rfl r0 dX8_fillIn_8 ?_
      refine x_alen h g1 (by decide) dX8_fillIn_11 ?_
      refine x_icmp_ge h 43 dX8_fillIn_12 (by decide) (fun c12 => ?_) (fun c12 => ?_)
      · exact absurd c12 (by decide)
      · refine x_aload_n h dX8_fillIn_15 rfl ?_
        refine x_getR h g0 f_X8_9 rfl r0 dX8_fillIn_16 ?_
        refine x_iload_n h dX8_fillIn_19 rfl ?_
        refine x_ialdv h 1 g1 (ix.ni (j := 1) (by decide) (by decide)) t1 dX8_fillIn_20 ?_
        refine x_bipush h (nI 6) (by decide) dX8_fillIn_21 ?_
        refine x_icmp_ge h 37 dX8_fillIn_23 (by decide) (fun c23 => ?_) (fun c23 => ?_)
        · have d1 := (nI_le_iff (by decide) (by omega)).mp c23
          refine x_incn h dX8_fillIn_37 rfl rfl rfl ?_
          dsimp only [List.set]
          refine x_goto h 6 dX8_fillIn_40 (by decide) ?_
          refine x_iload_n h dX8_fillIn_6 rfl ?_
          refine x_aload_n h dX8_fillIn_7 rfl ?_
          refine x_getR h g0 f_X8_9 rfl r0 dX8_fillIn_8 ?_
          refine x_alen h g1 (by decide) dX8_fillIn_11 ?_
          refine x_icmp_ge h 43 dX8_fillIn_12 (by decide) (fun c12 => ?_) (fun c12 => ?_)
          · exact absurd c12 (by decide)
          · refine x_aload_n h dX8_fillIn_15 rfl ?_
            refine x_getR h g0 f_X8_9 rfl r0 dX8_fillIn_16 ?_
            refine x_iload_n h dX8_fillIn_19 rfl ?_
            refine x_ialdv h 2 g1 (ix.ni (j := 2) (by decide) (by decide)) t2 dX8_fillIn_20 ?_
            refine x_bipush h (nI 6) (by decide) dX8_fillIn_21 ?_
            refine x_icmp_ge h 37 dX8_fillIn_23 (by decide) (fun c23 => ?_) (fun c23 => ?_)
            · have d2 := (nI_le_iff (by decide) (by omega)).mp c23
              refine x_incn h dX8_fillIn_37 rfl rfl rfl ?_
              dsimp only [List.set]
              refine x_goto h 6 dX8_fillIn_40 (by decide) ?_
              refine x_iload_n h dX8_fillIn_6 rfl ?_
              refine x_aload_n h dX8_fillIn_7 rfl ?_
              refine x_getR h g0 f_X8_9 rfl r0 dX8_fillIn_8 ?_
              refine x_alen h g1 (by decide) dX8_fillIn_11 ?_
              refine x_icmp_ge h 43 dX8_fillIn_12 (by decide) (fun c12 => ?_) (fun c12 => ?_)
              · exact x_vret h hQ rfl dX8_fillIn_43 ⟨rfl, rfl, rfl, setS_congr _ _ (fun s hs => by simp [begS, mvS, show ¬ (t 0 = 6) by omega, show t 1 = 6 by omega, show t 2 = 6 by omega])⟩
              · exact absurd c12 (by decide)
            · have d2 := mt (nI_le_iff (by decide) (by omega)).mpr c23
              refine x_aload_n h dX8_fillIn_26 rfl ?_
              refine x_iload_n h dX8_fillIn_27 rfl ?_
              refine x_aload_n h dX8_fillIn_28 rfl ?_
              refine x_getR h g0 f_X8_9 rfl r0 dX8_fillIn_29 ?_
              refine x_iload_n h dX8_fillIn_32 rfl ?_
              refine x_ialdv h 2 g1 (ix.ni (j := 2) (by decide) (by decide)) t2 dX8_fillIn_33 ?_
              refine x_cVv h ci_X9_meetValue im_X9_meetValue l_X8_31 ⟨Nat.le_of_ble_eq_true rfl, Nat.le_of_ble_eq_true rfl⟩ ⟨rfl, rfl⟩ ⟨Nat.zero_le _, Nat.zero_le _⟩ (c_X9_meetValue_2 (x := t 2) (by omega) hS (hasS_set _ _ _)) rfl rfl rfl rfl hS.1 (by decide) rfl dX8_fillIn_34 (fun M34 hp34 => ?_)
              subst hp34
              refine x_mem (setS_set _ _ _ _) ?_
              refine x_incn h dX8_fillIn_37 rfl rfl rfl ?_
              dsimp only [List.set]
              refine x_goto h 6 dX8_fillIn_40 (by decide) ?_
              refine x_iload_n h dX8_fillIn_6 rfl ?_
              refine x_aload_n h dX8_fillIn_7 rfl ?_
              refine x_getR h g0 f_X8_9 rfl r0 dX8_fillIn_8 ?_
              refine x_alen h g1 (by decide) dX8_fillIn_11 ?_
              refine x_icmp_ge h 43 dX8_fillIn_12 (by decide) (fun c12 => ?_) (fun c12 => ?_)
              · exact x_vret h hQ rfl dX8_fillIn_43 ⟨rfl, rfl, rfl, setS_congr _ _ (fun s hs => by simp [begS, mvS, show ¬ (t 0 = 6) by omega, show t 1 = 6 by omega, show ¬ (t 2 = 6) by omega])⟩
              · exact absurd c12 (by decide)
        · have d1 := mt (nI_le_iff (by decide) (by omega)).mpr c23
          refine x_aload_n h dX8_fillIn_26 rfl ?_
          refine x_iload_n h dX8_fillIn_27 rfl ?_
          refine x_aload_n h dX8_fillIn_28 rfl ?_
          refine x_getR h g0 f_X8_9 rfl r0 dX8_fillIn_29 ?_
          refine x_iload_n h dX8_fillIn_32 rfl ?_
          refine x_ialdv h 1 g1 (ix.ni (j := 1) (by decide) (by decide)) t1 dX8_fillIn_33 ?_
          refine x_cVv h ci_X9_meetValue im_X9_meetValue l_X8_31 ⟨Nat.le_of_ble_eq_true rfl, Nat.le_of_ble_eq_true rfl⟩ ⟨rfl, rfl⟩ ⟨Nat.zero_le _, Nat.zero_le _⟩ (c_X9_meetValue_1 (x := t 1) (by omega) hS (hasS_set _ _ _)) rfl rfl rfl rfl hS.1 (by decide) rfl dX8_fillIn_34 (fun M34 hp34 => ?_)
          subst hp34
          refine x_mem (setS_set _ _ _ _) ?_
          refine x_incn h dX8_fillIn_37 rfl rfl rfl ?_
          dsimp only [List.set]
          refine x_goto h 6 dX8_fillIn_40 (by decide) ?_
          refine x_iload_n h dX8_fillIn_6 rfl ?_
          refine x_aload_n h dX8_fillIn_7 rfl ?_
          refine x_getR h g0 f_X8_9 rfl r0 dX8_fillIn_8 ?_
          refine x_alen h g1 (by decide) dX8_fillIn_11 ?_
          refine x_icmp_ge h 43 dX8_fillIn_12 (by decide) (fun c12 => ?_) (fun c12 => ?_)
          · exact absurd c12 (by decide)
          · refine x_aload_n h dX8_fillIn_15 rfl ?_
            refine x_getR h g0 f_X8_9 rfl r0 dX8_fillIn_16 ?_
            refine x_iload_n h dX8_fillIn_19 rfl ?_
            refine x_ialdv h 2 g1 (ix.ni (j := 2) (by decide) (by decide)) t2 dX8_fillIn_20 ?_
            refine x_bipush h (nI 6) (by decide) dX8_fillIn_21 ?_
            refine x_icmp_ge h 37 dX8_fillIn_23 (by decide) (fun c23 => ?_) (fun c23 => ?_)
            · have d2 := (nI_le_iff (by decide) (by omega)).mp c23
              refine x_incn h dX8_fillIn_37 rfl rfl rfl ?_
              dsimp only [List.set]
              refine x_goto h 6 dX8_fillIn_40 (by decide) ?_
              refine x_iload_n h dX8_fillIn_6 rfl ?_
              refine x_aload_n h dX8_fillIn_7 rfl ?_
              refine x_getR h g0 f_X8_9 rfl r0 dX8_fillIn_8 ?_
              refine x_alen h g1 (by decide) dX8_fillIn_11 ?_
              refine x_icmp_ge h 43 dX8_fillIn_12 (by decide) (fun c12 => ?_) (fun c12 => ?_)
              · exact x_vret h hQ rfl dX8_fillIn_43 ⟨rfl, rfl, rfl, setS_congr _ _ (fun s hs => by simp [begS, mvS, show ¬ (t 0 = 6) by omega, show ¬ (t 1 = 6) by omega, show t 2 = 6 by omega])⟩
              · exact absurd c12 (by decide)
            · have d2 := mt (nI_le_iff (by decide) (by omega)).mpr c23
              refine x_aload_n h dX8_fillIn_26 rfl ?_
              refine x_iload_n h dX8_fillIn_27 rfl ?_
              refine x_aload_n h dX8_fillIn_28 rfl ?_
              refine x_getR h g0 f_X8_9 rfl r0 dX8_fillIn_29 ?_
              refine x_iload_n h dX8_fillIn_32 rfl ?_
              refine x_ialdv h 2 g1 (ix.ni (j := 2) (by decide) (by decide)) t2 dX8_fillIn_33 ?_
              refine x_cVv h ci_X9_meetValue im_X9_meetValue l_X8_31 ⟨Nat.le_of_ble_eq_true rfl, Nat.le_of_ble_eq_true rfl⟩ ⟨rfl, rfl⟩ ⟨Nat.zero_le _, Nat.zero_le _⟩ (c_X9_meetValue_2 (x := t 2) (by omega) hS (hasS_set _ _ _)) rfl rfl rfl rfl hS.1 (by decide) rfl dX8_fillIn_34 (fun M34 hp34 => ?_)
              subst hp34
              refine x_mem (setS_set _ _ _ _) ?_
              refine x_incn h dX8_fillIn_37 rfl rfl rfl ?_
              dsimp only [List.set]
              refine x_goto h 6 dX8_fillIn_40 (by decide) ?_
              refine x_iload_n h dX8_fillIn_6 rfl ?_
              refine x_aload_n h dX8_fillIn_7 rfl ?_
              refine x_getR h g0 f_X8_9 rfl r0 dX8_fillIn_8 ?_
              refine x_alen h g1 (by decide) dX8_fillIn_11 ?_
              refine x_icmp_ge h 43 dX8_fillIn_12 (by decide) (fun c12 => ?_) (fun c12 => ?_)
              · exact x_vret h hQ rfl dX8_fillIn_43 ⟨rfl, rfl, rfl, setS_congr _ _ (fun s hs => by simp [begS, mvS, show ¬ (t 0 = 6) by omega, show ¬ (t 1 = 6) by omega, show ¬ (t 2 = 6) by omega])⟩
              · exact absurd c12 (by decide)
