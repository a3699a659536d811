/-! ===== Reader: brackets closed, bars, conditions ended, on the table ===== -/
theorem rdS_s {u c : Nat} {M N : MM} {T : RT} (hd : u + 2 ≤ c ∨ c + 125 ≤ u) (h : rdS u c M N T) {i f x : Nat} (hi : i < 60) (hf : f < 4) : rdS u c M (sI N (c + 65 + i) f (nI x)) (tU T (65 + i) f x) := by
  have a := rdS_c hd h (a := 65 + i) (f := f) (x := x) (by omega) (by unfold refS; omega)
  rw [← Nat.add_assoc c 65 i] at a
  exact a
theorem rdS_sr {u c : Nat} {M N : MM} {T : RT} (h : rdS u c M N T) {i x : Nat} (hi : i < 60) (hx : x < 20) : rdS u c M (sR N (c + 65 + i) 4 (.ref (c + 5 + 3 * x))) (tU T (65 + i) 4 x) := by
  have a := rdS_r h (a := 65 + i) (f := 4) (x := x) (by unfold refS; omega) hx
  rw [← Nat.add_assoc c 65 i] at a
  exact a
theorem rdW_s {u c : Nat} {M : MM} {T : RT} (h : rdW M u c T) {i f : Nat} (hi : i < 60) (hf : f < 4) : M.1 (c + 65 + i) f = nI (T (65 + i) f) := by
  have a := h.1 (65 + i) f (by omega) (by unfold refS; omega)
  rw [← Nat.add_assoc c 65 i] at a
  exact a
theorem rdW_sr {u c : Nat} {M : MM} {T : RT} (h : rdW M u c T) {i : Nat} (hi : i < 60) : M.2.2 (c + 65 + i) 4 = .ref (c + 5 + 3 * T (65 + i) 4) ∧ T (65 + i) 4 < 20 := by
  have a := h.2.2 (65 + i) 4 (by unfold refS; omega)
  rw [← Nat.add_assoc c 65 i] at a
  exact a
theorem rdW_c {u c : Nat} {M : MM} {T : RT} (h : rdW M u c T) (f : Nat) : M.1 c f = nI (T 0 f) := h.1 0 f (by decide) (by unfold refS; omega)
theorem rdW_u {u c : Nat} {M : MM} {T : RT} (h : rdW M u c T) (f : Nat) : M.1 u f = nI (T 200 f) := h.2.1 0 f (by decide)
def clT (T : RT) (pl : Nat) : RT := tU (tU (tU (apT (tU (tU T 200 5 (T 200 5 - 1)) (65 + pl) 3 (T 0 1)) 7) (65 + T 0 1) 4 (T (65 + pl) 4)) (65 + T 0 1) 2 (T (65 + pl) 2)) (65 + T 0 1) 3 pl
def pbT (T : RT) (pl to : Nat) : RT := tU (apT (tU (if to = 9 then phT (tU T 200 5 (T 200 5 - 1)) (T 0 1) else tU T 200 5 (T 200 5 - 1)) (65 + pl) 3 (T 0 1)) to) (65 + T 0 1) 2 (T (65 + pl) 2)
theorem c_X6_closeLoop {Γ : GT} {G : GG} {M : MM} {u c : Nat} {T : RT} (hR : rdF G M.2.2 u) (hW : codeF G M.2.2 c) (hd : u + 2 ≤ c ∨ c + 125 ≤ u) (hT : rdW M u c T) (h60 : T 0 1 < 60) {pl : Nat} (h6 : T 200 5 ≤ 6) (hp60 : pl < 60) (hpl : 1 ≤ T 200 5 → T 201 (T 200 5 - 1) = pl ∧ pl < T 0 1) (hk : T (65 + pl) 0 < 2 ^ 31) : Calls Γ q_X6_closeLoop [.ref u, .ref c] G M (rI (fun y M' => y = b2i (decide (1 ≤ T 200 5 ∧ T (65 + pl) 0 = 6)) ∧ ((1 ≤ T 200 5 ∧ T (65 + pl) 0 = 6) → rdS u c M M' (clT T pl)) ∧ (¬ (1 ≤ T 200 5 ∧ T (65 + pl) 0 = 6) → M' = M))) := by
  refine Calls.intro (by decide +kernel) (Nat.le_of_ble_eq_true rfl) (fun z E h hQ => ?_)
  refine x_loc (L' := [some (.ref u), some (.ref c), none, none, none]) rfl ?_
  refine x_aload_n h dX6_closeLoop_0 rfl ?_
  refine x_bipush h (nI 6) (by decide) dX6_closeLoop_1 ?_
  refine x_aload_n h dX6_closeLoop_3 rfl ?_
  refine x_cVi h ci_X6_innermost im_X6_innermost l_X6_142 ⟨Nat.le_of_ble_eq_true rfl, Nat.le_of_ble_eq_true rfl⟩ ⟨rfl, rfl⟩ ⟨Nat.zero_le _, Nat.zero_le _⟩ (c_X6_innermost (pl := pl) (k' := T (65 + pl) 0) hR hW (rdW_u hT 5) h6 hp60 hk (by decide) (fun q => ⟨(hT.2.1 1 _ (by decide)).trans (congrArg nI (hpl q).1), rdW_s hT hp60 (by decide)⟩)) rfl rfl rfl rfl hR.1 (by decide) rfl dX6_closeLoop_4 (fun v4 M4 hp4 => ?_)
  obtain ⟨rfl, hM⟩ := hp4
  obtain rfl := hM.symm
  clear hM
  refine x_istore_n h dX6_closeLoop_7 rfl rfl ?_
  dsimp only [List.set]
  refine x_iload_n h dX6_closeLoop_8 rfl ?_
  refine x_if_ge h 14 dX6_closeLoop_9 (by decide) (fun c9 => ?_) (fun c9 => ?_)
  · have e := innI_ge hp60 c9
    have hpn := (hpl e.1).2
    rw [show innI (T 200 5) pl (T (65 + pl) 0) 6 = nI pl from if_pos e]
    refine x_aload_n h dX6_closeLoop_14 rfl ?_
    refine x_dup h rfl dX6_closeLoop_15 ?_
    refine x_getIv h hR.1 f_X6_24 rfl (rdW_u hT 5) dX6_closeLoop_16 ?_
    refine x_in1 h dX6_closeLoop_19 ?_
    refine x_isubn h e.1 dX6_closeLoop_20 ?_
    refine x_putI h hR.1 f_X6_24 rfl rfl dX6_closeLoop_21 ?_
    refine x_aload_n h dX6_closeLoop_24 rfl ?_
    refine x_iload_n h dX6_closeLoop_25 rfl ?_
    refine x_cVr h ci_X2_at im_X2_at l_X6_136 ⟨Nat.le_of_ble_eq_true rfl, Nat.le_of_ble_eq_true rfl⟩ ⟨rfl, rfl⟩ ⟨Nat.zero_le _, Nat.zero_le _⟩ (c_X2_at (M := sI M u 5 (nI (T 200 5 - 1))) hW hp60) rfl rfl rfl rfl hW.1 (by decide) rfl dX6_closeLoop_26 (fun v26 M26 hp26 => ?_)
    obtain ⟨rfl, hM⟩ := hp26
    obtain rfl := hM.symm
    clear hM
    refine x_astore_n h dX6_closeLoop_29 rfl rfl ?_
    dsimp only [List.set]
    refine x_aload_n h dX6_closeLoop_30 rfl ?_
    refine x_aload_n h dX6_closeLoop_31 rfl ?_
    refine x_getIv h hW.1 f_X6_126 rfl ((up2_ne _ _ (by omega)).trans (rdW_c hT 1)) dX6_closeLoop_32 ?_
    refine x_putI h (hW.2.2.2.1 pl hp60).2 f_X6_146 rfl rfl dX6_closeLoop_35 ?_
    refine x_aload_n h dX6_closeLoop_38 rfl ?_
    refine x_bipush h (nI 7) (by decide) dX6_closeLoop_39 ?_
    refine x_cVr h ci_X2_append im_X2_append l_X6_99 ⟨Nat.le_of_ble_eq_true rfl, Nat.le_of_ble_eq_true rfl⟩ ⟨rfl, rfl⟩ ⟨Nat.zero_le _, Nat.zero_le _⟩ (c_X2_append (M := sI (sI M u 5 (nI (T 200 5 - 1))) (c + 65 + pl) 3 (nI (T 0 1))) (n := T 0 1) (st := T 0 10) hW (((up2_ne _ _ (by omega)).trans (up2_ne _ _ (by omega))).trans (rdW_c hT 1)) (((up2_ne _ _ (by omega)).trans (up2_ne _ _ (by omega))).trans (rdW_c hT 10)) h60 (by decide)) rfl rfl rfl rfl hW.1 (by decide) rfl dX6_closeLoop_41 (fun v41 M41 hp41 => ?_)
    obtain ⟨rfl, rfl⟩ := hp41
    refine x_astore h dX6_closeLoop_44 rfl rfl ?_
    dsimp only [List.set]
    refine x_aload h dX6_closeLoop_46 rfl ?_
    refine x_aload_n h dX6_closeLoop_48 rfl ?_
    refine x_getR h (hW.2.2.2.1 pl hp60).2 f_X6_108 rfl ((apM_r (by omega)).trans (rdW_sr hT hp60).1) dX6_closeLoop_49 ?_
    refine x_putR h (hW.2.2.2.1 (T 0 1) h60).2 f_X6_108 rfl rfl dX6_closeLoop_52 ?_
    refine x_aload h dX6_closeLoop_55 rfl ?_
    refine x_aload_n h dX6_closeLoop_57 rfl ?_
    refine x_getIv h (hW.2.2.2.1 pl hp60).2 f_X6_133 rfl (show _ = nI (T (65 + pl) 2) from by show (apM _ _ _ _ _).1 _ _ = _; rw [apM_i (by omega) (by omega)]; exact ((up2_ne _ _ (by omega)).trans (up2_ne _ _ (by omega))).trans (rdW_s hT hp60 (by decide))) dX6_closeLoop_58 ?_
    refine x_putI h (hW.2.2.2.1 (T 0 1) h60).2 f_X6_133 rfl rfl dX6_closeLoop_61 ?_
    refine x_aload h dX6_closeLoop_64 rfl ?_
    refine x_iload_n h dX6_closeLoop_66 rfl ?_
    refine x_putI h (hW.2.2.2.1 (T 0 1) h60).2 f_X6_146 rfl rfl dX6_closeLoop_67 ?_
    refine x_ic1 h dX6_closeLoop_70 ?_
    exact x_zret h hQ rfl (by decide) dX6_closeLoop_71 ⟨rfl, rfl, _, rfl, b2i_t (decide_eq_true e), (fun _ => rdS_s hd (rdS_s hd (rdS_sr (rdS_ap hd (rdS_s hd (rdS_u hd (rdS_0 hT) (a := 0) (by decide)) hp60 (by decide)) ((tU_ne (by omega)).trans (tU_ne (by omega))) ((tU_ne (by omega)).trans (tU_ne (by omega))) h60) h60 (rdW_sr hT hp60).2) h60 (by decide)) h60 (by decide)), fun q => absurd e q⟩
  · have e := (innI_lt hp60).mp (Int32.not_le.mp c9)
    refine x_ic0 h dX6_closeLoop_12 ?_
    exact x_zret h hQ rfl (by decide) dX6_closeLoop_13 ⟨rfl, rfl, _, rfl, b2i_f (decide_eq_false e), fun q => absurd q e, fun _ => rfl⟩
theorem c_X6_passBar {Γ : GT} {G : GG} {M : MM} {u c : Nat} {T : RT} (hR : rdF G M.2.2 u) (hW : codeF G M.2.2 c) (hd : u + 2 ≤ c ∨ c + 125 ≤ u) (hT : rdW M u c T) (h60 : T 0 1 < 60) {pl : Nat} (h6 : T 200 5 ≤ 6) (hp60 : pl < 60) (hpl : 1 ≤ T 200 5 → T 201 (T 200 5 - 1) = pl ∧ pl < T 0 1) (hk : T (65 + pl) 0 < 2 ^ 31) {kd to : Nat} (hkd : kd < 2 ^ 31) (hto : to < 2 ^ 31) : Calls Γ q_X6_passBar [.ref u, .int (nI kd), .int (nI to), .ref c] G M (rI (fun y M' => y = b2i (decide (1 ≤ T 200 5 ∧ T (65 + pl) 0 = kd)) ∧ ((1 ≤ T 200 5 ∧ T (65 + pl) 0 = kd) → rdS u c M M' (pbT T pl to)) ∧ (¬ (1 ≤ T 200 5 ∧ T (65 + pl) 0 = kd) → M' = M))) := by
  refine Calls.intro (by decide +kernel) (Nat.le_of_ble_eq_true rfl) (fun z E h hQ => ?_)
  refine x_loc (L' := [some (.ref u), some (.int (nI kd)), some (.int (nI to)), some (.ref c), none, none]) rfl ?_
  refine x_aload_n h dX6_passBar_0 rfl ?_
  refine x_iload_n h dX6_passBar_1 rfl ?_
  refine x_aload_n h dX6_passBar_2 rfl ?_
  refine x_cVi h ci_X6_innermost im_X6_innermost l_X6_142 ⟨Nat.le_of_ble_eq_true rfl, Nat.le_of_ble_eq_true rfl⟩ ⟨rfl, rfl⟩ ⟨Nat.zero_le _, Nat.zero_le _⟩ (c_X6_innermost (pl := pl) (k' := T (65 + pl) 0) hR hW (rdW_u hT 5) h6 hp60 hk hkd (fun q => ⟨(hT.2.1 1 _ (by decide)).trans (congrArg nI (hpl q).1), rdW_s hT hp60 (by decide)⟩)) rfl rfl rfl rfl hR.1 (by decide) rfl dX6_passBar_3 (fun v3 M3 hp3 => ?_)
  obtain ⟨rfl, hM⟩ := hp3
  obtain rfl := hM.symm
  clear hM
  refine x_istore h dX6_passBar_6 rfl rfl ?_
  dsimp only [List.set]
  refine x_iload h dX6_passBar_8 rfl ?_
  refine x_if_ge h 15 dX6_passBar_10 (by decide) (fun c10 => ?_) (fun c10 => ?_)
  · have e := innI_ge hp60 c10
    have hpn := (hpl e.1).2
    rw [show innI (T 200 5) pl (T (65 + pl) 0) kd = nI pl from if_pos e]
    refine x_aload_n h dX6_passBar_15 rfl ?_
    refine x_dup h rfl dX6_passBar_16 ?_
    refine x_getIv h hR.1 f_X6_24 rfl (rdW_u hT 5) dX6_passBar_17 ?_
    refine x_in1 h dX6_passBar_20 ?_
    refine x_isubn h e.1 dX6_passBar_21 ?_
    refine x_putI h hR.1 f_X6_24 rfl rfl dX6_passBar_22 ?_
    refine x_iload_n h dX6_passBar_25 rfl ?_
    refine x_bipush h (nI 9) (by decide) dX6_passBar_26 ?_
    refine x_icmp_ne h 39 dX6_passBar_28 (by decide) (fun c28 => ?_) (fun c28 => ?_)
    · have e28 : ¬ to = 9 := fun q => c28 (by rw [q])
      refine x_aload_n h dX6_passBar_39 rfl ?_
      refine x_iload h dX6_passBar_40 rfl ?_
      refine x_cVr h ci_X2_at im_X2_at l_X6_136 ⟨Nat.le_of_ble_eq_true rfl, Nat.le_of_ble_eq_true rfl⟩ ⟨rfl, rfl⟩ ⟨Nat.zero_le _, Nat.zero_le _⟩ (c_X2_at (M := sI M u 5 (nI (T 200 5 - 1))) hW hp60) rfl rfl rfl rfl hW.1 (by decide) rfl dX6_passBar_42 (fun v42 M42 hp42 => ?_)
      obtain ⟨rfl, hM⟩ := hp42
      obtain rfl := hM.symm
      clear hM
      refine x_astore h dX6_passBar_45 rfl rfl ?_
      dsimp only [List.set]
      refine x_aload h dX6_passBar_47 rfl ?_
      refine x_aload_n h dX6_passBar_49 rfl ?_
      refine x_getIv h hW.1 f_X6_126 rfl (show _ = nI (T 0 1) from by first | exact (up2_ne _ _ (by omega)).trans (rdW_c hT 1) | exact (phM_i (by omega) (by omega)).trans ((up2_ne _ _ (by omega)).trans (rdW_c hT 1))) dX6_passBar_50 ?_
      refine x_putI h (hW.2.2.2.1 pl hp60).2 f_X6_146 rfl rfl dX6_passBar_53 ?_
      refine x_aload_n h dX6_passBar_56 rfl ?_
      refine x_iload_n h dX6_passBar_57 rfl ?_
      refine x_cVr h ci_X2_append im_X2_append l_X6_99 ⟨Nat.le_of_ble_eq_true rfl, Nat.le_of_ble_eq_true rfl⟩ ⟨rfl, rfl⟩ ⟨Nat.zero_le _, Nat.zero_le _⟩ (c_X2_append (M := sI (sI M u 5 (nI (T 200 5 - 1))) (c + 65 + pl) 3 (nI (T 0 1))) (n := T 0 1) (st := T 0 10) hW ((up2_ne _ _ (by omega)).trans ((up2_ne _ _ (by omega)).trans (rdW_c hT 1))) ((up2_ne _ _ (by omega)).trans ((up2_ne _ _ (by omega)).trans (rdW_c hT 10))) h60 hto) rfl rfl rfl rfl hW.1 (by decide) rfl dX6_passBar_58 (fun v58 M58 hp58 => ?_)
      obtain ⟨rfl, rfl⟩ := hp58
      refine x_aload h dX6_passBar_61 rfl ?_
      refine x_getIv h (hW.2.2.2.1 pl hp60).2 f_X6_133 rfl (show _ = nI (T (65 + pl) 2) from by show (apM _ _ _ _ _).1 _ _ = _; rw [apM_i (by omega) (by omega)]; first | exact ((up2_ne _ _ (by omega)).trans (up2_ne _ _ (by omega))).trans (rdW_s hT hp60 (by decide)) | exact (up2_ne _ _ (by omega)).trans ((phM_i (by omega) (by omega)).trans ((up2_ne _ _ (by omega)).trans (rdW_s hT hp60 (by decide))))) dX6_passBar_63 ?_
      refine x_putI h (hW.2.2.2.1 (T 0 1) h60).2 f_X6_133 rfl rfl dX6_passBar_66 ?_
      refine x_ic1 h dX6_passBar_69 ?_
      exact x_zret h hQ rfl (by decide) dX6_passBar_70 ⟨rfl, rfl, _, rfl, b2i_t (decide_eq_true e), (fun _ => by unfold pbT; rw [if_neg e28]; exact rdS_s hd (rdS_ap hd (rdS_s hd (rdS_u hd (rdS_0 hT) (a := 0) (by decide)) hp60 (by decide)) ((tU_ne (by omega)).trans (tU_ne (by omega))) ((tU_ne (by omega)).trans (tU_ne (by omega))) h60) h60 (by decide)), fun q => absurd e q⟩
    · have e28 : to = 9 := nI_small 9 hto (by decide) c28
      refine x_aload_n h dX6_passBar_31 rfl ?_
      refine x_aload_n h dX6_passBar_32 rfl ?_
      refine x_getIv h hW.1 f_X6_126 rfl (show _ = nI (T 0 1) from by first | exact (up2_ne _ _ (by omega)).trans (rdW_c hT 1) | exact (phM_i (by omega) (by omega)).trans ((up2_ne _ _ (by omega)).trans (rdW_c hT 1))) dX6_passBar_33 ?_
      refine x_cVv h ci_X6_push im_X6_push l_X6_129 ⟨Nat.le_of_ble_eq_true rfl, Nat.le_of_ble_eq_true rfl⟩ ⟨rfl, rfl⟩ ⟨Nat.zero_le _, Nat.zero_le _⟩ (c_X6_push (M := sI M u 5 (nI (T 200 5 - 1))) hR (up2_self _ _ _ _) (by omega)) rfl rfl rfl rfl hR.1 (by decide) rfl dX6_passBar_36 (fun M36 hp36 => ?_)
      subst hp36
      refine x_aload_n h dX6_passBar_39 rfl ?_
      refine x_iload h dX6_passBar_40 rfl ?_
      refine x_cVr h ci_X2_at im_X2_at l_X6_136 ⟨Nat.le_of_ble_eq_true rfl, Nat.le_of_ble_eq_true rfl⟩ ⟨rfl, rfl⟩ ⟨Nat.zero_le _, Nat.zero_le _⟩ (c_X2_at (M := phM (sI M u 5 (nI (T 200 5 - 1))) u (T 200 5 - 1) (T 0 1)) hW hp60) rfl rfl rfl rfl hW.1 (by decide) rfl dX6_passBar_42 (fun v42 M42 hp42 => ?_)
      obtain ⟨rfl, hM⟩ := hp42
      obtain rfl := hM.symm
      clear hM
      refine x_astore h dX6_passBar_45 rfl rfl ?_
      dsimp only [List.set]
      refine x_aload h dX6_passBar_47 rfl ?_
      refine x_aload_n h dX6_passBar_49 rfl ?_
      refine x_getIv h hW.1 f_X6_126 rfl (show _ = nI (T 0 1) from by first | exact (up2_ne _ _ (by omega)).trans (rdW_c hT 1) | exact (phM_i (by omega) (by omega)).trans ((up2_ne _ _ (by omega)).trans (rdW_c hT 1))) dX6_passBar_50 ?_
      refine x_putI h (hW.2.2.2.1 pl hp60).2 f_X6_146 rfl rfl dX6_passBar_53 ?_
      refine x_aload_n h dX6_passBar_56 rfl ?_
      refine x_iload_n h dX6_passBar_57 rfl ?_
      refine x_cVr h ci_X2_append im_X2_append l_X6_99 ⟨Nat.le_of_ble_eq_true rfl, Nat.le_of_ble_eq_true rfl⟩ ⟨rfl, rfl⟩ ⟨Nat.zero_le _, Nat.zero_le _⟩ (c_X2_append (M := sI (phM (sI M u 5 (nI (T 200 5 - 1))) u (T 200 5 - 1) (T 0 1)) (c + 65 + pl) 3 (nI (T 0 1))) (n := T 0 1) (st := T 0 10) hW ((up2_ne _ _ (by omega)).trans ((phM_i (by omega) (by omega)).trans ((up2_ne _ _ (by omega)).trans (rdW_c hT 1)))) ((up2_ne _ _ (by omega)).trans ((phM_i (by omega) (by omega)).trans ((up2_ne _ _ (by omega)).trans (rdW_c hT 10)))) h60 hto) rfl rfl rfl rfl hW.1 (by decide) rfl dX6_passBar_58 (fun v58 M58 hp58 => ?_)
      obtain ⟨rfl, rfl⟩ := hp58
      refine x_aload h dX6_passBar_61 rfl ?_
      refine x_getIv h (hW.2.2.2.1 pl hp60).2 f_X6_133 rfl (show _ = nI (T (65 + pl) 2) from by show (apM _ _ _ _ _).1 _ _ = _; rw [apM_i (by omega) (by omega)]; first | exact ((up2_ne _ _ (by omega)).trans (up2_ne _ _ (by omega))).trans (rdW_s hT hp60 (by decide)) | exact (up2_ne _ _ (by omega)).trans ((phM_i (by omega) (by omega)).trans ((up2_ne _ _ (by omega)).trans (rdW_s hT hp60 (by decide))))) dX6_passBar_63 ?_
      refine x_putI h (hW.2.2.2.1 (T 0 1) h60).2 f_X6_133 rfl rfl dX6_passBar_66 ?_
      refine x_ic1 h dX6_passBar_69 ?_
      exact x_zret h hQ rfl (by decide) dX6_passBar_70 ⟨rfl, rfl, _, rfl, b2i_t (decide_eq_true e), (fun _ => by unfold pbT; rw [if_pos e28]; exact rdS_s hd (rdS_ap hd (rdS_s hd (rdS_ph hd (rdS_u hd (rdS_0 hT) (a := 0) (by decide)) (tU_same _ _ _ _)) hp60 (by decide)) ((tU_ne (by omega)).trans ((tU_ne (by omega)).trans ((tU_ne (by omega)).trans (tU_ne (by omega))))) ((tU_ne (by omega)).trans ((tU_ne (by omega)).trans ((tU_ne (by omega)).trans (tU_ne (by omega))))) h60) h60 (by decide)), fun q => absurd e q⟩
  · have e := (innI_lt hp60).mp (Int32.not_le.mp c10)
    refine x_ic0 h dX6_passBar_13 ?_
    exact x_zret h hQ rfl (by decide) dX6_passBar_14 ⟨rfl, rfl, _, rfl, b2i_f (decide_eq_false e), fun q => absurd q e, fun _ => rfl⟩
