/-! ===== LoopGuesses: slots, doings ===== -/
theorem c_X11_keep_0 {Γ : GT} {G : GG} {M : MM} {o : Nat} {b : Bool} {S V : RT} {tx : Nat → Nat} {len : Nat} {su : SU} {hy : HY} {kp : KP} {ze : SE} {sd : Int64} (hI : cInv G M o b S V tx len su hy kp ze sd) {x : Int32} (hx : ∀ n, n < 2 → x ≠ nI n) : Calls Γ q_X11_keep [.ref o, .int x] G M (rI (fun y M' => y = -1 ∧ cInv G M' o b S V (tx) (len) (su) (hy) (kp) (ze) (sd) ∧ offO o M M')) := by
  have hI0 := hI
  obtain ⟨hO, hA⟩ := hI
  have hO0 := hO
  obtain ⟨v22, v23, v24, v25, v26⟩ := cv_ok hO
  refine Calls.intro (by decide +kernel) (Nat.le_of_ble_eq_true rfl) (fun z E h hQ => ?_)
  refine x_loc (L' := [some (.ref o), some (.int x)]) rfl ?_
  refine x_iload_n h dX11_keep_0 rfl ?_
  refine x_if_lt h 13 dX11_keep_1 (by decide) (fun c1 => ?_) (fun c1 => ?_)
  · refine x_icm1 h dX11_keep_13 ?_
    exact x_iret h hQ rfl dX11_keep_14 ⟨rfl, rfl, _, rfl, rfl, hI0, oO_refl o M⟩
  · refine x_iload_n h dX11_keep_4 rfl ?_
    refine x_aload_n h dX11_keep_5 rfl ?_
    refine x_getR h hO.1.1 f_X11_44 rfl (lg_slots hO.1).1 dX11_keep_6 ?_
    refine x_alen h (lg_slots hO.1).2 (by decide) dX11_keep_9 ?_
    refine x_icmp_lt h 15 dX11_keep_10 (by decide) (fun c10 => ?_) (fun c10 => ?_)
    · exact absurd c10 (rng_lt (by decide) hx c1)
    · refine x_icm1 h dX11_keep_13 ?_
      exact x_iret h hQ rfl dX11_keep_14 ⟨rfl, rfl, _, rfl, rfl, hI0, oO_refl o M⟩
theorem c_X11_keep_1 {Γ : GT} {G : GG} {M : MM} {o : Nat} {b : Bool} {S V : RT} {tx : Nat → Nat} {len : Nat} {su : SU} {hy : HY} {kp : KP} {ze : SE} {sd : Int64} (hI : cInv G M o b S V tx len su hy kp ze sd) {n : Nat} (hn : n < 2) : Calls Γ q_X11_keep [.ref o, .int (nI n)] G M (rI (fun y M' => y = nI (fb_ct (fun i => su.2.testBit i) 5) ∧ cInv G M' o b S V (tx) (len) (su) (hy) (fun i => if i = n then some su else kp i) (ze) (sd) ∧ offO o M M')) := by
  have hI0 := hI
  obtain ⟨hO, hA⟩ := hI
  have hO0 := hO
  obtain ⟨v22, v23, v24, v25, v26⟩ := cv_ok hO
  have s32 := cv_32 hO
  have kpi := hO.2.2.2.2.2.2.1
  have suk := hO.2.2.2.2.1.2
  refine Calls.intro (by decide +kernel) (Nat.le_of_ble_eq_true rfl) (fun z E h hQ => ?_)
  refine x_loc (L' := [some (.ref o), some (.int (nI n))]) rfl ?_
  refine x_iload_n h dX11_keep_0 rfl ?_
  refine x_if_lt h 13 dX11_keep_1 (by decide) (fun c1 => ?_) (fun c1 => ?_)
  · exact (nI_nneg (by omega) c1).elim
  · refine x_iload_n h dX11_keep_4 rfl ?_
    refine x_aload_n h dX11_keep_5 rfl ?_
    refine x_getR h hO.1.1 f_X11_44 rfl (lg_slots hO.1).1 dX11_keep_6 ?_
    refine x_alen h (lg_slots hO.1).2 (by decide) dX11_keep_9 ?_
    refine x_icmp_lt h 15 dX11_keep_10 (by decide) (fun c10 => ?_) (fun c10 => ?_)
    · refine x_aload_n h dX11_keep_15 rfl ?_
      refine x_getR h hO.1.1 f_X11_44 rfl (lg_slots hO.1).1 dX11_keep_16 ?_
      refine x_iload_n h dX11_keep_19 rfl ?_
      refine x_aload_n h dX11_keep_20 rfl ?_
      refine x_getR h hO.1.1 f_X11_33 rfl (lg_setup hO.1).1 dX11_keep_21 ?_
      refine x_cVi h ci_X8_packed im_X8_packed l_X11_194 ⟨Nat.le_of_ble_eq_true rfl, Nat.le_of_ble_eq_true rfl⟩ ⟨rfl, rfl⟩ ⟨Nat.zero_le _, Nat.zero_le _⟩ (c_X8_packed (lg_setup hO.1).2 hO.2.2.2.2.1.1) rfl rfl rfl rfl (lg_setup hO.1).2.1 (by decide) rfl dX11_keep_24 (fun v24 M24 hp24 => ?_)
      obtain ⟨rfl, hM⟩ := hp24
      obtain rfl := hM.symm
      clear hM
      refine x_iast h n (lg_slots hO.1).2 (ix.ni hn (by decide)) dX11_keep_27 ?_
      refine x_aload_n h dX11_keep_28 rfl ?_
      refine x_getR h hO.1.1 f_X11_33 rfl (lg_setup hO.1).1 dX11_keep_29 ?_
      refine x_getIv h (lg_setup hO.1).2.1 f_X11_117 rfl ((up2_ne _ _ (by omega)).trans hO.2.2.2.2.1.1.2.2.2) dX11_keep_32 ?_
      refine x_cSi h ci_J6_bitCount sm_J6_bitCount l_X11_205 ⟨Nat.le_of_ble_eq_true rfl, Nat.le_of_ble_eq_true rfl⟩ ⟨rfl, rfl⟩ ⟨Nat.zero_le _, Nat.zero_le _⟩ (c_J6_bitCount s32) rfl rfl rfl rfl dX11_keep_35 (fun v35 M35 hp35 => ?_)
      obtain ⟨rfl, hM⟩ := hp35
      obtain rfl := hM.symm
      clear hM
      exact x_iret h hQ rfl dX11_keep_38 ⟨rfl, rfl, _, rfl, rfl, (cInv_I hI0 rfl (fun a j q => by simp only [sI, up2]; rw [if_neg (by omega)]) (cTx_cg hO0.2.1 (by simp only [sI, up2]; rw [if_neg (by omega)]) (fun j => by simp only [sI, up2]; rw [if_neg (by omega)])) (cSu_cg hO0.2.2.2.2.1 (fun a j q => by simp only [sI, up2]; rw [if_neg (by omega)])) (cHy_cg hO0.2.2.2.2.2.1 (by simp only [sI, up2]; rw [if_neg (by omega)]) (fun j => by simp only [sI, up2]; rw [if_neg (by omega)])) (fun i hi => by
          by_cases q : i = n
          · refine ⟨fun z => ?_, fun s z => ?_⟩
            · have z2 : (if i = n then some su else kp i) = none := z
              rw [if_pos q] at z2; cases z2
            · have z2 : (if i = n then some su else kp i) = some s := z
              rw [if_pos q] at z2
              cases z2
              rw [q]
              exact ⟨up2_self _ _ _ _, suk⟩
          · refine ⟨fun z => ?_, fun s z => ?_⟩
            · have z2 : (if i = n then some su else kp i) = none := z
              rw [if_neg q] at z2
              exact (up2_ne _ _ (fun w => q w.2)).trans ((kpi i hi).1 z2)
            · have z2 : (if i = n then some su else kp i) = some s := z
              rw [if_neg q] at z2
              exact ⟨(up2_ne _ _ (fun w => q w.2)).trans ((kpi i hi).2 s z2).1, ((kpi i hi).2 s z2).2⟩) (cSe_cg hO0.2.2.2.2.2.2.2.1 (by simp only [sI, up2]; rw [if_neg (by omega)]) (fun a j q => by simp only [sI, up2]; rw [if_neg (by omega)]))), (oO_I (oO_refl o M) _ (by omega))⟩
    · exact absurd ((nI_lt_iff (by omega) (by omega)).mpr (by omega)) c10
theorem c_X11_again_0 {Γ : GT} {G : GG} {M : MM} {o : Nat} {b : Bool} {S V : RT} {tx : Nat → Nat} {len : Nat} {su : SU} {hy : HY} {kp : KP} {ze : SE} {sd : Int64} (hI : cInv G M o b S V tx len su hy kp ze sd) {x : Int32} (hx : ∀ n, n < 2 → x ≠ nI n) : Calls Γ q_X11_again [.ref o, .int x] G M (rI (fun y M' => y = -1 ∧ cInv G M' o b S V (tx) (len) (su) (hy) (kp) (ze) (sd) ∧ offO o M M')) := by
  have hI0 := hI
  obtain ⟨hO, hA⟩ := hI
  have hO0 := hO
  obtain ⟨v22, v23, v24, v25, v26⟩ := cv_ok hO
  refine Calls.intro (by decide +kernel) (Nat.le_of_ble_eq_true rfl) (fun z E h hQ => ?_)
  refine x_loc (L' := [some (.ref o), some (.int x)]) rfl ?_
  refine x_iload_n h dX11_again_0 rfl ?_
  refine x_if_lt h 13 dX11_again_1 (by decide) (fun c1 => ?_) (fun c1 => ?_)
  · refine x_icm1 h dX11_again_13 ?_
    exact x_iret h hQ rfl dX11_again_14 ⟨rfl, rfl, _, rfl, rfl, hI0, oO_refl o M⟩
  · refine x_iload_n h dX11_again_4 rfl ?_
    refine x_aload_n h dX11_again_5 rfl ?_
    refine x_getR h hO.1.1 f_X11_44 rfl (lg_slots hO.1).1 dX11_again_6 ?_
    refine x_alen h (lg_slots hO.1).2 (by decide) dX11_again_9 ?_
    refine x_icmp_lt h 15 dX11_again_10 (by decide) (fun c10 => ?_) (fun c10 => ?_)
    · exact absurd c10 (rng_lt (by decide) hx c1)
    · refine x_icm1 h dX11_again_13 ?_
      exact x_iret h hQ rfl dX11_again_14 ⟨rfl, rfl, _, rfl, rfl, hI0, oO_refl o M⟩
theorem c_X11_again_1 {Γ : GT} {G : GG} {M : MM} {o : Nat} {b : Bool} {S V : RT} {tx : Nat → Nat} {len : Nat} {su : SU} {hy : HY} {kp : KP} {ze : SE} {sd : Int64} (hI : cInv G M o b S V tx len su hy kp ze sd) {n : Nat} (hn : n < 2) (hk : kp n = none) : Calls Γ q_X11_again [.ref o, .int (nI n)] G M (rI (fun y M' => y = -3 ∧ cInv G M' o b S V (tx) (len) (su) (hy) (kp) (ze) (sd) ∧ offO o M M')) := by
  have hI0 := hI
  obtain ⟨hO, hA⟩ := hI
  have hO0 := hO
  obtain ⟨v22, v23, v24, v25, v26⟩ := cv_ok hO
  have kpi := hO.2.2.2.2.2.2.1
  refine Calls.intro (by decide +kernel) (Nat.le_of_ble_eq_true rfl) (fun z E h hQ => ?_)
  refine x_loc (L' := [some (.ref o), some (.int (nI n))]) rfl ?_
  refine x_iload_n h dX11_again_0 rfl ?_
  refine x_if_lt h 13 dX11_again_1 (by decide) (fun c1 => ?_) (fun c1 => ?_)
  · exact (nI_nneg (by omega) c1).elim
  · refine x_iload_n h dX11_again_4 rfl ?_
    refine x_aload_n h dX11_again_5 rfl ?_
    refine x_getR h hO.1.1 f_X11_44 rfl (lg_slots hO.1).1 dX11_again_6 ?_
    refine x_alen h (lg_slots hO.1).2 (by decide) dX11_again_9 ?_
    refine x_icmp_lt h 15 dX11_again_10 (by decide) (fun c10 => ?_) (fun c10 => ?_)
    · refine x_aload_n h dX11_again_15 rfl ?_
      refine x_getR h hO.1.1 f_X11_44 rfl (lg_slots hO.1).1 dX11_again_16 ?_
      refine x_iload_n h dX11_again_19 rfl ?_
      refine x_ialdv h n (lg_slots hO.1).2 (ix.ni hn (by decide)) (show _ = (-1 : Int32) from (kpi n hn).1 hk) dX11_again_20 ?_
      refine x_icm1 h dX11_again_21 ?_
      refine x_icmp_ne h 28 dX11_again_22 (by decide) (fun c22 => ?_) (fun c22 => ?_)
      · exact absurd rfl c22
      · refine x_bipush h (-3) (by decide) dX11_again_25 ?_
        exact x_iret h hQ rfl dX11_again_27 ⟨rfl, rfl, _, rfl, rfl, hI0, oO_refl o M⟩
    · exact absurd ((nI_lt_iff (by omega) (by omega)).mpr (by omega)) c10
theorem c_X11_again_2 {Γ : GT} {G : GG} {M : MM} {o : Nat} {b : Bool} {S V : RT} {tx : Nat → Nat} {len : Nat} {su : SU} {hy : HY} {kp : KP} {ze : SE} {sd : Int64} (hI : cInv G M o b S V tx len su hy kp ze sd) {n : Nat} (hn : n < 2) {s : SU} (hk : kp n = some s) : Calls Γ q_X11_again [.ref o, .int (nI n)] G M (rI (fun y M' => y = nI (fb_ct (fun i => s.2.testBit i) 5) ∧ cInv G M' o b S V (tx) (len) (s) ((0, hy.2)) (kp) (ze) (sd) ∧ offO o M M')) := by
  have hI0 := hI
  obtain ⟨hO, hA⟩ := hI
  have hO0 := hO
  obtain ⟨v22, v23, v24, v25, v26⟩ := cv_ok hO
  have kpi := (hO.2.2.2.2.2.2.1 n hn).2 s hk
  have s32 := su32 kpi.2 v26
  have pl := pkU_lt kpi.2 v26
  have un := unpk kpi.2 v26 M (o + 254)
  refine Calls.intro (by decide +kernel) (Nat.le_of_ble_eq_true rfl) (fun z E h hQ => ?_)
  refine x_loc (L' := [some (.ref o), some (.int (nI n))]) rfl ?_
  refine x_iload_n h dX11_again_0 rfl ?_
  refine x_if_lt h 13 dX11_again_1 (by decide) (fun c1 => ?_) (fun c1 => ?_)
  · exact (nI_nneg (by omega) c1).elim
  · refine x_iload_n h dX11_again_4 rfl ?_
    refine x_aload_n h dX11_again_5 rfl ?_
    refine x_getR h hO.1.1 f_X11_44 rfl (lg_slots hO.1).1 dX11_again_6 ?_
    refine x_alen h (lg_slots hO.1).2 (by decide) dX11_again_9 ?_
    refine x_icmp_lt h 15 dX11_again_10 (by decide) (fun c10 => ?_) (fun c10 => ?_)
    · refine x_aload_n h dX11_again_15 rfl ?_
      refine x_getR h hO.1.1 f_X11_44 rfl (lg_slots hO.1).1 dX11_again_16 ?_
      refine x_iload_n h dX11_again_19 rfl ?_
      refine x_ialdv h n (lg_slots hO.1).2 (ix.ni hn (by decide)) (show _ = nI (pkU s) from kpi.1) dX11_again_20 ?_
      refine x_icm1 h dX11_again_21 ?_
      refine x_icmp_ne h 28 dX11_again_22 (by decide) (fun c22 => ?_) (fun c22 => ?_)
      · refine x_aload_n h dX11_again_28 rfl ?_
        refine x_getR h hO.1.1 f_X11_33 rfl (lg_setup hO.1).1 dX11_again_29 ?_
        refine x_aload_n h dX11_again_32 rfl ?_
        refine x_getR h hO.1.1 f_X11_44 rfl (lg_slots hO.1).1 dX11_again_33 ?_
        refine x_iload_n h dX11_again_36 rfl ?_
        refine x_ialdv h n (lg_slots hO.1).2 (ix.ni hn (by decide)) (show _ = nI (pkU s) from kpi.1) dX11_again_37 ?_
        refine x_cVv h ci_X8_unpack im_X8_unpack l_X11_197 ⟨Nat.le_of_ble_eq_true rfl, Nat.le_of_ble_eq_true rfl⟩ ⟨rfl, rfl⟩ ⟨Nat.zero_le _, Nat.zero_le _⟩ (c_X8_unpack (lg_setup hO.1).2 (p := pkU s) (by omega)) rfl rfl rfl rfl (lg_setup hO.1).2.1 (by decide) rfl dX11_again_38 (fun M38 hp38 => ?_)
        subst hp38
        refine x_aload_n h dX11_again_41 rfl ?_
        refine x_in0 h dX11_again_42 ?_
        refine x_putI h hO.1.1 f_X11_96 rfl rfl dX11_again_43 ?_
        refine x_aload_n h dX11_again_46 rfl ?_
        refine x_getR h hO.1.1 f_X11_33 rfl (lg_setup hO.1).1 dX11_again_47 ?_
        refine x_getIv h (lg_setup hO.1).2.1 f_X11_117 rfl (show _ = nI s.2 from (up2_ne _ _ (by omega)).trans un.2.2.2) dX11_again_50 ?_
        refine x_cSi h ci_J6_bitCount sm_J6_bitCount l_X11_205 ⟨Nat.le_of_ble_eq_true rfl, Nat.le_of_ble_eq_true rfl⟩ ⟨rfl, rfl⟩ ⟨Nat.zero_le _, Nat.zero_le _⟩ (c_J6_bitCount s32) rfl rfl rfl rfl dX11_again_53 (fun v53 M53 hp53 => ?_)
        obtain ⟨rfl, hM⟩ := hp53
        obtain rfl := hM.symm
        clear hM
        exact x_iret h hQ rfl dX11_again_56 ⟨rfl, rfl, _, rfl, rfl, cInv_I hI0 rfl (fun a j q => (up2_ne _ _ (by omega)).trans (setSu_ne (by omega) (by omega))) (cTx_cg hO0.2.1 ((up2_ne _ _ (by omega)).trans (setSu_ne (by omega) (by omega))) (fun j => (up2_ne _ _ (by omega)).trans (setSu_ne (by omega) (by omega)))) ⟨⟨(up2_ne _ _ (by omega)).trans un.1, (up2_ne _ _ (by omega)).trans un.2.1, (up2_ne _ _ (by omega)).trans un.2.2.1, (up2_ne _ _ (by omega)).trans un.2.2.2⟩, kpi.2⟩ ⟨Nat.zero_le _, up2_self _ _ _ _, fun i hi => absurd hi (Nat.not_lt_zero _)⟩ (cKp_cg hO0.2.2.2.2.2.2.1 (fun j => (up2_ne _ _ (by omega)).trans (setSu_ne (by omega) (by omega)))) (cSe_cg hO0.2.2.2.2.2.2.2.1 ((up2_ne _ _ (by omega)).trans (setSu_ne (by omega) (by omega))) (fun a j q => (up2_ne _ _ (by omega)).trans (setSu_ne (by omega) (by omega)))), oO_I (oO_su (oO_refl o M) _ _ (by omega)) _ (by omega)⟩
      · exact absurd c22 (nI_ne_m1 (by omega))
    · exact absurd ((nI_lt_iff (by omega) (by omega)).mpr (by omega)) c10
theorem cInv_sd {G : GG} {M N : MM} {o : Nat} {b : Bool} {S V : RT} {tx : Nat → Nat} {len : Nat} {su : SU} {hy : HY} {kp : KP} {ze : SE} {sd sd' : Int64} (h : cInv G M o b S V tx len su hy kp ze sd) (er : N.2.2 = M.2.2) (ei : ∀ a j, o ≤ a → a < o + 433 → N.1 a j = M.1 a j) (el : N.2.1 (o + 433) 0 = sd') (e2 : ∀ a j, a < o + 433 → N.2.1 a j = M.2.1 a j) : cInv G N o b S V tx len su hy kp ze sd' := by
  obtain ⟨⟨h1, h2, h3, ⟨h4, h5⟩, h6, h7, h8, h9, h10⟩, h11⟩ := h
  have := cd_in o b
  have hD := lg_D h1
  have gr := (lg_runner h1).2
  refine ⟨⟨by rw [er]; exact h1, cTx_cg h2 (ei _ _ (by omega) (by omega)) (fun j => ei _ _ (by omega) (by omega)), cRd_cg h3 (fun a j _ _ => ei _ _ (by omega) (by omega)) er, ⟨cdW_cg h4 (fun a j _ _ => ei _ _ (by omega) (by omega)) (fun a j _ _ => by rw [er]), h5⟩, cSu_cg h6 (fun a j q => ei _ _ (by omega) (by omega)), cHy_cg h7 (ei _ _ (by omega) (by omega)) (fun j => ei _ _ (by omega) (by omega)), cKp_cg h8 (fun j => ei _ _ (by omega) (by omega)), cSe_cg h9 (ei _ _ (by omega) (by omega)) (fun a j q => ei _ _ (by omega) (by omega)), el⟩, aC_cg h11 er (fun a j _ _ => ei _ _ (by omega) (by omega)) (fun a j _ _ => ei _ _ (by omega) (by omega)) (fun a j q => e2 _ _ ?_)⟩
  have a1 := hD a q
  have n1 : a ≠ o + 432 := fun z => by
    have n2 := (lg_analysis h1).2.2.2.2.2.2.2.2.2.2.2.2.2.2.2.2 3 (by decide)
    rw [z] at q
    unfold DG at q
    have g2 : G (o + 432) = some (.inr (.long, 6)) := n2.2.1.2.2
    rw [g2] at q
    cases q
  have n3 : a ≠ o + 433 := fun z => by
    rw [z] at q
    unfold DG at q
    rw [gr.1] at q
    cases q
  omega
theorem c_X11_seed {Γ : GT} {G : GG} {M : MM} {o : Nat} {b : Bool} {S V : RT} {tx : Nat → Nat} {len : Nat} {su : SU} {hy : HY} {kp : KP} {ze : SE} {sd : Int64} (hI : cInv G M o b S V tx len su hy kp ze sd) {x : Int64} : Calls Γ q_X11_seed [.ref o, .long x] G M (rL (fun y M' => y = sd ∧ cInv G M' o b S V (tx) (len) (su) (hy) (kp) (ze) (x) ∧ offO o M M')) := by
  have hI0 := hI
  obtain ⟨hO, hA⟩ := hI
  have hO0 := hO
  obtain ⟨v22, v23, v24, v25, v26⟩ := cv_ok hO
  have hsd := hO.2.2.2.2.2.2.2.2
  refine Calls.intro (by decide +kernel) (Nat.le_of_ble_eq_true rfl) (fun z E h hQ => ?_)
  refine x_loc (L' := [some (.ref o), some (.long x), none, none, none]) rfl ?_
  refine x_aload_n h dX11_seed_0 rfl ?_
  refine x_getR h hO.1.1 f_X11_75 rfl (lg_runner hO.1).1 dX11_seed_1 ?_
  refine x_getL h (lg_runner hO.1).2.1 f_X11_264 rfl dX11_seed_4 ?_
  refine x_topl hsd ?_
  refine x_lstore_n h dX11_seed_7 rfl rfl ?_
  dsimp only [List.set]
  refine x_aload_n h dX11_seed_8 rfl ?_
  refine x_getR h hO.1.1 f_X11_75 rfl (lg_runner hO.1).1 dX11_seed_9 ?_
  refine x_lload_n h dX11_seed_12 rfl ?_
  refine x_putL h (lg_runner hO.1).2.1 f_X11_264 rfl rfl dX11_seed_13 ?_
  refine x_lload_n h dX11_seed_16 rfl ?_
  exact x_lret h hQ rfl dX11_seed_17 ⟨rfl, rfl, _, rfl, rfl, cInv_sd hI0 rfl (fun _ _ _ _ => rfl) (up2_self _ _ _ _) (fun a j q => up2_ne _ _ (by omega)), oO_L (oO_refl o M) _ (by omega)⟩
theorem c_X11_emptySlots {Γ : GT} {G : GG} {M : MM} {o : Nat} (g0 : G o = some (.inl 11)) (r9 : M.2.2 o 9 = .ref (o + 259)) (g9 : G (o + 259) = some (.inr (.int, 2))) : Calls Γ q_X11_emptySlots [.ref o] G M (rV (fun M' => M' = wI M (o + 259) 2 (fun _ => -1))) := by
  refine Calls.intro (by decide +kernel) (Nat.le_of_ble_eq_true rfl) (fun z E h hQ => ?_)
  refine x_loc (L' := [some (.ref o), none]) rfl ?_
  have loop : ∀ i, i ≤ 2 → X Γ E 0 0 G z (wI M (o + 259) i (fun _ => -1)) 2 [some (.ref o), some (.int (nI i))] [] := by
    refine upto 2 (fun i hi ih => ?_)
    refine x_iload_n h dX11_emptySlots_2 rfl ?_
    refine x_aload_n h dX11_emptySlots_3 rfl ?_
    refine x_getR h g0 f_X11_44 rfl r9 dX11_emptySlots_4 ?_
    refine x_alen h g9 (by decide) dX11_emptySlots_7 ?_
    refine x_icmp_ge h 24 dX11_emptySlots_8 (by decide) (fun c8 => ?_) (fun c8 => ?_)
    · obtain rfl : i = 2 := up_ge (by decide) hi c8
      exact x_vret h hQ rfl dX11_emptySlots_24 ⟨rfl, rfl, rfl, rfl⟩
    · have hlt : i < 2 := up_lt (by decide) hi c8
      refine x_aload_n h dX11_emptySlots_11 rfl ?_
      refine x_getR h g0 f_X11_44 rfl r9 dX11_emptySlots_12 ?_
      refine x_iload_n h dX11_emptySlots_15 rfl ?_
      refine x_icm1 h dX11_emptySlots_16 ?_
      refine x_iastw h i g9 (ix.ni hlt (by decide)) rfl dX11_emptySlots_17 ?_
      refine x_incn h dX11_emptySlots_18 rfl rfl rfl ?_
      dsimp only [List.set]
      refine x_goto h 2 dX11_emptySlots_21 (by decide) ?_
      exact ih hlt
  refine x_in0 h dX11_emptySlots_0 ?_
  refine x_istore_n h dX11_emptySlots_1 rfl rfl ?_
  dsimp only [List.set]
  have hl := loop 0 (by decide)
  rw [wI_0] at hl
  exact hl
theorem c_X11_remember {Γ : GT} {G : GG} {M : MM} {o : Nat} {b : Bool} {S V : RT} {tx : Nat → Nat} {len : Nat} {su : SU} {hy : HY} {kp : KP} {ze : SE} {sd : Int64} (hI : cInv G M o b S V tx len su hy kp ze sd) : Calls Γ q_X11_remember [.ref o] G M (rV (fun M' => cInv G M' o b S V (tx) (len) (su) (nteH hy su) (kp) (ze) (sd) ∧ offO o M M')) := by
  have hI0 := hI
  obtain ⟨hO, hA⟩ := hI
  have hO0 := hO
  obtain ⟨v22, v23, v24, v25, v26⟩ := cv_ok hO
  have y14 := hO.2.2.2.2.2.1.1
  have yn := hO.2.2.2.2.2.1.2.1
  have yi := hO.2.2.2.2.2.1.2.2
  have suk := hO.2.2.2.2.1.2
  refine Calls.intro (by decide +kernel) (Nat.le_of_ble_eq_true rfl) (fun z E h hQ => ?_)
  refine x_loc (L' := [some (.ref o), none]) rfl ?_
  have rest : ∀ (N : MM) (a : Nat) (l1 : Option Value), N.1 o 8 = nI a → a < 14 → N.2 = M.2 → suIs N (o + 254) su.1 su.2 → cInv G (sI (sI N (o + 258) a (nI (pkU su))) o 8 (nI (a + 1))) o b S V tx len su (nteH hy su) kp ze sd → offO o M (sI (sI N (o + 258) a (nI (pkU su))) o 8 (nI (a + 1))) → X Γ E 0 0 G z N 54 [some (.ref o), l1] [] := by
    intro N a l1 hN8 ha hN2 hsu fin1 fin2
    have hF : lgF G N.2.2 o b := by rw [hN2]; exact hO.1
    refine x_aload_n h dX11_remember_54 rfl ?_
    refine x_getIv h hF.1 f_X11_96 rfl hN8 dX11_remember_55 ?_
    refine x_if_lt h 87 dX11_remember_58 (by decide) (fun c58 => ?_) (fun c58 => ?_)
    · exact (nI_nneg (by omega) c58).elim
    · refine x_aload_n h dX11_remember_61 rfl ?_
      refine x_getR h hF.1 f_X11_40 rfl (lg_past hF).1 dX11_remember_62 ?_
      refine x_aload_n h dX11_remember_65 rfl ?_
      refine x_getIv h hF.1 f_X11_96 rfl hN8 dX11_remember_66 ?_
      refine x_aload_n h dX11_remember_69 rfl ?_
      refine x_getR h hF.1 f_X11_33 rfl (lg_setup hF).1 dX11_remember_70 ?_
      refine x_cVi h ci_X8_packed im_X8_packed l_X11_194 ⟨Nat.le_of_ble_eq_true rfl, Nat.le_of_ble_eq_true rfl⟩ ⟨rfl, rfl⟩ ⟨Nat.zero_le _, Nat.zero_le _⟩ (c_X8_packed (lg_setup hF).2 hsu) rfl rfl rfl rfl (lg_setup hF).2.1 (by decide) rfl dX11_remember_73 (fun v73 M73 hp73 => ?_)
      obtain ⟨rfl, hM⟩ := hp73
      obtain rfl := hM.symm
      clear hM
      refine x_iast h a (lg_past hF).2 (ix.ni ha (by decide)) dX11_remember_76 ?_
      refine x_aload_n h dX11_remember_77 rfl ?_
      refine x_dup h rfl dX11_remember_78 ?_
      refine x_getIv h hF.1 f_X11_96 rfl ((up2_ne _ _ (by omega)).trans hN8) dX11_remember_79 ?_
      refine x_in1 h dX11_remember_82 ?_
      refine x_iaddn h dX11_remember_83 ?_
      refine x_putI h hF.1 f_X11_96 rfl rfl dX11_remember_84 ?_
      exact x_vret h hQ rfl dX11_remember_87 ⟨rfl, rfl, rfl, fin1, fin2⟩
  have loop : ∀ i, i ≤ 13 → hy.1 = 14 → X Γ E 0 0 G z (wI M (o + 258) i (fun j => M.1 (o + 258) (j + 1))) 14 [some (.ref o), some (.int (nI (i + 1)))] [] := by
    refine upto 13 (fun i hi ih h14 => ?_)
    refine x_iload_n h dX11_remember_14 rfl ?_
    refine x_aload_n h dX11_remember_15 rfl ?_
    refine x_getR h hO.1.1 f_X11_40 rfl (lg_past hO.1).1 dX11_remember_16 ?_
    refine x_alen h (lg_past hO.1).2 (by decide) dX11_remember_19 ?_
    refine x_icmp_ge h 43 dX11_remember_20 (by decide) (fun c20 => ?_) (fun c20 => ?_)
    · obtain rfl : i = 13 := by
        have := (nI_le_iff (by decide) (by omega)).mp c20
        omega
      refine x_aload_n h dX11_remember_43 rfl ?_
      refine x_aload_n h dX11_remember_44 rfl ?_
      refine x_getR h hO.1.1 f_X11_40 rfl (lg_past hO.1).1 dX11_remember_45 ?_
      refine x_alen h (lg_past hO.1).2 (by decide) dX11_remember_48 ?_
      refine x_in1 h dX11_remember_49 ?_
      refine x_isub h dX11_remember_50 ?_
      refine x_topi (y := nI 13) (by decide) ?_
      refine x_putI h hO.1.1 f_X11_96 rfl rfl dX11_remember_51 ?_
      have e8 : ¬ hy.1 < 14 := by omega
      refine rest _ 13 _ (up2_self _ _ _ _) (by decide) rfl ⟨?_, ?_, ?_, ?_⟩ ?_ (oO_I (oO_I (oO_I (oO_wI (oO_refl o M) _ (by omega)) _ (by omega)) _ (by omega)) _ (by omega))
      · exact (up2_ne _ _ (by omega)).trans ((wI_ne _ _ _ _ (by omega)).trans hO0.2.2.2.2.1.1.1)
      · exact (up2_ne _ _ (by omega)).trans ((wI_ne _ _ _ _ (by omega)).trans hO0.2.2.2.2.1.1.2.1)
      · exact (up2_ne _ _ (by omega)).trans ((wI_ne _ _ _ _ (by omega)).trans hO0.2.2.2.2.1.1.2.2.1)
      · exact (up2_ne _ _ (by omega)).trans ((wI_ne _ _ _ _ (by omega)).trans hO0.2.2.2.2.1.1.2.2.2)
      have ee : ∀ a j, a ≠ o + 258 → ¬ (a = o ∧ j = 8) → (sI (sI (sI (wI M (o + 258) 13 (fun j => M.1 (o + 258) (j + 1))) o 8 (nI 13)) (o + 258) 13 (nI (pkU su))) o 8 (nI (13 + 1))).1 a j = M.1 a j := fun a j q1 q2 => (up2_ne _ _ q2).trans ((up2_ne _ _ (by omega)).trans ((up2_ne _ _ q2).trans (wI_ne _ _ _ _ q1)))
      refine cInv_I hI0 rfl (fun a j q => ee _ _ (by omega) (by omega)) (cTx_cg hO0.2.1 (ee _ _ (by omega) (by omega)) (fun j => ee _ _ (by omega) (by omega))) (cSu_cg hO0.2.2.2.2.1 (fun a j q => ee _ _ (by omega) (by omega))) ?_ (cKp_cg hO0.2.2.2.2.2.2.1 (fun j => ee _ _ (by omega) (by omega))) (cSe_cg hO0.2.2.2.2.2.2.2.1 (ee _ _ (by omega) (by omega)) (fun a j q => ee _ _ (by omega) (by omega)))
      unfold nteH
      rw [if_neg e8]
      refine ⟨Nat.le_refl _, up2_self _ _ _ _, fun i hi => ?_⟩
      have hi2 : i < 14 := hi
      show _ = nI (pkU (if i = 13 then su else hy.2 (i + 1))) ∧ suOk _ (if i = 13 then su else hy.2 (i + 1))
      by_cases q : i = 13
      · rw [if_pos q, q]
        exact ⟨(up2_ne _ _ (by omega)).trans (up2_self _ _ _ _), suk⟩
      · rw [if_neg q]
        refine ⟨(up2_ne _ _ (by omega)).trans ((up2_ne _ _ (by omega)).trans ((up2_ne _ _ (by omega)).trans ((wI_at _ _ _ _ _).trans ?_))), (yi (i + 1) (by omega)).2⟩
        rw [if_pos (by omega)]
        exact (yi (i + 1) (by omega)).1
    · have hlt : i < 13 := by
        have := mt (nI_le_iff (by decide) (by omega)).mpr c20
        omega
      refine x_aload_n h dX11_remember_23 rfl ?_
      refine x_getR h hO.1.1 f_X11_40 rfl (lg_past hO.1).1 dX11_remember_24 ?_
      refine x_iload_n h dX11_remember_27 rfl ?_
      refine x_in1 h dX11_remember_28 ?_
      refine x_isubn h (show 1 ≤ i + 1 by omega) dX11_remember_29 ?_
      refine x_aload_n h dX11_remember_30 rfl ?_
      refine x_getR h hO.1.1 f_X11_40 rfl (lg_past hO.1).1 dX11_remember_31 ?_
      refine x_iload_n h dX11_remember_34 rfl ?_
      refine x_ialdv h (i + 1) (lg_past hO.1).2 (ix.ni (by omega) (by decide)) (show _ = (fun j => M.1 (o + 258) (j + 1)) i from wI_ge _ _ _ _ _ (by omega)) dX11_remember_35 ?_
      refine x_iastw h i (lg_past hO.1).2 (show ix (nI (i + 1 - 1)) i 14 by rw [Nat.add_sub_cancel]; exact ix.ni (by omega) (by decide)) rfl dX11_remember_36 ?_
      refine x_incn h dX11_remember_37 rfl rfl rfl ?_
      dsimp only [List.set]
      refine x_goto h 14 dX11_remember_40 (by decide) ?_
      exact ih hlt h14
  refine x_aload_n h dX11_remember_0 rfl ?_
  refine x_getIv h hO.1.1 f_X11_96 rfl hO.2.2.2.2.2.1.2.1 dX11_remember_1 ?_
  refine x_aload_n h dX11_remember_4 rfl ?_
  refine x_getR h hO.1.1 f_X11_40 rfl (lg_past hO.1).1 dX11_remember_5 ?_
  refine x_alen h (lg_past hO.1).2 (by decide) dX11_remember_8 ?_
  refine x_icmp_lt h 54 dX11_remember_9 (by decide) (fun c9 => ?_) (fun c9 => ?_)
  · have hlt := (nI_lt_iff (by omega) (by decide)).mp c9
    have e8 : hy.1 < 14 := hlt
    refine rest M hy.1 _ yn hlt rfl hO0.2.2.2.2.1.1 ?_ (oO_I (oO_I (oO_refl o M) _ (by omega)) _ (by omega))
    refine (cInv_I hI0 rfl (fun a j q => by simp only [sI, up2]; rw [if_neg (by omega), if_neg (by omega)]) (cTx_cg hO0.2.1 (by simp only [sI, up2]; rw [if_neg (by omega), if_neg (by omega)]) (fun j => by simp only [sI, up2]; rw [if_neg (by omega), if_neg (by omega)])) (cSu_cg hO0.2.2.2.2.1 (fun a j q => by simp only [sI, up2]; rw [if_neg (by omega), if_neg (by omega)])) ?_ (cKp_cg hO0.2.2.2.2.2.2.1 (fun j => by simp only [sI, up2]; rw [if_neg (by omega), if_neg (by omega)])) (cSe_cg hO0.2.2.2.2.2.2.2.1 (by simp only [sI, up2]; rw [if_neg (by omega), if_neg (by omega)]) (fun a j q => by simp only [sI, up2]; rw [if_neg (by omega), if_neg (by omega)])))
    unfold nteH
    rw [if_pos e8]
    refine ⟨by show hy.1 + 1 ≤ 14; omega, up2_self _ _ _ _, fun i hi => ?_⟩
    have hi2 : i < hy.1 + 1 := hi
    show _ = nI (pkU (if i = hy.1 then su else hy.2 i)) ∧ suOk _ (if i = hy.1 then su else hy.2 i)
    by_cases q : i = hy.1
    · rw [if_pos q, q]
      exact ⟨(up2_ne _ _ (by omega)).trans (up2_self _ _ _ _), suk⟩
    · rw [if_neg q]
      exact ⟨((up2_ne _ _ (by omega)).trans (up2_ne _ _ (by omega))).trans (yi i (by omega)).1, (yi i (by omega)).2⟩
  · have hge := mt (nI_lt_iff (by omega) (by decide)).mpr c9
    have h14 : hy.1 = 14 := by omega
    refine x_in1 h dX11_remember_12 ?_
    refine x_istore_n h dX11_remember_13 rfl rfl ?_
    dsimp only [List.set]
    have hl := loop 0 (by decide) h14
    rw [wI_0] at hl
    exact hl
theorem c_X11_begin_0 {Γ : GT} {G : GG} {M : MM} {o : Nat} {b : Bool} {S V : RT} {tx : Nat → Nat} {len : Nat} {su : SU} {hy : HY} {kp : KP} {ze : SE} {sd : Int64} (hI : cInv G M o b S V tx len su hy kp ze sd) {x w : Int32} (hx : ∀ n, n < 3 → x ≠ nI n) : Calls Γ q_X11_begin [.ref o, .int x, .int w] G M (rI (fun y M' => y = -1 ∧ cInv G M' o b S V (tx) (len) (su) (hy) (kp) (ze) (sd) ∧ offO o M M')) := by
  have hI0 := hI
  obtain ⟨hO, hA⟩ := hI
  have hO0 := hO
  obtain ⟨v22, v23, v24, v25, v26⟩ := cv_ok hO
  refine Calls.intro (by decide +kernel) (Nat.le_of_ble_eq_true rfl) (fun z E h hQ => ?_)
  refine x_loc (L' := [some (.ref o), some (.int x), some (.int w), none]) rfl ?_
  refine x_iload_n h dX11_begin_0 rfl ?_
  refine x_if_lt h 16 dX11_begin_1 (by decide) (fun c1 => ?_) (fun c1 => ?_)
  · refine x_icm1 h dX11_begin_16 ?_
    exact x_iret h hQ rfl dX11_begin_17 ⟨rfl, rfl, _, rfl, rfl, hI0, oO_refl o M⟩
  · refine x_iload_n h dX11_begin_4 rfl ?_
    refine x_aload_n h dX11_begin_5 rfl ?_
    refine x_getR h hO.1.1 f_X11_33 rfl (lg_setup hO.1).1 dX11_begin_6 ?_
    refine x_getR h (lg_setup hO.1).2.1 f_X11_188 rfl (lg_setup hO.1).2.2.1 dX11_begin_9 ?_
    refine x_alen h (lg_setup hO.1).2.2.2 (by decide) dX11_begin_12 ?_
    refine x_icmp_lt h 18 dX11_begin_13 (by decide) (fun c13 => ?_) (fun c13 => ?_)
    · exact absurd c13 (rng_lt (by decide) hx c1)
    · refine x_icm1 h dX11_begin_16 ?_
      exact x_iret h hQ rfl dX11_begin_17 ⟨rfl, rfl, _, rfl, rfl, hI0, oO_refl o M⟩
theorem c_X11_begin_1 {Γ : GT} {G : GG} {M : MM} {o : Nat} {b : Bool} {S V : RT} {tx : Nat → Nat} {len : Nat} {su : SU} {hy : HY} {kp : KP} {ze : SE} {sd : Int64} (hI : cInv G M o b S V tx len su hy kp ze sd) {n : Nat} {w : Int32} (hn : n < 3) (hw : ∀ n, n < 7 → w ≠ nI n) : Calls Γ q_X11_begin [.ref o, .int (nI n), .int w] G M (rI (fun y M' => y = -2 ∧ cInv G M' o b S V (tx) (len) (su) (hy) (kp) (ze) (sd) ∧ offO o M M')) := by
  have hI0 := hI
  obtain ⟨hO, hA⟩ := hI
  have hO0 := hO
  obtain ⟨v22, v23, v24, v25, v26⟩ := cv_ok hO
  refine Calls.intro (by decide +kernel) (Nat.le_of_ble_eq_true rfl) (fun z E h hQ => ?_)
  refine x_loc (L' := [some (.ref o), some (.int (nI n)), some (.int w), none]) rfl ?_
  refine x_iload_n h dX11_begin_0 rfl ?_
  refine x_if_lt h 16 dX11_begin_1 (by decide) (fun c1 => ?_) (fun c1 => ?_)
  · exact (nI_nneg (by omega) c1).elim
  · refine x_iload_n h dX11_begin_4 rfl ?_
    refine x_aload_n h dX11_begin_5 rfl ?_
    refine x_getR h hO.1.1 f_X11_33 rfl (lg_setup hO.1).1 dX11_begin_6 ?_
    refine x_getR h (lg_setup hO.1).2.1 f_X11_188 rfl (lg_setup hO.1).2.2.1 dX11_begin_9 ?_
    refine x_alen h (lg_setup hO.1).2.2.2 (by decide) dX11_begin_12 ?_
    refine x_icmp_lt h 18 dX11_begin_13 (by decide) (fun c13 => ?_) (fun c13 => ?_)
    · refine x_iload_n h dX11_begin_18 rfl ?_
      refine x_if_lt h 28 dX11_begin_19 (by decide) (fun c19 => ?_) (fun c19 => ?_)
      · refine x_bipush h (-2) (by decide) dX11_begin_28 ?_
        exact x_iret h hQ rfl dX11_begin_30 ⟨rfl, rfl, _, rfl, rfl, hI0, oO_refl o M⟩
      · refine x_iload_n h dX11_begin_22 rfl ?_
        refine x_bipush h (nI 6) (by decide) dX11_begin_23 ?_
        refine x_icmp_le h 31 dX11_begin_25 (by decide) (fun c25 => ?_) (fun c25 => ?_)
        · exact absurd c25 (rng_le (by decide) hw c19)
        · refine x_bipush h (-2) (by decide) dX11_begin_28 ?_
          exact x_iret h hQ rfl dX11_begin_30 ⟨rfl, rfl, _, rfl, rfl, hI0, oO_refl o M⟩
    · exact absurd ((nI_lt_iff (by omega) (by omega)).mpr (by omega)) c13
theorem c_X11_begin_2 {Γ : GT} {G : GG} {M : MM} {o : Nat} {b : Bool} {S V : RT} {tx : Nat → Nat} {len : Nat} {su : SU} {hy : HY} {kp : KP} {ze : SE} {sd : Int64} (hI : cInv G M o b S V tx len su hy kp ze sd) {n w : Nat} (hn : n < 3) (hw : w < 7) : Calls Γ q_X11_begin [.ref o, .int (nI n), .int (nI w)] G M (rI (fun y M' => y = nI (su.1 n) ∧ cInv G M' o b S V (tx) (len) ((upN su.1 n w, su.2)) (nteH hy su) (kp) (ze) (sd) ∧ offO o M M')) := by
  have hI0 := hI
  obtain ⟨hO, hA⟩ := hI
  have hO0 := hO
  obtain ⟨v22, v23, v24, v25, v26⟩ := cv_ok hO
  refine Calls.intro (by decide +kernel) (Nat.le_of_ble_eq_true rfl) (fun z E h hQ => ?_)
  refine x_loc (L' := [some (.ref o), some (.int (nI n)), some (.int (nI w)), none]) rfl ?_
  refine x_iload_n h dX11_begin_0 rfl ?_
  refine x_if_lt h 16 dX11_begin_1 (by decide) (fun c1 => ?_) (fun c1 => ?_)
  · exact (nI_nneg (by omega) c1).elim
  · refine x_iload_n h dX11_begin_4 rfl ?_
    refine x_aload_n h dX11_begin_5 rfl ?_
    refine x_getR h hO.1.1 f_X11_33 rfl (lg_setup hO.1).1 dX11_begin_6 ?_
    refine x_getR h (lg_setup hO.1).2.1 f_X11_188 rfl (lg_setup hO.1).2.2.1 dX11_begin_9 ?_
    refine x_alen h (lg_setup hO.1).2.2.2 (by decide) dX11_begin_12 ?_
    refine x_icmp_lt h 18 dX11_begin_13 (by decide) (fun c13 => ?_) (fun c13 => ?_)
    · refine x_iload_n h dX11_begin_18 rfl ?_
      refine x_if_lt h 28 dX11_begin_19 (by decide) (fun c19 => ?_) (fun c19 => ?_)
      · exact (nI_nneg (by omega) c19).elim
      · refine x_iload_n h dX11_begin_22 rfl ?_
        refine x_bipush h (nI 6) (by decide) dX11_begin_23 ?_
        refine x_icmp_le h 31 dX11_begin_25 (by decide) (fun c25 => ?_) (fun c25 => ?_)
        · refine x_aload_n h dX11_begin_31 rfl ?_
          refine x_getR h hO.1.1 f_X11_33 rfl (lg_setup hO.1).1 dX11_begin_32 ?_
          refine x_getR h (lg_setup hO.1).2.1 f_X11_188 rfl (lg_setup hO.1).2.2.1 dX11_begin_35 ?_
          refine x_iload_n h dX11_begin_38 rfl ?_
          refine x_ialdv h n (lg_setup hO.1).2.2.2 (ix.ni hn (by decide)) (show _ = nI (su.1 n) from su_at hO.2.2.2.2.1.1 hn) dX11_begin_39 ?_
          refine x_istore_n h dX11_begin_40 rfl rfl ?_
          dsimp only [List.set]
          refine x_aload_n h dX11_begin_41 rfl ?_
          refine x_cVv h ci_X11_remember im_X11_remember l_X11_191 ⟨Nat.le_of_ble_eq_true rfl, Nat.le_of_ble_eq_true rfl⟩ ⟨rfl, rfl⟩ ⟨Nat.zero_le _, Nat.zero_le _⟩ (c_X11_remember hI0) rfl rfl rfl rfl hO.1.1 (by decide) rfl dX11_begin_42 (fun M42 hp42 => ?_)
          obtain ⟨hI1, ho1⟩ := hp42
          have hO := hI1.1
          refine x_aload_n h dX11_begin_45 rfl ?_
          refine x_getR h hO.1.1 f_X11_33 rfl (lg_setup hO.1).1 dX11_begin_46 ?_
          refine x_getR h (lg_setup hO.1).2.1 f_X11_188 rfl (lg_setup hO.1).2.2.1 dX11_begin_49 ?_
          refine x_iload_n h dX11_begin_52 rfl ?_
          refine x_iload_n h dX11_begin_53 rfl ?_
          refine x_iast h n (lg_setup hO.1).2.2.2 (ix.ni hn (by decide)) dX11_begin_54 ?_
          refine x_iload_n h dX11_begin_55 rfl ?_
          exact x_iret h hQ rfl dX11_begin_56 ⟨rfl, rfl, _, rfl, rfl, (cInv_I hI1 rfl (fun a j q => by simp only [sI, up2]; rw [if_neg (by omega)]) (cTx_cg hO.2.1 (by simp only [sI, up2]; rw [if_neg (by omega)]) (fun j => by simp only [sI, up2]; rw [if_neg (by omega)])) ⟨suIs_up hO.2.2.2.2.1.1 hn, suOk_up hO.2.2.2.2.1.2 (by omega)⟩ (cHy_cg hO.2.2.2.2.2.1 (by simp only [sI, up2]; rw [if_neg (by omega)]) (fun j => by simp only [sI, up2]; rw [if_neg (by omega)])) (cKp_cg hO.2.2.2.2.2.2.1 (fun j => by simp only [sI, up2]; rw [if_neg (by omega)])) (cSe_cg hO.2.2.2.2.2.2.2.1 (by simp only [sI, up2]; rw [if_neg (by omega)]) (fun a j q => by simp only [sI, up2]; rw [if_neg (by omega)]))), oO_I ho1 _ (by omega)⟩
        · exact absurd ((nI_le_iff (by omega) (by omega)).mpr (by omega)) c25
    · exact absurd ((nI_lt_iff (by omega) (by omega)).mpr (by omega)) c13
theorem c_X11_turn_0 {Γ : GT} {G : GG} {M : MM} {o : Nat} {b : Bool} {S V : RT} {tx : Nat → Nat} {len : Nat} {su : SU} {hy : HY} {kp : KP} {ze : SE} {sd : Int64} (hI : cInv G M o b S V tx len su hy kp ze sd) {x : Int32} (hx : ∀ n, n < V 0 26 → x ≠ nI n) : Calls Γ q_X11_turn [.ref o, .int x] G M (rI (fun y M' => y = -1 ∧ cInv G M' o b S V (tx) (len) (su) (hy) (kp) (ze) (sd) ∧ offO o M M')) := by
  have hI0 := hI
  obtain ⟨hO, hA⟩ := hI
  have hO0 := hO
  obtain ⟨v22, v23, v24, v25, v26⟩ := cv_ok hO
  refine Calls.intro (by decide +kernel) (Nat.le_of_ble_eq_true rfl) (fun z E h hQ => ?_)
  refine x_loc (L' := [some (.ref o), some (.int x)]) rfl ?_
  refine x_iload_n h dX11_turn_0 rfl ?_
  refine x_if_lt h 15 dX11_turn_1 (by decide) (fun c1 => ?_) (fun c1 => ?_)
  · refine x_icm1 h dX11_turn_15 ?_
    exact x_iret h hQ rfl dX11_turn_16 ⟨rfl, rfl, _, rfl, rfl, hI0, oO_refl o M⟩
  · refine x_iload_n h dX11_turn_4 rfl ?_
    refine x_aload_n h dX11_turn_5 rfl ?_
    refine x_getR h hO.1.1 f_X11_23 rfl (lg_code hO.1).1 dX11_turn_6 ?_
    refine x_getIv h (lg_code hO.1).2.1 f_X11_114 rfl (cv_g hO) dX11_turn_9 ?_
    refine x_icmp_lt h 17 dX11_turn_12 (by decide) (fun c12 => ?_) (fun c12 => ?_)
    · exact absurd c12 (rng_lt (by omega) hx c1)
    · refine x_icm1 h dX11_turn_15 ?_
      exact x_iret h hQ rfl dX11_turn_16 ⟨rfl, rfl, _, rfl, rfl, hI0, oO_refl o M⟩
theorem c_X11_turn_1 {Γ : GT} {G : GG} {M : MM} {o : Nat} {b : Bool} {S V : RT} {tx : Nat → Nat} {len : Nat} {su : SU} {hy : HY} {kp : KP} {ze : SE} {sd : Int64} (hI : cInv G M o b S V tx len su hy kp ze sd) {n : Nat} (hn : n < V 0 26) : Calls Γ q_X11_turn [.ref o, .int (nI n)] G M (rI (fun y M' => y = nI (if (su.2 ^^^ 2 ^ n).testBit n then 1 else 0) ∧ cInv G M' o b S V (tx) (len) ((su.1, su.2 ^^^ 2 ^ n)) (nteH hy su) (kp) (ze) (sd) ∧ offO o M M')) := by
  have hI0 := hI
  obtain ⟨hO, hA⟩ := hI
  have hO0 := hO
  obtain ⟨v22, v23, v24, v25, v26⟩ := cv_ok hO
  have s32 := cv_32 hO
  have suk := hO.2.2.2.2.1.2
  have x32 : su.2 ^^^ 2 ^ n < 2 ^ V 0 26 := Nat.xor_lt_two_pow suk.2 (Nat.pow_lt_pow_right (by decide) hn)
  have x5 := pow_le32 v26
  refine Calls.intro (by decide +kernel) (Nat.le_of_ble_eq_true rfl) (fun z E h hQ => ?_)
  refine x_loc (L' := [some (.ref o), some (.int (nI n))]) rfl ?_
  refine x_iload_n h dX11_turn_0 rfl ?_
  refine x_if_lt h 15 dX11_turn_1 (by decide) (fun c1 => ?_) (fun c1 => ?_)
  · exact (nI_nneg (by omega) c1).elim
  · refine x_iload_n h dX11_turn_4 rfl ?_
    refine x_aload_n h dX11_turn_5 rfl ?_
    refine x_getR h hO.1.1 f_X11_23 rfl (lg_code hO.1).1 dX11_turn_6 ?_
    refine x_getIv h (lg_code hO.1).2.1 f_X11_114 rfl (cv_g hO) dX11_turn_9 ?_
    refine x_icmp_lt h 17 dX11_turn_12 (by decide) (fun c12 => ?_) (fun c12 => ?_)
    · refine x_aload_n h dX11_turn_17 rfl ?_
      refine x_cVv h ci_X11_remember im_X11_remember l_X11_191 ⟨Nat.le_of_ble_eq_true rfl, Nat.le_of_ble_eq_true rfl⟩ ⟨rfl, rfl⟩ ⟨Nat.zero_le _, Nat.zero_le _⟩ (c_X11_remember hI0) rfl rfl rfl rfl hO.1.1 (by decide) rfl dX11_turn_18 (fun M18 hp18 => ?_)
      obtain ⟨hI1, ho1⟩ := hp18
      have hO := hI1.1
      refine x_aload_n h dX11_turn_21 rfl ?_
      refine x_getR h hO.1.1 f_X11_33 rfl (lg_setup hO.1).1 dX11_turn_22 ?_
      refine x_dup h rfl dX11_turn_25 ?_
      refine x_getIv h (lg_setup hO.1).2.1 f_X11_117 rfl hO.2.2.2.2.1.1.2.2.2 dX11_turn_26 ?_
      refine x_in1 h dX11_turn_29 ?_
      refine x_iload_n h dX11_turn_30 rfl ?_
      refine x_ishl h dX11_turn_31 ?_
      refine x_topi (shl1 n (by omega)) ?_
      refine x_ixor h dX11_turn_32 ?_
      refine x_topi (fa_xor su.2 (2 ^ n)) ?_
      refine x_putI h (lg_setup hO.1).2.1 f_X11_117 rfl rfl dX11_turn_33 ?_
      refine x_aload_n h dX11_turn_36 rfl ?_
      refine x_getR h hO.1.1 f_X11_33 rfl (lg_setup hO.1).1 dX11_turn_37 ?_
      refine x_getIv h (lg_setup hO.1).2.1 f_X11_117 rfl (up2_self _ _ _ _) dX11_turn_40 ?_
      refine x_iload_n h dX11_turn_43 rfl ?_
      refine x_ishr h dX11_turn_44 ?_
      refine x_in1 h dX11_turn_45 ?_
      refine x_iand h dX11_turn_46 ?_
      exact x_iret h hQ rfl dX11_turn_47 ⟨rfl, rfl, _, rfl, bit5 _ (by omega) n (by omega), (cInv_I hI1 rfl (fun a j q => by simp only [sI, up2]; rw [if_neg (by omega)]) (cTx_cg hO.2.1 (by simp only [sI, up2]; rw [if_neg (by omega)]) (fun j => by simp only [sI, up2]; rw [if_neg (by omega)])) ⟨⟨(up2_ne _ _ (by omega)).trans hO.2.2.2.2.1.1.1, (up2_ne _ _ (by omega)).trans hO.2.2.2.2.1.1.2.1, (up2_ne _ _ (by omega)).trans hO.2.2.2.2.1.1.2.2.1, up2_self _ _ _ _⟩, ⟨suk.1, x32⟩⟩ (cHy_cg hO.2.2.2.2.2.1 (by simp only [sI, up2]; rw [if_neg (by omega)]) (fun j => by simp only [sI, up2]; rw [if_neg (by omega)])) (cKp_cg hO.2.2.2.2.2.2.1 (fun j => by simp only [sI, up2]; rw [if_neg (by omega)])) (cSe_cg hO.2.2.2.2.2.2.2.1 (by simp only [sI, up2]; rw [if_neg (by omega)]) (fun a j q => by simp only [sI, up2]; rw [if_neg (by omega)]))), oO_I ho1 _ (by omega)⟩
    · exact absurd ((nI_lt_iff (by omega) (by omega)).mpr (by omega)) c12
theorem c_X11_undo {Γ : GT} {G : GG} {M : MM} {o : Nat} {b : Bool} {S V : RT} {tx : Nat → Nat} {len : Nat} {su : SU} {hy : HY} {kp : KP} {ze : SE} {sd : Int64} (hI : cInv G M o b S V tx len su hy kp ze sd) : Calls Γ q_X11_undo [.ref o] G M (rI (fun y M' => y = (if hy.1 = 0 then -3 else nI (hy.1 - 1)) ∧ cInv G M' o b S V (tx) (len) (if hy.1 = 0 then su else hy.2 (hy.1 - 1)) ((hy.1 - 1, hy.2)) (kp) (ze) (sd) ∧ offO o M M')) := by
  have hI0 := hI
  obtain ⟨hO, hA⟩ := hI
  have hO0 := hO
  obtain ⟨v22, v23, v24, v25, v26⟩ := cv_ok hO
  have y14 := hO.2.2.2.2.2.1.1
  have yn := hO.2.2.2.2.2.1.2.1
  have yi := hO.2.2.2.2.2.1.2.2
  refine Calls.intro (by decide +kernel) (Nat.le_of_ble_eq_true rfl) (fun z E h hQ => ?_)
  refine x_loc (L' := [some (.ref o)]) rfl ?_
  refine x_aload_n h dX11_undo_0 rfl ?_
  refine x_getIv h hO.1.1 f_X11_96 rfl hO.2.2.2.2.2.1.2.1 dX11_undo_1 ?_
  refine x_in1 h dX11_undo_4 ?_
  refine x_icmp_lt h 20 dX11_undo_5 (by decide) (fun c5 => ?_) (fun c5 => ?_)
  · have h0 : hy.1 = 0 := by
      have := (nI_lt_iff (by omega) (by decide)).mp c5
      omega
    refine x_bipush h (-3) (by decide) dX11_undo_20 ?_
    exact x_iret h hQ rfl dX11_undo_22 ⟨rfl, rfl, _, rfl, (if_pos h0).symm, (by rw [if_pos h0]; exact cInv_I hI0 rfl (fun _ _ _ => rfl) hO0.2.1 hO0.2.2.2.2.1 ⟨by show hy.1 - 1 ≤ 14; omega, by show M.1 o 8 = nI (hy.1 - 1); rw [yn, h0], fun i hi => absurd hi (by show ¬ i < hy.1 - 1; omega)⟩ hO0.2.2.2.2.2.2.1 hO0.2.2.2.2.2.2.2.1), oO_refl o M⟩
  · have h0 : ¬ hy.1 = 0 := by
      have := mt (nI_lt_iff (by omega) (by decide)).mpr c5
      omega
    have yk := yi (hy.1 - 1) (by omega)
    have pl := pkU_lt yk.2 v26
    have un := unpk yk.2 v26 (sI M o 8 (nI (hy.1 - 1))) (o + 254)
    refine x_aload_n h dX11_undo_8 rfl ?_
    refine x_getIv h hO.1.1 f_X11_96 rfl hO.2.2.2.2.2.1.2.1 dX11_undo_9 ?_
    refine x_aload_n h dX11_undo_12 rfl ?_
    refine x_getR h hO.1.1 f_X11_40 rfl (lg_past hO.1).1 dX11_undo_13 ?_
    refine x_alen h (lg_past hO.1).2 (by decide) dX11_undo_16 ?_
    refine x_icmp_le h 23 dX11_undo_17 (by decide) (fun c17 => ?_) (fun c17 => ?_)
    · refine x_aload_n h dX11_undo_23 rfl ?_
      refine x_dup h rfl dX11_undo_24 ?_
      refine x_getIv h hO.1.1 f_X11_96 rfl hO.2.2.2.2.2.1.2.1 dX11_undo_25 ?_
      refine x_in1 h dX11_undo_28 ?_
      refine x_isubn h (show 1 ≤ hy.1 by omega) dX11_undo_29 ?_
      refine x_putI h hO.1.1 f_X11_96 rfl rfl dX11_undo_30 ?_
      refine x_aload_n h dX11_undo_33 rfl ?_
      refine x_getR h hO.1.1 f_X11_33 rfl (lg_setup hO.1).1 dX11_undo_34 ?_
      refine x_aload_n h dX11_undo_37 rfl ?_
      refine x_getR h hO.1.1 f_X11_40 rfl (lg_past hO.1).1 dX11_undo_38 ?_
      refine x_aload_n h dX11_undo_41 rfl ?_
      refine x_getIv h hO.1.1 f_X11_96 rfl (up2_self _ _ _ _) dX11_undo_42 ?_
      refine x_ialdv h (hy.1 - 1) (lg_past hO.1).2 (ix.ni (by omega) (by decide)) (show _ = nI (pkU (hy.2 (hy.1 - 1))) from (up2_ne _ _ (by omega)).trans yk.1) dX11_undo_45 ?_
      refine x_cVv h ci_X8_unpack im_X8_unpack l_X11_197 ⟨Nat.le_of_ble_eq_true rfl, Nat.le_of_ble_eq_true rfl⟩ ⟨rfl, rfl⟩ ⟨Nat.zero_le _, Nat.zero_le _⟩ (c_X8_unpack (M := sI M o 8 (nI (hy.1 - 1))) (lg_setup hO.1).2 (p := pkU (hy.2 (hy.1 - 1))) (by omega)) rfl rfl rfl rfl (lg_setup hO.1).2.1 (by decide) rfl dX11_undo_46 (fun M46 hp46 => ?_)
      subst hp46
      refine x_aload_n h dX11_undo_49 rfl ?_
      refine x_getIv h hO.1.1 f_X11_96 rfl (show _ = nI (hy.1 - 1) from (setSu_ne (by omega) (by omega)).trans (up2_self _ _ _ _)) dX11_undo_50 ?_
      refine x_iret h hQ rfl dX11_undo_53 ?_
      rw [if_neg h0, if_neg h0]
      exact ⟨rfl, rfl, _, rfl, rfl, cInv_I hI0 rfl (fun a j q => (setSu_ne (by omega) (by omega)).trans (up2_ne _ _ (by omega))) (cTx_cg hO0.2.1 ((setSu_ne (by omega) (by omega)).trans (up2_ne _ _ (by omega))) (fun j => (setSu_ne (by omega) (by omega)).trans (up2_ne _ _ (by omega)))) ⟨un, yk.2⟩ ⟨by show hy.1 - 1 ≤ 14; omega, (setSu_ne (by omega) (by omega)).trans (up2_self _ _ _ _), fun i hi => ⟨((setSu_ne (by omega) (by omega)).trans (up2_ne _ _ (by omega))).trans (yi i (by have : i < hy.1 - 1 := hi; omega)).1, (yi i (by have : i < hy.1 - 1 := hi; omega)).2⟩⟩ (cKp_cg hO0.2.2.2.2.2.2.1 (fun j => (setSu_ne (by omega) (by omega)).trans (up2_ne _ _ (by omega)))) (cSe_cg hO0.2.2.2.2.2.2.2.1 ((setSu_ne (by omega) (by omega)).trans (up2_ne _ _ (by omega))) (fun a j q => (setSu_ne (by omega) (by omega)).trans (up2_ne _ _ (by omega)))), oO_su (oO_I (oO_refl o M) _ (by omega)) _ _ (by omega)⟩
    · exact absurd ((nI_le_iff (by omega) (by omega)).mpr (by omega)) c17
