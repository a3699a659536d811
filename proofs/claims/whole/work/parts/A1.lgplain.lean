/-! ===== LoopGuesses: the plain calls ===== -/
theorem rng_lt {x : Int32} {b : Nat} (hb : b < 2 ^ 31) (h : ∀ n, n < b → x ≠ nI n) (h0 : ¬ x < 0) : ¬ x < nI b := fun q => by
  have a : 0 ≤ x.toInt := by
    have := mt Int32.lt_iff_toInt_lt.mpr h0
    have e0 : (0 : Int32).toInt = 0 := by decide
    omega
  have q2 := Int32.lt_iff_toInt_lt.mp q
  rw [nI_toInt hb] at q2
  exact h _ (by omega) (i32_nat a)
theorem rng_le {x : Int32} {b : Nat} (hb : b + 1 < 2 ^ 31) (h : ∀ n, n < b + 1 → x ≠ nI n) (h0 : ¬ x < 0) : ¬ x ≤ nI b := fun q => by
  refine rng_lt hb h h0 ?_
  have q2 := Int32.le_iff_toInt_le.mp q
  rw [nI_toInt (by omega)] at q2
  rw [Int32.lt_iff_toInt_lt, nI_toInt hb]
  omega
theorem i2c_ok : ∀ n, n < 256 → ((nI n).toUInt32 % 65536).toInt32 = nI n := by decide +kernel
theorem nar_ok : ∀ n, n < 256 → (nI n).toUInt32.toUInt16.toUInt32.toInt32 = nI n := by decide +kernel
theorem suIs_up {M : MM} {u : Nat} {t : Nat → Nat} {off v x : Nat} (h : suIs M u t off) (hv : v < 3) : suIs (sI M (u + 1) v (nI x)) u (upN t v x) off := by
  obtain ⟨a, b, c, d⟩ := h
  have key : ∀ k, k < 3 → M.1 (u + 1) k = nI (t k) → (sI M (u + 1) v (nI x)).1 (u + 1) k = nI (upN t v x k) := fun k hk e => by
    by_cases q : k = v
    · rw [q, upN_at]; exact up2_self _ _ _ _
    · rw [upN_ne _ _ q]; exact (up2_ne _ _ (fun z => q z.2)).trans e
  exact ⟨key 0 (by decide) a, key 1 (by decide) b, key 2 (by decide) c, (up2_ne _ _ (by omega)).trans d⟩
theorem suOk_up {ng : Nat} {s : SU} {v x : Nat} (h : suOk ng s) (hx : x ≤ 6) : suOk ng (upN s.1 v x, s.2) := ⟨fun k hk => by
    show upN s.1 v x k ≤ 6
    by_cases q : k = v
    · rw [q, upN_at]; exact hx
    · rw [upN_ne _ _ q]; exact h.1 k hk, h.2⟩
theorem pkU_lt {ng : Nat} {s : SU} (h : suOk ng s) (h5 : ng ≤ 5) : pkU s < 20000 := by
  have a := su32 h h5
  have b := h.1 0 (by decide)
  have c := h.1 1 (by decide)
  have d := h.1 2 (by decide)
  unfold pkU pkS
  omega
theorem unpk {ng : Nat} {s : SU} (h : suOk ng s) (h5 : ng ≤ 5) (M : MM) (u : Nat) : suIs (setSu M u (fun v => if v = 0 then pkU s / 32 / 7 / 7 % 7 else if v = 1 then pkU s / 32 / 7 % 7 else pkU s / 32 % 7) (pkU s % 32)) u s.1 s.2 := by
  have a := su32 h h5
  have b := h.1 0 (by decide)
  have c := h.1 1 (by decide)
  have d := h.1 2 (by decide)
  have e0 : pkU s / 32 / 7 / 7 % 7 = s.1 0 := by unfold pkU pkS; omega
  have e1 : pkU s / 32 / 7 % 7 = s.1 1 := by unfold pkU pkS; omega
  have e2 : pkU s / 32 % 7 = s.1 2 := by unfold pkU pkS; omega
  have e3 : pkU s % 32 = s.2 := by unfold pkU pkS; omega
  obtain ⟨f0, f1, f2, f3⟩ := suIs_set M u (fun v => if v = 0 then pkU s / 32 / 7 / 7 % 7 else if v = 1 then pkU s / 32 / 7 % 7 else pkU s / 32 % 7) (pkU s % 32)
  exact ⟨f0.trans (congrArg nI e0), f1.trans (congrArg nI e1), f2.trans (congrArg nI e2), f3.trans (congrArg nI e3)⟩
theorem setSu_ne {M : MM} {u : Nat} {t : Nat → Nat} {off a j : Nat} (h : a ≠ u) (h1 : a ≠ u + 1) : (setSu M u t off).1 a j = M.1 a j := by
  unfold setSu
  simp only [sI, up2]
  rw [if_neg (by omega), if_neg (by omega), if_neg (by omega), if_neg (by omega)]
theorem c_X11_active {Γ : GT} {G : GG} {M : MM} {o : Nat} {b : Bool} {S V : RT} {tx : Nat → Nat} {len : Nat} {su : SU} {hy : HY} {kp : KP} {ze : SE} {sd : Int64} (hO : cO G M o b S V tx len su hy kp ze sd) {u off : Nat} (gu : G u = some (.inl 8)) (h1 : M.1 u 1 = nI off) (h32 : off < 32) : Calls Γ q_X11_active [.ref o, .ref u] G M (rI (fun y M' => y = nI (difG (2 ^ V 0 26 - 1) off) ∧ M' = M)) := by
  obtain ⟨v22, v23, v24, v25, v26⟩ := cv_ok hO
  refine Calls.intro (by decide +kernel) (Nat.le_of_ble_eq_true rfl) (fun z E h hQ => ?_)
  refine x_loc (L' := [some (.ref o), some (.ref u)]) rfl ?_
  refine x_in1 h dX11_active_0 ?_
  refine x_aload_n h dX11_active_1 rfl ?_
  refine x_getR h hO.1.1 f_X11_23 rfl (lg_code hO.1).1 dX11_active_2 ?_
  refine x_getIv h (lg_code hO.1).2.1 f_X11_114 rfl (cv_g hO) dX11_active_5 ?_
  refine x_ishl h dX11_active_8 ?_
  refine x_in1 h dX11_active_9 ?_
  refine x_isub h dX11_active_10 ?_
  refine x_aload_n h dX11_active_11 rfl ?_
  refine x_getIv h gu f_X11_117 rfl h1 dX11_active_12 ?_
  refine x_icm1 h dX11_active_15 ?_
  refine x_ixor h dX11_active_16 ?_
  refine x_iand h dX11_active_17 ?_
  exact x_iret h hQ rfl dX11_active_18 ⟨rfl, rfl, _, rfl, lef5 _ (by omega) _ h32, rfl⟩
theorem c_X11_view {Γ : GT} {G : GG} {M : MM} {o : Nat} {b : Bool} {S V : RT} {tx : Nat → Nat} {len : Nat} {su : SU} {hy : HY} {kp : KP} {ze : SE} {sd : Int64} (hI : cInv G M o b S V tx len su hy kp ze sd) {u : Nat} {t : Nat → Nat} {off : Nat} (hU : suW G M.2.2 u) (hT : suIs M u t off) (h6 : hs6 t) (hu : u + 1 < o + 265) : Calls Γ q_X11_view [.ref o, .ref u] G M (rR (fun a M' => a = o + 265 ∧ cKn G M' o b S V tx len su hy kp ze sd t ∧ offA (o + 265) M M')) := by
  obtain ⟨hO, hA⟩ := hI
  refine Calls.intro (by decide +kernel) (Nat.le_of_ble_eq_true rfl) (fun z E h hQ => ?_)
  refine x_loc (L' := [some (.ref o), some (.ref u)]) rfl ?_
  refine x_aload_n h dX11_view_0 rfl ?_
  refine x_getR h hO.1.1 f_X11_68 rfl (lg_analysis hO.1).1 dX11_view_1 ?_
  refine x_aload_n h dX11_view_4 rfl ?_
  refine x_cVv h ci_X0_lookAt im_X0_lookAt l_X11_272 ⟨Nat.le_of_ble_eq_true rfl, Nat.le_of_ble_eq_true rfl⟩ ⟨rfl, rfl⟩ ⟨Nat.zero_le _, Nat.zero_le _⟩ (s_lookAt hA hU hT h6 hu) rfl rfl rfl rfl (lg_analysis hO.1).2.1 (by decide) rfl dX11_view_5 (fun M5 hp5 => ?_)
  obtain ⟨hK, ho⟩ := hp5
  have hO := cO_off hO ho
  refine x_aload_n h dX11_view_8 rfl ?_
  refine x_getR h hO.1.1 f_X11_68 rfl (lg_analysis hO.1).1 dX11_view_9 ?_
  exact x_aret h hQ rfl rfl dX11_view_12 ⟨rfl, rfl, _, rfl, rfl, ⟨hO, hK⟩, ho⟩
theorem c_X11_write_0 {Γ : GT} {G : GG} {M : MM} {o : Nat} {b : Bool} {S V : RT} {tx : Nat → Nat} {len : Nat} {su : SU} {hy : HY} {kp : KP} {ze : SE} {sd : Int64} (hI : cInv G M o b S V tx len su hy kp ze sd) {x : Int32} (hx : ∀ n, n < 256 → x ≠ nI n) : Calls Γ q_X11_write [.ref o, .int x] G M (rI (fun y M' => y = -2 ∧ cInv G M' o b S V (tx) (len) (su) (hy) (kp) (ze) (sd) ∧ offO o M M')) := by
  have hI0 := hI
  obtain ⟨hO, hA⟩ := hI
  have hO0 := hO
  obtain ⟨v22, v23, v24, v25, v26⟩ := cv_ok hO
  refine Calls.intro (by decide +kernel) (Nat.le_of_ble_eq_true rfl) (fun z E h hQ => ?_)
  refine x_loc (L' := [some (.ref o), some (.int x)]) rfl ?_
  refine x_iload_n h dX11_write_0 rfl ?_
  refine x_if_lt h 11 dX11_write_1 (by decide) (fun c1 => ?_) (fun c1 => ?_)
  · refine x_bipush h (-2) (by decide) dX11_write_11 ?_
    exact x_iret h hQ rfl dX11_write_13 ⟨rfl, rfl, _, rfl, rfl, hI0, oO_refl o M⟩
  · refine x_iload_n h dX11_write_4 rfl ?_
    refine x_sipush h (nI 255) (by decide) dX11_write_5 ?_
    refine x_icmp_le h 14 dX11_write_8 (by decide) (fun c8 => ?_) (fun c8 => ?_)
    · exact absurd c8 (rng_le (by decide) hx c1)
    · refine x_bipush h (-2) (by decide) dX11_write_11 ?_
      exact x_iret h hQ rfl dX11_write_13 ⟨rfl, rfl, _, rfl, rfl, hI0, oO_refl o M⟩
theorem c_X11_write_1 {Γ : GT} {G : GG} {M : MM} {o : Nat} {b : Bool} {S V : RT} {tx : Nat → Nat} {len : Nat} {su : SU} {hy : HY} {kp : KP} {ze : SE} {sd : Int64} (hI : cInv G M o b S V tx len su hy kp ze sd) {n : Nat} (hn : n < 256) : Calls Γ q_X11_write [.ref o, .int (nI n)] G M (rI (fun y M' => y = (if len = 60 then -4 else nI (len + 1)) ∧ cInv G M' o b S V (if len = 60 then tx else upN tx len n) (if len = 60 then len else len + 1) (su) (hy) (kp) (ze) (sd) ∧ offO o M M')) := by
  have hI0 := hI
  obtain ⟨hO, hA⟩ := hI
  have hO0 := hO
  obtain ⟨v22, v23, v24, v25, v26⟩ := cv_ok hO
  have l60 := hO.2.1.1
  refine Calls.intro (by decide +kernel) (Nat.le_of_ble_eq_true rfl) (fun z E h hQ => ?_)
  refine x_loc (L' := [some (.ref o), some (.int (nI n))]) rfl ?_
  refine x_iload_n h dX11_write_0 rfl ?_
  refine x_if_lt h 11 dX11_write_1 (by decide) (fun c1 => ?_) (fun c1 => ?_)
  · exact (nI_nneg (by omega) c1).elim
  · refine x_iload_n h dX11_write_4 rfl ?_
    refine x_sipush h (nI 255) (by decide) dX11_write_5 ?_
    refine x_icmp_le h 14 dX11_write_8 (by decide) (fun c8 => ?_) (fun c8 => ?_)
    · refine x_aload_n h dX11_write_14 rfl ?_
      refine x_getIv h hO.1.1 f_X11_82 rfl hO.2.1.2.1 dX11_write_15 ?_
      refine x_if_lt h 33 dX11_write_18 (by decide) (fun c18 => ?_) (fun c18 => ?_)
      · exact (nI_nneg (by omega) c18).elim
      · refine x_aload_n h dX11_write_21 rfl ?_
        refine x_getIv h hO.1.1 f_X11_82 rfl hO.2.1.2.1 dX11_write_22 ?_
        refine x_aload_n h dX11_write_25 rfl ?_
        refine x_getR h hO.1.1 f_X11_9 rfl (lg_text hO.1).1 dX11_write_26 ?_
        refine x_alen h (lg_text hO.1).2 (by decide) dX11_write_29 ?_
        refine x_icmp_lt h 36 dX11_write_30 (by decide) (fun c30 => ?_) (fun c30 => ?_)
        · have hlt := (nI_lt_iff (by omega) (by decide)).mp c30
          refine x_aload_n h dX11_write_36 rfl ?_
          refine x_getR h hO.1.1 f_X11_9 rfl (lg_text hO.1).1 dX11_write_37 ?_
          refine x_aload_n h dX11_write_40 rfl ?_
          refine x_getIv h hO.1.1 f_X11_82 rfl hO.2.1.2.1 dX11_write_41 ?_
          refine x_iload_n h dX11_write_44 rfl ?_
          refine x_i2c h dX11_write_45 ?_
          refine x_topi (i2c_ok n hn) ?_
          refine x_cast h len (lg_text hO.1).2 (ix.ni hlt (by decide)) (congrArg Value.int (nar_ok n hn)) dX11_write_46 ?_
          refine x_aload_n h dX11_write_47 rfl ?_
          refine x_dup h rfl dX11_write_48 ?_
          refine x_getIv h hO.1.1 f_X11_82 rfl ((up2_ne _ _ (by omega)).trans hO.2.1.2.1) dX11_write_49 ?_
          refine x_in1 h dX11_write_52 ?_
          refine x_iaddn h dX11_write_53 ?_
          refine x_putI h hO.1.1 f_X11_82 rfl rfl dX11_write_54 ?_
          refine x_aload_n h dX11_write_57 rfl ?_
          refine x_getIv h hO.1.1 f_X11_82 rfl (up2_self _ _ _ _) dX11_write_58 ?_
          refine x_iret h hQ rfl dX11_write_61 ?_
          have e60 : ¬ len = 60 := by omega
          rw [if_neg e60, if_neg e60, if_neg e60]
          refine ⟨rfl, rfl, _, rfl, rfl, cInv_I hI0 rfl (fun a j q => by simp only [sI, up2]; rw [if_neg (by omega), if_neg (by omega)]) ⟨by omega, up2_self _ _ _ _, fun i hi => ?_⟩ (cSu_cg hO0.2.2.2.2.1 (fun a j q => by simp only [sI, up2]; rw [if_neg (by omega), if_neg (by omega)])) (cHy_cg hO0.2.2.2.2.2.1 (by simp only [sI, up2]; rw [if_neg (by omega), if_neg (by omega)]) (fun j => by simp only [sI, up2]; rw [if_neg (by omega), if_neg (by omega)])) (cKp_cg hO0.2.2.2.2.2.2.1 (fun j => by simp only [sI, up2]; rw [if_neg (by omega), if_neg (by omega)])) (cSe_cg hO0.2.2.2.2.2.2.2.1 (by simp only [sI, up2]; rw [if_neg (by omega), if_neg (by omega)]) (fun a j q => by simp only [sI, up2]; rw [if_neg (by omega), if_neg (by omega)])), (oO_I (oO_I (oO_refl o M) _ (by omega)) _ (by omega))⟩
          by_cases q : i = len
          · rw [q, upN_at]
            exact ⟨(up2_ne _ _ (by omega)).trans (up2_self _ _ _ _), hn⟩
          · rw [upN_ne _ _ q]
            exact ⟨((up2_ne _ _ (by omega)).trans (up2_ne _ _ (by omega))).trans (hO0.2.1.2.2 i (by omega)).1, (hO0.2.1.2.2 i (by omega)).2⟩
        · have hge := mt (nI_lt_iff (by omega) (by decide)).mpr c30
          obtain rfl : len = 60 := by omega
          refine x_bipush h (-4) (by decide) dX11_write_33 ?_
          exact x_iret h hQ rfl dX11_write_35 ⟨rfl, rfl, _, rfl, rfl, hI0, oO_refl o M⟩
    · exact absurd ((nI_le_iff (by omega) (by omega)).mpr (by omega)) c8
theorem c_X11_wipe {Γ : GT} {G : GG} {M : MM} {o : Nat} {b : Bool} {S V : RT} {tx : Nat → Nat} {len : Nat} {su : SU} {hy : HY} {kp : KP} {ze : SE} {sd : Int64} (hI : cInv G M o b S V tx len su hy kp ze sd) : Calls Γ q_X11_wipe [.ref o] G M (rI (fun y M' => y = nI len ∧ cInv G M' o b S V (tx) (0) (su) (hy) (kp) (ze) (sd) ∧ offO o M M')) := by
  have hI0 := hI
  obtain ⟨hO, hA⟩ := hI
  have hO0 := hO
  obtain ⟨v22, v23, v24, v25, v26⟩ := cv_ok hO
  refine Calls.intro (by decide +kernel) (Nat.le_of_ble_eq_true rfl) (fun z E h hQ => ?_)
  refine x_loc (L' := [some (.ref o), none]) rfl ?_
  refine x_aload_n h dX11_wipe_0 rfl ?_
  refine x_getIv h hO.1.1 f_X11_82 rfl hO.2.1.2.1 dX11_wipe_1 ?_
  refine x_istore_n h dX11_wipe_4 rfl rfl ?_
  dsimp only [List.set]
  refine x_aload_n h dX11_wipe_5 rfl ?_
  refine x_in0 h dX11_wipe_6 ?_
  refine x_putI h hO.1.1 f_X11_82 rfl rfl dX11_wipe_7 ?_
  refine x_iload_n h dX11_wipe_10 rfl ?_
  exact x_iret h hQ rfl dX11_wipe_11 ⟨rfl, rfl, _, rfl, rfl, (cInv_I hI0 rfl (fun a j q => by simp only [sI, up2]; rw [if_neg (by omega)]) ⟨Nat.zero_le _, up2_self _ _ _ _, fun i hi => absurd hi (Nat.not_lt_zero _)⟩ (cSu_cg hO0.2.2.2.2.1 (fun a j q => by simp only [sI, up2]; rw [if_neg (by omega)])) (cHy_cg hO0.2.2.2.2.2.1 (by simp only [sI, up2]; rw [if_neg (by omega)]) (fun j => by simp only [sI, up2]; rw [if_neg (by omega)])) (cKp_cg hO0.2.2.2.2.2.2.1 (fun j => by simp only [sI, up2]; rw [if_neg (by omega)])) (cSe_cg hO0.2.2.2.2.2.2.2.1 (by simp only [sI, up2]; rw [if_neg (by omega)]) (fun a j q => by simp only [sI, up2]; rw [if_neg (by omega)]))), (oO_I (oO_refl o M) _ (by omega))⟩
theorem c_X11_start_0 {Γ : GT} {G : GG} {M : MM} {o : Nat} {b : Bool} {S V : RT} {tx : Nat → Nat} {len : Nat} {su : SU} {hy : HY} {kp : KP} {ze : SE} {sd : Int64} (hI : cInv G M o b S V tx len su hy kp ze sd) {x : Int32} (hx : ∀ n, n < 3 → x ≠ nI n) : Calls Γ q_X11_start [.ref o, .int x] G M (rI (fun y M' => y = -1 ∧ cInv G M' o b S V (tx) (len) (su) (hy) (kp) (ze) (sd) ∧ offO o M M')) := by
  have hI0 := hI
  obtain ⟨hO, hA⟩ := hI
  have hO0 := hO
  obtain ⟨v22, v23, v24, v25, v26⟩ := cv_ok hO
  refine Calls.intro (by decide +kernel) (Nat.le_of_ble_eq_true rfl) (fun z E h hQ => ?_)
  refine x_loc (L' := [some (.ref o), some (.int x)]) rfl ?_
  refine x_iload_n h dX11_start_0 rfl ?_
  refine x_if_lt h 16 dX11_start_1 (by decide) (fun c1 => ?_) (fun c1 => ?_)
  · refine x_icm1 h dX11_start_16 ?_
    exact x_iret h hQ rfl dX11_start_17 ⟨rfl, rfl, _, rfl, rfl, hI0, oO_refl o M⟩
  · refine x_iload_n h dX11_start_4 rfl ?_
    refine x_aload_n h dX11_start_5 rfl ?_
    refine x_getR h hO.1.1 f_X11_33 rfl (lg_setup hO.1).1 dX11_start_6 ?_
    refine x_getR h (lg_setup hO.1).2.1 f_X11_188 rfl (lg_setup hO.1).2.2.1 dX11_start_9 ?_
    refine x_alen h (lg_setup hO.1).2.2.2 (by decide) dX11_start_12 ?_
    refine x_icmp_lt h 18 dX11_start_13 (by decide) (fun c13 => ?_) (fun c13 => ?_)
    · exact absurd c13 (rng_lt (by decide) hx c1)
    · refine x_icm1 h dX11_start_16 ?_
      exact x_iret h hQ rfl dX11_start_17 ⟨rfl, rfl, _, rfl, rfl, hI0, oO_refl o M⟩
theorem su_at {M : MM} {u : Nat} {t : Nat → Nat} {off v : Nat} (h : suIs M u t off) (hv : v < 3) : M.1 (u + 1) v = nI (t v) := by
  obtain ⟨a, b, c, d⟩ := h
  rcases (show v = 0 ∨ v = 1 ∨ v = 2 by omega) with rfl | rfl | rfl
  · exact a
  · exact b
  · exact c
theorem c_X11_start_1 {Γ : GT} {G : GG} {M : MM} {o : Nat} {b : Bool} {S V : RT} {tx : Nat → Nat} {len : Nat} {su : SU} {hy : HY} {kp : KP} {ze : SE} {sd : Int64} (hI : cInv G M o b S V tx len su hy kp ze sd) {n : Nat} (hn : n < 3) : Calls Γ q_X11_start [.ref o, .int (nI n)] G M (rI (fun y M' => y = nI (su.1 n) ∧ cInv G M' o b S V (tx) (len) (su) (hy) (kp) (ze) (sd) ∧ offO o M M')) := by
  have hI0 := hI
  obtain ⟨hO, hA⟩ := hI
  have hO0 := hO
  obtain ⟨v22, v23, v24, v25, v26⟩ := cv_ok hO
  refine Calls.intro (by decide +kernel) (Nat.le_of_ble_eq_true rfl) (fun z E h hQ => ?_)
  refine x_loc (L' := [some (.ref o), some (.int (nI n))]) rfl ?_
  refine x_iload_n h dX11_start_0 rfl ?_
  refine x_if_lt h 16 dX11_start_1 (by decide) (fun c1 => ?_) (fun c1 => ?_)
  · exact (nI_nneg (by omega) c1).elim
  · refine x_iload_n h dX11_start_4 rfl ?_
    refine x_aload_n h dX11_start_5 rfl ?_
    refine x_getR h hO.1.1 f_X11_33 rfl (lg_setup hO.1).1 dX11_start_6 ?_
    refine x_getR h (lg_setup hO.1).2.1 f_X11_188 rfl (lg_setup hO.1).2.2.1 dX11_start_9 ?_
    refine x_alen h (lg_setup hO.1).2.2.2 (by decide) dX11_start_12 ?_
    refine x_icmp_lt h 18 dX11_start_13 (by decide) (fun c13 => ?_) (fun c13 => ?_)
    · refine x_aload_n h dX11_start_18 rfl ?_
      refine x_getR h hO.1.1 f_X11_33 rfl (lg_setup hO.1).1 dX11_start_19 ?_
      refine x_getR h (lg_setup hO.1).2.1 f_X11_188 rfl (lg_setup hO.1).2.2.1 dX11_start_22 ?_
      refine x_iload_n h dX11_start_25 rfl ?_
      refine x_ialdv h n (lg_setup hO.1).2.2.2 (ix.ni hn (by decide)) (show _ = nI (su.1 n) from su_at hO.2.2.2.2.1.1 hn) dX11_start_26 ?_
      exact x_iret h hQ rfl dX11_start_27 ⟨rfl, rfl, _, rfl, rfl, hI0, oO_refl o M⟩
    · exact absurd ((nI_lt_iff (by omega) (by omega)).mpr (by omega)) c13
theorem c_X11_unsee {Γ : GT} {G : GG} {M : MM} {o : Nat} {b : Bool} {S V : RT} {tx : Nat → Nat} {len : Nat} {su : SU} {hy : HY} {kp : KP} {ze : SE} {sd : Int64} (hI : cInv G M o b S V tx len su hy kp ze sd) : Calls Γ q_X11_unsee [.ref o] G M (rI (fun y M' => y = nI ze.1 ∧ cInv G M' o b S V (tx) (len) (su) (hy) (kp) ((0, ze.2)) (sd) ∧ offO o M M')) := by
  have hI0 := hI
  obtain ⟨hO, hA⟩ := hI
  have hO0 := hO
  obtain ⟨v22, v23, v24, v25, v26⟩ := cv_ok hO
  refine Calls.intro (by decide +kernel) (Nat.le_of_ble_eq_true rfl) (fun z E h hQ => ?_)
  refine x_loc (L' := [some (.ref o), none]) rfl ?_
  refine x_aload_n h dX11_unsee_0 rfl ?_
  refine x_getIv h hO.1.1 f_X11_159 rfl hO.2.2.2.2.2.2.2.1.2.1 dX11_unsee_1 ?_
  refine x_istore_n h dX11_unsee_4 rfl rfl ?_
  dsimp only [List.set]
  refine x_aload_n h dX11_unsee_5 rfl ?_
  refine x_in0 h dX11_unsee_6 ?_
  refine x_putI h hO.1.1 f_X11_159 rfl rfl dX11_unsee_7 ?_
  refine x_iload_n h dX11_unsee_10 rfl ?_
  exact x_iret h hQ rfl dX11_unsee_11 ⟨rfl, rfl, _, rfl, rfl, (cInv_I hI0 rfl (fun a j q => by simp only [sI, up2]; rw [if_neg (by omega)]) (cTx_cg hO0.2.1 (by simp only [sI, up2]; rw [if_neg (by omega)]) (fun j => by simp only [sI, up2]; rw [if_neg (by omega)])) (cSu_cg hO0.2.2.2.2.1 (fun a j q => by simp only [sI, up2]; rw [if_neg (by omega)])) (cHy_cg hO0.2.2.2.2.2.1 (by simp only [sI, up2]; rw [if_neg (by omega)]) (fun j => by simp only [sI, up2]; rw [if_neg (by omega)])) (cKp_cg hO0.2.2.2.2.2.2.1 (fun j => by simp only [sI, up2]; rw [if_neg (by omega)])) ⟨Nat.zero_le _, up2_self _ _ _ _, fun i hi => absurd hi (Nat.not_lt_zero _)⟩), (oO_I (oO_refl o M) _ (by omega))⟩
theorem c_X11_see_0 {Γ : GT} {G : GG} {M : MM} {o : Nat} {b : Bool} {S V : RT} {tx : Nat → Nat} {len : Nat} {su : SU} {hy : HY} {kp : KP} {ze : SE} {sd : Int64} (hI : cInv G M o b S V tx len su hy kp ze sd) {x w : Int32} (hx : ∀ n, n < V 0 23 → x ≠ nI n) : Calls Γ q_X11_see [.ref o, .int x, .int w] G M (rI (fun y M' => y = -1 ∧ cInv G M' o b S V (tx) (len) (su) (hy) (kp) (ze) (sd) ∧ offO o M M')) := by
  have hI0 := hI
  obtain ⟨hO, hA⟩ := hI
  have hO0 := hO
  obtain ⟨v22, v23, v24, v25, v26⟩ := cv_ok hO
  refine Calls.intro (by decide +kernel) (Nat.le_of_ble_eq_true rfl) (fun z E h hQ => ?_)
  refine x_loc (L' := [some (.ref o), some (.int x), some (.int w)]) rfl ?_
  refine x_iload_n h dX11_see_0 rfl ?_
  refine x_if_lt h 15 dX11_see_1 (by decide) (fun c1 => ?_) (fun c1 => ?_)
  · refine x_icm1 h dX11_see_15 ?_
    exact x_iret h hQ rfl dX11_see_16 ⟨rfl, rfl, _, rfl, rfl, hI0, oO_refl o M⟩
  · refine x_iload_n h dX11_see_4 rfl ?_
    refine x_aload_n h dX11_see_5 rfl ?_
    refine x_getR h hO.1.1 f_X11_23 rfl (lg_code hO.1).1 dX11_see_6 ?_
    refine x_getIv h (lg_code hO.1).2.1 f_X11_105 rfl (cv_k hO) dX11_see_9 ?_
    refine x_icmp_lt h 17 dX11_see_12 (by decide) (fun c12 => ?_) (fun c12 => ?_)
    · exact absurd c12 (rng_lt (by omega) hx c1)
    · refine x_icm1 h dX11_see_15 ?_
      exact x_iret h hQ rfl dX11_see_16 ⟨rfl, rfl, _, rfl, rfl, hI0, oO_refl o M⟩
theorem c_X11_see_1 {Γ : GT} {G : GG} {M : MM} {o : Nat} {b : Bool} {S V : RT} {tx : Nat → Nat} {len : Nat} {su : SU} {hy : HY} {kp : KP} {ze : SE} {sd : Int64} (hI : cInv G M o b S V tx len su hy kp ze sd) {n : Nat} {w : Int32} (hn : n < V 0 23) (hw : ∀ n, n < 2 → w ≠ nI n) : Calls Γ q_X11_see [.ref o, .int (nI n), .int w] G M (rI (fun y M' => y = -2 ∧ cInv G M' o b S V (tx) (len) (su) (hy) (kp) (ze) (sd) ∧ offO o M M')) := by
  have hI0 := hI
  obtain ⟨hO, hA⟩ := hI
  have hO0 := hO
  obtain ⟨v22, v23, v24, v25, v26⟩ := cv_ok hO
  refine Calls.intro (by decide +kernel) (Nat.le_of_ble_eq_true rfl) (fun z E h hQ => ?_)
  refine x_loc (L' := [some (.ref o), some (.int (nI n)), some (.int w)]) rfl ?_
  refine x_iload_n h dX11_see_0 rfl ?_
  refine x_if_lt h 15 dX11_see_1 (by decide) (fun c1 => ?_) (fun c1 => ?_)
  · exact (nI_nneg (by omega) c1).elim
  · refine x_iload_n h dX11_see_4 rfl ?_
    refine x_aload_n h dX11_see_5 rfl ?_
    refine x_getR h hO.1.1 f_X11_23 rfl (lg_code hO.1).1 dX11_see_6 ?_
    refine x_getIv h (lg_code hO.1).2.1 f_X11_105 rfl (cv_k hO) dX11_see_9 ?_
    refine x_icmp_lt h 17 dX11_see_12 (by decide) (fun c12 => ?_) (fun c12 => ?_)
    · refine x_iload_n h dX11_see_17 rfl ?_
      refine x_if_lt h 26 dX11_see_18 (by decide) (fun c18 => ?_) (fun c18 => ?_)
      · refine x_bipush h (-2) (by decide) dX11_see_26 ?_
        exact x_iret h hQ rfl dX11_see_28 ⟨rfl, rfl, _, rfl, rfl, hI0, oO_refl o M⟩
      · refine x_iload_n h dX11_see_21 rfl ?_
        refine x_in1 h dX11_see_22 ?_
        refine x_icmp_le h 29 dX11_see_23 (by decide) (fun c23 => ?_) (fun c23 => ?_)
        · exact absurd c23 (rng_le (by decide) hw c18)
        · refine x_bipush h (-2) (by decide) dX11_see_26 ?_
          exact x_iret h hQ rfl dX11_see_28 ⟨rfl, rfl, _, rfl, rfl, hI0, oO_refl o M⟩
    · exact absurd ((nI_lt_iff (by omega) (by omega)).mpr (by omega)) c12
theorem c_X11_see_2 {Γ : GT} {G : GG} {M : MM} {o : Nat} {b : Bool} {S V : RT} {tx : Nat → Nat} {len : Nat} {su : SU} {hy : HY} {kp : KP} {ze : SE} {sd : Int64} (hI : cInv G M o b S V tx len su hy kp ze sd) {n w : Nat} (hn : n < V 0 23) (hw : w < 2) : Calls Γ q_X11_see [.ref o, .int (nI n), .int (nI w)] G M (rI (fun y M' => y = (if ze.1 = 6 then -4 else nI (ze.1 + 1)) ∧ cInv G M' o b S V (tx) (len) (su) (hy) (kp) ((if ze.1 = 6 then ze else (ze.1 + 1, upN ze.2.1 ze.1 n, upN ze.2.2 ze.1 w))) (sd) ∧ offO o M M')) := by
  have hI0 := hI
  obtain ⟨hO, hA⟩ := hI
  have hO0 := hO
  obtain ⟨v22, v23, v24, v25, v26⟩ := cv_ok hO
  have z6 := hO.2.2.2.2.2.2.2.1.1
  have zn := hO.2.2.2.2.2.2.2.1.2.1
  have zi := hO.2.2.2.2.2.2.2.1.2.2
  refine Calls.intro (by decide +kernel) (Nat.le_of_ble_eq_true rfl) (fun z E h hQ => ?_)
  refine x_loc (L' := [some (.ref o), some (.int (nI n)), some (.int (nI w))]) rfl ?_
  refine x_iload_n h dX11_see_0 rfl ?_
  refine x_if_lt h 15 dX11_see_1 (by decide) (fun c1 => ?_) (fun c1 => ?_)
  · exact (nI_nneg (by omega) c1).elim
  · refine x_iload_n h dX11_see_4 rfl ?_
    refine x_aload_n h dX11_see_5 rfl ?_
    refine x_getR h hO.1.1 f_X11_23 rfl (lg_code hO.1).1 dX11_see_6 ?_
    refine x_getIv h (lg_code hO.1).2.1 f_X11_105 rfl (cv_k hO) dX11_see_9 ?_
    refine x_icmp_lt h 17 dX11_see_12 (by decide) (fun c12 => ?_) (fun c12 => ?_)
    · refine x_iload_n h dX11_see_17 rfl ?_
      refine x_if_lt h 26 dX11_see_18 (by decide) (fun c18 => ?_) (fun c18 => ?_)
      · exact (nI_nneg (by omega) c18).elim
      · refine x_iload_n h dX11_see_21 rfl ?_
        refine x_in1 h dX11_see_22 ?_
        refine x_icmp_le h 29 dX11_see_23 (by decide) (fun c23 => ?_) (fun c23 => ?_)
        · refine x_aload_n h dX11_see_29 rfl ?_
          refine x_getIv h hO.1.1 f_X11_159 rfl hO.2.2.2.2.2.2.2.1.2.1 dX11_see_30 ?_
          refine x_if_lt h 60 dX11_see_33 (by decide) (fun c33 => ?_) (fun c33 => ?_)
          · exact (nI_nneg (by omega) c33).elim
          · refine x_aload_n h dX11_see_36 rfl ?_
            refine x_getIv h hO.1.1 f_X11_159 rfl hO.2.2.2.2.2.2.2.1.2.1 dX11_see_37 ?_
            refine x_aload_n h dX11_see_40 rfl ?_
            refine x_getR h hO.1.1 f_X11_47 rfl (lg_seenCheck hO.1).1 dX11_see_41 ?_
            refine x_alen h (lg_seenCheck hO.1).2 (by decide) dX11_see_44 ?_
            refine x_icmp_ge h 60 dX11_see_45 (by decide) (fun c45 => ?_) (fun c45 => ?_)
            · have hge := (nI_le_iff (by decide) (by omega)).mp c45
              have e6 : ze.1 = 6 := by omega
              refine x_bipush h (-4) (by decide) dX11_see_60 ?_
              exact x_iret h hQ rfl dX11_see_62 ⟨rfl, rfl, _, rfl, (if_pos e6).symm, by rw [if_pos e6]; exact hI0, oO_refl o M⟩
            · have hlt : ze.1 < 6 := by
                have := mt (nI_le_iff (by decide) (by omega)).mpr c45
                omega
              refine x_aload_n h dX11_see_48 rfl ?_
              refine x_getIv h hO.1.1 f_X11_159 rfl hO.2.2.2.2.2.2.2.1.2.1 dX11_see_49 ?_
              refine x_aload_n h dX11_see_52 rfl ?_
              refine x_getR h hO.1.1 f_X11_50 rfl (lg_seenWas hO.1).1 dX11_see_53 ?_
              refine x_alen h (lg_seenWas hO.1).2 (by decide) dX11_see_56 ?_
              refine x_icmp_lt h 63 dX11_see_57 (by decide) (fun c57 => ?_) (fun c57 => ?_)
              · refine x_aload_n h dX11_see_63 rfl ?_
                refine x_getR h hO.1.1 f_X11_47 rfl (lg_seenCheck hO.1).1 dX11_see_64 ?_
                refine x_aload_n h dX11_see_67 rfl ?_
                refine x_getIv h hO.1.1 f_X11_159 rfl hO.2.2.2.2.2.2.2.1.2.1 dX11_see_68 ?_
                refine x_iload_n h dX11_see_71 rfl ?_
                refine x_iast h ze.1 (lg_seenCheck hO.1).2 (ix.ni hlt (by decide)) dX11_see_72 ?_
                refine x_aload_n h dX11_see_73 rfl ?_
                refine x_getR h hO.1.1 f_X11_50 rfl (lg_seenWas hO.1).1 dX11_see_74 ?_
                refine x_aload_n h dX11_see_77 rfl ?_
                refine x_getIv h hO.1.1 f_X11_159 rfl ((up2_ne _ _ (by omega)).trans zn) dX11_see_78 ?_
                refine x_iload_n h dX11_see_81 rfl ?_
                refine x_iast h ze.1 (lg_seenWas hO.1).2 (ix.ni hlt (by decide)) dX11_see_82 ?_
                refine x_aload_n h dX11_see_83 rfl ?_
                refine x_dup h rfl dX11_see_84 ?_
                refine x_getIv h hO.1.1 f_X11_159 rfl ((up2_ne _ _ (by omega)).trans ((up2_ne _ _ (by omega)).trans zn)) dX11_see_85 ?_
                refine x_in1 h dX11_see_88 ?_
                refine x_iaddn h dX11_see_89 ?_
                refine x_putI h hO.1.1 f_X11_159 rfl rfl dX11_see_90 ?_
                refine x_aload_n h dX11_see_93 rfl ?_
                refine x_getIv h hO.1.1 f_X11_159 rfl (up2_self _ _ _ _) dX11_see_94 ?_
                refine x_iret h hQ rfl dX11_see_97 ?_
                have e6 : ¬ ze.1 = 6 := by omega
                rw [if_neg e6, if_neg e6]
                refine ⟨rfl, rfl, _, rfl, rfl, cInv_I hI0 rfl (fun a j q => by simp only [sI, up2]; rw [if_neg (by omega), if_neg (by omega), if_neg (by omega)]) (cTx_cg hO0.2.1 (by simp only [sI, up2]; rw [if_neg (by omega), if_neg (by omega), if_neg (by omega)]) (fun j => by simp only [sI, up2]; rw [if_neg (by omega), if_neg (by omega), if_neg (by omega)])) (cSu_cg hO0.2.2.2.2.1 (fun a j q => by simp only [sI, up2]; rw [if_neg (by omega), if_neg (by omega), if_neg (by omega)])) (cHy_cg hO0.2.2.2.2.2.1 (by simp only [sI, up2]; rw [if_neg (by omega), if_neg (by omega), if_neg (by omega)]) (fun j => by simp only [sI, up2]; rw [if_neg (by omega), if_neg (by omega), if_neg (by omega)])) (cKp_cg hO0.2.2.2.2.2.2.1 (fun j => by simp only [sI, up2]; rw [if_neg (by omega), if_neg (by omega), if_neg (by omega)])) ⟨?_, up2_self _ _ _ _, fun i hi => ?_⟩, (oO_I (oO_I (oO_I (oO_refl o M) _ (by omega)) _ (by omega)) _ (by omega))⟩
                · show ze.1 + 1 ≤ 6
                  omega
                by_cases q : i = ze.1
                · show _ = nI (upN ze.2.1 ze.1 n i) ∧ _ = nI (upN ze.2.2 ze.1 w i) ∧ upN ze.2.1 ze.1 n i < 4 ∧ upN ze.2.2 ze.1 w i < 2
                  rw [q, upN_at, upN_at]
                  exact ⟨(up2_ne _ _ (by omega)).trans ((up2_ne _ _ (by omega)).trans (up2_self _ _ _ _)), (up2_ne _ _ (by omega)).trans (up2_self _ _ _ _), by omega, hw⟩
                · show _ = nI (upN ze.2.1 ze.1 n i) ∧ _ = nI (upN ze.2.2 ze.1 w i) ∧ upN ze.2.1 ze.1 n i < 4 ∧ upN ze.2.2 ze.1 w i < 2
                  have hi2 : i < ze.1 + 1 := hi
                  rw [upN_ne _ _ q, upN_ne _ _ q]
                  obtain ⟨y1, y2, y3, y4⟩ := zi i (by omega)
                  exact ⟨((up2_ne _ _ (by omega)).trans ((up2_ne _ _ (by omega)).trans (up2_ne _ _ (by omega)))).trans y1, ((up2_ne _ _ (by omega)).trans ((up2_ne _ _ (by omega)).trans (up2_ne _ _ (by omega)))).trans y2, y3, y4⟩
              · exact absurd ((nI_lt_iff (by omega) (by omega)).mpr (by omega)) c57
        · exact absurd ((nI_le_iff (by omega) (by omega)).mpr (by omega)) c23
    · exact absurd ((nI_lt_iff (by omega) (by omega)).mpr (by omega)) c12
