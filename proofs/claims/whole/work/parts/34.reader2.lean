/-! ===== Reader: steps, brackets, conditions ===== -/
/-- what an append leaves alone -/
theorem apM_i {M : MM} {c n k st b j : Nat} (h1 : ¬ (b = c ∧ (j = 1 ∨ j = 10))) (h2 : ¬ (b = c + 65 + n ∧ j = 0)) : (apM M c n k st).1 b j = M.1 b j := by
  simp only [apM, sI, sR, up2]
  (repeat' split) <;> first | omega | rfl
theorem apM_r {M : MM} {c n k st b j : Nat} (h2 : ¬ (b = c + 65 + n ∧ j = 4)) : (apM M c n k st).2.2 b j = M.2.2 b j := by
  simp only [apM, sI, sR, up2]
  split
  · omega
  · rfl
theorem codeF_r {G : GG} {R R' : Nat → Nat → Value} {c : Nat} (h : codeF G R c) (hr : ∀ b j, ¬ (c + 65 ≤ b ∧ b < c + 125) → (b = c + 3 → False) → (b = c + 4 → False) → c ≤ b → b < c + 125 → R' b j = R b j) : codeF G R' c := by
  obtain ⟨h1, h2, h3, h4, h5, h6, h7, h8, h9, h10, h11⟩ := h
  refine ⟨h1, (hr _ _ (by omega) (by omega) (by omega) (by omega) (by omega)).trans h2, h3, fun i hi => ⟨(hr _ _ (by omega) (by omega) (by omega) (by omega) (by omega)).trans (h4 i hi).1, (h4 i hi).2⟩, (hr _ _ (by omega) (by omega) (by omega) (by omega) (by omega)).trans h5, h6, fun i hi => ?_, (hr _ _ (by omega) (by omega) (by omega) (by omega) (by omega)).trans h8, h9, (hr _ _ (by omega) (by omega) (by omega) (by omega) (by omega)).trans h10, h11⟩
  obtain ⟨a1, a2, a3, a4⟩ := h7 i hi
  refine ⟨(hr _ _ (by omega) (by omega) (by omega) (by omega) (by omega)).trans a1, a2, (hr _ _ (by omega) (by omega) (by omega) (by omega) (by omega)).trans a3, ?_⟩
  obtain ⟨b1, b2, b3⟩ := a4
  exact ⟨b1, (hr _ _ (by omega) (by omega) (by omega) (by omega) (by omega)).trans b2, b3⟩
theorem codeF_ap {G : GG} {M : MM} {c n k st : Nat} (h : codeF G M.2.2 c) (hn : n < 60) : codeF G (apM M c n k st).2.2 c := codeF_r h (fun b j q _ _ _ _ => apM_r (by omega))
theorem codeF_sR {G : GG} {M : MM} {c b j : Nat} {v : Value} (h : codeF G M.2.2 c) (hb : ¬ (c ≤ b ∧ b < c + 65)) : codeF G (sR M b j v).2.2 c := codeF_r h (fun b' j' q _ _ h1 h2 => by
  simp only [sR, up2]
  split
  · omega
  · rfl)
theorem c_X6_takeNewValue {Γ : GT} {G : GG} {M : MM} {u : Nat} (hR : rdF G M.2.2 u) {c : Nat} (hW : codeF G M.2.2 c) (hd : u + 2 ≤ c ∨ c + 125 ≤ u) {n st : Nat} (hn : M.1 c 1 = nI n) (hst : M.1 c 10 = nI st) (h60 : n < 60) {v j t : Nat} (hv : M.1 u 2 = nI v) (hv3 : v < 3) (hj : M.1 c 3 = nI j) (h20 : t < 9 → j < 20) (ht9 : t ≤ 9) : Calls Γ q_X6_takeNewValue [.ref u, .int (trmI t), .ref c] G M (rI (fun y M' => y = b2i (decide (t < 9)) ∧ (t < 9 → M' = sI (sR (ncM (sI (apM M c n (if t = 6 + v then 4 else 0) st) (c + 65 + n) 1 (nI v)) c j (nI v) (nI 61) (nI t)) (c + 65 + n) 4 (.ref (c + 5 + 3 * j))) u 0 (nI 0)) ∧ (¬ t < 9 → M' = M))) := by
  refine Calls.intro (by decide +kernel) (Nat.le_of_ble_eq_true rfl) (fun z E h hQ => ?_)
  refine x_loc (L' := [some (.ref u), some (.int (trmI t)), some (.ref c), none, none]) rfl ?_
  refine x_iload_n h dX6_takeNewValue_0 rfl ?_
  refine x_if_ge h 6 dX6_takeNewValue_1 (by decide) (fun c1 => ?_) (fun c1 => ?_)
  · have ht : t < 9 := Classical.not_not.mp (mt trmI_lt.mpr (fun q => absurd q (Int32.not_lt.mpr c1)))
    refine x_iload_n h dX6_takeNewValue_6 rfl ?_
    refine x_bipush h (nI 6) (by decide) dX6_takeNewValue_7 ?_
    refine x_aload_n h dX6_takeNewValue_9 rfl ?_
    refine x_getIv h hR.1 f_X6_62 rfl (show _ = nI v from by first | exact hv | (simp only [sI]; rw [up2_ne _ _ (by omega), apM_u hd (by omega)]; exact hv) | (rw [apM_u hd (by omega)]; exact hv)) dX6_takeNewValue_10 ?_
    refine x_iaddn h  dX6_takeNewValue_13 ?_
    refine x_icmp_ne h 21 dX6_takeNewValue_14 (by decide) (fun c14 => ?_) (fun c14 => ?_)
    · have e14 : ¬ t = 6 + v := fun q => c14 (by rw [q, trmI, if_pos (by omega)])
      refine x_ic0 h dX6_takeNewValue_21 ?_
      refine x_istore_n h dX6_takeNewValue_22 rfl rfl ?_
      dsimp only [List.set]
      refine x_aload_n h dX6_takeNewValue_23 rfl ?_
      refine x_iload_n h dX6_takeNewValue_24 rfl ?_
      refine x_if_eq h 32 dX6_takeNewValue_25 (by decide) (fun c25 => ?_) (fun c25 => ?_)
      · refine x_in0 h dX6_takeNewValue_32 ?_
        refine x_cVr h ci_X2_append im_X2_append l_X6_99 ⟨Nat.le_of_ble_eq_true rfl, Nat.le_of_ble_eq_true rfl⟩ ⟨rfl, rfl⟩ ⟨Nat.zero_le _, Nat.zero_le _⟩ (c_X2_append (k := 0) hW hn hst h60 (by decide)) rfl rfl rfl rfl hW.1 (by decide) rfl dX6_takeNewValue_33 (fun v33 M33 hp33 => ?_)
        obtain ⟨rfl, rfl⟩ := hp33
        refine x_astore h dX6_takeNewValue_36 rfl rfl ?_
        dsimp only [List.set]
        refine x_aload h dX6_takeNewValue_38 rfl ?_
        refine x_aload_n h dX6_takeNewValue_40 rfl ?_
        refine x_getIv h hR.1 f_X6_62 rfl (show _ = nI v from by first | exact hv | (simp only [sI]; rw [up2_ne _ _ (by omega), apM_u hd (by omega)]; exact hv) | (rw [apM_u hd (by omega)]; exact hv)) dX6_takeNewValue_41 ?_
        refine x_putI h (hW.2.2.2.1 n h60).2 f_X6_103 rfl rfl dX6_takeNewValue_44 ?_
        refine x_aload h dX6_takeNewValue_47 rfl ?_
        refine x_aload_n h dX6_takeNewValue_49 rfl ?_
        refine x_aload_n h dX6_takeNewValue_50 rfl ?_
        refine x_getIv h hR.1 f_X6_62 rfl (show _ = nI v from by first | exact hv | (simp only [sI]; rw [up2_ne _ _ (by omega), apM_u hd (by omega)]; exact hv) | (rw [apM_u hd (by omega)]; exact hv)) dX6_takeNewValue_51 ?_
        refine x_bipush h (nI 61) (by decide) dX6_takeNewValue_54 ?_
        refine x_iload_n h dX6_takeNewValue_56 rfl ?_
        refine x_cVr h ci_X2_newCondition im_X2_newCondition l_X6_104 ⟨Nat.le_of_ble_eq_true rfl, Nat.le_of_ble_eq_true rfl⟩ ⟨rfl, rfl⟩ ⟨Nat.zero_le _, Nat.zero_le _⟩ (c_X2_newCondition (M := sI (apM M c n 0 st) (c + 65 + n) 1 (nI v)) (j := j) (codeF_ap (M := M) (k := 0) (st := st) hW h60) (by simp only [sI]; rw [up2_ne _ _ (by omega), apM_i (by omega) (by omega)]; exact hj) (h20 ht)) rfl rfl rfl rfl hW.1 (by decide) rfl dX6_takeNewValue_57 (fun v57 M57 hp57 => ?_)
        obtain ⟨rfl, rfl⟩ := hp57
        refine x_putR h (hW.2.2.2.1 n h60).2 f_X6_108 rfl rfl dX6_takeNewValue_60 ?_
        refine x_aload_n h dX6_takeNewValue_63 rfl ?_
        refine x_in0 h dX6_takeNewValue_64 ?_
        refine x_putI h hR.1 f_X6_20 rfl rfl dX6_takeNewValue_65 ?_
        refine x_ic1 h dX6_takeNewValue_68 ?_
        exact x_zret h hQ rfl (by decide) dX6_takeNewValue_69 ⟨rfl, rfl, _, rfl, b2i_t (decide_eq_true ht), (fun _ => by rw [if_neg e14, show trmI t = nI t from if_pos ht]), fun q => absurd ht q⟩
      · exact absurd c25 (by decide)
    · have e14 : t = 6 + v := nI_small (6 + v) (by omega) (by omega) ((show trmI t = nI t from if_pos ht) ▸ c14)
      refine x_ic1 h dX6_takeNewValue_17 ?_
      refine x_goto h 22 dX6_takeNewValue_18 (by decide) ?_
      refine x_istore_n h dX6_takeNewValue_22 rfl rfl ?_
      dsimp only [List.set]
      refine x_aload_n h dX6_takeNewValue_23 rfl ?_
      refine x_iload_n h dX6_takeNewValue_24 rfl ?_
      refine x_if_eq h 32 dX6_takeNewValue_25 (by decide) (fun c25 => ?_) (fun c25 => ?_)
      · exact absurd c25 (by decide)
      · refine x_in4 h dX6_takeNewValue_28 ?_
        refine x_goto h 33 dX6_takeNewValue_29 (by decide) ?_
        refine x_cVr h ci_X2_append im_X2_append l_X6_99 ⟨Nat.le_of_ble_eq_true rfl, Nat.le_of_ble_eq_true rfl⟩ ⟨rfl, rfl⟩ ⟨Nat.zero_le _, Nat.zero_le _⟩ (c_X2_append (k := 4) hW hn hst h60 (by decide)) rfl rfl rfl rfl hW.1 (by decide) rfl dX6_takeNewValue_33 (fun v33 M33 hp33 => ?_)
        obtain ⟨rfl, rfl⟩ := hp33
        refine x_astore h dX6_takeNewValue_36 rfl rfl ?_
        dsimp only [List.set]
        refine x_aload h dX6_takeNewValue_38 rfl ?_
        refine x_aload_n h dX6_takeNewValue_40 rfl ?_
        refine x_getIv h hR.1 f_X6_62 rfl (show _ = nI v from by first | exact hv | (simp only [sI]; rw [up2_ne _ _ (by omega), apM_u hd (by omega)]; exact hv) | (rw [apM_u hd (by omega)]; exact hv)) dX6_takeNewValue_41 ?_
        refine x_putI h (hW.2.2.2.1 n h60).2 f_X6_103 rfl rfl dX6_takeNewValue_44 ?_
        refine x_aload h dX6_takeNewValue_47 rfl ?_
        refine x_aload_n h dX6_takeNewValue_49 rfl ?_
        refine x_aload_n h dX6_takeNewValue_50 rfl ?_
        refine x_getIv h hR.1 f_X6_62 rfl (show _ = nI v from by first | exact hv | (simp only [sI]; rw [up2_ne _ _ (by omega), apM_u hd (by omega)]; exact hv) | (rw [apM_u hd (by omega)]; exact hv)) dX6_takeNewValue_51 ?_
        refine x_bipush h (nI 61) (by decide) dX6_takeNewValue_54 ?_
        refine x_iload_n h dX6_takeNewValue_56 rfl ?_
        refine x_cVr h ci_X2_newCondition im_X2_newCondition l_X6_104 ⟨Nat.le_of_ble_eq_true rfl, Nat.le_of_ble_eq_true rfl⟩ ⟨rfl, rfl⟩ ⟨Nat.zero_le _, Nat.zero_le _⟩ (c_X2_newCondition (M := sI (apM M c n 4 st) (c + 65 + n) 1 (nI v)) (j := j) (codeF_ap (M := M) (k := 4) (st := st) hW h60) (by simp only [sI]; rw [up2_ne _ _ (by omega), apM_i (by omega) (by omega)]; exact hj) (h20 ht)) rfl rfl rfl rfl hW.1 (by decide) rfl dX6_takeNewValue_57 (fun v57 M57 hp57 => ?_)
        obtain ⟨rfl, rfl⟩ := hp57
        refine x_putR h (hW.2.2.2.1 n h60).2 f_X6_108 rfl rfl dX6_takeNewValue_60 ?_
        refine x_aload_n h dX6_takeNewValue_63 rfl ?_
        refine x_in0 h dX6_takeNewValue_64 ?_
        refine x_putI h hR.1 f_X6_20 rfl rfl dX6_takeNewValue_65 ?_
        refine x_ic1 h dX6_takeNewValue_68 ?_
        exact x_zret h hQ rfl (by decide) dX6_takeNewValue_69 ⟨rfl, rfl, _, rfl, b2i_t (decide_eq_true ht), (fun _ => by rw [if_pos e14, show trmI t = nI t from if_pos ht]), fun q => absurd ht q⟩
  · have ht : ¬ t < 9 := trmI_lt.mp (Int32.not_le.mp c1)
    refine x_ic0 h dX6_takeNewValue_4 ?_
    exact x_zret h hQ rfl (by decide) dX6_takeNewValue_5 ⟨rfl, rfl, _, rfl, b2i_f (decide_eq_false ht), fun q => absurd q ht, fun _ => rfl⟩
def phM (M : MM) (u dp pl : Nat) : MM := sI (sI M (u + 1) dp (nI pl)) u 5 (nI (dp + 1))
def olM (M : MM) (u c n st dp l q : Nat) : MM := sI (sI (sR (apM (phM M u dp n) c n 6 st) (c + 65 + n) 4 (.ref q)) (c + 65 + n) 2 (nI l)) c 8 (nI (l + 1))
def ocM (M : MM) (u c n st dp l : Nat) : MM := sI (sI (apM (phM M u dp n) c n 8 st) (c + 65 + n) 2 (nI l)) c 9 (nI (l + 1))
theorem phM_i {M : MM} {u dp pl b j : Nat} (h1 : b ≠ u) (h2 : b ≠ u + 1) : (phM M u dp pl).1 b j = M.1 b j := by
  simp only [phM, sI, up2]
  (repeat' split) <;> first | omega | rfl
def innI (dp pl k' kd : Nat) : Int32 := if 1 ≤ dp ∧ k' = kd then nI pl else -1
theorem innI_lt {dp pl k' kd : Nat} (h : pl < 60) : innI dp pl k' kd < 0 ↔ ¬ (1 ≤ dp ∧ k' = kd) := by
  unfold innI
  split
  · rename_i q; exact ⟨fun c => (nI_nneg (by omega) c).elim, fun c => absurd q c⟩
  · rename_i q; exact ⟨fun _ => q, fun _ => by decide⟩
theorem innI_ge {dp pl k' kd : Nat} (h : pl < 60) (c : 0 ≤ innI dp pl k' kd) : 1 ≤ dp ∧ k' = kd := Classical.not_not.mp (fun q => absurd ((innI_lt h).mpr q) (Int32.not_lt.mpr c))
theorem c_X6_push {Γ : GT} {G : GG} {M : MM} {u : Nat} (hR : rdF G M.2.2 u) {dp pl : Nat} (hdp : M.1 u 5 = nI dp) (h6 : dp < 6) : Calls Γ q_X6_push [.ref u, .int (nI pl)] G M (rV (fun M' => M' = phM M u dp pl)) := by
  refine Calls.intro (by decide +kernel) (Nat.le_of_ble_eq_true rfl) (fun z E h hQ => ?_)
  refine x_loc (L' := [some (.ref u), some (.int (nI pl))]) rfl ?_
  refine x_aload_n h dX6_push_0 rfl ?_
  refine x_getIv h hR.1 f_X6_24 rfl (show _ = nI dp from by first | exact hdp | (simp only [sI]; rw [up2_ne _ _ (by omega)]; exact hdp)) dX6_push_1 ?_
  refine x_if_lt h 39 dX6_push_4 (by decide) (fun c4 => ?_) (fun c4 => ?_)
  · exact (nI_nneg (by omega) c4).elim
  · refine x_aload_n h dX6_push_7 rfl ?_
    refine x_getIv h hR.1 f_X6_24 rfl (show _ = nI dp from by first | exact hdp | (simp only [sI]; rw [up2_ne _ _ (by omega)]; exact hdp)) dX6_push_8 ?_
    refine x_aload_n h dX6_push_11 rfl ?_
    refine x_getR h hR.1 f_X6_9 rfl hR.2.1 dX6_push_12 ?_
    refine x_alen h hR.2.2 (by decide) dX6_push_15 ?_
    refine x_icmp_ge h 39 dX6_push_16 (by decide) (fun c16 => ?_) (fun c16 => ?_)
    · exact absurd ((nI_le_iff (by decide) (by omega)).mp c16) (by omega)
    · refine x_aload_n h dX6_push_19 rfl ?_
      refine x_getR h hR.1 f_X6_9 rfl hR.2.1 dX6_push_20 ?_
      refine x_aload_n h dX6_push_23 rfl ?_
      refine x_getIv h hR.1 f_X6_24 rfl (show _ = nI dp from by first | exact hdp | (simp only [sI]; rw [up2_ne _ _ (by omega)]; exact hdp)) dX6_push_24 ?_
      refine x_iload_n h dX6_push_27 rfl ?_
      refine x_iast h dp hR.2.2 (ix.ni h6 (by decide)) dX6_push_28 ?_
      refine x_aload_n h dX6_push_29 rfl ?_
      refine x_dup h rfl dX6_push_30 ?_
      refine x_getIv h hR.1 f_X6_24 rfl (show _ = nI dp from by first | exact hdp | (simp only [sI]; rw [up2_ne _ _ (by omega)]; exact hdp)) dX6_push_31 ?_
      refine x_in1 h dX6_push_34 ?_
      refine x_iaddn h  dX6_push_35 ?_
      refine x_putI h hR.1 f_X6_24 rfl rfl dX6_push_36 ?_
      exact x_vret h hQ rfl dX6_push_39 ⟨rfl, rfl, rfl, rfl⟩
theorem c_X6_openLoop {Γ : GT} {G : GG} {M : MM} {u : Nat} (hR : rdF G M.2.2 u) {c : Nat} (hW : codeF G M.2.2 c) (hd : u + 2 ≤ c ∨ c + 125 ≤ u) {n st : Nat} (hn : M.1 c 1 = nI n) (hst : M.1 c 10 = nI st) (h60 : n < 60) {dp : Nat} (hdp : M.1 u 5 = nI dp) (h6 : dp < 6) {l q : Nat} (hl : M.1 c 8 = nI l) : Calls Γ q_X6_openLoop [.ref u, .ref q, .ref c] G M (rV (fun M' => M' = olM M u c n st dp l q)) := by
  refine Calls.intro (by decide +kernel) (Nat.le_of_ble_eq_true rfl) (fun z E h hQ => ?_)
  refine x_loc (L' := [some (.ref u), some (.ref q), some (.ref c), none]) rfl ?_
  refine x_aload_n h dX6_openLoop_0 rfl ?_
  refine x_aload_n h dX6_openLoop_1 rfl ?_
  refine x_getIv h hW.1 f_X6_126 rfl hn dX6_openLoop_2 ?_
  refine x_cVv h ci_X6_push im_X6_push l_X6_129 ⟨Nat.le_of_ble_eq_true rfl, Nat.le_of_ble_eq_true rfl⟩ ⟨rfl, rfl⟩ ⟨Nat.zero_le _, Nat.zero_le _⟩ (c_X6_push hR hdp h6) rfl rfl rfl rfl hR.1 (by decide) rfl dX6_openLoop_5 (fun M5 hp5 => ?_)
  subst hp5
  refine x_aload_n h dX6_openLoop_8 rfl ?_
  refine x_bipush h (nI 6) (by decide) dX6_openLoop_9 ?_
  refine x_cVr h ci_X2_append im_X2_append l_X6_99 ⟨Nat.le_of_ble_eq_true rfl, Nat.le_of_ble_eq_true rfl⟩ ⟨rfl, rfl⟩ ⟨Nat.zero_le _, Nat.zero_le _⟩ (c_X2_append (M := phM M u dp n) hW ((phM_i (by omega) (by omega)).trans hn) ((phM_i (by omega) (by omega)).trans hst) h60 (by decide)) rfl rfl rfl rfl hW.1 (by decide) rfl dX6_openLoop_11 (fun v11 M11 hp11 => ?_)
  obtain ⟨rfl, rfl⟩ := hp11
  refine x_astore_n h dX6_openLoop_14 rfl rfl ?_
  dsimp only [List.set]
  refine x_aload_n h dX6_openLoop_15 rfl ?_
  refine x_aload_n h dX6_openLoop_16 rfl ?_
  refine x_putR h (hW.2.2.2.1 n h60).2 f_X6_108 rfl rfl dX6_openLoop_17 ?_
  refine x_aload_n h dX6_openLoop_20 rfl ?_
  refine x_aload_n h dX6_openLoop_21 rfl ?_
  refine x_getIv h hW.1 f_X6_74 rfl (show _ = nI l from by (try simp only [sI]); (repeat rw [up2_ne _ _ (by omega)]); first | (rw [apM_i (by omega) (by omega), phM_i (by omega) (by omega)]; exact hl) | (show (apM _ _ _ _ _).1 c _ = _; rw [apM_i (by omega) (by omega), phM_i (by omega) (by omega)]; exact hl)) dX6_openLoop_22 ?_
  refine x_putI h (hW.2.2.2.1 n h60).2 f_X6_133 rfl rfl dX6_openLoop_25 ?_
  refine x_aload_n h dX6_openLoop_28 rfl ?_
  refine x_dup h rfl dX6_openLoop_29 ?_
  refine x_getIv h hW.1 f_X6_74 rfl (show _ = nI l from by (try simp only [sI]); (repeat rw [up2_ne _ _ (by omega)]); first | (rw [apM_i (by omega) (by omega), phM_i (by omega) (by omega)]; exact hl) | (show (apM _ _ _ _ _).1 c _ = _; rw [apM_i (by omega) (by omega), phM_i (by omega) (by omega)]; exact hl)) dX6_openLoop_30 ?_
  refine x_in1 h dX6_openLoop_33 ?_
  refine x_iaddn h  dX6_openLoop_34 ?_
  refine x_putI h hW.1 f_X6_74 rfl rfl dX6_openLoop_35 ?_
  exact x_vret h hQ rfl dX6_openLoop_38 ⟨rfl, rfl, rfl, rfl⟩
theorem c_X6_openChoice {Γ : GT} {G : GG} {M : MM} {u : Nat} (hR : rdF G M.2.2 u) {c : Nat} (hW : codeF G M.2.2 c) (hd : u + 2 ≤ c ∨ c + 125 ≤ u) {n st : Nat} (hn : M.1 c 1 = nI n) (hst : M.1 c 10 = nI st) (h60 : n < 60) {dp : Nat} (hdp : M.1 u 5 = nI dp) (h6 : dp < 6) {l : Nat} (hl : M.1 c 9 = nI l) : Calls Γ q_X6_openChoice [.ref u, .ref c] G M (rI (fun y M' => y = 1 ∧ M' = ocM M u c n st dp l)) := by
  refine Calls.intro (by decide +kernel) (Nat.le_of_ble_eq_true rfl) (fun z E h hQ => ?_)
  refine x_loc (L' := [some (.ref u), some (.ref c)]) rfl ?_
  refine x_aload_n h dX6_openChoice_0 rfl ?_
  refine x_aload_n h dX6_openChoice_1 rfl ?_
  refine x_getIv h hW.1 f_X6_126 rfl hn dX6_openChoice_2 ?_
  refine x_cVv h ci_X6_push im_X6_push l_X6_129 ⟨Nat.le_of_ble_eq_true rfl, Nat.le_of_ble_eq_true rfl⟩ ⟨rfl, rfl⟩ ⟨Nat.zero_le _, Nat.zero_le _⟩ (c_X6_push hR hdp h6) rfl rfl rfl rfl hR.1 (by decide) rfl dX6_openChoice_5 (fun M5 hp5 => ?_)
  subst hp5
  refine x_aload_n h dX6_openChoice_8 rfl ?_
  refine x_bipush h (nI 8) (by decide) dX6_openChoice_9 ?_
  refine x_cVr h ci_X2_append im_X2_append l_X6_99 ⟨Nat.le_of_ble_eq_true rfl, Nat.le_of_ble_eq_true rfl⟩ ⟨rfl, rfl⟩ ⟨Nat.zero_le _, Nat.zero_le _⟩ (c_X2_append (M := phM M u dp n) hW ((phM_i (by omega) (by omega)).trans hn) ((phM_i (by omega) (by omega)).trans hst) h60 (by decide)) rfl rfl rfl rfl hW.1 (by decide) rfl dX6_openChoice_11 (fun v11 M11 hp11 => ?_)
  obtain ⟨rfl, rfl⟩ := hp11
  refine x_aload_n h dX6_openChoice_14 rfl ?_
  refine x_getIv h hW.1 f_X6_80 rfl (show _ = nI l from by (try simp only [sI]); (repeat rw [up2_ne _ _ (by omega)]); first | (rw [apM_i (by omega) (by omega), phM_i (by omega) (by omega)]; exact hl) | (show (apM _ _ _ _ _).1 c _ = _; rw [apM_i (by omega) (by omega), phM_i (by omega) (by omega)]; exact hl)) dX6_openChoice_15 ?_
  refine x_putI h (hW.2.2.2.1 n h60).2 f_X6_133 rfl rfl dX6_openChoice_18 ?_
  refine x_aload_n h dX6_openChoice_21 rfl ?_
  refine x_dup h rfl dX6_openChoice_22 ?_
  refine x_getIv h hW.1 f_X6_80 rfl (show _ = nI l from by (try simp only [sI]); (repeat rw [up2_ne _ _ (by omega)]); first | (rw [apM_i (by omega) (by omega), phM_i (by omega) (by omega)]; exact hl) | (show (apM _ _ _ _ _).1 c _ = _; rw [apM_i (by omega) (by omega), phM_i (by omega) (by omega)]; exact hl)) dX6_openChoice_23 ?_
  refine x_in1 h dX6_openChoice_26 ?_
  refine x_iaddn h  dX6_openChoice_27 ?_
  refine x_putI h hW.1 f_X6_80 rfl rfl dX6_openChoice_28 ?_
  refine x_ic1 h dX6_openChoice_31 ?_
  exact x_zret h hQ rfl (by decide) dX6_openChoice_32 ⟨rfl, rfl, _, rfl, rfl, rfl⟩
theorem c_X6_innermost {Γ : GT} {G : GG} {M : MM} {u : Nat} (hR : rdF G M.2.2 u) {c : Nat} (hW : codeF G M.2.2 c) {dp pl k' kd : Nat} (hdp : M.1 u 5 = nI dp) (h6 : dp ≤ 6) (hpl : pl < 60) (hk' : k' < 2 ^ 31) (hkd : kd < 2 ^ 31) (ho : 1 ≤ dp → M.1 (u + 1) (dp - 1) = nI pl ∧ M.1 (c + 65 + pl) 0 = nI k') : Calls Γ q_X6_innermost [.ref u, .int (nI kd), .ref c] G M (rI (fun y M' => y = innI dp pl k' kd ∧ M' = M)) := by
  refine Calls.intro (by decide +kernel) (Nat.le_of_ble_eq_true rfl) (fun z E h hQ => ?_)
  refine x_loc (L' := [some (.ref u), some (.int (nI kd)), some (.ref c), none]) rfl ?_
  refine x_aload_n h dX6_innermost_0 rfl ?_
  refine x_getIv h hR.1 f_X6_24 rfl hdp dX6_innermost_1 ?_
  refine x_in1 h dX6_innermost_4 ?_
  refine x_icmp_lt h 20 dX6_innermost_5 (by decide) (fun c5 => ?_) (fun c5 => ?_)
  · have e5 := (nI_lt_iff (by omega) (by decide)).mp c5
    refine x_icm1 h dX6_innermost_20 ?_
    exact x_iret h hQ rfl dX6_innermost_21 ⟨rfl, rfl, _, rfl, (if_neg (by omega)).symm, rfl⟩
  · have e5 : 1 ≤ dp := Nat.le_of_not_lt (mt (nI_lt_iff (a := dp) (b := 1) (by omega) (by decide)).mpr c5)
    refine x_aload_n h dX6_innermost_8 rfl ?_
    refine x_getIv h hR.1 f_X6_24 rfl hdp dX6_innermost_9 ?_
    refine x_aload_n h dX6_innermost_12 rfl ?_
    refine x_getR h hR.1 f_X6_9 rfl hR.2.1 dX6_innermost_13 ?_
    refine x_alen h hR.2.2 (by decide) dX6_innermost_16 ?_
    refine x_icmp_le h 22 dX6_innermost_17 (by decide) (fun c17 => ?_) (fun c17 => ?_)
    · refine x_aload_n h dX6_innermost_22 rfl ?_
      refine x_getR h hR.1 f_X6_9 rfl hR.2.1 dX6_innermost_23 ?_
      refine x_aload_n h dX6_innermost_26 rfl ?_
      refine x_getIv h hR.1 f_X6_24 rfl hdp dX6_innermost_27 ?_
      refine x_in1 h dX6_innermost_30 ?_
      refine x_isubn h e5 dX6_innermost_31 ?_
      refine x_ialdv h (dp - 1) hR.2.2 (ix.ni (by omega) (by decide)) (ho e5).1 dX6_innermost_32 ?_
      refine x_istore_n h dX6_innermost_33 rfl rfl ?_
      dsimp only [List.set]
      refine x_aload_n h dX6_innermost_34 rfl ?_
      refine x_iload_n h dX6_innermost_35 rfl ?_
      refine x_cVr h ci_X2_at im_X2_at l_X6_136 ⟨Nat.le_of_ble_eq_true rfl, Nat.le_of_ble_eq_true rfl⟩ ⟨rfl, rfl⟩ ⟨Nat.zero_le _, Nat.zero_le _⟩ (c_X2_at hW hpl) rfl rfl rfl rfl hW.1 (by decide) rfl dX6_innermost_36 (fun v36 M36 hp36 => ?_)
      obtain ⟨rfl, hM⟩ := hp36
      obtain rfl := hM.symm
      clear hM
      refine x_getIv h (hW.2.2.2.1 pl hpl).2 f_X6_139 rfl (ho e5).2 dX6_innermost_39 ?_
      refine x_iload_n h dX6_innermost_42 rfl ?_
      refine x_icmp_ne h 50 dX6_innermost_43 (by decide) (fun c43 => ?_) (fun c43 => ?_)
      · have e43 : ¬ k' = kd := fun q => c43 (by rw [q])
        refine x_icm1 h dX6_innermost_50 ?_
        exact x_iret h hQ rfl dX6_innermost_51 ⟨rfl, rfl, _, rfl, (if_neg (by omega)).symm, rfl⟩
      · have e43 : k' = kd := nI_small kd hk' hkd c43
        refine x_iload_n h dX6_innermost_46 rfl ?_
        refine x_goto h 51 dX6_innermost_47 (by decide) ?_
        exact x_iret h hQ rfl dX6_innermost_51 ⟨rfl, rfl, _, rfl, (if_pos (by omega)).symm, rfl⟩
    · exact absurd ((nI_le_iff (by omega) (by decide)).mpr h6) c17
