/-! ===== Reader: steps, brackets, conditions ===== -/
/-- what an append leaves alone -/
theorem apM_i {M : MM} {c n k st b j : Nat} (h1 : ¬ (b = c ∧ (j = 1 ∨ j = 10))) (h2 : ¬ (b = c + 65 + n ∧ j = 0)) : (apM M c n k st).1 b j = M.1 b j := by
  simp only [apM, sI, sR, up2]
  (repeat' split) <;> first | omega | rfl
theorem apM_r {M : MM} {c n k st b j : Nat} (h2 : ¬ (b = c + 65 + n ∧ j = 4)) : (apM M c n k st).2.2 b j = M.2.2 b j := by
  simp only [apM, sI, sR, up2]
  split
  · omega
  · rfl
theorem codeF_r {G : GG} {R R' : Nat → Nat → Value} {c : Nat} (h : codeF G R c) (hr : ∀ b j, ¬ (c + 65 ≤ b ∧ b < c + 125) → (b = c + 3 → False) → (b = c + 4 → False) → c ≤ b → b < c + 125 → R' b j = R b j) : codeF G R' c := by
  obtain ⟨h1, h2, h3, h4, h5, h6, h7, h8, h9, h10, h11⟩ := h
  refine ⟨h1, (hr _ _ (by omega) (by omega) (by omega) (by omega) (by omega)).trans h2, h3, fun i hi => ⟨(hr _ _ (by omega) (by omega) (by omega) (by omega) (by omega)).trans (h4 i hi).1, (h4 i hi).2⟩, (hr _ _ (by omega) (by omega) (by omega) (by omega) (by omega)).trans h5, h6, fun i hi => ?_, (hr _ _ (by omega) (by omega) (by omega) (by omega) (by omega)).trans h8, h9, (hr _ _ (by omega) (by omega) (by omega) (by omega) (by omega)).trans h10, h11⟩
  obtain ⟨a1, a2, a3, a4⟩ := h7 i hi
  refine ⟨(hr _ _ (by omega) (by omega) (by omega) (by omega) (by omega)).trans a1, a2, (hr _ _ (by omega) (by omega) (by omega) (by omega) (by omega)).trans a3, ?_⟩
  obtain ⟨b1, b2, b3⟩ := a4
  exact ⟨b1, (hr _ _ (by omega) (by omega) (by omega) (by omega) (by omega)).trans b2, b3⟩
theorem codeF_ap {G : GG} {M : MM} {c n k st : Nat} (h : codeF G M.2.2 c) (hn : n < 60) : codeF G (apM M c n k st).2.2 c := codeF_r h (fun b j q _ _ _ _ => apM_r (by omega))
theorem codeF_sR {G : GG} {M : MM} {c b j : Nat} {v : Value} (h : codeF G M.2.2 c) (hb : ¬ (c ≤ b ∧ b < c + 65)) : codeF G (sR M b j v).2.2 c := codeF_r h (fun b' j' q _ _ h1 h2 => by
  simp only [sR, up2]
  split
  · omega
  · rfl)
theorem c_X6_takeNewValue {Γ : GT} {G : GG} {M : MM} {u : Nat} (hR : rdF G M.2.2 u) {c : Nat} (hW : codeF G M.2.2 c) (hd : u + 2 ≤ c ∨ c + 125 ≤ u) {n st : Nat} (hn : M.1 c 1 = nI n) (hst : M.1 c 10 = nI st) (h60 : n < 60) {v j t : Nat} (hv : M.1 u 2 = nI v) (hv3 : v < 3) (hj : M.1 c 3 = nI j) (h20 : t < 9 → j < 20) (ht9 : t ≤ 9) : Calls Γ q_X6_takeNewValue [.ref u, .int (trmI t), .ref c] G M (rI (fun y M' => y = b2i (decide (t < 9)) ∧ (t < 9 → M' = sI (sR (ncM (sI (apM M c n (if t = 6 + v then 4 else 0) st) (c + 65 + n) 1 (nI v)) c j (nI v) (nI 61) (nI t)) (c + 65 + n) 4 (.ref (c + 5 + 3 * j))) u 0 (nI 0)) ∧ (¬ t < 9 → M' = M))) := by
  refine Calls.intro (by decide +kernel) (Nat.le_of_ble_eq_true rfl) (fun z E h hQ => ?_)
  refine x_loc (L' := [some (.ref u), some (.int (trmI t)), some (.ref c), none, none]) rfl ?_
  refine x_iload_n h dX6_takeNewValue_0 rfl ?_
  refine x_if_ge h 6 dX6_takeNewValue_1 (by decide) (fun c1 => ?_) (fun c1 => ?_)
  · have ht : t < 9 := Classical.not_not.mp (mt trmI_lt.mpr (fun q => absurd q (Int32.not_lt.mpr c1)))
    refine x_iload_n h dX6_takeNewValue_6 rfl ?_
    refine x_bipush h (nI 6) (by decide) dX6_takeNewValue_7 ?_
    refine x_aload_n h dX6_takeNewValue_9 rfl ?_
    refine x_getIv h hR.1 f_X6_62 rfl (show _ = nI v from by first | exact hv | (simp only [sI]; rw [up2_ne _ _ (by omega), apM_u hd (by omega)]; exact hv) | (rw [apM_u hd (by omega)]; exact hv)) dX6_takeNewValue_10 ?_
    refine x_iaddn h  dX6_takeNewValue_13 ?_
    refine x_icmp_ne h 21 dX6_takeNewValue_14 (by decide) (fun c14 => ?_) (fun c14 => ?_)
    · have e14 : ¬ t = 6 + v := fun q => c14 (by rw [q, trmI, if_pos (by omega)])
      refine x_ic0 h dX6_takeNewValue_21 ?_
      refine x_istore_n h dX6_takeNewValue_22 rfl rfl ?_
      dsimp only [List.set]
      refine x_aload_n h dX6_takeNewValue_23 rfl ?_
      refine x_iload_n h dX6_takeNewValue_24 rfl ?_
      refine x_if_eq h 32 dX6_takeNewValue_25 (by decide) (fun c25 => ?_) (fun c25 => ?_)
      · refine x_in0 h dX6_takeNewValue_32 ?_
        refine x_cVr h ci_X2_append im_X2_append l_X6_99 ⟨Nat.le_of_ble_eq_true rfl, Nat.le_of_ble_eq_true rfl⟩ ⟨rfl, rfl⟩ ⟨Nat.zero_le _, Nat.zero_le _⟩ (c_X2_append (k := 0) hW hn hst h60 (by decide)) rfl rfl rfl rfl hW.1 (by decide) rfl dX6_takeNewValue_33 (fun v33 M33 hp33 => ?_)
        obtain ⟨rfl, rfl⟩ := hp33
        refine x_astore h dX6_takeNewValue_36 rfl rfl ?_
        dsimp only [List.set]
        refine x_aload h dX6_takeNewValue_38 rfl ?_
        refine x_aload_n h dX6_takeNewValue_40 rfl ?_
        refine x_getIv h hR.1 f_X6_62 rfl (show _ = nI v from by first | exact hv | (simp only [sI]; rw [up2_ne _ _ (by omega), apM_u hd (by omega)]; exact hv) | (rw [apM_u hd (by omega)]; exact hv)) dX6_takeNewValue_41 ?_
        refine x_putI h (hW.2.2.2.1 n h60).2 f_X6_103 rfl rfl dX6_takeNewValue_44 ?_
        refine x_aload h dX6_takeNewValue_47 rfl ?_
        refine x_aload_n h dX6_takeNewValue_49 rfl ?_
        refine x_aload_n h dX6_takeNewValue_50 rfl ?_
        refine x_getIv h hR.1 f_X6_62 rfl (show _ = nI v from by first | exact hv | (simp only [sI]; rw [up2_ne _ _ (by omega), apM_u hd (by omega)]; exact hv) | (rw [apM_u hd (by omega)]; exact hv)) dX6_takeNewValue_51 ?_
        refine x_bipush h (nI 61) (by decide) dX6_takeNewValue_54 ?_
        refine x_iload_n h dX6_takeNewValue_56 rfl ?_
        refine x_cVr h ci_X2_newCondition im_X2_newCondition l_X6_104 ⟨Nat.le_of_ble_eq_true rfl, Nat.le_of_ble_eq_true rfl⟩ ⟨rfl, rfl⟩ ⟨Nat.zero_le _, Nat.zero_le _⟩ (c_X2_newCondition (M := sI (apM M c n 0 st) (c + 65 + n) 1 (nI v)) (j := j) (codeF_ap (M := M) (k := 0) (st := st) hW h60) (by simp only [sI]; rw [up2_ne _ _ (by omega), apM_i (by omega) (by omega)]; exact hj) (h20 ht)) rfl rfl rfl rfl hW.1 (by decide) rfl dX6_takeNewValue_57 (fun v57 M57 hp57 => ?_)
        obtain ⟨rfl, rfl⟩ := hp57
        refine x_putR h (hW.2.2.2.1 n h60).2 f_X6_108 rfl rfl dX6_takeNewValue_60 ?_
        refine x_aload_n h dX6_takeNewValue_63 rfl ?_
        refine x_in0 h dX6_takeNewValue_64 ?_
        refine x_putI h hR.1 f_X6_20 rfl rfl dX6_takeNewValue_65 ?_
        refine x_ic1 h dX6_takeNewValue_68 ?_
        exact x_zret h hQ rfl (by decide) dX6_takeNewValue_69 ⟨rfl, rfl, _, rfl, b2i_t (decide_eq_true ht), (fun _ => by rw [if_neg e14, show trmI t = nI t from if_pos ht]), fun q => absurd ht q⟩
      · exact absurd c25 (by decide)
    · have e14 : t = 6 + v := nI_small (6 + v) (by omega) (by omega) ((show trmI t = nI t from if_pos ht) ▸ c14)
      refine x_ic1 h dX6_takeNewValue_17 ?_
      refine x_goto h 22 dX6_takeNewValue_18 (by decide) ?_
      refine x_istore_n h dX6_takeNewValue_22 rfl rfl ?_
      dsimp only [List.set]
      refine x_aload_n h dX6_takeNewValue_23 rfl ?_
      refine x_iload_n h dX6_takeNewValue_24 rfl ?_
      refine x_if_eq h 32 dX6_takeNewValue_25 (by decide) (fun c25 => ?_) (fun c25 => ?_)
      · exact absurd c25 (by decide)
      · refine x_in4 h dX6_takeNewValue_28 ?_
        refine x_goto h 33 dX6_takeNewValue_29 (by decide) ?_
        refine x_cVr h ci_X2_append im_X2_append l_X6_99 ⟨Nat.le_of_ble_eq_true rfl, Nat.le_of_ble_eq_true rfl⟩ ⟨rfl, rfl⟩ ⟨Nat.zero_le _, Nat.zero_le _⟩ (c_X2_append (k := 4) hW hn hst h60 (by decide)) rfl rfl rfl rfl hW.1 (by decide) rfl dX6_takeNewValue_33 (fun v33 M33 hp33 => ?_)
        obtain ⟨rfl, rfl⟩ := hp33
        refine x_astore h dX6_takeNewValue_36 rfl rfl ?_
        dsimp only [List.set]
        refine x_aload h dX6_takeNewValue_38 rfl ?_
        refine x_aload_n h dX6_takeNewValue_40 rfl ?_
        refine x_getIv h hR.1 f_X6_62 rfl (show _ = nI v from by first | exact hv | (simp only [sI]; rw [up2_ne _ _ (by omega), apM_u hd (by omega)]; exact hv) | (rw [apM_u hd (by omega)]; exact hv)) dX6_takeNewValue_41 ?_
        refine x_putI h (hW.2.2.2.1 n h60).2 f_X6_103 rfl rfl dX6_takeNewValue_44 ?_
        refine x_aload h dX6_takeNewValue_47 rfl ?_
        refine x_aload_n h dX6_takeNewValue_49 rfl ?_
        refine x_aload_n h dX6_takeNewValue_50 rfl ?_
        refine x_getIv h hR.1 f_X6_62 rfl (show _ = nI v from by first | exact hv | (simp only [sI]; rw [up2_ne _ _ (by omega), apM_u hd (by omega)]; exact hv) | (rw [apM_u hd (by omega)]; exact hv)) dX6_takeNewValue_51 ?_
        refine x_bipush h (nI 61) (by decide) dX6_takeNewValue_54 ?_
        refine x_iload_n h dX6_takeNewValue_56 rfl ?_
        refine x_cVr h ci_X2_newCondition im_X2_newCondition l_X6_104 ⟨Nat.le_of_ble_eq_true rfl, Nat.le_of_ble_eq_true rfl⟩ ⟨rfl, rfl⟩ ⟨Nat.zero_le _, Nat.zero_le _⟩ (c_X2_newCondition (M := sI (apM M c n 4 st) (c + 65 + n) 1 (nI v)) (j := j) (codeF_ap (M := M) (k := 4) (st := st) hW h60) (by simp only [sI]; rw [up2_ne _ _ (by omega), apM_i (by omega) (by omega)]; exact hj) (h20 ht)) rfl rfl rfl rfl hW.1 (by decide) rfl dX6_takeNewValue_57 (fun v57 M57 hp57 => ?_)
        obtain ⟨rfl, rfl⟩ := hp57
        refine x_putR h (hW.2.2.2.1 n h60).2 f_X6_108 rfl rfl dX6_takeNewValue_60 ?_
        refine x_aload_n h dX6_takeNewValue_63 rfl ?_
        refine x_in0 h dX6_takeNewValue_64 ?_
        refine x_putI h hR.1 f_X6_20 rfl rfl dX6_takeNewValue_65 ?_
        refine x_ic1 h dX6_takeNewValue_68 ?_
        exact x_zret h hQ rfl (by decide) dX6_takeNewValue_69 ⟨rfl, rfl, _, rfl, b2i_t (decide_eq_true ht), (fun _ => by rw [if_pos e14, show trmI t = nI t from if_pos ht]), fun q => absurd ht q⟩
  · have ht : ¬ t < 9 := trmI_lt.mp (Int32.not_le.mp c1)
    refine x_ic0 h dX6_takeNewValue_4 ?_
    exact x_zret h hQ rfl (by decide) dX6_takeNewValue_5 ⟨rfl, rfl, _, rfl, b2i_f (decide_eq_false ht), fun q => absurd q ht, fun _ => rfl⟩
