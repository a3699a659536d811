/-! ===== LoopGuesses: which ===== -/
theorem cInv_ag {G : GG} {M : MM} {o : Nat} {b : Bool} {S V : RT} {tx : Nat → Nat} {len : Nat} {su : SU} {hy : HY} {kp : KP} {ze : SE} {sd : Int64} (h : cInv G M o b S V tx len su hy kp ze sd) (T : ST) : cInv G (setS M (o + 263) T) o b S V tx len su hy kp ze sd ∧ offO o M (setS M (o + 263) T) := by
  have c1 := cd_in o b
  refine ⟨⟨cO_cg h.1 rfl (fun _ _ _ _ => rfl) (wL_ne _ _ _ _ (by omega)), ?_⟩, fun a q => ⟨fun _ => rfl, fun j => wL_ne _ _ _ _ (by omega), fun _ => rfl⟩⟩
  obtain ⟨hS, σ, h1, h2, ⟨ff, f1, f2, f3⟩, h4⟩ := h.2
  have es : ∀ a, a ≠ o + 263 → upσ σ (o + 263) T a = σ a := fun a q => upσ_ne _ _ q
  have wf := wf_of hS.2.2.2.2.2.1
  refine ⟨hS, upσ σ (o + 263) T, fun a ha => ?_, trS_fr (n := o + 260) hS.2.2.2.2.2 (by omega) h2 (fun a q => es a (by omega)), ⟨ff, f1, f2, fun ck hc q s hs => by rw [es _ (by omega)]; exact f3 ck hc q s hs⟩, ?_⟩
  · by_cases q : a = o + 263
    · rw [q, upσ_self]; exact hasS_set _ _ _
    · rw [es a q]; exact hasS_ne _ (h1 a ha) q
  · rcases h4 with q | ⟨t, q6, k1, k2, k3, k4, k5⟩
    · exact Or.inl q
    · refine Or.inr ⟨t, q6, k1, fun s hs => by rw [es _ (by omega)]; exact k2 s hs, fun q => fiE_fr wf (k3 q) (fun a _ _ => es a (by omega)), ?_, k5⟩
      rcases k4 with q | ⟨ac, q1, q2, q3, q4, q5⟩
      · exact Or.inl q
      · exact Or.inr ⟨ac, q1, q2, q3, fiE_fr wf q4 (fun a _ _ => es a (by omega)), fun l u hl hu => by rw [es _ (by omega)]; exact q5 l u hl hu⟩
theorem can_no {Q : AP} (hO : okM Q) {k s : Nat} : ¬ Can (edM Q) (flM Q (-9)) (nA Q) k s := by
  rintro ⟨r, hr⟩
  refine can_least (P := fun _ _ => False) (fun k s hk hs hf => ?_) (fun k s k' s' _ _ _ q => q) r k s hr
  have lt := (hO k hk).2.2.2.2.2.1 hf.1
  have e := congrArg Int32.toInt hf.2.2
  rw [nI_toInt (by omega)] at e
  have : (-9 : Int32).toInt = -9 := by decide
  omega
theorem whP_s {pg : PGM} {ze : SE} {i s : Nat} : whP pg ze (i + 1) s ↔ whP pg ze i s ∧ (ze.2.2 i = 1 ↔ Can (edM pg.1) (flM pg.1 (cvO pg (ze.2.1 i))) (nA pg.1) 0 s) := by
  constructor
  · intro h
    exact ⟨fun j hj => h j (by omega), h i (by omega)⟩
  · rintro ⟨h1, h2⟩ j hj
    by_cases e : j = i
    · rw [e]; exact h2
    · exact h1 j (by omega)
/-- the agreeing states, as far as seen -/
def agI (M : MM) (o : Nat) (V : RT) (su : SU) (ze : SE) (i : Nat) : Prop := ∃ T : ST, hasS M (o + 263) T ∧ ∀ s, s < 216 → (T s = true ↔ begS su.1 s = true ∧ whP (pgV V) ze i s)
theorem c_X11_findAgreeing {Γ : GT} {G : GG} {M : MM} {o : Nat} {b : Bool} {S V : RT} {tx : Nat → Nat} {len : Nat} {su : SU} {hy : HY} {kp : KP} {ze : SE} {sd : Int64} (hI : cInv G M o b S V tx len su hy kp ze sd) : Calls Γ q_X11_findAgreeing [.ref o] G M (rV (fun M' => agI M' o V su ze ze.1 ∧ cInv G M' o b S V tx len su hy kp ze sd ∧ offO o M M')) := by
  have hI0 := hI
  obtain ⟨hO, hA⟩ := hI
  have hO0 := hO
  obtain ⟨v22, v23, v24, v25, v26⟩ := cv_ok hO
  have z6 := hO.2.2.2.2.2.2.2.1.1
  have hP := hO.2.2.2.1.2
  have okm := (okV hP.2.2 hP.1).1
  refine Calls.intro (by decide +kernel) (Nat.le_of_ble_eq_true rfl) (fun z E h hQ => ?_)
  refine x_loc (L' := [some (.ref o), none, none, none]) rfl ?_
  have loop : ∀ i, i ≤ ze.1 → ∀ N, cInv G N o b S V tx len su hy kp ze sd → agI N o V su ze i → offO o M N → ∀ l2 l3, X Γ E 0 0 G z N 13 [some (.ref o), some (.int (nI i)), l2, l3] [] := by
    refine upto ze.1 (fun i hi ih N hI ha ho l2 l3 => ?_)
    have hI1 := hI
    obtain ⟨hO, hA⟩ := hI
    refine x_iload_n h dX11_findAgreeing_13 rfl ?_
    refine x_aload_n h dX11_findAgreeing_14 rfl ?_
    refine x_getIv h hO.1.1 f_X11_159 rfl hO.2.2.2.2.2.2.2.1.2.1 dX11_findAgreeing_15 ?_
    refine x_icmp_ge h 121 dX11_findAgreeing_18 (by decide) (fun c18 => ?_) (fun c18 => ?_)
    · obtain rfl : i = ze.1 := by
        have := (nI_le_iff (by omega) (by omega)).mp c18
        omega
      exact x_vret h hQ rfl dX11_findAgreeing_121 ⟨rfl, rfl, rfl, ha, hI1, ho⟩
    · have hlt : i < ze.1 := by
        have := mt (nI_le_iff (a := ze.1) (b := i) (by omega) (by omega)).mpr c18
        omega
      obtain ⟨y1, y2, y3, y4⟩ := (hO.2.2.2.2.2.2.2.1.2.2 i hlt)
      obtain ⟨T, hT, hTi⟩ := ha
      refine x_iload_n h dX11_findAgreeing_21 rfl ?_
      refine x_aload_n h dX11_findAgreeing_22 rfl ?_
      refine x_getR h hO.1.1 f_X11_47 rfl (lg_seenCheck hO.1).1 dX11_findAgreeing_23 ?_
      refine x_alen h (lg_seenCheck hO.1).2 (by decide) dX11_findAgreeing_26 ?_
      refine x_icmp_ge h 121 dX11_findAgreeing_27 (by decide) (fun c27 => ?_) (fun c27 => ?_)
      · exact absurd ((nI_le_iff (by omega) (by omega)).mp c27) (by omega)
      · refine x_iload_n h dX11_findAgreeing_30 rfl ?_
        refine x_aload_n h dX11_findAgreeing_31 rfl ?_
        refine x_getR h hO.1.1 f_X11_50 rfl (lg_seenWas hO.1).1 dX11_findAgreeing_32 ?_
        refine x_alen h (lg_seenWas hO.1).2 (by decide) dX11_findAgreeing_35 ?_
        refine x_icmp_ge h 121 dX11_findAgreeing_36 (by decide) (fun c36 => ?_) (fun c36 => ?_)
        · exact absurd ((nI_le_iff (by omega) (by omega)).mp c36) (by omega)
        · refine x_aload_n h dX11_findAgreeing_39 rfl ?_
          refine x_getR h hO.1.1 f_X11_47 rfl (lg_seenCheck hO.1).1 dX11_findAgreeing_40 ?_
          refine x_iload_n h dX11_findAgreeing_43 rfl ?_
          refine x_ialdv h i (lg_seenCheck hO.1).2 (ix.ni (by omega) (by decide)) y1 dX11_findAgreeing_44 ?_
          refine x_istore_n h dX11_findAgreeing_45 rfl rfl ?_
          dsimp only [List.set]
          refine x_iload_n h dX11_findAgreeing_46 rfl ?_
          refine x_aload_n h dX11_findAgreeing_47 rfl ?_
          refine x_getR h hO.1.1 f_X11_23 rfl (lg_code hO.1).1 dX11_findAgreeing_48 ?_
          refine x_getIv h (lg_code hO.1).2.1 f_X11_105 rfl (cv_k hO) dX11_findAgreeing_51 ?_
          refine x_icmp_ge h 98 dX11_findAgreeing_54 (by decide) (fun c54 => ?_) (fun c54 => ?_)
          · have hck : ¬ ze.2.1 i < V 0 23 := by
              have := (nI_le_iff (by omega) (by omega)).mp c54
              omega
            refine x_aload_n h dX11_findAgreeing_98 rfl ?_
            refine x_getR h hO.1.1 f_X11_50 rfl (lg_seenWas hO.1).1 dX11_findAgreeing_99 ?_
            refine x_iload_n h dX11_findAgreeing_102 rfl ?_
            refine x_ialdv h i (lg_seenWas hO.1).2 (ix.ni (by omega) (by decide)) y2 dX11_findAgreeing_103 ?_
            refine x_in1 h dX11_findAgreeing_104 ?_
            refine x_icmp_ne h 115 dX11_findAgreeing_105 (by decide) (fun c105 => ?_) (fun c105 => ?_)
            · have hw1 : ¬ ze.2.2 i = 1 := fun q => c105 (by rw [q])
              refine x_incn h dX11_findAgreeing_115 rfl rfl rfl ?_
              dsimp only [List.set]
              refine x_goto h 13 dX11_findAgreeing_118 (by decide) ?_
              refine ih hlt _ hI1 ⟨T, hT, fun s hs => ?_⟩ ho _ _
              rw [whP_s]
              have ce : ¬ Can (edM (pgV V).1) (flM (pgV V).1 (cvO (pgV V) (ze.2.1 i))) (nA (pgV V).1) 0 s := by
                rw [show cvO (pgV V) (ze.2.1 i) = -9 from if_neg hck]
                exact can_no okm
              have e := hTi s hs
              rw [e]
              simp [hw1, ce]
            · have hw1 : ze.2.2 i = 1 := nI_small 1 (by omega) (by decide) c105
              refine x_aload_n h dX11_findAgreeing_108 rfl ?_
              refine x_getR h hO.1.1 f_X11_59 rfl (lg_agreeing hO.1).1 dX11_findAgreeing_109 ?_
              refine x_cVv h ci_X9_clear im_X9_clear l_X11_257 ⟨Nat.le_of_ble_eq_true rfl, Nat.le_of_ble_eq_true rfl⟩ ⟨rfl, rfl⟩ ⟨Nat.zero_le _, Nat.zero_le _⟩ (c_X9_clear (lg_agreeing hO.1).2) rfl rfl rfl rfl (lg_agreeing hO.1).2.1 (by decide) rfl dX11_findAgreeing_112 (fun M112 hp112 => ?_)
              subst hp112
              obtain ⟨hI3, ho3⟩ := cInv_ag hI1 (fun _ => false)
              refine x_incn h dX11_findAgreeing_115 rfl rfl rfl ?_
              dsimp only [List.set]
              refine x_goto h 13 dX11_findAgreeing_118 (by decide) ?_
              refine ih hlt _ hI3 ⟨_, hasS_set _ _ _, fun s hs => ?_⟩ (oO_trans ho ho3) _ _
              rw [whP_s]
              have ce : ¬ Can (edM (pgV V).1) (flM (pgV V).1 (cvO (pgV V) (ze.2.1 i))) (nA (pgV V).1) 0 s := by
                rw [show cvO (pgV V) (ze.2.1 i) = -9 from if_neg hck]
                exact can_no okm
              have e := hTi s hs
              simp [hw1, ce]
          · have hck : ze.2.1 i < V 0 23 := by
              have := mt (nI_le_iff (a := V 0 23) (b := ze.2.1 i) (by omega) (by omega)).mpr c54
              omega
            refine x_aload_n h dX11_findAgreeing_57 rfl ?_
            refine x_getR h hO.1.1 f_X11_68 rfl (lg_analysis hO.1).1 dX11_findAgreeing_58 ?_
            refine x_iload_n h dX11_findAgreeing_61 rfl ?_
            refine x_cVr h ci_X0_failing im_X0_failing l_X11_247 ⟨Nat.le_of_ble_eq_true rfl, Nat.le_of_ble_eq_true rfl⟩ ⟨rfl, rfl⟩ ⟨Nat.zero_le _, Nat.zero_le _⟩ (s_failing hA (ck := ze.2.1 i) y3) rfl rfl rfl rfl (lg_analysis hO.1).2.1 (by decide) rfl dX11_findAgreeing_62 (fun v62 M62 hp62 => ?_)
            obtain ⟨rfl, hA, ho62, T2, hT2, hT2i⟩ := hp62
            have hO := cO_off hO ho62
            have hI2 : cInv G M62 o b S V tx len su hy kp ze sd := ⟨hO, hA⟩
            have y2b := ((ho62.2 (o + 261) (by omega)).1 i).trans y2
            have hTb : hasS M62 (o + 263) T := fun k hk => ((ho62.2 (o + 263 + 1) (by omega)).2 k).trans (hT k hk)
            have hfa := ((lg_analysis hO.1).2.2.2.2.2.2.2.2.2.2.2.2.2.2.2.2 (ze.2.1 i) y3).2.1
            refine x_astore_n h dX11_findAgreeing_65 rfl rfl ?_
            dsimp only [List.set]
            refine x_aload_n h dX11_findAgreeing_66 rfl ?_
            refine x_getR h hO.1.1 f_X11_50 rfl (lg_seenWas hO.1).1 dX11_findAgreeing_67 ?_
            refine x_iload_n h dX11_findAgreeing_70 rfl ?_
            refine x_ialdv h i (lg_seenWas hO.1).2 (ix.ni (by omega) (by decide)) (show _ = nI (ze.2.2 i) from y2b) dX11_findAgreeing_71 ?_
            refine x_in1 h dX11_findAgreeing_72 ?_
            refine x_icmp_ne h 87 dX11_findAgreeing_73 (by decide) (fun c73 => ?_) (fun c73 => ?_)
            · have hw1 : ¬ ze.2.2 i = 1 := fun q => c73 (by rw [q])
              refine x_aload_n h dX11_findAgreeing_87 rfl ?_
              refine x_getR h hO.1.1 f_X11_59 rfl (lg_agreeing hO.1).1 dX11_findAgreeing_88 ?_
              refine x_aload_n h dX11_findAgreeing_91 rfl ?_
              refine x_cVv h ci_X9_remove im_X9_remove l_X11_254 ⟨Nat.le_of_ble_eq_true rfl, Nat.le_of_ble_eq_true rfl⟩ ⟨rfl, rfl⟩ ⟨Nat.zero_le _, Nat.zero_le _⟩ (c_X9_remove (lg_agreeing hO.1).2 hTb hfa hT2) rfl rfl rfl rfl (lg_agreeing hO.1).2.1 (by decide) rfl dX11_findAgreeing_92 (fun M92 hp92 => ?_)
              subst hp92
              obtain ⟨hI3, ho3⟩ := cInv_ag hI2 (fun s => T s && !T2 s)
              refine x_goto h 115 dX11_findAgreeing_95 (by decide) ?_
              refine x_incn h dX11_findAgreeing_115 rfl rfl rfl ?_
              dsimp only [List.set]
              refine x_goto h 13 dX11_findAgreeing_118 (by decide) ?_
              refine ih hlt _ hI3 ⟨_, hasS_set _ _ _, fun s hs => ?_⟩ (oO_trans (oO_trans ho (oO_A ho62)) ho3) _ _
              rw [whP_s]
              have ce : Can (edM (pgV V).1) (flM (pgV V).1 (cvO (pgV V) (ze.2.1 i))) (nA (pgV V).1) 0 s ↔ T2 s = true := by
                rw [hT2i s hs, ← can_eq hP y3]
                rw [show cvO (pgV V) (ze.2.1 i) = nI (ze.2.1 i) from if_pos hck]
              rw [ce]
              have e := hTi s hs
              cases q1 : T s <;> cases q2 : T2 s <;> simp_all
            · have hw1 : ze.2.2 i = 1 := nI_small 1 (by omega) (by decide) c73
              refine x_aload_n h dX11_findAgreeing_76 rfl ?_
              refine x_getR h hO.1.1 f_X11_59 rfl (lg_agreeing hO.1).1 dX11_findAgreeing_77 ?_
              refine x_aload_n h dX11_findAgreeing_80 rfl ?_
              refine x_cVv h ci_X9_meet im_X9_meet l_X11_251 ⟨Nat.le_of_ble_eq_true rfl, Nat.le_of_ble_eq_true rfl⟩ ⟨rfl, rfl⟩ ⟨Nat.zero_le _, Nat.zero_le _⟩ (c_X9_meet (lg_agreeing hO.1).2 hTb hfa hT2) rfl rfl rfl rfl (lg_agreeing hO.1).2.1 (by decide) rfl dX11_findAgreeing_81 (fun M81 hp81 => ?_)
              subst hp81
              obtain ⟨hI3, ho3⟩ := cInv_ag hI2 (fun s => T s && T2 s)
              refine x_goto h 95 dX11_findAgreeing_84 (by decide) ?_
              refine x_goto h 115 dX11_findAgreeing_95 (by decide) ?_
              refine x_incn h dX11_findAgreeing_115 rfl rfl rfl ?_
              dsimp only [List.set]
              refine x_goto h 13 dX11_findAgreeing_118 (by decide) ?_
              refine ih hlt _ hI3 ⟨_, hasS_set _ _ _, fun s hs => ?_⟩ (oO_trans (oO_trans ho (oO_A ho62)) ho3) _ _
              rw [whP_s]
              have ce : Can (edM (pgV V).1) (flM (pgV V).1 (cvO (pgV V) (ze.2.1 i))) (nA (pgV V).1) 0 s ↔ T2 s = true := by
                rw [hT2i s hs, ← can_eq hP y3]
                rw [show cvO (pgV V) (ze.2.1 i) = nI (ze.2.1 i) from if_pos hck]
              rw [ce]
              have e := hTi s hs
              cases q1 : T s <;> cases q2 : T2 s <;> simp_all
  refine x_aload_n h dX11_findAgreeing_0 rfl ?_
  refine x_getR h hO.1.1 f_X11_33 rfl (lg_setup hO.1).1 dX11_findAgreeing_1 ?_
  refine x_aload_n h dX11_findAgreeing_4 rfl ?_
  refine x_getR h hO.1.1 f_X11_59 rfl (lg_agreeing hO.1).1 dX11_findAgreeing_5 ?_
  refine x_cVv h ci_X8_fillIn im_X8_fillIn l_X11_243 ⟨Nat.le_of_ble_eq_true rfl, Nat.le_of_ble_eq_true rfl⟩ ⟨rfl, rfl⟩ ⟨Nat.zero_le _, Nat.zero_le _⟩ (c_X8_fillIn (lg_setup hO.1).2 hO.2.2.2.2.1.1 (lg_agreeing hO.1).2 (cv_6 hO)) rfl rfl rfl rfl (lg_setup hO.1).2.1 (by decide) rfl dX11_findAgreeing_8 (fun M8 hp8 => ?_)
  subst hp8
  obtain ⟨hI3, ho3⟩ := cInv_ag hI0 (begS su.1)
  refine x_in0 h dX11_findAgreeing_11 ?_
  refine x_istore_n h dX11_findAgreeing_12 rfl rfl ?_
  dsimp only [List.set]
  exact loop 0 (Nat.zero_le _) _ hI3 ⟨_, hasS_set _ _ _, fun s hs => ⟨fun q => ⟨q, fun j hj => absurd hj (Nat.not_lt_zero _)⟩, fun q => q.1⟩⟩ ho3 none none
theorem c_X11_which_0 {Γ : GT} {G : GG} {M : MM} {o : Nat} {b : Bool} {S V : RT} {tx : Nat → Nat} {len : Nat} {su : SU} {hy : HY} {kp : KP} {ze : SE} {sd : Int64} (hI : cInv G M o b S V tx len su hy kp ze sd) {x : Int32} (hx : ∀ n, n < 2 → x ≠ nI n) : Calls Γ q_X11_which [.ref o, .int x] G M (rI (fun y M' => y = -2 ∧ cInv G M' o b S V (tx) (len) (su) (hy) (kp) (ze) (sd) ∧ offO o M M')) := by
  have hI0 := hI
  obtain ⟨hO, hA⟩ := hI
  have hO0 := hO
  obtain ⟨v22, v23, v24, v25, v26⟩ := cv_ok hO
  refine Calls.intro (by decide +kernel) (Nat.le_of_ble_eq_true rfl) (fun z E h hQ => ?_)
  refine x_loc (L' := [some (.ref o), some (.int x)]) rfl ?_
  refine x_iload_n h dX11_which_0 rfl ?_
  refine x_if_lt h 9 dX11_which_1 (by decide) (fun c1 => ?_) (fun c1 => ?_)
  · refine x_bipush h (-2) (by decide) dX11_which_9 ?_
    exact x_iret h hQ rfl dX11_which_11 ⟨rfl, rfl, _, rfl, rfl, hI0, oO_refl o M⟩
  · refine x_iload_n h dX11_which_4 rfl ?_
    refine x_in1 h dX11_which_5 ?_
    refine x_icmp_le h 12 dX11_which_6 (by decide) (fun c6 => ?_) (fun c6 => ?_)
    · exact absurd c6 (rng_le (by decide) hx c1)
    · refine x_bipush h (-2) (by decide) dX11_which_9 ?_
      exact x_iret h hQ rfl dX11_which_11 ⟨rfl, rfl, _, rfl, rfl, hI0, oO_refl o M⟩
theorem c_X11_which_1 {Γ : GT} {G : GG} {M : MM} {o : Nat} {b : Bool} {S V : RT} {tx : Nat → Nat} {len : Nat} {su : SU} {hy : HY} {kp : KP} {ze : SE} {sd : Int64} (hI : cInv G M o b S V tx len su hy kp ze sd) {n : Nat} (hn : n < 2) : Calls Γ q_X11_which [.ref o, .int (nI n)] G M (rI (fun y M' => whS (pgV V) su ze n y ∧ cInv G M' o b S V (tx) (len) (su) (hy) (kp) (ze) (sd) ∧ offO o M M')) := by
  have hI0 := hI
  obtain ⟨hO, hA⟩ := hI
  have hO0 := hO
  obtain ⟨v22, v23, v24, v25, v26⟩ := cv_ok hO
  refine Calls.intro (by decide +kernel) (Nat.le_of_ble_eq_true rfl) (fun z E h hQ => ?_)
  refine x_loc (L' := [some (.ref o), some (.int (nI n))]) rfl ?_
  refine x_iload_n h dX11_which_0 rfl ?_
  refine x_if_lt h 9 dX11_which_1 (by decide) (fun c1 => ?_) (fun c1 => ?_)
  · exact (nI_nneg (by omega) c1).elim
  · refine x_iload_n h dX11_which_4 rfl ?_
    refine x_in1 h dX11_which_5 ?_
    refine x_icmp_le h 12 dX11_which_6 (by decide) (fun c6 => ?_) (fun c6 => ?_)
    · refine x_aload_n h dX11_which_12 rfl ?_
      refine x_cVv h ci_X11_findAgreeing im_X11_findAgreeing l_X11_237 ⟨Nat.le_of_ble_eq_true rfl, Nat.le_of_ble_eq_true rfl⟩ ⟨rfl, rfl⟩ ⟨Nat.zero_le _, Nat.zero_le _⟩ (c_X11_findAgreeing hI0) rfl rfl rfl rfl hO.1.1 (by decide) rfl dX11_which_13 (fun M13 hp13 => ?_)
      obtain ⟨⟨T, hT, hTi⟩, hI1, ho1⟩ := hp13
      have hO := hI1.1
      refine x_iload_n h dX11_which_16 rfl ?_
      refine x_if_ne h 30 dX11_which_17 (by decide) (fun c17 => ?_) (fun c17 => ?_)
      · have n0 : ¬ n = 0 := fun q => c17 (by rw [q]; exact nI_0)
        refine x_aload_n h dX11_which_30 rfl ?_
        refine x_getR h hO.1.1 f_X11_59 rfl (lg_agreeing hO.1).1 dX11_which_31 ?_
        refine x_cVi h ci_X9_smallest im_X9_smallest l_X11_240 ⟨Nat.le_of_ble_eq_true rfl, Nat.le_of_ble_eq_true rfl⟩ ⟨rfl, rfl⟩ ⟨Nat.zero_le _, Nat.zero_le _⟩ (c_X9_smallest (lg_agreeing hO.1).2 hT) rfl rfl rfl rfl (lg_agreeing hO.1).2.1 (by decide) rfl dX11_which_34 (fun v34 M34 hp34 => ?_)
        have hv := hp34.1
        have hM := hp34.2
        clear hp34
        rw [hv]
        clear hv v34
        obtain rfl := hM.symm
        clear hM
        exact x_iret h hQ rfl dX11_which_37 ⟨rfl, rfl, _, rfl, ⟨T, hTi, (if_neg n0).symm⟩, hI1, ho1⟩
      · have n0 : n = 0 := nI_small 0 (by omega) (by decide) (c17.trans nI_0.symm)
        refine x_aload_n h dX11_which_20 rfl ?_
        refine x_getR h hO.1.1 f_X11_59 rfl (lg_agreeing hO.1).1 dX11_which_21 ?_
        refine x_cVi h ci_X9_count im_X9_count l_X11_155 ⟨Nat.le_of_ble_eq_true rfl, Nat.le_of_ble_eq_true rfl⟩ ⟨rfl, rfl⟩ ⟨Nat.zero_le _, Nat.zero_le _⟩ (c_X9_count (lg_agreeing hO.1).2 hT) rfl rfl rfl rfl (lg_agreeing hO.1).2.1 (by decide) rfl dX11_which_24 (fun v24 M24 hp24 => ?_)
        have hv := hp24.1
        have hM := hp24.2
        clear hp24
        rw [hv]
        clear hv v24
        obtain rfl := hM.symm
        clear hM
        refine x_goto h 37 dX11_which_27 (by decide) ?_
        exact x_iret h hQ rfl dX11_which_37 ⟨rfl, rfl, _, rfl, ⟨T, hTi, (if_pos n0).symm⟩, hI1, ho1⟩
    · exact absurd ((nI_le_iff (by omega) (by omega)).mpr (by omega)) c6
