/-! ===== the law: its loop, and from its entry to its end ===== -/
theorem lw_neg : ∀ i, i < 4 → nI i - nI 4 < nI 0 := by decide
theorem lw_in {sl i : Nat} (h31 : sl ≤ 2048) (hi : i ≤ sl) (c : ¬ (nI sl - nI 4 < nI i)) : i + 4 ≤ sl := by
  rcases Nat.lt_or_ge sl 4 with q | q
  · exfalso
    apply c
    have h0 := lw_neg sl q
    rw [Int32.lt_iff_toInt_lt] at h0 ⊢
    rw [nI_toInt (by decide)] at h0
    rw [nI_toInt (by omega)]
    omega
  · rw [pk_sub q, nI_lt_iff (by omega) (by omega)] at c
    omega
theorem lw_t (x : Int32) : ∃ t, t ≤ 31 ∧ x &&& nI 31 = nI t := by
  obtain ⟨i, -, rfl⟩ := wb_of32 x
  exact ⟨i &&& 31, Nat.and_le_right, fa_and i 31⟩
section LL
variable {Γ : GT} {E : CT} {nm : String} {k n : Nat} {G : GG} {z : Nat} {b sl : Nat} {xs : Nat → Int32} {o m : Nat}
theorem lw_step {M : MM} {j : Nat} (h : Ok Γ E (q_L nm)) (hX : va_X b sl xs E.1.2.2.1 Γ.2.2.2.1) (h31 : sl ≤ 2048) (hj : 4 * j + 4 ≤ sl) (hk : k ≤ 600000 ∧ n ≤ 7302250) (hB : bothI G M o m) (go : G o = some (.inl 11)) (gm : G m = some (.inl 12)) (nx : ∀ M2 : MM, bothI G M2 o m → X Γ E k n G z M2 792 [some (.ref b), some (.ref o), some (.ref m), some (.int (nI (4 * j)))] []) : X Γ E k n G z M 26 [some (.ref b), some (.ref o), some (.ref m), some (.int (nI (4 * j)))] [] := by
  refine x_aload_n h dL_law_26 rfl ?_
  refine x_iload_n h dL_law_27 rfl ?_
  refine x_sget h hX h31 (by omega) dL_law_28 ?_
  refine x_bipush h (nI 31) (by decide) dL_law_29 ?_
  refine x_iand h dL_law_31 ?_
  obtain ⟨t, ht, e⟩ := lw_t (xs (4 * j))
  refine x_topi e ?_
  match t, ht with
  | 0, _ => exact x_tin h (off := 108) 140 dL_law_32 (by decide) (by decide) (by decide +kernel) (by decide) (lc_write h hX h31 hj hk hB go gm nx)
  | 1, _ => exact x_tin h (off := 131) 163 dL_law_32 (by decide) (by decide) (by decide +kernel) (by decide) (lc_wipe h hX h31 hj hk hB go gm nx)
  | 2, _ => exact x_tin h (off := 144) 176 dL_law_32 (by decide) (by decide) (by decide +kernel) (by decide) (lc_fault h hX h31 hj hk hB go gm nx)
  | 3, _ => exact x_tin h (off := 157) 189 dL_law_32 (by decide) (by decide) (by decide +kernel) (by decide) (lc_program h hX h31 hj hk hB go gm nx)
  | 4, _ => exact x_tin h (off := 170) 202 dL_law_32 (by decide) (by decide) (by decide +kernel) (by decide) (lc_about h hX h31 hj hk hB go gm nx)
  | 5, _ => exact x_tin h (off := 193) 225 dL_law_32 (by decide) (by decide) (by decide +kernel) (by decide) (lc_loop h hX h31 hj hk hB go gm nx)
  | 6, _ => exact x_tin h (off := 226) 258 dL_law_32 (by decide) (by decide) (by decide +kernel) (by decide) (lc_check h hX h31 hj hk hB go gm nx)
  | 7, _ => exact x_tin h (off := 259) 291 dL_law_32 (by decide) (by decide) (by decide +kernel) (by decide) (lc_start h hX h31 hj hk hB go gm nx)
  | 8, _ => exact x_tin h (off := 282) 314 dL_law_32 (by decide) (by decide) (by decide +kernel) (by decide) (lc_begin h hX h31 hj hk hB go gm nx)
  | 9, _ => exact x_tin h (off := 315) 347 dL_law_32 (by decide) (by decide) (by decide +kernel) (by decide) (lc_turn h hX h31 hj hk hB go gm nx)
  | 10, _ => exact x_tin h (off := 338) 370 dL_law_32 (by decide) (by decide) (by decide +kernel) (by decide) (lc_undo h hX h31 hj hk hB go gm nx)
  | 11, _ => exact x_tin h (off := 351) 383 dL_law_32 (by decide) (by decide) (by decide +kernel) (by decide) (lc_falls h hX h31 hj hk hB go gm nx)
  | 12, _ => exact x_tin h (off := 384) 416 dL_law_32 (by decide) (by decide) (by decide +kernel) (by decide) (lc_fewest h hX h31 hj hk hB go gm nx)
  | 13, _ => exact x_tin h (off := 407) 439 dL_law_32 (by decide) (by decide) (by decide +kernel) (by decide) (lc_judge h hX h31 hj hk hB go gm nx)
  | 14, _ => exact x_tin h (off := 470) 502 dL_law_32 (by decide) (by decide) (by decide +kernel) (by decide) (lc_share h hX h31 hj hk hB go gm nx)
  | 15, _ => exact x_tin h (off := 519) 551 dL_law_32 (by decide) (by decide) (by decide +kernel) (by decide) (lc_see h hX h31 hj hk hB go gm nx)
  | 16, _ => exact x_tin h (off := 552) 584 dL_law_32 (by decide) (by decide) (by decide +kernel) (by decide) (lc_unsee h hX h31 hj hk hB go gm nx)
  | 17, _ => exact x_tin h (off := 565) 597 dL_law_32 (by decide) (by decide) (by decide +kernel) (by decide) (lc_which h hX h31 hj hk hB go gm nx)
  | 18, _ => exact x_tin h (off := 588) 620 dL_law_32 (by decide) (by decide) (by decide +kernel) (by decide) (lc_lost h hX h31 hj hk hB go gm nx)
  | 19, _ => exact x_tin h (off := 637) 669 dL_law_32 (by decide) (by decide) (by decide +kernel) (by decide) (lc_seed h hX h31 hj hk hB go gm nx)
  | 20, _ => exact x_tin h (off := 691) 723 dL_law_32 (by decide) (by decide) (by decide +kernel) (by decide) (lc_drawn h hX h31 hj hk hB go gm nx)
  | 21, _ => exact x_tin h (off := 714) 746 dL_law_32 (by decide) (by decide) (by decide +kernel) (by decide) (lc_keep h hX h31 hj hk hB go gm nx)
  | 22, _ => exact x_tin h (off := 737) 769 dL_law_32 (by decide) (by decide) (by decide +kernel) (by decide) (lc_again h hX h31 hj hk hB go gm nx)
  | t + 23, ht => exact x_tout h 792 dL_law_32 (Or.inr (by rw [nI_toInt (by omega)]; omega)) (by decide) (nx M hB)
theorem lw_loop (h : Ok Γ E (q_L nm)) (hX : va_X b sl xs E.1.2.2.1 Γ.2.2.2.1) (h31 : sl ≤ 2048) (hk : k ≤ 600000 ∧ n ≤ 7302250) (go : G o = some (.inl 11)) (gm : G m = some (.inl 12)) (hend : ∀ (M : MM) (L : List (Option Value)), X Γ E k n G z M 799 L [.int 1]) : ∀ (r j : Nat) (M : MM), 4 * j ≤ sl → sl < 4 * j + 4 + 4 * r → bothI G M o m → X Γ E k n G z M 18 [some (.ref b), some (.ref o), some (.ref m), some (.int (nI (4 * j)))] [] := by
  intro r
  induction r with
  | zero =>
    intro j M hj hr hB
    refine x_iload_n h dL_law_18 rfl ?_
    refine x_aload_n h dL_law_19 rfl ?_
    refine x_slen h hX dL_law_20 ?_
    refine x_in4 h dL_law_21 ?_
    refine x_isub h dL_law_22 ?_
    refine x_icmp_gt h 798 dL_law_23 (by decide) (fun _ => ?_) (fun c => ?_)
    · exact x_ic1 h dL_law_798 (hend M _)
    · have := lw_in h31 hj c
      omega
  | succ r ih =>
    intro j M hj hr hB
    refine x_iload_n h dL_law_18 rfl ?_
    refine x_aload_n h dL_law_19 rfl ?_
    refine x_slen h hX dL_law_20 ?_
    refine x_in4 h dL_law_21 ?_
    refine x_isub h dL_law_22 ?_
    refine x_icmp_gt h 798 dL_law_23 (by decide) (fun _ => ?_) (fun c => ?_)
    · exact x_ic1 h dL_law_798 (hend M _)
    · have hj4 := lw_in h31 hj c
      refine lw_step h hX h31 hj4 hk hB go gm (fun M2 hB2 => ?_)
      refine x_iinc h (nI 4) (by decide) dL_law_792 rfl rfl rfl ?_
      refine x_loc (L' := [some (.ref b), some (.ref o), some (.ref m), some (.int (nI (4 * (j + 1))))]) (by dsimp only [List.set]; rw [show 4 * (j + 1) = 4 * j + 4 from rfl, ← nI_add]) ?_
      exact x_goto h 18 dL_law_795 (by decide) (ih (j + 1) M2 (by omega) (by omega) hB2)
end LL
theorem md_nD {G : GG} {R : Nat → Nat → Value} {m : Nat} (h : mdF G R m) : ∀ a, m ≤ a → a < m + 33 → DG G a = false := by
  intro a h1 h2
  obtain ⟨i, rfl⟩ := Nat.exists_eq_add_of_le h1
  have hi : i < 33 := by omega
  clear h1 h2
  match i, hi with
  | 0, _ => unfold DG; rw [show G (m + 0) = some (.inl 12) from h.1]; rfl
  | 1, _ => unfold DG; rw [(md_text h).2]
  | 2, _ => unfold DG; rw [(md_kind h).2]
  | 3, _ => unfold DG; rw [(md_variable h).2]
  | 4, _ => unfold DG; rw [(md_sign h).2]
  | 5, _ => unfold DG; rw [(md_term h).2]
  | 6, _ => unfold DG; rw [(md_number h).2]
  | 7, _ => unfold DG; rw [(md_leads h).2]
  | 8, _ => unfold DG; rw [(md_guessVariable h).2]
  | 9, _ => unfold DG; rw [(md_guessSign h).2]
  | 10, _ => unfold DG; rw [(md_guessTerm h).2]
  | 11, _ => unfold DG; rw [(md_readKind h).2]
  | 12, _ => unfold DG; rw [(md_readVariable h).2]
  | 13, _ => unfold DG; rw [(md_readSign h).2]
  | 14, _ => unfold DG; rw [(md_readTerm h).2]
  | 15, _ => unfold DG; rw [(md_readNumber h).2]
  | 16, _ => unfold DG; rw [(md_readLeads h).2]
  | 17, _ => unfold DG; rw [(md_readGuessVariable h).2]
  | 18, _ => unfold DG; rw [(md_readGuessSign h).2]
  | 19, _ => unfold DG; rw [(md_readGuessTerm h).2]
  | 20, _ => unfold DG; rw [(md_open h).2]
  | 21, _ => unfold DG; rw [(md_now h).2]
  | 22, _ => unfold DG; rw [(md_trial h).2]
  | 23, _ => unfold DG; rw [(md_diary h).2]
  | 24, _ => unfold DG; rw [(md_kept h).2]
  | 25, _ => unfold DG; rw [(md_isKept h).2]
  | 26, _ => unfold DG; rw [(md_seenCheck h).2]
  | 27, _ => unfold DG; rw [(md_seenWas h).2]
  | 28, _ => unfold DG; rw [(md_comes h).2]
  | 29, _ => unfold DG; rw [(md_fresh h).2]
  | 30, _ => unfold DG; rw [(md_has h).2]
  | 31, _ => unfold DG; rw [(md_mays h).2]
  | 32, _ => unfold DG; rw [(md_worth h).2]
  | i + 33, hi => omega
theorem law_all {Γ : GT} {E : CT} {nm : String} {z : Nat} {b sl : Nat} {xs : Nat → Int32} {M : MM} (h : Ok Γ E (q_L nm)) (hX : va_X b sl xs E.1.2.2.1 Γ.2.2.2.1) (h31 : sl ≤ 2048) (hend : ∀ (k n : Nat) (G : GG) (z : Nat) (M : MM) (L : List (Option Value)), k ≤ 600000 ∧ n ≤ 7302250 → X Γ E k n G z M 799 L [.int 1]) : X Γ E 0 0 (fun _ => none) z M 0 [some (.ref b), none, none, none] [] := by
  refine x_new h (ci := 11) (by decide) k_L_7 mk_X11 ini_X11 ⟨Nat.le_of_ble_eq_true rfl, Nat.le_of_ble_eq_true rfl⟩ dL_law_0 ?_
  refine x_dup h rfl dL_law_3 ?_
  refine x_cI h ci_X11_init im_X11_init rfl rfl l_L_9 ⟨Nat.le_of_ble_eq_true rfl, Nat.le_of_ble_eq_true rfl⟩ rfl rfl ⟨Nat.le_of_ble_eq_true rfl, Nat.le_of_ble_eq_true rfl⟩ (c_X11_init (b := z) (tx := fun _ => 0) (h2 := fun _ => su0) (z2 := (fun _ => 0, fun _ => 0)) (if_pos rfl) ?_ ?_) rfl rfl rfl rfl dL_law_4 (fun G1 z1 M1 hp => ?_)
  · intro j
    exact if_pos rfl
  · intro a ha
    unfold DG gup at ha
    by_cases c : a = z
    · rw [if_pos c] at ha; cases ha
    · rw [if_neg c] at ha; cases ha
  obtain ⟨rfl, x1, hI⟩ := hp
  refine x_astore_n h dL_law_7 rfl rfl ?_
  dsimp only [List.set]
  refine x_new h (ci := 12) (by decide) k_L_10 mk_X12 ini_X12 ⟨Nat.le_of_ble_eq_true rfl, Nat.le_of_ble_eq_true rfl⟩ dL_law_8 ?_
  refine x_dup h rfl dL_law_11 ?_
  refine x_cI h ci_X12_init im_X12_init rfl rfl l_L_12 ⟨Nat.le_of_ble_eq_true rfl, Nat.le_of_ble_eq_true rfl⟩ rfl rfl ⟨Nat.le_of_ble_eq_true rfl, Nat.le_of_ble_eq_true rfl⟩ (c_X12_init (b := z + 435) (tx := fun _ => 0) (h2 := fun _ => su0) (z2 := (fun _ => 0, fun _ => 0)) (if_pos rfl) (fun j => if_pos rfl) (fun j => if_pos rfl)) rfl rfl rfl rfl dL_law_12 (fun G2 z2 M2 hp => ?_)
  obtain ⟨rfl, x2, hF, hJ⟩ := hp
  refine x_astore_n h dL_law_15 rfl rfl ?_
  dsimp only [List.set]
  have g0 : ∀ a, z + 435 + 33 ≤ a → G2 a = none := fun a ha => by
    rw [x2.1 a (Or.inr ha)]
    show (if a = z + 435 then _ else G1 a) = none
    rw [if_neg (by omega), x1.1 a (Or.inr (by omega))]
    exact if_neg (by omega)
  have g1 : ∀ a, a < z + 435 → G2 a = G1 a := fun a ha => by
    rw [x2.1 a (Or.inl (by omega))]
    exact if_neg (by omega)
  have hD : ∀ a, DG G2 a = true → z ≤ a ∧ a < z + 434 := fun a ha => by
    rcases Nat.lt_or_ge a (z + 435) with q | q
    · refine lg_D hI.1.1 a ?_
      unfold DG at ha ⊢
      rw [g1 a q] at ha
      exact ha
    · rcases Nat.lt_or_ge a (z + 435 + 33) with q2 | q2
      · rw [md_nD hF a q q2] at ha; cases ha
      · unfold DG at ha
        rw [g0 a q2] at ha; cases ha
  have hI2 := cInv_x hI (fun a _ q => g1 a (by omega)) (fun a _ q => ⟨fun j => ((x2.2.1 a (by omega)).1 j).trans (if_neg (by omega)), fun j => ((x2.2.1 a (by omega)).2.1 j).trans (if_neg (by omega)), fun j => ((x2.2.1 a (by omega)).2.2 j).trans (if_neg (by omega))⟩) hD
  refine x_in0 h dL_law_16 ?_
  refine x_istore_n h dL_law_17 rfl rfl ?_
  dsimp only [List.set]
  have hk : 0 + 1 + 434 + 1 + 32 ≤ 600000 ∧ 0 + cN 11 + 1990 + cN 12 + 1463 ≤ 7302250 := ⟨Nat.le_of_ble_eq_true rfl, Nat.le_of_ble_eq_true rfl⟩
  exact lw_loop h hX h31 hk hI2.1.1.1 hF.1 (fun M L => hend _ _ _ _ M L hk) sl 0 M2 (by omega) (by omega) ⟨Nat.le_refl _, _, _, _, _, _, _, _, _, _, _, hI2, hF, hJ⟩
