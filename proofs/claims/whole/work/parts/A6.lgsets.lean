/-! ===== LoopGuesses: fewest, share, lost, which ===== -/
theorem sub_lt {a i ng : Nat} (ha : a < 2 ^ ng) (h5 : ng ≤ 5) (hi : i < 32) (h : difG i a = 0) : i < 2 ^ ng := by
  have p := pow_le32 h5
  have := dif_le a (by omega) i hi h
  omega
theorem own_z {a g : Nat} (ha : a < 32) : nI a &&& nI (2 ^ g) = 0 ↔ a.testBit g = false := by
  rw [fa_and, ← fb_bit_nat a g]
  have le : a &&& 2 ^ g ≤ a := Nat.and_le_left
  constructor
  · intro q; exact nI_small 0 (by omega) (by decide) (q.trans nI_0.symm)
  · intro q; rw [q]; exact nI_0
theorem pv_mon {G : GG} {M : MM} {o : Nat} {b : Bool} {S V : RT} {tx : Nat → Nat} {len : Nat} {su : SU} {hy : HY} {kp : KP} {ze : SE} {sd : Int64} (h : cO G M o b S V tx len su hy kp ze sd) {s g : Nat} (hs : s < 32) (hg : g < 5) : pvN (pgV V) su s ≤ pvN (pgV V) su (s ||| 2 ^ g) := by
  have ok := okV h.2.2.2.1.2.2.2 h.2.2.2.1.2.1
  have p : 2 ^ g < 32 := Nat.pow_lt_pow_right (by decide) hg
  exact pv_mono ok.1 ok.2.2.1 hs (Nat.or_lt_two_pow (n := 5) hs p) (fun i q => by rw [fb_bit_set, q]; rfl)
theorem c_X11_fewest_0 {Γ : GT} {G : GG} {M : MM} {o : Nat} {b : Bool} {S V : RT} {tx : Nat → Nat} {len : Nat} {su : SU} {hy : HY} {kp : KP} {ze : SE} {sd : Int64} (hI : cInv G M o b S V tx len su hy kp ze sd) {x : Int32} (hx : ∀ n, n < 2 → x ≠ nI n) : Calls Γ q_X11_fewest [.ref o, .int x] G M (rI (fun y M' => y = -2 ∧ cInv G M' o b S V (tx) (len) (su) (hy) (kp) (ze) (sd) ∧ offO o M M')) := by
  have hI0 := hI
  obtain ⟨hO, hA⟩ := hI
  have hO0 := hO
  obtain ⟨v22, v23, v24, v25, v26⟩ := cv_ok hO
  refine Calls.intro (by decide +kernel) (Nat.le_of_ble_eq_true rfl) (fun z E h hQ => ?_)
  refine x_loc (L' := [some (.ref o), some (.int x), none, none, none, none, none]) rfl ?_
  refine x_iload_n h dX11_fewest_0 rfl ?_
  refine x_if_lt h 9 dX11_fewest_1 (by decide) (fun c1 => ?_) (fun c1 => ?_)
  · refine x_bipush h (-2) (by decide) dX11_fewest_9 ?_
    exact x_iret h hQ rfl dX11_fewest_11 ⟨rfl, rfl, _, rfl, rfl, hI0, oO_refl o M⟩
  · refine x_iload_n h dX11_fewest_4 rfl ?_
    refine x_in1 h dX11_fewest_5 ?_
    refine x_icmp_le h 12 dX11_fewest_6 (by decide) (fun c6 => ?_) (fun c6 => ?_)
    · exact absurd c6 (rng_le (by decide) hx c1)
    · refine x_bipush h (-2) (by decide) dX11_fewest_9 ?_
      exact x_iret h hQ rfl dX11_fewest_11 ⟨rfl, rfl, _, rfl, rfl, hI0, oO_refl o M⟩
theorem c_X11_fewest_1 {Γ : GT} {G : GG} {M : MM} {o : Nat} {b : Bool} {S V : RT} {tx : Nat → Nat} {len : Nat} {su : SU} {hy : HY} {kp : KP} {ze : SE} {sd : Int64} (hI : cInv G M o b S V tx len su hy kp ze sd) {n : Nat} (hn : n < 2) : Calls Γ q_X11_fewest [.ref o, .int (nI n)] G M (rI (fun y M' => y = nI (if n = 0 then on5 (fwN (pvN (pgV V) su) (actP (pgV V) su) ((actP (pgV V) su) + 1)) else fwN (pvN (pgV V) su) (actP (pgV V) su) ((actP (pgV V) su) + 1)) ∧ cInv G M' o b S V (tx) (len) (su) (hy) (kp) (ze) (sd) ∧ offO o M M')) := by
  have hI0 := hI
  obtain ⟨hO, hA⟩ := hI
  have hO0 := hO
  obtain ⟨v22, v23, v24, v25, v26⟩ := cv_ok hO
  have a32 : actP (pgV V) su < 32 := actP_lt su v26
  have alt : actP (pgV V) su < 2 ^ V 0 26 := act_lt (V 0 26) su.2
  have hP := hO.2.2.2.1.2
  have fe := fw_eq (pv := (pvN (pgV V) su)) (all := (actP (pgV V) su)) (N := 32) rfl a32
  have fl : ∀ i, i ≤ 32 → (fwC (pvN (pgV V) su) (actP (pgV V) su) i) < 32 := fun i hi => Nat.lt_of_le_of_lt (fwC_sp a32 i hi).1 a32
  refine Calls.intro (by decide +kernel) (Nat.le_of_ble_eq_true rfl) (fun z E h hQ => ?_)
  refine x_loc (L' := [some (.ref o), some (.int (nI n)), none, none, none, none, none]) rfl ?_
  have loop : ∀ i, i ≤ 32 → ∀ N, cO G N o b S V tx len su hy kp ze sd → aK G N (o + 265) (cd o b) S V su.1 → offO o M N → X Γ E 0 0 G z N 46 [some (.ref o), some (.int (nI n)), some (.int (nI (actP (pgV V) su))), some (.ref (o + 265)), some (.int (nI (pvN (pgV V) su (actP (pgV V) su)))), some (.int (nI (fwC (pvN (pgV V) su) (actP (pgV V) su) i))), some (.int (nI i))] [] := by
    refine upto 32 (fun i hi ih N hO hK ho => ?_)
    refine x_iload h dX11_fewest_46 rfl ?_
    refine x_bipush h (nI 32) (by decide) dX11_fewest_48 ?_
    refine x_icmp_ge h 99 dX11_fewest_50 (by decide) (fun c50 => ?_) (fun c50 => ?_)
    · obtain rfl : i = 32 := up_ge (by decide) hi c50
      refine x_iload_n h dX11_fewest_99 rfl ?_
      refine x_if_ne h 111 dX11_fewest_100 (by decide) (fun c100 => ?_) (fun c100 => ?_)
      · have n0 : ¬ n = 0 := fun q => c100 (by rw [q]; exact nI_0)
        refine x_iload h dX11_fewest_111 rfl ?_
        exact x_iret h hQ rfl dX11_fewest_113 ⟨rfl, rfl, _, rfl, by rw [if_neg n0, ← fe], cKn_I ⟨hO, hK⟩, ho⟩
      · have n0 : n = 0 := nI_small 0 (by omega) (by decide) (c100.trans nI_0.symm)
        refine x_iload h dX11_fewest_103 rfl ?_
        refine x_cSi h ci_J6_bitCount sm_J6_bitCount l_X11_205 ⟨Nat.le_of_ble_eq_true rfl, Nat.le_of_ble_eq_true rfl⟩ ⟨rfl, rfl⟩ ⟨Nat.zero_le _, Nat.zero_le _⟩ (c_J6_bitCount (fl 32 (by decide))) rfl rfl rfl rfl dX11_fewest_105 (fun v105 M105 hp105 => ?_)
        obtain ⟨rfl, hM⟩ := hp105
        obtain rfl := hM.symm
        clear hM
        refine x_goto h 113 dX11_fewest_108 (by decide) ?_
        exact x_iret h hQ rfl dX11_fewest_113 ⟨rfl, rfl, _, rfl, by rw [if_pos n0, ← fe]; rfl, cKn_I ⟨hO, hK⟩, ho⟩
    · have hlt : i < 32 := up_lt (by decide) hi c50
      refine x_iload h dX11_fewest_53 rfl ?_
      refine x_iload_n h dX11_fewest_55 rfl ?_
      refine x_icm1 h dX11_fewest_56 ?_
      refine x_ixor h dX11_fewest_57 ?_
      refine x_iand h dX11_fewest_58 ?_
      refine x_topi (difG_ok i hlt _ a32) ?_
      refine x_if_ne h 93 dX11_fewest_59 (by decide) (fun c59 => ?_) (fun c59 => ?_)
      · have hd : ¬ difG i (actP (pgV V) su) = 0 := fun q => c59 (by rw [q]; exact nI_0)
        refine x_incn h dX11_fewest_93 rfl rfl rfl ?_
        dsimp only [List.set]
        refine x_goto h 46 dX11_fewest_96 (by decide) ?_
        have ihh := ih hlt _ hO hK ho
        rw [fwC, if_neg (fun q => hd q.1)] at ihh
        exact ihh
      · have hd : difG i (actP (pgV V) su) = 0 := nI_small 0 (by have := difG_le i (actP (pgV V) su); omega) (by decide) (c59.trans nI_0.symm)
        refine x_iload h dX11_fewest_62 rfl ?_
        refine x_cSi h ci_J6_bitCount sm_J6_bitCount l_X11_205 ⟨Nat.le_of_ble_eq_true rfl, Nat.le_of_ble_eq_true rfl⟩ ⟨rfl, rfl⟩ ⟨Nat.zero_le _, Nat.zero_le _⟩ (c_J6_bitCount hlt) rfl rfl rfl rfl dX11_fewest_64 (fun v64 M64 hp64 => ?_)
        obtain ⟨rfl, hM⟩ := hp64
        obtain rfl := hM.symm
        clear hM
        refine x_iload h dX11_fewest_67 rfl ?_
        refine x_cSi h ci_J6_bitCount sm_J6_bitCount l_X11_205 ⟨Nat.le_of_ble_eq_true rfl, Nat.le_of_ble_eq_true rfl⟩ ⟨rfl, rfl⟩ ⟨Nat.zero_le _, Nat.zero_le _⟩ (c_J6_bitCount (fl i (by omega))) rfl rfl rfl rfl dX11_fewest_69 (fun v69 M69 hp69 => ?_)
        obtain ⟨rfl, hM⟩ := hp69
        obtain rfl := hM.symm
        clear hM
        refine x_icmp_ge h 93 dX11_fewest_72 (by decide) (fun c72 => ?_) (fun c72 => ?_)
        · have hl : ¬ on5 i < on5 (fwC (pvN (pgV V) su) (actP (pgV V) su) i) := by
            have := (nI_le_iff (a := on5 (fwC (pvN (pgV V) su) (actP (pgV V) su) i)) (b := on5 i) (by have := on5_le (fwC (pvN (pgV V) su) (actP (pgV V) su) i); omega) (by have := on5_le i; omega)).mp c72
            omega
          refine x_incn h dX11_fewest_93 rfl rfl rfl ?_
          dsimp only [List.set]
          refine x_goto h 46 dX11_fewest_96 (by decide) ?_
          have ihh := ih hlt _ hO hK ho
          rw [fwC, if_neg (fun q => hl q.2.1)] at ihh
          exact ihh
        · have hl : on5 i < on5 (fwC (pvN (pgV V) su) (actP (pgV V) su) i) := by
            have := mt (nI_le_iff (a := on5 (fwC (pvN (pgV V) su) (actP (pgV V) su) i)) (b := on5 i) (by have := on5_le (fwC (pvN (pgV V) su) (actP (pgV V) su) i); omega) (by have := on5_le i; omega)).mpr c72
            omega
          refine x_aload_n h dX11_fewest_75 rfl ?_
          refine x_iload h dX11_fewest_76 rfl ?_
          refine x_cVi h ci_X0_proved im_X0_proved l_X11_128 ⟨Nat.le_of_ble_eq_true rfl, Nat.le_of_ble_eq_true rfl⟩ ⟨rfl, rfl⟩ ⟨Nat.zero_le _, Nat.zero_le _⟩ (s_proved hK (sub_lt alt v26 hlt hd)) rfl rfl rfl rfl (lg_analysis hO.1).2.1 (by decide) rfl dX11_fewest_78 (fun v78 M78 hp78 => ?_)
          obtain ⟨rfl, hK, ho78⟩ := hp78
          have hO := cO_off hO ho78
          refine x_cSi h ci_J6_bitCount sm_J6_bitCount l_X11_205 ⟨Nat.le_of_ble_eq_true rfl, Nat.le_of_ble_eq_true rfl⟩ ⟨rfl, rfl⟩ ⟨Nat.zero_le _, Nat.zero_le _⟩ (c_J6_bitCount (pvV_lt hP _ _)) rfl rfl rfl rfl dX11_fewest_81 (fun v81 M81 hp81 => ?_)
          obtain ⟨rfl, hM⟩ := hp81
          obtain rfl := hM.symm
          clear hM
          refine x_iload h dX11_fewest_84 rfl ?_
          refine x_icmp_ne h 93 dX11_fewest_86 (by decide) (fun c86 => ?_) (fun c86 => ?_)
          · have hv : ¬ pvN (pgV V) su i = pvN (pgV V) su (actP (pgV V) su) := fun q => c86 (congrArg nI q)
            refine x_incn h dX11_fewest_93 rfl rfl rfl ?_
            dsimp only [List.set]
            refine x_goto h 46 dX11_fewest_96 (by decide) ?_
            have ihh := ih hlt _ hO hK (oO_trans ho (oO_A ho78))
            rw [fwC, if_neg (fun q => hv q.2.2)] at ihh
            exact ihh
          · have hv : pvN (pgV V) su i = pvN (pgV V) su (actP (pgV V) su) := (nI_eq_iff (a := pvN (pgV V) su i) (b := pvN (pgV V) su (actP (pgV V) su)) (by have := pvN_le (pgV V) su i; omega) (by have := pvN_le (pgV V) su (actP (pgV V) su); omega)).mp c86
            refine x_iload h dX11_fewest_89 rfl ?_
            refine x_istore h dX11_fewest_91 rfl rfl ?_
            dsimp only [List.set]
            refine x_incn h dX11_fewest_93 rfl rfl rfl ?_
            dsimp only [List.set]
            refine x_goto h 46 dX11_fewest_96 (by decide) ?_
            have ihh := ih hlt _ hO hK (oO_trans ho (oO_A ho78))
            rw [fwC, if_pos ⟨hd, hl, hv⟩] at ihh
            exact ihh
  refine x_iload_n h dX11_fewest_0 rfl ?_
  refine x_if_lt h 9 dX11_fewest_1 (by decide) (fun c1 => ?_) (fun c1 => ?_)
  · exact (nI_nneg (by omega) c1).elim
  · refine x_iload_n h dX11_fewest_4 rfl ?_
    refine x_in1 h dX11_fewest_5 ?_
    refine x_icmp_le h 12 dX11_fewest_6 (by decide) (fun c6 => ?_) (fun c6 => ?_)
    · refine x_aload_n h dX11_fewest_12 rfl ?_
      refine x_aload_n h dX11_fewest_13 rfl ?_
      refine x_getR h hO.1.1 f_X11_33 rfl (lg_setup hO.1).1 dX11_fewest_14 ?_
      refine x_cVi h ci_X11_active im_X11_active l_X11_124 ⟨Nat.le_of_ble_eq_true rfl, Nat.le_of_ble_eq_true rfl⟩ ⟨rfl, rfl⟩ ⟨Nat.zero_le _, Nat.zero_le _⟩ (c_X11_active hO (lg_setup hO.1).2.1 hO.2.2.2.2.1.1.2.2.2 (cv_32 hO)) rfl rfl rfl rfl hO.1.1 (by decide) rfl dX11_fewest_17 (fun v17 M17 hp17 => ?_)
      obtain ⟨rfl, hM⟩ := hp17
      obtain rfl := hM.symm
      clear hM
      refine x_istore_n h dX11_fewest_20 rfl rfl ?_
      dsimp only [List.set]
      refine x_aload_n h dX11_fewest_21 rfl ?_
      refine x_aload_n h dX11_fewest_22 rfl ?_
      refine x_getR h hO.1.1 f_X11_33 rfl (lg_setup hO.1).1 dX11_fewest_23 ?_
      refine x_cVr h ci_X11_view im_X11_view l_X11_120 ⟨Nat.le_of_ble_eq_true rfl, Nat.le_of_ble_eq_true rfl⟩ ⟨rfl, rfl⟩ ⟨Nat.zero_le _, Nat.zero_le _⟩ (c_X11_view hI0 (lg_setup hO.1).2 hO.2.2.2.2.1.1 (cv_6 hO) (by omega)) rfl rfl rfl rfl hO.1.1 (by decide) rfl dX11_fewest_26 (fun v26 M26 hp26 => ?_)
      obtain ⟨rfl, ⟨hO, hK⟩, ho26⟩ := hp26
      refine x_astore_n h dX11_fewest_29 rfl rfl ?_
      dsimp only [List.set]
      refine x_aload_n h dX11_fewest_30 rfl ?_
      refine x_iload_n h dX11_fewest_31 rfl ?_
      refine x_cVi h ci_X0_proved im_X0_proved l_X11_128 ⟨Nat.le_of_ble_eq_true rfl, Nat.le_of_ble_eq_true rfl⟩ ⟨rfl, rfl⟩ ⟨Nat.zero_le _, Nat.zero_le _⟩ (s_proved hK alt) rfl rfl rfl rfl (lg_analysis hO.1).2.1 (by decide) rfl dX11_fewest_32 (fun v32 M32 hp32 => ?_)
      obtain ⟨rfl, hK, ho32⟩ := hp32
      have hO := cO_off hO ho32
      refine x_cSi h ci_J6_bitCount sm_J6_bitCount l_X11_205 ⟨Nat.le_of_ble_eq_true rfl, Nat.le_of_ble_eq_true rfl⟩ ⟨rfl, rfl⟩ ⟨Nat.zero_le _, Nat.zero_le _⟩ (c_J6_bitCount (pvV_lt hP _ _)) rfl rfl rfl rfl dX11_fewest_35 (fun v35 M35 hp35 => ?_)
      obtain ⟨rfl, hM⟩ := hp35
      obtain rfl := hM.symm
      clear hM
      refine x_istore h dX11_fewest_38 rfl rfl ?_
      dsimp only [List.set]
      refine x_iload_n h dX11_fewest_40 rfl ?_
      refine x_istore h dX11_fewest_41 rfl rfl ?_
      dsimp only [List.set]
      refine x_in0 h dX11_fewest_43 ?_
      refine x_istore h dX11_fewest_44 rfl rfl ?_
      dsimp only [List.set]
      exact loop 0 (Nat.zero_le _) _ hO hK (oO_trans (oO_A ho26) (oO_A ho32))
    · exact absurd ((nI_le_iff (by omega) (by omega)).mpr (by omega)) c6
theorem c_X11_share_0 {Γ : GT} {G : GG} {M : MM} {o : Nat} {b : Bool} {S V : RT} {tx : Nat → Nat} {len : Nat} {su : SU} {hy : HY} {kp : KP} {ze : SE} {sd : Int64} (hI : cInv G M o b S V tx len su hy kp ze sd) {x w : Int32} (hx : ∀ n, n < V 0 26 → x ≠ nI n) : Calls Γ q_X11_share [.ref o, .int x, .int w] G M (rI (fun y M' => y = -1 ∧ cInv G M' o b S V (tx) (len) (su) (hy) (kp) (ze) (sd) ∧ offO o M M')) := by
  have hI0 := hI
  obtain ⟨hO, hA⟩ := hI
  have hO0 := hO
  obtain ⟨v22, v23, v24, v25, v26⟩ := cv_ok hO
  refine Calls.intro (by decide +kernel) (Nat.le_of_ble_eq_true rfl) (fun z E h hQ => ?_)
  refine x_loc (L' := [some (.ref o), some (.int x), some (.int w), none, none, none, none, none, none, none, none]) rfl ?_
  refine x_iload_n h dX11_share_0 rfl ?_
  refine x_if_lt h 15 dX11_share_1 (by decide) (fun c1 => ?_) (fun c1 => ?_)
  · refine x_icm1 h dX11_share_15 ?_
    exact x_iret h hQ rfl dX11_share_16 ⟨rfl, rfl, _, rfl, rfl, hI0, oO_refl o M⟩
  · refine x_iload_n h dX11_share_4 rfl ?_
    refine x_aload_n h dX11_share_5 rfl ?_
    refine x_getR h hO.1.1 f_X11_23 rfl (lg_code hO.1).1 dX11_share_6 ?_
    refine x_getIv h (lg_code hO.1).2.1 f_X11_114 rfl (cv_g hO) dX11_share_9 ?_
    refine x_icmp_lt h 17 dX11_share_12 (by decide) (fun c12 => ?_) (fun c12 => ?_)
    · exact absurd c12 (rng_lt (by omega) hx c1)
    · refine x_icm1 h dX11_share_15 ?_
      exact x_iret h hQ rfl dX11_share_16 ⟨rfl, rfl, _, rfl, rfl, hI0, oO_refl o M⟩
theorem c_X11_share_1 {Γ : GT} {G : GG} {M : MM} {o : Nat} {b : Bool} {S V : RT} {tx : Nat → Nat} {len : Nat} {su : SU} {hy : HY} {kp : KP} {ze : SE} {sd : Int64} (hI : cInv G M o b S V tx len su hy kp ze sd) {n : Nat} {w : Int32} (hn : n < V 0 26) (hb : (actP (pgV V) su).testBit n = false) : Calls Γ q_X11_share [.ref o, .int (nI n), .int w] G M (rI (fun y M' => y = -3 ∧ cInv G M' o b S V (tx) (len) (su) (hy) (kp) (ze) (sd) ∧ offO o M M')) := by
  have hI0 := hI
  obtain ⟨hO, hA⟩ := hI
  have hO0 := hO
  obtain ⟨v22, v23, v24, v25, v26⟩ := cv_ok hO
  have a32 : actP (pgV V) su < 32 := actP_lt su v26
  have alt : actP (pgV V) su < 2 ^ V 0 26 := act_lt (V 0 26) su.2
  have hP := hO.2.2.2.1.2
  refine Calls.intro (by decide +kernel) (Nat.le_of_ble_eq_true rfl) (fun z E h hQ => ?_)
  refine x_loc (L' := [some (.ref o), some (.int (nI n)), some (.int w), none, none, none, none, none, none, none, none]) rfl ?_
  refine x_iload_n h dX11_share_0 rfl ?_
  refine x_if_lt h 15 dX11_share_1 (by decide) (fun c1 => ?_) (fun c1 => ?_)
  · exact (nI_nneg (by omega) c1).elim
  · refine x_iload_n h dX11_share_4 rfl ?_
    refine x_aload_n h dX11_share_5 rfl ?_
    refine x_getR h hO.1.1 f_X11_23 rfl (lg_code hO.1).1 dX11_share_6 ?_
    refine x_getIv h (lg_code hO.1).2.1 f_X11_114 rfl (cv_g hO) dX11_share_9 ?_
    refine x_icmp_lt h 17 dX11_share_12 (by decide) (fun c12 => ?_) (fun c12 => ?_)
    · refine x_aload_n h dX11_share_17 rfl ?_
      refine x_aload_n h dX11_share_18 rfl ?_
      refine x_getR h hO.1.1 f_X11_33 rfl (lg_setup hO.1).1 dX11_share_19 ?_
      refine x_cVi h ci_X11_active im_X11_active l_X11_124 ⟨Nat.le_of_ble_eq_true rfl, Nat.le_of_ble_eq_true rfl⟩ ⟨rfl, rfl⟩ ⟨Nat.zero_le _, Nat.zero_le _⟩ (c_X11_active hO (lg_setup hO.1).2.1 hO.2.2.2.2.1.1.2.2.2 (cv_32 hO)) rfl rfl rfl rfl hO.1.1 (by decide) rfl dX11_share_22 (fun v22 M22 hp22 => ?_)
      obtain ⟨rfl, hM⟩ := hp22
      obtain rfl := hM.symm
      clear hM
      refine x_istore_n h dX11_share_25 rfl rfl ?_
      dsimp only [List.set]
      refine x_in1 h dX11_share_26 ?_
      refine x_iload_n h dX11_share_27 rfl ?_
      refine x_ishl h dX11_share_28 ?_
      refine x_topi (shl1 n (by omega)) ?_
      refine x_istore h dX11_share_29 rfl rfl ?_
      dsimp only [List.set]
      refine x_iload_n h dX11_share_31 rfl ?_
      refine x_iload h dX11_share_32 rfl ?_
      refine x_iand h dX11_share_34 ?_
      refine x_if_ne h 41 dX11_share_35 (by decide) (fun c35 => ?_) (fun c35 => ?_)
      · exact absurd ((own_z a32).mpr hb) c35
      · refine x_bipush h (-3) (by decide) dX11_share_38 ?_
        exact x_iret h hQ rfl dX11_share_40 ⟨rfl, rfl, _, rfl, rfl, hI0, oO_refl o M⟩
    · exact absurd ((nI_lt_iff (by omega) (by omega)).mpr (by omega)) c12
theorem c_X11_share_2 {Γ : GT} {G : GG} {M : MM} {o : Nat} {b : Bool} {S V : RT} {tx : Nat → Nat} {len : Nat} {su : SU} {hy : HY} {kp : KP} {ze : SE} {sd : Int64} (hI : cInv G M o b S V tx len su hy kp ze sd) {n : Nat} {u : Bool} (hn : n < V 0 26) (hb : (actP (pgV V) su).testBit n = true) : Calls Γ q_X11_share [.ref o, .int (nI n), .int (b2i u)] G M (rI (fun y M' => y = frcV u (shN (pvN (pgV V) su) (actP (pgV V) su) n ((actP (pgV V) su) + 1)) (fct (on5 (actP (pgV V) su))) ∧ cInv G M' o b S V (tx) (len) (su) (hy) (kp) (ze) (sd) ∧ offO o M M')) := by
  have hI0 := hI
  obtain ⟨hO, hA⟩ := hI
  have hO0 := hO
  obtain ⟨v22, v23, v24, v25, v26⟩ := cv_ok hO
  have a32 : actP (pgV V) su < 32 := actP_lt su v26
  have alt : actP (pgV V) su < 2 ^ V 0 26 := act_lt (V 0 26) su.2
  have hP := hO.2.2.2.1.2
  have n5 : n < 5 := by omega
  have p32 : 2 ^ n < 32 := Nat.pow_lt_pow_right (by decide) n5
  have se := sh_eq (pv := (pvN (pgV V) su)) (all := (actP (pgV V) su)) (gi := n) (N := 32) rfl a32 n5 hb
  have sl := shN_le (pv := (pvN (pgV V) su)) (all := (actP (pgV V) su)) (gi := n) (pvN_le (pgV V) su) ((actP (pgV V) su) + 1)
  have f5 := on5_le (actP (pgV V) su)
  have fl1 := fct_le (on5 (actP (pgV V) su)) (by omega)
  have fl0 := fct_pos (on5 (actP (pgV V) su))
  refine Calls.intro (by decide +kernel) (Nat.le_of_ble_eq_true rfl) (fun z E h hQ => ?_)
  refine x_loc (L' := [some (.ref o), some (.int (nI n)), some (.int (b2i u)), none, none, none, none, none, none, none, none]) rfl ?_
  have loop : ∀ i, i ≤ 32 → ∀ N, cO G N o b S V tx len su hy kp ze sd → aK G N (o + 265) (cd o b) S V su.1 → offO o M N → ∀ l9 l10, X Γ E 0 0 G z N 63 [some (.ref o), some (.int (nI n)), some (.int (b2i u)), some (.int (nI (actP (pgV V) su))), some (.int (nI (2 ^ n))), some (.ref (o + 265)), some (.int (nI (on5 (actP (pgV V) su)))), some (.int (nI (shC (pvN (pgV V) su) (actP (pgV V) su) n i))), some (.int (nI i)), l9, l10] [] := by
    refine upto 32 (fun i hi ih N hO hK ho l9 l10 => ?_)
    refine x_iload h dX11_share_63 rfl ?_
    refine x_bipush h (nI 32) (by decide) dX11_share_65 ?_
    refine x_icmp_ge h 147 dX11_share_67 (by decide) (fun c67 => ?_) (fun c67 => ?_)
    · obtain rfl : i = 32 := up_ge (by decide) hi c67
      refine x_iload h dX11_share_147 rfl ?_
      refine x_iload h dX11_share_149 rfl ?_
      refine x_cSi h ci_X11_factorial sm_X11_factorial l_X11_227 ⟨Nat.le_of_ble_eq_true rfl, Nat.le_of_ble_eq_true rfl⟩ ⟨rfl, rfl⟩ ⟨Nat.zero_le _, Nat.zero_le _⟩ (c_X11_factorial (n := on5 (actP (pgV V) su)) (by omega)) rfl rfl rfl rfl dX11_share_151 (fun v151 M151 hp151 => ?_)
      obtain ⟨rfl, hM⟩ := hp151
      obtain rfl := hM.symm
      clear hM
      refine x_iload_n h dX11_share_154 rfl ?_
      refine x_cSi h ci_X11_part sm_X11_part l_X11_230 ⟨Nat.le_of_ble_eq_true rfl, Nat.le_of_ble_eq_true rfl⟩ ⟨rfl, rfl⟩ ⟨Nat.zero_le _, Nat.zero_le _⟩ (c_X11_part (a := (shC (pvN (pgV V) su) (actP (pgV V) su) n 32)) (b := fct (on5 (actP (pgV V) su))) (by rw [se]; omega) (by omega) (by omega)) rfl rfl rfl rfl dX11_share_155 (fun v155 M155 hp155 => ?_)
      obtain ⟨rfl, hM⟩ := hp155
      obtain rfl := hM.symm
      clear hM
      exact x_iret h hQ rfl dX11_share_158 ⟨rfl, rfl, _, rfl, by rw [se], cKn_I ⟨hO, hK⟩, ho⟩
    · have hlt : i < 32 := up_lt (by decide) hi c67
      refine x_iload h dX11_share_70 rfl ?_
      refine x_iload_n h dX11_share_72 rfl ?_
      refine x_iload h dX11_share_73 rfl ?_
      refine x_icm1 h dX11_share_75 ?_
      refine x_ixor h dX11_share_76 ?_
      refine x_iand h dX11_share_77 ?_
      refine x_topi (difG_ok _ a32 _ p32) ?_
      refine x_icm1 h dX11_share_78 ?_
      refine x_ixor h dX11_share_79 ?_
      refine x_iand h dX11_share_80 ?_
      refine x_topi (difG_ok i hlt _ (by have := difG_le (actP (pgV V) su) (2 ^ n); omega)) ?_
      refine x_if_ne h 141 dX11_share_81 (by decide) (fun c81 => ?_) (fun c81 => ?_)
      · have hd : ¬ difG i (difG (actP (pgV V) su) (2 ^ n)) = 0 := fun q => c81 (by rw [q]; exact nI_0)
        refine x_incn h dX11_share_141 rfl rfl rfl ?_
        dsimp only [List.set]
        refine x_goto h 63 dX11_share_144 (by decide) ?_
        have ihh := ih hlt _ hO hK ho l9 l10
        rw [shC, if_neg hd, Nat.add_zero] at ihh
        exact ihh
      · have hd : difG i (difG (actP (pgV V) su) (2 ^ n)) = 0 := nI_small 0 (by have := difG_le i (difG (actP (pgV V) su) (2 ^ n)); omega) (by decide) (c81.trans nI_0.symm)
        obtain ⟨hd1, hd2⟩ := (dd9 (actP (pgV V) su) a32 i hlt n n5 hb).mp hd
        have so := sub_or (actP (pgV V) su) a32 i hlt n n5 hd1 hb
        have o1 := sub_on1 (actP (pgV V) su) a32 i hlt n n5 hd1 hb hd2
        have pm := pv_mon hO hlt n5
        have i5 := on5_le i
        refine x_iload h dX11_share_84 rfl ?_
        refine x_cSi h ci_J6_bitCount sm_J6_bitCount l_X11_205 ⟨Nat.le_of_ble_eq_true rfl, Nat.le_of_ble_eq_true rfl⟩ ⟨rfl, rfl⟩ ⟨Nat.zero_le _, Nat.zero_le _⟩ (c_J6_bitCount hlt) rfl rfl rfl rfl dX11_share_86 (fun v86 M86 hp86 => ?_)
        obtain ⟨rfl, hM⟩ := hp86
        obtain rfl := hM.symm
        clear hM
        refine x_istore h dX11_share_89 rfl rfl ?_
        dsimp only [List.set]
        refine x_aload h dX11_share_91 rfl ?_
        refine x_iload h dX11_share_93 rfl ?_
        refine x_iload h dX11_share_95 rfl ?_
        refine x_ior h dX11_share_97 ?_
        refine x_topi (fa_or i (2 ^ n)) ?_
        refine x_cVi h ci_X0_proved im_X0_proved l_X11_128 ⟨Nat.le_of_ble_eq_true rfl, Nat.le_of_ble_eq_true rfl⟩ ⟨rfl, rfl⟩ ⟨Nat.zero_le _, Nat.zero_le _⟩ (s_proved hK (sub_lt alt v26 (by omega) so.1)) rfl rfl rfl rfl (lg_analysis hO.1).2.1 (by decide) rfl dX11_share_98 (fun v98 M98 hp98 => ?_)
        obtain ⟨rfl, hK, ho98⟩ := hp98
        have hO := cO_off hO ho98
        refine x_cSi h ci_J6_bitCount sm_J6_bitCount l_X11_205 ⟨Nat.le_of_ble_eq_true rfl, Nat.le_of_ble_eq_true rfl⟩ ⟨rfl, rfl⟩ ⟨Nat.zero_le _, Nat.zero_le _⟩ (c_J6_bitCount (pvV_lt hP _ _)) rfl rfl rfl rfl dX11_share_101 (fun v101 M101 hp101 => ?_)
        obtain ⟨rfl, hM⟩ := hp101
        obtain rfl := hM.symm
        clear hM
        refine x_aload h dX11_share_104 rfl ?_
        refine x_iload h dX11_share_106 rfl ?_
        refine x_cVi h ci_X0_proved im_X0_proved l_X11_128 ⟨Nat.le_of_ble_eq_true rfl, Nat.le_of_ble_eq_true rfl⟩ ⟨rfl, rfl⟩ ⟨Nat.zero_le _, Nat.zero_le _⟩ (s_proved hK (sub_lt alt v26 hlt hd1)) rfl rfl rfl rfl (lg_analysis hO.1).2.1 (by decide) rfl dX11_share_108 (fun v108 M108 hp108 => ?_)
        obtain ⟨rfl, hK, ho108⟩ := hp108
        have hO := cO_off hO ho108
        refine x_cSi h ci_J6_bitCount sm_J6_bitCount l_X11_205 ⟨Nat.le_of_ble_eq_true rfl, Nat.le_of_ble_eq_true rfl⟩ ⟨rfl, rfl⟩ ⟨Nat.zero_le _, Nat.zero_le _⟩ (c_J6_bitCount (pvV_lt hP _ _)) rfl rfl rfl rfl dX11_share_111 (fun v111 M111 hp111 => ?_)
        obtain ⟨rfl, hM⟩ := hp111
        obtain rfl := hM.symm
        clear hM
        refine x_isubn h pm dX11_share_114 ?_
        refine x_istore h dX11_share_115 rfl rfl ?_
        dsimp only [List.set]
        refine x_iload h dX11_share_117 rfl ?_
        refine x_iload h dX11_share_119 rfl ?_
        refine x_cSi h ci_X11_factorial sm_X11_factorial l_X11_227 ⟨Nat.le_of_ble_eq_true rfl, Nat.le_of_ble_eq_true rfl⟩ ⟨rfl, rfl⟩ ⟨Nat.zero_le _, Nat.zero_le _⟩ (c_X11_factorial (n := on5 i) (by omega)) rfl rfl rfl rfl dX11_share_121 (fun v121 M121 hp121 => ?_)
        obtain ⟨rfl, hM⟩ := hp121
        obtain rfl := hM.symm
        clear hM
        refine x_iload h dX11_share_124 rfl ?_
        refine x_in1 h dX11_share_126 ?_
        refine x_isubn h (show 1 ≤ on5 (actP (pgV V) su) by omega) dX11_share_127 ?_
        refine x_iload h dX11_share_128 rfl ?_
        refine x_isubn h (show on5 i ≤ on5 (actP (pgV V) su) - 1 by omega) dX11_share_130 ?_
        refine x_cSi h ci_X11_factorial sm_X11_factorial l_X11_227 ⟨Nat.le_of_ble_eq_true rfl, Nat.le_of_ble_eq_true rfl⟩ ⟨rfl, rfl⟩ ⟨Nat.zero_le _, Nat.zero_le _⟩ (c_X11_factorial (n := on5 (actP (pgV V) su) - 1 - on5 i) (by omega)) rfl rfl rfl rfl dX11_share_131 (fun v131 M131 hp131 => ?_)
        obtain ⟨rfl, hM⟩ := hp131
        obtain rfl := hM.symm
        clear hM
        refine x_imuln h  dX11_share_134 ?_
        refine x_iload h dX11_share_135 rfl ?_
        refine x_imuln h  dX11_share_137 ?_
        refine x_iaddn h  dX11_share_138 ?_
        refine x_istore h dX11_share_139 rfl rfl ?_
        dsimp only [List.set]
        refine x_incn h dX11_share_141 rfl rfl rfl ?_
        dsimp only [List.set]
        refine x_goto h 63 dX11_share_144 (by decide) ?_
        have ihh := ih hlt _ hO hK (oO_trans (oO_trans ho (oO_A ho98)) (oO_A ho108))
        rw [shC, if_pos hd] at ihh
        exact ihh _ _
  refine x_iload_n h dX11_share_0 rfl ?_
  refine x_if_lt h 15 dX11_share_1 (by decide) (fun c1 => ?_) (fun c1 => ?_)
  · exact (nI_nneg (by omega) c1).elim
  · refine x_iload_n h dX11_share_4 rfl ?_
    refine x_aload_n h dX11_share_5 rfl ?_
    refine x_getR h hO.1.1 f_X11_23 rfl (lg_code hO.1).1 dX11_share_6 ?_
    refine x_getIv h (lg_code hO.1).2.1 f_X11_114 rfl (cv_g hO) dX11_share_9 ?_
    refine x_icmp_lt h 17 dX11_share_12 (by decide) (fun c12 => ?_) (fun c12 => ?_)
    · refine x_aload_n h dX11_share_17 rfl ?_
      refine x_aload_n h dX11_share_18 rfl ?_
      refine x_getR h hO.1.1 f_X11_33 rfl (lg_setup hO.1).1 dX11_share_19 ?_
      refine x_cVi h ci_X11_active im_X11_active l_X11_124 ⟨Nat.le_of_ble_eq_true rfl, Nat.le_of_ble_eq_true rfl⟩ ⟨rfl, rfl⟩ ⟨Nat.zero_le _, Nat.zero_le _⟩ (c_X11_active hO (lg_setup hO.1).2.1 hO.2.2.2.2.1.1.2.2.2 (cv_32 hO)) rfl rfl rfl rfl hO.1.1 (by decide) rfl dX11_share_22 (fun v22 M22 hp22 => ?_)
      obtain ⟨rfl, hM⟩ := hp22
      obtain rfl := hM.symm
      clear hM
      refine x_istore_n h dX11_share_25 rfl rfl ?_
      dsimp only [List.set]
      refine x_in1 h dX11_share_26 ?_
      refine x_iload_n h dX11_share_27 rfl ?_
      refine x_ishl h dX11_share_28 ?_
      refine x_topi (shl1 n (by omega)) ?_
      refine x_istore h dX11_share_29 rfl rfl ?_
      dsimp only [List.set]
      refine x_iload_n h dX11_share_31 rfl ?_
      refine x_iload h dX11_share_32 rfl ?_
      refine x_iand h dX11_share_34 ?_
      refine x_if_ne h 41 dX11_share_35 (by decide) (fun c35 => ?_) (fun c35 => ?_)
      · refine x_aload_n h dX11_share_41 rfl ?_
        refine x_aload_n h dX11_share_42 rfl ?_
        refine x_getR h hO.1.1 f_X11_33 rfl (lg_setup hO.1).1 dX11_share_43 ?_
        refine x_cVr h ci_X11_view im_X11_view l_X11_120 ⟨Nat.le_of_ble_eq_true rfl, Nat.le_of_ble_eq_true rfl⟩ ⟨rfl, rfl⟩ ⟨Nat.zero_le _, Nat.zero_le _⟩ (c_X11_view hI0 (lg_setup hO.1).2 hO.2.2.2.2.1.1 (cv_6 hO) (by omega)) rfl rfl rfl rfl hO.1.1 (by decide) rfl dX11_share_46 (fun v46 M46 hp46 => ?_)
        obtain ⟨rfl, ⟨hO, hK⟩, ho46⟩ := hp46
        refine x_astore h dX11_share_49 rfl rfl ?_
        dsimp only [List.set]
        refine x_iload_n h dX11_share_51 rfl ?_
        refine x_cSi h ci_J6_bitCount sm_J6_bitCount l_X11_205 ⟨Nat.le_of_ble_eq_true rfl, Nat.le_of_ble_eq_true rfl⟩ ⟨rfl, rfl⟩ ⟨Nat.zero_le _, Nat.zero_le _⟩ (c_J6_bitCount a32) rfl rfl rfl rfl dX11_share_52 (fun v52 M52 hp52 => ?_)
        obtain ⟨rfl, hM⟩ := hp52
        obtain rfl := hM.symm
        clear hM
        refine x_istore h dX11_share_55 rfl rfl ?_
        dsimp only [List.set]
        refine x_in0 h dX11_share_57 ?_
        refine x_istore h dX11_share_58 rfl rfl ?_
        dsimp only [List.set]
        refine x_in0 h dX11_share_60 ?_
        refine x_istore h dX11_share_61 rfl rfl ?_
        dsimp only [List.set]
        exact loop 0 (Nat.zero_le _) _ hO hK (oO_A ho46) none none
      · exact absurd ((own_z a32).mp c35) (by rw [hb]; decide)
    · exact absurd ((nI_lt_iff (by omega) (by omega)).mpr (by omega)) c12
theorem c_X11_lost_0 {Γ : GT} {G : GG} {M : MM} {o : Nat} {b : Bool} {S V : RT} {tx : Nat → Nat} {len : Nat} {su : SU} {hy : HY} {kp : KP} {ze : SE} {sd : Int64} (hI : cInv G M o b S V tx len su hy kp ze sd) {x w : Int32} (hx : ∀ n, n < 11 → x ≠ nI n) : Calls Γ q_X11_lost [.ref o, .int x, .int w] G M (rI (fun y M' => y = -2 ∧ cInv G M' o b S V (tx) (len) (su) (hy) (kp) (ze) (sd) ∧ offO o M M')) := by
  have hI0 := hI
  obtain ⟨hO, hA⟩ := hI
  have hO0 := hO
  obtain ⟨v22, v23, v24, v25, v26⟩ := cv_ok hO
  refine Calls.intro (by decide +kernel) (Nat.le_of_ble_eq_true rfl) (fun z E h hQ => ?_)
  refine x_loc (L' := [some (.ref o), some (.int x), some (.int w), none, none, none, none, none, none, none]) rfl ?_
  refine x_iload_n h dX11_lost_0 rfl ?_
  refine x_if_lt h 10 dX11_lost_1 (by decide) (fun c1 => ?_) (fun c1 => ?_)
  · refine x_bipush h (-2) (by decide) dX11_lost_10 ?_
    exact x_iret h hQ rfl dX11_lost_12 ⟨rfl, rfl, _, rfl, rfl, hI0, oO_refl o M⟩
  · refine x_iload_n h dX11_lost_4 rfl ?_
    refine x_bipush h (nI 10) (by decide) dX11_lost_5 ?_
    refine x_icmp_le h 13 dX11_lost_7 (by decide) (fun c7 => ?_) (fun c7 => ?_)
    · exact absurd c7 (rng_le (by decide) hx c1)
    · refine x_bipush h (-2) (by decide) dX11_lost_10 ?_
      exact x_iret h hQ rfl dX11_lost_12 ⟨rfl, rfl, _, rfl, rfl, hI0, oO_refl o M⟩
theorem c_X11_lost_1 {Γ : GT} {G : GG} {M : MM} {o : Nat} {b : Bool} {S V : RT} {tx : Nat → Nat} {len : Nat} {su : SU} {hy : HY} {kp : KP} {ze : SE} {sd : Int64} (hI : cInv G M o b S V tx len su hy kp ze sd) {n : Nat} {u : Bool} (hn : n < 11) : Calls Γ q_X11_lost [.ref o, .int (nI n), .int (b2i u)] G M (rI (fun y M' => y = frcV u (lsN (pvN (pgV V) su) (pgV V).2.2.1.1 (actP (pgV V) su) n ((actP (pgV V) su) + 1)) (10 ^ on5 (actP (pgV V) su)) ∧ cInv G M' o b S V (tx) (len) (su) (hy) (kp) (ze) (sd) ∧ offO o M M')) := by
  have hI0 := hI
  obtain ⟨hO, hA⟩ := hI
  have hO0 := hO
  obtain ⟨v22, v23, v24, v25, v26⟩ := cv_ok hO
  have a32 : actP (pgV V) su < 32 := actP_lt su v26
  have alt : actP (pgV V) su < 2 ^ V 0 26 := act_lt (V 0 26) su.2
  have hP := hO.2.2.2.1.2
  have se := ls_eq (pv := (pvN (pgV V) su)) (nk := V 0 23) (all := (actP (pgV V) su)) (x := n) (N := 32) rfl a32
  have sl := lsN_le (pv := (pvN (pgV V) su)) (nk := V 0 23) (all := (actP (pgV V) su)) (x := n) a32 (by omega) 32 (Nat.le_refl _)
  have f5 := on5_le (actP (pgV V) su)
  have p10 : 10 ^ on5 (actP (pgV V) su) ≤ 10 ^ 5 := Nat.pow_le_pow_right (by decide) f5
  have p0 : 0 < 10 ^ on5 (actP (pgV V) su) := Nat.pow_pos (by decide)
  have pk : ∀ i, pvV V su.1 i < 2 ^ V 0 23 := fun i => enN_lt _ _ _
  have p16 : 2 ^ V 0 23 ≤ 2 ^ 4 := Nat.pow_le_pow_right (by decide) v23
  refine Calls.intro (by decide +kernel) (Nat.le_of_ble_eq_true rfl) (fun z E h hQ => ?_)
  refine x_loc (L' := [some (.ref o), some (.int (nI n)), some (.int (b2i u)), none, none, none, none, none, none, none]) rfl ?_
  have loop : ∀ i, i ≤ 32 → ∀ N, cO G N o b S V tx len su hy kp ze sd → aK G N (o + 265) (cd o b) S V su.1 → offO o M N → ∀ l9, X Γ E 0 0 G z N 57 [some (.ref o), some (.int (nI n)), some (.int (b2i u)), some (.int (nI (actP (pgV V) su))), some (.ref (o + 265)), some (.int (nI (on5 (actP (pgV V) su)))), some (.int (nI (2 ^ V 0 23 - 1))), some (.int (nI (lsN (pvN (pgV V) su) (V 0 23) (actP (pgV V) su) n i))), some (.int (nI i)), l9] [] := by
    refine upto 32 (fun i hi ih N hO hK ho l9 => ?_)
    refine x_iload h dX11_lost_57 rfl ?_
    refine x_bipush h (nI 32) (by decide) dX11_lost_59 ?_
    refine x_icmp_ge h 122 dX11_lost_61 (by decide) (fun c61 => ?_) (fun c61 => ?_)
    · obtain rfl : i = 32 := up_ge (by decide) hi c61
      refine x_iload h dX11_lost_122 rfl ?_
      refine x_bipush h (nI 10) (by decide) dX11_lost_124 ?_
      refine x_iload h dX11_lost_126 rfl ?_
      refine x_cSi h ci_X11_power sm_X11_power l_X11_260 ⟨Nat.le_of_ble_eq_true rfl, Nat.le_of_ble_eq_true rfl⟩ ⟨rfl, rfl⟩ ⟨Nat.zero_le _, Nat.zero_le _⟩ (c_X11_power (x := 10) (n := on5 (actP (pgV V) su)) (by omega)) rfl rfl rfl rfl dX11_lost_128 (fun v128 M128 hp128 => ?_)
      obtain ⟨rfl, hM⟩ := hp128
      obtain rfl := hM.symm
      clear hM
      refine x_iload_n h dX11_lost_131 rfl ?_
      refine x_cSi h ci_X11_part sm_X11_part l_X11_230 ⟨Nat.le_of_ble_eq_true rfl, Nat.le_of_ble_eq_true rfl⟩ ⟨rfl, rfl⟩ ⟨Nat.zero_le _, Nat.zero_le _⟩ (c_X11_part (a := (lsN (pvN (pgV V) su) (V 0 23) (actP (pgV V) su) n 32)) (b := 10 ^ on5 (actP (pgV V) su)) (by omega) (by omega) p0) rfl rfl rfl rfl dX11_lost_132 (fun v132 M132 hp132 => ?_)
      obtain ⟨rfl, hM⟩ := hp132
      obtain rfl := hM.symm
      clear hM
      exact x_iret h hQ rfl dX11_lost_135 ⟨rfl, rfl, _, rfl, by rw [se]; rfl, cKn_I ⟨hO, hK⟩, ho⟩
    · have hlt : i < 32 := up_lt (by decide) hi c61
      refine x_iload h dX11_lost_64 rfl ?_
      refine x_iload_n h dX11_lost_66 rfl ?_
      refine x_icm1 h dX11_lost_67 ?_
      refine x_ixor h dX11_lost_68 ?_
      refine x_iand h dX11_lost_69 ?_
      refine x_topi (difG_ok i hlt _ a32) ?_
      refine x_if_ne h 116 dX11_lost_70 (by decide) (fun c70 => ?_) (fun c70 => ?_)
      · have hd : ¬ difG i (actP (pgV V) su) = 0 := fun q => c70 (by rw [q]; exact nI_0)
        refine x_incn h dX11_lost_116 rfl rfl rfl ?_
        dsimp only [List.set]
        refine x_goto h 57 dX11_lost_119 (by decide) ?_
        have ihh := ih hlt _ hO hK ho l9
        rw [lsN, if_neg (fun q => hd q.1), Nat.add_zero] at ihh
        exact ihh
      · have hd : difG i (actP (pgV V) su) = 0 := nI_small 0 (by have := difG_le i (actP (pgV V) su); omega) (by decide) (c70.trans nI_0.symm)
        have oi := sub_on (actP (pgV V) su) a32 i hlt hd
        have i5 := on5_le i
        refine x_aload h dX11_lost_73 rfl ?_
        refine x_iload h dX11_lost_75 rfl ?_
        refine x_cVi h ci_X0_proved im_X0_proved l_X11_128 ⟨Nat.le_of_ble_eq_true rfl, Nat.le_of_ble_eq_true rfl⟩ ⟨rfl, rfl⟩ ⟨Nat.zero_le _, Nat.zero_le _⟩ (s_proved hK (sub_lt alt v26 hlt hd)) rfl rfl rfl rfl (lg_analysis hO.1).2.1 (by decide) rfl dX11_lost_77 (fun v77 M77 hp77 => ?_)
        obtain ⟨rfl, hK, ho77⟩ := hp77
        have hO := cO_off hO ho77
        refine x_iload h dX11_lost_80 rfl ?_
        refine x_icmp_ne h 116 dX11_lost_82 (by decide) (fun c82 => ?_) (fun c82 => ?_)
        · have hv : ¬ pvN (pgV V) su i = V 0 23 := fun q => c82 (congrArg nI ((all_ct (V 0 23) (by omega) _ (pk i)).mpr q))
          refine x_incn h dX11_lost_116 rfl rfl rfl ?_
          dsimp only [List.set]
          refine x_goto h 57 dX11_lost_119 (by decide) ?_
          have ihh := ih hlt _ hO hK (oO_trans ho (oO_A ho77)) l9
          rw [lsN, if_neg (fun q => hv q.2), Nat.add_zero] at ihh
          exact ihh
        · have hv : pvN (pgV V) su i = V 0 23 := (all_ct (V 0 23) (by omega) _ (pk i)).mp ((nI_eq_iff (by have := pk i; omega) (by omega)).mp c82)
          refine x_iload h dX11_lost_85 rfl ?_
          refine x_cSi h ci_J6_bitCount sm_J6_bitCount l_X11_205 ⟨Nat.le_of_ble_eq_true rfl, Nat.le_of_ble_eq_true rfl⟩ ⟨rfl, rfl⟩ ⟨Nat.zero_le _, Nat.zero_le _⟩ (c_J6_bitCount hlt) rfl rfl rfl rfl dX11_lost_87 (fun v87 M87 hp87 => ?_)
          obtain ⟨rfl, hM⟩ := hp87
          obtain rfl := hM.symm
          clear hM
          refine x_istore h dX11_lost_90 rfl rfl ?_
          dsimp only [List.set]
          refine x_iload h dX11_lost_92 rfl ?_
          refine x_bipush h (nI 10) (by decide) dX11_lost_94 ?_
          refine x_iload_n h dX11_lost_96 rfl ?_
          refine x_isubn h (show n ≤ 10 by omega) dX11_lost_97 ?_
          refine x_iload h dX11_lost_98 rfl ?_
          refine x_cSi h ci_X11_power sm_X11_power l_X11_260 ⟨Nat.le_of_ble_eq_true rfl, Nat.le_of_ble_eq_true rfl⟩ ⟨rfl, rfl⟩ ⟨Nat.zero_le _, Nat.zero_le _⟩ (c_X11_power (x := 10 - n) (n := on5 i) (by omega)) rfl rfl rfl rfl dX11_lost_100 (fun v100 M100 hp100 => ?_)
          obtain ⟨rfl, hM⟩ := hp100
          obtain rfl := hM.symm
          clear hM
          refine x_iload_n h dX11_lost_103 rfl ?_
          refine x_iload h dX11_lost_104 rfl ?_
          refine x_iload h dX11_lost_106 rfl ?_
          refine x_isubn h oi dX11_lost_108 ?_
          refine x_cSi h ci_X11_power sm_X11_power l_X11_260 ⟨Nat.le_of_ble_eq_true rfl, Nat.le_of_ble_eq_true rfl⟩ ⟨rfl, rfl⟩ ⟨Nat.zero_le _, Nat.zero_le _⟩ (c_X11_power (x := n) (n := on5 (actP (pgV V) su) - on5 i) (by omega)) rfl rfl rfl rfl dX11_lost_109 (fun v109 M109 hp109 => ?_)
          obtain ⟨rfl, hM⟩ := hp109
          obtain rfl := hM.symm
          clear hM
          refine x_imuln h  dX11_lost_112 ?_
          refine x_iaddn h  dX11_lost_113 ?_
          refine x_istore h dX11_lost_114 rfl rfl ?_
          dsimp only [List.set]
          refine x_incn h dX11_lost_116 rfl rfl rfl ?_
          dsimp only [List.set]
          refine x_goto h 57 dX11_lost_119 (by decide) ?_
          have ihh := ih hlt _ hO hK (oO_trans ho (oO_A ho77))
          rw [lsN, if_pos ⟨hd, hv⟩] at ihh
          exact ihh _
  refine x_iload_n h dX11_lost_0 rfl ?_
  refine x_if_lt h 10 dX11_lost_1 (by decide) (fun c1 => ?_) (fun c1 => ?_)
  · exact (nI_nneg (by omega) c1).elim
  · refine x_iload_n h dX11_lost_4 rfl ?_
    refine x_bipush h (nI 10) (by decide) dX11_lost_5 ?_
    refine x_icmp_le h 13 dX11_lost_7 (by decide) (fun c7 => ?_) (fun c7 => ?_)
    · refine x_aload_n h dX11_lost_13 rfl ?_
      refine x_aload_n h dX11_lost_14 rfl ?_
      refine x_getR h hO.1.1 f_X11_33 rfl (lg_setup hO.1).1 dX11_lost_15 ?_
      refine x_cVi h ci_X11_active im_X11_active l_X11_124 ⟨Nat.le_of_ble_eq_true rfl, Nat.le_of_ble_eq_true rfl⟩ ⟨rfl, rfl⟩ ⟨Nat.zero_le _, Nat.zero_le _⟩ (c_X11_active hO (lg_setup hO.1).2.1 hO.2.2.2.2.1.1.2.2.2 (cv_32 hO)) rfl rfl rfl rfl hO.1.1 (by decide) rfl dX11_lost_18 (fun v18 M18 hp18 => ?_)
      obtain ⟨rfl, hM⟩ := hp18
      obtain rfl := hM.symm
      clear hM
      refine x_istore_n h dX11_lost_21 rfl rfl ?_
      dsimp only [List.set]
      refine x_aload_n h dX11_lost_22 rfl ?_
      refine x_aload_n h dX11_lost_23 rfl ?_
      refine x_getR h hO.1.1 f_X11_33 rfl (lg_setup hO.1).1 dX11_lost_24 ?_
      refine x_cVr h ci_X11_view im_X11_view l_X11_120 ⟨Nat.le_of_ble_eq_true rfl, Nat.le_of_ble_eq_true rfl⟩ ⟨rfl, rfl⟩ ⟨Nat.zero_le _, Nat.zero_le _⟩ (c_X11_view hI0 (lg_setup hO.1).2 hO.2.2.2.2.1.1 (cv_6 hO) (by omega)) rfl rfl rfl rfl hO.1.1 (by decide) rfl dX11_lost_27 (fun v27 M27 hp27 => ?_)
      obtain ⟨rfl, ⟨hO, hK⟩, ho27⟩ := hp27
      refine x_astore h dX11_lost_30 rfl rfl ?_
      dsimp only [List.set]
      refine x_iload_n h dX11_lost_32 rfl ?_
      refine x_cSi h ci_J6_bitCount sm_J6_bitCount l_X11_205 ⟨Nat.le_of_ble_eq_true rfl, Nat.le_of_ble_eq_true rfl⟩ ⟨rfl, rfl⟩ ⟨Nat.zero_le _, Nat.zero_le _⟩ (c_J6_bitCount a32) rfl rfl rfl rfl dX11_lost_33 (fun v33 M33 hp33 => ?_)
      obtain ⟨rfl, hM⟩ := hp33
      obtain rfl := hM.symm
      clear hM
      refine x_istore h dX11_lost_36 rfl rfl ?_
      dsimp only [List.set]
      refine x_in1 h dX11_lost_38 ?_
      refine x_aload_n h dX11_lost_39 rfl ?_
      refine x_getR h hO.1.1 f_X11_23 rfl (lg_code hO.1).1 dX11_lost_40 ?_
      refine x_getIv h (lg_code hO.1).2.1 f_X11_105 rfl (cv_k hO) dX11_lost_43 ?_
      refine x_ishl h dX11_lost_46 ?_
      refine x_topi (shl1 (V 0 23) (by omega)) ?_
      refine x_in1 h dX11_lost_47 ?_
      refine x_isubn h (show 1 ≤ 2 ^ V 0 23 from Nat.two_pow_pos _) dX11_lost_48 ?_
      refine x_istore h dX11_lost_49 rfl rfl ?_
      dsimp only [List.set]
      refine x_in0 h dX11_lost_51 ?_
      refine x_istore h dX11_lost_52 rfl rfl ?_
      dsimp only [List.set]
      refine x_in0 h dX11_lost_54 ?_
      refine x_istore h dX11_lost_55 rfl rfl ?_
      dsimp only [List.set]
      exact loop 0 (Nat.zero_le _) _ hO hK (oO_A ho27) none
    · exact absurd ((nI_le_iff (by omega) (by omega)).mpr (by omega)) c7
