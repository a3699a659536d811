theorem mInv_new {M : MM} {m : Nat} {tx : Nat → Nat} {h2 : Nat → SU} {z2 : (Nat → Nat) × (Nat → Nat)} (iz : ∀ a j, m ≤ a → a < m + 33 → M.1 a j = 0) (lz : ∀ a j, m ≤ a → a < m + 33 → M.2.1 a j = 0) : mInv (sI (sI (sI M (m + 21) 0 (nI 6)) (m + 21) 1 (nI 6)) (m + 21) 2 (nI 6)) m tx 0 (pgV tZ) su0 (0, h2) (fun _ => none) (0, z2) 0 := by
  have i0 : ∀ a j, m ≤ a → a < m + 33 → a ≠ m + 21 → (sI (sI (sI M (m + 21) 0 (nI 6)) (m + 21) 1 (nI 6)) (m + 21) 2 (nI 6)).1 a j = nI 0 := fun a j q1 q2 q3 => ((up2_ne _ _ (by omega)).trans ((up2_ne _ _ (by omega)).trans ((up2_ne _ _ (by omega)).trans (iz a j q1 q2)))).trans nI_0.symm
  refine ⟨⟨Nat.zero_le _, i0 _ _ (by omega) (by omega) (by omega), fun i hi => absurd hi (Nat.not_lt_zero _)⟩, ⟨⟨Nat.zero_le _, i0 _ _ (by omega) (by omega) (by omega), fun k hk => absurd hk (Nat.not_lt_zero _)⟩, fun k hk => absurd hk (Nat.not_lt_zero _), ⟨Nat.zero_le _, i0 _ _ (by omega) (by omega) (by omega), fun g hg => absurd hg (Nat.not_lt_zero _)⟩, ⟨Nat.zero_le _, i0 _ _ (by omega) (by omega) (by omega), fun k hk => absurd hk (Nat.not_lt_zero _), fun k hk => absurd hk (Nat.not_lt_zero _)⟩, ⟨Nat.zero_le _, i0 _ _ (by omega) (by omega) (by omega), fun k hk => absurd hk (Nat.not_lt_zero _), fun k hk => absurd hk (Nat.not_lt_zero _)⟩, i0 _ _ (by omega) (by omega) (by omega), Nat.zero_le _⟩, ⟨⟨fun v hv => ?_, ?_⟩, fun _ _ => Nat.le_refl _, by decide⟩, ⟨Nat.zero_le _, i0 _ _ (by omega) (by omega) (by omega), 0, by decide, i0 _ _ (by omega) (by omega) (by omega), fun i hi => absurd hi (Nat.not_lt_zero _)⟩, fun i hi => ⟨(i0 _ _ (by omega) (by omega) (by omega)).trans (show nI 0 = b2i false by decide), fun s q => by cases q⟩, ⟨Nat.zero_le _, i0 _ _ (by omega) (by omega) (by omega), fun i hi => absurd hi (Nat.not_lt_zero _)⟩, lz _ _ (by omega) (by omega), fun _ _ => false, fun _ _ => false, ?_⟩
  · rcases (show v = 0 ∨ v = 1 ∨ v = 2 by omega) with rfl | rfl | rfl
    · exact (up2_ne _ _ (by omega)).trans ((up2_ne _ _ (by omega)).trans (up2_self _ _ _ _))
    · exact (up2_ne _ _ (by omega)).trans (up2_self _ _ _ _)
    · exact up2_self _ _ _ _
  · exact ((up2_ne _ _ (by omega)).trans ((up2_ne _ _ (by omega)).trans ((up2_ne _ _ (by omega)).trans (iz _ _ (by omega) (by omega))))).trans nI_0.symm
  · refine Prod.ext rfl (Prod.ext ?_ rfl)
    funext a j
    show M.2.1 a j = (if a = m + 28 ∧ j < 248 then _ else if a = m + 29 ∧ j < 248 then _ else M.2.1 a j)
    by_cases q : a = m + 28 ∧ j < 248
    · rw [if_pos q, lz a j (by omega) (by omega)]
      exact (encW_none (fun _ _ => rfl)).symm
    · rw [if_neg q]
      by_cases q2 : a = m + 29 ∧ j < 248
      · rw [if_pos q2, lz a j (by omega) (by omega)]
        exact (encW_none (fun _ _ => rfl)).symm
      · rw [if_neg q2]
theorem ff_X12_7 : KW (Cond.fieldLink RX12 7 (cR 12) (cT 12 0).2.1 (cT 12 0).2.2.1) := KW.by 926 (by decide +kernel) rfl
theorem ff_X12_13 : KW (Cond.fieldLink RX12 13 (cR 12) (cT 12 2).2.1 (cT 12 2).2.2.1) := KW.by 928 (by decide +kernel) rfl
theorem ff_X12_16 : KW (Cond.fieldLink RX12 16 (cR 12) (cT 12 3).2.1 (cT 12 3).2.2.1) := KW.by 929 (by decide +kernel) rfl
theorem ff_X12_19 : KW (Cond.fieldLink RX12 19 (cR 12) (cT 12 4).2.1 (cT 12 4).2.2.1) := KW.by 930 (by decide +kernel) rfl
theorem ff_X12_22 : KW (Cond.fieldLink RX12 22 (cR 12) (cT 12 5).2.1 (cT 12 5).2.2.1) := KW.by 931 (by decide +kernel) rfl
theorem ff_X12_25 : KW (Cond.fieldLink RX12 25 (cR 12) (cT 12 6).2.1 (cT 12 6).2.2.1) := KW.by 932 (by decide +kernel) rfl
theorem ff_X12_28 : KW (Cond.fieldLink RX12 28 (cR 12) (cT 12 7).2.1 (cT 12 7).2.2.1) := KW.by 933 (by decide +kernel) rfl
theorem ff_X12_31 : KW (Cond.fieldLink RX12 31 (cR 12) (cT 12 13).2.1 (cT 12 13).2.2.1) := KW.by 939 (by decide +kernel) rfl
theorem ff_X12_34 : KW (Cond.fieldLink RX12 34 (cR 12) (cT 12 14).2.1 (cT 12 14).2.2.1) := KW.by 940 (by decide +kernel) rfl
theorem ff_X12_37 : KW (Cond.fieldLink RX12 37 (cR 12) (cT 12 15).2.1 (cT 12 15).2.2.1) := KW.by 941 (by decide +kernel) rfl
theorem ff_X12_40 : KW (Cond.fieldLink RX12 40 (cR 12) (cT 12 16).2.1 (cT 12 16).2.2.1) := KW.by 942 (by decide +kernel) rfl
theorem ff_X12_43 : KW (Cond.fieldLink RX12 43 (cR 12) (cT 12 17).2.1 (cT 12 17).2.2.1) := KW.by 943 (by decide +kernel) rfl
theorem ff_X12_46 : KW (Cond.fieldLink RX12 46 (cR 12) (cT 12 18).2.1 (cT 12 18).2.2.1) := KW.by 944 (by decide +kernel) rfl
theorem ff_X12_49 : KW (Cond.fieldLink RX12 49 (cR 12) (cT 12 19).2.1 (cT 12 19).2.2.1) := KW.by 945 (by decide +kernel) rfl
theorem ff_X12_52 : KW (Cond.fieldLink RX12 52 (cR 12) (cT 12 20).2.1 (cT 12 20).2.2.1) := KW.by 946 (by decide +kernel) rfl
theorem ff_X12_55 : KW (Cond.fieldLink RX12 55 (cR 12) (cT 12 21).2.1 (cT 12 21).2.2.1) := KW.by 947 (by decide +kernel) rfl
theorem ff_X12_58 : KW (Cond.fieldLink RX12 58 (cR 12) (cT 12 27).2.1 (cT 12 27).2.2.1) := KW.by 953 (by decide +kernel) rfl
theorem ff_X12_61 : KW (Cond.fieldLink RX12 61 (cR 12) (cT 12 28).2.1 (cT 12 28).2.2.1) := KW.by 954 (by decide +kernel) rfl
theorem ff_X12_64 : KW (Cond.fieldLink RX12 64 (cR 12) (cT 12 29).2.1 (cT 12 29).2.2.1) := KW.by 955 (by decide +kernel) rfl
theorem ff_X12_67 : KW (Cond.fieldLink RX12 67 (cR 12) (cT 12 30).2.1 (cT 12 30).2.2.1) := KW.by 956 (by decide +kernel) rfl
theorem ff_X12_70 : KW (Cond.fieldLink RX12 70 (cR 12) (cT 12 33).2.1 (cT 12 33).2.2.1) := KW.by 959 (by decide +kernel) rfl
theorem ff_X12_73 : KW (Cond.fieldLink RX12 73 (cR 12) (cT 12 34).2.1 (cT 12 34).2.2.1) := KW.by 960 (by decide +kernel) rfl
theorem ff_X12_76 : KW (Cond.fieldLink RX12 76 (cR 12) (cT 12 35).2.1 (cT 12 35).2.2.1) := KW.by 961 (by decide +kernel) rfl
theorem ff_X12_79 : KW (Cond.fieldLink RX12 79 (cR 12) (cT 12 38).2.1 (cT 12 38).2.2.1) := KW.by 964 (by decide +kernel) rfl
theorem ff_X12_82 : KW (Cond.fieldLink RX12 82 (cR 12) (cT 12 39).2.1 (cT 12 39).2.2.1) := KW.by 965 (by decide +kernel) rfl
theorem ff_X12_86 : KW (Cond.fieldLink RX12 86 (cR 12) (cT 12 40).2.1 (cT 12 40).2.2.1) := KW.by 966 (by decide +kernel) rfl
theorem ff_X12_89 : KW (Cond.fieldLink RX12 89 (cR 12) (cT 12 41).2.1 (cT 12 41).2.2.1) := KW.by 967 (by decide +kernel) rfl
theorem ff_X12_92 : KW (Cond.fieldLink RX12 92 (cR 12) (cT 12 44).2.1 (cT 12 44).2.2.1) := KW.by 970 (by decide +kernel) rfl
theorem ff_X12_96 : KW (Cond.fieldLink RX12 96 (cR 12) (cT 12 45).2.1 (cT 12 45).2.2.1) := KW.by 971 (by decide +kernel) rfl
theorem ff_X12_99 : KW (Cond.fieldLink RX12 99 (cR 12) (cT 12 46).2.1 (cT 12 46).2.2.1) := KW.by 972 (by decide +kernel) rfl
theorem ff_X12_102 : KW (Cond.fieldLink RX12 102 (cR 12) (cT 12 47).2.1 (cT 12 47).2.2.1) := KW.by 973 (by decide +kernel) rfl
theorem ff_X12_105 : KW (Cond.fieldLink RX12 105 (cR 12) (cT 12 48).2.1 (cT 12 48).2.2.1) := KW.by 974 (by decide +kernel) rfl
set_option maxHeartbeats 4000000 in
theorem c_X12_init {Γ : GT} {G : GG} {M : MM} {b : Nat} {tx : Nat → Nat} {h2 : Nat → SU} {z2 : (Nat → Nat) × (Nat → Nat)} (gb : G b = some (.inl 12)) (io : ∀ j, M.1 b j = 0) (il : ∀ j, M.2.1 b j = 0) : CallsG Γ q_X12_init [.ref b] G (b + 1) M (rC (fun G' z' M' => z' = b + 33 ∧ exV b (b + 33) G G' M M' ∧ mdF G' M'.2.2 b ∧ mInv M' b tx 0 (pgV tZ) su0 (0, h2) (fun _ => none) (0, z2) 0)) 32 1463 := by
  refine CallsG.intro (by decide +kernel) (Nat.le_of_ble_eq_true rfl) (fun E h hQ => ?_)
  have hB := exB_0 b G M
  refine x_loc (L' := [some (.ref b), none]) rfl ?_
  refine x_aload_n h dX12_init_0 rfl ?_
  refine x_obj h l_X12_1 oi_in oi_cd rfl (Nat.le_of_ble_eq_true rfl) (Nat.le_of_ble_eq_true rfl) rfl dX12_init_1 ?_
  refine x_aload_n h dX12_init_4 rfl ?_
  refine x_bipush h (nI 60) (by decide) dX12_init_5 ?_
  refine x_arr (at' := .int) (ty := .int) h 60 rfl ac_int (by decide) (by decide) (by decide) rfl ⟨Nat.le_of_ble_eq_true rfl, Nat.le_of_ble_eq_true rfl⟩ dX12_init_7 (fun G7 M7 hn gk => ?_)
  refine x_z (z' := b + 2) rfl ?_
  have hs : ∀ a, a < b + 1 → a ≠ b → sam G G7 M.2.2 M7.2.2 a := fun a h1 _ => sam_N hn h1
  replace gb := kin_x gb (sam_N hn (by omega))
  replace hB := exB_N hB hn (by omega) (by omega)
  clear hs
  have k1 : G7 (b + 1) = some (.inr (.int, 60)) := gk
  clear hn gk
  refine x_putFR h gb (by decide) (by decide) ff_X12_7 rfl rfl rfl rfl dX12_init_9 ?_
  refine x_aload_n h dX12_init_12 rfl ?_
  refine x_bipush h (nI 62) (by decide) dX12_init_13 ?_
  refine x_arr (at' := .int) (ty := .int) h 62 rfl ac_int (by decide) (by decide) (by decide) rfl ⟨Nat.le_of_ble_eq_true rfl, Nat.le_of_ble_eq_true rfl⟩ dX12_init_15 (fun G15 M15 hn gk => ?_)
  refine x_z (z' := b + 3) rfl ?_
  have hs : ∀ a, a < b + 2 → a ≠ b → sam G7 G15 M7.2.2 M15.2.2 a := fun a h1 h2 => sam_t (sam_R G7 M7 0 (.ref (b + 1)) h2) (sam_N hn h1)
  replace gb := kin_x gb (sam_N hn (by omega))
  replace k1 := kin_x k1 (hs _ (by omega) (by omega))
  have hr0 := ((sam_N hn (a := b) (by omega)).2 0).trans (up2_self M7.2.2 b 0 (.ref (b + 1)))
  replace hB := exB_N (exB_R hB 0 (.ref (b + 1))) hn (by omega) (by omega)
  clear hs
  have k2 : G15 (b + 2) = some (.inr (.int, 62)) := gk
  clear hn gk
  refine x_putFR h gb (by decide) (by decide) ff_X12_13 rfl rfl rfl rfl dX12_init_17 ?_
  refine x_aload_n h dX12_init_20 rfl ?_
  refine x_bipush h (nI 62) (by decide) dX12_init_21 ?_
  refine x_arr (at' := .int) (ty := .int) h 62 rfl ac_int (by decide) (by decide) (by decide) rfl ⟨Nat.le_of_ble_eq_true rfl, Nat.le_of_ble_eq_true rfl⟩ dX12_init_23 (fun G23 M23 hn gk => ?_)
  refine x_z (z' := b + 4) rfl ?_
  have hs : ∀ a, a < b + 3 → a ≠ b → sam G15 G23 M15.2.2 M23.2.2 a := fun a h1 h2 => sam_t (sam_R G15 M15 2 (.ref (b + 2)) h2) (sam_N hn h1)
  replace gb := kin_x gb (sam_N hn (by omega))
  replace k1 := kin_x k1 (hs _ (by omega) (by omega))
  replace hr0 := ((sam_N hn (a := b) (by omega)).2 0).trans ((up2_ne _ _ (by omega)).trans hr0)
  replace k2 := kin_x k2 (hs _ (by omega) (by omega))
  have hr2 := ((sam_N hn (a := b) (by omega)).2 2).trans (up2_self M15.2.2 b 2 (.ref (b + 2)))
  replace hB := exB_N (exB_R hB 2 (.ref (b + 2))) hn (by omega) (by omega)
  clear hs
  have k3 : G23 (b + 3) = some (.inr (.int, 62)) := gk
  clear hn gk
  refine x_putFR h gb (by decide) (by decide) ff_X12_16 rfl rfl rfl rfl dX12_init_25 ?_
  refine x_aload_n h dX12_init_28 rfl ?_
  refine x_bipush h (nI 62) (by decide) dX12_init_29 ?_
  refine x_arr (at' := .int) (ty := .int) h 62 rfl ac_int (by decide) (by decide) (by decide) rfl ⟨Nat.le_of_ble_eq_true rfl, Nat.le_of_ble_eq_true rfl⟩ dX12_init_31 (fun G31 M31 hn gk => ?_)
  refine x_z (z' := b + 5) rfl ?_
  have hs : ∀ a, a < b + 4 → a ≠ b → sam G23 G31 M23.2.2 M31.2.2 a := fun a h1 h2 => sam_t (sam_R G23 M23 3 (.ref (b + 3)) h2) (sam_N hn h1)
  replace gb := kin_x gb (sam_N hn (by omega))
  replace k1 := kin_x k1 (hs _ (by omega) (by omega))
  replace hr0 := ((sam_N hn (a := b) (by omega)).2 0).trans ((up2_ne _ _ (by omega)).trans hr0)
  replace k2 := kin_x k2 (hs _ (by omega) (by omega))
  replace hr2 := ((sam_N hn (a := b) (by omega)).2 2).trans ((up2_ne _ _ (by omega)).trans hr2)
  replace k3 := kin_x k3 (hs _ (by omega) (by omega))
  have hr3 := ((sam_N hn (a := b) (by omega)).2 3).trans (up2_self M23.2.2 b 3 (.ref (b + 3)))
  replace hB := exB_N (exB_R hB 3 (.ref (b + 3))) hn (by omega) (by omega)
  clear hs
  have k4 : G31 (b + 4) = some (.inr (.int, 62)) := gk
  clear hn gk
  refine x_putFR h gb (by decide) (by decide) ff_X12_19 rfl rfl rfl rfl dX12_init_33 ?_
  refine x_aload_n h dX12_init_36 rfl ?_
  refine x_bipush h (nI 62) (by decide) dX12_init_37 ?_
  refine x_arr (at' := .int) (ty := .int) h 62 rfl ac_int (by decide) (by decide) (by decide) rfl ⟨Nat.le_of_ble_eq_true rfl, Nat.le_of_ble_eq_true rfl⟩ dX12_init_39 (fun G39 M39 hn gk => ?_)
  refine x_z (z' := b + 6) rfl ?_
  have hs : ∀ a, a < b + 5 → a ≠ b → sam G31 G39 M31.2.2 M39.2.2 a := fun a h1 h2 => sam_t (sam_R G31 M31 4 (.ref (b + 4)) h2) (sam_N hn h1)
  replace gb := kin_x gb (sam_N hn (by omega))
  replace k1 := kin_x k1 (hs _ (by omega) (by omega))
  replace hr0 := ((sam_N hn (a := b) (by omega)).2 0).trans ((up2_ne _ _ (by omega)).trans hr0)
  replace k2 := kin_x k2 (hs _ (by omega) (by omega))
  replace hr2 := ((sam_N hn (a := b) (by omega)).2 2).trans ((up2_ne _ _ (by omega)).trans hr2)
  replace k3 := kin_x k3 (hs _ (by omega) (by omega))
  replace hr3 := ((sam_N hn (a := b) (by omega)).2 3).trans ((up2_ne _ _ (by omega)).trans hr3)
  replace k4 := kin_x k4 (hs _ (by omega) (by omega))
  have hr4 := ((sam_N hn (a := b) (by omega)).2 4).trans (up2_self M31.2.2 b 4 (.ref (b + 4)))
  replace hB := exB_N (exB_R hB 4 (.ref (b + 4))) hn (by omega) (by omega)
  clear hs
  have k5 : G39 (b + 5) = some (.inr (.int, 62)) := gk
  clear hn gk
  refine x_putFR h gb (by decide) (by decide) ff_X12_22 rfl rfl rfl rfl dX12_init_41 ?_
  refine x_aload_n h dX12_init_44 rfl ?_
  refine x_bipush h (nI 62) (by decide) dX12_init_45 ?_
  refine x_arr (at' := .int) (ty := .int) h 62 rfl ac_int (by decide) (by decide) (by decide) rfl ⟨Nat.le_of_ble_eq_true rfl, Nat.le_of_ble_eq_true rfl⟩ dX12_init_47 (fun G47 M47 hn gk => ?_)
  refine x_z (z' := b + 7) rfl ?_
  have hs : ∀ a, a < b + 6 → a ≠ b → sam G39 G47 M39.2.2 M47.2.2 a := fun a h1 h2 => sam_t (sam_R G39 M39 5 (.ref (b + 5)) h2) (sam_N hn h1)
  replace gb := kin_x gb (sam_N hn (by omega))
  replace k1 := kin_x k1 (hs _ (by omega) (by omega))
  replace hr0 := ((sam_N hn (a := b) (by omega)).2 0).trans ((up2_ne _ _ (by omega)).trans hr0)
  replace k2 := kin_x k2 (hs _ (by omega) (by omega))
  replace hr2 := ((sam_N hn (a := b) (by omega)).2 2).trans ((up2_ne _ _ (by omega)).trans hr2)
  replace k3 := kin_x k3 (hs _ (by omega) (by omega))
  replace hr3 := ((sam_N hn (a := b) (by omega)).2 3).trans ((up2_ne _ _ (by omega)).trans hr3)
  replace k4 := kin_x k4 (hs _ (by omega) (by omega))
  replace hr4 := ((sam_N hn (a := b) (by omega)).2 4).trans ((up2_ne _ _ (by omega)).trans hr4)
  replace k5 := kin_x k5 (hs _ (by omega) (by omega))
  have hr5 := ((sam_N hn (a := b) (by omega)).2 5).trans (up2_self M39.2.2 b 5 (.ref (b + 5)))
  replace hB := exB_N (exB_R hB 5 (.ref (b + 5))) hn (by omega) (by omega)
  clear hs
  have k6 : G47 (b + 6) = some (.inr (.int, 62)) := gk
  clear hn gk
  refine x_putFR h gb (by decide) (by decide) ff_X12_25 rfl rfl rfl rfl dX12_init_49 ?_
  refine x_aload_n h dX12_init_52 rfl ?_
  refine x_bipush h (nI 62) (by decide) dX12_init_53 ?_
  refine x_arr (at' := .int) (ty := .int) h 62 rfl ac_int (by decide) (by decide) (by decide) rfl ⟨Nat.le_of_ble_eq_true rfl, Nat.le_of_ble_eq_true rfl⟩ dX12_init_55 (fun G55 M55 hn gk => ?_)
  refine x_z (z' := b + 8) rfl ?_
  have hs : ∀ a, a < b + 7 → a ≠ b → sam G47 G55 M47.2.2 M55.2.2 a := fun a h1 h2 => sam_t (sam_R G47 M47 6 (.ref (b + 6)) h2) (sam_N hn h1)
  replace gb := kin_x gb (sam_N hn (by omega))
  replace k1 := kin_x k1 (hs _ (by omega) (by omega))
  replace hr0 := ((sam_N hn (a := b) (by omega)).2 0).trans ((up2_ne _ _ (by omega)).trans hr0)
  replace k2 := kin_x k2 (hs _ (by omega) (by omega))
  replace hr2 := ((sam_N hn (a := b) (by omega)).2 2).trans ((up2_ne _ _ (by omega)).trans hr2)
  replace k3 := kin_x k3 (hs _ (by omega) (by omega))
  replace hr3 := ((sam_N hn (a := b) (by omega)).2 3).trans ((up2_ne _ _ (by omega)).trans hr3)
  replace k4 := kin_x k4 (hs _ (by omega) (by omega))
  replace hr4 := ((sam_N hn (a := b) (by omega)).2 4).trans ((up2_ne _ _ (by omega)).trans hr4)
  replace k5 := kin_x k5 (hs _ (by omega) (by omega))
  replace hr5 := ((sam_N hn (a := b) (by omega)).2 5).trans ((up2_ne _ _ (by omega)).trans hr5)
  replace k6 := kin_x k6 (hs _ (by omega) (by omega))
  have hr6 := ((sam_N hn (a := b) (by omega)).2 6).trans (up2_self M47.2.2 b 6 (.ref (b + 6)))
  replace hB := exB_N (exB_R hB 6 (.ref (b + 6))) hn (by omega) (by omega)
  clear hs
  have k7 : G55 (b + 7) = some (.inr (.int, 62)) := gk
  clear hn gk
  refine x_putFR h gb (by decide) (by decide) ff_X12_28 rfl rfl rfl rfl dX12_init_57 ?_
  refine x_aload_n h dX12_init_60 rfl ?_
  refine x_in5 h dX12_init_61 ?_
  refine x_arr (at' := .int) (ty := .int) h 5 rfl ac_int (by decide) (by decide) (by decide) rfl ⟨Nat.le_of_ble_eq_true rfl, Nat.le_of_ble_eq_true rfl⟩ dX12_init_62 (fun G62 M62 hn gk => ?_)
  refine x_z (z' := b + 9) rfl ?_
  have hs : ∀ a, a < b + 8 → a ≠ b → sam G55 G62 M55.2.2 M62.2.2 a := fun a h1 h2 => sam_t (sam_R G55 M55 7 (.ref (b + 7)) h2) (sam_N hn h1)
  replace gb := kin_x gb (sam_N hn (by omega))
  replace k1 := kin_x k1 (hs _ (by omega) (by omega))
  replace hr0 := ((sam_N hn (a := b) (by omega)).2 0).trans ((up2_ne _ _ (by omega)).trans hr0)
  replace k2 := kin_x k2 (hs _ (by omega) (by omega))
  replace hr2 := ((sam_N hn (a := b) (by omega)).2 2).trans ((up2_ne _ _ (by omega)).trans hr2)
  replace k3 := kin_x k3 (hs _ (by omega) (by omega))
  replace hr3 := ((sam_N hn (a := b) (by omega)).2 3).trans ((up2_ne _ _ (by omega)).trans hr3)
  replace k4 := kin_x k4 (hs _ (by omega) (by omega))
  replace hr4 := ((sam_N hn (a := b) (by omega)).2 4).trans ((up2_ne _ _ (by omega)).trans hr4)
  replace k5 := kin_x k5 (hs _ (by omega) (by omega))
  replace hr5 := ((sam_N hn (a := b) (by omega)).2 5).trans ((up2_ne _ _ (by omega)).trans hr5)
  replace k6 := kin_x k6 (hs _ (by omega) (by omega))
  replace hr6 := ((sam_N hn (a := b) (by omega)).2 6).trans ((up2_ne _ _ (by omega)).trans hr6)
  replace k7 := kin_x k7 (hs _ (by omega) (by omega))
  have hr7 := ((sam_N hn (a := b) (by omega)).2 7).trans (up2_self M55.2.2 b 7 (.ref (b + 7)))
  replace hB := exB_N (exB_R hB 7 (.ref (b + 7))) hn (by omega) (by omega)
  clear hs
  have k8 : G62 (b + 8) = some (.inr (.int, 5)) := gk
  clear hn gk
  refine x_putFR h gb (by decide) (by decide) ff_X12_31 rfl rfl rfl rfl dX12_init_64 ?_
  refine x_aload_n h dX12_init_67 rfl ?_
  refine x_in5 h dX12_init_68 ?_
  refine x_arr (at' := .int) (ty := .int) h 5 rfl ac_int (by decide) (by decide) (by decide) rfl ⟨Nat.le_of_ble_eq_true rfl, Nat.le_of_ble_eq_true rfl⟩ dX12_init_69 (fun G69 M69 hn gk => ?_)
  refine x_z (z' := b + 10) rfl ?_
  have hs : ∀ a, a < b + 9 → a ≠ b → sam G62 G69 M62.2.2 M69.2.2 a := fun a h1 h2 => sam_t (sam_R G62 M62 13 (.ref (b + 8)) h2) (sam_N hn h1)
  replace gb := kin_x gb (sam_N hn (by omega))
  replace k1 := kin_x k1 (hs _ (by omega) (by omega))
  replace hr0 := ((sam_N hn (a := b) (by omega)).2 0).trans ((up2_ne _ _ (by omega)).trans hr0)
  replace k2 := kin_x k2 (hs _ (by omega) (by omega))
  replace hr2 := ((sam_N hn (a := b) (by omega)).2 2).trans ((up2_ne _ _ (by omega)).trans hr2)
  replace k3 := kin_x k3 (hs _ (by omega) (by omega))
  replace hr3 := ((sam_N hn (a := b) (by omega)).2 3).trans ((up2_ne _ _ (by omega)).trans hr3)
  replace k4 := kin_x k4 (hs _ (by omega) (by omega))
  replace hr4 := ((sam_N hn (a := b) (by omega)).2 4).trans ((up2_ne _ _ (by omega)).trans hr4)
  replace k5 := kin_x k5 (hs _ (by omega) (by omega))
  replace hr5 := ((sam_N hn (a := b) (by omega)).2 5).trans ((up2_ne _ _ (by omega)).trans hr5)
  replace k6 := kin_x k6 (hs _ (by omega) (by omega))
  replace hr6 := ((sam_N hn (a := b) (by omega)).2 6).trans ((up2_ne _ _ (by omega)).trans hr6)
  replace k7 := kin_x k7 (hs _ (by omega) (by omega))
  replace hr7 := ((sam_N hn (a := b) (by omega)).2 7).trans ((up2_ne _ _ (by omega)).trans hr7)
  replace k8 := kin_x k8 (hs _ (by omega) (by omega))
  have hr13 := ((sam_N hn (a := b) (by omega)).2 13).trans (up2_self M62.2.2 b 13 (.ref (b + 8)))
  replace hB := exB_N (exB_R hB 13 (.ref (b + 8))) hn (by omega) (by omega)
  clear hs
  have k9 : G69 (b + 9) = some (.inr (.int, 5)) := gk
  clear hn gk
  refine x_putFR h gb (by decide) (by decide) ff_X12_34 rfl rfl rfl rfl dX12_init_71 ?_
  refine x_aload_n h dX12_init_74 rfl ?_
  refine x_in5 h dX12_init_75 ?_
  refine x_arr (at' := .int) (ty := .int) h 5 rfl ac_int (by decide) (by decide) (by decide) rfl ⟨Nat.le_of_ble_eq_true rfl, Nat.le_of_ble_eq_true rfl⟩ dX12_init_76 (fun G76 M76 hn gk => ?_)
  refine x_z (z' := b + 11) rfl ?_
  have hs : ∀ a, a < b + 10 → a ≠ b → sam G69 G76 M69.2.2 M76.2.2 a := fun a h1 h2 => sam_t (sam_R G69 M69 14 (.ref (b + 9)) h2) (sam_N hn h1)
  replace gb := kin_x gb (sam_N hn (by omega))
  replace k1 := kin_x k1 (hs _ (by omega) (by omega))
  replace hr0 := ((sam_N hn (a := b) (by omega)).2 0).trans ((up2_ne _ _ (by omega)).trans hr0)
  replace k2 := kin_x k2 (hs _ (by omega) (by omega))
  replace hr2 := ((sam_N hn (a := b) (by omega)).2 2).trans ((up2_ne _ _ (by omega)).trans hr2)
  replace k3 := kin_x k3 (hs _ (by omega) (by omega))
  replace hr3 := ((sam_N hn (a := b) (by omega)).2 3).trans ((up2_ne _ _ (by omega)).trans hr3)
  replace k4 := kin_x k4 (hs _ (by omega) (by omega))
  replace hr4 := ((sam_N hn (a := b) (by omega)).2 4).trans ((up2_ne _ _ (by omega)).trans hr4)
  replace k5 := kin_x k5 (hs _ (by omega) (by omega))
  replace hr5 := ((sam_N hn (a := b) (by omega)).2 5).trans ((up2_ne _ _ (by omega)).trans hr5)
  replace k6 := kin_x k6 (hs _ (by omega) (by omega))
  replace hr6 := ((sam_N hn (a := b) (by omega)).2 6).trans ((up2_ne _ _ (by omega)).trans hr6)
  replace k7 := kin_x k7 (hs _ (by omega) (by omega))
  replace hr7 := ((sam_N hn (a := b) (by omega)).2 7).trans ((up2_ne _ _ (by omega)).trans hr7)
  replace k8 := kin_x k8 (hs _ (by omega) (by omega))
  replace hr13 := ((sam_N hn (a := b) (by omega)).2 13).trans ((up2_ne _ _ (by omega)).trans hr13)
  replace k9 := kin_x k9 (hs _ (by omega) (by omega))
  have hr14 := ((sam_N hn (a := b) (by omega)).2 14).trans (up2_self M69.2.2 b 14 (.ref (b + 9)))
  replace hB := exB_N (exB_R hB 14 (.ref (b + 9))) hn (by omega) (by omega)
  clear hs
  have k10 : G76 (b + 10) = some (.inr (.int, 5)) := gk
  clear hn gk
  refine x_putFR h gb (by decide) (by decide) ff_X12_37 rfl rfl rfl rfl dX12_init_78 ?_
  refine x_aload_n h dX12_init_81 rfl ?_
  refine x_bipush h (nI 62) (by decide) dX12_init_82 ?_
  refine x_arr (at' := .int) (ty := .int) h 62 rfl ac_int (by decide) (by decide) (by decide) rfl ⟨Nat.le_of_ble_eq_true rfl, Nat.le_of_ble_eq_true rfl⟩ dX12_init_84 (fun G84 M84 hn gk => ?_)
  refine x_z (z' := b + 12) rfl ?_
  have hs : ∀ a, a < b + 11 → a ≠ b → sam G76 G84 M76.2.2 M84.2.2 a := fun a h1 h2 => sam_t (sam_R G76 M76 15 (.ref (b + 10)) h2) (sam_N hn h1)
  replace gb := kin_x gb (sam_N hn (by omega))
  replace k1 := kin_x k1 (hs _ (by omega) (by omega))
  replace hr0 := ((sam_N hn (a := b) (by omega)).2 0).trans ((up2_ne _ _ (by omega)).trans hr0)
  replace k2 := kin_x k2 (hs _ (by omega) (by omega))
  replace hr2 := ((sam_N hn (a := b) (by omega)).2 2).trans ((up2_ne _ _ (by omega)).trans hr2)
  replace k3 := kin_x k3 (hs _ (by omega) (by omega))
  replace hr3 := ((sam_N hn (a := b) (by omega)).2 3).trans ((up2_ne _ _ (by omega)).trans hr3)
  replace k4 := kin_x k4 (hs _ (by omega) (by omega))
  replace hr4 := ((sam_N hn (a := b) (by omega)).2 4).trans ((up2_ne _ _ (by omega)).trans hr4)
  replace k5 := kin_x k5 (hs _ (by omega) (by omega))
  replace hr5 := ((sam_N hn (a := b) (by omega)).2 5).trans ((up2_ne _ _ (by omega)).trans hr5)
  replace k6 := kin_x k6 (hs _ (by omega) (by omega))
  replace hr6 := ((sam_N hn (a := b) (by omega)).2 6).trans ((up2_ne _ _ (by omega)).trans hr6)
  replace k7 := kin_x k7 (hs _ (by omega) (by omega))
  replace hr7 := ((sam_N hn (a := b) (by omega)).2 7).trans ((up2_ne _ _ (by omega)).trans hr7)
  replace k8 := kin_x k8 (hs _ (by omega) (by omega))
  replace hr13 := ((sam_N hn (a := b) (by omega)).2 13).trans ((up2_ne _ _ (by omega)).trans hr13)
  replace k9 := kin_x k9 (hs _ (by omega) (by omega))
  replace hr14 := ((sam_N hn (a := b) (by omega)).2 14).trans ((up2_ne _ _ (by omega)).trans hr14)
  replace k10 := kin_x k10 (hs _ (by omega) (by omega))
  have hr15 := ((sam_N hn (a := b) (by omega)).2 15).trans (up2_self M76.2.2 b 15 (.ref (b + 10)))
  replace hB := exB_N (exB_R hB 15 (.ref (b + 10))) hn (by omega) (by omega)
  clear hs
  have k11 : G84 (b + 11) = some (.inr (.int, 62)) := gk
  clear hn gk
  refine x_putFR h gb (by decide) (by decide) ff_X12_40 rfl rfl rfl rfl dX12_init_86 ?_
  refine x_aload_n h dX12_init_89 rfl ?_
  refine x_bipush h (nI 62) (by decide) dX12_init_90 ?_
  refine x_arr (at' := .int) (ty := .int) h 62 rfl ac_int (by decide) (by decide) (by decide) rfl ⟨Nat.le_of_ble_eq_true rfl, Nat.le_of_ble_eq_true rfl⟩ dX12_init_92 (fun G92 M92 hn gk => ?_)
  refine x_z (z' := b + 13) rfl ?_
  have hs : ∀ a, a < b + 12 → a ≠ b → sam G84 G92 M84.2.2 M92.2.2 a := fun a h1 h2 => sam_t (sam_R G84 M84 16 (.ref (b + 11)) h2) (sam_N hn h1)
  replace gb := kin_x gb (sam_N hn (by omega))
  replace k1 := kin_x k1 (hs _ (by omega) (by omega))
  replace hr0 := ((sam_N hn (a := b) (by omega)).2 0).trans ((up2_ne _ _ (by omega)).trans hr0)
  replace k2 := kin_x k2 (hs _ (by omega) (by omega))
  replace hr2 := ((sam_N hn (a := b) (by omega)).2 2).trans ((up2_ne _ _ (by omega)).trans hr2)
  replace k3 := kin_x k3 (hs _ (by omega) (by omega))
  replace hr3 := ((sam_N hn (a := b) (by omega)).2 3).trans ((up2_ne _ _ (by omega)).trans hr3)
  replace k4 := kin_x k4 (hs _ (by omega) (by omega))
  replace hr4 := ((sam_N hn (a := b) (by omega)).2 4).trans ((up2_ne _ _ (by omega)).trans hr4)
  replace k5 := kin_x k5 (hs _ (by omega) (by omega))
  replace hr5 := ((sam_N hn (a := b) (by omega)).2 5).trans ((up2_ne _ _ (by omega)).trans hr5)
  replace k6 := kin_x k6 (hs _ (by omega) (by omega))
  replace hr6 := ((sam_N hn (a := b) (by omega)).2 6).trans ((up2_ne _ _ (by omega)).trans hr6)
  replace k7 := kin_x k7 (hs _ (by omega) (by omega))
  replace hr7 := ((sam_N hn (a := b) (by omega)).2 7).trans ((up2_ne _ _ (by omega)).trans hr7)
  replace k8 := kin_x k8 (hs _ (by omega) (by omega))
  replace hr13 := ((sam_N hn (a := b) (by omega)).2 13).trans ((up2_ne _ _ (by omega)).trans hr13)
  replace k9 := kin_x k9 (hs _ (by omega) (by omega))
  replace hr14 := ((sam_N hn (a := b) (by omega)).2 14).trans ((up2_ne _ _ (by omega)).trans hr14)
  replace k10 := kin_x k10 (hs _ (by omega) (by omega))
  replace hr15 := ((sam_N hn (a := b) (by omega)).2 15).trans ((up2_ne _ _ (by omega)).trans hr15)
  replace k11 := kin_x k11 (hs _ (by omega) (by omega))
  have hr16 := ((sam_N hn (a := b) (by omega)).2 16).trans (up2_self M84.2.2 b 16 (.ref (b + 11)))
  replace hB := exB_N (exB_R hB 16 (.ref (b + 11))) hn (by omega) (by omega)
  clear hs
  have k12 : G92 (b + 12) = some (.inr (.int, 62)) := gk
  clear hn gk
  refine x_putFR h gb (by decide) (by decide) ff_X12_43 rfl rfl rfl rfl dX12_init_94 ?_
  refine x_aload_n h dX12_init_97 rfl ?_
  refine x_bipush h (nI 62) (by decide) dX12_init_98 ?_
  refine x_arr (at' := .int) (ty := .int) h 62 rfl ac_int (by decide) (by decide) (by decide) rfl ⟨Nat.le_of_ble_eq_true rfl, Nat.le_of_ble_eq_true rfl⟩ dX12_init_100 (fun G100 M100 hn gk => ?_)
  refine x_z (z' := b + 14) rfl ?_
  have hs : ∀ a, a < b + 13 → a ≠ b → sam G92 G100 M92.2.2 M100.2.2 a := fun a h1 h2 => sam_t (sam_R G92 M92 17 (.ref (b + 12)) h2) (sam_N hn h1)
  replace gb := kin_x gb (sam_N hn (by omega))
  replace k1 := kin_x k1 (hs _ (by omega) (by omega))
  replace hr0 := ((sam_N hn (a := b) (by omega)).2 0).trans ((up2_ne _ _ (by omega)).trans hr0)
  replace k2 := kin_x k2 (hs _ (by omega) (by omega))
  replace hr2 := ((sam_N hn (a := b) (by omega)).2 2).trans ((up2_ne _ _ (by omega)).trans hr2)
  replace k3 := kin_x k3 (hs _ (by omega) (by omega))
  replace hr3 := ((sam_N hn (a := b) (by omega)).2 3).trans ((up2_ne _ _ (by omega)).trans hr3)
  replace k4 := kin_x k4 (hs _ (by omega) (by omega))
  replace hr4 := ((sam_N hn (a := b) (by omega)).2 4).trans ((up2_ne _ _ (by omega)).trans hr4)
  replace k5 := kin_x k5 (hs _ (by omega) (by omega))
  replace hr5 := ((sam_N hn (a := b) (by omega)).2 5).trans ((up2_ne _ _ (by omega)).trans hr5)
  replace k6 := kin_x k6 (hs _ (by omega) (by omega))
  replace hr6 := ((sam_N hn (a := b) (by omega)).2 6).trans ((up2_ne _ _ (by omega)).trans hr6)
  replace k7 := kin_x k7 (hs _ (by omega) (by omega))
  replace hr7 := ((sam_N hn (a := b) (by omega)).2 7).trans ((up2_ne _ _ (by omega)).trans hr7)
  replace k8 := kin_x k8 (hs _ (by omega) (by omega))
  replace hr13 := ((sam_N hn (a := b) (by omega)).2 13).trans ((up2_ne _ _ (by omega)).trans hr13)
  replace k9 := kin_x k9 (hs _ (by omega) (by omega))
  replace hr14 := ((sam_N hn (a := b) (by omega)).2 14).trans ((up2_ne _ _ (by omega)).trans hr14)
  replace k10 := kin_x k10 (hs _ (by omega) (by omega))
  replace hr15 := ((sam_N hn (a := b) (by omega)).2 15).trans ((up2_ne _ _ (by omega)).trans hr15)
  replace k11 := kin_x k11 (hs _ (by omega) (by omega))
  replace hr16 := ((sam_N hn (a := b) (by omega)).2 16).trans ((up2_ne _ _ (by omega)).trans hr16)
  replace k12 := kin_x k12 (hs _ (by omega) (by omega))
  have hr17 := ((sam_N hn (a := b) (by omega)).2 17).trans (up2_self M92.2.2 b 17 (.ref (b + 12)))
  replace hB := exB_N (exB_R hB 17 (.ref (b + 12))) hn (by omega) (by omega)
  clear hs
  have k13 : G100 (b + 13) = some (.inr (.int, 62)) := gk
  clear hn gk
  refine x_putFR h gb (by decide) (by decide) ff_X12_46 rfl rfl rfl rfl dX12_init_102 ?_
  refine x_aload_n h dX12_init_105 rfl ?_
  refine x_bipush h (nI 62) (by decide) dX12_init_106 ?_
  refine x_arr (at' := .int) (ty := .int) h 62 rfl ac_int (by decide) (by decide) (by decide) rfl ⟨Nat.le_of_ble_eq_true rfl, Nat.le_of_ble_eq_true rfl⟩ dX12_init_108 (fun G108 M108 hn gk => ?_)
  refine x_z (z' := b + 15) rfl ?_
  have hs : ∀ a, a < b + 14 → a ≠ b → sam G100 G108 M100.2.2 M108.2.2 a := fun a h1 h2 => sam_t (sam_R G100 M100 18 (.ref (b + 13)) h2) (sam_N hn h1)
  replace gb := kin_x gb (sam_N hn (by omega))
  replace k1 := kin_x k1 (hs _ (by omega) (by omega))
  replace hr0 := ((sam_N hn (a := b) (by omega)).2 0).trans ((up2_ne _ _ (by omega)).trans hr0)
  replace k2 := kin_x k2 (hs _ (by omega) (by omega))
  replace hr2 := ((sam_N hn (a := b) (by omega)).2 2).trans ((up2_ne _ _ (by omega)).trans hr2)
  replace k3 := kin_x k3 (hs _ (by omega) (by omega))
  replace hr3 := ((sam_N hn (a := b) (by omega)).2 3).trans ((up2_ne _ _ (by omega)).trans hr3)
  replace k4 := kin_x k4 (hs _ (by omega) (by omega))
  replace hr4 := ((sam_N hn (a := b) (by omega)).2 4).trans ((up2_ne _ _ (by omega)).trans hr4)
  replace k5 := kin_x k5 (hs _ (by omega) (by omega))
  replace hr5 := ((sam_N hn (a := b) (by omega)).2 5).trans ((up2_ne _ _ (by omega)).trans hr5)
  replace k6 := kin_x k6 (hs _ (by omega) (by omega))
  replace hr6 := ((sam_N hn (a := b) (by omega)).2 6).trans ((up2_ne _ _ (by omega)).trans hr6)
  replace k7 := kin_x k7 (hs _ (by omega) (by omega))
  replace hr7 := ((sam_N hn (a := b) (by omega)).2 7).trans ((up2_ne _ _ (by omega)).trans hr7)
  replace k8 := kin_x k8 (hs _ (by omega) (by omega))
  replace hr13 := ((sam_N hn (a := b) (by omega)).2 13).trans ((up2_ne _ _ (by omega)).trans hr13)
  replace k9 := kin_x k9 (hs _ (by omega) (by omega))
  replace hr14 := ((sam_N hn (a := b) (by omega)).2 14).trans ((up2_ne _ _ (by omega)).trans hr14)
  replace k10 := kin_x k10 (hs _ (by omega) (by omega))
  replace hr15 := ((sam_N hn (a := b) (by omega)).2 15).trans ((up2_ne _ _ (by omega)).trans hr15)
  replace k11 := kin_x k11 (hs _ (by omega) (by omega))
  replace hr16 := ((sam_N hn (a := b) (by omega)).2 16).trans ((up2_ne _ _ (by omega)).trans hr16)
  replace k12 := kin_x k12 (hs _ (by omega) (by omega))
  replace hr17 := ((sam_N hn (a := b) (by omega)).2 17).trans ((up2_ne _ _ (by omega)).trans hr17)
  replace k13 := kin_x k13 (hs _ (by omega) (by omega))
  have hr18 := ((sam_N hn (a := b) (by omega)).2 18).trans (up2_self M100.2.2 b 18 (.ref (b + 13)))
  replace hB := exB_N (exB_R hB 18 (.ref (b + 13))) hn (by omega) (by omega)
  clear hs
  have k14 : G108 (b + 14) = some (.inr (.int, 62)) := gk
  clear hn gk
  refine x_putFR h gb (by decide) (by decide) ff_X12_49 rfl rfl rfl rfl dX12_init_110 ?_
  refine x_aload_n h dX12_init_113 rfl ?_
  refine x_bipush h (nI 62) (by decide) dX12_init_114 ?_
  refine x_arr (at' := .int) (ty := .int) h 62 rfl ac_int (by decide) (by decide) (by decide) rfl ⟨Nat.le_of_ble_eq_true rfl, Nat.le_of_ble_eq_true rfl⟩ dX12_init_116 (fun G116 M116 hn gk => ?_)
  refine x_z (z' := b + 16) rfl ?_
  have hs : ∀ a, a < b + 15 → a ≠ b → sam G108 G116 M108.2.2 M116.2.2 a := fun a h1 h2 => sam_t (sam_R G108 M108 19 (.ref (b + 14)) h2) (sam_N hn h1)
  replace gb := kin_x gb (sam_N hn (by omega))
  replace k1 := kin_x k1 (hs _ (by omega) (by omega))
  replace hr0 := ((sam_N hn (a := b) (by omega)).2 0).trans ((up2_ne _ _ (by omega)).trans hr0)
  replace k2 := kin_x k2 (hs _ (by omega) (by omega))
  replace hr2 := ((sam_N hn (a := b) (by omega)).2 2).trans ((up2_ne _ _ (by omega)).trans hr2)
  replace k3 := kin_x k3 (hs _ (by omega) (by omega))
  replace hr3 := ((sam_N hn (a := b) (by omega)).2 3).trans ((up2_ne _ _ (by omega)).trans hr3)
  replace k4 := kin_x k4 (hs _ (by omega) (by omega))
  replace hr4 := ((sam_N hn (a := b) (by omega)).2 4).trans ((up2_ne _ _ (by omega)).trans hr4)
  replace k5 := kin_x k5 (hs _ (by omega) (by omega))
  replace hr5 := ((sam_N hn (a := b) (by omega)).2 5).trans ((up2_ne _ _ (by omega)).trans hr5)
  replace k6 := kin_x k6 (hs _ (by omega) (by omega))
  replace hr6 := ((sam_N hn (a := b) (by omega)).2 6).trans ((up2_ne _ _ (by omega)).trans hr6)
  replace k7 := kin_x k7 (hs _ (by omega) (by omega))
  replace hr7 := ((sam_N hn (a := b) (by omega)).2 7).trans ((up2_ne _ _ (by omega)).trans hr7)
  replace k8 := kin_x k8 (hs _ (by omega) (by omega))
  replace hr13 := ((sam_N hn (a := b) (by omega)).2 13).trans ((up2_ne _ _ (by omega)).trans hr13)
  replace k9 := kin_x k9 (hs _ (by omega) (by omega))
  replace hr14 := ((sam_N hn (a := b) (by omega)).2 14).trans ((up2_ne _ _ (by omega)).trans hr14)
  replace k10 := kin_x k10 (hs _ (by omega) (by omega))
  replace hr15 := ((sam_N hn (a := b) (by omega)).2 15).trans ((up2_ne _ _ (by omega)).trans hr15)
  replace k11 := kin_x k11 (hs _ (by omega) (by omega))
  replace hr16 := ((sam_N hn (a := b) (by omega)).2 16).trans ((up2_ne _ _ (by omega)).trans hr16)
  replace k12 := kin_x k12 (hs _ (by omega) (by omega))
  replace hr17 := ((sam_N hn (a := b) (by omega)).2 17).trans ((up2_ne _ _ (by omega)).trans hr17)
  replace k13 := kin_x k13 (hs _ (by omega) (by omega))
  replace hr18 := ((sam_N hn (a := b) (by omega)).2 18).trans ((up2_ne _ _ (by omega)).trans hr18)
  replace k14 := kin_x k14 (hs _ (by omega) (by omega))
  have hr19 := ((sam_N hn (a := b) (by omega)).2 19).trans (up2_self M108.2.2 b 19 (.ref (b + 14)))
  replace hB := exB_N (exB_R hB 19 (.ref (b + 14))) hn (by omega) (by omega)
  clear hs
  have k15 : G116 (b + 15) = some (.inr (.int, 62)) := gk
  clear hn gk
  refine x_putFR h gb (by decide) (by decide) ff_X12_52 rfl rfl rfl rfl dX12_init_118 ?_
  refine x_aload_n h dX12_init_121 rfl ?_
  refine x_bipush h (nI 62) (by decide) dX12_init_122 ?_
  refine x_arr (at' := .int) (ty := .int) h 62 rfl ac_int (by decide) (by decide) (by decide) rfl ⟨Nat.le_of_ble_eq_true rfl, Nat.le_of_ble_eq_true rfl⟩ dX12_init_124 (fun G124 M124 hn gk => ?_)
  refine x_z (z' := b + 17) rfl ?_
  have hs : ∀ a, a < b + 16 → a ≠ b → sam G116 G124 M116.2.2 M124.2.2 a := fun a h1 h2 => sam_t (sam_R G116 M116 20 (.ref (b + 15)) h2) (sam_N hn h1)
  replace gb := kin_x gb (sam_N hn (by omega))
  replace k1 := kin_x k1 (hs _ (by omega) (by omega))
  replace hr0 := ((sam_N hn (a := b) (by omega)).2 0).trans ((up2_ne _ _ (by omega)).trans hr0)
  replace k2 := kin_x k2 (hs _ (by omega) (by omega))
  replace hr2 := ((sam_N hn (a := b) (by omega)).2 2).trans ((up2_ne _ _ (by omega)).trans hr2)
  replace k3 := kin_x k3 (hs _ (by omega) (by omega))
  replace hr3 := ((sam_N hn (a := b) (by omega)).2 3).trans ((up2_ne _ _ (by omega)).trans hr3)
  replace k4 := kin_x k4 (hs _ (by omega) (by omega))
  replace hr4 := ((sam_N hn (a := b) (by omega)).2 4).trans ((up2_ne _ _ (by omega)).trans hr4)
  replace k5 := kin_x k5 (hs _ (by omega) (by omega))
  replace hr5 := ((sam_N hn (a := b) (by omega)).2 5).trans ((up2_ne _ _ (by omega)).trans hr5)
  replace k6 := kin_x k6 (hs _ (by omega) (by omega))
  replace hr6 := ((sam_N hn (a := b) (by omega)).2 6).trans ((up2_ne _ _ (by omega)).trans hr6)
  replace k7 := kin_x k7 (hs _ (by omega) (by omega))
  replace hr7 := ((sam_N hn (a := b) (by omega)).2 7).trans ((up2_ne _ _ (by omega)).trans hr7)
  replace k8 := kin_x k8 (hs _ (by omega) (by omega))
  replace hr13 := ((sam_N hn (a := b) (by omega)).2 13).trans ((up2_ne _ _ (by omega)).trans hr13)
  replace k9 := kin_x k9 (hs _ (by omega) (by omega))
  replace hr14 := ((sam_N hn (a := b) (by omega)).2 14).trans ((up2_ne _ _ (by omega)).trans hr14)
  replace k10 := kin_x k10 (hs _ (by omega) (by omega))
  replace hr15 := ((sam_N hn (a := b) (by omega)).2 15).trans ((up2_ne _ _ (by omega)).trans hr15)
  replace k11 := kin_x k11 (hs _ (by omega) (by omega))
  replace hr16 := ((sam_N hn (a := b) (by omega)).2 16).trans ((up2_ne _ _ (by omega)).trans hr16)
  replace k12 := kin_x k12 (hs _ (by omega) (by omega))
  replace hr17 := ((sam_N hn (a := b) (by omega)).2 17).trans ((up2_ne _ _ (by omega)).trans hr17)
  replace k13 := kin_x k13 (hs _ (by omega) (by omega))
  replace hr18 := ((sam_N hn (a := b) (by omega)).2 18).trans ((up2_ne _ _ (by omega)).trans hr18)
  replace k14 := kin_x k14 (hs _ (by omega) (by omega))
  replace hr19 := ((sam_N hn (a := b) (by omega)).2 19).trans ((up2_ne _ _ (by omega)).trans hr19)
  replace k15 := kin_x k15 (hs _ (by omega) (by omega))
  have hr20 := ((sam_N hn (a := b) (by omega)).2 20).trans (up2_self M116.2.2 b 20 (.ref (b + 15)))
  replace hB := exB_N (exB_R hB 20 (.ref (b + 15))) hn (by omega) (by omega)
  clear hs
  have k16 : G124 (b + 16) = some (.inr (.int, 62)) := gk
  clear hn gk
  refine x_putFR h gb (by decide) (by decide) ff_X12_55 rfl rfl rfl rfl dX12_init_126 ?_
  refine x_aload_n h dX12_init_129 rfl ?_
  refine x_in5 h dX12_init_130 ?_
  refine x_arr (at' := .int) (ty := .int) h 5 rfl ac_int (by decide) (by decide) (by decide) rfl ⟨Nat.le_of_ble_eq_true rfl, Nat.le_of_ble_eq_true rfl⟩ dX12_init_131 (fun G131 M131 hn gk => ?_)
  refine x_z (z' := b + 18) rfl ?_
  have hs : ∀ a, a < b + 17 → a ≠ b → sam G124 G131 M124.2.2 M131.2.2 a := fun a h1 h2 => sam_t (sam_R G124 M124 21 (.ref (b + 16)) h2) (sam_N hn h1)
  replace gb := kin_x gb (sam_N hn (by omega))
  replace k1 := kin_x k1 (hs _ (by omega) (by omega))
  replace hr0 := ((sam_N hn (a := b) (by omega)).2 0).trans ((up2_ne _ _ (by omega)).trans hr0)
  replace k2 := kin_x k2 (hs _ (by omega) (by omega))
  replace hr2 := ((sam_N hn (a := b) (by omega)).2 2).trans ((up2_ne _ _ (by omega)).trans hr2)
  replace k3 := kin_x k3 (hs _ (by omega) (by omega))
  replace hr3 := ((sam_N hn (a := b) (by omega)).2 3).trans ((up2_ne _ _ (by omega)).trans hr3)
  replace k4 := kin_x k4 (hs _ (by omega) (by omega))
  replace hr4 := ((sam_N hn (a := b) (by omega)).2 4).trans ((up2_ne _ _ (by omega)).trans hr4)
  replace k5 := kin_x k5 (hs _ (by omega) (by omega))
  replace hr5 := ((sam_N hn (a := b) (by omega)).2 5).trans ((up2_ne _ _ (by omega)).trans hr5)
  replace k6 := kin_x k6 (hs _ (by omega) (by omega))
  replace hr6 := ((sam_N hn (a := b) (by omega)).2 6).trans ((up2_ne _ _ (by omega)).trans hr6)
  replace k7 := kin_x k7 (hs _ (by omega) (by omega))
  replace hr7 := ((sam_N hn (a := b) (by omega)).2 7).trans ((up2_ne _ _ (by omega)).trans hr7)
  replace k8 := kin_x k8 (hs _ (by omega) (by omega))
  replace hr13 := ((sam_N hn (a := b) (by omega)).2 13).trans ((up2_ne _ _ (by omega)).trans hr13)
  replace k9 := kin_x k9 (hs _ (by omega) (by omega))
  replace hr14 := ((sam_N hn (a := b) (by omega)).2 14).trans ((up2_ne _ _ (by omega)).trans hr14)
  replace k10 := kin_x k10 (hs _ (by omega) (by omega))
  replace hr15 := ((sam_N hn (a := b) (by omega)).2 15).trans ((up2_ne _ _ (by omega)).trans hr15)
  replace k11 := kin_x k11 (hs _ (by omega) (by omega))
  replace hr16 := ((sam_N hn (a := b) (by omega)).2 16).trans ((up2_ne _ _ (by omega)).trans hr16)
  replace k12 := kin_x k12 (hs _ (by omega) (by omega))
  replace hr17 := ((sam_N hn (a := b) (by omega)).2 17).trans ((up2_ne _ _ (by omega)).trans hr17)
  replace k13 := kin_x k13 (hs _ (by omega) (by omega))
  replace hr18 := ((sam_N hn (a := b) (by omega)).2 18).trans ((up2_ne _ _ (by omega)).trans hr18)
  replace k14 := kin_x k14 (hs _ (by omega) (by omega))
  replace hr19 := ((sam_N hn (a := b) (by omega)).2 19).trans ((up2_ne _ _ (by omega)).trans hr19)
  replace k15 := kin_x k15 (hs _ (by omega) (by omega))
  replace hr20 := ((sam_N hn (a := b) (by omega)).2 20).trans ((up2_ne _ _ (by omega)).trans hr20)
  replace k16 := kin_x k16 (hs _ (by omega) (by omega))
  have hr21 := ((sam_N hn (a := b) (by omega)).2 21).trans (up2_self M124.2.2 b 21 (.ref (b + 16)))
  replace hB := exB_N (exB_R hB 21 (.ref (b + 16))) hn (by omega) (by omega)
  clear hs
  have k17 : G131 (b + 17) = some (.inr (.int, 5)) := gk
  clear hn gk
  refine x_putFR h gb (by decide) (by decide) ff_X12_58 rfl rfl rfl rfl dX12_init_133 ?_
  refine x_aload_n h dX12_init_136 rfl ?_
  refine x_in5 h dX12_init_137 ?_
  refine x_arr (at' := .int) (ty := .int) h 5 rfl ac_int (by decide) (by decide) (by decide) rfl ⟨Nat.le_of_ble_eq_true rfl, Nat.le_of_ble_eq_true rfl⟩ dX12_init_138 (fun G138 M138 hn gk => ?_)
  refine x_z (z' := b + 19) rfl ?_
  have hs : ∀ a, a < b + 18 → a ≠ b → sam G131 G138 M131.2.2 M138.2.2 a := fun a h1 h2 => sam_t (sam_R G131 M131 27 (.ref (b + 17)) h2) (sam_N hn h1)
  replace gb := kin_x gb (sam_N hn (by omega))
  replace k1 := kin_x k1 (hs _ (by omega) (by omega))
  replace hr0 := ((sam_N hn (a := b) (by omega)).2 0).trans ((up2_ne _ _ (by omega)).trans hr0)
  replace k2 := kin_x k2 (hs _ (by omega) (by omega))
  replace hr2 := ((sam_N hn (a := b) (by omega)).2 2).trans ((up2_ne _ _ (by omega)).trans hr2)
  replace k3 := kin_x k3 (hs _ (by omega) (by omega))
  replace hr3 := ((sam_N hn (a := b) (by omega)).2 3).trans ((up2_ne _ _ (by omega)).trans hr3)
  replace k4 := kin_x k4 (hs _ (by omega) (by omega))
  replace hr4 := ((sam_N hn (a := b) (by omega)).2 4).trans ((up2_ne _ _ (by omega)).trans hr4)
  replace k5 := kin_x k5 (hs _ (by omega) (by omega))
  replace hr5 := ((sam_N hn (a := b) (by omega)).2 5).trans ((up2_ne _ _ (by omega)).trans hr5)
  replace k6 := kin_x k6 (hs _ (by omega) (by omega))
  replace hr6 := ((sam_N hn (a := b) (by omega)).2 6).trans ((up2_ne _ _ (by omega)).trans hr6)
  replace k7 := kin_x k7 (hs _ (by omega) (by omega))
  replace hr7 := ((sam_N hn (a := b) (by omega)).2 7).trans ((up2_ne _ _ (by omega)).trans hr7)
  replace k8 := kin_x k8 (hs _ (by omega) (by omega))
  replace hr13 := ((sam_N hn (a := b) (by omega)).2 13).trans ((up2_ne _ _ (by omega)).trans hr13)
  replace k9 := kin_x k9 (hs _ (by omega) (by omega))
  replace hr14 := ((sam_N hn (a := b) (by omega)).2 14).trans ((up2_ne _ _ (by omega)).trans hr14)
  replace k10 := kin_x k10 (hs _ (by omega) (by omega))
  replace hr15 := ((sam_N hn (a := b) (by omega)).2 15).trans ((up2_ne _ _ (by omega)).trans hr15)
  replace k11 := kin_x k11 (hs _ (by omega) (by omega))
  replace hr16 := ((sam_N hn (a := b) (by omega)).2 16).trans ((up2_ne _ _ (by omega)).trans hr16)
  replace k12 := kin_x k12 (hs _ (by omega) (by omega))
  replace hr17 := ((sam_N hn (a := b) (by omega)).2 17).trans ((up2_ne _ _ (by omega)).trans hr17)
  replace k13 := kin_x k13 (hs _ (by omega) (by omega))
  replace hr18 := ((sam_N hn (a := b) (by omega)).2 18).trans ((up2_ne _ _ (by omega)).trans hr18)
  replace k14 := kin_x k14 (hs _ (by omega) (by omega))
  replace hr19 := ((sam_N hn (a := b) (by omega)).2 19).trans ((up2_ne _ _ (by omega)).trans hr19)
  replace k15 := kin_x k15 (hs _ (by omega) (by omega))
  replace hr20 := ((sam_N hn (a := b) (by omega)).2 20).trans ((up2_ne _ _ (by omega)).trans hr20)
  replace k16 := kin_x k16 (hs _ (by omega) (by omega))
  replace hr21 := ((sam_N hn (a := b) (by omega)).2 21).trans ((up2_ne _ _ (by omega)).trans hr21)
  replace k17 := kin_x k17 (hs _ (by omega) (by omega))
  have hr27 := ((sam_N hn (a := b) (by omega)).2 27).trans (up2_self M131.2.2 b 27 (.ref (b + 17)))
  replace hB := exB_N (exB_R hB 27 (.ref (b + 17))) hn (by omega) (by omega)
  clear hs
  have k18 : G138 (b + 18) = some (.inr (.int, 5)) := gk
  clear hn gk
  refine x_putFR h gb (by decide) (by decide) ff_X12_61 rfl rfl rfl rfl dX12_init_140 ?_
  refine x_aload_n h dX12_init_143 rfl ?_
  refine x_in5 h dX12_init_144 ?_
  refine x_arr (at' := .int) (ty := .int) h 5 rfl ac_int (by decide) (by decide) (by decide) rfl ⟨Nat.le_of_ble_eq_true rfl, Nat.le_of_ble_eq_true rfl⟩ dX12_init_145 (fun G145 M145 hn gk => ?_)
  refine x_z (z' := b + 20) rfl ?_
  have hs : ∀ a, a < b + 19 → a ≠ b → sam G138 G145 M138.2.2 M145.2.2 a := fun a h1 h2 => sam_t (sam_R G138 M138 28 (.ref (b + 18)) h2) (sam_N hn h1)
  replace gb := kin_x gb (sam_N hn (by omega))
  replace k1 := kin_x k1 (hs _ (by omega) (by omega))
  replace hr0 := ((sam_N hn (a := b) (by omega)).2 0).trans ((up2_ne _ _ (by omega)).trans hr0)
  replace k2 := kin_x k2 (hs _ (by omega) (by omega))
  replace hr2 := ((sam_N hn (a := b) (by omega)).2 2).trans ((up2_ne _ _ (by omega)).trans hr2)
  replace k3 := kin_x k3 (hs _ (by omega) (by omega))
  replace hr3 := ((sam_N hn (a := b) (by omega)).2 3).trans ((up2_ne _ _ (by omega)).trans hr3)
  replace k4 := kin_x k4 (hs _ (by omega) (by omega))
  replace hr4 := ((sam_N hn (a := b) (by omega)).2 4).trans ((up2_ne _ _ (by omega)).trans hr4)
  replace k5 := kin_x k5 (hs _ (by omega) (by omega))
  replace hr5 := ((sam_N hn (a := b) (by omega)).2 5).trans ((up2_ne _ _ (by omega)).trans hr5)
  replace k6 := kin_x k6 (hs _ (by omega) (by omega))
  replace hr6 := ((sam_N hn (a := b) (by omega)).2 6).trans ((up2_ne _ _ (by omega)).trans hr6)
  replace k7 := kin_x k7 (hs _ (by omega) (by omega))
  replace hr7 := ((sam_N hn (a := b) (by omega)).2 7).trans ((up2_ne _ _ (by omega)).trans hr7)
  replace k8 := kin_x k8 (hs _ (by omega) (by omega))
  replace hr13 := ((sam_N hn (a := b) (by omega)).2 13).trans ((up2_ne _ _ (by omega)).trans hr13)
  replace k9 := kin_x k9 (hs _ (by omega) (by omega))
  replace hr14 := ((sam_N hn (a := b) (by omega)).2 14).trans ((up2_ne _ _ (by omega)).trans hr14)
  replace k10 := kin_x k10 (hs _ (by omega) (by omega))
  replace hr15 := ((sam_N hn (a := b) (by omega)).2 15).trans ((up2_ne _ _ (by omega)).trans hr15)
  replace k11 := kin_x k11 (hs _ (by omega) (by omega))
  replace hr16 := ((sam_N hn (a := b) (by omega)).2 16).trans ((up2_ne _ _ (by omega)).trans hr16)
  replace k12 := kin_x k12 (hs _ (by omega) (by omega))
  replace hr17 := ((sam_N hn (a := b) (by omega)).2 17).trans ((up2_ne _ _ (by omega)).trans hr17)
  replace k13 := kin_x k13 (hs _ (by omega) (by omega))
  replace hr18 := ((sam_N hn (a := b) (by omega)).2 18).trans ((up2_ne _ _ (by omega)).trans hr18)
  replace k14 := kin_x k14 (hs _ (by omega) (by omega))
  replace hr19 := ((sam_N hn (a := b) (by omega)).2 19).trans ((up2_ne _ _ (by omega)).trans hr19)
  replace k15 := kin_x k15 (hs _ (by omega) (by omega))
  replace hr20 := ((sam_N hn (a := b) (by omega)).2 20).trans ((up2_ne _ _ (by omega)).trans hr20)
  replace k16 := kin_x k16 (hs _ (by omega) (by omega))
  replace hr21 := ((sam_N hn (a := b) (by omega)).2 21).trans ((up2_ne _ _ (by omega)).trans hr21)
  replace k17 := kin_x k17 (hs _ (by omega) (by omega))
  replace hr27 := ((sam_N hn (a := b) (by omega)).2 27).trans ((up2_ne _ _ (by omega)).trans hr27)
  replace k18 := kin_x k18 (hs _ (by omega) (by omega))
  have hr28 := ((sam_N hn (a := b) (by omega)).2 28).trans (up2_self M138.2.2 b 28 (.ref (b + 18)))
  replace hB := exB_N (exB_R hB 28 (.ref (b + 18))) hn (by omega) (by omega)
  clear hs
  have k19 : G145 (b + 19) = some (.inr (.int, 5)) := gk
  clear hn gk
  refine x_putFR h gb (by decide) (by decide) ff_X12_64 rfl rfl rfl rfl dX12_init_147 ?_
  refine x_aload_n h dX12_init_150 rfl ?_
  refine x_bipush h (nI 8) (by decide) dX12_init_151 ?_
  refine x_arr (at' := .int) (ty := .int) h 8 rfl ac_int (by decide) (by decide) (by decide) rfl ⟨Nat.le_of_ble_eq_true rfl, Nat.le_of_ble_eq_true rfl⟩ dX12_init_153 (fun G153 M153 hn gk => ?_)
  refine x_z (z' := b + 21) rfl ?_
  have hs : ∀ a, a < b + 20 → a ≠ b → sam G145 G153 M145.2.2 M153.2.2 a := fun a h1 h2 => sam_t (sam_R G145 M145 29 (.ref (b + 19)) h2) (sam_N hn h1)
  replace gb := kin_x gb (sam_N hn (by omega))
  replace k1 := kin_x k1 (hs _ (by omega) (by omega))
  replace hr0 := ((sam_N hn (a := b) (by omega)).2 0).trans ((up2_ne _ _ (by omega)).trans hr0)
  replace k2 := kin_x k2 (hs _ (by omega) (by omega))
  replace hr2 := ((sam_N hn (a := b) (by omega)).2 2).trans ((up2_ne _ _ (by omega)).trans hr2)
  replace k3 := kin_x k3 (hs _ (by omega) (by omega))
  replace hr3 := ((sam_N hn (a := b) (by omega)).2 3).trans ((up2_ne _ _ (by omega)).trans hr3)
  replace k4 := kin_x k4 (hs _ (by omega) (by omega))
  replace hr4 := ((sam_N hn (a := b) (by omega)).2 4).trans ((up2_ne _ _ (by omega)).trans hr4)
  replace k5 := kin_x k5 (hs _ (by omega) (by omega))
  replace hr5 := ((sam_N hn (a := b) (by omega)).2 5).trans ((up2_ne _ _ (by omega)).trans hr5)
  replace k6 := kin_x k6 (hs _ (by omega) (by omega))
  replace hr6 := ((sam_N hn (a := b) (by omega)).2 6).trans ((up2_ne _ _ (by omega)).trans hr6)
  replace k7 := kin_x k7 (hs _ (by omega) (by omega))
  replace hr7 := ((sam_N hn (a := b) (by omega)).2 7).trans ((up2_ne _ _ (by omega)).trans hr7)
  replace k8 := kin_x k8 (hs _ (by omega) (by omega))
  replace hr13 := ((sam_N hn (a := b) (by omega)).2 13).trans ((up2_ne _ _ (by omega)).trans hr13)
  replace k9 := kin_x k9 (hs _ (by omega) (by omega))
  replace hr14 := ((sam_N hn (a := b) (by omega)).2 14).trans ((up2_ne _ _ (by omega)).trans hr14)
  replace k10 := kin_x k10 (hs _ (by omega) (by omega))
  replace hr15 := ((sam_N hn (a := b) (by omega)).2 15).trans ((up2_ne _ _ (by omega)).trans hr15)
  replace k11 := kin_x k11 (hs _ (by omega) (by omega))
  replace hr16 := ((sam_N hn (a := b) (by omega)).2 16).trans ((up2_ne _ _ (by omega)).trans hr16)
  replace k12 := kin_x k12 (hs _ (by omega) (by omega))
  replace hr17 := ((sam_N hn (a := b) (by omega)).2 17).trans ((up2_ne _ _ (by omega)).trans hr17)
  replace k13 := kin_x k13 (hs _ (by omega) (by omega))
  replace hr18 := ((sam_N hn (a := b) (by omega)).2 18).trans ((up2_ne _ _ (by omega)).trans hr18)
  replace k14 := kin_x k14 (hs _ (by omega) (by omega))
  replace hr19 := ((sam_N hn (a := b) (by omega)).2 19).trans ((up2_ne _ _ (by omega)).trans hr19)
  replace k15 := kin_x k15 (hs _ (by omega) (by omega))
  replace hr20 := ((sam_N hn (a := b) (by omega)).2 20).trans ((up2_ne _ _ (by omega)).trans hr20)
  replace k16 := kin_x k16 (hs _ (by omega) (by omega))
  replace hr21 := ((sam_N hn (a := b) (by omega)).2 21).trans ((up2_ne _ _ (by omega)).trans hr21)
  replace k17 := kin_x k17 (hs _ (by omega) (by omega))
  replace hr27 := ((sam_N hn (a := b) (by omega)).2 27).trans ((up2_ne _ _ (by omega)).trans hr27)
  replace k18 := kin_x k18 (hs _ (by omega) (by omega))
  replace hr28 := ((sam_N hn (a := b) (by omega)).2 28).trans ((up2_ne _ _ (by omega)).trans hr28)
  replace k19 := kin_x k19 (hs _ (by omega) (by omega))
  have hr29 := ((sam_N hn (a := b) (by omega)).2 29).trans (up2_self M145.2.2 b 29 (.ref (b + 19)))
  replace hB := exB_N (exB_R hB 29 (.ref (b + 19))) hn (by omega) (by omega)
  clear hs
  have k20 : G153 (b + 20) = some (.inr (.int, 8)) := gk
  clear hn gk
  refine x_putFR h gb (by decide) (by decide) ff_X12_67 rfl rfl rfl rfl dX12_init_155 ?_
  refine x_aload_n h dX12_init_158 rfl ?_
  refine x_in4 h dX12_init_159 ?_
  refine x_arr (at' := .int) (ty := .int) h 4 rfl ac_int (by decide) (by decide) (by decide) rfl ⟨Nat.le_of_ble_eq_true rfl, Nat.le_of_ble_eq_true rfl⟩ dX12_init_160 (fun G160 M160 hn gk => ?_)
  refine x_z (z' := b + 22) rfl ?_
  have hs : ∀ a, a < b + 21 → a ≠ b → sam G153 G160 M153.2.2 M160.2.2 a := fun a h1 h2 => sam_t (sam_R G153 M153 30 (.ref (b + 20)) h2) (sam_N hn h1)
  replace gb := kin_x gb (sam_N hn (by omega))
  replace k1 := kin_x k1 (hs _ (by omega) (by omega))
  replace hr0 := ((sam_N hn (a := b) (by omega)).2 0).trans ((up2_ne _ _ (by omega)).trans hr0)
  replace k2 := kin_x k2 (hs _ (by omega) (by omega))
  replace hr2 := ((sam_N hn (a := b) (by omega)).2 2).trans ((up2_ne _ _ (by omega)).trans hr2)
  replace k3 := kin_x k3 (hs _ (by omega) (by omega))
  replace hr3 := ((sam_N hn (a := b) (by omega)).2 3).trans ((up2_ne _ _ (by omega)).trans hr3)
  replace k4 := kin_x k4 (hs _ (by omega) (by omega))
  replace hr4 := ((sam_N hn (a := b) (by omega)).2 4).trans ((up2_ne _ _ (by omega)).trans hr4)
  replace k5 := kin_x k5 (hs _ (by omega) (by omega))
  replace hr5 := ((sam_N hn (a := b) (by omega)).2 5).trans ((up2_ne _ _ (by omega)).trans hr5)
  replace k6 := kin_x k6 (hs _ (by omega) (by omega))
  replace hr6 := ((sam_N hn (a := b) (by omega)).2 6).trans ((up2_ne _ _ (by omega)).trans hr6)
  replace k7 := kin_x k7 (hs _ (by omega) (by omega))
  replace hr7 := ((sam_N hn (a := b) (by omega)).2 7).trans ((up2_ne _ _ (by omega)).trans hr7)
  replace k8 := kin_x k8 (hs _ (by omega) (by omega))
  replace hr13 := ((sam_N hn (a := b) (by omega)).2 13).trans ((up2_ne _ _ (by omega)).trans hr13)
  replace k9 := kin_x k9 (hs _ (by omega) (by omega))
  replace hr14 := ((sam_N hn (a := b) (by omega)).2 14).trans ((up2_ne _ _ (by omega)).trans hr14)
  replace k10 := kin_x k10 (hs _ (by omega) (by omega))
  replace hr15 := ((sam_N hn (a := b) (by omega)).2 15).trans ((up2_ne _ _ (by omega)).trans hr15)
  replace k11 := kin_x k11 (hs _ (by omega) (by omega))
  replace hr16 := ((sam_N hn (a := b) (by omega)).2 16).trans ((up2_ne _ _ (by omega)).trans hr16)
  replace k12 := kin_x k12 (hs _ (by omega) (by omega))
  replace hr17 := ((sam_N hn (a := b) (by omega)).2 17).trans ((up2_ne _ _ (by omega)).trans hr17)
  replace k13 := kin_x k13 (hs _ (by omega) (by omega))
  replace hr18 := ((sam_N hn (a := b) (by omega)).2 18).trans ((up2_ne _ _ (by omega)).trans hr18)
  replace k14 := kin_x k14 (hs _ (by omega) (by omega))
  replace hr19 := ((sam_N hn (a := b) (by omega)).2 19).trans ((up2_ne _ _ (by omega)).trans hr19)
  replace k15 := kin_x k15 (hs _ (by omega) (by omega))
  replace hr20 := ((sam_N hn (a := b) (by omega)).2 20).trans ((up2_ne _ _ (by omega)).trans hr20)
  replace k16 := kin_x k16 (hs _ (by omega) (by omega))
  replace hr21 := ((sam_N hn (a := b) (by omega)).2 21).trans ((up2_ne _ _ (by omega)).trans hr21)
  replace k17 := kin_x k17 (hs _ (by omega) (by omega))
  replace hr27 := ((sam_N hn (a := b) (by omega)).2 27).trans ((up2_ne _ _ (by omega)).trans hr27)
  replace k18 := kin_x k18 (hs _ (by omega) (by omega))
  replace hr28 := ((sam_N hn (a := b) (by omega)).2 28).trans ((up2_ne _ _ (by omega)).trans hr28)
  replace k19 := kin_x k19 (hs _ (by omega) (by omega))
  replace hr29 := ((sam_N hn (a := b) (by omega)).2 29).trans ((up2_ne _ _ (by omega)).trans hr29)
  replace k20 := kin_x k20 (hs _ (by omega) (by omega))
  have hr30 := ((sam_N hn (a := b) (by omega)).2 30).trans (up2_self M153.2.2 b 30 (.ref (b + 20)))
  replace hB := exB_N (exB_R hB 30 (.ref (b + 20))) hn (by omega) (by omega)
  clear hs
  have k21 : G160 (b + 21) = some (.inr (.int, 4)) := gk
  clear hn gk
  refine x_putFR h gb (by decide) (by decide) ff_X12_70 rfl rfl rfl rfl dX12_init_162 ?_
  refine x_aload_n h dX12_init_165 rfl ?_
  refine x_in4 h dX12_init_166 ?_
  refine x_arr (at' := .int) (ty := .int) h 4 rfl ac_int (by decide) (by decide) (by decide) rfl ⟨Nat.le_of_ble_eq_true rfl, Nat.le_of_ble_eq_true rfl⟩ dX12_init_167 (fun G167 M167 hn gk => ?_)
  refine x_z (z' := b + 23) rfl ?_
  have hs : ∀ a, a < b + 22 → a ≠ b → sam G160 G167 M160.2.2 M167.2.2 a := fun a h1 h2 => sam_t (sam_R G160 M160 33 (.ref (b + 21)) h2) (sam_N hn h1)
  replace gb := kin_x gb (sam_N hn (by omega))
  replace k1 := kin_x k1 (hs _ (by omega) (by omega))
  replace hr0 := ((sam_N hn (a := b) (by omega)).2 0).trans ((up2_ne _ _ (by omega)).trans hr0)
  replace k2 := kin_x k2 (hs _ (by omega) (by omega))
  replace hr2 := ((sam_N hn (a := b) (by omega)).2 2).trans ((up2_ne _ _ (by omega)).trans hr2)
  replace k3 := kin_x k3 (hs _ (by omega) (by omega))
  replace hr3 := ((sam_N hn (a := b) (by omega)).2 3).trans ((up2_ne _ _ (by omega)).trans hr3)
  replace k4 := kin_x k4 (hs _ (by omega) (by omega))
  replace hr4 := ((sam_N hn (a := b) (by omega)).2 4).trans ((up2_ne _ _ (by omega)).trans hr4)
  replace k5 := kin_x k5 (hs _ (by omega) (by omega))
  replace hr5 := ((sam_N hn (a := b) (by omega)).2 5).trans ((up2_ne _ _ (by omega)).trans hr5)
  replace k6 := kin_x k6 (hs _ (by omega) (by omega))
  replace hr6 := ((sam_N hn (a := b) (by omega)).2 6).trans ((up2_ne _ _ (by omega)).trans hr6)
  replace k7 := kin_x k7 (hs _ (by omega) (by omega))
  replace hr7 := ((sam_N hn (a := b) (by omega)).2 7).trans ((up2_ne _ _ (by omega)).trans hr7)
  replace k8 := kin_x k8 (hs _ (by omega) (by omega))
  replace hr13 := ((sam_N hn (a := b) (by omega)).2 13).trans ((up2_ne _ _ (by omega)).trans hr13)
  replace k9 := kin_x k9 (hs _ (by omega) (by omega))
  replace hr14 := ((sam_N hn (a := b) (by omega)).2 14).trans ((up2_ne _ _ (by omega)).trans hr14)
  replace k10 := kin_x k10 (hs _ (by omega) (by omega))
  replace hr15 := ((sam_N hn (a := b) (by omega)).2 15).trans ((up2_ne _ _ (by omega)).trans hr15)
  replace k11 := kin_x k11 (hs _ (by omega) (by omega))
  replace hr16 := ((sam_N hn (a := b) (by omega)).2 16).trans ((up2_ne _ _ (by omega)).trans hr16)
  replace k12 := kin_x k12 (hs _ (by omega) (by omega))
  replace hr17 := ((sam_N hn (a := b) (by omega)).2 17).trans ((up2_ne _ _ (by omega)).trans hr17)
  replace k13 := kin_x k13 (hs _ (by omega) (by omega))
  replace hr18 := ((sam_N hn (a := b) (by omega)).2 18).trans ((up2_ne _ _ (by omega)).trans hr18)
  replace k14 := kin_x k14 (hs _ (by omega) (by omega))
  replace hr19 := ((sam_N hn (a := b) (by omega)).2 19).trans ((up2_ne _ _ (by omega)).trans hr19)
  replace k15 := kin_x k15 (hs _ (by omega) (by omega))
  replace hr20 := ((sam_N hn (a := b) (by omega)).2 20).trans ((up2_ne _ _ (by omega)).trans hr20)
  replace k16 := kin_x k16 (hs _ (by omega) (by omega))
  replace hr21 := ((sam_N hn (a := b) (by omega)).2 21).trans ((up2_ne _ _ (by omega)).trans hr21)
  replace k17 := kin_x k17 (hs _ (by omega) (by omega))
  replace hr27 := ((sam_N hn (a := b) (by omega)).2 27).trans ((up2_ne _ _ (by omega)).trans hr27)
  replace k18 := kin_x k18 (hs _ (by omega) (by omega))
  replace hr28 := ((sam_N hn (a := b) (by omega)).2 28).trans ((up2_ne _ _ (by omega)).trans hr28)
  replace k19 := kin_x k19 (hs _ (by omega) (by omega))
  replace hr29 := ((sam_N hn (a := b) (by omega)).2 29).trans ((up2_ne _ _ (by omega)).trans hr29)
  replace k20 := kin_x k20 (hs _ (by omega) (by omega))
  replace hr30 := ((sam_N hn (a := b) (by omega)).2 30).trans ((up2_ne _ _ (by omega)).trans hr30)
  replace k21 := kin_x k21 (hs _ (by omega) (by omega))
  have hr33 := ((sam_N hn (a := b) (by omega)).2 33).trans (up2_self M160.2.2 b 33 (.ref (b + 21)))
  replace hB := exB_N (exB_R hB 33 (.ref (b + 21))) hn (by omega) (by omega)
  clear hs
  have k22 : G167 (b + 22) = some (.inr (.int, 4)) := gk
  clear hn gk
  refine x_putFR h gb (by decide) (by decide) ff_X12_73 rfl rfl rfl rfl dX12_init_169 ?_
  refine x_aload_n h dX12_init_172 rfl ?_
  refine x_bipush h (nI 56) (by decide) dX12_init_173 ?_
  refine x_arr (at' := .int) (ty := .int) h 56 rfl ac_int (by decide) (by decide) (by decide) rfl ⟨Nat.le_of_ble_eq_true rfl, Nat.le_of_ble_eq_true rfl⟩ dX12_init_175 (fun G175 M175 hn gk => ?_)
  refine x_z (z' := b + 24) rfl ?_
  have hs : ∀ a, a < b + 23 → a ≠ b → sam G167 G175 M167.2.2 M175.2.2 a := fun a h1 h2 => sam_t (sam_R G167 M167 34 (.ref (b + 22)) h2) (sam_N hn h1)
  replace gb := kin_x gb (sam_N hn (by omega))
  replace k1 := kin_x k1 (hs _ (by omega) (by omega))
  replace hr0 := ((sam_N hn (a := b) (by omega)).2 0).trans ((up2_ne _ _ (by omega)).trans hr0)
  replace k2 := kin_x k2 (hs _ (by omega) (by omega))
  replace hr2 := ((sam_N hn (a := b) (by omega)).2 2).trans ((up2_ne _ _ (by omega)).trans hr2)
  replace k3 := kin_x k3 (hs _ (by omega) (by omega))
  replace hr3 := ((sam_N hn (a := b) (by omega)).2 3).trans ((up2_ne _ _ (by omega)).trans hr3)
  replace k4 := kin_x k4 (hs _ (by omega) (by omega))
  replace hr4 := ((sam_N hn (a := b) (by omega)).2 4).trans ((up2_ne _ _ (by omega)).trans hr4)
  replace k5 := kin_x k5 (hs _ (by omega) (by omega))
  replace hr5 := ((sam_N hn (a := b) (by omega)).2 5).trans ((up2_ne _ _ (by omega)).trans hr5)
  replace k6 := kin_x k6 (hs _ (by omega) (by omega))
  replace hr6 := ((sam_N hn (a := b) (by omega)).2 6).trans ((up2_ne _ _ (by omega)).trans hr6)
  replace k7 := kin_x k7 (hs _ (by omega) (by omega))
  replace hr7 := ((sam_N hn (a := b) (by omega)).2 7).trans ((up2_ne _ _ (by omega)).trans hr7)
  replace k8 := kin_x k8 (hs _ (by omega) (by omega))
  replace hr13 := ((sam_N hn (a := b) (by omega)).2 13).trans ((up2_ne _ _ (by omega)).trans hr13)
  replace k9 := kin_x k9 (hs _ (by omega) (by omega))
  replace hr14 := ((sam_N hn (a := b) (by omega)).2 14).trans ((up2_ne _ _ (by omega)).trans hr14)
  replace k10 := kin_x k10 (hs _ (by omega) (by omega))
  replace hr15 := ((sam_N hn (a := b) (by omega)).2 15).trans ((up2_ne _ _ (by omega)).trans hr15)
  replace k11 := kin_x k11 (hs _ (by omega) (by omega))
  replace hr16 := ((sam_N hn (a := b) (by omega)).2 16).trans ((up2_ne _ _ (by omega)).trans hr16)
  replace k12 := kin_x k12 (hs _ (by omega) (by omega))
  replace hr17 := ((sam_N hn (a := b) (by omega)).2 17).trans ((up2_ne _ _ (by omega)).trans hr17)
  replace k13 := kin_x k13 (hs _ (by omega) (by omega))
  replace hr18 := ((sam_N hn (a := b) (by omega)).2 18).trans ((up2_ne _ _ (by omega)).trans hr18)
  replace k14 := kin_x k14 (hs _ (by omega) (by omega))
  replace hr19 := ((sam_N hn (a := b) (by omega)).2 19).trans ((up2_ne _ _ (by omega)).trans hr19)
  replace k15 := kin_x k15 (hs _ (by omega) (by omega))
  replace hr20 := ((sam_N hn (a := b) (by omega)).2 20).trans ((up2_ne _ _ (by omega)).trans hr20)
  replace k16 := kin_x k16 (hs _ (by omega) (by omega))
  replace hr21 := ((sam_N hn (a := b) (by omega)).2 21).trans ((up2_ne _ _ (by omega)).trans hr21)
  replace k17 := kin_x k17 (hs _ (by omega) (by omega))
  replace hr27 := ((sam_N hn (a := b) (by omega)).2 27).trans ((up2_ne _ _ (by omega)).trans hr27)
  replace k18 := kin_x k18 (hs _ (by omega) (by omega))
  replace hr28 := ((sam_N hn (a := b) (by omega)).2 28).trans ((up2_ne _ _ (by omega)).trans hr28)
  replace k19 := kin_x k19 (hs _ (by omega) (by omega))
  replace hr29 := ((sam_N hn (a := b) (by omega)).2 29).trans ((up2_ne _ _ (by omega)).trans hr29)
  replace k20 := kin_x k20 (hs _ (by omega) (by omega))
  replace hr30 := ((sam_N hn (a := b) (by omega)).2 30).trans ((up2_ne _ _ (by omega)).trans hr30)
  replace k21 := kin_x k21 (hs _ (by omega) (by omega))
  replace hr33 := ((sam_N hn (a := b) (by omega)).2 33).trans ((up2_ne _ _ (by omega)).trans hr33)
  replace k22 := kin_x k22 (hs _ (by omega) (by omega))
  have hr34 := ((sam_N hn (a := b) (by omega)).2 34).trans (up2_self M167.2.2 b 34 (.ref (b + 22)))
  replace hB := exB_N (exB_R hB 34 (.ref (b + 22))) hn (by omega) (by omega)
  clear hs
  have k23 : G175 (b + 23) = some (.inr (.int, 56)) := gk
  clear hn gk
  refine x_putFR h gb (by decide) (by decide) ff_X12_76 rfl rfl rfl rfl dX12_init_177 ?_
  refine x_aload_n h dX12_init_180 rfl ?_
  refine x_bipush h (nI 8) (by decide) dX12_init_181 ?_
  refine x_arr (at' := .int) (ty := .int) h 8 rfl ac_int (by decide) (by decide) (by decide) rfl ⟨Nat.le_of_ble_eq_true rfl, Nat.le_of_ble_eq_true rfl⟩ dX12_init_183 (fun G183 M183 hn gk => ?_)
  refine x_z (z' := b + 25) rfl ?_
  have hs : ∀ a, a < b + 24 → a ≠ b → sam G175 G183 M175.2.2 M183.2.2 a := fun a h1 h2 => sam_t (sam_R G175 M175 35 (.ref (b + 23)) h2) (sam_N hn h1)
  replace gb := kin_x gb (sam_N hn (by omega))
  replace k1 := kin_x k1 (hs _ (by omega) (by omega))
  replace hr0 := ((sam_N hn (a := b) (by omega)).2 0).trans ((up2_ne _ _ (by omega)).trans hr0)
  replace k2 := kin_x k2 (hs _ (by omega) (by omega))
  replace hr2 := ((sam_N hn (a := b) (by omega)).2 2).trans ((up2_ne _ _ (by omega)).trans hr2)
  replace k3 := kin_x k3 (hs _ (by omega) (by omega))
  replace hr3 := ((sam_N hn (a := b) (by omega)).2 3).trans ((up2_ne _ _ (by omega)).trans hr3)
  replace k4 := kin_x k4 (hs _ (by omega) (by omega))
  replace hr4 := ((sam_N hn (a := b) (by omega)).2 4).trans ((up2_ne _ _ (by omega)).trans hr4)
  replace k5 := kin_x k5 (hs _ (by omega) (by omega))
  replace hr5 := ((sam_N hn (a := b) (by omega)).2 5).trans ((up2_ne _ _ (by omega)).trans hr5)
  replace k6 := kin_x k6 (hs _ (by omega) (by omega))
  replace hr6 := ((sam_N hn (a := b) (by omega)).2 6).trans ((up2_ne _ _ (by omega)).trans hr6)
  replace k7 := kin_x k7 (hs _ (by omega) (by omega))
  replace hr7 := ((sam_N hn (a := b) (by omega)).2 7).trans ((up2_ne _ _ (by omega)).trans hr7)
  replace k8 := kin_x k8 (hs _ (by omega) (by omega))
  replace hr13 := ((sam_N hn (a := b) (by omega)).2 13).trans ((up2_ne _ _ (by omega)).trans hr13)
  replace k9 := kin_x k9 (hs _ (by omega) (by omega))
  replace hr14 := ((sam_N hn (a := b) (by omega)).2 14).trans ((up2_ne _ _ (by omega)).trans hr14)
  replace k10 := kin_x k10 (hs _ (by omega) (by omega))
  replace hr15 := ((sam_N hn (a := b) (by omega)).2 15).trans ((up2_ne _ _ (by omega)).trans hr15)
  replace k11 := kin_x k11 (hs _ (by omega) (by omega))
  replace hr16 := ((sam_N hn (a := b) (by omega)).2 16).trans ((up2_ne _ _ (by omega)).trans hr16)
  replace k12 := kin_x k12 (hs _ (by omega) (by omega))
  replace hr17 := ((sam_N hn (a := b) (by omega)).2 17).trans ((up2_ne _ _ (by omega)).trans hr17)
  replace k13 := kin_x k13 (hs _ (by omega) (by omega))
  replace hr18 := ((sam_N hn (a := b) (by omega)).2 18).trans ((up2_ne _ _ (by omega)).trans hr18)
  replace k14 := kin_x k14 (hs _ (by omega) (by omega))
  replace hr19 := ((sam_N hn (a := b) (by omega)).2 19).trans ((up2_ne _ _ (by omega)).trans hr19)
  replace k15 := kin_x k15 (hs _ (by omega) (by omega))
  replace hr20 := ((sam_N hn (a := b) (by omega)).2 20).trans ((up2_ne _ _ (by omega)).trans hr20)
  replace k16 := kin_x k16 (hs _ (by omega) (by omega))
  replace hr21 := ((sam_N hn (a := b) (by omega)).2 21).trans ((up2_ne _ _ (by omega)).trans hr21)
  replace k17 := kin_x k17 (hs _ (by omega) (by omega))
  replace hr27 := ((sam_N hn (a := b) (by omega)).2 27).trans ((up2_ne _ _ (by omega)).trans hr27)
  replace k18 := kin_x k18 (hs _ (by omega) (by omega))
  replace hr28 := ((sam_N hn (a := b) (by omega)).2 28).trans ((up2_ne _ _ (by omega)).trans hr28)
  replace k19 := kin_x k19 (hs _ (by omega) (by omega))
  replace hr29 := ((sam_N hn (a := b) (by omega)).2 29).trans ((up2_ne _ _ (by omega)).trans hr29)
  replace k20 := kin_x k20 (hs _ (by omega) (by omega))
  replace hr30 := ((sam_N hn (a := b) (by omega)).2 30).trans ((up2_ne _ _ (by omega)).trans hr30)
  replace k21 := kin_x k21 (hs _ (by omega) (by omega))
  replace hr33 := ((sam_N hn (a := b) (by omega)).2 33).trans ((up2_ne _ _ (by omega)).trans hr33)
  replace k22 := kin_x k22 (hs _ (by omega) (by omega))
  replace hr34 := ((sam_N hn (a := b) (by omega)).2 34).trans ((up2_ne _ _ (by omega)).trans hr34)
  replace k23 := kin_x k23 (hs _ (by omega) (by omega))
  have hr35 := ((sam_N hn (a := b) (by omega)).2 35).trans (up2_self M175.2.2 b 35 (.ref (b + 23)))
  replace hB := exB_N (exB_R hB 35 (.ref (b + 23))) hn (by omega) (by omega)
  clear hs
  have k24 : G183 (b + 24) = some (.inr (.int, 8)) := gk
  clear hn gk
  refine x_putFR h gb (by decide) (by decide) ff_X12_79 rfl rfl rfl rfl dX12_init_185 ?_
  refine x_aload_n h dX12_init_188 rfl ?_
  refine x_in2 h dX12_init_189 ?_
  refine x_arr (at' := .boolean) (ty := .boolean) h 2 rfl ac_boolean (by decide) (by decide) (by decide) rfl ⟨Nat.le_of_ble_eq_true rfl, Nat.le_of_ble_eq_true rfl⟩ dX12_init_190 (fun G190 M190 hn gk => ?_)
  refine x_z (z' := b + 26) rfl ?_
  have hs : ∀ a, a < b + 25 → a ≠ b → sam G183 G190 M183.2.2 M190.2.2 a := fun a h1 h2 => sam_t (sam_R G183 M183 38 (.ref (b + 24)) h2) (sam_N hn h1)
  replace gb := kin_x gb (sam_N hn (by omega))
  replace k1 := kin_x k1 (hs _ (by omega) (by omega))
  replace hr0 := ((sam_N hn (a := b) (by omega)).2 0).trans ((up2_ne _ _ (by omega)).trans hr0)
  replace k2 := kin_x k2 (hs _ (by omega) (by omega))
  replace hr2 := ((sam_N hn (a := b) (by omega)).2 2).trans ((up2_ne _ _ (by omega)).trans hr2)
  replace k3 := kin_x k3 (hs _ (by omega) (by omega))
  replace hr3 := ((sam_N hn (a := b) (by omega)).2 3).trans ((up2_ne _ _ (by omega)).trans hr3)
  replace k4 := kin_x k4 (hs _ (by omega) (by omega))
  replace hr4 := ((sam_N hn (a := b) (by omega)).2 4).trans ((up2_ne _ _ (by omega)).trans hr4)
  replace k5 := kin_x k5 (hs _ (by omega) (by omega))
  replace hr5 := ((sam_N hn (a := b) (by omega)).2 5).trans ((up2_ne _ _ (by omega)).trans hr5)
  replace k6 := kin_x k6 (hs _ (by omega) (by omega))
  replace hr6 := ((sam_N hn (a := b) (by omega)).2 6).trans ((up2_ne _ _ (by omega)).trans hr6)
  replace k7 := kin_x k7 (hs _ (by omega) (by omega))
  replace hr7 := ((sam_N hn (a := b) (by omega)).2 7).trans ((up2_ne _ _ (by omega)).trans hr7)
  replace k8 := kin_x k8 (hs _ (by omega) (by omega))
  replace hr13 := ((sam_N hn (a := b) (by omega)).2 13).trans ((up2_ne _ _ (by omega)).trans hr13)
  replace k9 := kin_x k9 (hs _ (by omega) (by omega))
  replace hr14 := ((sam_N hn (a := b) (by omega)).2 14).trans ((up2_ne _ _ (by omega)).trans hr14)
  replace k10 := kin_x k10 (hs _ (by omega) (by omega))
  replace hr15 := ((sam_N hn (a := b) (by omega)).2 15).trans ((up2_ne _ _ (by omega)).trans hr15)
  replace k11 := kin_x k11 (hs _ (by omega) (by omega))
  replace hr16 := ((sam_N hn (a := b) (by omega)).2 16).trans ((up2_ne _ _ (by omega)).trans hr16)
  replace k12 := kin_x k12 (hs _ (by omega) (by omega))
  replace hr17 := ((sam_N hn (a := b) (by omega)).2 17).trans ((up2_ne _ _ (by omega)).trans hr17)
  replace k13 := kin_x k13 (hs _ (by omega) (by omega))
  replace hr18 := ((sam_N hn (a := b) (by omega)).2 18).trans ((up2_ne _ _ (by omega)).trans hr18)
  replace k14 := kin_x k14 (hs _ (by omega) (by omega))
  replace hr19 := ((sam_N hn (a := b) (by omega)).2 19).trans ((up2_ne _ _ (by omega)).trans hr19)
  replace k15 := kin_x k15 (hs _ (by omega) (by omega))
  replace hr20 := ((sam_N hn (a := b) (by omega)).2 20).trans ((up2_ne _ _ (by omega)).trans hr20)
  replace k16 := kin_x k16 (hs _ (by omega) (by omega))
  replace hr21 := ((sam_N hn (a := b) (by omega)).2 21).trans ((up2_ne _ _ (by omega)).trans hr21)
  replace k17 := kin_x k17 (hs _ (by omega) (by omega))
  replace hr27 := ((sam_N hn (a := b) (by omega)).2 27).trans ((up2_ne _ _ (by omega)).trans hr27)
  replace k18 := kin_x k18 (hs _ (by omega) (by omega))
  replace hr28 := ((sam_N hn (a := b) (by omega)).2 28).trans ((up2_ne _ _ (by omega)).trans hr28)
  replace k19 := kin_x k19 (hs _ (by omega) (by omega))
  replace hr29 := ((sam_N hn (a := b) (by omega)).2 29).trans ((up2_ne _ _ (by omega)).trans hr29)
  replace k20 := kin_x k20 (hs _ (by omega) (by omega))
  replace hr30 := ((sam_N hn (a := b) (by omega)).2 30).trans ((up2_ne _ _ (by omega)).trans hr30)
  replace k21 := kin_x k21 (hs _ (by omega) (by omega))
  replace hr33 := ((sam_N hn (a := b) (by omega)).2 33).trans ((up2_ne _ _ (by omega)).trans hr33)
  replace k22 := kin_x k22 (hs _ (by omega) (by omega))
  replace hr34 := ((sam_N hn (a := b) (by omega)).2 34).trans ((up2_ne _ _ (by omega)).trans hr34)
  replace k23 := kin_x k23 (hs _ (by omega) (by omega))
  replace hr35 := ((sam_N hn (a := b) (by omega)).2 35).trans ((up2_ne _ _ (by omega)).trans hr35)
  replace k24 := kin_x k24 (hs _ (by omega) (by omega))
  have hr38 := ((sam_N hn (a := b) (by omega)).2 38).trans (up2_self M183.2.2 b 38 (.ref (b + 24)))
  replace hB := exB_N (exB_R hB 38 (.ref (b + 24))) hn (by omega) (by omega)
  clear hs
  have k25 : G190 (b + 25) = some (.inr (.boolean, 2)) := gk
  clear hn gk
  refine x_putFR h gb (by decide) (by decide) ff_X12_82 rfl rfl rfl rfl dX12_init_192 ?_
  refine x_aload_n h dX12_init_195 rfl ?_
  refine x_bipush h (nI 6) (by decide) dX12_init_196 ?_
  refine x_arr (at' := .int) (ty := .int) h 6 rfl ac_int (by decide) (by decide) (by decide) rfl ⟨Nat.le_of_ble_eq_true rfl, Nat.le_of_ble_eq_true rfl⟩ dX12_init_198 (fun G198 M198 hn gk => ?_)
  refine x_z (z' := b + 27) rfl ?_
  have hs : ∀ a, a < b + 26 → a ≠ b → sam G190 G198 M190.2.2 M198.2.2 a := fun a h1 h2 => sam_t (sam_R G190 M190 39 (.ref (b + 25)) h2) (sam_N hn h1)
  replace gb := kin_x gb (sam_N hn (by omega))
  replace k1 := kin_x k1 (hs _ (by omega) (by omega))
  replace hr0 := ((sam_N hn (a := b) (by omega)).2 0).trans ((up2_ne _ _ (by omega)).trans hr0)
  replace k2 := kin_x k2 (hs _ (by omega) (by omega))
  replace hr2 := ((sam_N hn (a := b) (by omega)).2 2).trans ((up2_ne _ _ (by omega)).trans hr2)
  replace k3 := kin_x k3 (hs _ (by omega) (by omega))
  replace hr3 := ((sam_N hn (a := b) (by omega)).2 3).trans ((up2_ne _ _ (by omega)).trans hr3)
  replace k4 := kin_x k4 (hs _ (by omega) (by omega))
  replace hr4 := ((sam_N hn (a := b) (by omega)).2 4).trans ((up2_ne _ _ (by omega)).trans hr4)
  replace k5 := kin_x k5 (hs _ (by omega) (by omega))
  replace hr5 := ((sam_N hn (a := b) (by omega)).2 5).trans ((up2_ne _ _ (by omega)).trans hr5)
  replace k6 := kin_x k6 (hs _ (by omega) (by omega))
  replace hr6 := ((sam_N hn (a := b) (by omega)).2 6).trans ((up2_ne _ _ (by omega)).trans hr6)
  replace k7 := kin_x k7 (hs _ (by omega) (by omega))
  replace hr7 := ((sam_N hn (a := b) (by omega)).2 7).trans ((up2_ne _ _ (by omega)).trans hr7)
  replace k8 := kin_x k8 (hs _ (by omega) (by omega))
  replace hr13 := ((sam_N hn (a := b) (by omega)).2 13).trans ((up2_ne _ _ (by omega)).trans hr13)
  replace k9 := kin_x k9 (hs _ (by omega) (by omega))
  replace hr14 := ((sam_N hn (a := b) (by omega)).2 14).trans ((up2_ne _ _ (by omega)).trans hr14)
  replace k10 := kin_x k10 (hs _ (by omega) (by omega))
  replace hr15 := ((sam_N hn (a := b) (by omega)).2 15).trans ((up2_ne _ _ (by omega)).trans hr15)
  replace k11 := kin_x k11 (hs _ (by omega) (by omega))
  replace hr16 := ((sam_N hn (a := b) (by omega)).2 16).trans ((up2_ne _ _ (by omega)).trans hr16)
  replace k12 := kin_x k12 (hs _ (by omega) (by omega))
  replace hr17 := ((sam_N hn (a := b) (by omega)).2 17).trans ((up2_ne _ _ (by omega)).trans hr17)
  replace k13 := kin_x k13 (hs _ (by omega) (by omega))
  replace hr18 := ((sam_N hn (a := b) (by omega)).2 18).trans ((up2_ne _ _ (by omega)).trans hr18)
  replace k14 := kin_x k14 (hs _ (by omega) (by omega))
  replace hr19 := ((sam_N hn (a := b) (by omega)).2 19).trans ((up2_ne _ _ (by omega)).trans hr19)
  replace k15 := kin_x k15 (hs _ (by omega) (by omega))
  replace hr20 := ((sam_N hn (a := b) (by omega)).2 20).trans ((up2_ne _ _ (by omega)).trans hr20)
  replace k16 := kin_x k16 (hs _ (by omega) (by omega))
  replace hr21 := ((sam_N hn (a := b) (by omega)).2 21).trans ((up2_ne _ _ (by omega)).trans hr21)
  replace k17 := kin_x k17 (hs _ (by omega) (by omega))
  replace hr27 := ((sam_N hn (a := b) (by omega)).2 27).trans ((up2_ne _ _ (by omega)).trans hr27)
  replace k18 := kin_x k18 (hs _ (by omega) (by omega))
  replace hr28 := ((sam_N hn (a := b) (by omega)).2 28).trans ((up2_ne _ _ (by omega)).trans hr28)
  replace k19 := kin_x k19 (hs _ (by omega) (by omega))
  replace hr29 := ((sam_N hn (a := b) (by omega)).2 29).trans ((up2_ne _ _ (by omega)).trans hr29)
  replace k20 := kin_x k20 (hs _ (by omega) (by omega))
  replace hr30 := ((sam_N hn (a := b) (by omega)).2 30).trans ((up2_ne _ _ (by omega)).trans hr30)
  replace k21 := kin_x k21 (hs _ (by omega) (by omega))
  replace hr33 := ((sam_N hn (a := b) (by omega)).2 33).trans ((up2_ne _ _ (by omega)).trans hr33)
  replace k22 := kin_x k22 (hs _ (by omega) (by omega))
  replace hr34 := ((sam_N hn (a := b) (by omega)).2 34).trans ((up2_ne _ _ (by omega)).trans hr34)
  replace k23 := kin_x k23 (hs _ (by omega) (by omega))
  replace hr35 := ((sam_N hn (a := b) (by omega)).2 35).trans ((up2_ne _ _ (by omega)).trans hr35)
  replace k24 := kin_x k24 (hs _ (by omega) (by omega))
  replace hr38 := ((sam_N hn (a := b) (by omega)).2 38).trans ((up2_ne _ _ (by omega)).trans hr38)
  replace k25 := kin_x k25 (hs _ (by omega) (by omega))
  have hr39 := ((sam_N hn (a := b) (by omega)).2 39).trans (up2_self M190.2.2 b 39 (.ref (b + 25)))
  replace hB := exB_N (exB_R hB 39 (.ref (b + 25))) hn (by omega) (by omega)
  clear hs
  have k26 : G198 (b + 26) = some (.inr (.int, 6)) := gk
  clear hn gk
  refine x_putFR h gb (by decide) (by decide) ff_X12_86 rfl rfl rfl rfl dX12_init_200 ?_
  refine x_aload_n h dX12_init_203 rfl ?_
  refine x_bipush h (nI 6) (by decide) dX12_init_204 ?_
  refine x_arr (at' := .int) (ty := .int) h 6 rfl ac_int (by decide) (by decide) (by decide) rfl ⟨Nat.le_of_ble_eq_true rfl, Nat.le_of_ble_eq_true rfl⟩ dX12_init_206 (fun G206 M206 hn gk => ?_)
  refine x_z (z' := b + 28) rfl ?_
  have hs : ∀ a, a < b + 27 → a ≠ b → sam G198 G206 M198.2.2 M206.2.2 a := fun a h1 h2 => sam_t (sam_R G198 M198 40 (.ref (b + 26)) h2) (sam_N hn h1)
  replace gb := kin_x gb (sam_N hn (by omega))
  replace k1 := kin_x k1 (hs _ (by omega) (by omega))
  replace hr0 := ((sam_N hn (a := b) (by omega)).2 0).trans ((up2_ne _ _ (by omega)).trans hr0)
  replace k2 := kin_x k2 (hs _ (by omega) (by omega))
  replace hr2 := ((sam_N hn (a := b) (by omega)).2 2).trans ((up2_ne _ _ (by omega)).trans hr2)
  replace k3 := kin_x k3 (hs _ (by omega) (by omega))
  replace hr3 := ((sam_N hn (a := b) (by omega)).2 3).trans ((up2_ne _ _ (by omega)).trans hr3)
  replace k4 := kin_x k4 (hs _ (by omega) (by omega))
  replace hr4 := ((sam_N hn (a := b) (by omega)).2 4).trans ((up2_ne _ _ (by omega)).trans hr4)
  replace k5 := kin_x k5 (hs _ (by omega) (by omega))
  replace hr5 := ((sam_N hn (a := b) (by omega)).2 5).trans ((up2_ne _ _ (by omega)).trans hr5)
  replace k6 := kin_x k6 (hs _ (by omega) (by omega))
  replace hr6 := ((sam_N hn (a := b) (by omega)).2 6).trans ((up2_ne _ _ (by omega)).trans hr6)
  replace k7 := kin_x k7 (hs _ (by omega) (by omega))
  replace hr7 := ((sam_N hn (a := b) (by omega)).2 7).trans ((up2_ne _ _ (by omega)).trans hr7)
  replace k8 := kin_x k8 (hs _ (by omega) (by omega))
  replace hr13 := ((sam_N hn (a := b) (by omega)).2 13).trans ((up2_ne _ _ (by omega)).trans hr13)
  replace k9 := kin_x k9 (hs _ (by omega) (by omega))
  replace hr14 := ((sam_N hn (a := b) (by omega)).2 14).trans ((up2_ne _ _ (by omega)).trans hr14)
  replace k10 := kin_x k10 (hs _ (by omega) (by omega))
  replace hr15 := ((sam_N hn (a := b) (by omega)).2 15).trans ((up2_ne _ _ (by omega)).trans hr15)
  replace k11 := kin_x k11 (hs _ (by omega) (by omega))
  replace hr16 := ((sam_N hn (a := b) (by omega)).2 16).trans ((up2_ne _ _ (by omega)).trans hr16)
  replace k12 := kin_x k12 (hs _ (by omega) (by omega))
  replace hr17 := ((sam_N hn (a := b) (by omega)).2 17).trans ((up2_ne _ _ (by omega)).trans hr17)
  replace k13 := kin_x k13 (hs _ (by omega) (by omega))
  replace hr18 := ((sam_N hn (a := b) (by omega)).2 18).trans ((up2_ne _ _ (by omega)).trans hr18)
  replace k14 := kin_x k14 (hs _ (by omega) (by omega))
  replace hr19 := ((sam_N hn (a := b) (by omega)).2 19).trans ((up2_ne _ _ (by omega)).trans hr19)
  replace k15 := kin_x k15 (hs _ (by omega) (by omega))
  replace hr20 := ((sam_N hn (a := b) (by omega)).2 20).trans ((up2_ne _ _ (by omega)).trans hr20)
  replace k16 := kin_x k16 (hs _ (by omega) (by omega))
  replace hr21 := ((sam_N hn (a := b) (by omega)).2 21).trans ((up2_ne _ _ (by omega)).trans hr21)
  replace k17 := kin_x k17 (hs _ (by omega) (by omega))
  replace hr27 := ((sam_N hn (a := b) (by omega)).2 27).trans ((up2_ne _ _ (by omega)).trans hr27)
  replace k18 := kin_x k18 (hs _ (by omega) (by omega))
  replace hr28 := ((sam_N hn (a := b) (by omega)).2 28).trans ((up2_ne _ _ (by omega)).trans hr28)
  replace k19 := kin_x k19 (hs _ (by omega) (by omega))
  replace hr29 := ((sam_N hn (a := b) (by omega)).2 29).trans ((up2_ne _ _ (by omega)).trans hr29)
  replace k20 := kin_x k20 (hs _ (by omega) (by omega))
  replace hr30 := ((sam_N hn (a := b) (by omega)).2 30).trans ((up2_ne _ _ (by omega)).trans hr30)
  replace k21 := kin_x k21 (hs _ (by omega) (by omega))
  replace hr33 := ((sam_N hn (a := b) (by omega)).2 33).trans ((up2_ne _ _ (by omega)).trans hr33)
  replace k22 := kin_x k22 (hs _ (by omega) (by omega))
  replace hr34 := ((sam_N hn (a := b) (by omega)).2 34).trans ((up2_ne _ _ (by omega)).trans hr34)
  replace k23 := kin_x k23 (hs _ (by omega) (by omega))
  replace hr35 := ((sam_N hn (a := b) (by omega)).2 35).trans ((up2_ne _ _ (by omega)).trans hr35)
  replace k24 := kin_x k24 (hs _ (by omega) (by omega))
  replace hr38 := ((sam_N hn (a := b) (by omega)).2 38).trans ((up2_ne _ _ (by omega)).trans hr38)
  replace k25 := kin_x k25 (hs _ (by omega) (by omega))
  replace hr39 := ((sam_N hn (a := b) (by omega)).2 39).trans ((up2_ne _ _ (by omega)).trans hr39)
  replace k26 := kin_x k26 (hs _ (by omega) (by omega))
  have hr40 := ((sam_N hn (a := b) (by omega)).2 40).trans (up2_self M198.2.2 b 40 (.ref (b + 26)))
  replace hB := exB_N (exB_R hB 40 (.ref (b + 26))) hn (by omega) (by omega)
  clear hs
  have k27 : G206 (b + 27) = some (.inr (.int, 6)) := gk
  clear hn gk
  refine x_putFR h gb (by decide) (by decide) ff_X12_89 rfl rfl rfl rfl dX12_init_208 ?_
  refine x_aload_n h dX12_init_211 rfl ?_
  refine x_sipush h (nI 248) (by decide) dX12_init_212 ?_
  refine x_arr (at' := .long) (ty := .long) h 248 rfl ac_long (by decide) (by decide) (by decide) rfl ⟨Nat.le_of_ble_eq_true rfl, Nat.le_of_ble_eq_true rfl⟩ dX12_init_215 (fun G215 M215 hn gk => ?_)
  refine x_z (z' := b + 29) rfl ?_
  have hs : ∀ a, a < b + 28 → a ≠ b → sam G206 G215 M206.2.2 M215.2.2 a := fun a h1 h2 => sam_t (sam_R G206 M206 41 (.ref (b + 27)) h2) (sam_N hn h1)
  replace gb := kin_x gb (sam_N hn (by omega))
  replace k1 := kin_x k1 (hs _ (by omega) (by omega))
  replace hr0 := ((sam_N hn (a := b) (by omega)).2 0).trans ((up2_ne _ _ (by omega)).trans hr0)
  replace k2 := kin_x k2 (hs _ (by omega) (by omega))
  replace hr2 := ((sam_N hn (a := b) (by omega)).2 2).trans ((up2_ne _ _ (by omega)).trans hr2)
  replace k3 := kin_x k3 (hs _ (by omega) (by omega))
  replace hr3 := ((sam_N hn (a := b) (by omega)).2 3).trans ((up2_ne _ _ (by omega)).trans hr3)
  replace k4 := kin_x k4 (hs _ (by omega) (by omega))
  replace hr4 := ((sam_N hn (a := b) (by omega)).2 4).trans ((up2_ne _ _ (by omega)).trans hr4)
  replace k5 := kin_x k5 (hs _ (by omega) (by omega))
  replace hr5 := ((sam_N hn (a := b) (by omega)).2 5).trans ((up2_ne _ _ (by omega)).trans hr5)
  replace k6 := kin_x k6 (hs _ (by omega) (by omega))
  replace hr6 := ((sam_N hn (a := b) (by omega)).2 6).trans ((up2_ne _ _ (by omega)).trans hr6)
  replace k7 := kin_x k7 (hs _ (by omega) (by omega))
  replace hr7 := ((sam_N hn (a := b) (by omega)).2 7).trans ((up2_ne _ _ (by omega)).trans hr7)
  replace k8 := kin_x k8 (hs _ (by omega) (by omega))
  replace hr13 := ((sam_N hn (a := b) (by omega)).2 13).trans ((up2_ne _ _ (by omega)).trans hr13)
  replace k9 := kin_x k9 (hs _ (by omega) (by omega))
  replace hr14 := ((sam_N hn (a := b) (by omega)).2 14).trans ((up2_ne _ _ (by omega)).trans hr14)
  replace k10 := kin_x k10 (hs _ (by omega) (by omega))
  replace hr15 := ((sam_N hn (a := b) (by omega)).2 15).trans ((up2_ne _ _ (by omega)).trans hr15)
  replace k11 := kin_x k11 (hs _ (by omega) (by omega))
  replace hr16 := ((sam_N hn (a := b) (by omega)).2 16).trans ((up2_ne _ _ (by omega)).trans hr16)
  replace k12 := kin_x k12 (hs _ (by omega) (by omega))
  replace hr17 := ((sam_N hn (a := b) (by omega)).2 17).trans ((up2_ne _ _ (by omega)).trans hr17)
  replace k13 := kin_x k13 (hs _ (by omega) (by omega))
  replace hr18 := ((sam_N hn (a := b) (by omega)).2 18).trans ((up2_ne _ _ (by omega)).trans hr18)
  replace k14 := kin_x k14 (hs _ (by omega) (by omega))
  replace hr19 := ((sam_N hn (a := b) (by omega)).2 19).trans ((up2_ne _ _ (by omega)).trans hr19)
  replace k15 := kin_x k15 (hs _ (by omega) (by omega))
  replace hr20 := ((sam_N hn (a := b) (by omega)).2 20).trans ((up2_ne _ _ (by omega)).trans hr20)
  replace k16 := kin_x k16 (hs _ (by omega) (by omega))
  replace hr21 := ((sam_N hn (a := b) (by omega)).2 21).trans ((up2_ne _ _ (by omega)).trans hr21)
  replace k17 := kin_x k17 (hs _ (by omega) (by omega))
  replace hr27 := ((sam_N hn (a := b) (by omega)).2 27).trans ((up2_ne _ _ (by omega)).trans hr27)
  replace k18 := kin_x k18 (hs _ (by omega) (by omega))
  replace hr28 := ((sam_N hn (a := b) (by omega)).2 28).trans ((up2_ne _ _ (by omega)).trans hr28)
  replace k19 := kin_x k19 (hs _ (by omega) (by omega))
  replace hr29 := ((sam_N hn (a := b) (by omega)).2 29).trans ((up2_ne _ _ (by omega)).trans hr29)
  replace k20 := kin_x k20 (hs _ (by omega) (by omega))
  replace hr30 := ((sam_N hn (a := b) (by omega)).2 30).trans ((up2_ne _ _ (by omega)).trans hr30)
  replace k21 := kin_x k21 (hs _ (by omega) (by omega))
  replace hr33 := ((sam_N hn (a := b) (by omega)).2 33).trans ((up2_ne _ _ (by omega)).trans hr33)
  replace k22 := kin_x k22 (hs _ (by omega) (by omega))
  replace hr34 := ((sam_N hn (a := b) (by omega)).2 34).trans ((up2_ne _ _ (by omega)).trans hr34)
  replace k23 := kin_x k23 (hs _ (by omega) (by omega))
  replace hr35 := ((sam_N hn (a := b) (by omega)).2 35).trans ((up2_ne _ _ (by omega)).trans hr35)
  replace k24 := kin_x k24 (hs _ (by omega) (by omega))
  replace hr38 := ((sam_N hn (a := b) (by omega)).2 38).trans ((up2_ne _ _ (by omega)).trans hr38)
  replace k25 := kin_x k25 (hs _ (by omega) (by omega))
  replace hr39 := ((sam_N hn (a := b) (by omega)).2 39).trans ((up2_ne _ _ (by omega)).trans hr39)
  replace k26 := kin_x k26 (hs _ (by omega) (by omega))
  replace hr40 := ((sam_N hn (a := b) (by omega)).2 40).trans ((up2_ne _ _ (by omega)).trans hr40)
  replace k27 := kin_x k27 (hs _ (by omega) (by omega))
  have hr41 := ((sam_N hn (a := b) (by omega)).2 41).trans (up2_self M206.2.2 b 41 (.ref (b + 27)))
  replace hB := exB_N (exB_R hB 41 (.ref (b + 27))) hn (by omega) (by omega)
  clear hs
  have k28 : G215 (b + 28) = some (.inr (.long, 248)) := gk
  clear hn gk
  refine x_putFR h gb (by decide) (by decide) ff_X12_92 rfl rfl rfl rfl dX12_init_217 ?_
  refine x_aload_n h dX12_init_220 rfl ?_
  refine x_sipush h (nI 248) (by decide) dX12_init_221 ?_
  refine x_arr (at' := .long) (ty := .long) h 248 rfl ac_long (by decide) (by decide) (by decide) rfl ⟨Nat.le_of_ble_eq_true rfl, Nat.le_of_ble_eq_true rfl⟩ dX12_init_224 (fun G224 M224 hn gk => ?_)
  refine x_z (z' := b + 30) rfl ?_
  have hs : ∀ a, a < b + 29 → a ≠ b → sam G215 G224 M215.2.2 M224.2.2 a := fun a h1 h2 => sam_t (sam_R G215 M215 44 (.ref (b + 28)) h2) (sam_N hn h1)
  replace gb := kin_x gb (sam_N hn (by omega))
  replace k1 := kin_x k1 (hs _ (by omega) (by omega))
  replace hr0 := ((sam_N hn (a := b) (by omega)).2 0).trans ((up2_ne _ _ (by omega)).trans hr0)
  replace k2 := kin_x k2 (hs _ (by omega) (by omega))
  replace hr2 := ((sam_N hn (a := b) (by omega)).2 2).trans ((up2_ne _ _ (by omega)).trans hr2)
  replace k3 := kin_x k3 (hs _ (by omega) (by omega))
  replace hr3 := ((sam_N hn (a := b) (by omega)).2 3).trans ((up2_ne _ _ (by omega)).trans hr3)
  replace k4 := kin_x k4 (hs _ (by omega) (by omega))
  replace hr4 := ((sam_N hn (a := b) (by omega)).2 4).trans ((up2_ne _ _ (by omega)).trans hr4)
  replace k5 := kin_x k5 (hs _ (by omega) (by omega))
  replace hr5 := ((sam_N hn (a := b) (by omega)).2 5).trans ((up2_ne _ _ (by omega)).trans hr5)
  replace k6 := kin_x k6 (hs _ (by omega) (by omega))
  replace hr6 := ((sam_N hn (a := b) (by omega)).2 6).trans ((up2_ne _ _ (by omega)).trans hr6)
  replace k7 := kin_x k7 (hs _ (by omega) (by omega))
  replace hr7 := ((sam_N hn (a := b) (by omega)).2 7).trans ((up2_ne _ _ (by omega)).trans hr7)
  replace k8 := kin_x k8 (hs _ (by omega) (by omega))
  replace hr13 := ((sam_N hn (a := b) (by omega)).2 13).trans ((up2_ne _ _ (by omega)).trans hr13)
  replace k9 := kin_x k9 (hs _ (by omega) (by omega))
  replace hr14 := ((sam_N hn (a := b) (by omega)).2 14).trans ((up2_ne _ _ (by omega)).trans hr14)
  replace k10 := kin_x k10 (hs _ (by omega) (by omega))
  replace hr15 := ((sam_N hn (a := b) (by omega)).2 15).trans ((up2_ne _ _ (by omega)).trans hr15)
  replace k11 := kin_x k11 (hs _ (by omega) (by omega))
  replace hr16 := ((sam_N hn (a := b) (by omega)).2 16).trans ((up2_ne _ _ (by omega)).trans hr16)
  replace k12 := kin_x k12 (hs _ (by omega) (by omega))
  replace hr17 := ((sam_N hn (a := b) (by omega)).2 17).trans ((up2_ne _ _ (by omega)).trans hr17)
  replace k13 := kin_x k13 (hs _ (by omega) (by omega))
  replace hr18 := ((sam_N hn (a := b) (by omega)).2 18).trans ((up2_ne _ _ (by omega)).trans hr18)
  replace k14 := kin_x k14 (hs _ (by omega) (by omega))
  replace hr19 := ((sam_N hn (a := b) (by omega)).2 19).trans ((up2_ne _ _ (by omega)).trans hr19)
  replace k15 := kin_x k15 (hs _ (by omega) (by omega))
  replace hr20 := ((sam_N hn (a := b) (by omega)).2 20).trans ((up2_ne _ _ (by omega)).trans hr20)
  replace k16 := kin_x k16 (hs _ (by omega) (by omega))
  replace hr21 := ((sam_N hn (a := b) (by omega)).2 21).trans ((up2_ne _ _ (by omega)).trans hr21)
  replace k17 := kin_x k17 (hs _ (by omega) (by omega))
  replace hr27 := ((sam_N hn (a := b) (by omega)).2 27).trans ((up2_ne _ _ (by omega)).trans hr27)
  replace k18 := kin_x k18 (hs _ (by omega) (by omega))
  replace hr28 := ((sam_N hn (a := b) (by omega)).2 28).trans ((up2_ne _ _ (by omega)).trans hr28)
  replace k19 := kin_x k19 (hs _ (by omega) (by omega))
  replace hr29 := ((sam_N hn (a := b) (by omega)).2 29).trans ((up2_ne _ _ (by omega)).trans hr29)
  replace k20 := kin_x k20 (hs _ (by omega) (by omega))
  replace hr30 := ((sam_N hn (a := b) (by omega)).2 30).trans ((up2_ne _ _ (by omega)).trans hr30)
  replace k21 := kin_x k21 (hs _ (by omega) (by omega))
  replace hr33 := ((sam_N hn (a := b) (by omega)).2 33).trans ((up2_ne _ _ (by omega)).trans hr33)
  replace k22 := kin_x k22 (hs _ (by omega) (by omega))
  replace hr34 := ((sam_N hn (a := b) (by omega)).2 34).trans ((up2_ne _ _ (by omega)).trans hr34)
  replace k23 := kin_x k23 (hs _ (by omega) (by omega))
  replace hr35 := ((sam_N hn (a := b) (by omega)).2 35).trans ((up2_ne _ _ (by omega)).trans hr35)
  replace k24 := kin_x k24 (hs _ (by omega) (by omega))
  replace hr38 := ((sam_N hn (a := b) (by omega)).2 38).trans ((up2_ne _ _ (by omega)).trans hr38)
  replace k25 := kin_x k25 (hs _ (by omega) (by omega))
  replace hr39 := ((sam_N hn (a := b) (by omega)).2 39).trans ((up2_ne _ _ (by omega)).trans hr39)
  replace k26 := kin_x k26 (hs _ (by omega) (by omega))
  replace hr40 := ((sam_N hn (a := b) (by omega)).2 40).trans ((up2_ne _ _ (by omega)).trans hr40)
  replace k27 := kin_x k27 (hs _ (by omega) (by omega))
  replace hr41 := ((sam_N hn (a := b) (by omega)).2 41).trans ((up2_ne _ _ (by omega)).trans hr41)
  replace k28 := kin_x k28 (hs _ (by omega) (by omega))
  have hr44 := ((sam_N hn (a := b) (by omega)).2 44).trans (up2_self M215.2.2 b 44 (.ref (b + 28)))
  replace hB := exB_N (exB_R hB 44 (.ref (b + 28))) hn (by omega) (by omega)
  clear hs
  have k29 : G224 (b + 29) = some (.inr (.long, 248)) := gk
  clear hn gk
  refine x_putFR h gb (by decide) (by decide) ff_X12_96 rfl rfl rfl rfl dX12_init_226 ?_
  refine x_aload_n h dX12_init_229 rfl ?_
  refine x_in3 h dX12_init_230 ?_
  refine x_arr (at' := .int) (ty := .int) h 3 rfl ac_int (by decide) (by decide) (by decide) rfl ⟨Nat.le_of_ble_eq_true rfl, Nat.le_of_ble_eq_true rfl⟩ dX12_init_231 (fun G231 M231 hn gk => ?_)
  refine x_z (z' := b + 31) rfl ?_
  have hs : ∀ a, a < b + 30 → a ≠ b → sam G224 G231 M224.2.2 M231.2.2 a := fun a h1 h2 => sam_t (sam_R G224 M224 45 (.ref (b + 29)) h2) (sam_N hn h1)
  replace gb := kin_x gb (sam_N hn (by omega))
  replace k1 := kin_x k1 (hs _ (by omega) (by omega))
  replace hr0 := ((sam_N hn (a := b) (by omega)).2 0).trans ((up2_ne _ _ (by omega)).trans hr0)
  replace k2 := kin_x k2 (hs _ (by omega) (by omega))
  replace hr2 := ((sam_N hn (a := b) (by omega)).2 2).trans ((up2_ne _ _ (by omega)).trans hr2)
  replace k3 := kin_x k3 (hs _ (by omega) (by omega))
  replace hr3 := ((sam_N hn (a := b) (by omega)).2 3).trans ((up2_ne _ _ (by omega)).trans hr3)
  replace k4 := kin_x k4 (hs _ (by omega) (by omega))
  replace hr4 := ((sam_N hn (a := b) (by omega)).2 4).trans ((up2_ne _ _ (by omega)).trans hr4)
  replace k5 := kin_x k5 (hs _ (by omega) (by omega))
  replace hr5 := ((sam_N hn (a := b) (by omega)).2 5).trans ((up2_ne _ _ (by omega)).trans hr5)
  replace k6 := kin_x k6 (hs _ (by omega) (by omega))
  replace hr6 := ((sam_N hn (a := b) (by omega)).2 6).trans ((up2_ne _ _ (by omega)).trans hr6)
  replace k7 := kin_x k7 (hs _ (by omega) (by omega))
  replace hr7 := ((sam_N hn (a := b) (by omega)).2 7).trans ((up2_ne _ _ (by omega)).trans hr7)
  replace k8 := kin_x k8 (hs _ (by omega) (by omega))
  replace hr13 := ((sam_N hn (a := b) (by omega)).2 13).trans ((up2_ne _ _ (by omega)).trans hr13)
  replace k9 := kin_x k9 (hs _ (by omega) (by omega))
  replace hr14 := ((sam_N hn (a := b) (by omega)).2 14).trans ((up2_ne _ _ (by omega)).trans hr14)
  replace k10 := kin_x k10 (hs _ (by omega) (by omega))
  replace hr15 := ((sam_N hn (a := b) (by omega)).2 15).trans ((up2_ne _ _ (by omega)).trans hr15)
  replace k11 := kin_x k11 (hs _ (by omega) (by omega))
  replace hr16 := ((sam_N hn (a := b) (by omega)).2 16).trans ((up2_ne _ _ (by omega)).trans hr16)
  replace k12 := kin_x k12 (hs _ (by omega) (by omega))
  replace hr17 := ((sam_N hn (a := b) (by omega)).2 17).trans ((up2_ne _ _ (by omega)).trans hr17)
  replace k13 := kin_x k13 (hs _ (by omega) (by omega))
  replace hr18 := ((sam_N hn (a := b) (by omega)).2 18).trans ((up2_ne _ _ (by omega)).trans hr18)
  replace k14 := kin_x k14 (hs _ (by omega) (by omega))
  replace hr19 := ((sam_N hn (a := b) (by omega)).2 19).trans ((up2_ne _ _ (by omega)).trans hr19)
  replace k15 := kin_x k15 (hs _ (by omega) (by omega))
  replace hr20 := ((sam_N hn (a := b) (by omega)).2 20).trans ((up2_ne _ _ (by omega)).trans hr20)
  replace k16 := kin_x k16 (hs _ (by omega) (by omega))
  replace hr21 := ((sam_N hn (a := b) (by omega)).2 21).trans ((up2_ne _ _ (by omega)).trans hr21)
  replace k17 := kin_x k17 (hs _ (by omega) (by omega))
  replace hr27 := ((sam_N hn (a := b) (by omega)).2 27).trans ((up2_ne _ _ (by omega)).trans hr27)
  replace k18 := kin_x k18 (hs _ (by omega) (by omega))
  replace hr28 := ((sam_N hn (a := b) (by omega)).2 28).trans ((up2_ne _ _ (by omega)).trans hr28)
  replace k19 := kin_x k19 (hs _ (by omega) (by omega))
  replace hr29 := ((sam_N hn (a := b) (by omega)).2 29).trans ((up2_ne _ _ (by omega)).trans hr29)
  replace k20 := kin_x k20 (hs _ (by omega) (by omega))
  replace hr30 := ((sam_N hn (a := b) (by omega)).2 30).trans ((up2_ne _ _ (by omega)).trans hr30)
  replace k21 := kin_x k21 (hs _ (by omega) (by omega))
  replace hr33 := ((sam_N hn (a := b) (by omega)).2 33).trans ((up2_ne _ _ (by omega)).trans hr33)
  replace k22 := kin_x k22 (hs _ (by omega) (by omega))
  replace hr34 := ((sam_N hn (a := b) (by omega)).2 34).trans ((up2_ne _ _ (by omega)).trans hr34)
  replace k23 := kin_x k23 (hs _ (by omega) (by omega))
  replace hr35 := ((sam_N hn (a := b) (by omega)).2 35).trans ((up2_ne _ _ (by omega)).trans hr35)
  replace k24 := kin_x k24 (hs _ (by omega) (by omega))
  replace hr38 := ((sam_N hn (a := b) (by omega)).2 38).trans ((up2_ne _ _ (by omega)).trans hr38)
  replace k25 := kin_x k25 (hs _ (by omega) (by omega))
  replace hr39 := ((sam_N hn (a := b) (by omega)).2 39).trans ((up2_ne _ _ (by omega)).trans hr39)
  replace k26 := kin_x k26 (hs _ (by omega) (by omega))
  replace hr40 := ((sam_N hn (a := b) (by omega)).2 40).trans ((up2_ne _ _ (by omega)).trans hr40)
  replace k27 := kin_x k27 (hs _ (by omega) (by omega))
  replace hr41 := ((sam_N hn (a := b) (by omega)).2 41).trans ((up2_ne _ _ (by omega)).trans hr41)
  replace k28 := kin_x k28 (hs _ (by omega) (by omega))
  replace hr44 := ((sam_N hn (a := b) (by omega)).2 44).trans ((up2_ne _ _ (by omega)).trans hr44)
  replace k29 := kin_x k29 (hs _ (by omega) (by omega))
  have hr45 := ((sam_N hn (a := b) (by omega)).2 45).trans (up2_self M224.2.2 b 45 (.ref (b + 29)))
  replace hB := exB_N (exB_R hB 45 (.ref (b + 29))) hn (by omega) (by omega)
  clear hs
  have k30 : G231 (b + 30) = some (.inr (.int, 3)) := gk
  clear hn gk
  refine x_putFR h gb (by decide) (by decide) ff_X12_99 rfl rfl rfl rfl dX12_init_233 ?_
  refine x_aload_n h dX12_init_236 rfl ?_
  refine x_in4 h dX12_init_237 ?_
  refine x_arr (at' := .long) (ty := .long) h 4 rfl ac_long (by decide) (by decide) (by decide) rfl ⟨Nat.le_of_ble_eq_true rfl, Nat.le_of_ble_eq_true rfl⟩ dX12_init_238 (fun G238 M238 hn gk => ?_)
  refine x_z (z' := b + 32) rfl ?_
  have hs : ∀ a, a < b + 31 → a ≠ b → sam G231 G238 M231.2.2 M238.2.2 a := fun a h1 h2 => sam_t (sam_R G231 M231 46 (.ref (b + 30)) h2) (sam_N hn h1)
  replace gb := kin_x gb (sam_N hn (by omega))
  replace k1 := kin_x k1 (hs _ (by omega) (by omega))
  replace hr0 := ((sam_N hn (a := b) (by omega)).2 0).trans ((up2_ne _ _ (by omega)).trans hr0)
  replace k2 := kin_x k2 (hs _ (by omega) (by omega))
  replace hr2 := ((sam_N hn (a := b) (by omega)).2 2).trans ((up2_ne _ _ (by omega)).trans hr2)
  replace k3 := kin_x k3 (hs _ (by omega) (by omega))
  replace hr3 := ((sam_N hn (a := b) (by omega)).2 3).trans ((up2_ne _ _ (by omega)).trans hr3)
  replace k4 := kin_x k4 (hs _ (by omega) (by omega))
  replace hr4 := ((sam_N hn (a := b) (by omega)).2 4).trans ((up2_ne _ _ (by omega)).trans hr4)
  replace k5 := kin_x k5 (hs _ (by omega) (by omega))
  replace hr5 := ((sam_N hn (a := b) (by omega)).2 5).trans ((up2_ne _ _ (by omega)).trans hr5)
  replace k6 := kin_x k6 (hs _ (by omega) (by omega))
  replace hr6 := ((sam_N hn (a := b) (by omega)).2 6).trans ((up2_ne _ _ (by omega)).trans hr6)
  replace k7 := kin_x k7 (hs _ (by omega) (by omega))
  replace hr7 := ((sam_N hn (a := b) (by omega)).2 7).trans ((up2_ne _ _ (by omega)).trans hr7)
  replace k8 := kin_x k8 (hs _ (by omega) (by omega))
  replace hr13 := ((sam_N hn (a := b) (by omega)).2 13).trans ((up2_ne _ _ (by omega)).trans hr13)
  replace k9 := kin_x k9 (hs _ (by omega) (by omega))
  replace hr14 := ((sam_N hn (a := b) (by omega)).2 14).trans ((up2_ne _ _ (by omega)).trans hr14)
  replace k10 := kin_x k10 (hs _ (by omega) (by omega))
  replace hr15 := ((sam_N hn (a := b) (by omega)).2 15).trans ((up2_ne _ _ (by omega)).trans hr15)
  replace k11 := kin_x k11 (hs _ (by omega) (by omega))
  replace hr16 := ((sam_N hn (a := b) (by omega)).2 16).trans ((up2_ne _ _ (by omega)).trans hr16)
  replace k12 := kin_x k12 (hs _ (by omega) (by omega))
  replace hr17 := ((sam_N hn (a := b) (by omega)).2 17).trans ((up2_ne _ _ (by omega)).trans hr17)
  replace k13 := kin_x k13 (hs _ (by omega) (by omega))
  replace hr18 := ((sam_N hn (a := b) (by omega)).2 18).trans ((up2_ne _ _ (by omega)).trans hr18)
  replace k14 := kin_x k14 (hs _ (by omega) (by omega))
  replace hr19 := ((sam_N hn (a := b) (by omega)).2 19).trans ((up2_ne _ _ (by omega)).trans hr19)
  replace k15 := kin_x k15 (hs _ (by omega) (by omega))
  replace hr20 := ((sam_N hn (a := b) (by omega)).2 20).trans ((up2_ne _ _ (by omega)).trans hr20)
  replace k16 := kin_x k16 (hs _ (by omega) (by omega))
  replace hr21 := ((sam_N hn (a := b) (by omega)).2 21).trans ((up2_ne _ _ (by omega)).trans hr21)
  replace k17 := kin_x k17 (hs _ (by omega) (by omega))
  replace hr27 := ((sam_N hn (a := b) (by omega)).2 27).trans ((up2_ne _ _ (by omega)).trans hr27)
  replace k18 := kin_x k18 (hs _ (by omega) (by omega))
  replace hr28 := ((sam_N hn (a := b) (by omega)).2 28).trans ((up2_ne _ _ (by omega)).trans hr28)
  replace k19 := kin_x k19 (hs _ (by omega) (by omega))
  replace hr29 := ((sam_N hn (a := b) (by omega)).2 29).trans ((up2_ne _ _ (by omega)).trans hr29)
  replace k20 := kin_x k20 (hs _ (by omega) (by omega))
  replace hr30 := ((sam_N hn (a := b) (by omega)).2 30).trans ((up2_ne _ _ (by omega)).trans hr30)
  replace k21 := kin_x k21 (hs _ (by omega) (by omega))
  replace hr33 := ((sam_N hn (a := b) (by omega)).2 33).trans ((up2_ne _ _ (by omega)).trans hr33)
  replace k22 := kin_x k22 (hs _ (by omega) (by omega))
  replace hr34 := ((sam_N hn (a := b) (by omega)).2 34).trans ((up2_ne _ _ (by omega)).trans hr34)
  replace k23 := kin_x k23 (hs _ (by omega) (by omega))
  replace hr35 := ((sam_N hn (a := b) (by omega)).2 35).trans ((up2_ne _ _ (by omega)).trans hr35)
  replace k24 := kin_x k24 (hs _ (by omega) (by omega))
  replace hr38 := ((sam_N hn (a := b) (by omega)).2 38).trans ((up2_ne _ _ (by omega)).trans hr38)
  replace k25 := kin_x k25 (hs _ (by omega) (by omega))
  replace hr39 := ((sam_N hn (a := b) (by omega)).2 39).trans ((up2_ne _ _ (by omega)).trans hr39)
  replace k26 := kin_x k26 (hs _ (by omega) (by omega))
  replace hr40 := ((sam_N hn (a := b) (by omega)).2 40).trans ((up2_ne _ _ (by omega)).trans hr40)
  replace k27 := kin_x k27 (hs _ (by omega) (by omega))
  replace hr41 := ((sam_N hn (a := b) (by omega)).2 41).trans ((up2_ne _ _ (by omega)).trans hr41)
  replace k28 := kin_x k28 (hs _ (by omega) (by omega))
  replace hr44 := ((sam_N hn (a := b) (by omega)).2 44).trans ((up2_ne _ _ (by omega)).trans hr44)
  replace k29 := kin_x k29 (hs _ (by omega) (by omega))
  replace hr45 := ((sam_N hn (a := b) (by omega)).2 45).trans ((up2_ne _ _ (by omega)).trans hr45)
  replace k30 := kin_x k30 (hs _ (by omega) (by omega))
  have hr46 := ((sam_N hn (a := b) (by omega)).2 46).trans (up2_self M231.2.2 b 46 (.ref (b + 30)))
  replace hB := exB_N (exB_R hB 46 (.ref (b + 30))) hn (by omega) (by omega)
  clear hs
  have k31 : G238 (b + 31) = some (.inr (.long, 4)) := gk
  clear hn gk
  refine x_putFR h gb (by decide) (by decide) ff_X12_102 rfl rfl rfl rfl dX12_init_240 ?_
  refine x_aload_n h dX12_init_243 rfl ?_
  refine x_bipush h (nI 32) (by decide) dX12_init_244 ?_
  refine x_arr (at' := .int) (ty := .int) h 32 rfl ac_int (by decide) (by decide) (by decide) rfl ⟨Nat.le_of_ble_eq_true rfl, Nat.le_of_ble_eq_true rfl⟩ dX12_init_246 (fun G246 M246 hn gk => ?_)
  refine x_z (z' := b + 33) rfl ?_
  have hs : ∀ a, a < b + 32 → a ≠ b → sam G238 G246 M238.2.2 M246.2.2 a := fun a h1 h2 => sam_t (sam_R G238 M238 47 (.ref (b + 31)) h2) (sam_N hn h1)
  replace gb := kin_x gb (sam_N hn (by omega))
  replace k1 := kin_x k1 (hs _ (by omega) (by omega))
  replace hr0 := ((sam_N hn (a := b) (by omega)).2 0).trans ((up2_ne _ _ (by omega)).trans hr0)
  replace k2 := kin_x k2 (hs _ (by omega) (by omega))
  replace hr2 := ((sam_N hn (a := b) (by omega)).2 2).trans ((up2_ne _ _ (by omega)).trans hr2)
  replace k3 := kin_x k3 (hs _ (by omega) (by omega))
  replace hr3 := ((sam_N hn (a := b) (by omega)).2 3).trans ((up2_ne _ _ (by omega)).trans hr3)
  replace k4 := kin_x k4 (hs _ (by omega) (by omega))
  replace hr4 := ((sam_N hn (a := b) (by omega)).2 4).trans ((up2_ne _ _ (by omega)).trans hr4)
  replace k5 := kin_x k5 (hs _ (by omega) (by omega))
  replace hr5 := ((sam_N hn (a := b) (by omega)).2 5).trans ((up2_ne _ _ (by omega)).trans hr5)
  replace k6 := kin_x k6 (hs _ (by omega) (by omega))
  replace hr6 := ((sam_N hn (a := b) (by omega)).2 6).trans ((up2_ne _ _ (by omega)).trans hr6)
  replace k7 := kin_x k7 (hs _ (by omega) (by omega))
  replace hr7 := ((sam_N hn (a := b) (by omega)).2 7).trans ((up2_ne _ _ (by omega)).trans hr7)
  replace k8 := kin_x k8 (hs _ (by omega) (by omega))
  replace hr13 := ((sam_N hn (a := b) (by omega)).2 13).trans ((up2_ne _ _ (by omega)).trans hr13)
  replace k9 := kin_x k9 (hs _ (by omega) (by omega))
  replace hr14 := ((sam_N hn (a := b) (by omega)).2 14).trans ((up2_ne _ _ (by omega)).trans hr14)
  replace k10 := kin_x k10 (hs _ (by omega) (by omega))
  replace hr15 := ((sam_N hn (a := b) (by omega)).2 15).trans ((up2_ne _ _ (by omega)).trans hr15)
  replace k11 := kin_x k11 (hs _ (by omega) (by omega))
  replace hr16 := ((sam_N hn (a := b) (by omega)).2 16).trans ((up2_ne _ _ (by omega)).trans hr16)
  replace k12 := kin_x k12 (hs _ (by omega) (by omega))
  replace hr17 := ((sam_N hn (a := b) (by omega)).2 17).trans ((up2_ne _ _ (by omega)).trans hr17)
  replace k13 := kin_x k13 (hs _ (by omega) (by omega))
  replace hr18 := ((sam_N hn (a := b) (by omega)).2 18).trans ((up2_ne _ _ (by omega)).trans hr18)
  replace k14 := kin_x k14 (hs _ (by omega) (by omega))
  replace hr19 := ((sam_N hn (a := b) (by omega)).2 19).trans ((up2_ne _ _ (by omega)).trans hr19)
  replace k15 := kin_x k15 (hs _ (by omega) (by omega))
  replace hr20 := ((sam_N hn (a := b) (by omega)).2 20).trans ((up2_ne _ _ (by omega)).trans hr20)
  replace k16 := kin_x k16 (hs _ (by omega) (by omega))
  replace hr21 := ((sam_N hn (a := b) (by omega)).2 21).trans ((up2_ne _ _ (by omega)).trans hr21)
  replace k17 := kin_x k17 (hs _ (by omega) (by omega))
  replace hr27 := ((sam_N hn (a := b) (by omega)).2 27).trans ((up2_ne _ _ (by omega)).trans hr27)
  replace k18 := kin_x k18 (hs _ (by omega) (by omega))
  replace hr28 := ((sam_N hn (a := b) (by omega)).2 28).trans ((up2_ne _ _ (by omega)).trans hr28)
  replace k19 := kin_x k19 (hs _ (by omega) (by omega))
  replace hr29 := ((sam_N hn (a := b) (by omega)).2 29).trans ((up2_ne _ _ (by omega)).trans hr29)
  replace k20 := kin_x k20 (hs _ (by omega) (by omega))
  replace hr30 := ((sam_N hn (a := b) (by omega)).2 30).trans ((up2_ne _ _ (by omega)).trans hr30)
  replace k21 := kin_x k21 (hs _ (by omega) (by omega))
  replace hr33 := ((sam_N hn (a := b) (by omega)).2 33).trans ((up2_ne _ _ (by omega)).trans hr33)
  replace k22 := kin_x k22 (hs _ (by omega) (by omega))
  replace hr34 := ((sam_N hn (a := b) (by omega)).2 34).trans ((up2_ne _ _ (by omega)).trans hr34)
  replace k23 := kin_x k23 (hs _ (by omega) (by omega))
  replace hr35 := ((sam_N hn (a := b) (by omega)).2 35).trans ((up2_ne _ _ (by omega)).trans hr35)
  replace k24 := kin_x k24 (hs _ (by omega) (by omega))
  replace hr38 := ((sam_N hn (a := b) (by omega)).2 38).trans ((up2_ne _ _ (by omega)).trans hr38)
  replace k25 := kin_x k25 (hs _ (by omega) (by omega))
  replace hr39 := ((sam_N hn (a := b) (by omega)).2 39).trans ((up2_ne _ _ (by omega)).trans hr39)
  replace k26 := kin_x k26 (hs _ (by omega) (by omega))
  replace hr40 := ((sam_N hn (a := b) (by omega)).2 40).trans ((up2_ne _ _ (by omega)).trans hr40)
  replace k27 := kin_x k27 (hs _ (by omega) (by omega))
  replace hr41 := ((sam_N hn (a := b) (by omega)).2 41).trans ((up2_ne _ _ (by omega)).trans hr41)
  replace k28 := kin_x k28 (hs _ (by omega) (by omega))
  replace hr44 := ((sam_N hn (a := b) (by omega)).2 44).trans ((up2_ne _ _ (by omega)).trans hr44)
  replace k29 := kin_x k29 (hs _ (by omega) (by omega))
  replace hr45 := ((sam_N hn (a := b) (by omega)).2 45).trans ((up2_ne _ _ (by omega)).trans hr45)
  replace k30 := kin_x k30 (hs _ (by omega) (by omega))
  replace hr46 := ((sam_N hn (a := b) (by omega)).2 46).trans ((up2_ne _ _ (by omega)).trans hr46)
  replace k31 := kin_x k31 (hs _ (by omega) (by omega))
  have hr47 := ((sam_N hn (a := b) (by omega)).2 47).trans (up2_self M238.2.2 b 47 (.ref (b + 31)))
  replace hB := exB_N (exB_R hB 47 (.ref (b + 31))) hn (by omega) (by omega)
  clear hs
  have k32 : G246 (b + 32) = some (.inr (.int, 32)) := gk
  clear hn gk
  refine x_putFR h gb (by decide) (by decide) ff_X12_105 rfl rfl rfl rfl dX12_init_248 ?_
  replace hr0 : (sR M246 b 48 (.ref (b + 32))).2.2 b 0 = _ := (up2_ne _ _ (by omega)).trans hr0
  replace hr2 : (sR M246 b 48 (.ref (b + 32))).2.2 b 2 = _ := (up2_ne _ _ (by omega)).trans hr2
  replace hr3 : (sR M246 b 48 (.ref (b + 32))).2.2 b 3 = _ := (up2_ne _ _ (by omega)).trans hr3
  replace hr4 : (sR M246 b 48 (.ref (b + 32))).2.2 b 4 = _ := (up2_ne _ _ (by omega)).trans hr4
  replace hr5 : (sR M246 b 48 (.ref (b + 32))).2.2 b 5 = _ := (up2_ne _ _ (by omega)).trans hr5
  replace hr6 : (sR M246 b 48 (.ref (b + 32))).2.2 b 6 = _ := (up2_ne _ _ (by omega)).trans hr6
  replace hr7 : (sR M246 b 48 (.ref (b + 32))).2.2 b 7 = _ := (up2_ne _ _ (by omega)).trans hr7
  replace hr13 : (sR M246 b 48 (.ref (b + 32))).2.2 b 13 = _ := (up2_ne _ _ (by omega)).trans hr13
  replace hr14 : (sR M246 b 48 (.ref (b + 32))).2.2 b 14 = _ := (up2_ne _ _ (by omega)).trans hr14
  replace hr15 : (sR M246 b 48 (.ref (b + 32))).2.2 b 15 = _ := (up2_ne _ _ (by omega)).trans hr15
  replace hr16 : (sR M246 b 48 (.ref (b + 32))).2.2 b 16 = _ := (up2_ne _ _ (by omega)).trans hr16
  replace hr17 : (sR M246 b 48 (.ref (b + 32))).2.2 b 17 = _ := (up2_ne _ _ (by omega)).trans hr17
  replace hr18 : (sR M246 b 48 (.ref (b + 32))).2.2 b 18 = _ := (up2_ne _ _ (by omega)).trans hr18
  replace hr19 : (sR M246 b 48 (.ref (b + 32))).2.2 b 19 = _ := (up2_ne _ _ (by omega)).trans hr19
  replace hr20 : (sR M246 b 48 (.ref (b + 32))).2.2 b 20 = _ := (up2_ne _ _ (by omega)).trans hr20
  replace hr21 : (sR M246 b 48 (.ref (b + 32))).2.2 b 21 = _ := (up2_ne _ _ (by omega)).trans hr21
  replace hr27 : (sR M246 b 48 (.ref (b + 32))).2.2 b 27 = _ := (up2_ne _ _ (by omega)).trans hr27
  replace hr28 : (sR M246 b 48 (.ref (b + 32))).2.2 b 28 = _ := (up2_ne _ _ (by omega)).trans hr28
  replace hr29 : (sR M246 b 48 (.ref (b + 32))).2.2 b 29 = _ := (up2_ne _ _ (by omega)).trans hr29
  replace hr30 : (sR M246 b 48 (.ref (b + 32))).2.2 b 30 = _ := (up2_ne _ _ (by omega)).trans hr30
  replace hr33 : (sR M246 b 48 (.ref (b + 32))).2.2 b 33 = _ := (up2_ne _ _ (by omega)).trans hr33
  replace hr34 : (sR M246 b 48 (.ref (b + 32))).2.2 b 34 = _ := (up2_ne _ _ (by omega)).trans hr34
  replace hr35 : (sR M246 b 48 (.ref (b + 32))).2.2 b 35 = _ := (up2_ne _ _ (by omega)).trans hr35
  replace hr38 : (sR M246 b 48 (.ref (b + 32))).2.2 b 38 = _ := (up2_ne _ _ (by omega)).trans hr38
  replace hr39 : (sR M246 b 48 (.ref (b + 32))).2.2 b 39 = _ := (up2_ne _ _ (by omega)).trans hr39
  replace hr40 : (sR M246 b 48 (.ref (b + 32))).2.2 b 40 = _ := (up2_ne _ _ (by omega)).trans hr40
  replace hr41 : (sR M246 b 48 (.ref (b + 32))).2.2 b 41 = _ := (up2_ne _ _ (by omega)).trans hr41
  replace hr44 : (sR M246 b 48 (.ref (b + 32))).2.2 b 44 = _ := (up2_ne _ _ (by omega)).trans hr44
  replace hr45 : (sR M246 b 48 (.ref (b + 32))).2.2 b 45 = _ := (up2_ne _ _ (by omega)).trans hr45
  replace hr46 : (sR M246 b 48 (.ref (b + 32))).2.2 b 46 = _ := (up2_ne _ _ (by omega)).trans hr46
  replace hr47 : (sR M246 b 48 (.ref (b + 32))).2.2 b 47 = _ := (up2_ne _ _ (by omega)).trans hr47
  have hr48 : (sR M246 b 48 (.ref (b + 32))).2.2 b 48 = .ref (b + 32) := up2_self _ _ _ _
  replace hB := exB_R hB 48 (.ref (b + 32))
  have hmd : mdF G246 ((sR M246 b 48 (.ref (b + 32)))).2.2 b := ⟨gb, ⟨hr0, k1⟩, ⟨hr2, k2⟩, ⟨hr3, k3⟩, ⟨hr4, k4⟩, ⟨hr5, k5⟩, ⟨hr6, k6⟩, ⟨hr7, k7⟩, ⟨hr13, k8⟩, ⟨hr14, k9⟩, ⟨hr15, k10⟩, ⟨hr16, k11⟩, ⟨hr17, k12⟩, ⟨hr18, k13⟩, ⟨hr19, k14⟩, ⟨hr20, k15⟩, ⟨hr21, k16⟩, ⟨hr27, k17⟩, ⟨hr28, k18⟩, ⟨hr29, k19⟩, ⟨hr30, k20⟩, ⟨hr33, k21⟩, ⟨hr34, k22⟩, ⟨hr35, k23⟩, ⟨hr38, k24⟩, ⟨hr39, k25⟩, ⟨hr40, k26⟩, ⟨hr41, k27⟩, ⟨hr44, k28⟩, ⟨hr45, k29⟩, ⟨hr46, k30⟩, ⟨hr47, k31⟩, ⟨hr48, k32⟩⟩
  have iz : ∀ a j, b ≤ a → a < b + 33 → ((sR M246 b 48 (.ref (b + 32)))).1 a j = 0 := fun a j q1 q2 => by
    rcases Nat.lt_or_ge b a with w | w
    · exact (hB.2.2.2.1 a j w q2).1
    · obtain rfl : a = b := by omega
      exact (hB.2.2.1 j).1.trans (io j)
  have lz : ∀ a j, b ≤ a → a < b + 33 → ((sR M246 b 48 (.ref (b + 32)))).2.1 a j = 0 := fun a j q1 q2 => by
    rcases Nat.lt_or_ge b a with w | w
    · exact (hB.2.2.2.1 a j w q2).2
    · obtain rfl : a = b := by omega
      exact (hB.2.2.1 j).2.trans (il j)
  generalize hNf : (sR M246 b 48 (.ref (b + 32))) = N at hB hmd iz lz
  refine x_in0 h dX12_init_251 ?_
  refine x_istore_n h dX12_init_252 rfl rfl ?_
  dsimp only [List.set]
  refine x_iload_n h dX12_init_253 rfl ?_
  refine x_in3 h dX12_init_254 ?_
  refine x_icmp_ge h 272 dX12_init_255 (by decide) (fun c255 => ?_) (fun c255 => ?_)
  · exact absurd c255 (by decide)
  · refine x_aload_n h dX12_init_258 rfl ?_
    refine x_getR h gb f_X12_70 rfl (md_now hmd).1 dX12_init_259 ?_
    refine x_iload_n h dX12_init_262 rfl ?_
    refine x_bipush h (nI 6) (by decide) dX12_init_263 ?_
    refine x_iast h 0 (md_now hmd).2 (ix.ni (j := 0) (by decide) (by decide)) dX12_init_265 ?_
    refine x_incn h dX12_init_266 rfl rfl rfl ?_
    dsimp only [List.set]
    refine x_goto h 253 dX12_init_269 (by decide) ?_
    refine x_iload_n h dX12_init_253 rfl ?_
    refine x_in3 h dX12_init_254 ?_
    refine x_icmp_ge h 272 dX12_init_255 (by decide) (fun c255 => ?_) (fun c255 => ?_)
    · exact absurd c255 (by decide)
    · refine x_aload_n h dX12_init_258 rfl ?_
      refine x_getR h gb f_X12_70 rfl (md_now hmd).1 dX12_init_259 ?_
      refine x_iload_n h dX12_init_262 rfl ?_
      refine x_bipush h (nI 6) (by decide) dX12_init_263 ?_
      refine x_iast h 1 (md_now hmd).2 (ix.ni (j := 1) (by decide) (by decide)) dX12_init_265 ?_
      refine x_incn h dX12_init_266 rfl rfl rfl ?_
      dsimp only [List.set]
      refine x_goto h 253 dX12_init_269 (by decide) ?_
      refine x_iload_n h dX12_init_253 rfl ?_
      refine x_in3 h dX12_init_254 ?_
      refine x_icmp_ge h 272 dX12_init_255 (by decide) (fun c255 => ?_) (fun c255 => ?_)
      · exact absurd c255 (by decide)
      · refine x_aload_n h dX12_init_258 rfl ?_
        refine x_getR h gb f_X12_70 rfl (md_now hmd).1 dX12_init_259 ?_
        refine x_iload_n h dX12_init_262 rfl ?_
        refine x_bipush h (nI 6) (by decide) dX12_init_263 ?_
        refine x_iast h 2 (md_now hmd).2 (ix.ni (j := 2) (by decide) (by decide)) dX12_init_265 ?_
        refine x_incn h dX12_init_266 rfl rfl rfl ?_
        dsimp only [List.set]
        refine x_goto h 253 dX12_init_269 (by decide) ?_
        refine x_iload_n h dX12_init_253 rfl ?_
        refine x_in3 h dX12_init_254 ?_
        refine x_icmp_ge h 272 dX12_init_255 (by decide) (fun c255 => ?_) (fun c255 => ?_)
        · exact x_vret h hQ rfl dX12_init_272 ⟨rfl, rfl, exV_I (exB_V hB) rfl (fun a ha j => (up2_ne _ _ (by omega)).trans ((up2_ne _ _ (by omega)).trans (up2_ne _ _ (by omega)))), hmd, mInv_new iz lz⟩
        · exact absurd c255 (by decide)
