/-! ===== constructors ===== -/
theorem sam_t {G G1 G2 : GG} {R R1 R2 : Nat → Nat → Value} {a : Nat} (h : sam G G1 R R1 a) (h2 : sam G1 G2 R1 R2 a) : sam G G2 R R2 a := ⟨h2.1.trans h.1, fun j => (h2.2 j).trans (h.2 j)⟩
theorem x_z {Γ : GT} {E : CT} {k n : Nat} {G : GG} {z z' : Nat} {M : MM} {pc : Nat} {L : List (Option Value)} {st : List Value} (e : z' = z) (kk : X Γ E k n G z' M pc L st) : X Γ E k n G z M pc L st := by rw [← e]; exact kk
def condW (G : GG) (R : Nat → Nat → Value) (f : Nat) : Prop := G f = some (.inl 3) ∧ R f 3 = .ref (f + 1) ∧ isS G R (f + 1)
theorem cond_x {G G' : GG} {R R' : Nat → Nat → Value} {f : Nat} (h : condW G R f) (e : ∀ a, f ≤ a → a < f + 3 → sam G G' R R' a) : condW G' R' f := ⟨(e f (by omega) (by omega)).1.trans h.1, ((e f (by omega) (by omega)).2 3).trans h.2.1, isS_x h.2.2 (fun a _ _ => e a (by omega) (by omega))⟩
theorem ff_X9_9 : KW (Cond.fieldLink RX9 9 (cR 9) (cT 9 0).2.1 (cT 9 0).2.2.1) := KW.by 73 (by decide +kernel) rfl
theorem ff_X3_12 : KW (Cond.fieldLink RX3 12 (cR 3) (cT 3 3).2.1 (cT 3 3).2.2.1) := KW.by 81 (by decide +kernel) rfl
theorem ff_X6_9 : KW (Cond.fieldLink RX6 9 (cR 6) (cT 6 4).2.1 (cT 6 4).2.2.1) := KW.by 35 (by decide +kernel) rfl
theorem ff_X7_11 : KW (Cond.fieldLink RX7 11 (cR 7) (cT 7 1).2.1 (cT 7 1).2.2.1) := KW.by 353 (by decide +kernel) rfl
theorem ff_X4_12 : KW (Cond.fieldLink RX4 12 (cR 4) (cT 4 0).2.1 (cT 4 0).2.2.1) := KW.by 232 (by decide +kernel) rfl
theorem ff_X4_22 : KW (Cond.fieldLink RX4 22 (cR 4) (cT 4 1).2.1 (cT 4 1).2.2.1) := KW.by 234 (by decide +kernel) rfl
theorem ff_X4_26 : KW (Cond.fieldLink RX4 26 (cR 4) (cT 4 2).2.1 (cT 4 2).2.2.1) := KW.by 237 (by decide +kernel) rfl
theorem ff_X4_29 : KW (Cond.fieldLink RX4 29 (cR 4) (cT 4 3).2.1 (cT 4 3).2.2.1) := KW.by 241 (by decide +kernel) rfl
theorem ff_X4_32 : KW (Cond.fieldLink RX4 32 (cR 4) (cT 4 4).2.1 (cT 4 4).2.2.1) := KW.by 244 (by decide +kernel) rfl
theorem ff_X4_35 : KW (Cond.fieldLink RX4 35 (cR 4) (cT 4 5).2.1 (cT 4 5).2.2.1) := KW.by 245 (by decide +kernel) rfl
theorem ff_X5_12 : KW (Cond.fieldLink RX5 12 (cR 5) (cT 5 0).2.1 (cT 5 0).2.2.1) := KW.by 267 (by decide +kernel) rfl
theorem ff_X5_18 : KW (Cond.fieldLink RX5 18 (cR 5) (cT 5 1).2.1 (cT 5 1).2.2.1) := KW.by 270 (by decide +kernel) rfl
theorem ff_X1_12 : KW (Cond.fieldLink RX1 12 (cR 1) (cT 1 0).2.1 (cT 1 0).2.2.1) := KW.by 287 (by decide +kernel) rfl
theorem ff_X1_22 : KW (Cond.fieldLink RX1 22 (cR 1) (cT 1 1).2.1 (cT 1 1).2.2.1) := KW.by 288 (by decide +kernel) rfl
theorem ff_X1_26 : KW (Cond.fieldLink RX1 26 (cR 1) (cT 1 2).2.1 (cT 1 2).2.2.1) := KW.by 289 (by decide +kernel) rfl
theorem ff_X1_29 : KW (Cond.fieldLink RX1 29 (cR 1) (cT 1 3).2.1 (cT 1 3).2.2.1) := KW.by 290 (by decide +kernel) rfl
theorem ff_X1_32 : KW (Cond.fieldLink RX1 32 (cR 1) (cT 1 4).2.1 (cT 1 4).2.2.1) := KW.by 291 (by decide +kernel) rfl
theorem ff_X8_9 : KW (Cond.fieldLink RX8 9 (cR 8) (cT 8 0).2.1 (cT 8 0).2.2.1) := KW.by 195 (by decide +kernel) rfl
theorem ff_X0_12 : KW (Cond.fieldLink RX0 12 (cR 0) (cT 0 2).2.1 (cT 0 2).2.2.1) := KW.by 310 (by decide +kernel) rfl
theorem ff_X0_21 : KW (Cond.fieldLink RX0 21 (cR 0) (cT 0 3).2.1 (cT 0 3).2.2.1) := KW.by 311 (by decide +kernel) rfl
theorem ff_X0_28 : KW (Cond.fieldLink RX0 28 (cR 0) (cT 0 5).2.1 (cT 0 5).2.2.1) := KW.by 313 (by decide +kernel) rfl
theorem ff_X0_32 : KW (Cond.fieldLink RX0 32 (cR 0) (cT 0 7).2.1 (cT 0 7).2.2.1) := KW.by 315 (by decide +kernel) rfl
theorem ff_X0_35 : KW (Cond.fieldLink RX0 35 (cR 0) (cT 0 8).2.1 (cT 0 8).2.2.1) := KW.by 316 (by decide +kernel) rfl
theorem ff_X0_42 : KW (Cond.fieldLink RX0 42 (cR 0) (cT 0 9).2.1 (cT 0 9).2.2.1) := KW.by 317 (by decide +kernel) rfl
theorem ff_X0_50 : KW (Cond.fieldLink RX0 50 (cR 0) (cT 0 10).2.1 (cT 0 10).2.2.1) := KW.by 318 (by decide +kernel) rfl
theorem lm_X9_15 : KW (.methodLink RX9 15 q_J9_max.1) := KW.by 226 (by decide +kernel) rfl
theorem c_X9_init {Γ : GT} {G : GG} {M : MM} {b : Nat} (gb : G b = some (.inl 9)) : CallsG Γ q_X9_init [.ref b] G (b + 1) M (rC (fun G' z' M' => z' = b + 2 ∧ exB b (b + 2) G G' M M' ∧ isS G' M'.2.2 b)) 1 6 := by
  refine CallsG.intro (by decide +kernel) (Nat.le_of_ble_eq_true rfl) (fun E h hQ => ?_)
  have hB := exB_0 b G M
  refine x_loc (L' := [some (.ref b)]) rfl ?_
  refine x_aload_n h dX9_init_0 rfl ?_
  refine x_obj h l_X9_3 oi_in oi_cd rfl (Nat.le_of_ble_eq_true rfl) (Nat.le_of_ble_eq_true rfl) rfl dX9_init_1 ?_
  refine x_aload_n h dX9_init_4 rfl ?_
  refine x_bipush h (nI 6) (by decide) dX9_init_5 ?_
  refine x_arr (at' := .long) (ty := .long) h 6 rfl ac_long (by decide) (by decide) (by decide) rfl ⟨Nat.le_of_ble_eq_true rfl, Nat.le_of_ble_eq_true rfl⟩ dX9_init_7 (fun G7 M7 hn gk => ?_)
  refine x_z (z' := b + 2) rfl ?_
  have hs : ∀ a, a < b + 1 → a ≠ b → sam G G7 M.2.2 M7.2.2 a := fun a h1 _ => sam_N hn h1
  replace gb := kin_x gb (sam_N hn (by omega))
  replace hB := exB_N hB hn (by omega) (by omega)
  clear hs
  have k1 : G7 (b + 1) = some (.inr (.long, 6)) := gk
  clear hn gk
  refine x_putFR h gb (by decide) (by decide) ff_X9_9 rfl rfl rfl rfl dX9_init_9 ?_
  have hr0 : (sR M7 b 0 (.ref (b + 1))).2.2 b 0 = .ref (b + 1) := up2_self _ _ _ _
  replace hB := exB_R hB 0 (.ref (b + 1))
  exact x_vret h hQ rfl dX9_init_12 ⟨rfl, rfl, hB, ⟨gb, hr0, k1⟩⟩
theorem c_X9_row3 {Γ : GT} {G : GG} {M : MM} {z : Nat} : CallsG Γ q_X9_row3 [.int (nI 3)] G z M (rA (fun a G' z' M' => a = z ∧ z' = z + 7 ∧ exN z (z + 7) G G' M M' ∧ arrS G' M'.2.2 (DG G') z 3)) 7 24 := by
  refine CallsG.intro (by decide +kernel) (Nat.le_of_ble_eq_true rfl) (fun E h hQ => ?_)
  refine x_loc (L' := [some (.int (nI 3)), none, none]) rfl ?_
  refine x_iload_n h dX9_row_0 rfl ?_
  refine x_in0 h dX9_row_1 ?_
  refine x_mmax h lm_X9_15 rfl ⟨by decide, by decide⟩ ⟨Nat.zero_le _, Nat.zero_le _⟩ rfl dX9_row_2 ?_
  refine x_topi (y := nI 3) (by decide) ?_
  refine x_aarr h 3 k_X9_10 ao_X9 (by decide) (by decide) rfl ⟨Nat.le_of_ble_eq_true rfl, Nat.le_of_ble_eq_true rfl⟩ dX9_row_5 (fun G5 M5 hN gk => ?_)
  refine x_astore_n h dX9_row_8 rfl rfl ?_
  dsimp only [List.set]
  refine x_in0 h dX9_row_9 ?_
  refine x_istore_n h dX9_row_10 rfl rfl ?_
  dsimp only [List.set]
  refine x_iload_n h dX9_row_11 rfl ?_
  refine x_aload_n h dX9_row_12 rfl ?_
  refine x_alen h gk (by decide) dX9_row_13 ?_
  refine x_icmp_ge h 33 dX9_row_14 (by decide) (fun c14 => absurd c14 (by decide)) (fun c14 => ?_)
  refine x_aload_n h dX9_row_17 rfl ?_
  refine x_iload_n h dX9_row_18 rfl ?_
  refine x_new h (ci := 9) (by decide) k_X9_10 mk_X9 ini_X9 ⟨Nat.le_of_ble_eq_true rfl, Nat.le_of_ble_eq_true rfl⟩ dX9_row_19 ?_
  refine x_dup h rfl dX9_row_22 ?_
  refine x_cI h ci_X9_init im_X9_init rfl rfl l_X9_21 ⟨Nat.le_of_ble_eq_true rfl, Nat.le_of_ble_eq_true rfl⟩ rfl rfl ⟨Nat.le_of_ble_eq_true rfl, Nat.le_of_ble_eq_true rfl⟩ (c_X9_init (b := z + 1) (if_pos rfl)) rfl rfl rfl rfl dX9_row_23 (fun G20 z2 M20 hp => ?_)
  obtain ⟨hz, hx, hw⟩ := hp
  obtain rfl := hz
  refine x_z (z' := z + 3) rfl ?_
  have hn := exN_new hx (by omega) (fun _ => by omega)
  have gk := kin_x gk (sam_N hn (by omega))
  have hN := exN_trans hN hn (by omega) (by omega)
  refine x_aast (ci := 9) h 0 gk (by decide) (by decide) ((hx.1 (z + 1) (by omega)).trans (if_pos rfl)) (ix.ni (j := 0) (by decide) (by decide)) dX9_row_26 ?_
  generalize hm : sR M20 z 0 (.ref (z + 1)) = N0
  have hN := exN_R hN 0 (.ref (z + 1)) (Nat.le_refl z)
  rw [hm] at hN
  have hs : ∀ a, a ≠ z → sam G20 G20 M20.2.2 N0.2.2 a := fun a q => by rw [← hm]; exact sam_R _ _ _ _ q
  have s0 := isS_x hw (fun a _ _ => hs a (by omega))
  have r0 : N0.2.2 z 0 = .ref (z + 1) := by rw [← hm]; exact up2_self _ _ _ _
  refine x_incn h dX9_row_27 rfl rfl rfl ?_
  dsimp only [List.set]
  refine x_goto h 11 dX9_row_30 (by decide) ?_
  refine x_iload_n h dX9_row_11 rfl ?_
  refine x_aload_n h dX9_row_12 rfl ?_
  refine x_alen h gk (by decide) dX9_row_13 ?_
  refine x_icmp_ge h 33 dX9_row_14 (by decide) (fun c14 => absurd c14 (by decide)) (fun c14 => ?_)
  refine x_aload_n h dX9_row_17 rfl ?_
  refine x_iload_n h dX9_row_18 rfl ?_
  refine x_new h (ci := 9) (by decide) k_X9_10 mk_X9 ini_X9 ⟨Nat.le_of_ble_eq_true rfl, Nat.le_of_ble_eq_true rfl⟩ dX9_row_19 ?_
  refine x_dup h rfl dX9_row_22 ?_
  refine x_cI h ci_X9_init im_X9_init rfl rfl l_X9_21 ⟨Nat.le_of_ble_eq_true rfl, Nat.le_of_ble_eq_true rfl⟩ rfl rfl ⟨Nat.le_of_ble_eq_true rfl, Nat.le_of_ble_eq_true rfl⟩ (c_X9_init (b := z + 3) (if_pos rfl)) rfl rfl rfl rfl dX9_row_23 (fun G21 z2 M21 hp => ?_)
  obtain ⟨hz, hx, hw⟩ := hp
  obtain rfl := hz
  refine x_z (z' := z + 5) rfl ?_
  have hn := exN_new hx (by omega) (fun _ => by omega)
  have gk := kin_x gk (sam_N hn (by omega))
  have s0 := isS_x s0 (fun a _ _ => sam_N hn (by omega))
  have r0 := ((sam_N hn (a := z) (by omega)).2 0).trans r0
  have hN := exN_trans hN hn (by omega) (by omega)
  refine x_aast (ci := 9) h 1 gk (by decide) (by decide) ((hx.1 (z + 3) (by omega)).trans (if_pos rfl)) (ix.ni (j := 1) (by decide) (by decide)) dX9_row_26 ?_
  generalize hm : sR M21 z 1 (.ref (z + 3)) = N1
  have hN := exN_R hN 1 (.ref (z + 3)) (Nat.le_refl z)
  rw [hm] at hN
  have hs : ∀ a, a ≠ z → sam G21 G21 M21.2.2 N1.2.2 a := fun a q => by rw [← hm]; exact sam_R _ _ _ _ q
  have s0 := isS_x s0 (fun a _ _ => hs a (by omega))
  have r0 : N1.2.2 z 0 = _ := (show _ = _ from by rw [← hm]; exact up2_ne _ _ (by omega)).trans r0
  have s1 := isS_x hw (fun a _ _ => hs a (by omega))
  have r1 : N1.2.2 z 1 = .ref (z + 3) := by rw [← hm]; exact up2_self _ _ _ _
  refine x_incn h dX9_row_27 rfl rfl rfl ?_
  dsimp only [List.set]
  refine x_goto h 11 dX9_row_30 (by decide) ?_
  refine x_iload_n h dX9_row_11 rfl ?_
  refine x_aload_n h dX9_row_12 rfl ?_
  refine x_alen h gk (by decide) dX9_row_13 ?_
  refine x_icmp_ge h 33 dX9_row_14 (by decide) (fun c14 => absurd c14 (by decide)) (fun c14 => ?_)
  refine x_aload_n h dX9_row_17 rfl ?_
  refine x_iload_n h dX9_row_18 rfl ?_
  refine x_new h (ci := 9) (by decide) k_X9_10 mk_X9 ini_X9 ⟨Nat.le_of_ble_eq_true rfl, Nat.le_of_ble_eq_true rfl⟩ dX9_row_19 ?_
  refine x_dup h rfl dX9_row_22 ?_
  refine x_cI h ci_X9_init im_X9_init rfl rfl l_X9_21 ⟨Nat.le_of_ble_eq_true rfl, Nat.le_of_ble_eq_true rfl⟩ rfl rfl ⟨Nat.le_of_ble_eq_true rfl, Nat.le_of_ble_eq_true rfl⟩ (c_X9_init (b := z + 5) (if_pos rfl)) rfl rfl rfl rfl dX9_row_23 (fun G22 z2 M22 hp => ?_)
  obtain ⟨hz, hx, hw⟩ := hp
  obtain rfl := hz
  refine x_z (z' := z + 7) rfl ?_
  have hn := exN_new hx (by omega) (fun _ => by omega)
  have gk := kin_x gk (sam_N hn (by omega))
  have s0 := isS_x s0 (fun a _ _ => sam_N hn (by omega))
  have r0 := ((sam_N hn (a := z) (by omega)).2 0).trans r0
  have s1 := isS_x s1 (fun a _ _ => sam_N hn (by omega))
  have r1 := ((sam_N hn (a := z) (by omega)).2 1).trans r1
  have hN := exN_trans hN hn (by omega) (by omega)
  refine x_aast (ci := 9) h 2 gk (by decide) (by decide) ((hx.1 (z + 5) (by omega)).trans (if_pos rfl)) (ix.ni (j := 2) (by decide) (by decide)) dX9_row_26 ?_
  generalize hm : sR M22 z 2 (.ref (z + 5)) = N2
  have hN := exN_R hN 2 (.ref (z + 5)) (Nat.le_refl z)
  rw [hm] at hN
  have hs : ∀ a, a ≠ z → sam G22 G22 M22.2.2 N2.2.2 a := fun a q => by rw [← hm]; exact sam_R _ _ _ _ q
  have s0 := isS_x s0 (fun a _ _ => hs a (by omega))
  have r0 : N2.2.2 z 0 = _ := (show _ = _ from by rw [← hm]; exact up2_ne _ _ (by omega)).trans r0
  have s1 := isS_x s1 (fun a _ _ => hs a (by omega))
  have r1 : N2.2.2 z 1 = _ := (show _ = _ from by rw [← hm]; exact up2_ne _ _ (by omega)).trans r1
  have s2 := isS_x hw (fun a _ _ => hs a (by omega))
  have r2 : N2.2.2 z 2 = .ref (z + 5) := by rw [← hm]; exact up2_self _ _ _ _
  refine x_incn h dX9_row_27 rfl rfl rfl ?_
  dsimp only [List.set]
  refine x_goto h 11 dX9_row_30 (by decide) ?_
  refine x_iload_n h dX9_row_11 rfl ?_
  refine x_aload_n h dX9_row_12 rfl ?_
  refine x_alen h gk (by decide) dX9_row_13 ?_
  refine x_icmp_ge h 33 dX9_row_14 (by decide) (fun c14 => ?_) (fun c14 => absurd (by decide) c14)
  refine x_aload_n h dX9_row_33 rfl ?_
  refine x_aret h hQ rfl rfl dX9_row_34 ⟨_, rfl, rfl, rfl, hN, gk, fun i hi => ?_⟩
  rcases (show i = 0 ∨ i = 1 ∨ i = 2 by omega) with rfl | rfl | rfl
  · exact ⟨r0, DG_S s0⟩
  · exact ⟨r1, DG_S s1⟩
  · exact ⟨r2, DG_S s2⟩
theorem c_X9_row4 {Γ : GT} {G : GG} {M : MM} {z : Nat} : CallsG Γ q_X9_row4 [.int (nI 4)] G z M (rA (fun a G' z' M' => a = z ∧ z' = z + 9 ∧ exN z (z + 9) G G' M M' ∧ arrS G' M'.2.2 (DG G') z 4)) 9 32 := by
  refine CallsG.intro (by decide +kernel) (Nat.le_of_ble_eq_true rfl) (fun E h hQ => ?_)
  refine x_loc (L' := [some (.int (nI 4)), none, none]) rfl ?_
  refine x_iload_n h dX9_row_0 rfl ?_
  refine x_in0 h dX9_row_1 ?_
  refine x_mmax h lm_X9_15 rfl ⟨by decide, by decide⟩ ⟨Nat.zero_le _, Nat.zero_le _⟩ rfl dX9_row_2 ?_
  refine x_topi (y := nI 4) (by decide) ?_
  refine x_aarr h 4 k_X9_10 ao_X9 (by decide) (by decide) rfl ⟨Nat.le_of_ble_eq_true rfl, Nat.le_of_ble_eq_true rfl⟩ dX9_row_5 (fun G5 M5 hN gk => ?_)
  refine x_astore_n h dX9_row_8 rfl rfl ?_
  dsimp only [List.set]
  refine x_in0 h dX9_row_9 ?_
  refine x_istore_n h dX9_row_10 rfl rfl ?_
  dsimp only [List.set]
  refine x_iload_n h dX9_row_11 rfl ?_
  refine x_aload_n h dX9_row_12 rfl ?_
  refine x_alen h gk (by decide) dX9_row_13 ?_
  refine x_icmp_ge h 33 dX9_row_14 (by decide) (fun c14 => absurd c14 (by decide)) (fun c14 => ?_)
  refine x_aload_n h dX9_row_17 rfl ?_
  refine x_iload_n h dX9_row_18 rfl ?_
  refine x_new h (ci := 9) (by decide) k_X9_10 mk_X9 ini_X9 ⟨Nat.le_of_ble_eq_true rfl, Nat.le_of_ble_eq_true rfl⟩ dX9_row_19 ?_
  refine x_dup h rfl dX9_row_22 ?_
  refine x_cI h ci_X9_init im_X9_init rfl rfl l_X9_21 ⟨Nat.le_of_ble_eq_true rfl, Nat.le_of_ble_eq_true rfl⟩ rfl rfl ⟨Nat.le_of_ble_eq_true rfl, Nat.le_of_ble_eq_true rfl⟩ (c_X9_init (b := z + 1) (if_pos rfl)) rfl rfl rfl rfl dX9_row_23 (fun G20 z2 M20 hp => ?_)
  obtain ⟨hz, hx, hw⟩ := hp
  obtain rfl := hz
  refine x_z (z' := z + 3) rfl ?_
  have hn := exN_new hx (by omega) (fun _ => by omega)
  have gk := kin_x gk (sam_N hn (by omega))
  have hN := exN_trans hN hn (by omega) (by omega)
  refine x_aast (ci := 9) h 0 gk (by decide) (by decide) ((hx.1 (z + 1) (by omega)).trans (if_pos rfl)) (ix.ni (j := 0) (by decide) (by decide)) dX9_row_26 ?_
  generalize hm : sR M20 z 0 (.ref (z + 1)) = N0
  have hN := exN_R hN 0 (.ref (z + 1)) (Nat.le_refl z)
  rw [hm] at hN
  have hs : ∀ a, a ≠ z → sam G20 G20 M20.2.2 N0.2.2 a := fun a q => by rw [← hm]; exact sam_R _ _ _ _ q
  have s0 := isS_x hw (fun a _ _ => hs a (by omega))
  have r0 : N0.2.2 z 0 = .ref (z + 1) := by rw [← hm]; exact up2_self _ _ _ _
  refine x_incn h dX9_row_27 rfl rfl rfl ?_
  dsimp only [List.set]
  refine x_goto h 11 dX9_row_30 (by decide) ?_
  refine x_iload_n h dX9_row_11 rfl ?_
  refine x_aload_n h dX9_row_12 rfl ?_
  refine x_alen h gk (by decide) dX9_row_13 ?_
  refine x_icmp_ge h 33 dX9_row_14 (by decide) (fun c14 => absurd c14 (by decide)) (fun c14 => ?_)
  refine x_aload_n h dX9_row_17 rfl ?_
  refine x_iload_n h dX9_row_18 rfl ?_
  refine x_new h (ci := 9) (by decide) k_X9_10 mk_X9 ini_X9 ⟨Nat.le_of_ble_eq_true rfl, Nat.le_of_ble_eq_true rfl⟩ dX9_row_19 ?_
  refine x_dup h rfl dX9_row_22 ?_
  refine x_cI h ci_X9_init im_X9_init rfl rfl l_X9_21 ⟨Nat.le_of_ble_eq_true rfl, Nat.le_of_ble_eq_true rfl⟩ rfl rfl ⟨Nat.le_of_ble_eq_true rfl, Nat.le_of_ble_eq_true rfl⟩ (c_X9_init (b := z + 3) (if_pos rfl)) rfl rfl rfl rfl dX9_row_23 (fun G21 z2 M21 hp => ?_)
  obtain ⟨hz, hx, hw⟩ := hp
  obtain rfl := hz
  refine x_z (z' := z + 5) rfl ?_
  have hn := exN_new hx (by omega) (fun _ => by omega)
  have gk := kin_x gk (sam_N hn (by omega))
  have s0 := isS_x s0 (fun a _ _ => sam_N hn (by omega))
  have r0 := ((sam_N hn (a := z) (by omega)).2 0).trans r0
  have hN := exN_trans hN hn (by omega) (by omega)
  refine x_aast (ci := 9) h 1 gk (by decide) (by decide) ((hx.1 (z + 3) (by omega)).trans (if_pos rfl)) (ix.ni (j := 1) (by decide) (by decide)) dX9_row_26 ?_
  generalize hm : sR M21 z 1 (.ref (z + 3)) = N1
  have hN := exN_R hN 1 (.ref (z + 3)) (Nat.le_refl z)
  rw [hm] at hN
  have hs : ∀ a, a ≠ z → sam G21 G21 M21.2.2 N1.2.2 a := fun a q => by rw [← hm]; exact sam_R _ _ _ _ q
  have s0 := isS_x s0 (fun a _ _ => hs a (by omega))
  have r0 : N1.2.2 z 0 = _ := (show _ = _ from by rw [← hm]; exact up2_ne _ _ (by omega)).trans r0
  have s1 := isS_x hw (fun a _ _ => hs a (by omega))
  have r1 : N1.2.2 z 1 = .ref (z + 3) := by rw [← hm]; exact up2_self _ _ _ _
  refine x_incn h dX9_row_27 rfl rfl rfl ?_
  dsimp only [List.set]
  refine x_goto h 11 dX9_row_30 (by decide) ?_
  refine x_iload_n h dX9_row_11 rfl ?_
  refine x_aload_n h dX9_row_12 rfl ?_
  refine x_alen h gk (by decide) dX9_row_13 ?_
  refine x_icmp_ge h 33 dX9_row_14 (by decide) (fun c14 => absurd c14 (by decide)) (fun c14 => ?_)
  refine x_aload_n h dX9_row_17 rfl ?_
  refine x_iload_n h dX9_row_18 rfl ?_
  refine x_new h (ci := 9) (by decide) k_X9_10 mk_X9 ini_X9 ⟨Nat.le_of_ble_eq_true rfl, Nat.le_of_ble_eq_true rfl⟩ dX9_row_19 ?_
  refine x_dup h rfl dX9_row_22 ?_
  refine x_cI h ci_X9_init im_X9_init rfl rfl l_X9_21 ⟨Nat.le_of_ble_eq_true rfl, Nat.le_of_ble_eq_true rfl⟩ rfl rfl ⟨Nat.le_of_ble_eq_true rfl, Nat.le_of_ble_eq_true rfl⟩ (c_X9_init (b := z + 5) (if_pos rfl)) rfl rfl rfl rfl dX9_row_23 (fun G22 z2 M22 hp => ?_)
  obtain ⟨hz, hx, hw⟩ := hp
  obtain rfl := hz
  refine x_z (z' := z + 7) rfl ?_
  have hn := exN_new hx (by omega) (fun _ => by omega)
  have gk := kin_x gk (sam_N hn (by omega))
  have s0 := isS_x s0 (fun a _ _ => sam_N hn (by omega))
  have r0 := ((sam_N hn (a := z) (by omega)).2 0).trans r0
  have s1 := isS_x s1 (fun a _ _ => sam_N hn (by omega))
  have r1 := ((sam_N hn (a := z) (by omega)).2 1).trans r1
  have hN := exN_trans hN hn (by omega) (by omega)
  refine x_aast (ci := 9) h 2 gk (by decide) (by decide) ((hx.1 (z + 5) (by omega)).trans (if_pos rfl)) (ix.ni (j := 2) (by decide) (by decide)) dX9_row_26 ?_
  generalize hm : sR M22 z 2 (.ref (z + 5)) = N2
  have hN := exN_R hN 2 (.ref (z + 5)) (Nat.le_refl z)
  rw [hm] at hN
  have hs : ∀ a, a ≠ z → sam G22 G22 M22.2.2 N2.2.2 a := fun a q => by rw [← hm]; exact sam_R _ _ _ _ q
  have s0 := isS_x s0 (fun a _ _ => hs a (by omega))
  have r0 : N2.2.2 z 0 = _ := (show _ = _ from by rw [← hm]; exact up2_ne _ _ (by omega)).trans r0
  have s1 := isS_x s1 (fun a _ _ => hs a (by omega))
  have r1 : N2.2.2 z 1 = _ := (show _ = _ from by rw [← hm]; exact up2_ne _ _ (by omega)).trans r1
  have s2 := isS_x hw (fun a _ _ => hs a (by omega))
  have r2 : N2.2.2 z 2 = .ref (z + 5) := by rw [← hm]; exact up2_self _ _ _ _
  refine x_incn h dX9_row_27 rfl rfl rfl ?_
  dsimp only [List.set]
  refine x_goto h 11 dX9_row_30 (by decide) ?_
  refine x_iload_n h dX9_row_11 rfl ?_
  refine x_aload_n h dX9_row_12 rfl ?_
  refine x_alen h gk (by decide) dX9_row_13 ?_
  refine x_icmp_ge h 33 dX9_row_14 (by decide) (fun c14 => absurd c14 (by decide)) (fun c14 => ?_)
  refine x_aload_n h dX9_row_17 rfl ?_
  refine x_iload_n h dX9_row_18 rfl ?_
  refine x_new h (ci := 9) (by decide) k_X9_10 mk_X9 ini_X9 ⟨Nat.le_of_ble_eq_true rfl, Nat.le_of_ble_eq_true rfl⟩ dX9_row_19 ?_
  refine x_dup h rfl dX9_row_22 ?_
  refine x_cI h ci_X9_init im_X9_init rfl rfl l_X9_21 ⟨Nat.le_of_ble_eq_true rfl, Nat.le_of_ble_eq_true rfl⟩ rfl rfl ⟨Nat.le_of_ble_eq_true rfl, Nat.le_of_ble_eq_true rfl⟩ (c_X9_init (b := z + 7) (if_pos rfl)) rfl rfl rfl rfl dX9_row_23 (fun G23 z2 M23 hp => ?_)
  obtain ⟨hz, hx, hw⟩ := hp
  obtain rfl := hz
  refine x_z (z' := z + 9) rfl ?_
  have hn := exN_new hx (by omega) (fun _ => by omega)
  have gk := kin_x gk (sam_N hn (by omega))
  have s0 := isS_x s0 (fun a _ _ => sam_N hn (by omega))
  have r0 := ((sam_N hn (a := z) (by omega)).2 0).trans r0
  have s1 := isS_x s1 (fun a _ _ => sam_N hn (by omega))
  have r1 := ((sam_N hn (a := z) (by omega)).2 1).trans r1
  have s2 := isS_x s2 (fun a _ _ => sam_N hn (by omega))
  have r2 := ((sam_N hn (a := z) (by omega)).2 2).trans r2
  have hN := exN_trans hN hn (by omega) (by omega)
  refine x_aast (ci := 9) h 3 gk (by decide) (by decide) ((hx.1 (z + 7) (by omega)).trans (if_pos rfl)) (ix.ni (j := 3) (by decide) (by decide)) dX9_row_26 ?_
  generalize hm : sR M23 z 3 (.ref (z + 7)) = N3
  have hN := exN_R hN 3 (.ref (z + 7)) (Nat.le_refl z)
  rw [hm] at hN
  have hs : ∀ a, a ≠ z → sam G23 G23 M23.2.2 N3.2.2 a := fun a q => by rw [← hm]; exact sam_R _ _ _ _ q
  have s0 := isS_x s0 (fun a _ _ => hs a (by omega))
  have r0 : N3.2.2 z 0 = _ := (show _ = _ from by rw [← hm]; exact up2_ne _ _ (by omega)).trans r0
  have s1 := isS_x s1 (fun a _ _ => hs a (by omega))
  have r1 : N3.2.2 z 1 = _ := (show _ = _ from by rw [← hm]; exact up2_ne _ _ (by omega)).trans r1
  have s2 := isS_x s2 (fun a _ _ => hs a (by omega))
  have r2 : N3.2.2 z 2 = _ := (show _ = _ from by rw [← hm]; exact up2_ne _ _ (by omega)).trans r2
  have s3 := isS_x hw (fun a _ _ => hs a (by omega))
  have r3 : N3.2.2 z 3 = .ref (z + 7) := by rw [← hm]; exact up2_self _ _ _ _
  refine x_incn h dX9_row_27 rfl rfl rfl ?_
  dsimp only [List.set]
  refine x_goto h 11 dX9_row_30 (by decide) ?_
  refine x_iload_n h dX9_row_11 rfl ?_
  refine x_aload_n h dX9_row_12 rfl ?_
  refine x_alen h gk (by decide) dX9_row_13 ?_
  refine x_icmp_ge h 33 dX9_row_14 (by decide) (fun c14 => ?_) (fun c14 => absurd (by decide) c14)
  refine x_aload_n h dX9_row_33 rfl ?_
  refine x_aret h hQ rfl rfl dX9_row_34 ⟨_, rfl, rfl, rfl, hN, gk, fun i hi => ?_⟩
  rcases (show i = 0 ∨ i = 1 ∨ i = 2 ∨ i = 3 by omega) with rfl | rfl | rfl | rfl
  · exact ⟨r0, DG_S s0⟩
  · exact ⟨r1, DG_S s1⟩
  · exact ⟨r2, DG_S s2⟩
  · exact ⟨r3, DG_S s3⟩
theorem c_X3_init {Γ : GT} {G : GG} {M : MM} {b : Nat} (gb : G b = some (.inl 3)) : CallsG Γ q_X3_init [.ref b] G (b + 1) M (rC (fun G' z' M' => z' = b + 3 ∧ exB b (b + 3) G G' M M' ∧ condW G' M'.2.2 b)) 2 7 := by
  refine CallsG.intro (by decide +kernel) (Nat.le_of_ble_eq_true rfl) (fun E h hQ => ?_)
  have hB := exB_0 b G M
  refine x_loc (L' := [some (.ref b)]) rfl ?_
  refine x_aload_n h dX3_init_0 rfl ?_
  refine x_obj h l_X3_3 oi_in oi_cd rfl (Nat.le_of_ble_eq_true rfl) (Nat.le_of_ble_eq_true rfl) rfl dX3_init_1 ?_
  refine x_aload_n h dX3_init_4 rfl ?_
  refine x_new h (ci := 9) (by decide) k_X3_9 mk_X9 ini_X9 ⟨Nat.le_of_ble_eq_true rfl, Nat.le_of_ble_eq_true rfl⟩ dX3_init_5 ?_
  refine x_dup h rfl dX3_init_8 ?_
  refine x_cI h ci_X9_init im_X9_init rfl rfl l_X3_11 ⟨Nat.le_of_ble_eq_true rfl, Nat.le_of_ble_eq_true rfl⟩ rfl rfl ⟨Nat.le_of_ble_eq_true rfl, Nat.le_of_ble_eq_true rfl⟩ (c_X9_init (b := b + 1) (if_pos rfl)) rfl rfl rfl rfl dX3_init_9 (fun G9 z9 M9 hp9 => ?_)
  obtain ⟨hz, hx, hw⟩ := hp9
  obtain rfl := hz
  refine x_z (z' := b + 3) rfl ?_
  have hn := exN_new hx (by omega) (fun _ => by omega)
  have hs : ∀ a, a < b + 1 → a ≠ b → sam G G9 M.2.2 M9.2.2 a := fun a h1 _ => sam_N hn h1
  replace gb := kin_x gb (sam_N hn (by omega))
  replace hB := exB_N hB hn (by omega) (by omega)
  clear hs
  have f1 := hw
  clear hn hx
  refine x_putFR h gb (by decide) (by decide) ff_X3_12 rfl rfl rfl rfl dX3_init_12 ?_
  replace f1 := isS_x (G' := G9) (R' := (sR M9 b 3 (.ref (b + 1))).2.2) f1 (fun a _ _ => sam_R G9 M9 3 (.ref (b + 1)) (by omega))
  have hr3 : (sR M9 b 3 (.ref (b + 1))).2.2 b 3 = .ref (b + 1) := up2_self _ _ _ _
  replace hB := exB_R hB 3 (.ref (b + 1))
  exact x_vret h hQ rfl dX3_init_15 ⟨rfl, rfl, hB, ⟨gb, hr3, f1⟩⟩
theorem c_X6_init {Γ : GT} {G : GG} {M : MM} {b : Nat} (gb : G b = some (.inl 6)) : CallsG Γ q_X6_init [.ref b] G (b + 1) M (rC (fun G' z' M' => z' = b + 2 ∧ exB b (b + 2) G G' M M' ∧ rdF G' M'.2.2 b)) 1 6 := by
  refine CallsG.intro (by decide +kernel) (Nat.le_of_ble_eq_true rfl) (fun E h hQ => ?_)
  have hB := exB_0 b G M
  refine x_loc (L' := [some (.ref b)]) rfl ?_
  refine x_aload_n h dX6_init_0 rfl ?_
  refine x_obj h l_X6_3 oi_in oi_cd rfl (Nat.le_of_ble_eq_true rfl) (Nat.le_of_ble_eq_true rfl) rfl dX6_init_1 ?_
  refine x_aload_n h dX6_init_4 rfl ?_
  refine x_bipush h (nI 6) (by decide) dX6_init_5 ?_
  refine x_arr (at' := .int) (ty := .int) h 6 rfl ac_int (by decide) (by decide) (by decide) rfl ⟨Nat.le_of_ble_eq_true rfl, Nat.le_of_ble_eq_true rfl⟩ dX6_init_7 (fun G7 M7 hn gk => ?_)
  refine x_z (z' := b + 2) rfl ?_
  have hs : ∀ a, a < b + 1 → a ≠ b → sam G G7 M.2.2 M7.2.2 a := fun a h1 _ => sam_N hn h1
  replace gb := kin_x gb (sam_N hn (by omega))
  replace hB := exB_N hB hn (by omega) (by omega)
  clear hs
  have k1 : G7 (b + 1) = some (.inr (.int, 6)) := gk
  clear hn gk
  refine x_putFR h gb (by decide) (by decide) ff_X6_9 rfl rfl rfl rfl dX6_init_9 ?_
  have hr4 : (sR M7 b 4 (.ref (b + 1))).2.2 b 4 = .ref (b + 1) := up2_self _ _ _ _
  replace hB := exB_R hB 4 (.ref (b + 1))
  exact x_vret h hQ rfl dX6_init_12 ⟨rfl, rfl, hB, ⟨gb, hr4, k1⟩⟩
theorem c_X7_init {Γ : GT} {G : GG} {M : MM} {b : Nat} (gb : G b = some (.inl 7)) : CallsG Γ q_X7_init [.ref b] G (b + 1) M (rC (fun G' z' M' => z' = b + 2 ∧ exB b (b + 2) G G' M M' ∧ ruW G' M'.2.2 b)) 1 3 := by
  refine CallsG.intro (by decide +kernel) (Nat.le_of_ble_eq_true rfl) (fun E h hQ => ?_)
  have hB := exB_0 b G M
  refine x_loc (L' := [some (.ref b)]) rfl ?_
  refine x_aload_n h dX7_init_0 rfl ?_
  refine x_obj h l_X7_5 oi_in oi_cd rfl (Nat.le_of_ble_eq_true rfl) (Nat.le_of_ble_eq_true rfl) rfl dX7_init_1 ?_
  refine x_aload_n h dX7_init_4 rfl ?_
  refine x_in3 h dX7_init_5 ?_
  refine x_arr (at' := .int) (ty := .int) h 3 rfl ac_int (by decide) (by decide) (by decide) rfl ⟨Nat.le_of_ble_eq_true rfl, Nat.le_of_ble_eq_true rfl⟩ dX7_init_6 (fun G6 M6 hn gk => ?_)
  refine x_z (z' := b + 2) rfl ?_
  have hs : ∀ a, a < b + 1 → a ≠ b → sam G G6 M.2.2 M6.2.2 a := fun a h1 _ => sam_N hn h1
  replace gb := kin_x gb (sam_N hn (by omega))
  replace hB := exB_N hB hn (by omega) (by omega)
  clear hs
  have k1 : G6 (b + 1) = some (.inr (.int, 3)) := gk
  clear hn gk
  refine x_putFR h gb (by decide) (by decide) ff_X7_11 rfl rfl rfl rfl dX7_init_8 ?_
  have hr1 : (sR M6 b 1 (.ref (b + 1))).2.2 b 1 = .ref (b + 1) := up2_self _ _ _ _
  replace hB := exB_R hB 1 (.ref (b + 1))
  exact x_vret h hQ rfl dX7_init_11 ⟨rfl, rfl, hB, ⟨gb, hr1, k1⟩⟩
theorem c_X4_init {Γ : GT} {G : GG} {M : MM} {b : Nat} (gb : G b = some (.inl 4)) : CallsG Γ q_X4_init [.ref b] G (b + 1) M (rC (fun G' z' M' => z' = b + 40 ∧ exB b (b + 40) G G' M M' ∧ flowW G' M'.2.2 (DG G') b)) 39 135 := by
  refine CallsG.intro (by decide +kernel) (Nat.le_of_ble_eq_true rfl) (fun E h hQ => ?_)
  have hB := exB_0 b G M
  refine x_loc (L' := [some (.ref b)]) rfl ?_
  refine x_aload_n h dX4_init_0 rfl ?_
  refine x_obj h l_X4_3 oi_in oi_cd rfl (Nat.le_of_ble_eq_true rfl) (Nat.le_of_ble_eq_true rfl) rfl dX4_init_1 ?_
  refine x_aload_n h dX4_init_4 rfl ?_
  refine x_new h (ci := 9) (by decide) k_X4_9 mk_X9 ini_X9 ⟨Nat.le_of_ble_eq_true rfl, Nat.le_of_ble_eq_true rfl⟩ dX4_init_5 ?_
  refine x_dup h rfl dX4_init_8 ?_
  refine x_cI h ci_X9_init im_X9_init rfl rfl l_X4_11 ⟨Nat.le_of_ble_eq_true rfl, Nat.le_of_ble_eq_true rfl⟩ rfl rfl ⟨Nat.le_of_ble_eq_true rfl, Nat.le_of_ble_eq_true rfl⟩ (c_X9_init (b := b + 1) (if_pos rfl)) rfl rfl rfl rfl dX4_init_9 (fun G9 z9 M9 hp9 => ?_)
  obtain ⟨hz, hx, hw⟩ := hp9
  obtain rfl := hz
  refine x_z (z' := b + 3) rfl ?_
  have hn := exN_new hx (by omega) (fun _ => by omega)
  have hs : ∀ a, a < b + 1 → a ≠ b → sam G G9 M.2.2 M9.2.2 a := fun a h1 _ => sam_N hn h1
  replace gb := kin_x gb (sam_N hn (by omega))
  replace hB := exB_N hB hn (by omega) (by omega)
  clear hs
  have f1 := hw
  clear hn hx
  refine x_putFR h gb (by decide) (by decide) ff_X4_12 rfl rfl rfl rfl dX4_init_12 ?_
  refine x_aload_n h dX4_init_15 rfl ?_
  refine x_in3 h dX4_init_16 ?_
  refine x_cSA h ci_X9_row3 sm_X9_row3 l_X4_18_3 ⟨Nat.le_of_ble_eq_true rfl, Nat.le_of_ble_eq_true rfl⟩ rfl rfl ⟨Nat.le_of_ble_eq_true rfl, Nat.le_of_ble_eq_true rfl⟩ c_X9_row3 rfl rfl rfl rfl dX4_init_17 (fun a17 G17 z17 M17 hp17 => ?_)
  obtain ⟨ha, hz, hn, hw⟩ := hp17
  obtain rfl := ha
  obtain rfl := hz
  refine x_z (z' := b + 10) rfl ?_
  have hs : ∀ a, a < b + 3 → a ≠ b → sam G9 G17 M9.2.2 M17.2.2 a := fun a h1 h2 => sam_t (sam_R G9 M9 0 (.ref (b + 1)) h2) (sam_N hn h1)
  replace gb := kin_x gb (sam_N hn (by omega))
  replace f1 := isS_x f1 (fun a _ _ => hs a (by omega) (by omega))
  have hr0 := ((sam_N hn (a := b) (by omega)).2 0).trans (up2_self M9.2.2 b 0 (.ref (b + 1)))
  replace hB := exB_N (exB_R hB 0 (.ref (b + 1))) hn (by omega) (by omega)
  clear hs
  have f3 := hw
  clear hn hw
  refine x_putFR h gb (by decide) (by decide) ff_X4_22 rfl rfl rfl rfl dX4_init_20 ?_
  refine x_aload_n h dX4_init_23 rfl ?_
  refine x_in3 h dX4_init_24 ?_
  refine x_cSA h ci_X9_row3 sm_X9_row3 l_X4_18_3 ⟨Nat.le_of_ble_eq_true rfl, Nat.le_of_ble_eq_true rfl⟩ rfl rfl ⟨Nat.le_of_ble_eq_true rfl, Nat.le_of_ble_eq_true rfl⟩ c_X9_row3 rfl rfl rfl rfl dX4_init_25 (fun a25 G25 z25 M25 hp25 => ?_)
  obtain ⟨ha, hz, hn, hw⟩ := hp25
  obtain rfl := ha
  obtain rfl := hz
  refine x_z (z' := b + 17) rfl ?_
  have hs : ∀ a, a < b + 10 → a ≠ b → sam G17 G25 M17.2.2 M25.2.2 a := fun a h1 h2 => sam_t (sam_R G17 M17 1 (.ref (b + 3)) h2) (sam_N hn h1)
  replace gb := kin_x gb (sam_N hn (by omega))
  replace f1 := isS_x f1 (fun a _ _ => hs a (by omega) (by omega))
  replace hr0 := ((sam_N hn (a := b) (by omega)).2 0).trans ((up2_ne _ _ (by omega)).trans hr0)
  replace f3 := arrS_x f3 (fun a _ _ => hs a (by omega) (by omega))
  have hr1 := ((sam_N hn (a := b) (by omega)).2 1).trans (up2_self M17.2.2 b 1 (.ref (b + 3)))
  replace hB := exB_N (exB_R hB 1 (.ref (b + 3))) hn (by omega) (by omega)
  clear hs
  have f10 := hw
  clear hn hw
  refine x_putFR h gb (by decide) (by decide) ff_X4_26 rfl rfl rfl rfl dX4_init_28 ?_
  refine x_aload_n h dX4_init_31 rfl ?_
  refine x_in4 h dX4_init_32 ?_
  refine x_cSA h ci_X9_row4 sm_X9_row4 l_X4_18_4 ⟨Nat.le_of_ble_eq_true rfl, Nat.le_of_ble_eq_true rfl⟩ rfl rfl ⟨Nat.le_of_ble_eq_true rfl, Nat.le_of_ble_eq_true rfl⟩ c_X9_row4 rfl rfl rfl rfl dX4_init_33 (fun a33 G33 z33 M33 hp33 => ?_)
  obtain ⟨ha, hz, hn, hw⟩ := hp33
  obtain rfl := ha
  obtain rfl := hz
  refine x_z (z' := b + 26) rfl ?_
  have hs : ∀ a, a < b + 17 → a ≠ b → sam G25 G33 M25.2.2 M33.2.2 a := fun a h1 h2 => sam_t (sam_R G25 M25 2 (.ref (b + 10)) h2) (sam_N hn h1)
  replace gb := kin_x gb (sam_N hn (by omega))
  replace f1 := isS_x f1 (fun a _ _ => hs a (by omega) (by omega))
  replace hr0 := ((sam_N hn (a := b) (by omega)).2 0).trans ((up2_ne _ _ (by omega)).trans hr0)
  replace f3 := arrS_x f3 (fun a _ _ => hs a (by omega) (by omega))
  replace hr1 := ((sam_N hn (a := b) (by omega)).2 1).trans ((up2_ne _ _ (by omega)).trans hr1)
  replace f10 := arrS_x f10 (fun a _ _ => hs a (by omega) (by omega))
  have hr2 := ((sam_N hn (a := b) (by omega)).2 2).trans (up2_self M25.2.2 b 2 (.ref (b + 10)))
  replace hB := exB_N (exB_R hB 2 (.ref (b + 10))) hn (by omega) (by omega)
  clear hs
  have f17 := hw
  clear hn hw
  refine x_putFR h gb (by decide) (by decide) ff_X4_29 rfl rfl rfl rfl dX4_init_36 ?_
  refine x_aload_n h dX4_init_39 rfl ?_
  refine x_in3 h dX4_init_40 ?_
  refine x_cSA h ci_X9_row3 sm_X9_row3 l_X4_18_3 ⟨Nat.le_of_ble_eq_true rfl, Nat.le_of_ble_eq_true rfl⟩ rfl rfl ⟨Nat.le_of_ble_eq_true rfl, Nat.le_of_ble_eq_true rfl⟩ c_X9_row3 rfl rfl rfl rfl dX4_init_41 (fun a41 G41 z41 M41 hp41 => ?_)
  obtain ⟨ha, hz, hn, hw⟩ := hp41
  obtain rfl := ha
  obtain rfl := hz
  refine x_z (z' := b + 33) rfl ?_
  have hs : ∀ a, a < b + 26 → a ≠ b → sam G33 G41 M33.2.2 M41.2.2 a := fun a h1 h2 => sam_t (sam_R G33 M33 3 (.ref (b + 17)) h2) (sam_N hn h1)
  replace gb := kin_x gb (sam_N hn (by omega))
  replace f1 := isS_x f1 (fun a _ _ => hs a (by omega) (by omega))
  replace hr0 := ((sam_N hn (a := b) (by omega)).2 0).trans ((up2_ne _ _ (by omega)).trans hr0)
  replace f3 := arrS_x f3 (fun a _ _ => hs a (by omega) (by omega))
  replace hr1 := ((sam_N hn (a := b) (by omega)).2 1).trans ((up2_ne _ _ (by omega)).trans hr1)
  replace f10 := arrS_x f10 (fun a _ _ => hs a (by omega) (by omega))
  replace hr2 := ((sam_N hn (a := b) (by omega)).2 2).trans ((up2_ne _ _ (by omega)).trans hr2)
  replace f17 := arrS_x f17 (fun a _ _ => hs a (by omega) (by omega))
  have hr3 := ((sam_N hn (a := b) (by omega)).2 3).trans (up2_self M33.2.2 b 3 (.ref (b + 17)))
  replace hB := exB_N (exB_R hB 3 (.ref (b + 17))) hn (by omega) (by omega)
  clear hs
  have f26 := hw
  clear hn hw
  refine x_putFR h gb (by decide) (by decide) ff_X4_32 rfl rfl rfl rfl dX4_init_44 ?_
  refine x_aload_n h dX4_init_47 rfl ?_
  refine x_in3 h dX4_init_48 ?_
  refine x_cSA h ci_X9_row3 sm_X9_row3 l_X4_18_3 ⟨Nat.le_of_ble_eq_true rfl, Nat.le_of_ble_eq_true rfl⟩ rfl rfl ⟨Nat.le_of_ble_eq_true rfl, Nat.le_of_ble_eq_true rfl⟩ c_X9_row3 rfl rfl rfl rfl dX4_init_49 (fun a49 G49 z49 M49 hp49 => ?_)
  obtain ⟨ha, hz, hn, hw⟩ := hp49
  obtain rfl := ha
  obtain rfl := hz
  refine x_z (z' := b + 40) rfl ?_
  have hs : ∀ a, a < b + 33 → a ≠ b → sam G41 G49 M41.2.2 M49.2.2 a := fun a h1 h2 => sam_t (sam_R G41 M41 4 (.ref (b + 26)) h2) (sam_N hn h1)
  replace gb := kin_x gb (sam_N hn (by omega))
  replace f1 := isS_x f1 (fun a _ _ => hs a (by omega) (by omega))
  replace hr0 := ((sam_N hn (a := b) (by omega)).2 0).trans ((up2_ne _ _ (by omega)).trans hr0)
  replace f3 := arrS_x f3 (fun a _ _ => hs a (by omega) (by omega))
  replace hr1 := ((sam_N hn (a := b) (by omega)).2 1).trans ((up2_ne _ _ (by omega)).trans hr1)
  replace f10 := arrS_x f10 (fun a _ _ => hs a (by omega) (by omega))
  replace hr2 := ((sam_N hn (a := b) (by omega)).2 2).trans ((up2_ne _ _ (by omega)).trans hr2)
  replace f17 := arrS_x f17 (fun a _ _ => hs a (by omega) (by omega))
  replace hr3 := ((sam_N hn (a := b) (by omega)).2 3).trans ((up2_ne _ _ (by omega)).trans hr3)
  replace f26 := arrS_x f26 (fun a _ _ => hs a (by omega) (by omega))
  have hr4 := ((sam_N hn (a := b) (by omega)).2 4).trans (up2_self M41.2.2 b 4 (.ref (b + 26)))
  replace hB := exB_N (exB_R hB 4 (.ref (b + 26))) hn (by omega) (by omega)
  clear hs
  have f33 := hw
  clear hn hw
  refine x_putFR h gb (by decide) (by decide) ff_X4_35 rfl rfl rfl rfl dX4_init_52 ?_
  replace f1 := isS_x (G' := G49) (R' := (sR M49 b 5 (.ref (b + 33))).2.2) f1 (fun a _ _ => sam_R G49 M49 5 (.ref (b + 33)) (by omega))
  replace hr0 : (sR M49 b 5 (.ref (b + 33))).2.2 b 0 = _ := (up2_ne _ _ (by omega)).trans hr0
  replace f3 := arrS_x (G' := G49) (R' := (sR M49 b 5 (.ref (b + 33))).2.2) f3 (fun a _ _ => sam_R G49 M49 5 (.ref (b + 33)) (by omega))
  replace hr1 : (sR M49 b 5 (.ref (b + 33))).2.2 b 1 = _ := (up2_ne _ _ (by omega)).trans hr1
  replace f10 := arrS_x (G' := G49) (R' := (sR M49 b 5 (.ref (b + 33))).2.2) f10 (fun a _ _ => sam_R G49 M49 5 (.ref (b + 33)) (by omega))
  replace hr2 : (sR M49 b 5 (.ref (b + 33))).2.2 b 2 = _ := (up2_ne _ _ (by omega)).trans hr2
  replace f17 := arrS_x (G' := G49) (R' := (sR M49 b 5 (.ref (b + 33))).2.2) f17 (fun a _ _ => sam_R G49 M49 5 (.ref (b + 33)) (by omega))
  replace hr3 : (sR M49 b 5 (.ref (b + 33))).2.2 b 3 = _ := (up2_ne _ _ (by omega)).trans hr3
  replace f26 := arrS_x (G' := G49) (R' := (sR M49 b 5 (.ref (b + 33))).2.2) f26 (fun a _ _ => sam_R G49 M49 5 (.ref (b + 33)) (by omega))
  replace hr4 : (sR M49 b 5 (.ref (b + 33))).2.2 b 4 = _ := (up2_ne _ _ (by omega)).trans hr4
  replace f33 := arrS_x (G' := G49) (R' := (sR M49 b 5 (.ref (b + 33))).2.2) f33 (fun a _ _ => sam_R G49 M49 5 (.ref (b + 33)) (by omega))
  have hr5 : (sR M49 b 5 (.ref (b + 33))).2.2 b 5 = .ref (b + 33) := up2_self _ _ _ _
  replace hB := exB_R hB 5 (.ref (b + 33))
  exact x_vret h hQ rfl dX4_init_55 ⟨rfl, rfl, hB, ⟨gb, hr0, DG_S f1, hr1, f3, hr2, f10, hr3, f17, hr4, f26, hr5, f33⟩⟩
theorem c_X5_init {Γ : GT} {G : GG} {M : MM} {b : Nat} (gb : G b = some (.inl 5)) : CallsG Γ q_X5_init [.ref b] G (b + 1) M (rC (fun G' z' M' => z' = b + 42 ∧ exB b (b + 42) G G' M M' ∧ invW G' M'.2.2 (DG G') b)) 41 144 := by
  refine CallsG.intro (by decide +kernel) (Nat.le_of_ble_eq_true rfl) (fun E h hQ => ?_)
  have hB := exB_0 b G M
  refine x_loc (L' := [some (.ref b)]) rfl ?_
  refine x_aload_n h dX5_init_0 rfl ?_
  refine x_obj h l_X5_3 oi_in oi_cd rfl (Nat.le_of_ble_eq_true rfl) (Nat.le_of_ble_eq_true rfl) rfl dX5_init_1 ?_
  refine x_aload_n h dX5_init_4 rfl ?_
  refine x_new h (ci := 4) (by decide) k_X5_9 mk_X4 ini_X4 ⟨Nat.le_of_ble_eq_true rfl, Nat.le_of_ble_eq_true rfl⟩ dX5_init_5 ?_
  refine x_dup h rfl dX5_init_8 ?_
  refine x_cI h ci_X4_init im_X4_init rfl rfl l_X5_11 ⟨Nat.le_of_ble_eq_true rfl, Nat.le_of_ble_eq_true rfl⟩ rfl rfl ⟨Nat.le_of_ble_eq_true rfl, Nat.le_of_ble_eq_true rfl⟩ (c_X4_init (b := b + 1) (if_pos rfl)) rfl rfl rfl rfl dX5_init_9 (fun G9 z9 M9 hp9 => ?_)
  obtain ⟨hz, hx, hw⟩ := hp9
  obtain rfl := hz
  refine x_z (z' := b + 41) rfl ?_
  have hn := exN_new hx (by omega) (fun e => absurd e (by decide))
  have hs : ∀ a, a < b + 1 → a ≠ b → sam G G9 M.2.2 M9.2.2 a := fun a h1 _ => sam_N hn h1
  replace gb := kin_x gb (sam_N hn (by omega))
  replace hB := exB_N hB hn (by omega) (by omega)
  clear hs
  have f1 := hw
  clear hn hx
  refine x_putFR h gb (by decide) (by decide) ff_X5_12 rfl rfl rfl rfl dX5_init_12 ?_
  refine x_aload_n h dX5_init_15 rfl ?_
  refine x_in3 h dX5_init_16 ?_
  refine x_arr (at' := .int) (ty := .int) h 3 rfl ac_int (by decide) (by decide) (by decide) rfl ⟨Nat.le_of_ble_eq_true rfl, Nat.le_of_ble_eq_true rfl⟩ dX5_init_17 (fun G17 M17 hn gk => ?_)
  refine x_z (z' := b + 42) rfl ?_
  have hs : ∀ a, a < b + 41 → a ≠ b → sam G9 G17 M9.2.2 M17.2.2 a := fun a h1 h2 => sam_t (sam_R G9 M9 0 (.ref (b + 1)) h2) (sam_N hn h1)
  replace gb := kin_x gb (sam_N hn (by omega))
  replace f1 := flowW_x f1 (fun a _ _ => hs a (by omega) (by omega))
  have hr0 := ((sam_N hn (a := b) (by omega)).2 0).trans (up2_self M9.2.2 b 0 (.ref (b + 1)))
  replace hB := exB_N (exB_R hB 0 (.ref (b + 1))) hn (by omega) (by omega)
  clear hs
  have k41 : G17 (b + 41) = some (.inr (.int, 3)) := gk
  clear hn gk
  refine x_putFR h gb (by decide) (by decide) ff_X5_18 rfl rfl rfl rfl dX5_init_19 ?_
  replace f1 := flowW_x (G' := G17) (R' := (sR M17 b 1 (.ref (b + 41))).2.2) f1 (fun a _ _ => sam_R G17 M17 1 (.ref (b + 41)) (by omega))
  replace hr0 : (sR M17 b 1 (.ref (b + 41))).2.2 b 0 = _ := (up2_ne _ _ (by omega)).trans hr0
  have hr1 : (sR M17 b 1 (.ref (b + 41))).2.2 b 1 = .ref (b + 41) := up2_self _ _ _ _
  replace hB := exB_R hB 1 (.ref (b + 41))
  exact x_vret h hQ rfl dX5_init_22 ⟨rfl, rfl, hB, ⟨gb, hr0, f1, hr1, k41⟩⟩
theorem c_X1_init {Γ : GT} {G : GG} {M : MM} {b : Nat} (gb : G b = some (.inl 1)) : CallsG Γ q_X1_init [.ref b] G (b + 1) M (rC (fun G' z' M' => z' = b + 31 ∧ exB b (b + 31) G G' M M' ∧ blameW G' M'.2.2 (DG G') b)) 30 103 := by
  refine CallsG.intro (by decide +kernel) (Nat.le_of_ble_eq_true rfl) (fun E h hQ => ?_)
  have hB := exB_0 b G M
  refine x_loc (L' := [some (.ref b)]) rfl ?_
  refine x_aload_n h dX1_init_0 rfl ?_
  refine x_obj h l_X1_3 oi_in oi_cd rfl (Nat.le_of_ble_eq_true rfl) (Nat.le_of_ble_eq_true rfl) rfl dX1_init_1 ?_
  refine x_aload_n h dX1_init_4 rfl ?_
  refine x_new h (ci := 9) (by decide) k_X1_9 mk_X9 ini_X9 ⟨Nat.le_of_ble_eq_true rfl, Nat.le_of_ble_eq_true rfl⟩ dX1_init_5 ?_
  refine x_dup h rfl dX1_init_8 ?_
  refine x_cI h ci_X9_init im_X9_init rfl rfl l_X1_11 ⟨Nat.le_of_ble_eq_true rfl, Nat.le_of_ble_eq_true rfl⟩ rfl rfl ⟨Nat.le_of_ble_eq_true rfl, Nat.le_of_ble_eq_true rfl⟩ (c_X9_init (b := b + 1) (if_pos rfl)) rfl rfl rfl rfl dX1_init_9 (fun G9 z9 M9 hp9 => ?_)
  obtain ⟨hz, hx, hw⟩ := hp9
  obtain rfl := hz
  refine x_z (z' := b + 3) rfl ?_
  have hn := exN_new hx (by omega) (fun _ => by omega)
  have hs : ∀ a, a < b + 1 → a ≠ b → sam G G9 M.2.2 M9.2.2 a := fun a h1 _ => sam_N hn h1
  replace gb := kin_x gb (sam_N hn (by omega))
  replace hB := exB_N hB hn (by omega) (by omega)
  clear hs
  have f1 := hw
  clear hn hx
  refine x_putFR h gb (by decide) (by decide) ff_X1_12 rfl rfl rfl rfl dX1_init_12 ?_
  refine x_aload_n h dX1_init_15 rfl ?_
  refine x_in3 h dX1_init_16 ?_
  refine x_cSA h ci_X9_row3 sm_X9_row3 l_X1_18_3 ⟨Nat.le_of_ble_eq_true rfl, Nat.le_of_ble_eq_true rfl⟩ rfl rfl ⟨Nat.le_of_ble_eq_true rfl, Nat.le_of_ble_eq_true rfl⟩ c_X9_row3 rfl rfl rfl rfl dX1_init_17 (fun a17 G17 z17 M17 hp17 => ?_)
  obtain ⟨ha, hz, hn, hw⟩ := hp17
  obtain rfl := ha
  obtain rfl := hz
  refine x_z (z' := b + 10) rfl ?_
  have hs : ∀ a, a < b + 3 → a ≠ b → sam G9 G17 M9.2.2 M17.2.2 a := fun a h1 h2 => sam_t (sam_R G9 M9 0 (.ref (b + 1)) h2) (sam_N hn h1)
  replace gb := kin_x gb (sam_N hn (by omega))
  replace f1 := isS_x f1 (fun a _ _ => hs a (by omega) (by omega))
  have hr0 := ((sam_N hn (a := b) (by omega)).2 0).trans (up2_self M9.2.2 b 0 (.ref (b + 1)))
  replace hB := exB_N (exB_R hB 0 (.ref (b + 1))) hn (by omega) (by omega)
  clear hs
  have f3 := hw
  clear hn hw
  refine x_putFR h gb (by decide) (by decide) ff_X1_22 rfl rfl rfl rfl dX1_init_20 ?_
  refine x_aload_n h dX1_init_23 rfl ?_
  refine x_in3 h dX1_init_24 ?_
  refine x_cSA h ci_X9_row3 sm_X9_row3 l_X1_18_3 ⟨Nat.le_of_ble_eq_true rfl, Nat.le_of_ble_eq_true rfl⟩ rfl rfl ⟨Nat.le_of_ble_eq_true rfl, Nat.le_of_ble_eq_true rfl⟩ c_X9_row3 rfl rfl rfl rfl dX1_init_25 (fun a25 G25 z25 M25 hp25 => ?_)
  obtain ⟨ha, hz, hn, hw⟩ := hp25
  obtain rfl := ha
  obtain rfl := hz
  refine x_z (z' := b + 17) rfl ?_
  have hs : ∀ a, a < b + 10 → a ≠ b → sam G17 G25 M17.2.2 M25.2.2 a := fun a h1 h2 => sam_t (sam_R G17 M17 1 (.ref (b + 3)) h2) (sam_N hn h1)
  replace gb := kin_x gb (sam_N hn (by omega))
  replace f1 := isS_x f1 (fun a _ _ => hs a (by omega) (by omega))
  replace hr0 := ((sam_N hn (a := b) (by omega)).2 0).trans ((up2_ne _ _ (by omega)).trans hr0)
  replace f3 := arrS_x f3 (fun a _ _ => hs a (by omega) (by omega))
  have hr1 := ((sam_N hn (a := b) (by omega)).2 1).trans (up2_self M17.2.2 b 1 (.ref (b + 3)))
  replace hB := exB_N (exB_R hB 1 (.ref (b + 3))) hn (by omega) (by omega)
  clear hs
  have f10 := hw
  clear hn hw
  refine x_putFR h gb (by decide) (by decide) ff_X1_26 rfl rfl rfl rfl dX1_init_28 ?_
  refine x_aload_n h dX1_init_31 rfl ?_
  refine x_in3 h dX1_init_32 ?_
  refine x_cSA h ci_X9_row3 sm_X9_row3 l_X1_18_3 ⟨Nat.le_of_ble_eq_true rfl, Nat.le_of_ble_eq_true rfl⟩ rfl rfl ⟨Nat.le_of_ble_eq_true rfl, Nat.le_of_ble_eq_true rfl⟩ c_X9_row3 rfl rfl rfl rfl dX1_init_33 (fun a33 G33 z33 M33 hp33 => ?_)
  obtain ⟨ha, hz, hn, hw⟩ := hp33
  obtain rfl := ha
  obtain rfl := hz
  refine x_z (z' := b + 24) rfl ?_
  have hs : ∀ a, a < b + 17 → a ≠ b → sam G25 G33 M25.2.2 M33.2.2 a := fun a h1 h2 => sam_t (sam_R G25 M25 2 (.ref (b + 10)) h2) (sam_N hn h1)
  replace gb := kin_x gb (sam_N hn (by omega))
  replace f1 := isS_x f1 (fun a _ _ => hs a (by omega) (by omega))
  replace hr0 := ((sam_N hn (a := b) (by omega)).2 0).trans ((up2_ne _ _ (by omega)).trans hr0)
  replace f3 := arrS_x f3 (fun a _ _ => hs a (by omega) (by omega))
  replace hr1 := ((sam_N hn (a := b) (by omega)).2 1).trans ((up2_ne _ _ (by omega)).trans hr1)
  replace f10 := arrS_x f10 (fun a _ _ => hs a (by omega) (by omega))
  have hr2 := ((sam_N hn (a := b) (by omega)).2 2).trans (up2_self M25.2.2 b 2 (.ref (b + 10)))
  replace hB := exB_N (exB_R hB 2 (.ref (b + 10))) hn (by omega) (by omega)
  clear hs
  have f17 := hw
  clear hn hw
  refine x_putFR h gb (by decide) (by decide) ff_X1_29 rfl rfl rfl rfl dX1_init_36 ?_
  refine x_aload_n h dX1_init_39 rfl ?_
  refine x_in3 h dX1_init_40 ?_
  refine x_cSA h ci_X9_row3 sm_X9_row3 l_X1_18_3 ⟨Nat.le_of_ble_eq_true rfl, Nat.le_of_ble_eq_true rfl⟩ rfl rfl ⟨Nat.le_of_ble_eq_true rfl, Nat.le_of_ble_eq_true rfl⟩ c_X9_row3 rfl rfl rfl rfl dX1_init_41 (fun a41 G41 z41 M41 hp41 => ?_)
  obtain ⟨ha, hz, hn, hw⟩ := hp41
  obtain rfl := ha
  obtain rfl := hz
  refine x_z (z' := b + 31) rfl ?_
  have hs : ∀ a, a < b + 24 → a ≠ b → sam G33 G41 M33.2.2 M41.2.2 a := fun a h1 h2 => sam_t (sam_R G33 M33 3 (.ref (b + 17)) h2) (sam_N hn h1)
  replace gb := kin_x gb (sam_N hn (by omega))
  replace f1 := isS_x f1 (fun a _ _ => hs a (by omega) (by omega))
  replace hr0 := ((sam_N hn (a := b) (by omega)).2 0).trans ((up2_ne _ _ (by omega)).trans hr0)
  replace f3 := arrS_x f3 (fun a _ _ => hs a (by omega) (by omega))
  replace hr1 := ((sam_N hn (a := b) (by omega)).2 1).trans ((up2_ne _ _ (by omega)).trans hr1)
  replace f10 := arrS_x f10 (fun a _ _ => hs a (by omega) (by omega))
  replace hr2 := ((sam_N hn (a := b) (by omega)).2 2).trans ((up2_ne _ _ (by omega)).trans hr2)
  replace f17 := arrS_x f17 (fun a _ _ => hs a (by omega) (by omega))
  have hr3 := ((sam_N hn (a := b) (by omega)).2 3).trans (up2_self M33.2.2 b 3 (.ref (b + 17)))
  replace hB := exB_N (exB_R hB 3 (.ref (b + 17))) hn (by omega) (by omega)
  clear hs
  have f24 := hw
  clear hn hw
  refine x_putFR h gb (by decide) (by decide) ff_X1_32 rfl rfl rfl rfl dX1_init_44 ?_
  replace f1 := isS_x (G' := G41) (R' := (sR M41 b 4 (.ref (b + 24))).2.2) f1 (fun a _ _ => sam_R G41 M41 4 (.ref (b + 24)) (by omega))
  replace hr0 : (sR M41 b 4 (.ref (b + 24))).2.2 b 0 = _ := (up2_ne _ _ (by omega)).trans hr0
  replace f3 := arrS_x (G' := G41) (R' := (sR M41 b 4 (.ref (b + 24))).2.2) f3 (fun a _ _ => sam_R G41 M41 4 (.ref (b + 24)) (by omega))
  replace hr1 : (sR M41 b 4 (.ref (b + 24))).2.2 b 1 = _ := (up2_ne _ _ (by omega)).trans hr1
  replace f10 := arrS_x (G' := G41) (R' := (sR M41 b 4 (.ref (b + 24))).2.2) f10 (fun a _ _ => sam_R G41 M41 4 (.ref (b + 24)) (by omega))
  replace hr2 : (sR M41 b 4 (.ref (b + 24))).2.2 b 2 = _ := (up2_ne _ _ (by omega)).trans hr2
  replace f17 := arrS_x (G' := G41) (R' := (sR M41 b 4 (.ref (b + 24))).2.2) f17 (fun a _ _ => sam_R G41 M41 4 (.ref (b + 24)) (by omega))
  replace hr3 : (sR M41 b 4 (.ref (b + 24))).2.2 b 3 = _ := (up2_ne _ _ (by omega)).trans hr3
  replace f24 := arrS_x (G' := G41) (R' := (sR M41 b 4 (.ref (b + 24))).2.2) f24 (fun a _ _ => sam_R G41 M41 4 (.ref (b + 24)) (by omega))
  have hr4 : (sR M41 b 4 (.ref (b + 24))).2.2 b 4 = .ref (b + 24) := up2_self _ _ _ _
  replace hB := exB_R hB 4 (.ref (b + 24))
  exact x_vret h hQ rfl dX1_init_47 ⟨rfl, rfl, hB, ⟨gb, hr0, DG_S f1, hr1, f3, hr2, f10, hr3, f17, hr4, f24⟩⟩
theorem c_X10_init {Γ : GT} {G : GG} {M : MM} {b q z : Nat} (gb : G b = some (.inl 10)) : CallsG Γ q_X10_init [.ref b, .ref q] G z M (rC (fun G' z' M' => G' = G ∧ z' = z ∧ M' = sR M b 4 (.ref q))) 0 0 := by
  refine CallsG.intro (by decide +kernel) (Nat.le_of_ble_eq_true rfl) (fun E h hQ => ?_)
  refine x_loc (L' := [some (.ref b), some (.ref q)]) rfl ?_
  refine x_aload_n h dX10_init_0 rfl ?_
  refine x_obj h l_X10_1 oi_in oi_cd rfl (Nat.le_of_ble_eq_true rfl) (Nat.le_of_ble_eq_true rfl) rfl dX10_init_1 ?_
  refine x_aload_n h dX10_init_4 rfl ?_
  refine x_aload_n h dX10_init_5 rfl ?_
  refine x_putR h gb f_X10_7 rfl rfl dX10_init_6 ?_
  exact x_vret h hQ rfl dX10_init_9 ⟨rfl, rfl, rfl, rfl⟩
theorem c_X8_init {Γ : GT} {G : GG} {M : MM} {b : Nat} (gb : G b = some (.inl 8)) : CallsG Γ q_X8_init [.ref b] G (b + 1) M (rC (fun G' z' M' => z' = b + 2 ∧ exV b (b + 2) G G' M M' ∧ suW G' M'.2.2 b ∧ suIs M' b (fun _ => 6) 0)) 1 3 := by
  refine CallsG.intro (by decide +kernel) (Nat.le_of_ble_eq_true rfl) (fun E h hQ => ?_)
  have hB := exB_0 b G M
  refine x_loc (L' := [some (.ref b)]) rfl ?_
  refine x_aload_n h dX8_init_0 rfl ?_
  refine x_obj h l_X8_3 oi_in oi_cd rfl (Nat.le_of_ble_eq_true rfl) (Nat.le_of_ble_eq_true rfl) rfl dX8_init_1 ?_
  refine x_aload_n h dX8_init_4 rfl ?_
  refine x_in3 h dX8_init_5 ?_
  refine x_arr (at' := .int) (ty := .int) h 3 rfl ac_int (by decide) (by decide) (by decide) rfl ⟨Nat.le_of_ble_eq_true rfl, Nat.le_of_ble_eq_true rfl⟩ dX8_init_6 (fun G6 M6 hn gk => ?_)
  refine x_z (z' := b + 2) rfl ?_
  have hs : ∀ a, a < b + 1 → a ≠ b → sam G G6 M.2.2 M6.2.2 a := fun a h1 _ => sam_N hn h1
  replace gb := kin_x gb (sam_N hn (by omega))
  replace hB := exB_N hB hn (by omega) (by omega)
  clear hs
  have k1 : G6 (b + 1) = some (.inr (.int, 3)) := gk
  clear hn gk
  refine x_putFR h gb (by decide) (by decide) ff_X8_9 rfl rfl rfl rfl dX8_init_8 ?_
  refine x_aload_n h dX8_init_11 rfl ?_
  have hr0 : (sR M6 b 0 (.ref (b + 1))).2.2 b 0 = .ref (b + 1) := up2_self _ _ _ _
  replace hB := exB_R hB 0 (.ref (b + 1))
  refine x_cVv h ci_X8_reset im_X8_reset l_X8_15 ⟨Nat.le_of_ble_eq_true rfl, Nat.le_of_ble_eq_true rfl⟩ ⟨rfl, rfl⟩ ⟨Nat.le_of_ble_eq_true rfl, Nat.le_of_ble_eq_true rfl⟩ (c_X8_reset (M := (sR M6 b 0 (.ref (b + 1)))) ⟨gb, hr0, k1⟩) rfl rfl rfl rfl gb (by decide) rfl dX8_init_12 (fun M12 hp12 => ?_)
  subst hp12
  exact x_vret h hQ rfl dX8_init_15 ⟨rfl, rfl, exV_I (exB_V hB) rfl (fun a ha j => setSu_ne (by omega) (by omega)), ⟨gb, hr0, k1⟩, suIs_set _ _ _ _⟩
theorem c_X0_forget2 {Γ : GT} {G : GG} {M : MM} {n c : Nat} (gn : G n = some (.inl 0)) : Calls Γ q_X0_forget [.ref n, .ref c] G M (rV (fun M' => M' = sI (sI (sR M n 0 (.ref c)) n 1 (-1)) n 11 (nI 0))) := by
  refine Calls.intro (by decide +kernel) (Nat.le_of_ble_eq_true rfl) (fun z E h hQ => ?_)
  refine x_loc (L' := [some (.ref n), some (.ref c)]) rfl ?_
  refine x_aload_n h dX0_forget_0 rfl ?_
  refine x_aload_n h dX0_forget_1 rfl ?_
  refine x_putR h gn f_X0_58 rfl rfl dX0_forget_2 ?_
  refine x_aload_n h dX0_forget_5 rfl ?_
  refine x_icm1 h dX0_forget_6 ?_
  refine x_putI h gn f_X0_62 rfl rfl dX0_forget_7 ?_
  refine x_aload_n h dX0_forget_10 rfl ?_
  refine x_in0 h dX0_forget_11 ?_
  refine x_putI h gn f_X0_66 rfl rfl dX0_forget_12 ?_
  exact x_vret h hQ rfl dX0_forget_15 ⟨rfl, rfl, rfl, rfl⟩
theorem c_X0_init {Γ : GT} {G : GG} {M : MM} {b : Nat} (gb : G b = some (.inl 0)) {c : Nat} : CallsG Γ q_X0_init [.ref b, .ref c] G (b + 1) M (rC (fun G' z' M' => z' = b + 168 ∧ exV b (b + 168) G G' M M' ∧ anW G' M'.2.2 (DG G') b ∧ M'.2.2 b 0 = .ref c ∧ M'.1 b 1 = -1 ∧ M'.1 b 11 = nI 0)) 167 612 := by
  refine CallsG.intro (by decide +kernel) (Nat.le_of_ble_eq_true rfl) (fun E h hQ => ?_)
  have hB := exB_0 b G M
  refine x_loc (L' := [some (.ref b), some (.ref c)]) rfl ?_
  refine x_aload_n h dX0_init_0 rfl ?_
  refine x_obj h l_X0_3 oi_in oi_cd rfl (Nat.le_of_ble_eq_true rfl) (Nat.le_of_ble_eq_true rfl) rfl dX0_init_1 ?_
  refine x_aload_n h dX0_init_4 rfl ?_
  refine x_new h (ci := 9) (by decide) k_X0_9 mk_X9 ini_X9 ⟨Nat.le_of_ble_eq_true rfl, Nat.le_of_ble_eq_true rfl⟩ dX0_init_5 ?_
  refine x_dup h rfl dX0_init_8 ?_
  refine x_cI h ci_X9_init im_X9_init rfl rfl l_X0_11 ⟨Nat.le_of_ble_eq_true rfl, Nat.le_of_ble_eq_true rfl⟩ rfl rfl ⟨Nat.le_of_ble_eq_true rfl, Nat.le_of_ble_eq_true rfl⟩ (c_X9_init (b := b + 1) (if_pos rfl)) rfl rfl rfl rfl dX0_init_9 (fun G9 z9 M9 hp9 => ?_)
  obtain ⟨hz, hx, hw⟩ := hp9
  obtain rfl := hz
  refine x_z (z' := b + 3) rfl ?_
  have hn := exN_new hx (by omega) (fun _ => by omega)
  have hs : ∀ a, a < b + 1 → a ≠ b → sam G G9 M.2.2 M9.2.2 a := fun a h1 _ => sam_N hn h1
  replace gb := kin_x gb (sam_N hn (by omega))
  replace hB := exB_N hB hn (by omega) (by omega)
  clear hs
  have f1 := hw
  clear hn hx
  refine x_putFR h gb (by decide) (by decide) ff_X0_12 rfl rfl rfl rfl dX0_init_12 ?_
  refine x_aload_n h dX0_init_15 rfl ?_
  refine x_new h (ci := 4) (by decide) k_X0_18 mk_X4 ini_X4 ⟨Nat.le_of_ble_eq_true rfl, Nat.le_of_ble_eq_true rfl⟩ dX0_init_16 ?_
  refine x_dup h rfl dX0_init_19 ?_
  refine x_cI h ci_X4_init im_X4_init rfl rfl l_X0_20 ⟨Nat.le_of_ble_eq_true rfl, Nat.le_of_ble_eq_true rfl⟩ rfl rfl ⟨Nat.le_of_ble_eq_true rfl, Nat.le_of_ble_eq_true rfl⟩ (c_X4_init (b := b + 3) (if_pos rfl)) rfl rfl rfl rfl dX0_init_20 (fun G20 z20 M20 hp20 => ?_)
  obtain ⟨hz, hx, hw⟩ := hp20
  obtain rfl := hz
  refine x_z (z' := b + 43) rfl ?_
  have hn := exN_new hx (by omega) (fun e => absurd e (by decide))
  have hs : ∀ a, a < b + 3 → a ≠ b → sam G9 G20 M9.2.2 M20.2.2 a := fun a h1 h2 => sam_t (sam_R G9 M9 2 (.ref (b + 1)) h2) (sam_N hn h1)
  replace gb := kin_x gb (sam_N hn (by omega))
  replace f1 := isS_x f1 (fun a _ _ => hs a (by omega) (by omega))
  have hr2 := ((sam_N hn (a := b) (by omega)).2 2).trans (up2_self M9.2.2 b 2 (.ref (b + 1)))
  replace hB := exB_N (exB_R hB 2 (.ref (b + 1))) hn (by omega) (by omega)
  clear hs
  have f3 := hw
  clear hn hx
  refine x_putFR h gb (by decide) (by decide) ff_X0_21 rfl rfl rfl rfl dX0_init_23 ?_
  refine x_aload_n h dX0_init_26 rfl ?_
  refine x_new h (ci := 5) (by decide) k_X0_25 mk_X5 ini_X5 ⟨Nat.le_of_ble_eq_true rfl, Nat.le_of_ble_eq_true rfl⟩ dX0_init_27 ?_
  refine x_dup h rfl dX0_init_30 ?_
  refine x_cI h ci_X5_init im_X5_init rfl rfl l_X0_27 ⟨Nat.le_of_ble_eq_true rfl, Nat.le_of_ble_eq_true rfl⟩ rfl rfl ⟨Nat.le_of_ble_eq_true rfl, Nat.le_of_ble_eq_true rfl⟩ (c_X5_init (b := b + 43) (if_pos rfl)) rfl rfl rfl rfl dX0_init_31 (fun G31 z31 M31 hp31 => ?_)
  obtain ⟨hz, hx, hw⟩ := hp31
  obtain rfl := hz
  refine x_z (z' := b + 85) rfl ?_
  have hn := exN_new hx (by omega) (fun e => absurd e (by decide))
  have hs : ∀ a, a < b + 43 → a ≠ b → sam G20 G31 M20.2.2 M31.2.2 a := fun a h1 h2 => sam_t (sam_R G20 M20 3 (.ref (b + 3)) h2) (sam_N hn h1)
  replace gb := kin_x gb (sam_N hn (by omega))
  replace f1 := isS_x f1 (fun a _ _ => hs a (by omega) (by omega))
  replace hr2 := ((sam_N hn (a := b) (by omega)).2 2).trans ((up2_ne _ _ (by omega)).trans hr2)
  replace f3 := flowW_x f3 (fun a _ _ => hs a (by omega) (by omega))
  have hr3 := ((sam_N hn (a := b) (by omega)).2 3).trans (up2_self M20.2.2 b 3 (.ref (b + 3)))
  replace hB := exB_N (exB_R hB 3 (.ref (b + 3))) hn (by omega) (by omega)
  clear hs
  have f43 := hw
  clear hn hx
  refine x_putFR h gb (by decide) (by decide) ff_X0_28 rfl rfl rfl rfl dX0_init_34 ?_
  refine x_aload_n h dX0_init_37 rfl ?_
  refine x_new h (ci := 5) (by decide) k_X0_25 mk_X5 ini_X5 ⟨Nat.le_of_ble_eq_true rfl, Nat.le_of_ble_eq_true rfl⟩ dX0_init_38 ?_
  refine x_dup h rfl dX0_init_41 ?_
  refine x_cI h ci_X5_init im_X5_init rfl rfl l_X0_27 ⟨Nat.le_of_ble_eq_true rfl, Nat.le_of_ble_eq_true rfl⟩ rfl rfl ⟨Nat.le_of_ble_eq_true rfl, Nat.le_of_ble_eq_true rfl⟩ (c_X5_init (b := b + 85) (if_pos rfl)) rfl rfl rfl rfl dX0_init_42 (fun G42 z42 M42 hp42 => ?_)
  obtain ⟨hz, hx, hw⟩ := hp42
  obtain rfl := hz
  refine x_z (z' := b + 127) rfl ?_
  have hn := exN_new hx (by omega) (fun e => absurd e (by decide))
  have hs : ∀ a, a < b + 85 → a ≠ b → sam G31 G42 M31.2.2 M42.2.2 a := fun a h1 h2 => sam_t (sam_R G31 M31 5 (.ref (b + 43)) h2) (sam_N hn h1)
  replace gb := kin_x gb (sam_N hn (by omega))
  replace f1 := isS_x f1 (fun a _ _ => hs a (by omega) (by omega))
  replace hr2 := ((sam_N hn (a := b) (by omega)).2 2).trans ((up2_ne _ _ (by omega)).trans hr2)
  replace f3 := flowW_x f3 (fun a _ _ => hs a (by omega) (by omega))
  replace hr3 := ((sam_N hn (a := b) (by omega)).2 3).trans ((up2_ne _ _ (by omega)).trans hr3)
  replace f43 := invW_x f43 (fun a _ _ => hs a (by omega) (by omega))
  have hr5 := ((sam_N hn (a := b) (by omega)).2 5).trans (up2_self M31.2.2 b 5 (.ref (b + 43)))
  replace hB := exB_N (exB_R hB 5 (.ref (b + 43))) hn (by omega) (by omega)
  clear hs
  have f85 := hw
  clear hn hx
  refine x_putFR h gb (by decide) (by decide) ff_X0_32 rfl rfl rfl rfl dX0_init_45 ?_
  refine x_aload_n h dX0_init_48 rfl ?_
  refine x_bipush h (nI 32) (by decide) dX0_init_49 ?_
  refine x_arr (at' := .int) (ty := .int) h 32 rfl ac_int (by decide) (by decide) (by decide) rfl ⟨Nat.le_of_ble_eq_true rfl, Nat.le_of_ble_eq_true rfl⟩ dX0_init_51 (fun G51 M51 hn gk => ?_)
  refine x_z (z' := b + 128) rfl ?_
  have hs : ∀ a, a < b + 127 → a ≠ b → sam G42 G51 M42.2.2 M51.2.2 a := fun a h1 h2 => sam_t (sam_R G42 M42 7 (.ref (b + 85)) h2) (sam_N hn h1)
  replace gb := kin_x gb (sam_N hn (by omega))
  replace f1 := isS_x f1 (fun a _ _ => hs a (by omega) (by omega))
  replace hr2 := ((sam_N hn (a := b) (by omega)).2 2).trans ((up2_ne _ _ (by omega)).trans hr2)
  replace f3 := flowW_x f3 (fun a _ _ => hs a (by omega) (by omega))
  replace hr3 := ((sam_N hn (a := b) (by omega)).2 3).trans ((up2_ne _ _ (by omega)).trans hr3)
  replace f43 := invW_x f43 (fun a _ _ => hs a (by omega) (by omega))
  replace hr5 := ((sam_N hn (a := b) (by omega)).2 5).trans ((up2_ne _ _ (by omega)).trans hr5)
  replace f85 := invW_x f85 (fun a _ _ => hs a (by omega) (by omega))
  have hr7 := ((sam_N hn (a := b) (by omega)).2 7).trans (up2_self M42.2.2 b 7 (.ref (b + 85)))
  replace hB := exB_N (exB_R hB 7 (.ref (b + 85))) hn (by omega) (by omega)
  clear hs
  have k127 : G51 (b + 127) = some (.inr (.int, 32)) := gk
  clear hn gk
  refine x_putFR h gb (by decide) (by decide) ff_X0_35 rfl rfl rfl rfl dX0_init_53 ?_
  refine x_aload_n h dX0_init_56 rfl ?_
  refine x_new h (ci := 1) (by decide) k_X0_39 mk_X1 ini_X1 ⟨Nat.le_of_ble_eq_true rfl, Nat.le_of_ble_eq_true rfl⟩ dX0_init_57 ?_
  refine x_dup h rfl dX0_init_60 ?_
  refine x_cI h ci_X1_init im_X1_init rfl rfl l_X0_41 ⟨Nat.le_of_ble_eq_true rfl, Nat.le_of_ble_eq_true rfl⟩ rfl rfl ⟨Nat.le_of_ble_eq_true rfl, Nat.le_of_ble_eq_true rfl⟩ (c_X1_init (b := b + 128) (if_pos rfl)) rfl rfl rfl rfl dX0_init_61 (fun G61 z61 M61 hp61 => ?_)
  obtain ⟨hz, hx, hw⟩ := hp61
  obtain rfl := hz
  refine x_z (z' := b + 159) rfl ?_
  have hn := exN_new hx (by omega) (fun e => absurd e (by decide))
  have hs : ∀ a, a < b + 128 → a ≠ b → sam G51 G61 M51.2.2 M61.2.2 a := fun a h1 h2 => sam_t (sam_R G51 M51 8 (.ref (b + 127)) h2) (sam_N hn h1)
  replace gb := kin_x gb (sam_N hn (by omega))
  replace f1 := isS_x f1 (fun a _ _ => hs a (by omega) (by omega))
  replace hr2 := ((sam_N hn (a := b) (by omega)).2 2).trans ((up2_ne _ _ (by omega)).trans hr2)
  replace f3 := flowW_x f3 (fun a _ _ => hs a (by omega) (by omega))
  replace hr3 := ((sam_N hn (a := b) (by omega)).2 3).trans ((up2_ne _ _ (by omega)).trans hr3)
  replace f43 := invW_x f43 (fun a _ _ => hs a (by omega) (by omega))
  replace hr5 := ((sam_N hn (a := b) (by omega)).2 5).trans ((up2_ne _ _ (by omega)).trans hr5)
  replace f85 := invW_x f85 (fun a _ _ => hs a (by omega) (by omega))
  replace hr7 := ((sam_N hn (a := b) (by omega)).2 7).trans ((up2_ne _ _ (by omega)).trans hr7)
  replace k127 := kin_x k127 (hs _ (by omega) (by omega))
  have hr8 := ((sam_N hn (a := b) (by omega)).2 8).trans (up2_self M51.2.2 b 8 (.ref (b + 127)))
  replace hB := exB_N (exB_R hB 8 (.ref (b + 127))) hn (by omega) (by omega)
  clear hs
  have f128 := hw
  clear hn hx
  refine x_putFR h gb (by decide) (by decide) ff_X0_42 rfl rfl rfl rfl dX0_init_64 ?_
  refine x_aload_n h dX0_init_67 rfl ?_
  refine x_in4 h dX0_init_68 ?_
  refine x_cSA h ci_X9_row4 sm_X9_row4 l_X0_46_4 ⟨Nat.le_of_ble_eq_true rfl, Nat.le_of_ble_eq_true rfl⟩ rfl rfl ⟨Nat.le_of_ble_eq_true rfl, Nat.le_of_ble_eq_true rfl⟩ c_X9_row4 rfl rfl rfl rfl dX0_init_69 (fun a69 G69 z69 M69 hp69 => ?_)
  obtain ⟨ha, hz, hn, hw⟩ := hp69
  obtain rfl := ha
  obtain rfl := hz
  refine x_z (z' := b + 168) rfl ?_
  have hs : ∀ a, a < b + 159 → a ≠ b → sam G61 G69 M61.2.2 M69.2.2 a := fun a h1 h2 => sam_t (sam_R G61 M61 9 (.ref (b + 128)) h2) (sam_N hn h1)
  replace gb := kin_x gb (sam_N hn (by omega))
  replace f1 := isS_x f1 (fun a _ _ => hs a (by omega) (by omega))
  replace hr2 := ((sam_N hn (a := b) (by omega)).2 2).trans ((up2_ne _ _ (by omega)).trans hr2)
  replace f3 := flowW_x f3 (fun a _ _ => hs a (by omega) (by omega))
  replace hr3 := ((sam_N hn (a := b) (by omega)).2 3).trans ((up2_ne _ _ (by omega)).trans hr3)
  replace f43 := invW_x f43 (fun a _ _ => hs a (by omega) (by omega))
  replace hr5 := ((sam_N hn (a := b) (by omega)).2 5).trans ((up2_ne _ _ (by omega)).trans hr5)
  replace f85 := invW_x f85 (fun a _ _ => hs a (by omega) (by omega))
  replace hr7 := ((sam_N hn (a := b) (by omega)).2 7).trans ((up2_ne _ _ (by omega)).trans hr7)
  replace k127 := kin_x k127 (hs _ (by omega) (by omega))
  replace hr8 := ((sam_N hn (a := b) (by omega)).2 8).trans ((up2_ne _ _ (by omega)).trans hr8)
  replace f128 := blameW_x f128 (fun a _ _ => hs a (by omega) (by omega))
  have hr9 := ((sam_N hn (a := b) (by omega)).2 9).trans (up2_self M61.2.2 b 9 (.ref (b + 128)))
  replace hB := exB_N (exB_R hB 9 (.ref (b + 128))) hn (by omega) (by omega)
  clear hs
  have f159 := hw
  clear hn hw
  refine x_putFR h gb (by decide) (by decide) ff_X0_50 rfl rfl rfl rfl dX0_init_72 ?_
  refine x_aload_n h dX0_init_75 rfl ?_
  refine x_aload_n h dX0_init_76 rfl ?_
  replace f1 := isS_x (G' := G69) (R' := (sR M69 b 10 (.ref (b + 159))).2.2) f1 (fun a _ _ => sam_R G69 M69 10 (.ref (b + 159)) (by omega))
  replace hr2 : (sR M69 b 10 (.ref (b + 159))).2.2 b 2 = _ := (up2_ne _ _ (by omega)).trans hr2
  replace f3 := flowW_x (G' := G69) (R' := (sR M69 b 10 (.ref (b + 159))).2.2) f3 (fun a _ _ => sam_R G69 M69 10 (.ref (b + 159)) (by omega))
  replace hr3 : (sR M69 b 10 (.ref (b + 159))).2.2 b 3 = _ := (up2_ne _ _ (by omega)).trans hr3
  replace f43 := invW_x (G' := G69) (R' := (sR M69 b 10 (.ref (b + 159))).2.2) f43 (fun a _ _ => sam_R G69 M69 10 (.ref (b + 159)) (by omega))
  replace hr5 : (sR M69 b 10 (.ref (b + 159))).2.2 b 5 = _ := (up2_ne _ _ (by omega)).trans hr5
  replace f85 := invW_x (G' := G69) (R' := (sR M69 b 10 (.ref (b + 159))).2.2) f85 (fun a _ _ => sam_R G69 M69 10 (.ref (b + 159)) (by omega))
  replace hr7 : (sR M69 b 10 (.ref (b + 159))).2.2 b 7 = _ := (up2_ne _ _ (by omega)).trans hr7
  replace hr8 : (sR M69 b 10 (.ref (b + 159))).2.2 b 8 = _ := (up2_ne _ _ (by omega)).trans hr8
  replace f128 := blameW_x (G' := G69) (R' := (sR M69 b 10 (.ref (b + 159))).2.2) f128 (fun a _ _ => sam_R G69 M69 10 (.ref (b + 159)) (by omega))
  replace hr9 : (sR M69 b 10 (.ref (b + 159))).2.2 b 9 = _ := (up2_ne _ _ (by omega)).trans hr9
  replace f159 := arrS_x (G' := G69) (R' := (sR M69 b 10 (.ref (b + 159))).2.2) f159 (fun a _ _ => sam_R G69 M69 10 (.ref (b + 159)) (by omega))
  have hr10 : (sR M69 b 10 (.ref (b + 159))).2.2 b 10 = .ref (b + 159) := up2_self _ _ _ _
  replace hB := exB_R hB 10 (.ref (b + 159))
  refine x_cVv h ci_X0_forget im_X0_forget l_X0_54 ⟨Nat.le_of_ble_eq_true rfl, Nat.le_of_ble_eq_true rfl⟩ ⟨rfl, rfl⟩ ⟨Nat.le_of_ble_eq_true rfl, Nat.le_of_ble_eq_true rfl⟩ (c_X0_forget2 (M := (sR M69 b 10 (.ref (b + 159)))) gb) rfl rfl rfl rfl gb (by decide) rfl dX0_init_77 (fun M77 hp77 => ?_)
  subst hp77
  exact x_vret h hQ rfl dX0_init_80 ⟨rfl, rfl, exV_I (exV_R (exB_V hB) 0 (.ref c)) rfl (fun a ha j => (up2_ne _ _ (by omega)).trans (up2_ne _ _ (by omega))), anW_r ⟨gb, hr2, DG_S f1, hr3, f3, hr5, f43, hr7, f85, hr8, k127, hr9, f128, hr10, f159⟩ (fun a j _ _ q => up2_ne _ _ q), up2_self _ _ _ _, (up2_ne _ _ (by omega)).trans (up2_self _ _ _ _), up2_self _ _ _ _⟩
