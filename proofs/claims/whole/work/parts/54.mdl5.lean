/-! ===== the reference: checks; fresh states; what can fail ===== -/
theorem c_X12_nodeOf {Γ : GT} {G : GG} {M : MM} {m : Nat} (hF : mdF G M.2.2 m) {Q : AP} (hP : mpW M m Q) (hO : okM Q) {kd nm k0 : Nat} (hkd : kd = 5 ∨ kd = 6) (hnm : nm < 2 ^ 31) (h0 : k0 < nA Q) (hu : ∀ j, j < nA Q → (kA Q j = kd ∧ mA Q j = nm ↔ j = k0)) : Calls Γ q_X12_nodeOf [.ref m, .int (nI kd), .int (nI nm)] G M (rI (fun y M' => y = nI k0 ∧ M' = M)) := by
  obtain ⟨q60, qn, qk⟩ := hP
  refine Calls.intro (by decide +kernel) (Nat.le_of_ble_eq_true rfl) (fun z E h hQ => ?_)
  refine x_loc (L' := [some (.ref m), some (.int (nI kd)), some (.int (nI nm)), none, none]) rfl ?_
  have loop : ∀ k, k ≤ nA Q → X Γ E 0 0 G z M 6 [some (.ref m), some (.int (nI kd)), some (.int (nI nm)), some (.int (if k0 < k then nI k0 else -9)), some (.int (nI k))] [] := by
    refine upto (nA Q) (fun k hk ih => ?_)
    refine x_iload h dX12_nodeOf_6 rfl ?_
    refine x_aload_n h dX12_nodeOf_8 rfl ?_
    refine x_getIv h hF.1 f_X12_205 rfl qn dX12_nodeOf_9 ?_
    refine x_icmp_ge h 50 dX12_nodeOf_12 (by decide) (fun c12 => ?_) (fun c12 => ?_)
    · obtain rfl : k = nA Q := by
        have := (nI_le_iff (by omega) (by omega)).mp c12
        omega
      refine x_iload_n h dX12_nodeOf_50 rfl ?_
      exact x_iret h hQ rfl dX12_nodeOf_51 ⟨rfl, rfl, _, rfl, by rw [if_pos h0], rfl⟩
    · have hkl : k < nA Q := by
        have := mt (nI_le_iff (a := nA Q) (b := k) (by omega) (by omega)).mpr c12
        omega
      obtain ⟨q1, q2, q3, q4, q5, q6⟩ := qk k hkl
      obtain ⟨o1, o2, o3, o4, o5, o6, o7⟩ := hO k hkl
      refine x_aload_n h dX12_nodeOf_15 rfl ?_
      refine x_getR h hF.1 f_X12_13 rfl (md_kind hF).1 dX12_nodeOf_16 ?_
      refine x_iload h dX12_nodeOf_19 rfl ?_
      refine x_ialdv h k (md_kind hF).2 (ix.ni (j := k) (by omega) (by decide)) q1 dX12_nodeOf_21 ?_
      refine x_iload_n h dX12_nodeOf_22 rfl ?_
      refine x_icmp_ne h 42 dX12_nodeOf_23 (by decide) (fun c23 => ?_) (fun c23 => ?_)
      · have e1 : ¬ kA Q k = kd := fun q => c23 (by rw [q])
        refine x_iload_n h dX12_nodeOf_42 rfl ?_
        refine x_istore_n h dX12_nodeOf_43 rfl rfl ?_
        dsimp only [List.set]
        refine x_incn h dX12_nodeOf_44 rfl rfl rfl ?_
        dsimp only [List.set]
        refine x_goto h 6 dX12_nodeOf_47 (by decide) ?_
        have e : ¬ k = k0 := fun q => (fun q => e1 q.1) ((hu k hkl).mpr q)
        have ihh := ih hkl
        rw [show (if k0 < k + 1 then nI k0 else -9) = (if k0 < k then nI k0 else -9) from by
          by_cases q : k0 < k
          · rw [if_pos q, if_pos (by omega)]
          · rw [if_neg q, if_neg (by omega)]] at ihh
        exact ihh
      · have e1 : kA Q k = kd := nI_small _ (by omega) (by omega) c23
        refine x_aload_n h dX12_nodeOf_26 rfl ?_
        refine x_getR h hF.1 f_X12_25 rfl (md_number hF).1 dX12_nodeOf_27 ?_
        refine x_iload h dX12_nodeOf_30 rfl ?_
        refine x_ialdv h k (md_number hF).2 (ix.ni (j := k) (by omega) (by decide)) q5 dX12_nodeOf_32 ?_
        refine x_iload_n h dX12_nodeOf_33 rfl ?_
        refine x_icmp_ne h 42 dX12_nodeOf_34 (by decide) (fun c34 => ?_) (fun c34 => ?_)
        · have e2 : ¬ mA Q k = nm := fun q => c34 (by rw [q])
          refine x_iload_n h dX12_nodeOf_42 rfl ?_
          refine x_istore_n h dX12_nodeOf_43 rfl rfl ?_
          dsimp only [List.set]
          refine x_incn h dX12_nodeOf_44 rfl rfl rfl ?_
          dsimp only [List.set]
          refine x_goto h 6 dX12_nodeOf_47 (by decide) ?_
          have e : ¬ k = k0 := fun q => (fun q => e2 q.2) ((hu k hkl).mpr q)
          have ihh := ih hkl
          rw [show (if k0 < k + 1 then nI k0 else -9) = (if k0 < k then nI k0 else -9) from by
            by_cases q : k0 < k
            · rw [if_pos q, if_pos (by omega)]
            · rw [if_neg q, if_neg (by omega)]] at ihh
          exact ihh
        · have e2 : mA Q k = nm := nI_small _ (by rcases hkd with q | q <;> omega) hnm c34
          refine x_iload h dX12_nodeOf_37 rfl ?_
          refine x_goto h 43 dX12_nodeOf_39 (by decide) ?_
          refine x_istore_n h dX12_nodeOf_43 rfl rfl ?_
          dsimp only [List.set]
          refine x_incn h dX12_nodeOf_44 rfl rfl rfl ?_
          dsimp only [List.set]
          refine x_goto h 6 dX12_nodeOf_47 (by decide) ?_
          have e := (hu k hkl).mp ⟨e1, e2⟩
          subst e
          have ihh := ih hkl
          rw [if_pos (Nat.lt_succ_self _)] at ihh
          exact ihh
  refine x_bipush h (-9) (by decide) dX12_nodeOf_0 ?_
  refine x_istore_n h dX12_nodeOf_2 rfl rfl ?_
  dsimp only [List.set]
  refine x_in0 h dX12_nodeOf_3 ?_
  refine x_istore h dX12_nodeOf_4 rfl rfl ?_
  dsimp only [List.set]
  have l0 := loop 0 (Nat.zero_le _)
  rw [if_neg (Nat.not_lt_zero _)] at l0
  exact l0
/-- the checks of the reference's program: how many, at which nodes -/
def ckW (M : MM) (m : Nat) (Q : AP) (nk : Nat) (kn : Nat → Nat) : Prop := nk ≤ 4 ∧ M.1 m 9 = nI nk ∧ (∀ c, c < nk → kn c < nA Q ∧ kA Q (kn c) = 5 ∧ mA Q (kn c) = c) ∧ ∀ j, j < nA Q → kA Q j = 5 → mA Q j < nk ∧ j = kn (mA Q j)
theorem ck_u {M : MM} {m : Nat} {Q : AP} {nk : Nat} {kn : Nat → Nat} (h : ckW M m Q nk kn) {c : Nat} (hc : c < nk) : ∀ j, j < nA Q → (kA Q j = 5 ∧ mA Q j = c ↔ j = kn c) := fun j hj => ⟨fun q => by rw [← q.2]; exact (h.2.2.2 j hj q.1).2, fun q => by rw [q]; exact (h.2.2.1 c hc).2⟩
theorem fst_none {S : ST} : fstV S = -9 ↔ anyS S = false := by
  unfold fstV
  constructor
  · intro h
    split at h
    · exact absurd h (by
        have h1 : told (fa_first S 216) < 1000 := by unfold told; omega
        intro q
        have := congrArg Int32.toInt q
        rw [nI_toInt (by omega)] at this
        have e : (-9 : Int32).toInt = -9 := by decide
        rw [e] at this
        omega)
    · rename_i q
      refine anyS_not.mpr (fun s hs => ?_)
      have h1 := fa_first_le S 216
      exact fa_first_no S 216 s (by omega)
  · intro h
    rw [if_neg (first_none (anyS_not.mp h))]
theorem c_X12_failing {Γ : GT} {G : GG} {M : MM} {m : Nat} (hF : mdF G M.2.2 m) {Q : AP} (hP : mpW M m Q) (hO : okM Q) {C F : NS} {nk : Nat} {kn : Nat → Nat} (hK : ckW M m Q nk kn) {c : Nat} (hc : c < nk) : Calls Γ q_X12_failing [.ref m, .int (nI c)] G (wCF M m C F) (rI (fun y M' => y = fstV (fun s => C (kn c) s && !cndT (cA Q (kn c)) s) ∧ M' = wCF M m C F)) := by
  have q60 := hP.1
  obtain ⟨k1, k2, k3⟩ := hK.2.2.1 c hc
  have nk4 := hK.1
  refine Calls.intro (by decide +kernel) (Nat.le_of_ble_eq_true rfl) (fun z E h hQ => ?_)
  refine x_loc (L' := [some (.ref m), some (.int (nI c)), none, none]) rfl ?_
  have loop : ∀ s, s ≤ 216 → (∀ u, u < s → (C (kn c) u && !cndT (cA Q (kn c)) u) = false) → X Γ E 0 0 G z (wCF M m C F) 9 [some (.ref m), some (.int (nI c)), some (.int (nI (kn c))), some (.int (nI s))] [] := by
    refine upto 216 (fun s hs ih hn => ?_)
    refine x_iload_n h dX12_failing_9 rfl ?_
    refine x_sipush h (nI 216) (by decide) dX12_failing_10 ?_
    refine x_icmp_ge h 45 dX12_failing_13 (by decide) (fun c13 => ?_) (fun c13 => ?_)
    · obtain rfl : s = 216 := up_ge (by decide) hs c13
      refine x_bipush h (-9) (by decide) dX12_failing_45 ?_
      exact x_iret h hQ rfl dX12_failing_47 ⟨rfl, rfl, _, rfl, by unfold fstV; rw [if_neg (first_none hn)], rfl⟩
    · have hlt : s < 216 := up_lt (by decide) hs c13
      refine x_aload_n h dX12_failing_16 rfl ?_
      refine x_iload_n h dX12_failing_17 rfl ?_
      refine x_iload_n h dX12_failing_18 rfl ?_
      refine x_cVi h ci_X12_isThere im_X12_isThere l_X12_246 ⟨Nat.le_of_ble_eq_true rfl, Nat.le_of_ble_eq_true rfl⟩ ⟨rfl, rfl⟩ ⟨Nat.zero_le _, Nat.zero_le _⟩ (c_X12_isThere hF (by omega) hlt) rfl rfl rfl rfl hF.1 (by decide) rfl dX12_failing_19 (fun v19 M19 hp19 => ?_)
      obtain ⟨rfl, hM⟩ := hp19
      obtain rfl := hM.symm
      clear hM
      refine x_if_eq h 39 dX12_failing_22 (by decide) (fun c22 => ?_) (fun c22 => ?_)
      · have e1 := b2i_0.mp c22
        refine x_incn h dX12_failing_39 rfl rfl rfl ?_
        dsimp only [List.set]
        refine x_goto h 9 dX12_failing_42 (by decide) ?_
        refine ih hlt (fun u hu => ?_)
        rcases Nat.lt_or_ge u s with q | q
        · exact hn u q
        · obtain rfl : u = s := by omega
          exact by rw [e1]; rfl
      · have e1 := bool_nf (fun q => c22 (b2i_0.mpr q))
        refine x_aload_n h dX12_failing_25 rfl ?_
        refine x_iload_n h dX12_failing_26 rfl ?_
        refine x_iload_n h dX12_failing_27 rfl ?_
        refine x_cVi h ci_X12_isSo im_X12_isSo l_X12_255 ⟨Nat.le_of_ble_eq_true rfl, Nat.le_of_ble_eq_true rfl⟩ ⟨rfl, rfl⟩ ⟨Nat.zero_le _, Nat.zero_le _⟩ (c_X12_isSo (M := wCF M m _ _) hF hP hO k1 hlt (by omega) (by omega)) rfl rfl rfl rfl hF.1 (by decide) rfl dX12_failing_28 (fun v28 M28 hp28 => ?_)
        obtain ⟨rfl, hM⟩ := hp28
        obtain rfl := hM.symm
        clear hM
        refine x_if_ne h 39 dX12_failing_31 (by decide) (fun c31 => ?_) (fun c31 => ?_)
        · have e2 := bool_nf (fun q => c31 (b2i_0.mpr q))
          refine x_incn h dX12_failing_39 rfl rfl rfl ?_
          dsimp only [List.set]
          refine x_goto h 9 dX12_failing_42 (by decide) ?_
          refine ih hlt (fun u hu => ?_)
          rcases Nat.lt_or_ge u s with q | q
          · exact hn u q
          · obtain rfl : u = s := by omega
            exact by rw [e2]; simp
        · have e2 := b2i_0.mp c31
          refine x_iload_n h dX12_failing_34 rfl ?_
          refine x_cSi h ci_X12_told sm_X12_told l_X12_295 ⟨Nat.le_of_ble_eq_true rfl, Nat.le_of_ble_eq_true rfl⟩ ⟨rfl, rfl⟩ ⟨Nat.zero_le _, Nat.zero_le _⟩ (c_X12_told hlt) rfl rfl rfl rfl dX12_failing_35 (fun v35 M35 hp35 => ?_)
          obtain ⟨rfl, hM⟩ := hp35
          obtain rfl := hM.symm
          clear hM
          exact x_iret h hQ rfl dX12_failing_38 ⟨rfl, rfl, _, rfl, by
            have e := first_is (S := fun s => C (kn c) s && !cndT (cA Q (kn c)) s) hlt (by show (_ && _) = true; rw [e1, e2]; rfl) hn
            unfold fstV
            rw [e, if_pos hlt], rfl⟩
  refine x_aload_n h dX12_failing_0 rfl ?_
  refine x_in5 h dX12_failing_1 ?_
  refine x_iload_n h dX12_failing_2 rfl ?_
  refine x_cVi h ci_X12_nodeOf im_X12_nodeOf l_X12_292 ⟨Nat.le_of_ble_eq_true rfl, Nat.le_of_ble_eq_true rfl⟩ ⟨rfl, rfl⟩ ⟨Nat.zero_le _, Nat.zero_le _⟩ (c_X12_nodeOf (M := wCF M m C F) hF hP hO (kd := 5) (nm := c) (k0 := kn c) (Or.inl rfl) (by omega) k1 (ck_u hK hc)) rfl rfl rfl rfl hF.1 (by decide) rfl dX12_failing_3 (fun v3 M3 hp3 => ?_)
  obtain ⟨rfl, hM⟩ := hp3
  obtain rfl := hM.symm
  clear hM
  refine x_istore_n h dX12_failing_6 rfl rfl ?_
  dsimp only [List.set]
  refine x_in0 h dX12_failing_7 ?_
  refine x_istore_n h dX12_failing_8 rfl rfl ?_
  dsimp only [List.set]
  exact loop 0 (Nat.zero_le _) (fun u hu => absurd hu (Nat.not_lt_zero _))
/-- the checks at which nothing fails -/
def fneS (Q : AP) (kn : Nat → Nat) (C : NS) : ST := fun c => !anyS (fun s => C (kn c) s && !cndT (cA Q (kn c)) s)
theorem c_X12_fine {Γ : GT} {G : GG} {M : MM} {m : Nat} (hF : mdF G M.2.2 m) {Q : AP} (hP : mpW M m Q) (hO : okM Q) {C F : NS} {nk : Nat} {kn : Nat → Nat} (hK : ckW M m Q nk kn) : Calls Γ q_X12_fine [.ref m] G (wCF M m C F) (rI (fun y M' => y = nI (enN (fneS Q kn C) 0 nk) ∧ M' = wCF M m C F)) := by
  have nk4 := hK.1
  refine Calls.intro (by decide +kernel) (Nat.le_of_ble_eq_true rfl) (fun z E h hQ => ?_)
  refine x_loc (L' := [some (.ref m), none, none]) rfl ?_
  have loop : ∀ c, c ≤ nk → X Γ E 0 0 G z (wCF M m C F) 4 [some (.ref m), some (.int (nI (enN (fneS Q kn C) 0 c))), some (.int (nI c))] [] := by
    refine upto nk (fun c hc ih => ?_)
    refine x_iload_n h dX12_fine_4 rfl ?_
    refine x_aload_n h dX12_fine_5 rfl ?_
    refine x_getIv h hF.1 f_X12_208 rfl hK.2.1 dX12_fine_6 ?_
    refine x_icmp_ge h 38 dX12_fine_9 (by decide) (fun c9 => ?_) (fun c9 => ?_)
    · obtain rfl : c = nk := by
        have := (nI_le_iff (by omega) (by omega)).mp c9
        omega
      refine x_iload_n h dX12_fine_38 rfl ?_
      exact x_iret h hQ rfl dX12_fine_39 ⟨rfl, rfl, _, rfl, rfl, rfl⟩
    · have hlt : c < nk := by
        have := mt (nI_le_iff (a := nk) (b := c) (by omega) (by omega)).mpr c9
        omega
      refine x_iload_n h dX12_fine_12 rfl ?_
      refine x_aload_n h dX12_fine_13 rfl ?_
      refine x_iload_n h dX12_fine_14 rfl ?_
      refine x_cVi h ci_X12_failing im_X12_failing l_X12_298 ⟨Nat.le_of_ble_eq_true rfl, Nat.le_of_ble_eq_true rfl⟩ ⟨rfl, rfl⟩ ⟨Nat.zero_le _, Nat.zero_le _⟩ (c_X12_failing hF hP hO hK hlt) rfl rfl rfl rfl hF.1 (by decide) rfl dX12_fine_15 (fun v15 M15 hp15 => ?_)
      have hv := hp15.1
      have hM := hp15.2
      clear hp15
      rw [hv]
      clear hv v15
      obtain rfl := hM.symm
      clear hM
      refine x_bipush h (-9) (by decide) dX12_fine_18 ?_
      refine x_icmp_ne h 29 dX12_fine_20 (by decide) (fun c20 => ?_) (fun c20 => ?_)
      · have e : fneS Q kn C c = false := by
          unfold fneS
          rw [show anyS (fun s => C (kn c) s && !cndT (cA Q (kn c)) s) = true from bool_nf (fun q => c20 (fst_none.mpr q))]
          rfl
        refine x_in0 h dX12_fine_29 ?_
        refine x_ior h dX12_fine_30 ?_
        refine x_topi (y := nI (enN (fneS Q kn C) 0 (c + 1))) (by rw [fa_or, Nat.or_zero, enN_no e]) ?_
        refine x_istore_n h dX12_fine_31 rfl rfl ?_
        dsimp only [List.set]
        refine x_incn h dX12_fine_32 rfl rfl rfl ?_
        dsimp only [List.set]
        refine x_goto h 4 dX12_fine_35 (by decide) ?_
        exact ih hlt
      · have e : fneS Q kn C c = true := by
          unfold fneS
          rw [fst_none.mp c20]
          rfl
        refine x_in1 h dX12_fine_23 ?_
        refine x_iload_n h dX12_fine_24 rfl ?_
        refine x_ishl h dX12_fine_25 ?_
        refine x_topi (shl1 c (by omega)) ?_
        refine x_goto h 30 dX12_fine_26 (by decide) ?_
        refine x_ior h dX12_fine_30 ?_
        refine x_topi (y := nI (enN (fneS Q kn C) 0 (c + 1))) (by rw [fa_or, enN_set e]) ?_
        refine x_istore_n h dX12_fine_31 rfl rfl ?_
        dsimp only [List.set]
        refine x_incn h dX12_fine_32 rfl rfl rfl ?_
        dsimp only [List.set]
        refine x_goto h 4 dX12_fine_35 (by decide) ?_
        exact ih hlt
  refine x_in0 h dX12_fine_0 ?_
  refine x_istore_n h dX12_fine_1 rfl rfl ?_
  dsimp only [List.set]
  refine x_in0 h dX12_fine_2 ?_
  refine x_istore_n h dX12_fine_3 rfl rfl ?_
  dsimp only [List.set]
  exact loop 0 (Nat.zero_le _)
theorem ckW_hs {M : MM} {m : Nat} {Q : AP} {nk : Nat} {kn : Nat → Nat} (h : ckW M m Q nk kn) (hs : Nat → Nat) : ckW (hsM M m hs) m Q nk kn := ⟨h.1, (hsM_ne hs 9 (by omega)).trans h.2.1, h.2.2⟩
/-- the checks that are proved by some guesses -/
def prvS (Q : AP) (V : GC) (kn t : Nat → Nat) (act : Nat) : ST := fneS Q kn (lcP Q V (HS Q V t act) t).1
theorem c_X12_provedBy {Γ : GT} {G : GG} {M : MM} {m : Nat} (hF : mdF G M.2.2 m) {Q : AP} (hP : mpW M m Q) (hO : okM Q) {V : GC} (hV : mgW M m V) {ra : Nat} {t : Nat → Nat} (gra : G ra = some (.inr (.int, 4))) (ht : rowI M ra t) (hra : ra ≠ m + 30) {nk : Nat} {kn : Nat → Nat} (hK : ckW M m Q nk kn) {C F : NS} {act : Nat} (ha : act < 32) : Calls Γ q_X12_provedBy [.ref m, .ref ra, .int (nI act)] G (wCF M m C F) (rI (fun y M' => y = nI (fb_ct (fun i => (enN (prvS Q V kn t act) 0 nk).testBit i) 5) ∧ M' = wCF (hsM M m (HS Q V t act)) m (lcP Q V (HS Q V t act) t).1 (lcP Q V (HS Q V t act) t).2)) := by
  have nk4 := hK.1
  have h16 : enN (prvS Q V kn t act) 0 nk < 32 := Nat.lt_of_lt_of_le (enN_lt _ _ _) (show 2 ^ nk ≤ 2 ^ 5 from Nat.pow_le_pow_right (by decide) (by omega))
  refine Calls.intro (by decide +kernel) (Nat.le_of_ble_eq_true rfl) (fun z E h hQ => ?_)
  refine x_loc (L' := [some (.ref m), some (.ref ra), some (.int (nI act))]) rfl ?_
  refine x_aload_n h dX12_provedBy_0 rfl ?_
  refine x_aload_n h dX12_provedBy_1 rfl ?_
  refine x_iload_n h dX12_provedBy_2 rfl ?_
  refine x_cVv h ci_X12_findInvariants im_X12_findInvariants l_X12_285 ⟨Nat.le_of_ble_eq_true rfl, Nat.le_of_ble_eq_true rfl⟩ ⟨rfl, rfl⟩ ⟨Nat.zero_le _, Nat.zero_le _⟩ (c_X12_findInvariants hF hP hO hV gra ht hra ha) rfl rfl rfl rfl hF.1 (by decide) rfl dX12_provedBy_3 (fun M3 hp3 => ?_)
  subst hp3
  refine x_aload_n h dX12_provedBy_6 rfl ?_
  refine x_cVi h ci_X12_fine im_X12_fine l_X12_301 ⟨Nat.le_of_ble_eq_true rfl, Nat.le_of_ble_eq_true rfl⟩ ⟨rfl, rfl⟩ ⟨Nat.zero_le _, Nat.zero_le _⟩ (c_X12_fine (M := hsM M m _) hF (mpW_hs hP _) hO (ckW_hs hK _)) rfl rfl rfl rfl hF.1 (by decide) rfl dX12_provedBy_7 (fun v7 M7 hp7 => ?_)
  have hv := hp7.1
  have hM := hp7.2
  clear hp7
  rw [hv]
  clear hv v7
  obtain rfl := hM.symm
  clear hM
  refine x_cSi h ci_X12_ones sm_X12_ones l_X12_304 ⟨Nat.le_of_ble_eq_true rfl, Nat.le_of_ble_eq_true rfl⟩ ⟨rfl, rfl⟩ ⟨Nat.zero_le _, Nat.zero_le _⟩ (c_X12_ones h16) rfl rfl rfl rfl dX12_provedBy_10 (fun v10 M10 hp10 => ?_)
  have hv := hp10.1
  have hM := hp10.2
  clear hp10
  rw [hv]
  clear hv v10
  obtain rfl := hM.symm
  clear hM
  exact x_iret h hQ rfl dX12_provedBy_13 ⟨rfl, rfl, _, rfl, rfl, rfl⟩
theorem c_X12_manyGuessed {Γ : GT} {G : GG} {M : MM} {m : Nat} (hF : mdF G M.2.2 m) {V : GC} (hV : mgW M m V) {hs : Nat} (hh : hs < 32) : Calls Γ q_X12_manyGuessed [.ref m, .int (nI hs)] G M (rI (fun y M' => y = nI (fb_ct (agS V hs) 216) ∧ M' = M)) := by
  refine Calls.intro (by decide +kernel) (Nat.le_of_ble_eq_true rfl) (fun z E h hQ => ?_)
  refine x_loc (L' := [some (.ref m), some (.int (nI hs)), none, none]) rfl ?_
  have loop : ∀ i, i ≤ 216 → X Γ E 0 0 G z M 4 [some (.ref m), some (.int (nI hs)), some (.int (nI (fb_ct (agS V hs) i))), some (.int (nI i))] [] := by
    refine upto 216 (fun i hi ih => ?_)
    refine x_iload_n h dX12_manyGuessed_4 rfl ?_
    refine x_sipush h (nI 216) (by decide) dX12_manyGuessed_5 ?_
    refine x_icmp_ge h 34 dX12_manyGuessed_8 (by decide) (fun c8 => ?_) (fun c8 => ?_)
    · obtain rfl : i = 216 := up_ge (by decide) hi c8
      refine x_iload_n h dX12_manyGuessed_34 rfl ?_
      exact x_iret h hQ rfl dX12_manyGuessed_35 ⟨rfl, rfl, _, rfl, rfl, rfl⟩
    · have hlt : i < 216 := up_lt (by decide) hi c8
      refine x_iload_n h dX12_manyGuessed_11 rfl ?_
      refine x_aload_n h dX12_manyGuessed_12 rfl ?_
      refine x_iload_n h dX12_manyGuessed_13 rfl ?_
      refine x_iload_n h dX12_manyGuessed_14 rfl ?_
      refine x_cVi h ci_X12_areGuessed im_X12_areGuessed l_X12_266 ⟨Nat.le_of_ble_eq_true rfl, Nat.le_of_ble_eq_true rfl⟩ ⟨rfl, rfl⟩ ⟨Nat.zero_le _, Nat.zero_le _⟩ (c_X12_areGuessed hF hV hh hlt) rfl rfl rfl rfl hF.1 (by decide) rfl dX12_manyGuessed_15 (fun v15 M15 hp15 => ?_)
      obtain ⟨rfl, hM⟩ := hp15
      obtain rfl := hM.symm
      clear hM
      refine x_if_eq h 25 dX12_manyGuessed_18 (by decide) (fun c18 => ?_) (fun c18 => ?_)
      · have e := b2i_0.mp c18
        refine x_in0 h dX12_manyGuessed_25 ?_
        refine x_iaddn h  dX12_manyGuessed_26 ?_
        refine x_topi (y := nI (fb_ct (agS V hs) (i + 1))) (by rw [fb_ct_succ, e]; rfl) ?_
        refine x_istore_n h dX12_manyGuessed_27 rfl rfl ?_
        dsimp only [List.set]
        refine x_incn h dX12_manyGuessed_28 rfl rfl rfl ?_
        dsimp only [List.set]
        refine x_goto h 4 dX12_manyGuessed_31 (by decide) ?_
        exact ih hlt
      · have e := bool_nf (fun q => c18 (b2i_0.mpr q))
        refine x_in1 h dX12_manyGuessed_21 ?_
        refine x_goto h 26 dX12_manyGuessed_22 (by decide) ?_
        refine x_iaddn h  dX12_manyGuessed_26 ?_
        refine x_topi (y := nI (fb_ct (agS V hs) (i + 1))) (by rw [fb_ct_succ, e]; rfl) ?_
        refine x_istore_n h dX12_manyGuessed_27 rfl rfl ?_
        dsimp only [List.set]
        refine x_incn h dX12_manyGuessed_28 rfl rfl rfl ?_
        dsimp only [List.set]
        refine x_goto h 4 dX12_manyGuessed_31 (by decide) ?_
        exact ih hlt
  refine x_in0 h dX12_manyGuessed_0 ?_
  refine x_istore_n h dX12_manyGuessed_1 rfl rfl ?_
  dsimp only [List.set]
  refine x_in0 h dX12_manyGuessed_2 ?_
  refine x_istore_n h dX12_manyGuessed_3 rfl rfl ?_
  dsimp only [List.set]
  exact loop 0 (Nat.zero_le _)
def clW (F : NS) (k w : Nat) : NS := fun j s => if j = k ∧ s / 54 = w then false else F j s
def gfA (Q : AP) (S : ST) (k w i : Nat) (y : NS × NS) : NS × NS := if S (54 * w + i) then goP Q k (54 * w + i) y else y
theorem gfA_yes {Q : AP} {S : ST} {k w i : Nat} {y : NS × NS} (h : S (54 * w + i) = true) : gfA Q S k w i y = goP Q k (54 * w + i) y := if_pos h
theorem gfA_no {Q : AP} {S : ST} {k w i : Nat} {y : NS × NS} (h : S (54 * w + i) = false) : gfA Q S k w i y = y := if_neg (by rw [h]; decide)
def gfW (Q : AP) (k w : Nat) (x : NS × NS) : NS × NS := foN (gfA Q (x.2 k) k w) 54 (x.1, clW x.2 k w)
def gfP (Q : AP) (k : Nat) (x : NS × NS) : NS × NS := foN (gfW Q k) 4 x
/-- had the node fresh states? -/
def gfB (Q : AP) (k : Nat) (x : NS × NS) : Bool := anyN (fun w => anyN (fun i => (foN (gfW Q k) w x).2 k (54 * w + i)) 54) 4
theorem foN_skip {α : Type} {f : Nat → α → α} {x : α} {i : Nat} : ∀ n, (∀ j, i ≤ j → j < i + n → ∀ y, f j y = y) → foN f (i + n) x = foN f i x
  | 0, _ => rfl
  | n + 1, h => by
    show f (i + n) (foN f (i + n) x) = _
    rw [h (i + n) (by omega) (by omega)]
    exact foN_skip n (fun j h1 h2 => h j h1 (by omega))
theorem anyN_iff {p : Nat → Bool} : ∀ n, anyN p n = true ↔ ∃ i, i < n ∧ p i = true
  | 0 => by simp [anyN]
  | n + 1 => by
    show (anyN p n || p n) = true ↔ _
    rw [Bool.or_eq_true, anyN_iff n]
    constructor
    · rintro (⟨i, h1, h2⟩ | h)
      · exact ⟨i, by omega, h2⟩
      · exact ⟨n, by omega, h⟩
    · rintro ⟨i, h1, h2⟩
      rcases Nat.lt_or_ge i n with q | q
      · exact Or.inl ⟨i, q, h2⟩
      · obtain rfl : i = n := by omega
        exact Or.inr h2
theorem encW_zero {S : ST} {w : Nat} : encW S w = 0 ↔ anyN (fun i => S (54 * w + i)) 54 = false := by
  constructor
  · intro h
    cases hx : anyN (fun i => S (54 * w + i)) 54 with
    | false => rfl
    | true =>
      obtain ⟨i, h1, h2⟩ := (anyN_iff 54).mp hx
      have e : enN S (54 * w) 54 = 0 := (fb_lN_inj (Nat.lt_trans (enN_lt _ _ _) (by decide)) (by decide)).mp h
      have e2 := enN_bit S (54 * w) 54 i
      rw [e] at e2
      simp [h1, h2] at e2
  · intro h
    refine encW_none (fun s hs => ?_)
    cases hx : S s with
    | false => rfl
    | true => exact absurd ((anyN_iff (p := fun i => S (54 * w + i)) 54).mpr ⟨s - 54 * w, by omega, by show S (54 * w + (s - 54 * w)) = true; rw [show 54 * w + (s - 54 * w) = s by omega]; exact hx⟩) (by rw [h]; decide)
theorem sh54_0 {S : ST} {w i : Nat} : lN (enN S (54 * w) 54 / 2 ^ i) = 0 ↔ ∀ j, i ≤ j → j < 54 → S (54 * w + j) = false := by
  have hlt : enN S (54 * w) 54 / 2 ^ i < 2 ^ 63 := Nat.lt_of_le_of_lt (Nat.div_le_self _ _) (Nat.lt_trans (enN_lt _ _ _) (by decide))
  constructor
  · intro h j h1 h2
    have e : enN S (54 * w) 54 / 2 ^ i = 0 := (fb_lN_inj hlt (by decide)).mp h
    have e2 : (enN S (54 * w) 54 / 2 ^ i).testBit (j - i) = (enN S (54 * w) 54).testBit (j - i + i) := Nat.testBit_div_two_pow _ _
    rw [e, show j - i + i = j by omega, enN_bit] at e2
    simpa [h2] using e2.symm
  · intro h
    have e : enN S (54 * w) 54 / 2 ^ i = 0 := by
      refine Nat.eq_of_testBit_eq (fun j => ?_)
      rw [Nat.testBit_div_two_pow, enN_bit]
      by_cases q : j + i < 54
      · rw [h (j + i) (by omega) q]; simp
      · simp [q]
    rw [e]; rfl
theorem sh54_1 {S : ST} {w i : Nat} (hi : i < 54) : lN (enN S (54 * w) 54 / 2 ^ i) &&& 1 = lN (if S (54 * w + i) then 1 else 0) := by
  rw [wb_a1 (Nat.lt_of_le_of_lt (Nat.div_le_self _ _) (Nat.lt_trans (enN_lt _ _ _) (by decide)))]
  congr 1
  have e : (enN S (54 * w) 54).testBit i = S (54 * w + i) := by
    rw [enN_bit]
    simp [hi]
  rw [← e, Nat.testBit_eq_decide_div_mod_eq]
  rcases Nat.mod_two_eq_zero_or_one (enN S (54 * w) 54 / 2 ^ i) with q | q <;> simp [q]
theorem sh54_s {S : ST} {w i : Nat} : lN (enN S (54 * w) 54 / 2 ^ i) >>> ((nI 1).toInt64 &&& 63) = lN (enN S (54 * w) 54 / 2 ^ (i + 1)) := by
  rw [pf_shr (d := 1) (by decide) (Nat.lt_of_le_of_lt (Nat.div_le_self _ _) (Nat.lt_trans (enN_lt _ _ _) (by decide))), Nat.div_div_eq_div_mul, ← Nat.pow_succ]
theorem wCF_clW (M : MM) (m : Nat) (C F : NS) {k w : Nat} (hk : k < 62) (hw : w < 4) : sL (wCF M m C F) (m + 29) (4 * k + w) 0 = wCF M m C (clW F k w) := by
  show (M.1, _, M.2.2) = (M.1, _, M.2.2)
  congr 2
  funext b j
  unfold up2
  by_cases h : b = m + 29 ∧ j = 4 * k + w
  · obtain ⟨rfl, rfl⟩ := h
    rw [if_pos ⟨rfl, rfl⟩, if_neg (by omega), if_pos ⟨rfl, by omega⟩, show (4 * k + w) / 4 = k by omega, show (4 * k + w) % 4 = w by omega]
    exact (encW_none (fun s hs => if_pos ⟨rfl, hs⟩)).symm
  · rw [if_neg h]
    show (wCF M m C F).2.1 b j = _
    by_cases h1 : b = m + 28 ∧ j < 248
    · simp only [wCF, if_pos h1]
    · by_cases h2 : b = m + 29 ∧ j < 248
      · simp only [wCF, if_neg h1, if_pos h2]
        refine encW_congr (fun t ht => ?_)
        unfold clW
        rw [if_neg (fun q => h ⟨h2.1, by omega⟩)]
      · simp only [wCF, if_neg h1, if_neg h2]
theorem c_X12_goOnFresh {Γ : GT} {G : GG} {M : MM} {m : Nat} (hF : mdF G M.2.2 m) {Q : AP} (hP : mpW M m Q) (hO : okM Q) {x : NS × NS} {k : Nat} (hk : k < nA Q) : Calls Γ q_X12_goOnFresh [.ref m, .int (nI k)] G (wCF M m x.1 x.2) (rI (fun y M' => y = b2i (gfB Q k x) ∧ M' = wCF M m (gfP Q k x).1 (gfP Q k x).2)) := by
  have q60 := hP.1
  refine Calls.intro (by decide +kernel) (Nat.le_of_ble_eq_true rfl) (fun z E h hQ => ?_)
  refine x_loc (L' := [some (.ref m), some (.int (nI k)), none, none, none, none, none]) rfl ?_
  have loop : ∀ w, w ≤ 4 → ∀ w1 w2 w3, X Γ E 0 0 G z (wCF M m (foN (gfW Q k) w x).1 (foN (gfW Q k) w x).2) 4 [some (.ref m), some (.int (nI k)), some (.int (b2i (anyN (fun w => anyN (fun i => (foN (gfW Q k) w x).2 k (54 * w + i)) 54) w))), some (.int (nI w)), w1, w2, w3] [] := by
    refine upto 4 (fun w hw ih w1 w2 w3 => ?_)
    have inner : w < 4 → ∀ i, i ≤ 54 → X Γ E 0 0 G z (wCF M m (foN (gfA Q ((foN (gfW Q k) w x).2 k) k w) i ((foN (gfW Q k) w x).1, clW (foN (gfW Q k) w x).2 k w)).1 (foN (gfA Q ((foN (gfW Q k) w x).2 k) k w) i ((foN (gfW Q k) w x).1, clW (foN (gfW Q k) w x).2 k w)).2) 55 [some (.ref m), some (.int (nI k)), some (.int (b2i (anyN (fun w => anyN (fun i => (foN (gfW Q k) w x).2 k (54 * w + i)) 54) (w + 1)))), some (.int (nI w)), some (.long (lN (enN ((foN (gfW Q k) w x).2 k) (54 * w) 54 / 2 ^ i))), none, some (.int (nI (54 * w + i)))] [] := by
      intro hw4
      refine upto 54 (fun i hi ih2 => ?_)
      refine x_lload h dX12_goOnFresh_55 rfl ?_
      refine x_lc0 h dX12_goOnFresh_57 ?_
      refine x_lcmp h dX12_goOnFresh_58 ?_
      refine x_if_eq h 91 dX12_goOnFresh_59 (by decide) (fun c59 => ?_) (fun c59 => ?_)
      · have ez := sh54_0.mp ((lg_cmp_eq _ _).mp c59)
        refine x_mem (show _ = wCF M m (foN (gfW Q k) (w + 1) x).1 (foN (gfW Q k) (w + 1) x).2 from ?_) ?_
        · have e5 : foN (gfW Q k) (w + 1) x = foN (gfA Q ((foN (gfW Q k) w x).2 k) k w) i ((foN (gfW Q k) w x).1, clW (foN (gfW Q k) w x).2 k w) := by
            have := foN_skip (f := gfA Q ((foN (gfW Q k) w x).2 k) k w) (x := ((foN (gfW Q k) w x).1, clW (foN (gfW Q k) w x).2 k w)) (i := i) (54 - i) (fun j h1 h2 y => gfA_no (ez j h1 (by omega)))
            rw [show i + (54 - i) = 54 by omega] at this
            exact this
          rw [e5]
        refine x_incn h dX12_goOnFresh_91 rfl rfl rfl ?_
        dsimp only [List.set]
        refine x_goto h 4 dX12_goOnFresh_94 (by decide) ?_
        exact ih hw4 _ _ _
      · have hlt : i < 54 := by
          rcases Nat.lt_or_ge i 54 with q | q
          · exact q
          · exact absurd ((lg_cmp_eq _ _).mpr (sh54_0.mpr (fun j h1 h2 => absurd h2 (by omega)))) c59
        refine x_lload h dX12_goOnFresh_62 rfl ?_
        refine x_lc1 h dX12_goOnFresh_64 ?_
        refine x_land h dX12_goOnFresh_65 ?_
        refine x_topl (sh54_1 hlt) ?_
        refine x_lc1 h dX12_goOnFresh_66 ?_
        refine x_lcmp h dX12_goOnFresh_67 ?_
        refine x_if_ne h 79 dX12_goOnFresh_68 (by decide) (fun c68 => ?_) (fun c68 => ?_)
        · have e : (foN (gfW Q k) w x).2 k (54 * w + i) = false := by
            cases hx : (foN (gfW Q k) w x).2 k (54 * w + i) with
            | false => rfl
            | true => rw [hx] at c68; exact absurd ((lg_cmp_eq _ _).mpr rfl) c68
          refine x_lload h dX12_goOnFresh_79 rfl ?_
          refine x_in1 h dX12_goOnFresh_81 ?_
          refine x_lshr h dX12_goOnFresh_82 ?_
          refine x_topl sh54_s ?_
          refine x_lstore h dX12_goOnFresh_83 rfl rfl ?_
          dsimp only [List.set]
          refine x_incn h dX12_goOnFresh_85 rfl rfl rfl ?_
          dsimp only [List.set]
          refine x_goto h 55 dX12_goOnFresh_88 (by decide) ?_
          have hy : gfA Q ((foN (gfW Q k) w x).2 k) k w i (foN (gfA Q ((foN (gfW Q k) w x).2 k) k w) i ((foN (gfW Q k) w x).1, clW (foN (gfW Q k) w x).2 k w)) = foN (gfA Q ((foN (gfW Q k) w x).2 k) k w) i ((foN (gfW Q k) w x).1, clW (foN (gfW Q k) w x).2 k w) := gfA_no e
          have ihh := ih2 hlt
          rw [show foN (gfA Q ((foN (gfW Q k) w x).2 k) k w) (i + 1) ((foN (gfW Q k) w x).1, clW (foN (gfW Q k) w x).2 k w) = gfA Q ((foN (gfW Q k) w x).2 k) k w i (foN (gfA Q ((foN (gfW Q k) w x).2 k) k w) i ((foN (gfW Q k) w x).1, clW (foN (gfW Q k) w x).2 k w)) from rfl, hy] at ihh
          exact ihh
        · have e : (foN (gfW Q k) w x).2 k (54 * w + i) = true := by
            cases hx : (foN (gfW Q k) w x).2 k (54 * w + i) with
            | true => rfl
            | false => rw [hx] at c68; exact absurd ((lg_cmp_eq _ _).mp c68) (by decide)
          refine x_aload_n h dX12_goOnFresh_71 rfl ?_
          refine x_iload_n h dX12_goOnFresh_72 rfl ?_
          refine x_iload h dX12_goOnFresh_73 rfl ?_
          refine x_cVi h ci_X12_goOn im_X12_goOn l_X12_269 ⟨Nat.le_of_ble_eq_true rfl, Nat.le_of_ble_eq_true rfl⟩ ⟨rfl, rfl⟩ ⟨Nat.zero_le _, Nat.zero_le _⟩ (c_X12_goOn hF hP hO hk (by omega)) rfl rfl rfl rfl hF.1 (by decide) rfl dX12_goOnFresh_75 (fun v75 M75 hp75 => ?_)
          subst hp75
          refine x_pop h rfl dX12_goOnFresh_78 ?_
          refine x_lload h dX12_goOnFresh_79 rfl ?_
          refine x_in1 h dX12_goOnFresh_81 ?_
          refine x_lshr h dX12_goOnFresh_82 ?_
          refine x_topl sh54_s ?_
          refine x_lstore h dX12_goOnFresh_83 rfl rfl ?_
          dsimp only [List.set]
          refine x_incn h dX12_goOnFresh_85 rfl rfl rfl ?_
          dsimp only [List.set]
          refine x_goto h 55 dX12_goOnFresh_88 (by decide) ?_
          have hy : gfA Q ((foN (gfW Q k) w x).2 k) k w i (foN (gfA Q ((foN (gfW Q k) w x).2 k) k w) i ((foN (gfW Q k) w x).1, clW (foN (gfW Q k) w x).2 k w)) = goP Q k (54 * w + i) (foN (gfA Q ((foN (gfW Q k) w x).2 k) k w) i ((foN (gfW Q k) w x).1, clW (foN (gfW Q k) w x).2 k w)) := gfA_yes e
          have ihh := ih2 hlt
          rw [show foN (gfA Q ((foN (gfW Q k) w x).2 k) k w) (i + 1) ((foN (gfW Q k) w x).1, clW (foN (gfW Q k) w x).2 k w) = gfA Q ((foN (gfW Q k) w x).2 k) k w i (foN (gfA Q ((foN (gfW Q k) w x).2 k) k w) i ((foN (gfW Q k) w x).1, clW (foN (gfW Q k) w x).2 k w)) from rfl, hy] at ihh
          exact ihh
    refine x_iload_n h dX12_goOnFresh_4 rfl ?_
    refine x_in4 h dX12_goOnFresh_5 ?_
    refine x_icmp_ge h 97 dX12_goOnFresh_6 (by decide) (fun c6 => ?_) (fun c6 => ?_)
    · obtain rfl : w = 4 := up_ge (by decide) hw c6
      refine x_iload_n h dX12_goOnFresh_97 rfl ?_
      exact x_zret h hQ rfl (b2i_01 _) dX12_goOnFresh_98 ⟨rfl, rfl, _, rfl, rfl, rfl⟩
    · have hlt : w < 4 := up_lt (by decide) hw c6
      refine x_aload_n h dX12_goOnFresh_9 rfl ?_
      refine x_getR h hF.1 f_X12_96 rfl (md_fresh hF).1 dX12_goOnFresh_10 ?_
      refine x_in4 h dX12_goOnFresh_13 ?_
      refine x_iload_n h dX12_goOnFresh_14 rfl ?_
      refine x_imuln h  dX12_goOnFresh_15 ?_
      refine x_iload_n h dX12_goOnFresh_16 rfl ?_
      refine x_iaddn h  dX12_goOnFresh_17 ?_
      refine x_laldv h (4 * k + w) (md_fresh hF).2 (ix.ni (j := 4 * k + w) (by omega) (by decide)) (wCF_f (by omega) hlt) dX12_goOnFresh_18 ?_
      refine x_lstore h dX12_goOnFresh_19 rfl rfl ?_
      dsimp only [List.set]
      refine x_aload_n h dX12_goOnFresh_21 rfl ?_
      refine x_getR h hF.1 f_X12_96 rfl (md_fresh hF).1 dX12_goOnFresh_22 ?_
      refine x_in4 h dX12_goOnFresh_25 ?_
      refine x_iload_n h dX12_goOnFresh_26 rfl ?_
      refine x_imuln h  dX12_goOnFresh_27 ?_
      refine x_iload_n h dX12_goOnFresh_28 rfl ?_
      refine x_iaddn h  dX12_goOnFresh_29 ?_
      refine x_lc0 h dX12_goOnFresh_30 ?_
      refine x_last h (4 * k + w) (md_fresh hF).2 (ix.ni (j := 4 * k + w) (by omega) (by decide)) dX12_goOnFresh_31 ?_
      refine x_mem (wCF_clW M m _ _ (by omega) hlt) ?_
      refine x_iload_n h dX12_goOnFresh_32 rfl ?_
      refine x_if_ne h 43 dX12_goOnFresh_33 (by decide) (fun c33 => ?_) (fun c33 => ?_)
      · have e0 := bool_nf (fun q => c33 (b2i_0.mpr q))
        refine x_ic1 h dX12_goOnFresh_43 ?_
        refine x_goto h 48 dX12_goOnFresh_44 (by decide) ?_
        refine x_topi (y := b2i (anyN (fun w => anyN (fun i => (foN (gfW Q k) w x).2 k (54 * w + i)) 54) (w + 1))) (b2i_t (by show (_ || _) = true; rw [e0]; rfl)) ?_
        refine x_istore_n h dX12_goOnFresh_48 rfl rfl ?_
        dsimp only [List.set]
        refine x_bipush h (nI 54) (by decide) dX12_goOnFresh_49 ?_
        refine x_iload_n h dX12_goOnFresh_51 rfl ?_
        refine x_imuln h  dX12_goOnFresh_52 ?_
        refine x_istore h dX12_goOnFresh_53 rfl rfl ?_
        dsimp only [List.set]
        have ihh := inner hlt 0 (Nat.zero_le _)
        rw [Nat.pow_zero, Nat.div_one] at ihh
        exact ihh
      · have e0 := b2i_0.mp c33
        refine x_lload h dX12_goOnFresh_36 rfl ?_
        refine x_lc0 h dX12_goOnFresh_38 ?_
        refine x_lcmp h dX12_goOnFresh_39 ?_
        refine x_if_eq h 47 dX12_goOnFresh_40 (by decide) (fun c40 => ?_) (fun c40 => ?_)
        · have e1 := encW_zero.mp ((lg_cmp_eq _ _).mp c40)
          refine x_ic0 h dX12_goOnFresh_47 ?_
          refine x_topi (y := b2i (anyN (fun w => anyN (fun i => (foN (gfW Q k) w x).2 k (54 * w + i)) 54) (w + 1))) (b2i_f (by show (_ || _) = false; rw [e0]; exact e1)) ?_
          refine x_istore_n h dX12_goOnFresh_48 rfl rfl ?_
          dsimp only [List.set]
          refine x_bipush h (nI 54) (by decide) dX12_goOnFresh_49 ?_
          refine x_iload_n h dX12_goOnFresh_51 rfl ?_
          refine x_imuln h  dX12_goOnFresh_52 ?_
          refine x_istore h dX12_goOnFresh_53 rfl rfl ?_
          dsimp only [List.set]
          have ihh := inner hlt 0 (Nat.zero_le _)
          rw [Nat.pow_zero, Nat.div_one] at ihh
          exact ihh
        · have e1 := bool_nf (fun q => c40 ((lg_cmp_eq _ _).mpr (encW_zero.mpr q)))
          refine x_ic1 h dX12_goOnFresh_43 ?_
          refine x_goto h 48 dX12_goOnFresh_44 (by decide) ?_
          refine x_topi (y := b2i (anyN (fun w => anyN (fun i => (foN (gfW Q k) w x).2 k (54 * w + i)) 54) (w + 1))) (b2i_t (by show (_ || _) = true; rw [e0]; exact e1)) ?_
          refine x_istore_n h dX12_goOnFresh_48 rfl rfl ?_
          dsimp only [List.set]
          refine x_bipush h (nI 54) (by decide) dX12_goOnFresh_49 ?_
          refine x_iload_n h dX12_goOnFresh_51 rfl ?_
          refine x_imuln h  dX12_goOnFresh_52 ?_
          refine x_istore h dX12_goOnFresh_53 rfl rfl ?_
          dsimp only [List.set]
          have ihh := inner hlt 0 (Nat.zero_le _)
          rw [Nat.pow_zero, Nat.div_one] at ihh
          exact ihh
  refine x_ic0 h dX12_goOnFresh_0 ?_
  refine x_istore_n h dX12_goOnFresh_1 rfl rfl ?_
  dsimp only [List.set]
  refine x_in0 h dX12_goOnFresh_2 ?_
  refine x_istore_n h dX12_goOnFresh_3 rfl rfl ?_
  dsimp only [List.set]
  exact loop 0 (Nat.zero_le _) _ _ _
