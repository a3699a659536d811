/-! ===== Code: truths of all conditions; the fulfilled checks ===== -/
/-- the checks of a program: how many, the sets of their conditions -/
def kvW (G : GG) (M : MM) (D : DS) (c : Nat) (K : GV) : Prop := K.1 ≤ 4 ∧ M.1 c 7 = nI K.1 ∧ ∀ g, g < K.1 → ∃ q, M.2.2 (c + 4) g = .ref q ∧ G q = some (.inl 3) ∧ M.2.2 q 3 = .ref (K.2 g) ∧ isD G M.2.2 D (K.2 g)
def fulS (σ : SG) (f : Nat) (kt : Nat → Nat) : ST := fun i => !anyS (fun s => σ (f + 17 + 1 + 2 * i) s && !σ (kt i) s)
def ftN (c : Nat) (k : Nat → CND) : Nat → SG → SG
  | 0, σ => σ
  | i + 1, σ => upσ (ftN c k i σ) (c + 5 + 3 * i + 1) (cndT (k i))
theorem c_X2_fulfilled {Γ : GT} {G : GG} {M : MM} {D : DS} {σ : SG} {c : Nat} (hW : codeF G M.2.2 c) {f : Nat} {K : GV} (hK : kvW G M D c K) (hf : flowW G M.2.2 D f) : Calls Γ q_X2_fulfilled [.ref c, .ref f] G (wS D M σ) (rI (fun w M' => w = nI (enN (fulS σ f K.2) 0 K.1) ∧ M' = wS D M σ)) := by
  have hW0 := hW
  obtain ⟨gc, rs, gs, hs, rcc, gcn, hc, rg, gg, rkk, gk⟩ := hW
  obtain ⟨k4, hk, hq⟩ := hK
  obtain ⟨gf, rn, dn, rc, ac, ri, ai, rk, ak, -⟩ := hf
  refine Calls.intro (by decide +kernel) (Nat.le_of_ble_eq_true rfl) (fun z E h hQ => ?_)
  refine x_loc (L' := [some (.ref c), some (.ref f), none, none]) rfl ?_
  have loop : ∀ i, i ≤ K.1 → X Γ E 0 0 G z (wS D M σ) 4 [some (.ref c), some (.ref f), some (.int (nI (enN (fulS σ f K.2) 0 i))), some (.int (nI i))] [] := by
    refine upto K.1 (fun i hi ih => ?_)
    refine x_iload_n h dX2_fulfilled_4 rfl ?_
    refine x_aload_n h dX2_fulfilled_5 rfl ?_
    refine x_getIv h gc f_X2_43 rfl hk dX2_fulfilled_6 ?_
    refine x_icmp_ge h 63 dX2_fulfilled_9 (by decide) (fun c9 => ?_) (fun c9 => ?_)
    · obtain rfl : i = K.1 := by
        have := (nI_le_iff (by omega) (by omega)).mp c9
        omega
      refine x_iload_n h dX2_fulfilled_63 rfl ?_
      exact x_iret h hQ rfl dX2_fulfilled_64 ⟨rfl, rfl, _, rfl, rfl, rfl⟩
    · have hlt : i < K.1 := by
        have := mt (nI_le_iff (a := K.1) (b := i) (by omega) (by omega)).mpr c9
        omega
      have h4 : i < 4 := by omega
      obtain ⟨q, rq, gq, rt, dt⟩ := hq i hlt
      refine x_iload_n h dX2_fulfilled_12 rfl ?_
      refine x_aload_n h dX2_fulfilled_13 rfl ?_
      refine x_getR h gc f_X2_26 rfl rkk dX2_fulfilled_14 ?_
      refine x_alen h gk (by decide) dX2_fulfilled_17 ?_
      refine x_icmp_ge h 63 dX2_fulfilled_18 (by decide) (fun c18 => ?_) (fun c18 => ?_)
      · exact absurd ((nI_le_iff (by decide) (by omega)).mp c18) (by omega)
      · refine x_iload_n h dX2_fulfilled_21 rfl ?_
        refine x_aload_n h dX2_fulfilled_22 rfl ?_
        refine x_getR h gf f_X2_89 rfl rk dX2_fulfilled_23 ?_
        refine x_alen h ak.1 (by decide) dX2_fulfilled_26 ?_
        refine x_icmp_ge h 63 dX2_fulfilled_27 (by decide) (fun c27 => ?_) (fun c27 => ?_)
        · exact absurd ((nI_le_iff (by decide) (by omega)).mp c27) (by omega)
        · refine x_aload_n h dX2_fulfilled_30 rfl ?_
          refine x_getR h gf f_X2_89 rfl rk dX2_fulfilled_31 ?_
          refine x_iload_n h dX2_fulfilled_34 rfl ?_
          refine x_aald h i ak.1 (by decide) (ix.ni h4 (by decide)) (ak.2 i h4).1 dX2_fulfilled_35 ?_
          refine x_aload_n h dX2_fulfilled_36 rfl ?_
          refine x_getR h gc f_X2_26 rfl rkk dX2_fulfilled_37 ?_
          refine x_iload_n h dX2_fulfilled_40 rfl ?_
          refine x_aald h i gk (by decide) (ix.ni h4 (by decide)) rq dX2_fulfilled_41 ?_
          refine x_getR h gq f_X2_95 rfl rt dX2_fulfilled_42 ?_
          refine x_cVi h ci_X9_isWithin im_X9_isWithin l_X2_99 ⟨Nat.le_of_ble_eq_true rfl, Nat.le_of_ble_eq_true rfl⟩ ⟨rfl, rfl⟩ ⟨Nat.zero_le _, Nat.zero_le _⟩ (s_isWithin (ak.2 i h4).2 dt) rfl rfl rfl rfl (ak.2 i h4).2.1.1 (by decide) rfl dX2_fulfilled_45 (fun v45 M45 hp45 => ?_)
          obtain ⟨rfl, hM⟩ := hp45
          obtain rfl := hM.symm
          clear hM
          refine x_if_eq h 57 dX2_fulfilled_48 (by decide) (fun c48 => ?_) (fun c48 => ?_)
          · have hz : anyS (fun s => σ (f + 17 + 1 + 2 * i) s && !σ (K.2 i) s) = true := by
              cases hx : anyS (fun s => σ (f + 17 + 1 + 2 * i) s && !σ (K.2 i) s) with
              | true => rfl
              | false => rw [hx] at c48; exact absurd c48 (by decide)
            refine x_incn h dX2_fulfilled_57 rfl rfl rfl ?_
            dsimp only [List.set]
            refine x_goto h 4 dX2_fulfilled_60 (by decide) ?_
            have ihh := ih hlt
            rw [← enN_no (S := fulS σ f K.2) (g := i) (by simp only [fulS, hz]; rfl)] at ihh
            exact ihh
          · have hz : anyS (fun s => σ (f + 17 + 1 + 2 * i) s && !σ (K.2 i) s) = false := by
              cases hx : anyS (fun s => σ (f + 17 + 1 + 2 * i) s && !σ (K.2 i) s) with
              | false => rfl
              | true => rw [hx] at c48; exact absurd rfl c48
            refine x_iload_n h dX2_fulfilled_51 rfl ?_
            refine x_in1 h dX2_fulfilled_52 ?_
            refine x_iload_n h dX2_fulfilled_53 rfl ?_
            refine x_ishl h dX2_fulfilled_54 ?_
            refine x_topi (shl1 i (by omega)) ?_
            refine x_ior h dX2_fulfilled_55 ?_
            refine x_topi (y := nI (enN (fulS σ f K.2) 0 (i + 1))) (by rw [fa_or, enN_set (by simp only [fulS, hz]; rfl)]) ?_
            refine x_istore_n h dX2_fulfilled_56 rfl rfl ?_
            dsimp only [List.set]
            refine x_incn h dX2_fulfilled_57 rfl rfl rfl ?_
            dsimp only [List.set]
            refine x_goto h 4 dX2_fulfilled_60 (by decide) ?_
            exact ih hlt
  refine x_in0 h dX2_fulfilled_0 ?_
  refine x_istore_n h dX2_fulfilled_1 rfl rfl ?_
  dsimp only [List.set]
  refine x_in0 h dX2_fulfilled_2 ?_
  refine x_istore_n h dX2_fulfilled_3 rfl rfl ?_
  dsimp only [List.set]
  exact loop 0 (Nat.zero_le _)
theorem c_X2_findTruths {Γ : GT} {G : GG} {M : MM} {D : DS} {σ : SG} {c : Nat} (hW : codeF G M.2.2 c) {j : Nat} {k : Nat → CND} (hu : M.1 c 3 = nI j) (hj : j ≤ 20) (hk : ∀ i, i < j → cnIs M (c + 5 + 3 * i) (k i) ∧ cndOk (k i)) (hD : ∀ i, i < 20 → D (c + 5 + 3 * i + 1) = true) : Calls Γ q_X2_findTruths [.ref c] G (wS D M σ) (rV (fun M' => M' = wS D M (ftN c k j σ))) := by
  have hW0 := hW
  obtain ⟨gc, rs, gs, hs, rcc, gcn, hc, rg, gg, rkk, gk⟩ := hW
  refine Calls.intro (by decide +kernel) (Nat.le_of_ble_eq_true rfl) (fun z E h hQ => ?_)
  refine x_loc (L' := [some (.ref c), none]) rfl ?_
  have loop : ∀ i, i ≤ j → X Γ E 0 0 G z (wS D M (ftN c k i σ)) 2 [some (.ref c), some (.int (nI i))] [] := by
    refine upto j (fun i hi ih => ?_)
    refine x_iload_n h dX2_findTruths_2 rfl ?_
    refine x_aload_n h dX2_findTruths_3 rfl ?_
    refine x_getIv h gc f_X2_37 rfl hu dX2_findTruths_4 ?_
    refine x_icmp_ge h 34 dX2_findTruths_7 (by decide) (fun c7 => ?_) (fun c7 => ?_)
    · obtain rfl : i = j := by
        have := (nI_le_iff (by omega) (by omega)).mp c7
        omega
      exact x_vret h hQ rfl dX2_findTruths_34 ⟨rfl, rfl, rfl, rfl⟩
    · have hlt : i < j := by
        have := mt (nI_le_iff (a := j) (b := i) (by omega) (by omega)).mpr c7
        omega
      have h20 : i < 20 := by omega
      refine x_iload_n h dX2_findTruths_10 rfl ?_
      refine x_aload_n h dX2_findTruths_11 rfl ?_
      refine x_getR h gc f_X2_19 rfl rcc dX2_findTruths_12 ?_
      refine x_alen h gcn (by decide) dX2_findTruths_15 ?_
      refine x_icmp_ge h 34 dX2_findTruths_16 (by decide) (fun c16 => ?_) (fun c16 => ?_)
      · exact absurd ((nI_le_iff (by decide) (by omega)).mp c16) (by omega)
      · refine x_aload_n h dX2_findTruths_19 rfl ?_
        refine x_getR h gc f_X2_19 rfl rcc dX2_findTruths_20 ?_
        refine x_iload_n h dX2_findTruths_23 rfl ?_
        refine x_aald h i gcn (by decide) (ix.ni h20 (by decide)) (hc i h20).1 dX2_findTruths_24 ?_
        refine x_cVv h ci_X3_findTruths im_X3_findTruths l_X2_86 ⟨Nat.le_of_ble_eq_true rfl, Nat.le_of_ble_eq_true rfl⟩ ⟨rfl, rfl⟩ ⟨Nat.zero_le _, Nat.zero_le _⟩ (s_findTruths (hc i h20).2.1 (hk i hlt).1 (hk i hlt).2 (hc i h20).2.2.1 ⟨(hc i h20).2.2.2, hD i h20⟩) rfl rfl rfl rfl (hc i h20).2.1 (by decide) rfl dX2_findTruths_25 (fun M25 hp25 => ?_)
        subst hp25
        refine x_incn h dX2_findTruths_28 rfl rfl rfl ?_
        dsimp only [List.set]
        refine x_goto h 2 dX2_findTruths_31 (by decide) ?_
        exact ih hlt
  refine x_in0 h dX2_findTruths_0 ?_
  refine x_istore_n h dX2_findTruths_1 rfl rfl ?_
  dsimp only [List.set]
  exact loop 0 (Nat.zero_le _)
