/-! ===== Flow: guesses into the loops; the reached states; Blame's rounds ===== -/
/-- the guesses of a program: how many, the sets of their conditions -/
abbrev GV : Type := Nat × (Nat → Nat)
def gvW (G : GG) (M : MM) (D : DS) (c : Nat) (V : GV) : Prop := V.1 ≤ 5 ∧ M.1 c 6 = nI V.1 ∧ ∀ g, g < V.1 → ∃ q, M.2.2 (c + 3) g = .ref q ∧ G q = some (.inl 3) ∧ M.2.2 q 3 = .ref (V.2 g) ∧ isD G M.2.2 D (V.2 g)
theorem bit5 : ∀ m, m < 32 → ∀ g, g < 5 → (nI m >>> (nI g &&& 31)) &&& nI 1 = nI (if m.testBit g then 1 else 0) := by decide +kernel
theorem tb_lt {m n g : Nat} (h : m < 2 ^ n) (hg : m.testBit g = true) : g < n := by
  rcases Nat.lt_or_ge g n with q | q
  · exact q
  · rw [Nat.testBit_lt_two_pow (Nat.lt_of_lt_of_le h (Nat.pow_le_pow_right (by decide) q))] at hg
    cases hg
def asgG (a m : Nat) (gt : Nat → Nat) : Nat → SG → SG
  | 0, σ => σ
  | g + 1, σ => if m.testBit g then metσ (asgG a m gt g σ) a (gt g) else asgG a m gt g σ
def asgN (f : Nat) (gn gt : Nat → Nat) : Nat → SG → SG
  | 0, σ => σ
  | i + 1, σ => asgG (f + 10 + 1 + 2 * i) (gn i) gt 5 (upσ (upσ (asgN f gn gt i σ) (f + 3 + 1 + 2 * i) (fun _ => false)) (f + 10 + 1 + 2 * i) (fun _ => true))
def clrN (a : Nat) : Nat → SG → SG
  | 0, σ => σ
  | i + 1, σ => upσ (clrN a i σ) (a + 1 + 2 * i) (fun _ => false)
/-- rounds, until nothing has grown -/
def rnds {α : Type} (step : α → α) (grow : α → Bool) (σ : α) : Nat → α × Bool
  | 0 => (σ, true)
  | r + 1 => if (rnds step grow σ r).2 then (step (rnds step grow σ r).1, grow (rnds step grow σ r).1) else rnds step grow σ r
theorem rnds_stop {α : Type} {step : α → α} {grow : α → Bool} {σ : α} {r : Nat} (h : (rnds step grow σ r).2 = false) : ∀ k, rnds step grow σ (r + k) = rnds step grow σ r
  | 0 => rfl
  | k + 1 => by
    have e := rnds_stop h k
    rw [← Nat.add_assoc, rnds, e, h]
    simp
theorem c_X4_assign {Γ : GT} {G : GG} {M : MM} {D : DS} {σ : SG} {f c : Nat} {ga : Nat} {gn : Nat → Nat} {V : GV} (hf : flowW G M.2.2 D f) (hW : codeF G M.2.2 c) (hV : gvW G M D c V) (gga : G ga = some (.inr (.int, 3))) (hga : ∀ i, i < 3 → M.1 ga i = nI (gn i) ∧ gn i < 2 ^ V.1) : Calls Γ q_X4_assign [.ref f, .ref c, .ref ga] G (wS D M σ) (rV (fun M' => M' = wS D M (asgN f gn V.2 3 σ))) := by
  have hf0 := hf
  obtain ⟨gf, rn, dn, rc, ac, ri, ai, rk, ak, ro, ao, rb, ab⟩ := hf
  have hW0 := hW
  obtain ⟨gc, rs, gs, hs, rcc, gcn, hc, rg, gg, rkk, gk⟩ := hW
  obtain ⟨v5, -, hg⟩ := hV
  refine Calls.intro (by decide +kernel) (Nat.le_of_ble_eq_true rfl) (fun z E h hQ => ?_)
  refine x_loc (L' := [some (.ref f), some (.ref c), some (.ref ga), none, none]) rfl ?_
  have p32 : 2 ^ V.1 ≤ 32 := Nat.pow_le_pow_right (by decide) v5
  have inner : ∀ i, i < 3 → ∀ τ : SG, (∀ w, X Γ E 0 0 G z (wS D M (asgG (f + 10 + 1 + 2 * i) (gn i) V.2 5 τ)) 77 [some (.ref f), some (.ref c), some (.ref ga), some (.int (nI i)), w] []) → ∀ g, g ≤ 5 → X Γ E 0 0 G z (wS D M (asgG (f + 10 + 1 + 2 * i) (gn i) V.2 g τ)) 34 [some (.ref f), some (.ref c), some (.ref ga), some (.int (nI i)), some (.int (nI g))] [] := by
    intro i hlt τ fin
    refine upto 5 (fun g hg5 ih => ?_)
    refine x_iload h dX4_assign_34 rfl ?_
    refine x_in5 h dX4_assign_36 ?_
    refine x_icmp_ge h 77 dX4_assign_37 (by decide) (fun c37 => ?_) (fun c37 => ?_)
    · obtain rfl : g = 5 := up_ge (by decide) hg5 c37
      exact fin _
    · have hl5 : g < 5 := up_lt (by decide) hg5 c37
      refine x_aload_n h dX4_assign_40 rfl ?_
      refine x_iload_n h dX4_assign_41 rfl ?_
      refine x_ialdv h i gga (ix.ni hlt (by decide)) (hga i hlt).1 dX4_assign_42 ?_
      refine x_iload h dX4_assign_43 rfl ?_
      refine x_ishr h dX4_assign_45 ?_
      refine x_in1 h dX4_assign_46 ?_
      refine x_iand h dX4_assign_47 ?_
      refine x_topi (bit5 _ (Nat.lt_of_lt_of_le (hga i hlt).2 p32) g hl5) ?_
      refine x_in1 h dX4_assign_48 ?_
      refine x_icmp_ne h 71 dX4_assign_49 (by decide) (fun c49 => ?_) (fun c49 => ?_)
      · have hb : ¬ (gn i).testBit g = true := fun q => c49 (by rw [if_pos q])
        refine x_incn h dX4_assign_71 rfl rfl rfl ?_
        dsimp only [List.set]
        refine x_goto h 34 dX4_assign_74 (by decide) ?_
        have ihh := ih hl5
        rw [asgG, if_neg hb] at ihh
        exact ihh
      · have hb : (gn i).testBit g = true := by
          cases hx : (gn i).testBit g with
          | true => rfl
          | false => rw [hx] at c49; exact absurd c49 (by decide)
        obtain ⟨q, rq, gq, rt, dt⟩ := hg g (tb_lt (hga i hlt).2 hb)
        refine x_aload_n h dX4_assign_52 rfl ?_
        refine x_getR h gf f_X4_26 rfl ri dX4_assign_53 ?_
        refine x_iload_n h dX4_assign_56 rfl ?_
        refine x_aald h i ai.1 (by decide) (ix.ni hlt (by decide)) (ai.2 i hlt).1 dX4_assign_57 ?_
        refine x_aload_n h dX4_assign_58 rfl ?_
        refine x_getR h gc f_X4_44 rfl rg dX4_assign_59 ?_
        refine x_iload h dX4_assign_62 rfl ?_
        refine x_aald h g gg (by decide) (ix.ni hl5 (by decide)) rq dX4_assign_64 ?_
        refine x_getR h gq f_X4_50 rfl rt dX4_assign_65 ?_
        refine x_cVv h ci_X9_meet im_X9_meet l_X4_55 ⟨Nat.le_of_ble_eq_true rfl, Nat.le_of_ble_eq_true rfl⟩ ⟨rfl, rfl⟩ ⟨Nat.zero_le _, Nat.zero_le _⟩ (s_meet (ai.2 i hlt).2 dt) rfl rfl rfl rfl (ai.2 i hlt).2.1.1 (by decide) rfl dX4_assign_68 (fun M68 hp68 => ?_)
        subst hp68
        refine x_incn h dX4_assign_71 rfl rfl rfl ?_
        dsimp only [List.set]
        refine x_goto h 34 dX4_assign_74 (by decide) ?_
        have ihh := ih hl5
        rw [asgG, if_pos hb] at ihh
        exact ihh
  have outer : ∀ i, i ≤ 3 → ∀ w, X Γ E 0 0 G z (wS D M (asgN f gn V.2 i σ)) 2 [some (.ref f), some (.ref c), some (.ref ga), some (.int (nI i)), w] [] := by
    refine upto 3 (fun i hi ih w => ?_)
    refine x_iload_n h dX4_assign_2 rfl ?_
    refine x_in3 h dX4_assign_3 ?_
    refine x_icmp_ge h 83 dX4_assign_4 (by decide) (fun c4 => ?_) (fun c4 => ?_)
    · obtain rfl : i = 3 := up_ge (by decide) hi c4
      exact x_vret h hQ rfl dX4_assign_83 ⟨rfl, rfl, rfl, rfl⟩
    · have hlt : i < 3 := up_lt (by decide) hi c4
      refine x_iload_n h dX4_assign_7 rfl ?_
      refine x_aload_n h dX4_assign_8 rfl ?_
      refine x_alen h gga (by decide) dX4_assign_9 ?_
      refine x_icmp_ge h 83 dX4_assign_10 (by decide) (fun c10 => ?_) (fun c10 => ?_)
      · exact absurd ((nI_le_iff (by decide) (by omega)).mp c10) (by omega)
      · refine x_aload_n h dX4_assign_13 rfl ?_
        refine x_getR h gf f_X4_22 rfl rc dX4_assign_14 ?_
        refine x_iload_n h dX4_assign_17 rfl ?_
        refine x_aald h i ac.1 (by decide) (ix.ni hlt (by decide)) (ac.2 i hlt).1 dX4_assign_18 ?_
        refine x_cVv h ci_X9_clear im_X9_clear l_X4_38 ⟨Nat.le_of_ble_eq_true rfl, Nat.le_of_ble_eq_true rfl⟩ ⟨rfl, rfl⟩ ⟨Nat.zero_le _, Nat.zero_le _⟩ (s_clear (ac.2 i hlt).2) rfl rfl rfl rfl (ac.2 i hlt).2.1.1 (by decide) rfl dX4_assign_19 (fun M19 hp19 => ?_)
        subst hp19
        refine x_aload_n h dX4_assign_22 rfl ?_
        refine x_getR h gf f_X4_26 rfl ri dX4_assign_23 ?_
        refine x_iload_n h dX4_assign_26 rfl ?_
        refine x_aald h i ai.1 (by decide) (ix.ni hlt (by decide)) (ai.2 i hlt).1 dX4_assign_27 ?_
        refine x_cVv h ci_X9_fill im_X9_fill l_X4_41 ⟨Nat.le_of_ble_eq_true rfl, Nat.le_of_ble_eq_true rfl⟩ ⟨rfl, rfl⟩ ⟨Nat.zero_le _, Nat.zero_le _⟩ (s_fill (ai.2 i hlt).2) rfl rfl rfl rfl (ai.2 i hlt).2.1.1 (by decide) rfl dX4_assign_28 (fun M28 hp28 => ?_)
        subst hp28
        refine x_in0 h dX4_assign_31 ?_
        refine x_istore h dX4_assign_32 rfl rfl ?_
        dsimp only [List.set]
        refine inner i hlt _ (fun w => ?_) 0 (by decide)
        refine x_incn h dX4_assign_77 rfl rfl rfl ?_
        refine x_goto h 2 dX4_assign_80 (by decide) ?_
        exact ih hlt w
  refine x_in0 h dX4_assign_0 ?_
  refine x_istore_n h dX4_assign_1 rfl rfl ?_
  dsimp only [List.set]
  exact outer 0 (by decide) none
def rchS (f bg : Nat) (P : PV) : SG → SG := fun σ => pasN f (f + 3) P P.1 (copσ σ (f + 1) bg)
def rchG (f bg : Nat) (P : PV) : SG → Bool := fun σ => grwN f (f + 3) P P.1 (copσ σ (f + 1) bg)
def rchσ (f bg : Nat) (P : PV) (σ : SG) : SG := (rnds (rchS f bg P) (rchG f bg P) (clrN (f + 3) 3 σ) 650).1
theorem c_X4_reach {Γ : GT} {G : GG} {M : MM} {D : DS} {σ : SG} {f c : Nat} {bg : Nat} {P : PV} (hf : flowW G M.2.2 D f) (hW : codeF G M.2.2 c) (hP : pvW G M D c P) (hbg : isD G M.2.2 D bg) : Calls Γ q_X4_reach [.ref f, .ref c, .ref bg] G (wS D M σ) (rV (fun M' => M' = wS D M (rchσ f bg P σ))) := by
  have hf0 := hf
  obtain ⟨gf, rn, dn, rc, ac, ri, ai, rk, ak, ro, ao, rb, ab⟩ := hf
  refine Calls.intro (by decide +kernel) (Nat.le_of_ble_eq_true rfl) (fun z E h hQ => ?_)
  refine x_loc (L' := [some (.ref f), some (.ref c), some (.ref bg), none, none]) rfl ?_
  have rounds : ∀ r, r ≤ 650 → X Γ E 0 0 G z (wS D M (rnds (rchS f bg P) (rchG f bg P) (clrN (f + 3) 3 σ) r).1) 27 [some (.ref f), some (.ref c), some (.ref bg), some (.int (b2i (rnds (rchS f bg P) (rchG f bg P) (clrN (f + 3) 3 σ) r).2)), some (.int (nI r))] [] := by
    refine upto 650 (fun r hr ih => ?_)
    refine x_iload h dX4_reach_27 rfl ?_
    refine x_sipush h (nI 650) (by decide) dX4_reach_29 ?_
    refine x_icmp_ge h 56 dX4_reach_32 (by decide) (fun c32 => ?_) (fun c32 => ?_)
    · obtain rfl : r = 650 := up_ge (by decide) hr c32
      exact x_vret h hQ rfl dX4_reach_56 ⟨rfl, rfl, rfl, rfl⟩
    · have hlt : r < 650 := up_lt (by decide) hr c32
      refine x_iload_n h dX4_reach_35 rfl ?_
      refine x_if_eq h 56 dX4_reach_36 (by decide) (fun c36 => ?_) (fun c36 => ?_)
      · have hg := b2i_0.mp c36
        have he := rnds_stop hg (650 - r)
        rw [show r + (650 - r) = 650 by omega] at he
        exact x_vret h hQ rfl dX4_reach_56 ⟨rfl, rfl, rfl, by rw [rchσ, he]⟩
      · have hg := bool_nf (fun q => c36 (b2i_0.mpr q))
        refine x_aload_n h dX4_reach_39 rfl ?_
        refine x_aload_n h dX4_reach_40 rfl ?_
        refine x_aload_n h dX4_reach_41 rfl ?_
        refine x_aload_n h dX4_reach_42 rfl ?_
        refine x_getR h gf f_X4_22 rfl rc dX4_reach_43 ?_
        refine x_cVi h ci_X4_pass im_X4_pass l_X4_59 ⟨Nat.le_of_ble_eq_true rfl, Nat.le_of_ble_eq_true rfl⟩ ⟨rfl, rfl⟩ ⟨Nat.zero_le _, Nat.zero_le _⟩ (c_X4_pass hf0 hW hP hbg ac) rfl rfl rfl rfl gf (by decide) rfl dX4_reach_46 (fun v46 M46 hp46 => ?_)
        obtain ⟨rfl, rfl⟩ := hp46
        refine x_istore_n h dX4_reach_49 rfl rfl ?_
        dsimp only [List.set]
        refine x_incn h dX4_reach_50 rfl rfl rfl ?_
        dsimp only [List.set]
        refine x_goto h 27 dX4_reach_53 (by decide) ?_
        have ihh := ih hlt
        simp only [rnds, hg, if_true] at ihh
        exact ihh
  have clears : ∀ i, i ≤ 3 → X Γ E 0 0 G z (wS D M (clrN (f + 3) i σ)) 2 [some (.ref f), some (.ref c), some (.ref bg), some (.int (nI i)), none] [] := by
    refine upto 3 (fun i hi ih => ?_)
    refine x_iload_n h dX4_reach_2 rfl ?_
    refine x_in3 h dX4_reach_3 ?_
    refine x_icmp_ge h 22 dX4_reach_4 (by decide) (fun c4 => ?_) (fun c4 => ?_)
    · obtain rfl : i = 3 := up_ge (by decide) hi c4
      refine x_ic1 h dX4_reach_22 ?_
      refine x_istore_n h dX4_reach_23 rfl rfl ?_
      dsimp only [List.set]
      refine x_in0 h dX4_reach_24 ?_
      refine x_istore h dX4_reach_25 rfl rfl ?_
      dsimp only [List.set]
      exact rounds 0 (by decide)
    · have hlt : i < 3 := up_lt (by decide) hi c4
      refine x_aload_n h dX4_reach_7 rfl ?_
      refine x_getR h gf f_X4_22 rfl rc dX4_reach_8 ?_
      refine x_iload_n h dX4_reach_11 rfl ?_
      refine x_aald h i ac.1 (by decide) (ix.ni hlt (by decide)) (ac.2 i hlt).1 dX4_reach_12 ?_
      refine x_cVv h ci_X9_clear im_X9_clear l_X4_38 ⟨Nat.le_of_ble_eq_true rfl, Nat.le_of_ble_eq_true rfl⟩ ⟨rfl, rfl⟩ ⟨Nat.zero_le _, Nat.zero_le _⟩ (s_clear (ac.2 i hlt).2) rfl rfl rfl rfl (ac.2 i hlt).2.1.1 (by decide) rfl dX4_reach_13 (fun M13 hp13 => ?_)
      subst hp13
      refine x_incn h dX4_reach_16 rfl rfl rfl ?_
      dsimp only [List.set]
      refine x_goto h 2 dX4_reach_19 (by decide) ?_
      exact ih hlt
  refine x_in0 h dX4_reach_0 ?_
  refine x_istore_n h dX4_reach_1 rfl rfl ?_
  dsimp only [List.set]
  exact clears 0 (by decide)
def blmS (f ck : Nat) (P : PV) : SG → SG := fun σ => bpaN f P ck P.1 (upσ σ (f + 1) (fun _ => false))
def blmG (f ck : Nat) (P : PV) : SG → Bool := fun σ => bgrN f P ck P.1 (upσ σ (f + 1) (fun _ => false))
def blmσ (f ck : Nat) (P : PV) (σ : SG) : SG := (rnds (blmS f ck P) (blmG f ck P) (clrN (f + 3) 3 σ) 650).1
theorem c_X1_find {Γ : GT} {G : GG} {M : MM} {D : DS} {σ : SG} {f c : Nat} {ck re : Nat} {P : PV} (hf : blameW G M.2.2 D f) (hW : codeF G M.2.2 c) (hP : pvW G M D c P) (hck : ck < 4) (hre : isD G M.2.2 D re) : Calls Γ q_X1_find [.ref f, .ref c, .int (nI ck), .ref re] G (wS D M σ) (rV (fun M' => M' = wS D M (copσ (blmσ f ck P σ) re (f + 1)))) := by
  have hf0 := hf
  obtain ⟨gf, rn, dn, rl, al, -⟩ := hf
  refine Calls.intro (by decide +kernel) (Nat.le_of_ble_eq_true rfl) (fun z E h hQ => ?_)
  refine x_loc (L' := [some (.ref f), some (.ref c), some (.int (nI ck)), some (.ref re), none, none]) rfl ?_
  have rounds : ∀ r, r ≤ 650 → X Γ E 0 0 G z (wS D M (rnds (blmS f ck P) (blmG f ck P) (clrN (f + 3) 3 σ) r).1) 31 [some (.ref f), some (.ref c), some (.int (nI ck)), some (.ref re), some (.int (b2i (rnds (blmS f ck P) (blmG f ck P) (clrN (f + 3) 3 σ) r).2)), some (.int (nI r))] [] := by
    refine upto 650 (fun r hr ih => ?_)
    refine x_iload h dX1_find_31 rfl ?_
    refine x_sipush h (nI 650) (by decide) dX1_find_33 ?_
    refine x_icmp_ge h 58 dX1_find_36 (by decide) (fun c36 => ?_) (fun c36 => ?_)
    · obtain rfl : r = 650 := up_ge (by decide) hr c36
      refine x_aload_n h dX1_find_58 rfl ?_
      refine x_aload_n h dX1_find_59 rfl ?_
      refine x_getR h gf f_X1_12 rfl rn dX1_find_60 ?_
      refine x_cVv h ci_X9_copy im_X9_copy l_X1_42 ⟨Nat.le_of_ble_eq_true rfl, Nat.le_of_ble_eq_true rfl⟩ ⟨rfl, rfl⟩ ⟨Nat.zero_le _, Nat.zero_le _⟩ (s_copy hre dn) rfl rfl rfl rfl hre.1.1 (by decide) rfl dX1_find_63 (fun M63 hp63 => ?_)
      subst hp63
      exact x_vret h hQ rfl dX1_find_66 ⟨rfl, rfl, rfl, rfl⟩
    · have hlt : r < 650 := up_lt (by decide) hr c36
      refine x_iload h dX1_find_39 rfl ?_
      refine x_if_eq h 58 dX1_find_41 (by decide) (fun c41 => ?_) (fun c41 => ?_)
      · have hg := b2i_0.mp c41
        have he := rnds_stop hg (650 - r)
        rw [show r + (650 - r) = 650 by omega] at he
        refine x_aload_n h dX1_find_58 rfl ?_
        refine x_aload_n h dX1_find_59 rfl ?_
        refine x_getR h gf f_X1_12 rfl rn dX1_find_60 ?_
        refine x_cVv h ci_X9_copy im_X9_copy l_X1_42 ⟨Nat.le_of_ble_eq_true rfl, Nat.le_of_ble_eq_true rfl⟩ ⟨rfl, rfl⟩ ⟨Nat.zero_le _, Nat.zero_le _⟩ (s_copy hre dn) rfl rfl rfl rfl hre.1.1 (by decide) rfl dX1_find_63 (fun M63 hp63 => ?_)
        subst hp63
        exact x_vret h hQ rfl dX1_find_66 ⟨rfl, rfl, rfl, by rw [blmσ, he]⟩
      · have hg := bool_nf (fun q => c41 (b2i_0.mpr q))
        refine x_aload_n h dX1_find_44 rfl ?_
        refine x_aload_n h dX1_find_45 rfl ?_
        refine x_iload_n h dX1_find_46 rfl ?_
        refine x_cVi h ci_X1_pass im_X1_pass l_X1_38 ⟨Nat.le_of_ble_eq_true rfl, Nat.le_of_ble_eq_true rfl⟩ ⟨rfl, rfl⟩ ⟨Nat.zero_le _, Nat.zero_le _⟩ (c_X1_pass hf0 hW hP hck) rfl rfl rfl rfl gf (by decide) rfl dX1_find_47 (fun v47 M47 hp47 => ?_)
        obtain ⟨rfl, rfl⟩ := hp47
        refine x_istore h dX1_find_50 rfl rfl ?_
        dsimp only [List.set]
        refine x_incn h dX1_find_52 rfl rfl rfl ?_
        dsimp only [List.set]
        refine x_goto h 31 dX1_find_55 (by decide) ?_
        have ihh := ih hlt
        simp only [rnds, hg, if_true] at ihh
        exact ihh
  have clears : ∀ i, i ≤ 3 → X Γ E 0 0 G z (wS D M (clrN (f + 3) i σ)) 3 [some (.ref f), some (.ref c), some (.int (nI ck)), some (.ref re), some (.int (nI i)), none] [] := by
    refine upto 3 (fun i hi ih => ?_)
    refine x_iload h dX1_find_3 rfl ?_
    refine x_in3 h dX1_find_5 ?_
    refine x_icmp_ge h 25 dX1_find_6 (by decide) (fun c6 => ?_) (fun c6 => ?_)
    · obtain rfl : i = 3 := up_ge (by decide) hi c6
      refine x_ic1 h dX1_find_25 ?_
      refine x_istore h dX1_find_26 rfl rfl ?_
      dsimp only [List.set]
      refine x_in0 h dX1_find_28 ?_
      refine x_istore h dX1_find_29 rfl rfl ?_
      dsimp only [List.set]
      exact rounds 0 (by decide)
    · have hlt : i < 3 := up_lt (by decide) hi c6
      refine x_aload_n h dX1_find_9 rfl ?_
      refine x_getR h gf f_X1_22 rfl rl dX1_find_10 ?_
      refine x_iload h dX1_find_13 rfl ?_
      refine x_aald h i al.1 (by decide) (ix.ni hlt (by decide)) (al.2 i hlt).1 dX1_find_15 ?_
      refine x_cVv h ci_X9_clear im_X9_clear l_X1_35 ⟨Nat.le_of_ble_eq_true rfl, Nat.le_of_ble_eq_true rfl⟩ ⟨rfl, rfl⟩ ⟨Nat.zero_le _, Nat.zero_le _⟩ (s_clear (al.2 i hlt).2) rfl rfl rfl rfl (al.2 i hlt).2.1.1 (by decide) rfl dX1_find_16 (fun M16 hp16 => ?_)
      subst hp16
      refine x_incn h dX1_find_19 rfl rfl rfl ?_
      dsimp only [List.set]
      refine x_goto h 3 dX1_find_22 (by decide) ?_
      exact ih hlt
  refine x_in0 h dX1_find_0 ?_
  refine x_istore h dX1_find_1 rfl rfl ?_
  dsimp only [List.set]
  exact clears 0 (by decide)
