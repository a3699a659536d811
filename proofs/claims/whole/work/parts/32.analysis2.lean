/-! ===== Analysis.firstFalse ===== -/
def lowN (w : Nat) : Nat := if w.testBit 0 then 0 else if w.testBit 1 then 1 else if w.testBit 2 then 2 else if w.testBit 3 then 3 else 4
theorem lowN_ok : ∀ w, w < 32 → w ≠ 0 → w % 2 ^ (lowN w + 1) = 2 ^ lowN w ∧ lowN w < 5 := by decide +kernel
/-- the code is seen alike in a memory that keeps its ints -/
theorem codeX_ne {G : GG} {M N : MM} {D : DS} {c nl : Nat} {P : PV} {V K : GV} (h : codeX G M D c P V K nl) (hi : ∀ b j, c ≤ b → b < c + 125 → N.1 b j = M.1 b j) (hr : N.2.2 = M.2.2) : codeX G N D c P V K nl := by
  obtain ⟨h1, ⟨p1, p2, p3⟩, ⟨g1, g2, g3⟩, ⟨k1, k2, k3⟩, l1, l2⟩ := h
  refine ⟨by rw [hr]; exact h1, ⟨p1, (hi _ _ (by omega) (by omega)).trans p2, fun i q => ?_⟩, ⟨g1, (hi _ _ (by omega) (by omega)).trans g2, by rw [hr]; exact g3⟩, ⟨k1, (hi _ _ (by omega) (by omega)).trans k2, by rw [hr]; exact k3⟩, (hi _ _ (by omega) (by omega)).trans l1, l2⟩
  obtain ⟨⟨s1, s2, s3, s4, s5⟩, r⟩ := p3 i q
  exact ⟨⟨s1, (hi _ _ (by omega) (by omega)).trans s2, (hi _ _ (by omega) (by omega)).trans s3, (hi _ _ (by omega) (by omega)).trans s4, by rw [hr]; exact s5⟩, r⟩
/-- the guesses at the loops, one loop's replaced -/
def ffG (gv : Nat → Nat) (l gs : Nat) : Nat → Nat := fun i => if i = l then gs else gv i
def ffσ (n : Nat) (P : PV) (V : GV) (gv : Nat → Nat) (σ : SG) : SG := pasN (n + 85 + 1) (n + 85 + 1 + 10) P P.1 (copσ (asgN (n + 85 + 1) gv V.2 3 σ) (n + 85 + 1 + 1) (n + 1))
def ffW (n : Nat) (P : PV) (V : GV) (gv : Nat → Nat) (l : Nat) (σ : SG) : Nat := enN (fgS (ffσ n P V gv σ) (n + 85 + 1 + 3 + 1 + 2 * l) (gv l) V.2) 0 5
theorem invR_lt {f bg : Nat} {P : PV} {V : GV} {nl act : Nat} {σ : SG} (hact : act < 2 ^ V.1) (l : Nat) : (invR f bg P V nl act σ).2 l < 2 ^ V.1 := by
  have bnd : ∀ r l, (rnds (invS f bg P V nl) (invG f bg P V nl) (σ, fun _ => act) r).1.2 l < 2 ^ V.1 := by
    intro r
    induction r with
    | zero => intro l; exact hact
    | succ r ih =>
      intro l
      rw [rnds]
      split
      · show (if l < nl then _ else _) < _
        split
        · exact Nat.lt_of_le_of_lt (difG_le _ _) (ih l)
        · exact ih l
      · exact ih l
  exact bnd 16 l
theorem c_X0_firstFalse {Γ : GT} {G : GG} {M : MM} {D : DS} {σ : SG} {n : Nat} (hA : anW G M.2.2 D n) {c nl : Nat} {P : PV} {V K : GV} (rc : M.2.2 n 0 = .ref c) (hX : codeX G M D c P V K nl) (hd : c + 125 ≤ n) {act l gs : Nat} {ga : Nat → Nat} (hact : act < 2 ^ V.1) (hl : l < 3) (hgs : gs < 2 ^ V.1) (hga : M.1 n 6 = nI act → (∀ i, i < 3 → M.1 (n + 43 + 41) i = nI (ga i)) ∧ (∀ i, ga i < 2 ^ V.1)) : Calls Γ q_X0_firstFalse [.ref n, .int (nI l), .int (nI gs), .int (nI act)] G (wS D M σ) (rI (fun y M' => ∃ (N : MM) (τ : SG) (gb : Nat → Nat), (M.1 n 6 = nI act → N = M ∧ τ = σ ∧ gb = ga) ∧ (M.1 n 6 ≠ nI act → N = sI (wI M (n + 43 + 41) 3 (fun i => nI ((invR (n + 43 + 1) (n + 1) P V nl act σ).2 i))) n 6 (nI act) ∧ τ = (invR (n + 43 + 1) (n + 1) P V nl act σ).1 ∧ gb = (invR (n + 43 + 1) (n + 1) P V nl act σ).2) ∧ y = (if ffW n P V (ffG gb l gs) l τ = 0 then -9 else nI (lowN (ffW n P V (ffG gb l gs) l τ))) ∧ M' = wS D (wI N (n + 85 + 41) 3 (fun i => nI (ffG gb l gs i))) (ffσ n P V (ffG gb l gs) τ))) := by
  refine Calls.intro (by decide +kernel) (Nat.le_of_ble_eq_true rfl) (fun z E h hQ => ?_)
  refine x_loc (L' := [some (.ref n), some (.int (nI l)), some (.int (nI gs)), some (.int (nI act)), none, none]) rfl ?_
  have rest : ∀ (N : MM) (τ : SG) (gb : Nat → Nat), anW G N.2.2 D n → N.2.2 n 0 = .ref c → codeX G N D c P V K nl → (∀ i, i < 3 → N.1 (n + 43 + 41) i = nI (gb i)) → (∀ i, gb i < 2 ^ V.1) → (M.1 n 6 = nI act → N = M ∧ τ = σ ∧ gb = ga) → (M.1 n 6 ≠ nI act → N = sI (wI M (n + 43 + 41) 3 (fun i => nI ((invR (n + 43 + 1) (n + 1) P V nl act σ).2 i))) n 6 (nI act) ∧ τ = (invR (n + 43 + 1) (n + 1) P V nl act σ).1 ∧ gb = (invR (n + 43 + 1) (n + 1) P V nl act σ).2) → X Γ E 0 0 G z (wS D N τ) 5 [some (.ref n), some (.int (nI l)), some (.int (nI gs)), some (.int (nI act)), none, none] [.ref (n + 43)] := by
    intro N τ gb hA rc hX hgi hgb d1 d2
    have hA0 := hA
    obtain ⟨gn, rb, db, rr, fr, rp, ip, rt, it, rv, gv, rm, bm, rx, ax⟩ := hA
    have hfb : ∀ i, ffG gb l gs i < 2 ^ V.1 := by
      intro i
      unfold ffG
      split
      · exact hgs
      · exact hgb i
    have hX2 : codeX G (wI N (n + 85 + 41) 3 (fun i => nI (ffG gb l gs i))) D c P V K nl := codeX_ne hX (fun b j h1 h2 => wI_ne _ _ _ _ (by omega)) rfl
    have loop : ∀ i, i ≤ 3 → X Γ E 0 0 G z (wI (wS D N τ) (n + 85 + 41) i (fun i => nI (ffG gb l gs i))) 13 [some (.ref n), some (.int (nI l)), some (.int (nI gs)), some (.int (nI act)), some (.ref (n + 43 + 41)), some (.int (nI i))] [] := by
      refine upto 3 (fun i hi ih => ?_)
      refine x_iload h dX0_firstFalse_13 rfl ?_
      refine x_aload_n h dX0_firstFalse_15 rfl ?_
      refine x_getR h gn f_X0_32 rfl rt dX0_firstFalse_16 ?_
      refine x_getR h it.1 f_X0_107 rfl it.2.2.2.1 dX0_firstFalse_19 ?_
      refine x_alen h it.2.2.2.2 (by decide) dX0_firstFalse_22 ?_
      refine x_icmp_ge h 65 dX0_firstFalse_23 (by decide) (fun c23 => ?_) (fun c23 => ?_)
      · obtain rfl : i = 3 := up_ge (by decide) hi c23
        refine x_mem (M' := wS D (wI N (n + 85 + 41) 3 (fun i => nI (ffG gb l gs i))) τ) rfl ?_
        refine x_aload_n h dX0_firstFalse_65 rfl ?_
        refine x_getR h gn f_X0_32 rfl rt dX0_firstFalse_66 ?_
        refine x_getR h it.1 f_X0_94 rfl it.2.1 dX0_firstFalse_69 ?_
        refine x_aload_n h dX0_firstFalse_72 rfl ?_
        refine x_getR h gn f_X0_58 rfl rc dX0_firstFalse_73 ?_
        refine x_aload_n h dX0_firstFalse_76 rfl ?_
        refine x_getR h gn f_X0_32 rfl rt dX0_firstFalse_77 ?_
        refine x_getR h it.1 f_X0_107 rfl it.2.2.2.1 dX0_firstFalse_80 ?_
        refine x_cVv h ci_X4_assign im_X4_assign l_X0_110 ⟨Nat.le_of_ble_eq_true rfl, Nat.le_of_ble_eq_true rfl⟩ ⟨rfl, rfl⟩ ⟨Nat.zero_le _, Nat.zero_le _⟩ (c_X4_assign (M := wI N (n + 85 + 41) 3 (fun i => nI (ffG gb l gs i))) (gn := ffG gb l gs) it.2.2.1 hX2.1 hX2.2.2.1 it.2.2.2.2 (fun i hi => ⟨by rw [wI_at, if_pos hi], hfb i⟩)) rfl rfl rfl rfl it.2.2.1.1 (by decide) rfl dX0_firstFalse_83 (fun M83 hp83 => ?_)
        subst hp83
        refine x_aload_n h dX0_firstFalse_86 rfl ?_
        refine x_getR h gn f_X0_32 rfl rt dX0_firstFalse_87 ?_
        refine x_getR h it.1 f_X0_94 rfl it.2.1 dX0_firstFalse_90 ?_
        refine x_aload_n h dX0_firstFalse_93 rfl ?_
        refine x_getR h gn f_X0_58 rfl rc dX0_firstFalse_94 ?_
        refine x_aload_n h dX0_firstFalse_97 rfl ?_
        refine x_getR h gn f_X0_12 rfl rb dX0_firstFalse_98 ?_
        refine x_aload_n h dX0_firstFalse_101 rfl ?_
        refine x_getR h gn f_X0_32 rfl rt dX0_firstFalse_102 ?_
        refine x_getR h it.1 f_X0_94 rfl it.2.1 dX0_firstFalse_105 ?_
        refine x_getR h it.2.2.1.1 f_X0_114 rfl it.2.2.1.2.2.2.2.2.1 dX0_firstFalse_108 ?_
        refine x_cVi h ci_X4_pass im_X4_pass l_X0_117 ⟨Nat.le_of_ble_eq_true rfl, Nat.le_of_ble_eq_true rfl⟩ ⟨rfl, rfl⟩ ⟨Nat.zero_le _, Nat.zero_le _⟩ (c_X4_pass (M := wI N (n + 85 + 41) 3 (fun i => nI (ffG gb l gs i))) it.2.2.1 hX2.1 hX2.2.1 db it.2.2.1.2.2.2.2.2.2.1) rfl rfl rfl rfl it.2.2.1.1 (by decide) rfl dX0_firstFalse_111 (fun v111 M111 hp111 => ?_)
        obtain ⟨-, rfl⟩ := hp111
        refine x_pop h rfl dX0_firstFalse_114 ?_
        refine x_aload_n h dX0_firstFalse_115 rfl ?_
        refine x_getR h gn f_X0_32 rfl rt dX0_firstFalse_116 ?_
        refine x_aload_n h dX0_firstFalse_119 rfl ?_
        refine x_getR h gn f_X0_58 rfl rc dX0_firstFalse_120 ?_
        refine x_iload_n h dX0_firstFalse_123 rfl ?_
        refine x_cVi h ci_X5_falseGuesses im_X5_falseGuesses l_X0_121 ⟨Nat.le_of_ble_eq_true rfl, Nat.le_of_ble_eq_true rfl⟩ ⟨rfl, rfl⟩ ⟨Nat.zero_le _, Nat.zero_le _⟩ (c_X5_falseGuesses (M := wI N (n + 85 + 41) 3 (fun i => nI (ffG gb l gs i))) (gn := ffG gb l gs l) it hX2.1 hX2.2.2.1 hl (by rw [wI_at, if_pos hl]) (hfb l)) rfl rfl rfl rfl it.1 (by decide) rfl dX0_firstFalse_124 (fun v124 M124 hp124 => ?_)
        obtain ⟨rfl, hM⟩ := hp124
        obtain rfl := hM.symm
        clear hM
        refine x_istore h dX0_firstFalse_127 rfl rfl ?_
        dsimp only [List.set]
        refine x_iload h dX0_firstFalse_129 rfl ?_
        refine x_if_ne h 139 dX0_firstFalse_131 (by decide) (fun c131 => ?_) (fun c131 => ?_)
        · have hz : ¬ ffW n P V (ffG gb l gs) l τ = 0 := fun q => c131 ((congrArg nI q).trans nI_0)
          have hlow := lowN_ok _ (enN_lt _ 0 5) hz
          refine x_iload h dX0_firstFalse_139 rfl ?_
          refine x_cSi h ci_J6_numberOfTrailingZeros sm_J6_numberOfTrailingZeros l_X0_125 ⟨Nat.le_of_ble_eq_true rfl, Nat.le_of_ble_eq_true rfl⟩ ⟨rfl, rfl⟩ ⟨Nat.zero_le _, Nat.zero_le _⟩ (c_J6_ntz hlow.1 (by omega)) rfl rfl rfl rfl dX0_firstFalse_141 (fun v141 M141 hp141 => ?_)
          obtain ⟨rfl, hM⟩ := hp141
          obtain rfl := hM.symm
          clear hM
          exact x_iret h hQ rfl dX0_firstFalse_144 ⟨rfl, rfl, _, rfl, N, τ, gb, d1, d2, (if_neg hz).symm, rfl⟩
        · have hz : ffW n P V (ffG gb l gs) l τ = 0 := nI_small _ (Nat.lt_trans (enN_lt _ 0 5) (by decide)) (by decide) (c131.trans nI_0.symm)
          refine x_bipush h (-9) (by decide) dX0_firstFalse_134 ?_
          refine x_goto h 144 dX0_firstFalse_136 (by decide) ?_
          exact x_iret h hQ rfl dX0_firstFalse_144 ⟨rfl, rfl, _, rfl, N, τ, gb, d1, d2, (if_pos hz).symm, rfl⟩
      · have hlt : i < 3 := up_lt (by decide) hi c23
        refine x_iload h dX0_firstFalse_26 rfl ?_
        refine x_aload h dX0_firstFalse_28 rfl ?_
        refine x_alen h ip.2.2.2.2 (by decide) dX0_firstFalse_30 ?_
        refine x_icmp_ge h 65 dX0_firstFalse_31 (by decide) (fun c31 => ?_) (fun c31 => ?_)
        · exact absurd ((nI_le_iff (by decide) (by omega)).mp c31) (by omega)
        · refine x_aload_n h dX0_firstFalse_34 rfl ?_
          refine x_getR h gn f_X0_32 rfl rt dX0_firstFalse_35 ?_
          refine x_getR h it.1 f_X0_107 rfl it.2.2.2.1 dX0_firstFalse_38 ?_
          refine x_iload h dX0_firstFalse_41 rfl ?_
          refine x_iload h dX0_firstFalse_43 rfl ?_
          refine x_iload_n h dX0_firstFalse_45 rfl ?_
          refine x_icmp_ne h 53 dX0_firstFalse_46 (by decide) (fun c46 => ?_) (fun c46 => ?_)
          · have hil : ¬ i = l := fun q => c46 (by rw [q])
            refine x_aload h dX0_firstFalse_53 rfl ?_
            refine x_iload h dX0_firstFalse_55 rfl ?_
            refine x_ialdv h i ip.2.2.2.2 (ix.ni hlt (by decide)) (show _ = nI (gb i) from (wI_ne (p := n + 85 + 41) (b := n + 43 + 41) (wS D N τ) i (fun i => nI (ffG gb l gs i)) i (by omega)).trans (hgi i hlt)) dX0_firstFalse_57 ?_
            refine x_iastw h i it.2.2.2.2 (ix.ni hlt (by decide)) (show _ = (fun i => nI (ffG gb l gs i)) i from by simp [ffG, hil]) dX0_firstFalse_58 ?_
            refine x_incn h dX0_firstFalse_59 rfl rfl rfl ?_
            dsimp only [List.set]
            refine x_goto h 13 dX0_firstFalse_62 (by decide) ?_
            exact ih hlt
          · have hil : i = l := nI_small l (by omega) (by omega) c46
            refine x_iload_n h dX0_firstFalse_49 rfl ?_
            refine x_goto h 58 dX0_firstFalse_50 (by decide) ?_
            refine x_iastw h i it.2.2.2.2 (ix.ni hlt (by decide)) (show _ = (fun i => nI (ffG gb l gs i)) i from by simp [ffG, hil]) dX0_firstFalse_58 ?_
            refine x_incn h dX0_firstFalse_59 rfl rfl rfl ?_
            dsimp only [List.set]
            refine x_goto h 13 dX0_firstFalse_62 (by decide) ?_
            exact ih hlt
    refine x_getR h ip.1 f_X0_107 rfl ip.2.2.2.1 dX0_firstFalse_5 ?_
    refine x_astore h dX0_firstFalse_8 rfl rfl ?_
    dsimp only [List.set]
    refine x_in0 h dX0_firstFalse_10 ?_
    refine x_istore h dX0_firstFalse_11 rfl rfl ?_
    dsimp only [List.set]
    have hl0 := loop 0 (by decide)
    rw [wI_0] at hl0
    exact hl0
  refine x_aload_n h dX0_firstFalse_0 rfl ?_
  refine x_iload_n h dX0_firstFalse_1 rfl ?_
  refine x_cVr h ci_X0_invariants im_X0_invariants l_X0_103 ⟨Nat.le_of_ble_eq_true rfl, Nat.le_of_ble_eq_true rfl⟩ ⟨rfl, rfl⟩ ⟨Nat.zero_le _, Nat.zero_le _⟩ (c_X0_invariants hA rc hX hd hact) rfl rfl rfl rfl hA.1 (by decide) rfl dX0_firstFalse_2 (fun v2 M2 hp2 => ?_)
  obtain ⟨rfl, q1, q2⟩ := hp2
  by_cases hq : M.1 n 6 = nI act
  · obtain rfl := (q1 hq).symm
    exact rest M σ ga hA rc hX (hga hq).1 (hga hq).2 (fun _ => ⟨rfl, rfl, rfl⟩) (fun q => absurd hq q)
  obtain rfl := (q2 hq).symm
  have fin := rest _ _ _ (show anW G (sI (wI M (n + 43 + 41) 3 (fun i => nI ((invR (n + 43 + 1) (n + 1) P V nl act σ).2 i))) n 6 (nI act)).2.2 D n from hA) rc (codeX_ne hX (fun b j h1 h2 => (up2_ne _ _ (by omega)).trans (wI_ne _ _ _ _ (by omega))) rfl) (fun i hi => (up2_ne _ _ (by omega)).trans ((wI_at _ _ _ _ _).trans (if_pos hi))) (fun i => invR_lt hact i) (fun q => absurd q hq) (fun _ => ⟨rfl, rfl, rfl⟩)
  exact fin
