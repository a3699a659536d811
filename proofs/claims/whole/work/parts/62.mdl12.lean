/-! ===== the reference: falls, fewest, share, lost ===== -/
theorem sub_and {x a : Int32} (h : x &&& (a ^^^ (-1)) = 0) : x &&& a = x := by
  apply Int32.toBitVec_inj.mp
  have h2 := congrArg Int32.toBitVec h
  rw [Int32.toBitVec_and, Int32.toBitVec_xor] at h2
  rw [Int32.toBitVec_and]
  apply BitVec.eq_of_getLsbD_eq
  intro i hi
  have h3 := congrArg (fun b => b.getLsbD i) h2
  have e1 : (Int32.toBitVec (-1)).getLsbD i = true := by
    have : Int32.toBitVec (-1) = BitVec.allOnes 32 := by decide
    rw [this, BitVec.getLsbD_allOnes]; exact decide_eq_true hi
  have e0 : (Int32.toBitVec 0).getLsbD i = false := by
    have : Int32.toBitVec 0 = 0#32 := by decide
    rw [this]; simp
  simp only [BitVec.getLsbD_and, BitVec.getLsbD_xor, e1, e0] at h3
  rw [BitVec.getLsbD_and]
  cases hx : x.toBitVec.getLsbD i <;> cases ha : a.toBitVec.getLsbD i <;> simp_all
theorem sub_nat {x : Int32} {a : Nat} (ha : a < 32) (h0 : ¬ x < 0) (h : x &&& (nI a ^^^ (-1)) = 0) : ∃ w, w < 32 ∧ w &&& a = w ∧ x = nI w := by
  have e := sub_and h
  have hx : 0 ≤ x.toInt := by
    have := mt Int32.lt_iff_toInt_lt.mpr h0
    have e0 : (0 : Int32).toInt = 0 := by decide
    omega
  have hb : x.toInt < 2 ^ 31 := by have := Int32.toInt_lt x; omega
  have e2 := i32_nat hx
  have hn : x.toInt.toNat < 2 ^ 31 := by omega
  rw [e2, fa_and] at e
  have hle : x.toInt.toNat &&& a ≤ a := Nat.and_le_right
  have e3 := nI_small _ (by omega) hn e
  exact ⟨_, by omega, e3, e2⟩
theorem dif_sub : ∀ a, a < 32 → ∀ w, w < 32 → (difG w a = 0 ↔ w &&& a = w) := by decide +kernel
/-- the smallest guess of a set that is false in what comes to a loop which is given the set -/
def flsV (pg : PGM) (su : SU) (l w : Nat) : Int32 := if fa_first (fun gi => w.testBit gi && !soA pg.2.1 (lcP pg.1 pg.2.1 (upN (hsP pg su) l w) su.1).1 gi (pg.2.2.2.1.2 l)) pg.2.1.1 < pg.2.1.1 then nI (fa_first (fun gi => w.testBit gi && !soA pg.2.1 (lcP pg.1 pg.2.1 (upN (hsP pg su) l w) su.1).1 gi (pg.2.2.2.1.2 l)) pg.2.1.1) else -9
/-- the first from k on -/
def frm9 (p : Nat → Bool) (n : Nat) : Nat → Int32
  | 0 => -9
  | j + 1 => if p (n - 1 - j) then nI (n - 1 - j) else frm9 p n j
theorem frm9_yes {p : Nat → Bool} {n j : Nat} (h : p (n - 1 - j) = true) : frm9 p n (j + 1) = nI (n - 1 - j) := if_pos h
theorem frm9_no {p : Nat → Bool} {n j : Nat} (h : p (n - 1 - j) = false) : frm9 p n (j + 1) = frm9 p n j := if_neg (by rw [h]; decide)
theorem frm9_ge {p : Nat → Bool} {n : Nat} : ∀ j, j ≤ n → (frm9 p n j = -9 ∧ ∀ i, n - j ≤ i → i < n → p i = false) ∨ ∃ i, n - j ≤ i ∧ i < n ∧ p i = true ∧ (∀ u, n - j ≤ u → u < i → p u = false) ∧ frm9 p n j = nI i
  | 0, _ => Or.inl ⟨rfl, fun i h1 h2 => absurd h2 (by omega)⟩
  | j + 1, hj => by
    unfold frm9
    cases hp : p (n - 1 - j) with
    | true => exact Or.inr ⟨n - 1 - j, by omega, by omega, hp, fun u h1 h2 => absurd h2 (by omega), rfl⟩
    | false =>
      rcases frm9_ge (p := p) (n := n) j (by omega) with ⟨a, b⟩ | ⟨i, a, b, c, d, e⟩
      · refine Or.inl ⟨a, fun i h1 h2 => ?_⟩
        rcases Nat.lt_or_ge i (n - j) with q | q
        · rw [show i = n - 1 - j by omega]; exact hp
        · exact b i q h2
      · refine Or.inr ⟨i, by omega, b, c, fun u h1 h2 => ?_, e⟩
        rcases Nat.lt_or_ge u (n - j) with q | q
        · rw [show u = n - 1 - j by omega]; exact hp
        · exact d u q h2
theorem frm9_first {p : Nat → Bool} {n : Nat} : frm9 p n n = (if fa_first p n < n then nI (fa_first p n) else -9) := by
  have h1 := fa_first_le p n
  have h2 := fa_first_no p n
  have h3 := fa_first_yes p n
  rcases frm9_ge (p := p) (n := n) n (Nat.le_refl _) with ⟨a, b⟩ | ⟨i, a, b, c, d, e⟩
  · rw [a]
    by_cases q : fa_first p n < n
    · have := b _ (by omega) q
      rw [h3 q] at this; cases this
    · rw [if_neg q]
  · rw [e]
    have e2 : fa_first p n = i := by
      rcases Nat.lt_trichotomy (fa_first p n) i with q | q | q
      · have := d (fa_first p n) (by omega) q
        rw [h3 (by omega)] at this; cases this
      · exact q
      · have := h2 i q
        rw [c] at this; cases this
    rw [e2, if_pos b]
theorem c_X12_falls_0 {Γ : GT} {G : GG} {M : MM} {m : Nat} (hF : mdF G M.2.2 m) {tx : Nat → Nat} {len : Nat} {pg : PGM} {su : SU} {hy : HY} {kp : KP} {ze : SE} {sd : Int64} (hI : mInv M m tx len pg su hy kp ze sd) {x w : Int32} (hx : ∀ n, n < pg.2.2.2.1.1 → x ≠ nI n) : Calls Γ q_X12_falls [.ref m, .int x, .int w] G M (rI (fun y M' => y = -1 ∧ mInv M' m (tx) (len) (pg) (su) (hy) (kp) (ze) (sd) ∧ offM m M M')) := by
  have hI0 := hI
  obtain ⟨iT, iP, iN, iD, iK, iS, iE, iC⟩ := hI
  have nl3 := iP.2.2.2.2.1.1
  refine Calls.intro (by decide +kernel) (Nat.le_of_ble_eq_true rfl) (fun z E h hQ => ?_)
  refine x_loc (L' := [some (.ref m), some (.int x), some (.int w), none, none, none]) rfl ?_
  refine x_iload_n h dX12_falls_0 rfl ?_
  refine x_i2l h dX12_falls_1 ?_
  refine x_lc0 h dX12_falls_2 ?_
  refine x_aload_n h dX12_falls_3 rfl ?_
  refine x_getIv h hF.1 f_X12_211 rfl iP.2.2.2.2.1.2.1 dX12_falls_4 ?_
  refine x_in1 h dX12_falls_7 ?_
  refine x_isub h dX12_falls_8 ?_
  refine x_i2l h dX12_falls_9 ?_
  refine x_cSi h ci_X12_in sm_X12_in l_X12_114 ⟨Nat.le_of_ble_eq_true rfl, Nat.le_of_ble_eq_true rfl⟩ ⟨rfl, rfl⟩ ⟨Nat.zero_le _, Nat.zero_le _⟩ (c_X12_in (b := lN 0)) rfl rfl rfl rfl dX12_falls_10 (fun v10 M10 hp10 => ?_)
  obtain ⟨rfl, hM⟩ := hp10
  obtain rfl := hM.symm
  clear hM
  refine x_if_ne h 18 dX12_falls_13 (by decide) (fun c13 => ?_) (fun c13 => ?_)
  · exact absurd (b2i_0.mpr (in_gn hx (by omega))) c13
  · refine x_icm1 h dX12_falls_16 ?_
    exact x_iret h hQ rfl dX12_falls_17 ⟨rfl, rfl, _, rfl, rfl, hI0, off_refl m M⟩
theorem c_X12_falls_1 {Γ : GT} {G : GG} {M : MM} {m : Nat} (hF : mdF G M.2.2 m) {tx : Nat → Nat} {len : Nat} {pg : PGM} {su : SU} {hy : HY} {kp : KP} {ze : SE} {sd : Int64} (hI : mInv M m tx len pg su hy kp ze sd) {n : Nat} {x : Int32} (hn : n < pg.2.2.2.1.1) (hx : ∀ w, w < 32 → w &&& actP pg su = w → x ≠ nI w) : Calls Γ q_X12_falls [.ref m, .int (nI n), .int x] G M (rI (fun y M' => y = -2 ∧ mInv M' m (tx) (len) (pg) (su) (hy) (kp) (ze) (sd) ∧ offM m M M')) := by
  have hI0 := hI
  obtain ⟨iT, iP, iN, iD, iK, iS, iE, iC⟩ := hI
  have q60 := iP.1.1
  have v5 := iP.2.2.1.1
  have ht : rowI M (m + 21) su.1 := fun v hv => ⟨by have := iN.1.1 v hv; rw [Nat.zero_add] at this; exact this, iN.2.1 v hv⟩
  have n3 : M.1 (m + 21) 3 = nI su.2 := iN.1.2
  have o32 := su32 iN.2 iP.2.2.1.1
  have ha32 := actP_lt su v5
  have hh : ∀ l, hsP pg su l < 32 := fun l => it_lt ha32 15 l
  have nl3 := iP.2.2.2.2.1.1
  refine Calls.intro (by decide +kernel) (Nat.le_of_ble_eq_true rfl) (fun z E h hQ => ?_)
  refine x_loc (L' := [some (.ref m), some (.int (nI n)), some (.int x), none, none, none]) rfl ?_
  refine x_iload_n h dX12_falls_0 rfl ?_
  refine x_i2l h dX12_falls_1 ?_
  refine x_lc0 h dX12_falls_2 ?_
  refine x_aload_n h dX12_falls_3 rfl ?_
  refine x_getIv h hF.1 f_X12_211 rfl iP.2.2.2.2.1.2.1 dX12_falls_4 ?_
  refine x_in1 h dX12_falls_7 ?_
  refine x_isub h dX12_falls_8 ?_
  refine x_i2l h dX12_falls_9 ?_
  refine x_cSi h ci_X12_in sm_X12_in l_X12_114 ⟨Nat.le_of_ble_eq_true rfl, Nat.le_of_ble_eq_true rfl⟩ ⟨rfl, rfl⟩ ⟨Nat.zero_le _, Nat.zero_le _⟩ (c_X12_in (b := lN 0)) rfl rfl rfl rfl dX12_falls_10 (fun v10 M10 hp10 => ?_)
  obtain ⟨rfl, hM⟩ := hp10
  obtain rfl := hM.symm
  clear hM
  refine x_if_ne h 18 dX12_falls_13 (by decide) (fun c13 => ?_) (fun c13 => ?_)
  · refine x_iload_n h dX12_falls_18 rfl ?_
    refine x_if_lt h 37 dX12_falls_19 (by decide) (fun c19 => ?_) (fun c19 => ?_)
    · refine x_bipush h (-2) (by decide) dX12_falls_37 ?_
      exact x_iret h hQ rfl dX12_falls_39 ⟨rfl, rfl, _, rfl, rfl, hI0, off_refl m M⟩
    · refine x_iload_n h dX12_falls_22 rfl ?_
      refine x_aload_n h dX12_falls_23 rfl ?_
      refine x_aload_n h dX12_falls_24 rfl ?_
      refine x_getR h hF.1 f_X12_70 rfl (md_now hF).1 dX12_falls_25 ?_
      refine x_cVi h ci_X12_left im_X12_left l_X12_281 ⟨Nat.le_of_ble_eq_true rfl, Nat.le_of_ble_eq_true rfl⟩ ⟨rfl, rfl⟩ ⟨Nat.zero_le _, Nat.zero_le _⟩ (c_X12_left hF iP.2.2.1 (md_now hF).2 n3 o32) rfl rfl rfl rfl hF.1 (by decide) rfl dX12_falls_28 (fun v28 M28 hp28 => ?_)
      obtain ⟨rfl, hM⟩ := hp28
      obtain rfl := hM.symm
      clear hM
      refine x_icm1 h dX12_falls_31 ?_
      refine x_ixor h dX12_falls_32 ?_
      refine x_iand h dX12_falls_33 ?_
      refine x_if_eq h 40 dX12_falls_34 (by decide) (fun c34 => ?_) (fun c34 => ?_)
      · obtain ⟨w, h1, h2, h3⟩ := sub_nat ha32 c19 c34
        exact absurd h3 (hx w h1 h2)
      · refine x_bipush h (-2) (by decide) dX12_falls_37 ?_
        exact x_iret h hQ rfl dX12_falls_39 ⟨rfl, rfl, _, rfl, rfl, hI0, off_refl m M⟩
  · exact absurd (in_gy hn (by omega)) (by rw [b2i_0.mp c13]; decide)
theorem c_X12_falls_2 {Γ : GT} {G : GG} {M : MM} {m : Nat} (hF : mdF G M.2.2 m) {tx : Nat → Nat} {len : Nat} {pg : PGM} {su : SU} {hy : HY} {kp : KP} {ze : SE} {sd : Int64} (hI : mInv M m tx len pg su hy kp ze sd) {n w : Nat} (hn : n < pg.2.2.2.1.1) (hw : w < 32) (hs : w &&& actP pg su = w) : Calls Γ q_X12_falls [.ref m, .int (nI n), .int (nI w)] G M (rI (fun y M' => y = flsV pg su n w ∧ mInv M' m tx len pg su hy kp ze sd ∧ offM m M M')) := by
  have hI0 := hI
  obtain ⟨iT, iP, iN, iD, iK, iS, iE, iC⟩ := hI
  have q60 := iP.1.1
  have v5 := iP.2.2.1.1
  have ht : rowI M (m + 21) su.1 := fun v hv => ⟨by have := iN.1.1 v hv; rw [Nat.zero_add] at this; exact this, iN.2.1 v hv⟩
  have n3 : M.1 (m + 21) 3 = nI su.2 := iN.1.2
  have o32 := su32 iN.2 iP.2.2.1.1
  have ha32 := actP_lt su v5
  have hh : ∀ l, hsP pg su l < 32 := fun l => it_lt ha32 15 l
  have nl3 := iP.2.2.2.2.1.1
  have hl1 := (iP.2.2.2.2.1.2.2.1 n hn).1
  have hh2 : ∀ l, upN (hsP pg su) n w l < 32 := fun l => by
    unfold upN
    split
    · exact hw
    · exact hh l
  obtain ⟨C0, F0, hCF⟩ := iC
  refine Calls.intro (by decide +kernel) (Nat.le_of_ble_eq_true rfl) (fun z E h hQ => ?_)
  refine x_loc (L' := [some (.ref m), some (.int (nI n)), some (.int (nI w)), none, none, none]) rfl ?_
  have loop : ∀ j, j ≤ pg.2.1.1 → X Γ E 0 0 G z (wCF (hsM M m (upN (hsP pg su) n w)) m (lcP pg.1 pg.2.1 (upN (hsP pg su) n w) su.1).1 (lcP pg.1 pg.2.1 (upN (hsP pg su) n w) su.1).2) 83 [some (.ref m), some (.int (nI n)), some (.int (nI w)), some (.int (nI (pg.2.2.2.1.2 n))), some (.int (frm9 (fun gi => w.testBit gi && !soA pg.2.1 (lcP pg.1 pg.2.1 (upN (hsP pg su) n w) su.1).1 gi (pg.2.2.2.1.2 n)) pg.2.1.1 j)), some (.int (if j < pg.2.1.1 then nI (pg.2.1.1 - 1 - j) else -1))] [] := by
    refine upto pg.2.1.1 (fun j hj ih => ?_)
    refine x_iload h dX12_falls_83 rfl ?_
    refine x_if_lt h 122 dX12_falls_85 (by decide) (fun c85 => ?_) (fun c85 => ?_)
    · obtain rfl : j = pg.2.1.1 := by
        rcases Nat.lt_or_ge j pg.2.1.1 with q | q
        · rw [if_pos q] at c85; exact (nI_nneg (by omega) c85).elim
        · omega
      refine x_iload h dX12_falls_122 rfl ?_
      exact x_iret h hQ rfl dX12_falls_124 ⟨rfl, rfl, _, rfl, frm9_first, mInv_CF (mInv_hs hI0 _) _ _, off_hs M m _ _ _⟩
    · have hjl : j < pg.2.1.1 := by
        rcases Nat.lt_or_ge j pg.2.1.1 with q | q
        · exact q
        · rw [if_neg (by omega)] at c85; exact absurd (by decide) c85
      rw [if_pos hjl]
      refine x_iload_n h dX12_falls_88 rfl ?_
      refine x_iload h dX12_falls_89 rfl ?_
      refine x_cSi h ci_X12_isIn sm_X12_isIn l_X12_236 ⟨Nat.le_of_ble_eq_true rfl, Nat.le_of_ble_eq_true rfl⟩ ⟨rfl, rfl⟩ ⟨Nat.zero_le _, Nat.zero_le _⟩ (c_X12_isIn hw (by omega)) rfl rfl rfl rfl dX12_falls_91 (fun v91 M91 hp91 => ?_)
      obtain ⟨rfl, hM⟩ := hp91
      obtain rfl := hM.symm
      clear hM
      refine x_if_eq h 112 dX12_falls_94 (by decide) (fun c94 => ?_) (fun c94 => ?_)
      · have e1 := b2i_0.mp c94
        refine x_iload h dX12_falls_112 rfl ?_
        refine x_istore h dX12_falls_114 rfl rfl ?_
        dsimp only [List.set]
        refine x_iinc h (-1) (by decide) dX12_falls_116 rfl rfl rfl ?_
        dsimp only [List.set]
        refine x_goto h 83 dX12_falls_119 (by decide) ?_
        have hp : (fun gi => w.testBit gi && !soA pg.2.1 (lcP pg.1 pg.2.1 (upN (hsP pg su) n w) su.1).1 gi (pg.2.2.2.1.2 n)) (pg.2.1.1 - 1 - j) = false := by show (_ && _) = false; rw [e1]; rfl
        have ihh := ih hjl
        rw [frm9_no (p := (fun gi => w.testBit gi && !soA pg.2.1 (lcP pg.1 pg.2.1 (upN (hsP pg su) n w) su.1).1 gi (pg.2.2.2.1.2 n))) hp] at ihh
        rw [dec37 hjl]
        exact ihh
      · have e1 := bool_nf (fun q => c94 (b2i_0.mpr q))
        refine x_aload_n h dX12_falls_97 rfl ?_
        refine x_iload h dX12_falls_98 rfl ?_
        refine x_iload_n h dX12_falls_100 rfl ?_
        refine x_cVi h ci_X12_isSoInAll im_X12_isSoInAll l_X12_272 ⟨Nat.le_of_ble_eq_true rfl, Nat.le_of_ble_eq_true rfl⟩ ⟨rfl, rfl⟩ ⟨Nat.zero_le _, Nat.zero_le _⟩ (c_X12_isSoInAll (M := hsM M m _) hF (mgW_hs iP.2.2.1 _) (gi := pg.2.1.1 - 1 - j) (by omega) (by omega)) rfl rfl rfl rfl hF.1 (by decide) rfl dX12_falls_101 (fun v101 M101 hp101 => ?_)
        have hv := hp101.1
        have hM := hp101.2
        clear hp101
        rw [hv]
        clear hv v101
        obtain rfl := hM.symm
        clear hM
        refine x_if_ne h 112 dX12_falls_104 (by decide) (fun c104 => ?_) (fun c104 => ?_)
        · have e2 := bool_nf (fun q => c104 (b2i_0.mpr q))
          refine x_iload h dX12_falls_112 rfl ?_
          refine x_istore h dX12_falls_114 rfl rfl ?_
          dsimp only [List.set]
          refine x_iinc h (-1) (by decide) dX12_falls_116 rfl rfl rfl ?_
          dsimp only [List.set]
          refine x_goto h 83 dX12_falls_119 (by decide) ?_
          have hp : (fun gi => w.testBit gi && !soA pg.2.1 (lcP pg.1 pg.2.1 (upN (hsP pg su) n w) su.1).1 gi (pg.2.2.2.1.2 n)) (pg.2.1.1 - 1 - j) = false := by show (_ && _) = false; rw [e1, e2]; rfl
          have ihh := ih hjl
          rw [frm9_no (p := (fun gi => w.testBit gi && !soA pg.2.1 (lcP pg.1 pg.2.1 (upN (hsP pg su) n w) su.1).1 gi (pg.2.2.2.1.2 n))) hp] at ihh
          rw [dec37 hjl]
          exact ihh
        · have e2 := b2i_0.mp c104
          refine x_iload h dX12_falls_107 rfl ?_
          refine x_goto h 114 dX12_falls_109 (by decide) ?_
          refine x_istore h dX12_falls_114 rfl rfl ?_
          dsimp only [List.set]
          refine x_iinc h (-1) (by decide) dX12_falls_116 rfl rfl rfl ?_
          dsimp only [List.set]
          refine x_goto h 83 dX12_falls_119 (by decide) ?_
          have hp : (fun gi => w.testBit gi && !soA pg.2.1 (lcP pg.1 pg.2.1 (upN (hsP pg su) n w) su.1).1 gi (pg.2.2.2.1.2 n)) (pg.2.1.1 - 1 - j) = true := by show (_ && _) = true; rw [e1, e2]; rfl
          have ihh := ih hjl
          rw [frm9_yes (p := (fun gi => w.testBit gi && !soA pg.2.1 (lcP pg.1 pg.2.1 (upN (hsP pg su) n w) su.1).1 gi (pg.2.2.2.1.2 n))) hp] at ihh
          rw [dec37 hjl]
          exact ihh
  refine x_iload_n h dX12_falls_0 rfl ?_
  refine x_i2l h dX12_falls_1 ?_
  refine x_lc0 h dX12_falls_2 ?_
  refine x_aload_n h dX12_falls_3 rfl ?_
  refine x_getIv h hF.1 f_X12_211 rfl iP.2.2.2.2.1.2.1 dX12_falls_4 ?_
  refine x_in1 h dX12_falls_7 ?_
  refine x_isub h dX12_falls_8 ?_
  refine x_i2l h dX12_falls_9 ?_
  refine x_cSi h ci_X12_in sm_X12_in l_X12_114 ⟨Nat.le_of_ble_eq_true rfl, Nat.le_of_ble_eq_true rfl⟩ ⟨rfl, rfl⟩ ⟨Nat.zero_le _, Nat.zero_le _⟩ (c_X12_in (b := lN 0)) rfl rfl rfl rfl dX12_falls_10 (fun v10 M10 hp10 => ?_)
  obtain ⟨rfl, hM⟩ := hp10
  obtain rfl := hM.symm
  clear hM
  refine x_if_ne h 18 dX12_falls_13 (by decide) (fun c13 => ?_) (fun c13 => ?_)
  · refine x_iload_n h dX12_falls_18 rfl ?_
    refine x_if_lt h 37 dX12_falls_19 (by decide) (fun c19 => ?_) (fun c19 => ?_)
    · exact (nI_nneg (by omega) c19).elim
    · refine x_iload_n h dX12_falls_22 rfl ?_
      refine x_aload_n h dX12_falls_23 rfl ?_
      refine x_aload_n h dX12_falls_24 rfl ?_
      refine x_getR h hF.1 f_X12_70 rfl (md_now hF).1 dX12_falls_25 ?_
      refine x_cVi h ci_X12_left im_X12_left l_X12_281 ⟨Nat.le_of_ble_eq_true rfl, Nat.le_of_ble_eq_true rfl⟩ ⟨rfl, rfl⟩ ⟨Nat.zero_le _, Nat.zero_le _⟩ (c_X12_left hF iP.2.2.1 (md_now hF).2 n3 o32) rfl rfl rfl rfl hF.1 (by decide) rfl dX12_falls_28 (fun v28 M28 hp28 => ?_)
      obtain ⟨rfl, hM⟩ := hp28
      obtain rfl := hM.symm
      clear hM
      refine x_icm1 h dX12_falls_31 ?_
      refine x_ixor h dX12_falls_32 ?_
      refine x_iand h dX12_falls_33 ?_
      refine x_topi (difG_ok w hw _ ha32) ?_
      refine x_if_eq h 40 dX12_falls_34 (by decide) (fun c34 => ?_) (fun c34 => ?_)
      · refine x_mem hCF ?_
        refine x_aload_n h dX12_falls_40 rfl ?_
        refine x_aload_n h dX12_falls_41 rfl ?_
        refine x_getR h hF.1 f_X12_70 rfl (md_now hF).1 dX12_falls_42 ?_
        refine x_cVv h ci_X12_invariants im_X12_invariants l_X12_307 ⟨Nat.le_of_ble_eq_true rfl, Nat.le_of_ble_eq_true rfl⟩ ⟨rfl, rfl⟩ ⟨Nat.zero_le _, Nat.zero_le _⟩ (c_X12_invariants (m := m) hF iP.1 iP.2.1 iP.2.2.1 (md_now hF).2 ht (by omega) n3 o32 (act := actP pg su) rfl) rfl rfl rfl rfl hF.1 (by decide) rfl dX12_falls_45 (fun M45 hp45 => ?_)
        subst hp45
        refine x_aload_n h dX12_falls_48 rfl ?_
        refine x_getR h hF.1 f_X12_99 rfl (md_has hF).1 dX12_falls_49 ?_
        refine x_iload_n h dX12_falls_52 rfl ?_
        refine x_iload_n h dX12_falls_53 rfl ?_
        refine x_iast h n (md_has hF).2 (ix.ni (by omega) (by decide)) dX12_falls_54 ?_
        refine x_mem (hsM_set (by omega) _ _) ?_
        refine x_aload_n h dX12_falls_55 rfl ?_
        refine x_aload_n h dX12_falls_56 rfl ?_
        refine x_getR h hF.1 f_X12_70 rfl (md_now hF).1 dX12_falls_57 ?_
        refine x_cVv h ci_X12_layComes im_X12_layComes l_X12_275 ⟨Nat.le_of_ble_eq_true rfl, Nat.le_of_ble_eq_true rfl⟩ ⟨rfl, rfl⟩ ⟨Nat.zero_le _, Nat.zero_le _⟩ (c_X12_layComes (M := hsM M m (upN (hsP pg su) n w)) hF (mpW_hs iP.1 _) iP.2.1 (mgW_hs iP.2.2.1 _) (md_now hF).2 (rowI_hs ht _ (by omega)) (hsW_hs hh2)) rfl rfl rfl rfl hF.1 (by decide) rfl dX12_falls_60 (fun M60 hp60 => ?_)
        subst hp60
        refine x_aload_n h dX12_falls_63 rfl ?_
        refine x_bipush h (nI 6) (by decide) dX12_falls_64 ?_
        refine x_iload_n h dX12_falls_66 rfl ?_
        refine x_cVi h ci_X12_nodeOf im_X12_nodeOf l_X12_292 ⟨Nat.le_of_ble_eq_true rfl, Nat.le_of_ble_eq_true rfl⟩ ⟨rfl, rfl⟩ ⟨Nat.zero_le _, Nat.zero_le _⟩ (c_X12_nodeOf (M := wCF (hsM M m _) m _ _) hF (mpW_hs iP.1 _) iP.2.1 (kd := 6) (nm := n) (Or.inr rfl) (by omega) hl1 (lp_u iP.2.2.2.2.1 hn)) rfl rfl rfl rfl hF.1 (by decide) rfl dX12_falls_67 (fun v67 M67 hp67 => ?_)
        obtain ⟨rfl, hM⟩ := hp67
        obtain rfl := hM.symm
        clear hM
        refine x_istore_n h dX12_falls_70 rfl rfl ?_
        dsimp only [List.set]
        refine x_bipush h (-9) (by decide) dX12_falls_71 ?_
        refine x_istore h dX12_falls_73 rfl rfl ?_
        dsimp only [List.set]
        refine x_aload_n h dX12_falls_75 rfl ?_
        refine x_getIv h hF.1 f_X12_217 rfl (show _ = nI pg.2.1.1 from (hsM_ne _ 12 (by omega)).trans iP.2.2.1.2.1) dX12_falls_76 ?_
        refine x_in1 h dX12_falls_79 ?_
        refine x_isub h dX12_falls_80 ?_
        refine x_istore h dX12_falls_81 rfl rfl ?_
        dsimp only [List.set]
        rw [dec0]
        exact loop 0 (Nat.zero_le _)
      · exact absurd (show nI (difG w (actP pg su)) = 0 from by rw [(dif_sub _ ha32 w hw).mpr hs]; exact nI_0) c34
  · exact absurd (in_gy hn (by omega)) (by rw [b2i_0.mp c13]; decide)
/-- K is M but for the rows of what loops have and of worths -/
def kpt (M : MM) (m : Nat) (K : MM) : Prop := K.2 = M.2 ∧ ∀ b j, b ≠ m + 30 → b ≠ m + 32 → K.1 b j = M.1 b j
theorem kpt_inv {M K : MM} {m : Nat} {tx : Nat → Nat} {len : Nat} {pg : PGM} {su : SU} {hy : HY} {kp : KP} {ze : SE} {sd : Int64} (hI : mInv M m tx len pg su hy kp ze sd) (h : kpt M m K) : mInv K m tx len pg su hy kp ze sd := mInv_I hI (fun a j h1 _ _ => h.2 _ _ (by omega) (by omega)) (by rw [h.1])
theorem kpt_hs {M K : MM} {m : Nat} (h : kpt M m K) (hs : Nat → Nat) : kpt M m (hsM K m hs) := ⟨h.1, fun b j h1 h2 => (hsM_ne hs j h1).trans (h.2 b j h1 h2)⟩
theorem kpt_off {M K : MM} {m : Nat} (h : kpt M m K) (C F : NS) : offM m M (wCF K m C F) := off_C ⟨by rw [h.1], fun b q => ⟨fun j => h.2 b j (by omega) (by omega), fun j => by rw [h.1]⟩⟩ C F
/-- how many checks some guesses prove -/
def pvN (pg : PGM) (su : SU) (s : Nat) : Nat := fb_ct (fun i => (enN (prvS pg.1 pg.2.1 pg.2.2.1.2 su.1 s) 0 pg.2.2.1.1).testBit i) 5
def on5 (s : Nat) : Nat := fb_ct (fun i => s.testBit i) 5
/-- provedBy, wherever it is called -/
theorem pv_call {Γ : GT} {G : GG} {M K : MM} {m : Nat} (hF : mdF G M.2.2 m) {tx : Nat → Nat} {len : Nat} {pg : PGM} {su : SU} {hy : HY} {kp : KP} {ze : SE} {sd : Int64} (hI : mInv M m tx len pg su hy kp ze sd) (hK : kpt M m K) {C F : NS} {s : Nat} (hs : s < 32) : Calls Γ q_X12_provedBy [.ref m, .ref (m + 21), .int (nI s)] G (wCF K m C F) (rI (fun y M' => y = nI (pvN pg su s) ∧ ∃ K2 C2 F2, kpt M m K2 ∧ (∀ j, K2.1 (m + 32) j = K.1 (m + 32) j) ∧ M' = wCF K2 m C2 F2)) := by
  obtain ⟨iT, iP, iN, iD, iK, iS, iE, iC⟩ := kpt_inv hI hK
  have hF2 : mdF G K.2.2 m := by rw [hK.1]; exact hF
  have ht : rowI K (m + 21) su.1 := fun v hv => ⟨by have := iN.1.1 v hv; rw [Nat.zero_add] at this; exact this, iN.2.1 v hv⟩
  refine (c_X12_provedBy hF2 iP.1 iP.2.1 iP.2.2.1 (md_now hF2).2 ht (by omega) iP.2.2.2.1 hs).imp (fun rr M2 h => ?_)
  obtain ⟨y, e, h1, h2⟩ := h
  exact ⟨y, e, h1, _, _, _, kpt_hs hK _, fun j => hsM_ne _ j (by omega), h2⟩
theorem c_X12_fewest_0 {Γ : GT} {G : GG} {M : MM} {m : Nat} (hF : mdF G M.2.2 m) {tx : Nat → Nat} {len : Nat} {pg : PGM} {su : SU} {hy : HY} {kp : KP} {ze : SE} {sd : Int64} (hI : mInv M m tx len pg su hy kp ze sd) {x : Int32} (hx : ∀ n, n < 2 → x ≠ nI n) : Calls Γ q_X12_fewest [.ref m, .int x] G M (rI (fun y M' => y = -2 ∧ mInv M' m (tx) (len) (pg) (su) (hy) (kp) (ze) (sd) ∧ offM m M M')) := by
  have hI0 := hI
  obtain ⟨iT, iP, iN, iD, iK, iS, iE, iC⟩ := hI
  refine Calls.intro (by decide +kernel) (Nat.le_of_ble_eq_true rfl) (fun z E h hQ => ?_)
  refine x_loc (L' := [some (.ref m), some (.int x), none, none, none, none, none]) rfl ?_
  refine x_iload_n h dX12_fewest_0 rfl ?_
  refine x_i2l h dX12_fewest_1 ?_
  refine x_lc0 h dX12_fewest_2 ?_
  refine x_lc1 h dX12_fewest_3 ?_
  refine x_cSi h ci_X12_in sm_X12_in l_X12_114 ⟨Nat.le_of_ble_eq_true rfl, Nat.le_of_ble_eq_true rfl⟩ ⟨rfl, rfl⟩ ⟨Nat.zero_le _, Nat.zero_le _⟩ (c_X12_in (b := lN 0) (c := lN 1)) rfl rfl rfl rfl dX12_fewest_4 (fun v4 M4 hp4 => ?_)
  obtain ⟨rfl, hM⟩ := hp4
  obtain rfl := hM.symm
  clear hM
  refine x_if_ne h 13 dX12_fewest_7 (by decide) (fun c7 => ?_) (fun c7 => ?_)
  · exact absurd (b2i_0.mpr (in_no hx (by decide))) c7
  · refine x_bipush h (-2) (by decide) dX12_fewest_10 ?_
    exact x_iret h hQ rfl dX12_fewest_12 ⟨rfl, rfl, _, rfl, rfl, hI0, off_refl m M⟩
/-- the reference's search for the fewest guesses, from all of them down -/
def fwN (pv : Nat → Nat) (all : Nat) : Nat → Nat
  | 0 => all
  | i + 1 => if difG (all - i) all = 0 ∧ on5 (all - i) ≤ on5 (fwN pv all i) ∧ pv (all - i) = pv all then all - i else fwN pv all i
theorem fwN_le (pv : Nat → Nat) (all : Nat) : ∀ i, fwN pv all i ≤ all
  | 0 => Nat.le_refl _
  | i + 1 => by
    unfold fwN
    split
    · omega
    · exact fwN_le pv all i
theorem on5_le (s : Nat) : on5 s ≤ 5 := fb_ct_le _ _
theorem pvN_le (pg : PGM) (su : SU) (s : Nat) : pvN pg su s ≤ 5 := fb_ct_le _ _
theorem c_X12_fewest_1 {Γ : GT} {G : GG} {M : MM} {m : Nat} (hF : mdF G M.2.2 m) {tx : Nat → Nat} {len : Nat} {pg : PGM} {su : SU} {hy : HY} {kp : KP} {ze : SE} {sd : Int64} (hI : mInv M m tx len pg su hy kp ze sd) {n : Nat} (hn : n < 2) : Calls Γ q_X12_fewest [.ref m, .int (nI n)] G M (rI (fun y M' => y = nI (if n = 0 then on5 (fwN (pvN pg su) (actP pg su) (actP pg su + 1)) else fwN (pvN pg su) (actP pg su) (actP pg su + 1)) ∧ mInv M' m tx len pg su hy kp ze sd ∧ offM m M M')) := by
  have hI0 := hI
  obtain ⟨iT, iP, iN, iD, iK, iS, iE, iC⟩ := hI
  have q60 := iP.1.1
  have v5 := iP.2.2.1.1
  have ht : rowI M (m + 21) su.1 := fun v hv => ⟨by have := iN.1.1 v hv; rw [Nat.zero_add] at this; exact this, iN.2.1 v hv⟩
  have n3 : M.1 (m + 21) 3 = nI su.2 := iN.1.2
  have o32 := su32 iN.2 iP.2.2.1.1
  have ha32 := actP_lt su v5
  have hh : ∀ l, hsP pg su l < 32 := fun l => it_lt ha32 15 l
  obtain ⟨C0, F0, hCF⟩ := iC
  generalize hall : actP pg su = all at *
  refine Calls.intro (by decide +kernel) (Nat.le_of_ble_eq_true rfl) (fun z E h hQ => ?_)
  refine x_loc (L' := [some (.ref m), some (.int (nI n)), none, none, none, none, none]) rfl ?_
  have loop : ∀ i, i ≤ all + 1 → ∀ K C F w, kpt M m K → X Γ E 0 0 G z (wCF K m C F) 38 [some (.ref m), some (.int (nI n)), some (.int (nI all)), some (.int (nI (pvN pg su all))), some (.int (nI (fwN (pvN pg su) all i))), some (.int (if i < all + 1 then nI (all + 1 - 1 - i) else -1)), w] [] := by
    refine upto (all + 1) (fun i hi ih K C F w hK => ?_)
    have hF2 : mdF G K.2.2 m := by rw [hK.1]; exact hF
    have hfl := fwN_le (pvN pg su) all i
    have hp5 := pvN_le pg su
    refine x_iload h dX12_fewest_38 rfl ?_
    refine x_if_lt h 106 dX12_fewest_40 (by decide) (fun c40 => ?_) (fun c40 => ?_)
    · obtain rfl : i = all + 1 := by
        rcases Nat.lt_or_ge i (all + 1) with q | q
        · rw [if_pos q] at c40; exact (nI_nneg (by omega) c40).elim
        · omega
      refine x_iload_n h dX12_fewest_106 rfl ?_
      refine x_if_ne h 118 dX12_fewest_107 (by decide) (fun c107 => ?_) (fun c107 => ?_)
      · have e0 : ¬ n = 0 := fun q => c107 (by rw [q]; exact nI_0)
        refine x_iload h dX12_fewest_118 rfl ?_
        exact x_iret h hQ rfl dX12_fewest_120 ⟨rfl, rfl, _, rfl, by rw [if_neg e0], mInv_CF (kpt_inv hI0 hK) C F, kpt_off hK C F⟩
      · have e0 : n = 0 := nI_small 0 (by omega) (by decide) (c107.trans nI_0.symm)
        refine x_iload h dX12_fewest_110 rfl ?_
        refine x_cSi h ci_X12_ones sm_X12_ones l_X12_304 ⟨Nat.le_of_ble_eq_true rfl, Nat.le_of_ble_eq_true rfl⟩ ⟨rfl, rfl⟩ ⟨Nat.zero_le _, Nat.zero_le _⟩ (c_X12_ones (m := fwN (pvN pg su) all (all + 1)) (by omega)) rfl rfl rfl rfl dX12_fewest_112 (fun v112 M112 hp112 => ?_)
        have hv := hp112.1
        have hM := hp112.2
        clear hp112
        rw [hv]
        clear hv v112
        obtain rfl := hM.symm
        clear hM
        refine x_goto h 120 dX12_fewest_115 (by decide) ?_
        exact x_iret h hQ rfl dX12_fewest_120 ⟨rfl, rfl, _, rfl, by rw [if_pos e0]; rfl, mInv_CF (kpt_inv hI0 hK) C F, kpt_off hK C F⟩
    · have hlt : i < all + 1 := by
        rcases Nat.lt_or_ge i (all + 1) with q | q
        · exact q
        · rw [if_neg (by omega)] at c40; exact absurd (by decide) c40
      rw [if_pos hlt]
      rw [show all + 1 - 1 - i = all - i by omega]
      refine x_iload h dX12_fewest_43 rfl ?_
      refine x_iload_n h dX12_fewest_45 rfl ?_
      refine x_icm1 h dX12_fewest_46 ?_
      refine x_ixor h dX12_fewest_47 ?_
      refine x_iand h dX12_fewest_48 ?_
      refine x_topi (difG_ok (all - i) (by omega) all ha32) ?_
      refine x_if_ne h 83 dX12_fewest_49 (by decide) (fun c49 => ?_) (fun c49 => ?_)
      · have e1 : ¬ difG (all - i) all = 0 := fun q => c49 (by rw [q]; exact nI_0)
        refine x_ic0 h dX12_fewest_83 ?_
        refine x_istore h dX12_fewest_84 rfl rfl ?_
        dsimp only [List.set]
        refine x_iload h dX12_fewest_86 rfl ?_
        refine x_if_eq h 96 dX12_fewest_88 (by decide) (fun c88 => ?_) (fun c88 => ?_)
        · refine x_iload h dX12_fewest_96 rfl ?_
          refine x_istore h dX12_fewest_98 rfl rfl ?_
          dsimp only [List.set]
          refine x_iinc h (-1) (by decide) dX12_fewest_100 rfl rfl rfl ?_
          dsimp only [List.set]
          refine x_goto h 38 dX12_fewest_103 (by decide) ?_
          have ihh := fun K C F w hK => ih hlt K C F w hK
          rw [show fwN (pvN pg su) all (i + 1) = fwN (pvN pg su) all i from if_neg (fun q => e1 q.1)] at ihh
          have e7 := dec37 hlt
          rw [show all + 1 - 1 - i = all - i by omega] at e7
          rw [e7]
          exact ihh _ _ _ _ hK
        · exact absurd c88 (by decide)
      · have e1 : difG (all - i) all = 0 := nI_small 0 (Nat.lt_trans (difG_lt _ (by omega)) (by decide)) (by decide) (c49.trans nI_0.symm)
        refine x_iload h dX12_fewest_52 rfl ?_
        refine x_cSi h ci_X12_ones sm_X12_ones l_X12_304 ⟨Nat.le_of_ble_eq_true rfl, Nat.le_of_ble_eq_true rfl⟩ ⟨rfl, rfl⟩ ⟨Nat.zero_le _, Nat.zero_le _⟩ (c_X12_ones (m := all - i) (by omega)) rfl rfl rfl rfl dX12_fewest_54 (fun v54 M54 hp54 => ?_)
        have hv := hp54.1
        have hM := hp54.2
        clear hp54
        rw [hv]
        clear hv v54
        obtain rfl := hM.symm
        clear hM
        refine x_iload h dX12_fewest_57 rfl ?_
        refine x_cSi h ci_X12_ones sm_X12_ones l_X12_304 ⟨Nat.le_of_ble_eq_true rfl, Nat.le_of_ble_eq_true rfl⟩ ⟨rfl, rfl⟩ ⟨Nat.zero_le _, Nat.zero_le _⟩ (c_X12_ones (m := fwN (pvN pg su) all i) (by omega)) rfl rfl rfl rfl dX12_fewest_59 (fun v59 M59 hp59 => ?_)
        have hv := hp59.1
        have hM := hp59.2
        clear hp59
        rw [hv]
        clear hv v59
        obtain rfl := hM.symm
        clear hM
        refine x_icmp_gt h 83 dX12_fewest_62 (by decide) (fun c62 => ?_) (fun c62 => ?_)
        · have e2 : ¬ on5 (all - i) ≤ on5 (fwN (pvN pg su) all i) := fun q => absurd ((nI_lt_iff (a := on5 (fwN (pvN pg su) all i)) (b := on5 (all - i)) (by have := on5_le (fwN (pvN pg su) all i); omega) (by have := on5_le (all - i); omega)).mp c62) (by omega)
          refine x_ic0 h dX12_fewest_83 ?_
          refine x_istore h dX12_fewest_84 rfl rfl ?_
          dsimp only [List.set]
          refine x_iload h dX12_fewest_86 rfl ?_
          refine x_if_eq h 96 dX12_fewest_88 (by decide) (fun c88 => ?_) (fun c88 => ?_)
          · refine x_iload h dX12_fewest_96 rfl ?_
            refine x_istore h dX12_fewest_98 rfl rfl ?_
            dsimp only [List.set]
            refine x_iinc h (-1) (by decide) dX12_fewest_100 rfl rfl rfl ?_
            dsimp only [List.set]
            refine x_goto h 38 dX12_fewest_103 (by decide) ?_
            have ihh := fun K C F w hK => ih hlt K C F w hK
            rw [show fwN (pvN pg su) all (i + 1) = fwN (pvN pg su) all i from if_neg (fun q => e2 q.2.1)] at ihh
            have e7 := dec37 hlt
            rw [show all + 1 - 1 - i = all - i by omega] at e7
            rw [e7]
            exact ihh _ _ _ _ hK
          · exact absurd c88 (by decide)
        · have e2 : on5 (all - i) ≤ on5 (fwN (pvN pg su) all i) := by
            have := mt (nI_lt_iff (a := on5 (fwN (pvN pg su) all i)) (b := on5 (all - i)) (by have := on5_le (fwN (pvN pg su) all i); omega) (by have := on5_le (all - i); omega)).mpr c62
            omega
          refine x_aload_n h dX12_fewest_65 rfl ?_
          refine x_aload_n h dX12_fewest_66 rfl ?_
          refine x_getR h hF2.1 f_X12_70 rfl (md_now hF2).1 dX12_fewest_67 ?_
          refine x_iload h dX12_fewest_70 rfl ?_
          refine x_cVi h ci_X12_provedBy im_X12_provedBy l_X12_334 ⟨Nat.le_of_ble_eq_true rfl, Nat.le_of_ble_eq_true rfl⟩ ⟨rfl, rfl⟩ ⟨Nat.zero_le _, Nat.zero_le _⟩ (pv_call hF hI0 hK (s := all - i) (by omega)) rfl rfl rfl rfl hF2.1 (by decide) rfl dX12_fewest_72 (fun v72 M72 hp72 => ?_)
          have hv := hp72.1
          obtain ⟨K2, C2, F2, hK2, hw2, hM⟩ := hp72.2
          clear hp72
          rw [hv]
          clear hv v72
          subst hM
          refine x_iload_n h dX12_fewest_75 rfl ?_
          refine x_icmp_ne h 83 dX12_fewest_76 (by decide) (fun c76 => ?_) (fun c76 => ?_)
          · have e3 : ¬ pvN pg su (all - i) = pvN pg su all := fun q => c76 (by rw [q])
            refine x_ic0 h dX12_fewest_83 ?_
            refine x_istore h dX12_fewest_84 rfl rfl ?_
            dsimp only [List.set]
            refine x_iload h dX12_fewest_86 rfl ?_
            refine x_if_eq h 96 dX12_fewest_88 (by decide) (fun c88 => ?_) (fun c88 => ?_)
            · refine x_iload h dX12_fewest_96 rfl ?_
              refine x_istore h dX12_fewest_98 rfl rfl ?_
              dsimp only [List.set]
              refine x_iinc h (-1) (by decide) dX12_fewest_100 rfl rfl rfl ?_
              dsimp only [List.set]
              refine x_goto h 38 dX12_fewest_103 (by decide) ?_
              have ihh := fun K C F w hK => ih hlt K C F w hK
              rw [show fwN (pvN pg su) all (i + 1) = fwN (pvN pg su) all i from if_neg (fun q => e3 q.2.2)] at ihh
              have e7 := dec37 hlt
              rw [show all + 1 - 1 - i = all - i by omega] at e7
              rw [e7]
              exact ihh _ _ _ _ hK2
            · exact absurd c88 (by decide)
          · have e3 : pvN pg su (all - i) = pvN pg su all := nI_small _ (by have := hp5 (all - i); omega) (by have := hp5 all; omega) c76
            refine x_ic1 h dX12_fewest_79 ?_
            refine x_goto h 84 dX12_fewest_80 (by decide) ?_
            refine x_istore h dX12_fewest_84 rfl rfl ?_
            dsimp only [List.set]
            refine x_iload h dX12_fewest_86 rfl ?_
            refine x_if_eq h 96 dX12_fewest_88 (by decide) (fun c88 => ?_) (fun c88 => ?_)
            · exact absurd c88 (by decide)
            · refine x_iload h dX12_fewest_91 rfl ?_
              refine x_goto h 98 dX12_fewest_93 (by decide) ?_
              refine x_istore h dX12_fewest_98 rfl rfl ?_
              dsimp only [List.set]
              refine x_iinc h (-1) (by decide) dX12_fewest_100 rfl rfl rfl ?_
              dsimp only [List.set]
              refine x_goto h 38 dX12_fewest_103 (by decide) ?_
              have ihh := fun K C F w hK => ih hlt K C F w hK
              rw [show fwN (pvN pg su) all (i + 1) = all - i from if_pos ⟨e1, e2, e3⟩] at ihh
              have e7 := dec37 hlt
              rw [show all + 1 - 1 - i = all - i by omega] at e7
              rw [e7]
              exact ihh _ _ _ _ hK2
  refine x_iload_n h dX12_fewest_0 rfl ?_
  refine x_i2l h dX12_fewest_1 ?_
  refine x_lc0 h dX12_fewest_2 ?_
  refine x_lc1 h dX12_fewest_3 ?_
  refine x_cSi h ci_X12_in sm_X12_in l_X12_114 ⟨Nat.le_of_ble_eq_true rfl, Nat.le_of_ble_eq_true rfl⟩ ⟨rfl, rfl⟩ ⟨Nat.zero_le _, Nat.zero_le _⟩ (c_X12_in (b := lN 0) (c := lN 1)) rfl rfl rfl rfl dX12_fewest_4 (fun v4 M4 hp4 => ?_)
  obtain ⟨rfl, hM⟩ := hp4
  obtain rfl := hM.symm
  clear hM
  refine x_if_ne h 13 dX12_fewest_7 (by decide) (fun c7 => ?_) (fun c7 => ?_)
  · refine x_aload_n h dX12_fewest_13 rfl ?_
    refine x_aload_n h dX12_fewest_14 rfl ?_
    refine x_getR h hF.1 f_X12_70 rfl (md_now hF).1 dX12_fewest_15 ?_
    refine x_cVi h ci_X12_left im_X12_left l_X12_281 ⟨Nat.le_of_ble_eq_true rfl, Nat.le_of_ble_eq_true rfl⟩ ⟨rfl, rfl⟩ ⟨Nat.zero_le _, Nat.zero_le _⟩ (c_X12_left hF iP.2.2.1 (md_now hF).2 n3 o32) rfl rfl rfl rfl hF.1 (by decide) rfl dX12_fewest_18 (fun v18 M18 hp18 => ?_)
    obtain ⟨rfl, hM⟩ := hp18
    obtain rfl := hM.symm
    clear hM
    refine x_topi (show _ = nI all from congrArg nI hall) ?_
    refine x_mem hCF ?_
    refine x_istore_n h dX12_fewest_21 rfl rfl ?_
    dsimp only [List.set]
    refine x_aload_n h dX12_fewest_22 rfl ?_
    refine x_aload_n h dX12_fewest_23 rfl ?_
    refine x_getR h hF.1 f_X12_70 rfl (md_now hF).1 dX12_fewest_24 ?_
    refine x_iload_n h dX12_fewest_27 rfl ?_
    refine x_cVi h ci_X12_provedBy im_X12_provedBy l_X12_334 ⟨Nat.le_of_ble_eq_true rfl, Nat.le_of_ble_eq_true rfl⟩ ⟨rfl, rfl⟩ ⟨Nat.zero_le _, Nat.zero_le _⟩ (pv_call hF hI0 (K := M) ⟨rfl, fun _ _ _ _ => rfl⟩ (s := all) ha32) rfl rfl rfl rfl hF.1 (by decide) rfl dX12_fewest_28 (fun v28 M28 hp28 => ?_)
    have hv := hp28.1
    obtain ⟨K2, C2, F2, hK2, hw2, hM⟩ := hp28.2
    clear hp28
    rw [hv]
    clear hv v28
    subst hM
    refine x_istore_n h dX12_fewest_31 rfl rfl ?_
    dsimp only [List.set]
    refine x_iload_n h dX12_fewest_32 rfl ?_
    refine x_istore h dX12_fewest_33 rfl rfl ?_
    dsimp only [List.set]
    refine x_iload_n h dX12_fewest_35 rfl ?_
    refine x_istore h dX12_fewest_36 rfl rfl ?_
    dsimp only [List.set]
    refine x_loc (L' := [_, _, _, _, some (.int (nI (fwN (pvN pg su) all 0))), some (.int (if 0 < all + 1 then nI (all + 1 - 1 - 0) else -1)), _]) (by rw [if_pos (Nat.succ_pos _)]; rfl) (loop 0 (Nat.zero_le _) K2 C2 F2 none hK2)
  · exact absurd (in_yes (n := n) (b := 1) (by omega) (by decide)) (by rw [b2i_0.mp c7]; decide)
