/-! ===== the reference: share and lost ===== -/
theorem sub_on : ∀ a, a < 32 → ∀ s, s < 32 → difG s a = 0 → on5 s ≤ on5 a := by decide +kernel
theorem sub_or9 : ∀ a, a < 32 → ∀ s, s < 32 → ∀ gi, gi < 5 → (decide (difG s a = 0) && a.testBit gi) = true → (decide (difG (s ||| 2 ^ gi) a = 0) && decide (s ||| 2 ^ gi ≤ a)) = true := by decide +kernel
theorem sub_or (a : Nat) (h1 : a < 32) (s : Nat) (h2 : s < 32) (gi : Nat) (h3 : gi < 5) (h4 : difG s a = 0) (h5 : a.testBit gi = true) : difG (s ||| 2 ^ gi) a = 0 ∧ s ||| 2 ^ gi ≤ a := by
  have := sub_or9 a h1 s h2 gi h3 (by rw [h5, decide_eq_true h4]; rfl)
  rw [Bool.and_eq_true, decide_eq_true_iff, decide_eq_true_iff] at this
  exact this
theorem sub_on9 : ∀ a, a < 32 → ∀ s, s < 32 → ∀ gi, gi < 5 → (decide (difG s a = 0) && a.testBit gi && !s.testBit gi) = true → on5 s + 1 ≤ on5 a := by decide +kernel
theorem sub_on1 (a : Nat) (h1 : a < 32) (s : Nat) (h2 : s < 32) (gi : Nat) (h3 : gi < 5) (h4 : difG s a = 0) (h5 : a.testBit gi = true) (h6 : s.testBit gi = false) : on5 s + 1 ≤ on5 a := sub_on9 a h1 s h2 gi h3 (by rw [h5, h6, decide_eq_true h4]; rfl)
theorem fct_le : ∀ c, c < 6 → fct c ≤ 120 := by decide +kernel
theorem fct_pos : ∀ c, 0 < fct c
  | 0 => by decide
  | c + 1 => Nat.mul_pos (fct_pos c) (Nat.succ_pos c)
/-- the reference's sum of a guess's gains -/
def shN (pv : Nat → Nat) (all gi : Nat) : Nat → Nat
  | 0 => 0
  | s + 1 => shN pv all gi s + (if difG s all = 0 ∧ s.testBit gi = false then fct (on5 s) * fct (on5 all - 1 - on5 s) * (pv (s ||| 2 ^ gi) - pv s) else 0)
theorem shN_le {pv : Nat → Nat} {all gi : Nat} (h : ∀ s, pv s ≤ 5) : ∀ s, shN pv all gi s ≤ 72000 * s
  | 0 => Nat.le_refl _
  | s + 1 => by
    have ih := shN_le (all := all) (gi := gi) h s
    unfold shN
    split
    · have h1 := fct_le (on5 s) (by have := on5_le s; omega)
      have h2 := fct_le (on5 all - 1 - on5 s) (by have := on5_le all; omega)
      have h3 : pv (s ||| 2 ^ gi) - pv s ≤ 5 := Nat.le_trans (Nat.sub_le _ _) (h _)
      have h4 := Nat.mul_le_mul (Nat.mul_le_mul h1 h2) h3
      omega
    · omega
def frcV (u : Bool) (a b : Nat) : Int32 := nI (if u then a / Nat.gcd a b else b / Nat.gcd a b)
def wv (pv : Nat → Nat) (all s : Nat) : Nat := if difG s all = 0 then pv s else 0
theorem kpt_wo {M K : MM} {m : Nat} (h : kpt M m K) (s : Nat) (x : Int32) : kpt M m (sI K (m + 32) s x) := ⟨h.1, fun b j h1 h2 => (up2_ne _ _ (by omega)).trans (h.2 b j h1 h2)⟩
theorem c_X12_share_0 {Γ : GT} {G : GG} {M : MM} {m : Nat} (hF : mdF G M.2.2 m) {tx : Nat → Nat} {len : Nat} {pg : PGM} {su : SU} {hy : HY} {kp : KP} {ze : SE} {sd : Int64} (hI : mInv M m tx len pg su hy kp ze sd) {x w : Int32} (hx : ∀ n, n < pg.2.1.1 → x ≠ nI n) : Calls Γ q_X12_share [.ref m, .int x, .int w] G M (rI (fun y M' => y = -1 ∧ mInv M' m (tx) (len) (pg) (su) (hy) (kp) (ze) (sd) ∧ offM m M M')) := by
  have hI0 := hI
  obtain ⟨iT, iP, iN, iD, iK, iS, iE, iC⟩ := hI
  have v5 := iP.2.2.1.1
  refine Calls.intro (by decide +kernel) (Nat.le_of_ble_eq_true rfl) (fun z E h hQ => ?_)
  refine x_loc (L' := [some (.ref m), some (.int x), some (.int w), none, none, none, none, none]) rfl ?_
  refine x_iload_n h dX12_share_0 rfl ?_
  refine x_i2l h dX12_share_1 ?_
  refine x_lc0 h dX12_share_2 ?_
  refine x_aload_n h dX12_share_3 rfl ?_
  refine x_getIv h hF.1 f_X12_217 rfl iP.2.2.1.2.1 dX12_share_4 ?_
  refine x_in1 h dX12_share_7 ?_
  refine x_isub h dX12_share_8 ?_
  refine x_i2l h dX12_share_9 ?_
  refine x_cSi h ci_X12_in sm_X12_in l_X12_114 ⟨Nat.le_of_ble_eq_true rfl, Nat.le_of_ble_eq_true rfl⟩ ⟨rfl, rfl⟩ ⟨Nat.zero_le _, Nat.zero_le _⟩ (c_X12_in (b := lN 0)) rfl rfl rfl rfl dX12_share_10 (fun v10 M10 hp10 => ?_)
  obtain ⟨rfl, hM⟩ := hp10
  obtain rfl := hM.symm
  clear hM
  refine x_if_ne h 18 dX12_share_13 (by decide) (fun c13 => ?_) (fun c13 => ?_)
  · exact absurd (b2i_0.mpr (in_gn hx (by omega))) c13
  · refine x_icm1 h dX12_share_16 ?_
    exact x_iret h hQ rfl dX12_share_17 ⟨rfl, rfl, _, rfl, rfl, hI0, off_refl m M⟩
theorem c_X12_share_1 {Γ : GT} {G : GG} {M : MM} {m : Nat} (hF : mdF G M.2.2 m) {tx : Nat → Nat} {len : Nat} {pg : PGM} {su : SU} {hy : HY} {kp : KP} {ze : SE} {sd : Int64} (hI : mInv M m tx len pg su hy kp ze sd) {n : Nat} {w : Int32} (hn : n < pg.2.1.1) (hb : (actP pg su).testBit n = false) : Calls Γ q_X12_share [.ref m, .int (nI n), .int w] G M (rI (fun y M' => y = -3 ∧ mInv M' m (tx) (len) (pg) (su) (hy) (kp) (ze) (sd) ∧ offM m M M')) := by
  have hI0 := hI
  obtain ⟨iT, iP, iN, iD, iK, iS, iE, iC⟩ := hI
  have v5 := iP.2.2.1.1
  have n3 : M.1 (m + 21) 3 = nI su.2 := iN.1.2
  have o32 := su32 iN.2 iP.2.2.1.1
  have ha32 := actP_lt su v5
  have hp5 := pvN_le pg su
  obtain ⟨C0, F0, hCF⟩ := iC
  refine Calls.intro (by decide +kernel) (Nat.le_of_ble_eq_true rfl) (fun z E h hQ => ?_)
  refine x_loc (L' := [some (.ref m), some (.int (nI n)), some (.int w), none, none, none, none, none]) rfl ?_
  refine x_iload_n h dX12_share_0 rfl ?_
  refine x_i2l h dX12_share_1 ?_
  refine x_lc0 h dX12_share_2 ?_
  refine x_aload_n h dX12_share_3 rfl ?_
  refine x_getIv h hF.1 f_X12_217 rfl iP.2.2.1.2.1 dX12_share_4 ?_
  refine x_in1 h dX12_share_7 ?_
  refine x_isub h dX12_share_8 ?_
  refine x_i2l h dX12_share_9 ?_
  refine x_cSi h ci_X12_in sm_X12_in l_X12_114 ⟨Nat.le_of_ble_eq_true rfl, Nat.le_of_ble_eq_true rfl⟩ ⟨rfl, rfl⟩ ⟨Nat.zero_le _, Nat.zero_le _⟩ (c_X12_in (b := lN 0)) rfl rfl rfl rfl dX12_share_10 (fun v10 M10 hp10 => ?_)
  obtain ⟨rfl, hM⟩ := hp10
  obtain rfl := hM.symm
  clear hM
  refine x_if_ne h 18 dX12_share_13 (by decide) (fun c13 => ?_) (fun c13 => ?_)
  · refine x_aload_n h dX12_share_18 rfl ?_
    refine x_aload_n h dX12_share_19 rfl ?_
    refine x_getR h hF.1 f_X12_70 rfl (md_now hF).1 dX12_share_20 ?_
    refine x_cVi h ci_X12_left im_X12_left l_X12_281 ⟨Nat.le_of_ble_eq_true rfl, Nat.le_of_ble_eq_true rfl⟩ ⟨rfl, rfl⟩ ⟨Nat.zero_le _, Nat.zero_le _⟩ (c_X12_left hF iP.2.2.1 (md_now hF).2 n3 o32) rfl rfl rfl rfl hF.1 (by decide) rfl dX12_share_23 (fun v23 M23 hp23 => ?_)
    obtain ⟨rfl, hM⟩ := hp23
    obtain rfl := hM.symm
    clear hM
    refine x_topi (show _ = nI (actP pg su) from rfl) ?_
    refine x_istore_n h dX12_share_26 rfl rfl ?_
    dsimp only [List.set]
    refine x_iload_n h dX12_share_27 rfl ?_
    refine x_iload_n h dX12_share_28 rfl ?_
    refine x_cSi h ci_X12_isIn sm_X12_isIn l_X12_236 ⟨Nat.le_of_ble_eq_true rfl, Nat.le_of_ble_eq_true rfl⟩ ⟨rfl, rfl⟩ ⟨Nat.zero_le _, Nat.zero_le _⟩ (c_X12_isIn ha32 (by omega)) rfl rfl rfl rfl dX12_share_29 (fun v29 M29 hp29 => ?_)
    obtain ⟨rfl, hM⟩ := hp29
    obtain rfl := hM.symm
    clear hM
    refine x_if_ne h 38 dX12_share_32 (by decide) (fun c32 => ?_) (fun c32 => ?_)
    · exact absurd (b2i_0.mpr hb) c32
    · refine x_bipush h (-3) (by decide) dX12_share_35 ?_
      exact x_iret h hQ rfl dX12_share_37 ⟨rfl, rfl, _, rfl, rfl, hI0, off_refl m M⟩
  · exact absurd (in_gy hn (by omega)) (by rw [b2i_0.mp c13]; decide)
theorem c_X12_share_2 {Γ : GT} {G : GG} {M : MM} {m : Nat} (hF : mdF G M.2.2 m) {tx : Nat → Nat} {len : Nat} {pg : PGM} {su : SU} {hy : HY} {kp : KP} {ze : SE} {sd : Int64} (hI : mInv M m tx len pg su hy kp ze sd) {n : Nat} {u : Bool} (hn : n < pg.2.1.1) (hb : (actP pg su).testBit n = true) (hm : ∀ s, s < 32 → difG s (actP pg su) = 0 → pvN pg su s ≤ pvN pg su (s ||| 2 ^ n)) : Calls Γ q_X12_share [.ref m, .int (nI n), .int (b2i u)] G M (rI (fun y M' => y = frcV u (shN (pvN pg su) (actP pg su) n (actP pg su + 1)) (fct (on5 (actP pg su))) ∧ mInv M' m tx len pg su hy kp ze sd ∧ offM m M M')) := by
  have hI0 := hI
  obtain ⟨iT, iP, iN, iD, iK, iS, iE, iC⟩ := hI
  have v5 := iP.2.2.1.1
  have n3 : M.1 (m + 21) 3 = nI su.2 := iN.1.2
  have o32 := su32 iN.2 iP.2.2.1.1
  have ha32 := actP_lt su v5
  have hp5 := pvN_le pg su
  obtain ⟨C0, F0, hCF⟩ := iC
  generalize hall : actP pg su = all at *
  refine Calls.intro (by decide +kernel) (Nat.le_of_ble_eq_true rfl) (fun z E h hQ => ?_)
  refine x_loc (L' := [some (.ref m), some (.int (nI n)), some (.int (b2i u)), none, none, none, none, none]) rfl ?_
  have loop2 : ∀ i, i ≤ all + 1 → ∀ K C F w, kpt M m K → (∀ s, s < all + 1 → K.1 (m + 32) s = nI (wv (pvN pg su) all s)) → X Γ E 0 0 G z (wCF K m C F) 95 [some (.ref m), some (.int (nI n)), some (.int (b2i u)), some (.int (nI all)), some (.int (nI (on5 all))), some (.int (nI (shN (pvN pg su) all n i))), some (.int (nI i)), w] [] := by
    refine upto (all + 1) (fun i hi ih K C F w hK hW => ?_)
    have hF2 : mdF G K.2.2 m := by rw [hK.1]; exact hF
    have o5a := on5_le all
    have hsl := shN_le (all := all) (gi := n) hp5 i
    refine x_iload h dX12_share_95 rfl ?_
    refine x_iload_n h dX12_share_97 rfl ?_
    refine x_icmp_gt h 173 dX12_share_98 (by decide) (fun c98 => ?_) (fun c98 => ?_)
    · have e0 : all < i := (nI_lt_iff (by omega) (by omega)).mp c98
      obtain rfl : i = all + 1 := by omega
      refine x_iload h dX12_share_173 rfl ?_
      refine x_iload h dX12_share_175 rfl ?_
      refine x_cSi h ci_X12_factorial sm_X12_factorial l_X12_360 ⟨Nat.le_of_ble_eq_true rfl, Nat.le_of_ble_eq_true rfl⟩ ⟨rfl, rfl⟩ ⟨Nat.zero_le _, Nat.zero_le _⟩ (c_X12_factorial (n := on5 all) (by omega)) rfl rfl rfl rfl dX12_share_177 (fun v177 M177 hp177 => ?_)
      have hv := hp177.1
      have hM := hp177.2
      clear hp177
      rw [hv]
      clear hv v177
      obtain rfl := hM.symm
      clear hM
      refine x_iload_n h dX12_share_180 rfl ?_
      refine x_cSi h ci_X12_fraction sm_X12_fraction l_X12_363 ⟨Nat.le_of_ble_eq_true rfl, Nat.le_of_ble_eq_true rfl⟩ ⟨rfl, rfl⟩ ⟨Nat.zero_le _, Nat.zero_le _⟩ (c_X12_fraction (by omega) (by have := fct_le (on5 all) (by omega); omega) (fct_pos _)) rfl rfl rfl rfl dX12_share_181 (fun v181 M181 hp181 => ?_)
      have hv := hp181.1
      have hM := hp181.2
      clear hp181
      rw [hv]
      clear hv v181
      obtain rfl := hM.symm
      clear hM
      exact x_iret h hQ rfl dX12_share_184 ⟨rfl, rfl, _, rfl, rfl, mInv_CF (kpt_inv hI0 hK) C F, kpt_off hK C F⟩
    · have hlt : i < all + 1 := by
        have := mt (nI_lt_iff (a := all) (b := i) (by omega) (by omega)).mpr c98
        omega
      refine x_iload h dX12_share_101 rfl ?_
      refine x_iload_n h dX12_share_103 rfl ?_
      refine x_icm1 h dX12_share_104 ?_
      refine x_ixor h dX12_share_105 ?_
      refine x_iand h dX12_share_106 ?_
      refine x_topi (difG_ok i (by omega) all ha32) ?_
      refine x_if_ne h 167 dX12_share_107 (by decide) (fun c107 => ?_) (fun c107 => ?_)
      · have e1 : ¬ difG i all = 0 := fun q => c107 (by rw [q]; exact nI_0)
        refine x_incn h dX12_share_167 rfl rfl rfl ?_
        dsimp only [List.set]
        refine x_goto h 95 dX12_share_170 (by decide) ?_
        have ihh := fun w => ih hlt K C F w hK hW
        rw [show shN (pvN pg su) all n (i + 1) = shN (pvN pg su) all n i from by
          rw [shN, if_neg (fun q => e1 q.1)]; rfl] at ihh
        exact ihh _
      · have e1 : difG i all = 0 := nI_small 0 (Nat.lt_trans (difG_lt _ (by omega)) (by decide)) (by decide) (c107.trans nI_0.symm)
        refine x_iload h dX12_share_110 rfl ?_
        refine x_iload_n h dX12_share_112 rfl ?_
        refine x_cSi h ci_X12_isIn sm_X12_isIn l_X12_236 ⟨Nat.le_of_ble_eq_true rfl, Nat.le_of_ble_eq_true rfl⟩ ⟨rfl, rfl⟩ ⟨Nat.zero_le _, Nat.zero_le _⟩ (c_X12_isIn (m := i) (by omega) (by omega)) rfl rfl rfl rfl dX12_share_113 (fun v113 M113 hp113 => ?_)
        obtain ⟨rfl, hM⟩ := hp113
        obtain rfl := hM.symm
        clear hM
        refine x_if_ne h 167 dX12_share_116 (by decide) (fun c116 => ?_) (fun c116 => ?_)
        · have e2 := bool_nf (fun q => c116 (b2i_0.mpr q))
          refine x_incn h dX12_share_167 rfl rfl rfl ?_
          dsimp only [List.set]
          refine x_goto h 95 dX12_share_170 (by decide) ?_
          have ihh := fun w => ih hlt K C F w hK hW
          rw [show shN (pvN pg su) all n (i + 1) = shN (pvN pg su) all n i from by
            rw [shN, if_neg (fun q => by rw [e2] at q; cases q.2)]; rfl] at ihh
          exact ihh _
        · have e2 := b2i_0.mp c116
          refine x_iload h dX12_share_119 rfl ?_
          refine x_cSi h ci_X12_ones sm_X12_ones l_X12_304 ⟨Nat.le_of_ble_eq_true rfl, Nat.le_of_ble_eq_true rfl⟩ ⟨rfl, rfl⟩ ⟨Nat.zero_le _, Nat.zero_le _⟩ (c_X12_ones (m := i) (by omega)) rfl rfl rfl rfl dX12_share_121 (fun v121 M121 hp121 => ?_)
          have hv := hp121.1
          have hM := hp121.2
          clear hp121
          rw [hv]
          clear hv v121
          obtain rfl := hM.symm
          clear hM
          have eo := sub_on1 all ha32 i (by omega) n (by omega) e1 hb e2
          have eq := sub_or all ha32 i (by omega) n (by omega) e1 hb
          refine x_topi (show _ = nI (on5 i) from rfl) ?_
          refine x_istore h dX12_share_124 rfl rfl ?_
          dsimp only [List.set]
          refine x_iload h dX12_share_126 rfl ?_
          refine x_iload h dX12_share_128 rfl ?_
          refine x_cSi h ci_X12_factorial sm_X12_factorial l_X12_360 ⟨Nat.le_of_ble_eq_true rfl, Nat.le_of_ble_eq_true rfl⟩ ⟨rfl, rfl⟩ ⟨Nat.zero_le _, Nat.zero_le _⟩ (c_X12_factorial (n := on5 i) (by omega)) rfl rfl rfl rfl dX12_share_130 (fun v130 M130 hp130 => ?_)
          have hv := hp130.1
          have hM := hp130.2
          clear hp130
          rw [hv]
          clear hv v130
          obtain rfl := hM.symm
          clear hM
          refine x_iload h dX12_share_133 rfl ?_
          refine x_in1 h dX12_share_135 ?_
          refine x_isubn h (by omega) dX12_share_136 ?_
          refine x_iload h dX12_share_137 rfl ?_
          refine x_isubn h (by omega) dX12_share_139 ?_
          refine x_cSi h ci_X12_factorial sm_X12_factorial l_X12_360 ⟨Nat.le_of_ble_eq_true rfl, Nat.le_of_ble_eq_true rfl⟩ ⟨rfl, rfl⟩ ⟨Nat.zero_le _, Nat.zero_le _⟩ (c_X12_factorial (n := on5 all - 1 - on5 i) (by omega)) rfl rfl rfl rfl dX12_share_140 (fun v140 M140 hp140 => ?_)
          have hv := hp140.1
          have hM := hp140.2
          clear hp140
          rw [hv]
          clear hv v140
          obtain rfl := hM.symm
          clear hM
          refine x_imuln h  dX12_share_143 ?_
          refine x_aload_n h dX12_share_144 rfl ?_
          refine x_getR h hF2.1 f_X12_105 rfl (md_worth hF2).1 dX12_share_145 ?_
          refine x_iload h dX12_share_148 rfl ?_
          refine x_in1 h dX12_share_150 ?_
          refine x_iload_n h dX12_share_151 rfl ?_
          refine x_ishl h dX12_share_152 ?_
          refine x_topi (shl1 n (by omega)) ?_
          refine x_ior h dX12_share_153 ?_
          refine x_topi (fa_or i (2 ^ n)) ?_
          refine x_ialdv h (i ||| 2 ^ n) (md_worth hF2).2 (ix.ni (by omega) (by decide)) (show _ = nI (pvN pg su (i ||| 2 ^ n)) from (hW _ (by omega)).trans (by rw [wv, if_pos eq.1])) dX12_share_154 ?_
          refine x_aload_n h dX12_share_155 rfl ?_
          refine x_getR h hF2.1 f_X12_105 rfl (md_worth hF2).1 dX12_share_156 ?_
          refine x_iload h dX12_share_159 rfl ?_
          refine x_ialdv h i (md_worth hF2).2 (ix.ni (by omega) (by decide)) (show _ = nI (pvN pg su i) from (hW i hlt).trans (by rw [wv, if_pos e1])) dX12_share_161 ?_
          refine x_isubn h (hm i (by omega) e1) dX12_share_162 ?_
          refine x_imuln h  dX12_share_163 ?_
          refine x_iaddn h  dX12_share_164 ?_
          refine x_istore h dX12_share_165 rfl rfl ?_
          dsimp only [List.set]
          refine x_incn h dX12_share_167 rfl rfl rfl ?_
          dsimp only [List.set]
          refine x_goto h 95 dX12_share_170 (by decide) ?_
          have ihh := fun w => ih hlt K C F w hK hW
          rw [show shN (pvN pg su) all n (i + 1) = shN (pvN pg su) all n i + fct (on5 i) * fct (on5 all - 1 - on5 i) * (pvN pg su (i ||| 2 ^ n) - pvN pg su i) from by
            rw [shN, if_pos ⟨e1, e2⟩]] at ihh
          exact ihh _
  have loop1 : ∀ i, i ≤ all + 1 → ∀ K C F, kpt M m K → (∀ s, s < i → K.1 (m + 32) s = nI (wv (pvN pg su) all s)) → X Γ E 0 0 G z (wCF K m C F) 41 [some (.ref m), some (.int (nI n)), some (.int (b2i u)), some (.int (nI all)), some (.int (nI i)), none, none, none] [] := by
    refine upto (all + 1) (fun i hi ih K C F hK hW => ?_)
    have hF2 : mdF G K.2.2 m := by rw [hK.1]; exact hF
    refine x_iload h dX12_share_41 rfl ?_
    refine x_iload_n h dX12_share_43 rfl ?_
    refine x_icmp_gt h 83 dX12_share_44 (by decide) (fun c44 => ?_) (fun c44 => ?_)
    · have e0 : all < i := (nI_lt_iff (by omega) (by omega)).mp c44
      obtain rfl : i = all + 1 := by omega
      refine x_iload_n h dX12_share_83 rfl ?_
      refine x_cSi h ci_X12_ones sm_X12_ones l_X12_304 ⟨Nat.le_of_ble_eq_true rfl, Nat.le_of_ble_eq_true rfl⟩ ⟨rfl, rfl⟩ ⟨Nat.zero_le _, Nat.zero_le _⟩ (c_X12_ones (m := all) ha32) rfl rfl rfl rfl dX12_share_84 (fun v84 M84 hp84 => ?_)
      have hv := hp84.1
      have hM := hp84.2
      clear hp84
      rw [hv]
      clear hv v84
      obtain rfl := hM.symm
      clear hM
      refine x_istore h dX12_share_87 rfl rfl ?_
      dsimp only [List.set]
      refine x_in0 h dX12_share_89 ?_
      refine x_istore h dX12_share_90 rfl rfl ?_
      dsimp only [List.set]
      refine x_in0 h dX12_share_92 ?_
      refine x_istore h dX12_share_93 rfl rfl ?_
      dsimp only [List.set]
      exact loop2 0 (Nat.zero_le _) K C F _ hK hW
    · have hlt : i < all + 1 := by
        have := mt (nI_lt_iff (a := all) (b := i) (by omega) (by omega)).mpr c44
        omega
      refine x_aload_n h dX12_share_47 rfl ?_
      refine x_getR h hF2.1 f_X12_105 rfl (md_worth hF2).1 dX12_share_48 ?_
      refine x_iload h dX12_share_51 rfl ?_
      refine x_iload h dX12_share_53 rfl ?_
      refine x_iload_n h dX12_share_55 rfl ?_
      refine x_icm1 h dX12_share_56 ?_
      refine x_ixor h dX12_share_57 ?_
      refine x_iand h dX12_share_58 ?_
      refine x_topi (difG_ok i (by omega) all ha32) ?_
      refine x_if_ne h 75 dX12_share_59 (by decide) (fun c59 => ?_) (fun c59 => ?_)
      · have e1 : ¬ difG i all = 0 := fun q => c59 (by rw [q]; exact nI_0)
        refine x_in0 h dX12_share_75 ?_
        refine x_iast h i (md_worth hF2).2 (ix.ni (by omega) (by decide)) dX12_share_76 ?_
        refine x_incn h dX12_share_77 rfl rfl rfl ?_
        dsimp only [List.set]
        refine x_goto h 41 dX12_share_80 (by decide) ?_
        refine ih hlt (sI K (m + 32) i (nI (0))) C F (kpt_wo hK _ _) (fun s hs => ?_)
        by_cases q : s = i
        · subst q
          exact (up2_self _ _ _ _).trans (by rw [wv, if_neg e1])
        · exact (up2_ne _ _ (by omega)).trans (hW s (by omega))
      · have e1 : difG i all = 0 := nI_small 0 (Nat.lt_trans (difG_lt _ (by omega)) (by decide)) (by decide) (c59.trans nI_0.symm)
        refine x_aload_n h dX12_share_62 rfl ?_
        refine x_aload_n h dX12_share_63 rfl ?_
        refine x_getR h hF2.1 f_X12_70 rfl (md_now hF2).1 dX12_share_64 ?_
        refine x_iload h dX12_share_67 rfl ?_
        refine x_cVi h ci_X12_provedBy im_X12_provedBy l_X12_334 ⟨Nat.le_of_ble_eq_true rfl, Nat.le_of_ble_eq_true rfl⟩ ⟨rfl, rfl⟩ ⟨Nat.zero_le _, Nat.zero_le _⟩ (pv_call hF hI0 hK (s := i) (by omega)) rfl rfl rfl rfl hF2.1 (by decide) rfl dX12_share_69 (fun v69 M69 hp69 => ?_)
        have hv := hp69.1
        obtain ⟨K2, C2, F2, hK2, hw2, hM⟩ := hp69.2
        clear hp69
        rw [hv]
        clear hv v69
        subst hM
        refine x_goto h 76 dX12_share_72 (by decide) ?_
        refine x_iast h i (md_worth (show mdF G K2.2.2 m from by rw [hK2.1]; exact hF)).2 (ix.ni (by omega) (by decide)) dX12_share_76 ?_
        refine x_incn h dX12_share_77 rfl rfl rfl ?_
        dsimp only [List.set]
        refine x_goto h 41 dX12_share_80 (by decide) ?_
        refine ih hlt (sI K2 (m + 32) i (nI (pvN pg su i))) C2 F2 (kpt_wo hK2 _ _) (fun s hs => ?_)
        by_cases q : s = i
        · subst q
          exact (up2_self _ _ _ _).trans (by rw [wv, if_pos e1])
        · exact (up2_ne _ _ (by omega)).trans ((hw2 s).trans (hW s (by omega)))
  refine x_iload_n h dX12_share_0 rfl ?_
  refine x_i2l h dX12_share_1 ?_
  refine x_lc0 h dX12_share_2 ?_
  refine x_aload_n h dX12_share_3 rfl ?_
  refine x_getIv h hF.1 f_X12_217 rfl iP.2.2.1.2.1 dX12_share_4 ?_
  refine x_in1 h dX12_share_7 ?_
  refine x_isub h dX12_share_8 ?_
  refine x_i2l h dX12_share_9 ?_
  refine x_cSi h ci_X12_in sm_X12_in l_X12_114 ⟨Nat.le_of_ble_eq_true rfl, Nat.le_of_ble_eq_true rfl⟩ ⟨rfl, rfl⟩ ⟨Nat.zero_le _, Nat.zero_le _⟩ (c_X12_in (b := lN 0)) rfl rfl rfl rfl dX12_share_10 (fun v10 M10 hp10 => ?_)
  obtain ⟨rfl, hM⟩ := hp10
  obtain rfl := hM.symm
  clear hM
  refine x_if_ne h 18 dX12_share_13 (by decide) (fun c13 => ?_) (fun c13 => ?_)
  · refine x_aload_n h dX12_share_18 rfl ?_
    refine x_aload_n h dX12_share_19 rfl ?_
    refine x_getR h hF.1 f_X12_70 rfl (md_now hF).1 dX12_share_20 ?_
    refine x_cVi h ci_X12_left im_X12_left l_X12_281 ⟨Nat.le_of_ble_eq_true rfl, Nat.le_of_ble_eq_true rfl⟩ ⟨rfl, rfl⟩ ⟨Nat.zero_le _, Nat.zero_le _⟩ (c_X12_left hF iP.2.2.1 (md_now hF).2 n3 o32) rfl rfl rfl rfl hF.1 (by decide) rfl dX12_share_23 (fun v23 M23 hp23 => ?_)
    obtain ⟨rfl, hM⟩ := hp23
    obtain rfl := hM.symm
    clear hM
    refine x_topi (show _ = nI all from congrArg nI hall) ?_
    refine x_istore_n h dX12_share_26 rfl rfl ?_
    dsimp only [List.set]
    refine x_iload_n h dX12_share_27 rfl ?_
    refine x_iload_n h dX12_share_28 rfl ?_
    refine x_cSi h ci_X12_isIn sm_X12_isIn l_X12_236 ⟨Nat.le_of_ble_eq_true rfl, Nat.le_of_ble_eq_true rfl⟩ ⟨rfl, rfl⟩ ⟨Nat.zero_le _, Nat.zero_le _⟩ (c_X12_isIn ha32 (by omega)) rfl rfl rfl rfl dX12_share_29 (fun v29 M29 hp29 => ?_)
    obtain ⟨rfl, hM⟩ := hp29
    obtain rfl := hM.symm
    clear hM
    refine x_if_ne h 38 dX12_share_32 (by decide) (fun c32 => ?_) (fun c32 => ?_)
    · refine x_mem hCF ?_
      refine x_in0 h dX12_share_38 ?_
      refine x_istore h dX12_share_39 rfl rfl ?_
      dsimp only [List.set]
      exact loop1 0 (Nat.zero_le _) M C0 F0 ⟨rfl, fun _ _ _ _ => rfl⟩ (fun s hs => absurd hs (Nat.not_lt_zero _))
    · exact absurd (hb.symm.trans (b2i_0.mp c32)) (by decide)
  · exact absurd (in_gy hn (by omega)) (by rw [b2i_0.mp c13]; decide)
/-- the reference's sum of chances, of 10 ^ n -/
def lsN (pv : Nat → Nat) (nk all x : Nat) : Nat → Nat
  | 0 => 0
  | s + 1 => lsN pv nk all x s + (if difG s all = 0 ∧ pv s = nk then (10 - x) ^ on5 s * x ^ (on5 all - on5 s) else 0)
theorem lsN_le {pv : Nat → Nat} {nk all x : Nat} (h : all < 32) (hx : x ≤ 10) : ∀ s, s ≤ 32 → lsN pv nk all x s ≤ 100000 * s
  | 0, _ => Nat.le_refl _
  | s + 1, hs => by
    have ih := lsN_le (pv := pv) (nk := nk) h hx s (by omega)
    unfold lsN
    split
    · rename_i q
      have h1 := sub_on all h s (by omega) q.1
      have h2 : (10 - x) ^ on5 s ≤ 10 ^ on5 s := Nat.pow_le_pow_left (by omega) _
      have h3 : x ^ (on5 all - on5 s) ≤ 10 ^ (on5 all - on5 s) := Nat.pow_le_pow_left hx _
      have h4 := Nat.mul_le_mul h2 h3
      rw [← Nat.pow_add] at h4
      have h5 : 10 ^ (on5 s + (on5 all - on5 s)) ≤ 10 ^ 5 := Nat.pow_le_pow_right (by decide) (by have := on5_le all; omega)
      omega
    · omega
theorem c_X12_lost_0 {Γ : GT} {G : GG} {M : MM} {m : Nat} (hF : mdF G M.2.2 m) {tx : Nat → Nat} {len : Nat} {pg : PGM} {su : SU} {hy : HY} {kp : KP} {ze : SE} {sd : Int64} (hI : mInv M m tx len pg su hy kp ze sd) {x w : Int32} (hx : ∀ n, n < 11 → x ≠ nI n) : Calls Γ q_X12_lost [.ref m, .int x, .int w] G M (rI (fun y M' => y = -2 ∧ mInv M' m (tx) (len) (pg) (su) (hy) (kp) (ze) (sd) ∧ offM m M M')) := by
  have hI0 := hI
  obtain ⟨iT, iP, iN, iD, iK, iS, iE, iC⟩ := hI
  refine Calls.intro (by decide +kernel) (Nat.le_of_ble_eq_true rfl) (fun z E h hQ => ?_)
  refine x_loc (L' := [some (.ref m), some (.int x), some (.int w), none, none, none, none]) rfl ?_
  refine x_iload_n h dX12_lost_0 rfl ?_
  refine x_i2l h dX12_lost_1 ?_
  refine x_lc0 h dX12_lost_2 ?_
  refine x_ldc2 h kl_X12_382 dX12_lost_3 ?_
  refine x_cSi h ci_X12_in sm_X12_in l_X12_114 ⟨Nat.le_of_ble_eq_true rfl, Nat.le_of_ble_eq_true rfl⟩ ⟨rfl, rfl⟩ ⟨Nat.zero_le _, Nat.zero_le _⟩ (c_X12_in (b := lN 0) (c := lN 10)) rfl rfl rfl rfl dX12_lost_6 (fun v6 M6 hp6 => ?_)
  obtain ⟨rfl, hM⟩ := hp6
  obtain rfl := hM.symm
  clear hM
  refine x_if_ne h 15 dX12_lost_9 (by decide) (fun c9 => ?_) (fun c9 => ?_)
  · exact absurd (b2i_0.mpr (in_no hx (by decide))) c9
  · refine x_bipush h (-2) (by decide) dX12_lost_12 ?_
    exact x_iret h hQ rfl dX12_lost_14 ⟨rfl, rfl, _, rfl, rfl, hI0, off_refl m M⟩
theorem c_X12_lost_1 {Γ : GT} {G : GG} {M : MM} {m : Nat} (hF : mdF G M.2.2 m) {tx : Nat → Nat} {len : Nat} {pg : PGM} {su : SU} {hy : HY} {kp : KP} {ze : SE} {sd : Int64} (hI : mInv M m tx len pg su hy kp ze sd) {n : Nat} {u : Bool} (hn : n < 11) : Calls Γ q_X12_lost [.ref m, .int (nI n), .int (b2i u)] G M (rI (fun y M' => y = frcV u (lsN (pvN pg su) pg.2.2.1.1 (actP pg su) n (actP pg su + 1)) (10 ^ on5 (actP pg su)) ∧ mInv M' m tx len pg su hy kp ze sd ∧ offM m M M')) := by
  have hI0 := hI
  obtain ⟨iT, iP, iN, iD, iK, iS, iE, iC⟩ := hI
  have v5 := iP.2.2.1.1
  have n3 : M.1 (m + 21) 3 = nI su.2 := iN.1.2
  have o32 := su32 iN.2 iP.2.2.1.1
  have ha32 := actP_lt su v5
  have hp5 := pvN_le pg su
  obtain ⟨C0, F0, hCF⟩ := iC
  have nk4 := iP.2.2.2.1.1
  generalize hall : actP pg su = all at *
  refine Calls.intro (by decide +kernel) (Nat.le_of_ble_eq_true rfl) (fun z E h hQ => ?_)
  refine x_loc (L' := [some (.ref m), some (.int (nI n)), some (.int (b2i u)), none, none, none, none]) rfl ?_
  have loop : ∀ i, i ≤ all + 1 → ∀ K C F, kpt M m K → X Γ E 0 0 G z (wCF K m C F) 36 [some (.ref m), some (.int (nI n)), some (.int (b2i u)), some (.int (nI all)), some (.int (nI (on5 all))), some (.int (nI (lsN (pvN pg su) pg.2.2.1.1 all n i))), some (.int (nI i))] [] := by
    refine upto (all + 1) (fun i hi ih K C F hK => ?_)
    have hF2 : mdF G K.2.2 m := by rw [hK.1]; exact hF
    have o5a := on5_le all
    have hsl := lsN_le (pv := pvN pg su) (nk := pg.2.2.1.1) (x := n) ha32 (by omega) i (by omega)
    refine x_iload h dX12_lost_36 rfl ?_
    refine x_iload_n h dX12_lost_38 rfl ?_
    refine x_icmp_gt h 104 dX12_lost_39 (by decide) (fun c39 => ?_) (fun c39 => ?_)
    · have e0 : all < i := (nI_lt_iff (by omega) (by omega)).mp c39
      obtain rfl : i = all + 1 := by omega
      refine x_iload h dX12_lost_104 rfl ?_
      refine x_bipush h (nI 10) (by decide) dX12_lost_106 ?_
      refine x_iload h dX12_lost_108 rfl ?_
      refine x_cSi h ci_X12_power sm_X12_power l_X12_384 ⟨Nat.le_of_ble_eq_true rfl, Nat.le_of_ble_eq_true rfl⟩ ⟨rfl, rfl⟩ ⟨Nat.zero_le _, Nat.zero_le _⟩ (c_X12_power (x := 10) (n := on5 all) (by omega)) rfl rfl rfl rfl dX12_lost_110 (fun v110 M110 hp110 => ?_)
      have hv := hp110.1
      have hM := hp110.2
      clear hp110
      rw [hv]
      clear hv v110
      obtain rfl := hM.symm
      clear hM
      refine x_iload_n h dX12_lost_113 rfl ?_
      refine x_cSi h ci_X12_fraction sm_X12_fraction l_X12_363 ⟨Nat.le_of_ble_eq_true rfl, Nat.le_of_ble_eq_true rfl⟩ ⟨rfl, rfl⟩ ⟨Nat.zero_le _, Nat.zero_le _⟩ (c_X12_fraction (by omega) (show 10 ^ on5 all < 2 ^ 31 from Nat.lt_of_le_of_lt (show 10 ^ on5 all ≤ 10 ^ 5 from Nat.pow_le_pow_right (by decide) o5a) (by decide)) (Nat.pow_pos (by decide))) rfl rfl rfl rfl dX12_lost_114 (fun v114 M114 hp114 => ?_)
      have hv := hp114.1
      have hM := hp114.2
      clear hp114
      rw [hv]
      clear hv v114
      obtain rfl := hM.symm
      clear hM
      exact x_iret h hQ rfl dX12_lost_117 ⟨rfl, rfl, _, rfl, rfl, mInv_CF (kpt_inv hI0 hK) C F, kpt_off hK C F⟩
    · have hlt : i < all + 1 := by
        have := mt (nI_lt_iff (a := all) (b := i) (by omega) (by omega)).mpr c39
        omega
      refine x_iload h dX12_lost_42 rfl ?_
      refine x_iload_n h dX12_lost_44 rfl ?_
      refine x_icm1 h dX12_lost_45 ?_
      refine x_ixor h dX12_lost_46 ?_
      refine x_iand h dX12_lost_47 ?_
      refine x_topi (difG_ok i (by omega) all ha32) ?_
      refine x_if_ne h 98 dX12_lost_48 (by decide) (fun c48 => ?_) (fun c48 => ?_)
      · have e1 : ¬ difG i all = 0 := fun q => c48 (by rw [q]; exact nI_0)
        refine x_incn h dX12_lost_98 rfl rfl rfl ?_
        dsimp only [List.set]
        refine x_goto h 36 dX12_lost_101 (by decide) ?_
        have ihh := ih hlt K C F hK
        rw [show lsN (pvN pg su) pg.2.2.1.1 all n (i + 1) = lsN (pvN pg su) pg.2.2.1.1 all n i from by
          rw [lsN, if_neg (fun q => e1 q.1)]; rfl] at ihh
        exact ihh
      · have e1 : difG i all = 0 := nI_small 0 (Nat.lt_trans (difG_lt _ (by omega)) (by decide)) (by decide) (c48.trans nI_0.symm)
        refine x_aload_n h dX12_lost_51 rfl ?_
        refine x_aload_n h dX12_lost_52 rfl ?_
        refine x_getR h hF2.1 f_X12_70 rfl (md_now hF2).1 dX12_lost_53 ?_
        refine x_iload h dX12_lost_56 rfl ?_
        refine x_cVi h ci_X12_provedBy im_X12_provedBy l_X12_334 ⟨Nat.le_of_ble_eq_true rfl, Nat.le_of_ble_eq_true rfl⟩ ⟨rfl, rfl⟩ ⟨Nat.zero_le _, Nat.zero_le _⟩ (pv_call hF hI0 hK (s := i) (by omega)) rfl rfl rfl rfl hF2.1 (by decide) rfl dX12_lost_58 (fun v58 M58 hp58 => ?_)
        have hv := hp58.1
        obtain ⟨K2, C2, F2, hK2, hw2, hM⟩ := hp58.2
        clear hp58
        rw [hv]
        clear hv v58
        subst hM
        refine x_aload_n h dX12_lost_61 rfl ?_
        refine x_getIv h (show mdF G K2.2.2 m from by rw [hK2.1]; exact hF).1 f_X12_208 rfl (show _ = nI pg.2.2.1.1 from (hK2.2 _ _ (by omega) (by omega)).trans iP.2.2.2.1.2.1) dX12_lost_62 ?_
        refine x_icmp_ne h 98 dX12_lost_65 (by decide) (fun c65 => ?_) (fun c65 => ?_)
        · have e2 : ¬ pvN pg su i = pg.2.2.1.1 := fun q => c65 (by rw [q])
          refine x_incn h dX12_lost_98 rfl rfl rfl ?_
          dsimp only [List.set]
          refine x_goto h 36 dX12_lost_101 (by decide) ?_
          have ihh := ih hlt K2 C2 F2 hK2
          rw [show lsN (pvN pg su) pg.2.2.1.1 all n (i + 1) = lsN (pvN pg su) pg.2.2.1.1 all n i from by
            rw [lsN, if_neg (fun q => e2 q.2)]; rfl] at ihh
          exact ihh
        · have e2 : pvN pg su i = pg.2.2.1.1 := nI_small _ (by have := hp5 i; omega) (by omega) c65
          have eo := sub_on all ha32 i (by omega) e1
          refine x_iload h dX12_lost_68 rfl ?_
          refine x_bipush h (nI 10) (by decide) dX12_lost_70 ?_
          refine x_iload_n h dX12_lost_72 rfl ?_
          refine x_isubn h (by omega) dX12_lost_73 ?_
          refine x_iload h dX12_lost_74 rfl ?_
          refine x_cSi h ci_X12_ones sm_X12_ones l_X12_304 ⟨Nat.le_of_ble_eq_true rfl, Nat.le_of_ble_eq_true rfl⟩ ⟨rfl, rfl⟩ ⟨Nat.zero_le _, Nat.zero_le _⟩ (c_X12_ones (m := i) (by omega)) rfl rfl rfl rfl dX12_lost_76 (fun v76 M76 hp76 => ?_)
          have hv := hp76.1
          have hM := hp76.2
          clear hp76
          rw [hv]
          clear hv v76
          obtain rfl := hM.symm
          clear hM
          refine x_topi (show _ = nI (on5 i) from rfl) ?_
          refine x_cSi h ci_X12_power sm_X12_power l_X12_384 ⟨Nat.le_of_ble_eq_true rfl, Nat.le_of_ble_eq_true rfl⟩ ⟨rfl, rfl⟩ ⟨Nat.zero_le _, Nat.zero_le _⟩ (c_X12_power (x := 10 - n) (n := on5 i) (by omega)) rfl rfl rfl rfl dX12_lost_79 (fun v79 M79 hp79 => ?_)
          have hv := hp79.1
          have hM := hp79.2
          clear hp79
          rw [hv]
          clear hv v79
          obtain rfl := hM.symm
          clear hM
          refine x_iload_n h dX12_lost_82 rfl ?_
          refine x_iload h dX12_lost_83 rfl ?_
          refine x_iload h dX12_lost_85 rfl ?_
          refine x_cSi h ci_X12_ones sm_X12_ones l_X12_304 ⟨Nat.le_of_ble_eq_true rfl, Nat.le_of_ble_eq_true rfl⟩ ⟨rfl, rfl⟩ ⟨Nat.zero_le _, Nat.zero_le _⟩ (c_X12_ones (m := i) (by omega)) rfl rfl rfl rfl dX12_lost_87 (fun v87 M87 hp87 => ?_)
          have hv := hp87.1
          have hM := hp87.2
          clear hp87
          rw [hv]
          clear hv v87
          obtain rfl := hM.symm
          clear hM
          refine x_topi (show _ = nI (on5 i) from rfl) ?_
          refine x_isubn h (by omega) dX12_lost_90 ?_
          refine x_cSi h ci_X12_power sm_X12_power l_X12_384 ⟨Nat.le_of_ble_eq_true rfl, Nat.le_of_ble_eq_true rfl⟩ ⟨rfl, rfl⟩ ⟨Nat.zero_le _, Nat.zero_le _⟩ (c_X12_power (x := n) (n := on5 all - on5 i) (by omega)) rfl rfl rfl rfl dX12_lost_91 (fun v91 M91 hp91 => ?_)
          have hv := hp91.1
          have hM := hp91.2
          clear hp91
          rw [hv]
          clear hv v91
          obtain rfl := hM.symm
          clear hM
          refine x_imuln h  dX12_lost_94 ?_
          refine x_iaddn h  dX12_lost_95 ?_
          refine x_istore h dX12_lost_96 rfl rfl ?_
          dsimp only [List.set]
          refine x_incn h dX12_lost_98 rfl rfl rfl ?_
          dsimp only [List.set]
          refine x_goto h 36 dX12_lost_101 (by decide) ?_
          have ihh := ih hlt K2 C2 F2 hK2
          rw [show lsN (pvN pg su) pg.2.2.1.1 all n (i + 1) = lsN (pvN pg su) pg.2.2.1.1 all n i + (10 - n) ^ on5 i * n ^ (on5 all - on5 i) from by
            rw [lsN, if_pos ⟨e1, e2⟩]] at ihh
          exact ihh
  refine x_iload_n h dX12_lost_0 rfl ?_
  refine x_i2l h dX12_lost_1 ?_
  refine x_lc0 h dX12_lost_2 ?_
  refine x_ldc2 h kl_X12_382 dX12_lost_3 ?_
  refine x_cSi h ci_X12_in sm_X12_in l_X12_114 ⟨Nat.le_of_ble_eq_true rfl, Nat.le_of_ble_eq_true rfl⟩ ⟨rfl, rfl⟩ ⟨Nat.zero_le _, Nat.zero_le _⟩ (c_X12_in (b := lN 0) (c := lN 10)) rfl rfl rfl rfl dX12_lost_6 (fun v6 M6 hp6 => ?_)
  obtain ⟨rfl, hM⟩ := hp6
  obtain rfl := hM.symm
  clear hM
  refine x_if_ne h 15 dX12_lost_9 (by decide) (fun c9 => ?_) (fun c9 => ?_)
  · refine x_aload_n h dX12_lost_15 rfl ?_
    refine x_aload_n h dX12_lost_16 rfl ?_
    refine x_getR h hF.1 f_X12_70 rfl (md_now hF).1 dX12_lost_17 ?_
    refine x_cVi h ci_X12_left im_X12_left l_X12_281 ⟨Nat.le_of_ble_eq_true rfl, Nat.le_of_ble_eq_true rfl⟩ ⟨rfl, rfl⟩ ⟨Nat.zero_le _, Nat.zero_le _⟩ (c_X12_left hF iP.2.2.1 (md_now hF).2 n3 o32) rfl rfl rfl rfl hF.1 (by decide) rfl dX12_lost_20 (fun v20 M20 hp20 => ?_)
    obtain ⟨rfl, hM⟩ := hp20
    obtain rfl := hM.symm
    clear hM
    refine x_topi (show _ = nI all from congrArg nI hall) ?_
    refine x_istore_n h dX12_lost_23 rfl rfl ?_
    dsimp only [List.set]
    refine x_iload_n h dX12_lost_24 rfl ?_
    refine x_cSi h ci_X12_ones sm_X12_ones l_X12_304 ⟨Nat.le_of_ble_eq_true rfl, Nat.le_of_ble_eq_true rfl⟩ ⟨rfl, rfl⟩ ⟨Nat.zero_le _, Nat.zero_le _⟩ (c_X12_ones (m := all) ha32) rfl rfl rfl rfl dX12_lost_25 (fun v25 M25 hp25 => ?_)
    have hv := hp25.1
    have hM := hp25.2
    clear hp25
    rw [hv]
    clear hv v25
    obtain rfl := hM.symm
    clear hM
    refine x_mem hCF ?_
    refine x_istore h dX12_lost_28 rfl rfl ?_
    dsimp only [List.set]
    refine x_in0 h dX12_lost_30 ?_
    refine x_istore h dX12_lost_31 rfl rfl ?_
    dsimp only [List.set]
    refine x_in0 h dX12_lost_33 ?_
    refine x_istore h dX12_lost_34 rfl rfl ?_
    dsimp only [List.set]
    exact loop 0 (Nat.zero_le _) M C0 F0 ⟨rfl, fun _ _ _ _ => rfl⟩
  · exact absurd (in_yes (n := n) (b := 10) (by omega) (by decide)) (by rw [b2i_0.mp c9]; decide)
