/-! ===== Blame: backwards through a program ===== -/
def blameW (G : GG) (R : Nat → Nat → Value) (D : DS) (f : Nat) : Prop := G f = some (.inl 1) ∧ R f 0 = .ref (f + 1) ∧ isD G R D (f + 1) ∧ R f 1 = .ref (f + 3) ∧ arrS G R D (f + 3) 3 ∧ R f 2 = .ref (f + 10) ∧ arrS G R D (f + 10) 3 ∧ R f 3 = .ref (f + 17) ∧ arrS G R D (f + 17) 3 ∧ R f 4 = .ref (f + 24) ∧ arrS G R D (f + 24) 3
def bsiσ (f k v nm t ck : Nat) (σ : SG) : SG := if k = 0 then upσ (metσ σ (f + 1) t) (f + 1) (frS v (metσ σ (f + 1) t (f + 1))) else if k = 1 then upσ σ (f + 1) (shS v false true (σ (f + 1))) else if k = 2 then upσ σ (f + 1) (shS v true false (σ (f + 1))) else if k = 3 then upσ σ (f + 1) (frS v (σ (f + 1))) else if k = 5 ∧ nm = ck then misσ σ (f + 1) t else metσ σ (f + 1) t
def blo6 (f nm t : Nat) (σ : SG) : SG := uniσ (remσ (metσ σ (f + 1) t) (f + 10 + 1 + 2 * nm) t) (f + 1) (f + 10 + 1 + 2 * nm)
def bloσ (f k nm t : Nat) (σ : SG) : SG := if k = 7 then copσ (copσ σ (f + 10 + 1 + 2 * nm) (f + 1)) (f + 1) (f + 3 + 1 + 2 * nm) else uniσ (blo6 f nm t σ) (f + 3 + 1 + 2 * nm) (f + 1)
def bgr (f k nm t : Nat) (σ : SG) : Bool := if k = 7 then false else newσ (blo6 f nm t σ) (f + 3 + 1 + 2 * nm) (f + 1)
def bchσ (f k nm : Nat) (σ : SG) : SG := if k = 10 then copσ σ (f + 17 + 1 + 2 * nm) (f + 1) else if k = 9 then copσ (copσ σ (f + 24 + 1 + 2 * nm) (f + 1)) (f + 1) (f + 17 + 1 + 2 * nm) else uniσ σ (f + 1) (f + 24 + 1 + 2 * nm)
theorem c_X1_passSimple {Γ : GT} {G : GG} {M : MM} {D : DS} {σ : SG} {f a k v nm t : Nat} (hf : blameW G M.2.2 D f) (hs : stepV G M D a k v nm t) {ck : Nat} (hck : ck < 4) (hk : k ≤ 5) (hv : k ≤ 3 → v < 3) (hn : k = 5 → nm < 4) : Calls Γ q_X1_passSimple [.ref f, .ref a, .int (nI ck)] G (wS D M σ) (rV (fun M' => M' = wS D M (bsiσ f k v nm t ck σ))) := by
  obtain ⟨gf, rn, dn, rl, al, rh, ah, rc, ac, rb, ab⟩ := hf
  obtain ⟨ga, ka, va, na, q, rq, gq, rt, dt⟩ := hs
  refine Calls.intro (by decide +kernel) (Nat.le_of_ble_eq_true rfl) (fun z E h hQ => ?_)
  refine x_loc (L' := [some (.ref f), some (.ref a), some (.int (nI ck))]) rfl ?_
  refine x_aload_n h dX1_passSimple_0 rfl ?_
  refine x_getIv h ga f_X1_56 rfl ka dX1_passSimple_1 ?_
  rcases (show k = 0 ∨ k = 1 ∨ k = 2 ∨ k = 3 ∨ k = 4 ∨ k = 5 by omega) with rfl | rfl | rfl | rfl | rfl | rfl
  · refine x_tin h 36 dX1_passSimple_4 (by decide) (by decide) (off := 32) (by decide) (by decide) ?_
    refine x_aload_n h dX1_passSimple_36 rfl ?_
    refine x_getR h gf f_X1_12 rfl rn dX1_passSimple_37 ?_
    refine x_aload_n h dX1_passSimple_40 rfl ?_
    refine x_getR h ga f_X1_73 rfl rq dX1_passSimple_41 ?_
    refine x_getR h gq f_X1_77 rfl rt dX1_passSimple_44 ?_
    refine x_cVv h ci_X9_meet im_X9_meet l_X1_82 ⟨Nat.le_of_ble_eq_true rfl, Nat.le_of_ble_eq_true rfl⟩ ⟨rfl, rfl⟩ ⟨Nat.zero_le _, Nat.zero_le _⟩ (s_meet dn dt) rfl rfl rfl rfl dn.1.1 (by decide) rfl dX1_passSimple_47 (fun M47 hp47 => ?_)
    subst hp47
    refine x_aload_n h dX1_passSimple_50 rfl ?_
    refine x_getR h gf f_X1_12 rfl rn dX1_passSimple_51 ?_
    refine x_aload_n h dX1_passSimple_54 rfl ?_
    refine x_getIv h ga f_X1_85 rfl va dX1_passSimple_55 ?_
    refine x_cVv h ci_X9_free im_X9_free l_X1_88 ⟨Nat.le_of_ble_eq_true rfl, Nat.le_of_ble_eq_true rfl⟩ ⟨rfl, rfl⟩ ⟨Nat.zero_le _, Nat.zero_le _⟩ (s_free (hv (by decide)) dn) rfl rfl rfl rfl dn.1.1 (by decide) rfl dX1_passSimple_58 (fun M58 hp58 => ?_)
    subst hp58
    refine x_goto h 157 dX1_passSimple_61 (by decide) ?_
    exact x_vret h hQ rfl dX1_passSimple_157 ⟨rfl, rfl, rfl, rfl⟩
  · refine x_tin h 64 dX1_passSimple_4 (by decide) (by decide) (off := 60) (by decide) (by decide) ?_
    refine x_aload_n h dX1_passSimple_64 rfl ?_
    refine x_getR h gf f_X1_12 rfl rn dX1_passSimple_65 ?_
    refine x_aload_n h dX1_passSimple_68 rfl ?_
    refine x_getIv h ga f_X1_85 rfl va dX1_passSimple_69 ?_
    refine x_in0 h dX1_passSimple_72 ?_
    refine x_in1 h dX1_passSimple_73 ?_
    refine x_cVv h ci_X9_shift im_X9_shift l_X1_92 ⟨Nat.le_of_ble_eq_true rfl, Nat.le_of_ble_eq_true rfl⟩ ⟨rfl, rfl⟩ ⟨Nat.zero_le _, Nat.zero_le _⟩ (s_shift (up := 0) (st := 1) (hv (by decide)) (by decide) (by decide) dn) rfl rfl rfl rfl dn.1.1 (by decide) rfl dX1_passSimple_74 (fun M74 hp74 => ?_)
    subst hp74
    refine x_goto h 157 dX1_passSimple_77 (by decide) ?_
    exact x_vret h hQ rfl dX1_passSimple_157 ⟨rfl, rfl, rfl, rfl⟩
  · refine x_tin h 80 dX1_passSimple_4 (by decide) (by decide) (off := 76) (by decide) (by decide) ?_
    refine x_aload_n h dX1_passSimple_80 rfl ?_
    refine x_getR h gf f_X1_12 rfl rn dX1_passSimple_81 ?_
    refine x_aload_n h dX1_passSimple_84 rfl ?_
    refine x_getIv h ga f_X1_85 rfl va dX1_passSimple_85 ?_
    refine x_in1 h dX1_passSimple_88 ?_
    refine x_in0 h dX1_passSimple_89 ?_
    refine x_cVv h ci_X9_shift im_X9_shift l_X1_92 ⟨Nat.le_of_ble_eq_true rfl, Nat.le_of_ble_eq_true rfl⟩ ⟨rfl, rfl⟩ ⟨Nat.zero_le _, Nat.zero_le _⟩ (s_shift (up := 1) (st := 0) (hv (by decide)) (by decide) (by decide) dn) rfl rfl rfl rfl dn.1.1 (by decide) rfl dX1_passSimple_90 (fun M90 hp90 => ?_)
    subst hp90
    refine x_goto h 157 dX1_passSimple_93 (by decide) ?_
    exact x_vret h hQ rfl dX1_passSimple_157 ⟨rfl, rfl, rfl, rfl⟩
  · refine x_tin h 96 dX1_passSimple_4 (by decide) (by decide) (off := 92) (by decide) (by decide) ?_
    refine x_aload_n h dX1_passSimple_96 rfl ?_
    refine x_getR h gf f_X1_12 rfl rn dX1_passSimple_97 ?_
    refine x_aload_n h dX1_passSimple_100 rfl ?_
    refine x_getIv h ga f_X1_85 rfl va dX1_passSimple_101 ?_
    refine x_cVv h ci_X9_free im_X9_free l_X1_88 ⟨Nat.le_of_ble_eq_true rfl, Nat.le_of_ble_eq_true rfl⟩ ⟨rfl, rfl⟩ ⟨Nat.zero_le _, Nat.zero_le _⟩ (s_free (hv (by decide)) dn) rfl rfl rfl rfl dn.1.1 (by decide) rfl dX1_passSimple_104 (fun M104 hp104 => ?_)
    subst hp104
    refine x_goto h 157 dX1_passSimple_107 (by decide) ?_
    exact x_vret h hQ rfl dX1_passSimple_157 ⟨rfl, rfl, rfl, rfl⟩
  · refine x_tout h 110 dX1_passSimple_4 (by decide) (by decide) ?_
    refine x_aload_n h dX1_passSimple_110 rfl ?_
    refine x_getIv h ga f_X1_56 rfl ka dX1_passSimple_111 ?_
    refine x_in5 h dX1_passSimple_114 ?_
    refine x_icmp_ne h 143 dX1_passSimple_115 (by decide) (fun c115 => ?_) (fun c115 => ?_)
    · refine x_aload_n h dX1_passSimple_143 rfl ?_
      refine x_getR h gf f_X1_12 rfl rn dX1_passSimple_144 ?_
      refine x_aload_n h dX1_passSimple_147 rfl ?_
      refine x_getR h ga f_X1_73 rfl rq dX1_passSimple_148 ?_
      refine x_getR h gq f_X1_77 rfl rt dX1_passSimple_151 ?_
      refine x_cVv h ci_X9_meet im_X9_meet l_X1_82 ⟨Nat.le_of_ble_eq_true rfl, Nat.le_of_ble_eq_true rfl⟩ ⟨rfl, rfl⟩ ⟨Nat.zero_le _, Nat.zero_le _⟩ (s_meet dn dt) rfl rfl rfl rfl dn.1.1 (by decide) rfl dX1_passSimple_154 (fun M154 hp154 => ?_)
      subst hp154
      exact x_vret h hQ rfl dX1_passSimple_157 ⟨rfl, rfl, rfl, rfl⟩
    · exact absurd c115 (by decide)
  · refine x_tout h 110 dX1_passSimple_4 (by decide) (by decide) ?_
    refine x_aload_n h dX1_passSimple_110 rfl ?_
    refine x_getIv h ga f_X1_56 rfl ka dX1_passSimple_111 ?_
    refine x_in5 h dX1_passSimple_114 ?_
    refine x_icmp_ne h 143 dX1_passSimple_115 (by decide) (fun c115 => ?_) (fun c115 => ?_)
    · exact absurd rfl c115
    · refine x_aload_n h dX1_passSimple_118 rfl ?_
      refine x_getIv h ga f_X1_96 rfl na dX1_passSimple_119 ?_
      refine x_iload_n h dX1_passSimple_122 rfl ?_
      refine x_icmp_ne h 143 dX1_passSimple_123 (by decide) (fun c123 => ?_) (fun c123 => ?_)
      · have hnm : ¬ nm = ck := fun q => c123 (by rw [q])
        refine x_aload_n h dX1_passSimple_143 rfl ?_
        refine x_getR h gf f_X1_12 rfl rn dX1_passSimple_144 ?_
        refine x_aload_n h dX1_passSimple_147 rfl ?_
        refine x_getR h ga f_X1_73 rfl rq dX1_passSimple_148 ?_
        refine x_getR h gq f_X1_77 rfl rt dX1_passSimple_151 ?_
        refine x_cVv h ci_X9_meet im_X9_meet l_X1_82 ⟨Nat.le_of_ble_eq_true rfl, Nat.le_of_ble_eq_true rfl⟩ ⟨rfl, rfl⟩ ⟨Nat.zero_le _, Nat.zero_le _⟩ (s_meet dn dt) rfl rfl rfl rfl dn.1.1 (by decide) rfl dX1_passSimple_154 (fun M154 hp154 => ?_)
        subst hp154
        exact x_vret h hQ rfl dX1_passSimple_157 ⟨rfl, rfl, rfl, by rw [bsiσ]; simp [hnm]⟩
      · have hnm : nm = ck := nI_small ck (by have := hn rfl; omega) (by omega) c123
        refine x_aload_n h dX1_passSimple_126 rfl ?_
        refine x_getR h gf f_X1_12 rfl rn dX1_passSimple_127 ?_
        refine x_aload_n h dX1_passSimple_130 rfl ?_
        refine x_getR h ga f_X1_73 rfl rq dX1_passSimple_131 ?_
        refine x_getR h gq f_X1_77 rfl rt dX1_passSimple_134 ?_
        refine x_cVv h ci_X9_addMissing im_X9_addMissing l_X1_99 ⟨Nat.le_of_ble_eq_true rfl, Nat.le_of_ble_eq_true rfl⟩ ⟨rfl, rfl⟩ ⟨Nat.zero_le _, Nat.zero_le _⟩ (s_addMissing dn dt) rfl rfl rfl rfl dn.1.1 (by decide) rfl dX1_passSimple_137 (fun M137 hp137 => ?_)
        subst hp137
        refine x_goto h 157 dX1_passSimple_140 (by decide) ?_
        exact x_vret h hQ rfl dX1_passSimple_157 ⟨rfl, rfl, rfl, by rw [bsiσ]; simp [hnm]⟩
theorem c_X1_passLoop {Γ : GT} {G : GG} {M : MM} {D : DS} {σ : SG} {f a k v nm t : Nat} (hf : blameW G M.2.2 D f) (hs : stepV G M D a k v nm t) (hk : k = 6 ∨ k = 7) (hn : nm < 3) : Calls Γ q_X1_passLoop [.ref f, .ref a] G (wS D M σ) (rI (fun w M' => w = b2i (bgr f k nm t σ) ∧ M' = wS D M (bloσ f k nm t σ))) := by
  obtain ⟨gf, rn, dn, rl, al, rh, ah, rc, ac, rb, ab⟩ := hf
  obtain ⟨ga, ka, va, na, q, rq, gq, rt, dt⟩ := hs
  refine Calls.intro (by decide +kernel) (Nat.le_of_ble_eq_true rfl) (fun z E h hQ => ?_)
  refine x_loc (L' := [some (.ref f), some (.ref a), none]) rfl ?_
  refine x_aload_n h dX1_passLoop_0 rfl ?_
  refine x_getIv h ga f_X1_96 rfl na dX1_passLoop_1 ?_
  refine x_istore_n h dX1_passLoop_4 rfl rfl ?_
  dsimp only [List.set]
  refine x_iload_n h dX1_passLoop_5 rfl ?_
  refine x_if_lt h 27 dX1_passLoop_6 (by decide) (fun c6 => ?_) (fun c6 => ?_)
  · exact (nI_nneg (by omega) c6).elim
  · refine x_iload_n h dX1_passLoop_9 rfl ?_
    refine x_aload_n h dX1_passLoop_10 rfl ?_
    refine x_getR h gf f_X1_22 rfl rl dX1_passLoop_11 ?_
    refine x_alen h al.1 (by decide) dX1_passLoop_14 ?_
    refine x_icmp_ge h 27 dX1_passLoop_15 (by decide) (fun c15 => ?_) (fun c15 => ?_)
    · exact absurd ((nI_le_iff (by decide) (by omega)).mp c15) (by omega)
    · refine x_iload_n h dX1_passLoop_18 rfl ?_
      refine x_aload_n h dX1_passLoop_19 rfl ?_
      refine x_getR h gf f_X1_26 rfl rh dX1_passLoop_20 ?_
      refine x_alen h ah.1 (by decide) dX1_passLoop_23 ?_
      refine x_icmp_lt h 29 dX1_passLoop_24 (by decide) (fun c24 => ?_) (fun c24 => ?_)
      · refine x_aload_n h dX1_passLoop_29 rfl ?_
        refine x_getIv h ga f_X1_56 rfl ka dX1_passLoop_30 ?_
        refine x_bipush h (nI 7) (by decide) dX1_passLoop_33 ?_
        refine x_icmp_ne h 66 dX1_passLoop_35 (by decide) (fun c35 => ?_) (fun c35 => ?_)
        · have hk6 : k = 6 := hk.resolve_right (fun q => c35 (by rw [q]))
          subst hk6
          refine x_aload_n h dX1_passLoop_66 rfl ?_
          refine x_getR h gf f_X1_12 rfl rn dX1_passLoop_67 ?_
          refine x_aload_n h dX1_passLoop_70 rfl ?_
          refine x_getR h ga f_X1_73 rfl rq dX1_passLoop_71 ?_
          refine x_getR h gq f_X1_77 rfl rt dX1_passLoop_74 ?_
          refine x_cVv h ci_X9_meet im_X9_meet l_X1_82 ⟨Nat.le_of_ble_eq_true rfl, Nat.le_of_ble_eq_true rfl⟩ ⟨rfl, rfl⟩ ⟨Nat.zero_le _, Nat.zero_le _⟩ (s_meet dn dt) rfl rfl rfl rfl dn.1.1 (by decide) rfl dX1_passLoop_77 (fun M77 hp77 => ?_)
          subst hp77
          refine x_aload_n h dX1_passLoop_80 rfl ?_
          refine x_getR h gf f_X1_26 rfl rh dX1_passLoop_81 ?_
          refine x_iload_n h dX1_passLoop_84 rfl ?_
          refine x_aald h nm ah.1 (by decide) (ix.ni hn (by decide)) (ah.2 nm hn).1 dX1_passLoop_85 ?_
          refine x_aload_n h dX1_passLoop_86 rfl ?_
          refine x_getR h ga f_X1_73 rfl rq dX1_passLoop_87 ?_
          refine x_getR h gq f_X1_77 rfl rt dX1_passLoop_90 ?_
          refine x_cVv h ci_X9_remove im_X9_remove l_X1_102 ⟨Nat.le_of_ble_eq_true rfl, Nat.le_of_ble_eq_true rfl⟩ ⟨rfl, rfl⟩ ⟨Nat.zero_le _, Nat.zero_le _⟩ (s_remove (ah.2 nm hn).2 dt) rfl rfl rfl rfl (ah.2 nm hn).2.1.1 (by decide) rfl dX1_passLoop_93 (fun M93 hp93 => ?_)
          subst hp93
          refine x_aload_n h dX1_passLoop_96 rfl ?_
          refine x_getR h gf f_X1_12 rfl rn dX1_passLoop_97 ?_
          refine x_aload_n h dX1_passLoop_100 rfl ?_
          refine x_getR h gf f_X1_26 rfl rh dX1_passLoop_101 ?_
          refine x_iload_n h dX1_passLoop_104 rfl ?_
          refine x_aald h nm ah.1 (by decide) (ix.ni hn (by decide)) (ah.2 nm hn).1 dX1_passLoop_105 ?_
          refine x_cVi h ci_X9_unite im_X9_unite l_X1_105 ⟨Nat.le_of_ble_eq_true rfl, Nat.le_of_ble_eq_true rfl⟩ ⟨rfl, rfl⟩ ⟨Nat.zero_le _, Nat.zero_le _⟩ (s_unite dn (ah.2 nm hn).2) rfl rfl rfl rfl dn.1.1 (by decide) rfl dX1_passLoop_106 (fun v106 M106 hp106 => ?_)
          obtain ⟨-, rfl⟩ := hp106
          refine x_pop h rfl dX1_passLoop_109 ?_
          refine x_aload_n h dX1_passLoop_110 rfl ?_
          refine x_getR h gf f_X1_22 rfl rl dX1_passLoop_111 ?_
          refine x_iload_n h dX1_passLoop_114 rfl ?_
          refine x_aald h nm al.1 (by decide) (ix.ni hn (by decide)) (al.2 nm hn).1 dX1_passLoop_115 ?_
          refine x_aload_n h dX1_passLoop_116 rfl ?_
          refine x_getR h gf f_X1_12 rfl rn dX1_passLoop_117 ?_
          refine x_cVi h ci_X9_unite im_X9_unite l_X1_105 ⟨Nat.le_of_ble_eq_true rfl, Nat.le_of_ble_eq_true rfl⟩ ⟨rfl, rfl⟩ ⟨Nat.zero_le _, Nat.zero_le _⟩ (s_unite (al.2 nm hn).2 dn) rfl rfl rfl rfl (al.2 nm hn).2.1.1 (by decide) rfl dX1_passLoop_120 (fun v120 M120 hp120 => ?_)
          obtain ⟨rfl, rfl⟩ := hp120
          exact x_zret h hQ rfl (b2i_01 _) dX1_passLoop_123 ⟨rfl, rfl, _, rfl, rfl, rfl⟩
        · have hk7 : k = 7 := nI_small 7 (by omega) (by decide) c35
          subst hk7
          refine x_aload_n h dX1_passLoop_38 rfl ?_
          refine x_getR h gf f_X1_26 rfl rh dX1_passLoop_39 ?_
          refine x_iload_n h dX1_passLoop_42 rfl ?_
          refine x_aald h nm ah.1 (by decide) (ix.ni hn (by decide)) (ah.2 nm hn).1 dX1_passLoop_43 ?_
          refine x_aload_n h dX1_passLoop_44 rfl ?_
          refine x_getR h gf f_X1_12 rfl rn dX1_passLoop_45 ?_
          refine x_cVv h ci_X9_copy im_X9_copy l_X1_42 ⟨Nat.le_of_ble_eq_true rfl, Nat.le_of_ble_eq_true rfl⟩ ⟨rfl, rfl⟩ ⟨Nat.zero_le _, Nat.zero_le _⟩ (s_copy (ah.2 nm hn).2 dn) rfl rfl rfl rfl (ah.2 nm hn).2.1.1 (by decide) rfl dX1_passLoop_48 (fun M48 hp48 => ?_)
          subst hp48
          refine x_aload_n h dX1_passLoop_51 rfl ?_
          refine x_getR h gf f_X1_12 rfl rn dX1_passLoop_52 ?_
          refine x_aload_n h dX1_passLoop_55 rfl ?_
          refine x_getR h gf f_X1_22 rfl rl dX1_passLoop_56 ?_
          refine x_iload_n h dX1_passLoop_59 rfl ?_
          refine x_aald h nm al.1 (by decide) (ix.ni hn (by decide)) (al.2 nm hn).1 dX1_passLoop_60 ?_
          refine x_cVv h ci_X9_copy im_X9_copy l_X1_42 ⟨Nat.le_of_ble_eq_true rfl, Nat.le_of_ble_eq_true rfl⟩ ⟨rfl, rfl⟩ ⟨Nat.zero_le _, Nat.zero_le _⟩ (s_copy dn (al.2 nm hn).2) rfl rfl rfl rfl dn.1.1 (by decide) rfl dX1_passLoop_61 (fun M61 hp61 => ?_)
          subst hp61
          refine x_ic0 h dX1_passLoop_64 ?_
          exact x_zret h hQ rfl (by decide) dX1_passLoop_65 ⟨rfl, rfl, _, rfl, rfl, rfl⟩
      · exact absurd ((nI_lt_iff (by omega) (by decide)).mpr hn) c24
theorem c_X1_passChoice {Γ : GT} {G : GG} {M : MM} {D : DS} {σ : SG} {f a k v nm t : Nat} (hf : blameW G M.2.2 D f) (hs : stepV G M D a k v nm t) (hk : k = 8 ∨ k = 9 ∨ k = 10) (hn : nm < 3) : Calls Γ q_X1_passChoice [.ref f, .ref a] G (wS D M σ) (rV (fun M' => M' = wS D M (bchσ f k nm σ))) := by
  obtain ⟨gf, rn, dn, rl, al, rh, ah, rc, ac, rb, ab⟩ := hf
  obtain ⟨ga, ka, va, na, q, rq, gq, rt, dt⟩ := hs
  refine Calls.intro (by decide +kernel) (Nat.le_of_ble_eq_true rfl) (fun z E h hQ => ?_)
  refine x_loc (L' := [some (.ref f), some (.ref a), none]) rfl ?_
  refine x_aload_n h dX1_passChoice_0 rfl ?_
  refine x_getIv h ga f_X1_96 rfl na dX1_passChoice_1 ?_
  refine x_istore_n h dX1_passChoice_4 rfl rfl ?_
  dsimp only [List.set]
  refine x_iload_n h dX1_passChoice_5 rfl ?_
  refine x_if_lt h 27 dX1_passChoice_6 (by decide) (fun c6 => ?_) (fun c6 => ?_)
  · exact (nI_nneg (by omega) c6).elim
  · refine x_iload_n h dX1_passChoice_9 rfl ?_
    refine x_aload_n h dX1_passChoice_10 rfl ?_
    refine x_getR h gf f_X1_29 rfl rc dX1_passChoice_11 ?_
    refine x_alen h ac.1 (by decide) dX1_passChoice_14 ?_
    refine x_icmp_ge h 27 dX1_passChoice_15 (by decide) (fun c15 => ?_) (fun c15 => ?_)
    · exact absurd ((nI_le_iff (by decide) (by omega)).mp c15) (by omega)
    · refine x_iload_n h dX1_passChoice_18 rfl ?_
      refine x_aload_n h dX1_passChoice_19 rfl ?_
      refine x_getR h gf f_X1_32 rfl rb dX1_passChoice_20 ?_
      refine x_alen h ab.1 (by decide) dX1_passChoice_23 ?_
      refine x_icmp_lt h 28 dX1_passChoice_24 (by decide) (fun c24 => ?_) (fun c24 => ?_)
      · refine x_aload_n h dX1_passChoice_28 rfl ?_
        refine x_getIv h ga f_X1_56 rfl ka dX1_passChoice_29 ?_
        refine x_bipush h (nI 10) (by decide) dX1_passChoice_32 ?_
        refine x_icmp_ne h 53 dX1_passChoice_34 (by decide) (fun c34 => ?_) (fun c34 => ?_)
        · have hk8 : ¬ k = 10 := fun q => c34 (by rw [q])
          refine x_aload_n h dX1_passChoice_53 rfl ?_
          refine x_getIv h ga f_X1_56 rfl ka dX1_passChoice_54 ?_
          refine x_bipush h (nI 9) (by decide) dX1_passChoice_57 ?_
          refine x_icmp_ne h 91 dX1_passChoice_59 (by decide) (fun c59 => ?_) (fun c59 => ?_)
          · have hk9 : k = 8 := by
              have : ¬ k = 9 := fun q => c59 (by rw [q])
              omega
            subst hk9
            refine x_aload_n h dX1_passChoice_91 rfl ?_
            refine x_getR h gf f_X1_12 rfl rn dX1_passChoice_92 ?_
            refine x_aload_n h dX1_passChoice_95 rfl ?_
            refine x_getR h gf f_X1_32 rfl rb dX1_passChoice_96 ?_
            refine x_iload_n h dX1_passChoice_99 rfl ?_
            refine x_aald h nm ab.1 (by decide) (ix.ni hn (by decide)) (ab.2 nm hn).1 dX1_passChoice_100 ?_
            refine x_cVi h ci_X9_unite im_X9_unite l_X1_105 ⟨Nat.le_of_ble_eq_true rfl, Nat.le_of_ble_eq_true rfl⟩ ⟨rfl, rfl⟩ ⟨Nat.zero_le _, Nat.zero_le _⟩ (s_unite dn (ab.2 nm hn).2) rfl rfl rfl rfl dn.1.1 (by decide) rfl dX1_passChoice_101 (fun v101 M101 hp101 => ?_)
            obtain ⟨-, rfl⟩ := hp101
            refine x_pop h rfl dX1_passChoice_104 ?_
            exact x_vret h hQ rfl dX1_passChoice_105 ⟨rfl, rfl, rfl, rfl⟩
          · have hk9 : k = 9 := nI_small 9 (by omega) (by decide) c59
            subst hk9
            refine x_aload_n h dX1_passChoice_62 rfl ?_
            refine x_getR h gf f_X1_32 rfl rb dX1_passChoice_63 ?_
            refine x_iload_n h dX1_passChoice_66 rfl ?_
            refine x_aald h nm ab.1 (by decide) (ix.ni hn (by decide)) (ab.2 nm hn).1 dX1_passChoice_67 ?_
            refine x_aload_n h dX1_passChoice_68 rfl ?_
            refine x_getR h gf f_X1_12 rfl rn dX1_passChoice_69 ?_
            refine x_cVv h ci_X9_copy im_X9_copy l_X1_42 ⟨Nat.le_of_ble_eq_true rfl, Nat.le_of_ble_eq_true rfl⟩ ⟨rfl, rfl⟩ ⟨Nat.zero_le _, Nat.zero_le _⟩ (s_copy (ab.2 nm hn).2 dn) rfl rfl rfl rfl (ab.2 nm hn).2.1.1 (by decide) rfl dX1_passChoice_72 (fun M72 hp72 => ?_)
            subst hp72
            refine x_aload_n h dX1_passChoice_75 rfl ?_
            refine x_getR h gf f_X1_12 rfl rn dX1_passChoice_76 ?_
            refine x_aload_n h dX1_passChoice_79 rfl ?_
            refine x_getR h gf f_X1_29 rfl rc dX1_passChoice_80 ?_
            refine x_iload_n h dX1_passChoice_83 rfl ?_
            refine x_aald h nm ac.1 (by decide) (ix.ni hn (by decide)) (ac.2 nm hn).1 dX1_passChoice_84 ?_
            refine x_cVv h ci_X9_copy im_X9_copy l_X1_42 ⟨Nat.le_of_ble_eq_true rfl, Nat.le_of_ble_eq_true rfl⟩ ⟨rfl, rfl⟩ ⟨Nat.zero_le _, Nat.zero_le _⟩ (s_copy dn (ac.2 nm hn).2) rfl rfl rfl rfl dn.1.1 (by decide) rfl dX1_passChoice_85 (fun M85 hp85 => ?_)
            subst hp85
            refine x_goto h 105 dX1_passChoice_88 (by decide) ?_
            exact x_vret h hQ rfl dX1_passChoice_105 ⟨rfl, rfl, rfl, rfl⟩
        · have hk8 : k = 10 := nI_small 10 (by omega) (by decide) c34
          subst hk8
          refine x_aload_n h dX1_passChoice_37 rfl ?_
          refine x_getR h gf f_X1_29 rfl rc dX1_passChoice_38 ?_
          refine x_iload_n h dX1_passChoice_41 rfl ?_
          refine x_aald h nm ac.1 (by decide) (ix.ni hn (by decide)) (ac.2 nm hn).1 dX1_passChoice_42 ?_
          refine x_aload_n h dX1_passChoice_43 rfl ?_
          refine x_getR h gf f_X1_12 rfl rn dX1_passChoice_44 ?_
          refine x_cVv h ci_X9_copy im_X9_copy l_X1_42 ⟨Nat.le_of_ble_eq_true rfl, Nat.le_of_ble_eq_true rfl⟩ ⟨rfl, rfl⟩ ⟨Nat.zero_le _, Nat.zero_le _⟩ (s_copy (ac.2 nm hn).2 dn) rfl rfl rfl rfl (ac.2 nm hn).2.1.1 (by decide) rfl dX1_passChoice_47 (fun M47 hp47 => ?_)
          subst hp47
          refine x_goto h 105 dX1_passChoice_50 (by decide) ?_
          exact x_vret h hQ rfl dX1_passChoice_105 ⟨rfl, rfl, rfl, rfl⟩
      · exact absurd ((nI_lt_iff (by omega) (by decide)).mpr hn) c24
def bstσ (f k v nm t ck : Nat) (σ : SG) : SG := if k = 6 ∨ k = 7 then bloσ f k nm t σ else if 8 ≤ k then bchσ f k nm σ else bsiσ f k v nm t ck σ
/-- the steps from the end: i of them, of a program of length n -/
def bpaN (f : Nat) (P : PV) (ck : Nat) : Nat → SG → SG
  | 0, σ => σ
  | i + 1, σ => bstσ f (P.2.1 (P.1 - 1 - i)) (P.2.2.1 (P.1 - 1 - i)) (P.2.2.2.1 (P.1 - 1 - i)) (P.2.2.2.2 (P.1 - 1 - i)) ck (bpaN f P ck i σ)
def bgrN (f : Nat) (P : PV) (ck : Nat) : Nat → SG → Bool
  | 0, _ => false
  | i + 1, σ => bgrN f P ck i σ || (if P.2.1 (P.1 - 1 - i) = 6 ∨ P.2.1 (P.1 - 1 - i) = 7 then bgr f (P.2.1 (P.1 - 1 - i)) (P.2.2.2.1 (P.1 - 1 - i)) (P.2.2.2.2 (P.1 - 1 - i)) (bpaN f P ck i σ) else false)
theorem nI_m1 {j : Nat} (h : j < 2 ^ 31) : nI j - 1 < 0 ↔ j = 0 := by
  constructor
  · intro q
    rcases Nat.eq_zero_or_pos j with e | e
    · exact e
    · obtain ⟨i, rfl⟩ : ∃ i, j = i + 1 := ⟨j - 1, by omega⟩
      rw [nI_pred] at q
      exact (nI_nneg (by omega) q).elim
  · rintro rfl
    decide
theorem c_X1_pass {Γ : GT} {G : GG} {M : MM} {D : DS} {σ : SG} {f c ck : Nat} {P : PV} (hf : blameW G M.2.2 D f) (hW : codeF G M.2.2 c) (hP : pvW G M D c P) (hck : ck < 4) : Calls Γ q_X1_pass [.ref f, .ref c, .int (nI ck)] G (wS D M σ) (rI (fun w M' => w = b2i (bgrN f P ck P.1 (upσ σ (f + 1) (fun _ => false))) ∧ M' = wS D M (bpaN f P ck P.1 (upσ σ (f + 1) (fun _ => false))))) := by
  have hf0 := hf
  have hW0 := hW
  obtain ⟨gf, rn, dn, -⟩ := hf
  have gc := hW.1
  obtain ⟨h60, hlen, hst⟩ := hP
  refine Calls.intro (by decide +kernel) (Nat.le_of_ble_eq_true rfl) (fun z E h hQ => ?_)
  refine x_loc (L' := [some (.ref f), some (.ref c), some (.int (nI ck)), none, none, none]) rfl ?_
  have loop : ∀ i, i ≤ P.1 → ∀ w, X Γ E 0 0 G z (wS D M (bpaN f P ck i (upσ σ (f + 1) (fun _ => false)))) 17 [some (.ref f), some (.ref c), some (.int (nI ck)), some (.int (b2i (bgrN f P ck i (upσ σ (f + 1) (fun _ => false))))), some (.int (nI (P.1 - i) - 1)), w] [] := by
    refine upto P.1 (fun i hi ih w => ?_)
    refine x_iload h dX1_pass_17 rfl ?_
    refine x_if_lt h 94 dX1_pass_19 (by decide) (fun c19 => ?_) (fun c19 => ?_)
    · obtain rfl : i = P.1 := by
        have := (nI_m1 (by omega)).mp c19
        omega
      refine x_iload_n h dX1_pass_94 rfl ?_
      exact x_zret h hQ rfl (b2i_01 _) dX1_pass_95 ⟨rfl, rfl, _, rfl, rfl, rfl⟩
    · have hlt : i < P.1 := by
        have := mt (nI_m1 (by omega)).mpr c19
        omega
      have hj : P.1 - 1 - i < P.1 := by omega
      obtain ⟨sv, k10, kv, k5, k6⟩ := hst _ hj
      have hnj : nI (P.1 - i) - 1 = nI (P.1 - 1 - i) := by
        rw [show P.1 - i = (P.1 - 1 - i) + 1 by omega, nI_pred]
      refine x_loc (L' := [some (.ref f), some (.ref c), some (.int (nI ck)), some (.int (b2i (bgrN f P ck i (upσ σ (f + 1) (fun _ => false))))), some (.int (nI (P.1 - 1 - i))), w]) (by rw [hnj]) ?_
      refine x_aload_n h dX1_pass_22 rfl ?_
      refine x_iload h dX1_pass_23 rfl ?_
      refine x_cVr h ci_X2_at im_X2_at l_X1_52 ⟨Nat.le_of_ble_eq_true rfl, Nat.le_of_ble_eq_true rfl⟩ ⟨rfl, rfl⟩ ⟨Nat.zero_le _, Nat.zero_le _⟩ (c_X2_at (M := wS D M _) hW0 (i := P.1 - 1 - i) (by omega)) rfl rfl rfl rfl gc (by decide) rfl dX1_pass_25 (fun v25 M25 hp25 => ?_)
      obtain ⟨rfl, hM⟩ := hp25
      obtain rfl := hM.symm
      clear hM
      refine x_astore h dX1_pass_28 rfl rfl ?_
      dsimp only [List.set]
      refine x_aload h dX1_pass_30 rfl ?_
      refine x_getIv h sv.1 f_X1_56 rfl sv.2.1 dX1_pass_32 ?_
      refine x_bipush h (nI 6) (by decide) dX1_pass_35 ?_
      refine x_icmp_eq h 50 dX1_pass_37 (by decide) (fun c37 => ?_) (fun c37 => ?_)
      · have hk : P.2.1 (P.1 - 1 - i) = 6 := nI_small 6 (by omega) (by decide) c37
        have hkd : (P.2.1 (P.1 - 1 - i) = 6 ∨ P.2.1 (P.1 - 1 - i) = 7) = True := by simp [hk]
        refine x_iload_n h dX1_pass_50 rfl ?_
        refine x_aload_n h dX1_pass_51 rfl ?_
        refine x_aload h dX1_pass_52 rfl ?_
        refine x_cVi h ci_X1_passLoop im_X1_passLoop l_X1_61 ⟨Nat.le_of_ble_eq_true rfl, Nat.le_of_ble_eq_true rfl⟩ ⟨rfl, rfl⟩ ⟨Nat.zero_le _, Nat.zero_le _⟩ (c_X1_passLoop hf0 sv (by omega) (k6 (by omega))) rfl rfl rfl rfl gf (by decide) rfl dX1_pass_54 (fun v54 M54 hp54 => ?_)
        obtain ⟨rfl, rfl⟩ := hp54
        refine x_ior h dX1_pass_57 ?_
        refine x_topi (b2i_or _ _) ?_
        refine x_istore_n h dX1_pass_58 rfl rfl ?_
        dsimp only [List.set]
        refine x_goto h 88 dX1_pass_59 (by decide) ?_
        refine x_iinc h (-1) (by decide) dX1_pass_88 rfl rfl rfl ?_
        dsimp only [List.set]
        refine x_goto h 17 dX1_pass_91 (by decide) ?_
        have ihh := ih hlt (some (.ref (c + 65 + (P.1 - 1 - i))))
        simp only [bpaN, bgrN, bstσ, hkd, if_true, if_false, Bool.or_false] at ihh
        rw [show P.1 - (i + 1) = P.1 - 1 - i by omega, Int32.sub_eq_add_neg] at ihh
        exact ihh
      · have hk6 : ¬ P.2.1 (P.1 - 1 - i) = 6 := fun q => c37 (by rw [q])
        refine x_aload h dX1_pass_40 rfl ?_
        refine x_getIv h sv.1 f_X1_56 rfl sv.2.1 dX1_pass_42 ?_
        refine x_bipush h (nI 7) (by decide) dX1_pass_45 ?_
        refine x_icmp_ne h 62 dX1_pass_47 (by decide) (fun c47 => ?_) (fun c47 => ?_)
        · have hk7 : ¬ P.2.1 (P.1 - 1 - i) = 7 := fun q => c47 (by rw [q])
          have hkd0 : (P.2.1 (P.1 - 1 - i) = 6 ∨ P.2.1 (P.1 - 1 - i) = 7) = False := by simp [hk6, hk7]
          refine x_aload h dX1_pass_62 rfl ?_
          refine x_getIv h sv.1 f_X1_56 rfl sv.2.1 dX1_pass_64 ?_
          refine x_bipush h (nI 8) (by decide) dX1_pass_67 ?_
          refine x_icmp_lt h 81 dX1_pass_69 (by decide) (fun c69 => ?_) (fun c69 => ?_)
          · have hk8 : ¬ 8 ≤ P.2.1 (P.1 - 1 - i) := by
              have := (nI_lt_iff (by omega) (by decide)).mp c69
              omega
            have hkd : ((P.2.1 (P.1 - 1 - i) = 6 ∨ P.2.1 (P.1 - 1 - i) = 7) = False) ∧ (8 ≤ P.2.1 (P.1 - 1 - i)) = False := ⟨hkd0, by simp [hk8]⟩
            refine x_aload_n h dX1_pass_81 rfl ?_
            refine x_aload h dX1_pass_82 rfl ?_
            refine x_iload_n h dX1_pass_84 rfl ?_
            refine x_cVv h ci_X1_passSimple im_X1_passSimple l_X1_69 ⟨Nat.le_of_ble_eq_true rfl, Nat.le_of_ble_eq_true rfl⟩ ⟨rfl, rfl⟩ ⟨Nat.zero_le _, Nat.zero_le _⟩ (c_X1_passSimple hf0 sv hck (by omega) kv k5) rfl rfl rfl rfl gf (by decide) rfl dX1_pass_85 (fun M85 hp85 => ?_)
            subst hp85
            refine x_iinc h (-1) (by decide) dX1_pass_88 rfl rfl rfl ?_
            dsimp only [List.set]
            refine x_goto h 17 dX1_pass_91 (by decide) ?_
            have ihh := ih hlt (some (.ref (c + 65 + (P.1 - 1 - i))))
            simp only [bpaN, bgrN, bstσ, hkd, if_true, if_false, Bool.or_false] at ihh
            rw [show P.1 - (i + 1) = P.1 - 1 - i by omega, Int32.sub_eq_add_neg] at ihh
            exact ihh
          · have hk8 : 8 ≤ P.2.1 (P.1 - 1 - i) := by
              have := mt (nI_lt_iff (by omega) (by decide)).mpr c69
              omega
            have hkd : ((P.2.1 (P.1 - 1 - i) = 6 ∨ P.2.1 (P.1 - 1 - i) = 7) = False) ∧ (8 ≤ P.2.1 (P.1 - 1 - i)) = True := ⟨hkd0, by simp [hk8]⟩
            refine x_aload_n h dX1_pass_72 rfl ?_
            refine x_aload h dX1_pass_73 rfl ?_
            refine x_cVv h ci_X1_passChoice im_X1_passChoice l_X1_65 ⟨Nat.le_of_ble_eq_true rfl, Nat.le_of_ble_eq_true rfl⟩ ⟨rfl, rfl⟩ ⟨Nat.zero_le _, Nat.zero_le _⟩ (c_X1_passChoice hf0 sv (by omega) (k6 (by omega))) rfl rfl rfl rfl gf (by decide) rfl dX1_pass_75 (fun M75 hp75 => ?_)
            subst hp75
            refine x_goto h 88 dX1_pass_78 (by decide) ?_
            refine x_iinc h (-1) (by decide) dX1_pass_88 rfl rfl rfl ?_
            dsimp only [List.set]
            refine x_goto h 17 dX1_pass_91 (by decide) ?_
            have ihh := ih hlt (some (.ref (c + 65 + (P.1 - 1 - i))))
            simp only [bpaN, bgrN, bstσ, hkd, if_true, if_false, Bool.or_false] at ihh
            rw [show P.1 - (i + 1) = P.1 - 1 - i by omega, Int32.sub_eq_add_neg] at ihh
            exact ihh
        · have hk : P.2.1 (P.1 - 1 - i) = 7 := nI_small 7 (by omega) (by decide) c47
          have hkd : (P.2.1 (P.1 - 1 - i) = 6 ∨ P.2.1 (P.1 - 1 - i) = 7) = True := by simp [hk]
          refine x_iload_n h dX1_pass_50 rfl ?_
          refine x_aload_n h dX1_pass_51 rfl ?_
          refine x_aload h dX1_pass_52 rfl ?_
          refine x_cVi h ci_X1_passLoop im_X1_passLoop l_X1_61 ⟨Nat.le_of_ble_eq_true rfl, Nat.le_of_ble_eq_true rfl⟩ ⟨rfl, rfl⟩ ⟨Nat.zero_le _, Nat.zero_le _⟩ (c_X1_passLoop hf0 sv (by omega) (k6 (by omega))) rfl rfl rfl rfl gf (by decide) rfl dX1_pass_54 (fun v54 M54 hp54 => ?_)
          obtain ⟨rfl, rfl⟩ := hp54
          refine x_ior h dX1_pass_57 ?_
          refine x_topi (b2i_or _ _) ?_
          refine x_istore_n h dX1_pass_58 rfl rfl ?_
          dsimp only [List.set]
          refine x_goto h 88 dX1_pass_59 (by decide) ?_
          refine x_iinc h (-1) (by decide) dX1_pass_88 rfl rfl rfl ?_
          dsimp only [List.set]
          refine x_goto h 17 dX1_pass_91 (by decide) ?_
          have ihh := ih hlt (some (.ref (c + 65 + (P.1 - 1 - i))))
          simp only [bpaN, bgrN, bstσ, hkd, if_true, if_false, Bool.or_false] at ihh
          rw [show P.1 - (i + 1) = P.1 - 1 - i by omega, Int32.sub_eq_add_neg] at ihh
          exact ihh
  refine x_ic0 h dX1_pass_0 ?_
  refine x_istore_n h dX1_pass_1 rfl rfl ?_
  dsimp only [List.set]
  refine x_aload_n h dX1_pass_2 rfl ?_
  refine x_getR h gf f_X1_12 rfl rn dX1_pass_3 ?_
  refine x_cVv h ci_X9_clear im_X9_clear l_X1_35 ⟨Nat.le_of_ble_eq_true rfl, Nat.le_of_ble_eq_true rfl⟩ ⟨rfl, rfl⟩ ⟨Nat.zero_le _, Nat.zero_le _⟩ (s_clear dn) rfl rfl rfl rfl dn.1.1 (by decide) rfl dX1_pass_6 (fun M6 hp6 => ?_)
  subst hp6
  refine x_aload_n h dX1_pass_9 rfl ?_
  refine x_getIv h gc f_X1_46 rfl hlen dX1_pass_10 ?_
  refine x_ic1 h dX1_pass_13 ?_
  refine x_isub h dX1_pass_14 ?_
  refine x_istore h dX1_pass_15 rfl rfl ?_
  dsimp only [List.set]
  exact loop 0 (Nat.zero_le _) none
