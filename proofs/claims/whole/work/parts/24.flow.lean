/-! ===== Flow: sets of states through a program ===== -/
def arrS (G : GG) (R : Nat → Nat → Value) (D : DS) (a n : Nat) : Prop := G a = some (.inr (.object "LoopGuesses$States", n)) ∧ ∀ i, i < n → R a i = .ref (a + 1 + 2 * i) ∧ isD G R D (a + 1 + 2 * i)
def flowW (G : GG) (R : Nat → Nat → Value) (D : DS) (f : Nat) : Prop := G f = some (.inl 4) ∧ R f 0 = .ref (f + 1) ∧ isD G R D (f + 1) ∧ R f 1 = .ref (f + 3) ∧ arrS G R D (f + 3) 3 ∧ R f 2 = .ref (f + 10) ∧ arrS G R D (f + 10) 3 ∧ R f 3 = .ref (f + 17) ∧ arrS G R D (f + 17) 4 ∧ R f 4 = .ref (f + 26) ∧ arrS G R D (f + 26) 3 ∧ R f 5 = .ref (f + 33) ∧ arrS G R D (f + 33) 3
/-- a step: kind, variable, number, the set of its condition -/
def stepV (G : GG) (M : MM) (D : DS) (a k v nm t : Nat) : Prop := G a = some (.inl 10) ∧ M.1 a 0 = nI k ∧ M.1 a 1 = nI v ∧ M.1 a 2 = nI nm ∧ ∃ q, M.2.2 a 4 = .ref q ∧ G q = some (.inl 3) ∧ M.2.2 q 3 = .ref t ∧ isD G M.2.2 D t
def simσ (f k v nm t : Nat) (σ : SG) : SG := if k = 0 then metσ (upσ σ (f + 1) (frS v (σ (f + 1)))) (f + 1) t else if k = 1 then upσ σ (f + 1) (shS v true true (σ (f + 1))) else if k = 2 then upσ σ (f + 1) (shS v false false (σ (f + 1))) else if k = 3 then upσ σ (f + 1) (frS v (σ (f + 1))) else if k = 5 then metσ (copσ σ (f + 17 + 1 + 2 * nm) (f + 1)) (f + 1) t else metσ σ (f + 1) t
def lopσ (f ia k nm t : Nat) (σ : SG) : SG := if k = 6 then metσ (copσ (uniσ σ (f + 3 + 1 + 2 * nm) (f + 1)) (f + 1) (ia + 1 + 2 * nm)) (f + 1) t else remσ (copσ (uniσ σ (f + 3 + 1 + 2 * nm) (f + 1)) (f + 1) (ia + 1 + 2 * nm)) (f + 1) t
def choσ (f k nm : Nat) (σ : SG) : SG := if k = 8 then copσ σ (f + 26 + 1 + 2 * nm) (f + 1) else if k = 9 then copσ (copσ σ (f + 33 + 1 + 2 * nm) (f + 1)) (f + 1) (f + 26 + 1 + 2 * nm) else uniσ σ (f + 1) (f + 33 + 1 + 2 * nm)
theorem nI_small {a : Nat} (b : Nat) (ha : a < 2 ^ 31) (hb : b < 2 ^ 31) (h : nI a = nI b) : a = b := (nI_eq_iff ha hb).mp h
theorem c_X4_passSimple {Γ : GT} {G : GG} {M : MM} {D : DS} {σ : SG} {f a k v nm t : Nat} (hf : flowW G M.2.2 D f) (hs : stepV G M D a k v nm t) (hk : k ≤ 5) (hv : k ≤ 3 → v < 3) (hn : k = 5 → nm < 4) : Calls Γ q_X4_passSimple [.ref f, .ref a] G (wS D M σ) (rV (fun M' => M' = wS D M (simσ f k v nm t σ))) := by
  obtain ⟨gf, rn, dn, rc, ac, ri, ai, rk, ak, ro, ao, rb, ab⟩ := hf
  obtain ⟨ga, ka, va, na, q, rq, gq, rt, dt⟩ := hs
  refine Calls.intro (by decide +kernel) (Nat.le_of_ble_eq_true rfl) (fun z E h hQ => ?_)
  refine x_loc (L' := [some (.ref f), some (.ref a)]) rfl ?_
  refine x_aload_n h dX4_passSimple_0 rfl ?_
  refine x_getIv h ga f_X4_74 rfl ka dX4_passSimple_1 ?_
  rcases (show k = 0 ∨ k = 1 ∨ k = 2 ∨ k = 3 ∨ k = 4 ∨ k = 5 by omega) with rfl | rfl | rfl | rfl | rfl | rfl
  · refine x_tin h 44 dX4_passSimple_4 (by decide) (by decide) (off := 40) (by decide) (by decide) ?_
    refine x_aload_n h dX4_passSimple_44 rfl ?_
    refine x_getR h gf f_X4_12 rfl rn dX4_passSimple_45 ?_
    refine x_aload_n h dX4_passSimple_48 rfl ?_
    refine x_getIv h ga f_X4_90 rfl va dX4_passSimple_49 ?_
    refine x_cVv h ci_X9_free im_X9_free l_X4_93 ⟨Nat.le_of_ble_eq_true rfl, Nat.le_of_ble_eq_true rfl⟩ ⟨rfl, rfl⟩ ⟨Nat.zero_le _, Nat.zero_le _⟩ (s_free (hv (by decide)) dn) rfl rfl rfl rfl dn.1.1 (by decide) rfl dX4_passSimple_52 (fun M52 hp52 => ?_)
    subst hp52
    refine x_aload_n h dX4_passSimple_55 rfl ?_
    refine x_getR h gf f_X4_12 rfl rn dX4_passSimple_56 ?_
    refine x_aload_n h dX4_passSimple_59 rfl ?_
    refine x_getR h ga f_X4_97 rfl rq dX4_passSimple_60 ?_
    refine x_getR h gq f_X4_50 rfl rt dX4_passSimple_63 ?_
    refine x_cVv h ci_X9_meet im_X9_meet l_X4_55 ⟨Nat.le_of_ble_eq_true rfl, Nat.le_of_ble_eq_true rfl⟩ ⟨rfl, rfl⟩ ⟨Nat.zero_le _, Nat.zero_le _⟩ (s_meet dn dt) rfl rfl rfl rfl dn.1.1 (by decide) rfl dX4_passSimple_66 (fun M66 hp66 => ?_)
    subst hp66
    refine x_goto h 184 dX4_passSimple_69 (by decide) ?_
    exact x_vret h hQ rfl dX4_passSimple_184 ⟨rfl, rfl, rfl, rfl⟩
  · refine x_tin h 72 dX4_passSimple_4 (by decide) (by decide) (off := 68) (by decide) (by decide) ?_
    refine x_aload_n h dX4_passSimple_72 rfl ?_
    refine x_getR h gf f_X4_12 rfl rn dX4_passSimple_73 ?_
    refine x_aload_n h dX4_passSimple_76 rfl ?_
    refine x_getIv h ga f_X4_90 rfl va dX4_passSimple_77 ?_
    refine x_in1 h dX4_passSimple_80 ?_
    refine x_in1 h dX4_passSimple_81 ?_
    refine x_cVv h ci_X9_shift im_X9_shift l_X4_101 ⟨Nat.le_of_ble_eq_true rfl, Nat.le_of_ble_eq_true rfl⟩ ⟨rfl, rfl⟩ ⟨Nat.zero_le _, Nat.zero_le _⟩ (s_shift (up := 1) (st := 1) (hv (by decide)) (by decide) (by decide) dn) rfl rfl rfl rfl dn.1.1 (by decide) rfl dX4_passSimple_82 (fun M82 hp82 => ?_)
    subst hp82
    refine x_goto h 184 dX4_passSimple_85 (by decide) ?_
    exact x_vret h hQ rfl dX4_passSimple_184 ⟨rfl, rfl, rfl, rfl⟩
  · refine x_tin h 88 dX4_passSimple_4 (by decide) (by decide) (off := 84) (by decide) (by decide) ?_
    refine x_aload_n h dX4_passSimple_88 rfl ?_
    refine x_getR h gf f_X4_12 rfl rn dX4_passSimple_89 ?_
    refine x_aload_n h dX4_passSimple_92 rfl ?_
    refine x_getIv h ga f_X4_90 rfl va dX4_passSimple_93 ?_
    refine x_in0 h dX4_passSimple_96 ?_
    refine x_in0 h dX4_passSimple_97 ?_
    refine x_cVv h ci_X9_shift im_X9_shift l_X4_101 ⟨Nat.le_of_ble_eq_true rfl, Nat.le_of_ble_eq_true rfl⟩ ⟨rfl, rfl⟩ ⟨Nat.zero_le _, Nat.zero_le _⟩ (s_shift (up := 0) (st := 0) (hv (by decide)) (by decide) (by decide) dn) rfl rfl rfl rfl dn.1.1 (by decide) rfl dX4_passSimple_98 (fun M98 hp98 => ?_)
    subst hp98
    refine x_goto h 184 dX4_passSimple_101 (by decide) ?_
    exact x_vret h hQ rfl dX4_passSimple_184 ⟨rfl, rfl, rfl, rfl⟩
  · refine x_tin h 104 dX4_passSimple_4 (by decide) (by decide) (off := 100) (by decide) (by decide) ?_
    refine x_aload_n h dX4_passSimple_104 rfl ?_
    refine x_getR h gf f_X4_12 rfl rn dX4_passSimple_105 ?_
    refine x_aload_n h dX4_passSimple_108 rfl ?_
    refine x_getIv h ga f_X4_90 rfl va dX4_passSimple_109 ?_
    refine x_cVv h ci_X9_free im_X9_free l_X4_93 ⟨Nat.le_of_ble_eq_true rfl, Nat.le_of_ble_eq_true rfl⟩ ⟨rfl, rfl⟩ ⟨Nat.zero_le _, Nat.zero_le _⟩ (s_free (hv (by decide)) dn) rfl rfl rfl rfl dn.1.1 (by decide) rfl dX4_passSimple_112 (fun M112 hp112 => ?_)
    subst hp112
    refine x_goto h 184 dX4_passSimple_115 (by decide) ?_
    exact x_vret h hQ rfl dX4_passSimple_184 ⟨rfl, rfl, rfl, rfl⟩
  · refine x_tin h 170 dX4_passSimple_4 (by decide) (by decide) (off := 166) (by decide) (by decide) ?_
    refine x_aload_n h dX4_passSimple_170 rfl ?_
    refine x_getR h gf f_X4_12 rfl rn dX4_passSimple_171 ?_
    refine x_aload_n h dX4_passSimple_174 rfl ?_
    refine x_getR h ga f_X4_97 rfl rq dX4_passSimple_175 ?_
    refine x_getR h gq f_X4_50 rfl rt dX4_passSimple_178 ?_
    refine x_cVv h ci_X9_meet im_X9_meet l_X4_55 ⟨Nat.le_of_ble_eq_true rfl, Nat.le_of_ble_eq_true rfl⟩ ⟨rfl, rfl⟩ ⟨Nat.zero_le _, Nat.zero_le _⟩ (s_meet dn dt) rfl rfl rfl rfl dn.1.1 (by decide) rfl dX4_passSimple_181 (fun M181 hp181 => ?_)
    subst hp181
    exact x_vret h hQ rfl dX4_passSimple_184 ⟨rfl, rfl, rfl, rfl⟩
  · refine x_tin h 118 dX4_passSimple_4 (by decide) (by decide) (off := 114) (by decide) (by decide) ?_
    refine x_aload_n h dX4_passSimple_118 rfl ?_
    refine x_getIv h ga f_X4_105 rfl na dX4_passSimple_119 ?_
    refine x_if_lt h 153 dX4_passSimple_122 (by decide) (fun c122 => ?_) (fun c122 => ?_)
    · exact (nI_nneg (by have := hn rfl; omega) c122).elim
    · refine x_aload_n h dX4_passSimple_125 rfl ?_
      refine x_getIv h ga f_X4_105 rfl na dX4_passSimple_126 ?_
      refine x_aload_n h dX4_passSimple_129 rfl ?_
      refine x_getR h gf f_X4_29 rfl rk dX4_passSimple_130 ?_
      refine x_alen h ak.1 (by decide) dX4_passSimple_133 ?_
      refine x_icmp_ge h 153 dX4_passSimple_134 (by decide) (fun c134 => ?_) (fun c134 => ?_)
      · exact absurd ((nI_le_iff (by decide) (by have := hn rfl; omega)).mp c134) (by have := hn rfl; omega)
      · refine x_aload_n h dX4_passSimple_137 rfl ?_
        refine x_getR h gf f_X4_29 rfl rk dX4_passSimple_138 ?_
        refine x_aload_n h dX4_passSimple_141 rfl ?_
        refine x_getIv h ga f_X4_105 rfl na dX4_passSimple_142 ?_
        refine x_aald h nm ak.1 (by decide) (ix.ni (hn rfl) (by decide)) (ak.2 nm (hn rfl)).1 dX4_passSimple_145 ?_
        refine x_aload_n h dX4_passSimple_146 rfl ?_
        refine x_getR h gf f_X4_12 rfl rn dX4_passSimple_147 ?_
        refine x_cVv h ci_X9_copy im_X9_copy l_X4_63 ⟨Nat.le_of_ble_eq_true rfl, Nat.le_of_ble_eq_true rfl⟩ ⟨rfl, rfl⟩ ⟨Nat.zero_le _, Nat.zero_le _⟩ (s_copy (ak.2 nm (hn rfl)).2 dn) rfl rfl rfl rfl (ak.2 nm (hn rfl)).2.1.1 (by decide) rfl dX4_passSimple_150 (fun M150 hp150 => ?_)
        subst hp150
        refine x_aload_n h dX4_passSimple_153 rfl ?_
        refine x_getR h gf f_X4_12 rfl rn dX4_passSimple_154 ?_
        refine x_aload_n h dX4_passSimple_157 rfl ?_
        refine x_getR h ga f_X4_97 rfl rq dX4_passSimple_158 ?_
        refine x_getR h gq f_X4_50 rfl rt dX4_passSimple_161 ?_
        refine x_cVv h ci_X9_meet im_X9_meet l_X4_55 ⟨Nat.le_of_ble_eq_true rfl, Nat.le_of_ble_eq_true rfl⟩ ⟨rfl, rfl⟩ ⟨Nat.zero_le _, Nat.zero_le _⟩ (s_meet dn dt) rfl rfl rfl rfl dn.1.1 (by decide) rfl dX4_passSimple_164 (fun M164 hp164 => ?_)
        subst hp164
        refine x_goto h 184 dX4_passSimple_167 (by decide) ?_
        exact x_vret h hQ rfl dX4_passSimple_184 ⟨rfl, rfl, rfl, rfl⟩
theorem c_X4_passLoop {Γ : GT} {G : GG} {M : MM} {D : DS} {σ : SG} {f a k v nm t : Nat} (hf : flowW G M.2.2 D f) (hs : stepV G M D a k v nm t) {ia : Nat} (hia : arrS G M.2.2 D ia 3) (hk : k = 6 ∨ k = 7) (hn : nm < 3) : Calls Γ q_X4_passLoop [.ref f, .ref a, .ref ia] G (wS D M σ) (rI (fun w M' => w = b2i (newσ σ (f + 3 + 1 + 2 * nm) (f + 1)) ∧ M' = wS D M (lopσ f ia k nm t σ))) := by
  obtain ⟨gf, rn, dn, rc, ac, ri, ai, rk, ak, ro, ao, rb, ab⟩ := hf
  obtain ⟨ga, ka, va, na, q, rq, gq, rt, dt⟩ := hs
  refine Calls.intro (by decide +kernel) (Nat.le_of_ble_eq_true rfl) (fun z E h hQ => ?_)
  refine x_loc (L' := [some (.ref f), some (.ref a), some (.ref ia), none, none]) rfl ?_
  refine x_aload_n h dX4_passLoop_0 rfl ?_
  refine x_getIv h ga f_X4_105 rfl na dX4_passLoop_1 ?_
  refine x_istore_n h dX4_passLoop_4 rfl rfl ?_
  dsimp only [List.set]
  refine x_iload_n h dX4_passLoop_5 rfl ?_
  refine x_if_lt h 24 dX4_passLoop_6 (by decide) (fun c6 => ?_) (fun c6 => ?_)
  · exact (nI_nneg (by omega) c6).elim
  · refine x_iload_n h dX4_passLoop_9 rfl ?_
    refine x_aload_n h dX4_passLoop_10 rfl ?_
    refine x_getR h gf f_X4_22 rfl rc dX4_passLoop_11 ?_
    refine x_alen h ac.1 (by decide) dX4_passLoop_14 ?_
    refine x_icmp_ge h 24 dX4_passLoop_15 (by decide) (fun c15 => ?_) (fun c15 => ?_)
    · exact absurd ((nI_le_iff (by decide) (by omega)).mp c15) (by omega)
    · refine x_iload_n h dX4_passLoop_18 rfl ?_
      refine x_aload_n h dX4_passLoop_19 rfl ?_
      refine x_alen h hia.1 (by decide) dX4_passLoop_20 ?_
      refine x_icmp_lt h 26 dX4_passLoop_21 (by decide) (fun c21 => ?_) (fun c21 => ?_)
      · refine x_aload_n h dX4_passLoop_26 rfl ?_
        refine x_getR h gf f_X4_22 rfl rc dX4_passLoop_27 ?_
        refine x_iload_n h dX4_passLoop_30 rfl ?_
        refine x_aald h nm ac.1 (by decide) (ix.ni hn (by decide)) (ac.2 nm hn).1 dX4_passLoop_31 ?_
        refine x_aload_n h dX4_passLoop_32 rfl ?_
        refine x_getR h gf f_X4_12 rfl rn dX4_passLoop_33 ?_
        refine x_cVi h ci_X9_unite im_X9_unite l_X4_108 ⟨Nat.le_of_ble_eq_true rfl, Nat.le_of_ble_eq_true rfl⟩ ⟨rfl, rfl⟩ ⟨Nat.zero_le _, Nat.zero_le _⟩ (s_unite (ac.2 nm hn).2 dn) rfl rfl rfl rfl (ac.2 nm hn).2.1.1 (by decide) rfl dX4_passLoop_36 (fun v36 M36 hp36 => ?_)
        obtain ⟨rfl, rfl⟩ := hp36
        refine x_istore h dX4_passLoop_39 rfl rfl ?_
        dsimp only [List.set]
        refine x_aload_n h dX4_passLoop_41 rfl ?_
        refine x_getR h gf f_X4_12 rfl rn dX4_passLoop_42 ?_
        refine x_aload_n h dX4_passLoop_45 rfl ?_
        refine x_iload_n h dX4_passLoop_46 rfl ?_
        refine x_aald h nm hia.1 (by decide) (ix.ni hn (by decide)) (hia.2 nm hn).1 dX4_passLoop_47 ?_
        refine x_cVv h ci_X9_copy im_X9_copy l_X4_63 ⟨Nat.le_of_ble_eq_true rfl, Nat.le_of_ble_eq_true rfl⟩ ⟨rfl, rfl⟩ ⟨Nat.zero_le _, Nat.zero_le _⟩ (s_copy dn (hia.2 nm hn).2) rfl rfl rfl rfl dn.1.1 (by decide) rfl dX4_passLoop_48 (fun M48 hp48 => ?_)
        subst hp48
        refine x_aload_n h dX4_passLoop_51 rfl ?_
        refine x_getIv h ga f_X4_74 rfl ka dX4_passLoop_52 ?_
        refine x_bipush h (nI 6) (by decide) dX4_passLoop_55 ?_
        refine x_icmp_ne h 77 dX4_passLoop_57 (by decide) (fun c57 => ?_) (fun c57 => ?_)
        · have hk7 : k = 7 := hk.resolve_left (fun q => c57 (by rw [q]))
          subst hk7
          refine x_aload_n h dX4_passLoop_77 rfl ?_
          refine x_getR h gf f_X4_12 rfl rn dX4_passLoop_78 ?_
          refine x_aload_n h dX4_passLoop_81 rfl ?_
          refine x_getR h ga f_X4_97 rfl rq dX4_passLoop_82 ?_
          refine x_getR h gq f_X4_50 rfl rt dX4_passLoop_85 ?_
          refine x_cVv h ci_X9_remove im_X9_remove l_X4_112 ⟨Nat.le_of_ble_eq_true rfl, Nat.le_of_ble_eq_true rfl⟩ ⟨rfl, rfl⟩ ⟨Nat.zero_le _, Nat.zero_le _⟩ (s_remove dn dt) rfl rfl rfl rfl dn.1.1 (by decide) rfl dX4_passLoop_88 (fun M88 hp88 => ?_)
          subst hp88
          refine x_iload h dX4_passLoop_91 rfl ?_
          exact x_zret h hQ rfl (b2i_01 _) dX4_passLoop_93 ⟨rfl, rfl, _, rfl, rfl, rfl⟩
        · have hk6 : k = 6 := nI_small 6 (by omega) (by decide) c57
          subst hk6
          refine x_aload_n h dX4_passLoop_60 rfl ?_
          refine x_getR h gf f_X4_12 rfl rn dX4_passLoop_61 ?_
          refine x_aload_n h dX4_passLoop_64 rfl ?_
          refine x_getR h ga f_X4_97 rfl rq dX4_passLoop_65 ?_
          refine x_getR h gq f_X4_50 rfl rt dX4_passLoop_68 ?_
          refine x_cVv h ci_X9_meet im_X9_meet l_X4_55 ⟨Nat.le_of_ble_eq_true rfl, Nat.le_of_ble_eq_true rfl⟩ ⟨rfl, rfl⟩ ⟨Nat.zero_le _, Nat.zero_le _⟩ (s_meet dn dt) rfl rfl rfl rfl dn.1.1 (by decide) rfl dX4_passLoop_71 (fun M71 hp71 => ?_)
          subst hp71
          refine x_goto h 91 dX4_passLoop_74 (by decide) ?_
          refine x_iload h dX4_passLoop_91 rfl ?_
          exact x_zret h hQ rfl (b2i_01 _) dX4_passLoop_93 ⟨rfl, rfl, _, rfl, rfl, rfl⟩
      · exact absurd ((nI_lt_iff (by omega) (by decide)).mpr hn) c21
theorem c_X4_passChoice {Γ : GT} {G : GG} {M : MM} {D : DS} {σ : SG} {f a k v nm t : Nat} (hf : flowW G M.2.2 D f) (hs : stepV G M D a k v nm t) (hk : k = 8 ∨ k = 9 ∨ k = 10) (hn : nm < 3) : Calls Γ q_X4_passChoice [.ref f, .ref a] G (wS D M σ) (rV (fun M' => M' = wS D M (choσ f k nm σ))) := by
  obtain ⟨gf, rn, dn, rc, ac, ri, ai, rk, ak, ro, ao, rb, ab⟩ := hf
  obtain ⟨ga, ka, va, na, q, rq, gq, rt, dt⟩ := hs
  refine Calls.intro (by decide +kernel) (Nat.le_of_ble_eq_true rfl) (fun z E h hQ => ?_)
  refine x_loc (L' := [some (.ref f), some (.ref a), none]) rfl ?_
  refine x_aload_n h dX4_passChoice_0 rfl ?_
  refine x_getIv h ga f_X4_105 rfl na dX4_passChoice_1 ?_
  refine x_istore_n h dX4_passChoice_4 rfl rfl ?_
  dsimp only [List.set]
  refine x_iload_n h dX4_passChoice_5 rfl ?_
  refine x_if_lt h 27 dX4_passChoice_6 (by decide) (fun c6 => ?_) (fun c6 => ?_)
  · exact (nI_nneg (by omega) c6).elim
  · refine x_iload_n h dX4_passChoice_9 rfl ?_
    refine x_aload_n h dX4_passChoice_10 rfl ?_
    refine x_getR h gf f_X4_32 rfl ro dX4_passChoice_11 ?_
    refine x_alen h ao.1 (by decide) dX4_passChoice_14 ?_
    refine x_icmp_ge h 27 dX4_passChoice_15 (by decide) (fun c15 => ?_) (fun c15 => ?_)
    · exact absurd ((nI_le_iff (by decide) (by omega)).mp c15) (by omega)
    · refine x_iload_n h dX4_passChoice_18 rfl ?_
      refine x_aload_n h dX4_passChoice_19 rfl ?_
      refine x_getR h gf f_X4_35 rfl rb dX4_passChoice_20 ?_
      refine x_alen h ab.1 (by decide) dX4_passChoice_23 ?_
      refine x_icmp_lt h 28 dX4_passChoice_24 (by decide) (fun c24 => ?_) (fun c24 => ?_)
      · refine x_aload_n h dX4_passChoice_28 rfl ?_
        refine x_getIv h ga f_X4_74 rfl ka dX4_passChoice_29 ?_
        refine x_bipush h (nI 8) (by decide) dX4_passChoice_32 ?_
        refine x_icmp_ne h 53 dX4_passChoice_34 (by decide) (fun c34 => ?_) (fun c34 => ?_)
        · have hk8 : ¬ k = 8 := fun q => c34 (by rw [q])
          refine x_aload_n h dX4_passChoice_53 rfl ?_
          refine x_getIv h ga f_X4_74 rfl ka dX4_passChoice_54 ?_
          refine x_bipush h (nI 9) (by decide) dX4_passChoice_57 ?_
          refine x_icmp_ne h 91 dX4_passChoice_59 (by decide) (fun c59 => ?_) (fun c59 => ?_)
          · have hk9 : k = 10 := by
              have : ¬ k = 9 := fun q => c59 (by rw [q])
              omega
            subst hk9
            refine x_aload_n h dX4_passChoice_91 rfl ?_
            refine x_getR h gf f_X4_12 rfl rn dX4_passChoice_92 ?_
            refine x_aload_n h dX4_passChoice_95 rfl ?_
            refine x_getR h gf f_X4_35 rfl rb dX4_passChoice_96 ?_
            refine x_iload_n h dX4_passChoice_99 rfl ?_
            refine x_aald h nm ab.1 (by decide) (ix.ni hn (by decide)) (ab.2 nm hn).1 dX4_passChoice_100 ?_
            refine x_cVi h ci_X9_unite im_X9_unite l_X4_108 ⟨Nat.le_of_ble_eq_true rfl, Nat.le_of_ble_eq_true rfl⟩ ⟨rfl, rfl⟩ ⟨Nat.zero_le _, Nat.zero_le _⟩ (s_unite dn (ab.2 nm hn).2) rfl rfl rfl rfl dn.1.1 (by decide) rfl dX4_passChoice_101 (fun v101 M101 hp101 => ?_)
            obtain ⟨-, rfl⟩ := hp101
            refine x_pop h rfl dX4_passChoice_104 ?_
            exact x_vret h hQ rfl dX4_passChoice_105 ⟨rfl, rfl, rfl, rfl⟩
          · have hk9 : k = 9 := nI_small 9 (by omega) (by decide) c59
            subst hk9
            refine x_aload_n h dX4_passChoice_62 rfl ?_
            refine x_getR h gf f_X4_35 rfl rb dX4_passChoice_63 ?_
            refine x_iload_n h dX4_passChoice_66 rfl ?_
            refine x_aald h nm ab.1 (by decide) (ix.ni hn (by decide)) (ab.2 nm hn).1 dX4_passChoice_67 ?_
            refine x_aload_n h dX4_passChoice_68 rfl ?_
            refine x_getR h gf f_X4_12 rfl rn dX4_passChoice_69 ?_
            refine x_cVv h ci_X9_copy im_X9_copy l_X4_63 ⟨Nat.le_of_ble_eq_true rfl, Nat.le_of_ble_eq_true rfl⟩ ⟨rfl, rfl⟩ ⟨Nat.zero_le _, Nat.zero_le _⟩ (s_copy (ab.2 nm hn).2 dn) rfl rfl rfl rfl (ab.2 nm hn).2.1.1 (by decide) rfl dX4_passChoice_72 (fun M72 hp72 => ?_)
            subst hp72
            refine x_aload_n h dX4_passChoice_75 rfl ?_
            refine x_getR h gf f_X4_12 rfl rn dX4_passChoice_76 ?_
            refine x_aload_n h dX4_passChoice_79 rfl ?_
            refine x_getR h gf f_X4_32 rfl ro dX4_passChoice_80 ?_
            refine x_iload_n h dX4_passChoice_83 rfl ?_
            refine x_aald h nm ao.1 (by decide) (ix.ni hn (by decide)) (ao.2 nm hn).1 dX4_passChoice_84 ?_
            refine x_cVv h ci_X9_copy im_X9_copy l_X4_63 ⟨Nat.le_of_ble_eq_true rfl, Nat.le_of_ble_eq_true rfl⟩ ⟨rfl, rfl⟩ ⟨Nat.zero_le _, Nat.zero_le _⟩ (s_copy dn (ao.2 nm hn).2) rfl rfl rfl rfl dn.1.1 (by decide) rfl dX4_passChoice_85 (fun M85 hp85 => ?_)
            subst hp85
            refine x_goto h 105 dX4_passChoice_88 (by decide) ?_
            exact x_vret h hQ rfl dX4_passChoice_105 ⟨rfl, rfl, rfl, rfl⟩
        · have hk8 : k = 8 := nI_small 8 (by omega) (by decide) c34
          subst hk8
          refine x_aload_n h dX4_passChoice_37 rfl ?_
          refine x_getR h gf f_X4_32 rfl ro dX4_passChoice_38 ?_
          refine x_iload_n h dX4_passChoice_41 rfl ?_
          refine x_aald h nm ao.1 (by decide) (ix.ni hn (by decide)) (ao.2 nm hn).1 dX4_passChoice_42 ?_
          refine x_aload_n h dX4_passChoice_43 rfl ?_
          refine x_getR h gf f_X4_12 rfl rn dX4_passChoice_44 ?_
          refine x_cVv h ci_X9_copy im_X9_copy l_X4_63 ⟨Nat.le_of_ble_eq_true rfl, Nat.le_of_ble_eq_true rfl⟩ ⟨rfl, rfl⟩ ⟨Nat.zero_le _, Nat.zero_le _⟩ (s_copy (ao.2 nm hn).2 dn) rfl rfl rfl rfl (ao.2 nm hn).2.1.1 (by decide) rfl dX4_passChoice_47 (fun M47 hp47 => ?_)
          subst hp47
          refine x_goto h 105 dX4_passChoice_50 (by decide) ?_
          exact x_vret h hQ rfl dX4_passChoice_105 ⟨rfl, rfl, rfl, rfl⟩
      · exact absurd ((nI_lt_iff (by omega) (by decide)).mpr hn) c24
/-- a program as the flows see it: length; kinds, variables, numbers, sets of the steps' conditions -/
abbrev PV : Type := Nat × (Nat → Nat) × (Nat → Nat) × (Nat → Nat) × (Nat → Nat)
def pvW (G : GG) (M : MM) (D : DS) (c : Nat) (P : PV) : Prop := P.1 ≤ 60 ∧ M.1 c 1 = nI P.1 ∧ ∀ i, i < P.1 → stepV G M D (c + 65 + i) (P.2.1 i) (P.2.2.1 i) (P.2.2.2.1 i) (P.2.2.2.2 i) ∧ P.2.1 i ≤ 10 ∧ (P.2.1 i ≤ 3 → P.2.2.1 i < 3) ∧ (P.2.1 i = 5 → P.2.2.2.1 i < 4) ∧ (6 ≤ P.2.1 i → P.2.2.2.1 i < 3)
def stpσ (f ia k v nm t : Nat) (σ : SG) : SG := if k = 6 ∨ k = 7 then lopσ f ia k nm t σ else if 8 ≤ k then choσ f k nm σ else simσ f k v nm t σ
def pasN (f ia : Nat) (P : PV) : Nat → SG → SG
  | 0, σ => σ
  | i + 1, σ => stpσ f ia (P.2.1 i) (P.2.2.1 i) (P.2.2.2.1 i) (P.2.2.2.2 i) (pasN f ia P i σ)
def grwN (f ia : Nat) (P : PV) : Nat → SG → Bool
  | 0, _ => false
  | i + 1, σ => grwN f ia P i σ || (if P.2.1 i = 6 ∨ P.2.1 i = 7 then newσ (pasN f ia P i σ) (f + 3 + 1 + 2 * P.2.2.2.1 i) (f + 1) else false)
theorem b2i_or (x y : Bool) : b2i x ||| b2i y = b2i (x || y) := by cases x <;> cases y <;> decide
theorem c_X4_pass {Γ : GT} {G : GG} {M : MM} {D : DS} {σ : SG} {f c bg ia : Nat} {P : PV} (hf : flowW G M.2.2 D f) (hW : codeF G M.2.2 c) (hP : pvW G M D c P) (hbg : isD G M.2.2 D bg) (hia : arrS G M.2.2 D ia 3) : Calls Γ q_X4_pass [.ref f, .ref c, .ref bg, .ref ia] G (wS D M σ) (rI (fun w M' => w = b2i (grwN f ia P P.1 (copσ σ (f + 1) bg)) ∧ M' = wS D M (pasN f ia P P.1 (copσ σ (f + 1) bg)))) := by
  have hf0 := hf
  have hW0 := hW
  obtain ⟨gf, rn, dn, -⟩ := hf
  have gc := hW.1
  obtain ⟨h60, hlen, hst⟩ := hP
  refine Calls.intro (by decide +kernel) (Nat.le_of_ble_eq_true rfl) (fun z E h hQ => ?_)
  refine x_loc (L' := [some (.ref f), some (.ref c), some (.ref bg), some (.ref ia), none, none, none]) rfl ?_
  have loop : ∀ i, i ≤ P.1 → ∀ w, X Γ E 0 0 G z (wS D M (pasN f ia P i (copσ σ (f + 1) bg))) 14 [some (.ref f), some (.ref c), some (.ref bg), some (.ref ia), some (.int (b2i (grwN f ia P i (copσ σ (f + 1) bg)))), some (.int (nI i)), w] [] := by
    refine upto P.1 (fun i hi ih w => ?_)
    refine x_iload h dX4_pass_14 rfl ?_
    refine x_aload_n h dX4_pass_16 rfl ?_
    refine x_getIv h gc f_X4_66 rfl hlen dX4_pass_17 ?_
    refine x_icmp_ge h 97 dX4_pass_20 (by decide) (fun c20 => ?_) (fun c20 => ?_)
    · obtain rfl : i = P.1 := by
        have := (nI_le_iff (by omega) (by omega)).mp c20
        omega
      refine x_iload h dX4_pass_97 rfl ?_
      exact x_zret h hQ rfl (b2i_01 _) dX4_pass_99 ⟨rfl, rfl, _, rfl, rfl, rfl⟩
    · have hlt : i < P.1 := by
        have := mt (nI_le_iff (a := P.1) (b := i) (by omega) (by omega)).mpr c20
        omega
      obtain ⟨sv, k10, kv, k5, k6⟩ := hst i hlt
      refine x_aload_n h dX4_pass_23 rfl ?_
      refine x_iload h dX4_pass_24 rfl ?_
      refine x_cVr h ci_X2_at im_X2_at l_X4_70 ⟨Nat.le_of_ble_eq_true rfl, Nat.le_of_ble_eq_true rfl⟩ ⟨rfl, rfl⟩ ⟨Nat.zero_le _, Nat.zero_le _⟩ (c_X2_at (M := wS D M _) hW0 (i := i) (by omega)) rfl rfl rfl rfl gc (by decide) rfl dX4_pass_26 (fun v26 M26 hp26 => ?_)
      obtain ⟨rfl, hM⟩ := hp26
      obtain rfl := hM.symm
      clear hM
      refine x_astore h dX4_pass_29 rfl rfl ?_
      dsimp only [List.set]
      refine x_aload h dX4_pass_31 rfl ?_
      refine x_getIv h sv.1 f_X4_74 rfl sv.2.1 dX4_pass_33 ?_
      refine x_bipush h (nI 6) (by decide) dX4_pass_36 ?_
      refine x_icmp_eq h 51 dX4_pass_38 (by decide) (fun c38 => ?_) (fun c38 => ?_)
      · have hk : P.2.1 i = 6 := nI_small 6 (by omega) (by decide) c38
        have hkd : (P.2.1 i = 6 ∨ P.2.1 i = 7) = True := by simp [hk]
        refine x_iload h dX4_pass_51 rfl ?_
        refine x_aload_n h dX4_pass_53 rfl ?_
        refine x_aload h dX4_pass_54 rfl ?_
        refine x_aload_n h dX4_pass_56 rfl ?_
        refine x_cVi h ci_X4_passLoop im_X4_passLoop l_X4_79 ⟨Nat.le_of_ble_eq_true rfl, Nat.le_of_ble_eq_true rfl⟩ ⟨rfl, rfl⟩ ⟨Nat.zero_le _, Nat.zero_le _⟩ (c_X4_passLoop hf0 sv hia (by omega) (k6 (by omega))) rfl rfl rfl rfl gf (by decide) rfl dX4_pass_57 (fun v57 M57 hp57 => ?_)
        obtain ⟨rfl, rfl⟩ := hp57
        refine x_ior h dX4_pass_60 ?_
        refine x_topi (b2i_or _ _) ?_
        refine x_istore h dX4_pass_61 rfl rfl ?_
        dsimp only [List.set]
        refine x_goto h 91 dX4_pass_63 (by decide) ?_
        refine x_incn h dX4_pass_91 rfl rfl rfl ?_
        dsimp only [List.set]
        refine x_goto h 14 dX4_pass_94 (by decide) ?_
        have ihh := ih hlt (some (.ref (c + 65 + i)))
        simp only [pasN, grwN, stpσ, hkd, if_true, if_false, Bool.or_false] at ihh
        exact ihh
      · have hk6 : ¬ P.2.1 i = 6 := fun q => c38 (by rw [q])
        refine x_aload h dX4_pass_41 rfl ?_
        refine x_getIv h sv.1 f_X4_74 rfl sv.2.1 dX4_pass_43 ?_
        refine x_bipush h (nI 7) (by decide) dX4_pass_46 ?_
        refine x_icmp_ne h 66 dX4_pass_48 (by decide) (fun c48 => ?_) (fun c48 => ?_)
        · have hk7 : ¬ P.2.1 i = 7 := fun q => c48 (by rw [q])
          have hkd0 : (P.2.1 i = 6 ∨ P.2.1 i = 7) = False := by simp [hk6, hk7]
          refine x_aload h dX4_pass_66 rfl ?_
          refine x_getIv h sv.1 f_X4_74 rfl sv.2.1 dX4_pass_68 ?_
          refine x_bipush h (nI 8) (by decide) dX4_pass_71 ?_
          refine x_icmp_lt h 85 dX4_pass_73 (by decide) (fun c73 => ?_) (fun c73 => ?_)
          · have hk8 : ¬ 8 ≤ P.2.1 i := by
              have := (nI_lt_iff (by omega) (by decide)).mp c73
              omega
            have hkd : ((P.2.1 i = 6 ∨ P.2.1 i = 7) = False) ∧ (8 ≤ P.2.1 i) = False := ⟨hkd0, by simp [hk8]⟩
            refine x_aload_n h dX4_pass_85 rfl ?_
            refine x_aload h dX4_pass_86 rfl ?_
            refine x_cVv h ci_X4_passSimple im_X4_passSimple l_X4_87 ⟨Nat.le_of_ble_eq_true rfl, Nat.le_of_ble_eq_true rfl⟩ ⟨rfl, rfl⟩ ⟨Nat.zero_le _, Nat.zero_le _⟩ (c_X4_passSimple hf0 sv (by omega) kv k5) rfl rfl rfl rfl gf (by decide) rfl dX4_pass_88 (fun M88 hp88 => ?_)
            subst hp88
            refine x_incn h dX4_pass_91 rfl rfl rfl ?_
            dsimp only [List.set]
            refine x_goto h 14 dX4_pass_94 (by decide) ?_
            have ihh := ih hlt (some (.ref (c + 65 + i)))
            simp only [pasN, grwN, stpσ, hkd, if_true, if_false, Bool.or_false] at ihh
            exact ihh
          · have hk8 : 8 ≤ P.2.1 i := by
              have := mt (nI_lt_iff (by omega) (by decide)).mpr c73
              omega
            have hkd : ((P.2.1 i = 6 ∨ P.2.1 i = 7) = False) ∧ (8 ≤ P.2.1 i) = True := ⟨hkd0, by simp [hk8]⟩
            refine x_aload_n h dX4_pass_76 rfl ?_
            refine x_aload h dX4_pass_77 rfl ?_
            refine x_cVv h ci_X4_passChoice im_X4_passChoice l_X4_83 ⟨Nat.le_of_ble_eq_true rfl, Nat.le_of_ble_eq_true rfl⟩ ⟨rfl, rfl⟩ ⟨Nat.zero_le _, Nat.zero_le _⟩ (c_X4_passChoice hf0 sv (by omega) (k6 (by omega))) rfl rfl rfl rfl gf (by decide) rfl dX4_pass_79 (fun M79 hp79 => ?_)
            subst hp79
            refine x_goto h 91 dX4_pass_82 (by decide) ?_
            refine x_incn h dX4_pass_91 rfl rfl rfl ?_
            dsimp only [List.set]
            refine x_goto h 14 dX4_pass_94 (by decide) ?_
            have ihh := ih hlt (some (.ref (c + 65 + i)))
            simp only [pasN, grwN, stpσ, hkd, if_true, if_false, Bool.or_false] at ihh
            exact ihh
        · have hk : P.2.1 i = 7 := nI_small 7 (by omega) (by decide) c48
          have hkd : (P.2.1 i = 6 ∨ P.2.1 i = 7) = True := by simp [hk]
          refine x_iload h dX4_pass_51 rfl ?_
          refine x_aload_n h dX4_pass_53 rfl ?_
          refine x_aload h dX4_pass_54 rfl ?_
          refine x_aload_n h dX4_pass_56 rfl ?_
          refine x_cVi h ci_X4_passLoop im_X4_passLoop l_X4_79 ⟨Nat.le_of_ble_eq_true rfl, Nat.le_of_ble_eq_true rfl⟩ ⟨rfl, rfl⟩ ⟨Nat.zero_le _, Nat.zero_le _⟩ (c_X4_passLoop hf0 sv hia (by omega) (k6 (by omega))) rfl rfl rfl rfl gf (by decide) rfl dX4_pass_57 (fun v57 M57 hp57 => ?_)
          obtain ⟨rfl, rfl⟩ := hp57
          refine x_ior h dX4_pass_60 ?_
          refine x_topi (b2i_or _ _) ?_
          refine x_istore h dX4_pass_61 rfl rfl ?_
          dsimp only [List.set]
          refine x_goto h 91 dX4_pass_63 (by decide) ?_
          refine x_incn h dX4_pass_91 rfl rfl rfl ?_
          dsimp only [List.set]
          refine x_goto h 14 dX4_pass_94 (by decide) ?_
          have ihh := ih hlt (some (.ref (c + 65 + i)))
          simp only [pasN, grwN, stpσ, hkd, if_true, if_false, Bool.or_false] at ihh
          exact ihh
  refine x_ic0 h dX4_pass_0 ?_
  refine x_istore h dX4_pass_1 rfl rfl ?_
  dsimp only [List.set]
  refine x_aload_n h dX4_pass_3 rfl ?_
  refine x_getR h gf f_X4_12 rfl rn dX4_pass_4 ?_
  refine x_aload_n h dX4_pass_7 rfl ?_
  refine x_cVv h ci_X9_copy im_X9_copy l_X4_63 ⟨Nat.le_of_ble_eq_true rfl, Nat.le_of_ble_eq_true rfl⟩ ⟨rfl, rfl⟩ ⟨Nat.zero_le _, Nat.zero_le _⟩ (s_copy dn hbg) rfl rfl rfl rfl dn.1.1 (by decide) rfl dX4_pass_8 (fun M8 hp8 => ?_)
  subst hp8
  refine x_in0 h dX4_pass_11 ?_
  refine x_istore h dX4_pass_12 rfl rfl ?_
  dsimp only [List.set]
  exact loop 0 (Nat.zero_le _) none
