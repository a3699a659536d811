/-! ===== Invariants.find ===== -/
def difG (a w : Nat) : Nat := a &&& (w ^^^ 31)
theorem difG_ok : ∀ a, a < 32 → ∀ w, w < 32 → nI a &&& (nI w ^^^ (-1)) = nI (difG a w) := by decide +kernel
theorem difG_le (a w : Nat) : difG a w ≤ a := Nat.and_le_left
def fgN (σ : SG) (f : Nat) (gn gt : Nat → Nat) (l : Nat) : Nat := enN (fgS σ (f + 3 + 1 + 2 * l) (gn l) gt) 0 5
def invP (f bg : Nat) (P : PV) (V : GV) (x : SG × (Nat → Nat)) : SG := pasN f (f + 10) P P.1 (copσ (asgN f x.2 V.2 3 x.1) (f + 1) bg)
def invS (f bg : Nat) (P : PV) (V : GV) (nl : Nat) (x : SG × (Nat → Nat)) : SG × (Nat → Nat) := (invP f bg P V x, fun l => if l < nl then difG (x.2 l) (fgN (invP f bg P V x) f x.2 V.2 l) else x.2 l)
def anyN (p : Nat → Bool) : Nat → Bool
  | 0 => false
  | n + 1 => anyN p n || p n
def invG (f bg : Nat) (P : PV) (V : GV) (nl : Nat) (x : SG × (Nat → Nat)) : Bool := anyN (fun l => decide (fgN (invP f bg P V x) f x.2 V.2 l ≠ 0)) nl
def invR (f bg : Nat) (P : PV) (V : GV) (nl act : Nat) (σ : SG) : SG × (Nat → Nat) := (rnds (invS f bg P V nl) (invG f bg P V nl) (σ, fun _ => act) 16).1
theorem fgN_lt (σ : SG) (f : Nat) (gn gt : Nat → Nat) (l : Nat) : fgN σ f gn gt l < 32 := enN_lt _ 0 5
def updI (f : Nat → Int32) (k : Nat) (x : Int32) : Nat → Int32 := fun j => if j = k then x else f j
theorem wI_set {M : MM} {p n c : Nat} {f : Nat → Int32} {v : Int32} (hc : c < n) : sI (wI M p n f) p c v = wI M p n (updI f c v) := by
  show (_, M.2.1, M.2.2) = (_, M.2.1, M.2.2)
  congr 1
  funext b j
  simp only [up2, wI, updI]
  by_cases hb : b = p
  · by_cases hj : j = c
    · subst hj; simp [hb, hc]
    · simp [hb, hj]
  · simp [hb]
theorem wI_congr (M : MM) (p n : Nat) {f g : Nat → Int32} (h : ∀ j, j < n → f j = g j) : wI M p n f = wI M p n g := by
  show (_, M.2.1, M.2.2) = (_, M.2.1, M.2.2)
  congr 1
  funext b j
  by_cases hb : b = p ∧ j < n
  · simp only [wI, if_pos hb, h j hb.2]
  · simp only [wI, if_neg hb]
/-- the code doesn't see a row of ints that isn't its own -/
theorem pvW_wI {G : GG} {M : MM} {D : DS} {c p n : Nat} {P : PV} {f : Nat → Int32} (h : pvW G M D c P) (hd : p < c ∨ c + 125 ≤ p) : pvW G (wI M p n f) D c P := by
  obtain ⟨h1, h2, h3⟩ := h
  refine ⟨h1, by rw [wI_ne _ _ _ _ (by omega)]; exact h2, fun i hi => ?_⟩
  obtain ⟨⟨s1, s2, s3, s4, s5⟩, r⟩ := h3 i hi
  exact ⟨⟨s1, by rw [wI_ne _ _ _ _ (by omega)]; exact s2, by rw [wI_ne _ _ _ _ (by omega)]; exact s3, by rw [wI_ne _ _ _ _ (by omega)]; exact s4, s5⟩, r⟩
theorem gvW_wI {G : GG} {M : MM} {D : DS} {c p n : Nat} {V : GV} {f : Nat → Int32} (h : gvW G M D c V) (hd : p < c ∨ c + 125 ≤ p) : gvW G (wI M p n f) D c V := by
  obtain ⟨h1, h2, h3⟩ := h
  exact ⟨h1, by rw [wI_ne _ _ _ _ (by omega)]; exact h2, h3⟩
theorem c_X5_find {Γ : GT} {G : GG} {M : MM} {D : DS} {σ : SG} {u c bg nl act : Nat} {P : PV} {V : GV} (hI : invW G M.2.2 D u) (hW : codeF G M.2.2 c) (hP : pvW G M D c P) (hV : gvW G M D c V) (hbg : isD G M.2.2 D bg) (hnl : M.1 c 8 = nI nl) (hnl3 : nl ≤ 3) (hd : u + 41 < c ∨ c + 125 ≤ u + 41) (hact : act < 2 ^ V.1) : Calls Γ q_X5_find [.ref u, .ref c, .ref bg, .int (nI act)] G (wS D M σ) (rV (fun M' => M' = wS D (wI M (u + 41) 3 (fun i => nI ((invR (u + 1) bg P V nl act σ).2 i))) (invR (u + 1) bg P V nl act σ).1)) := by
  have hI0 := hI
  obtain ⟨gu, rf, hf, rgv, ggv⟩ := hI
  have hf0 := hf
  obtain ⟨gf, rn, dn, rc, ac, ri, ai, -⟩ := hf
  have gc := hW.1
  have v5 := hV.1
  have p32 : 2 ^ V.1 ≤ 32 := Nat.pow_le_pow_right (by decide) v5
  have hnlw : ∀ (F : Nat → Int32) (τ : SG), (wS D (wI M (u + 41) 3 F) τ).1 c 8 = nI nl := fun F τ => (wI_ne M 3 F 8 (by omega)).trans hnl
  have hgvw : ∀ (F : Nat → Int32) (τ : SG) (l : Nat), l < 3 → (wS D (wI M (u + 41) 3 F) τ).1 (u + 41) l = F l := fun F τ l hl => (wI_at M (u + 41) 3 F l).trans (if_pos hl)
  refine Calls.intro (by decide +kernel) (Nat.le_of_ble_eq_true rfl) (fun z E h hQ => ?_)
  refine x_loc (L' := [some (.ref u), some (.ref c), some (.ref bg), some (.int (nI act)), none, none, none, none]) rfl ?_
  have bnd : ∀ r l, (rnds (invS (u + 1) bg P V nl) (invG (u + 1) bg P V nl) (σ, fun _ => act) r).1.2 l < 2 ^ V.1 := by
    intro r
    induction r with
    | zero => intro l; exact hact
    | succ r ih =>
      intro l
      rw [rnds]
      split
      · show (if l < nl then _ else _) < _
        split
        · exact Nat.lt_of_le_of_lt (difG_le _ _) (ih l)
        · exact ih l
      · exact ih l
  have inner : ∀ (x : SG × (Nat → Nat)) (r : Nat), (∀ l, x.2 l < 2 ^ V.1) → (∀ w w2, X Γ E 0 0 G z (wS D (wI M (u + 41) 3 (fun i => nI ((invS (u + 1) bg P V nl x).2 i))) (invP (u + 1) bg P V x)) 143 [some (.ref u), some (.ref c), some (.ref bg), some (.int (nI act)), some (.int (b2i (invG (u + 1) bg P V nl x))), some (.int (nI r)), w, w2] []) → ∀ l, l ≤ nl → ∀ w, X Γ E 0 0 G z (wS D (wI M (u + 41) 3 (fun i => nI ((fun i => if i < l then difG (x.2 i) (fgN (invP (u + 1) bg P V x) (u + 1) x.2 V.2 i) else x.2 i) i))) (invP (u + 1) bg P V x)) 80 [some (.ref u), some (.ref c), some (.ref bg), some (.int (nI act)), some (.int (b2i (anyN (fun l => decide (fgN (invP (u + 1) bg P V x) (u + 1) x.2 V.2 l ≠ 0)) l))), some (.int (nI r)), some (.int (nI l)), w] [] := by
    intro x r hx fin
    refine upto nl (fun l hl ih w => ?_)
    refine x_iload h dX5_find_80 rfl ?_
    refine x_aload_n h dX5_find_82 rfl ?_
    refine x_getIv h gc f_X5_34 rfl (hnlw _ _) dX5_find_83 ?_
    refine x_icmp_ge h 143 dX5_find_86 (by decide) (fun c86 => ?_) (fun c86 => ?_)
    · obtain rfl : l = nl := by
        have := (nI_le_iff (by omega) (by omega)).mp c86
        omega
      exact fin _ _
    · have hlt : l < nl := by
        have := mt (nI_le_iff (a := nl) (b := l) (by omega) (by omega)).mpr c86
        omega
      have hl3 : l < 3 := by omega
      refine x_iload h dX5_find_89 rfl ?_
      refine x_aload_n h dX5_find_91 rfl ?_
      refine x_getR h gu f_X5_18 rfl rgv dX5_find_92 ?_
      refine x_alen h ggv (by decide) dX5_find_95 ?_
      refine x_icmp_ge h 143 dX5_find_96 (by decide) (fun c96 => ?_) (fun c96 => ?_)
      · exact absurd ((nI_le_iff (by decide) (by omega)).mp c96) (by omega)
      · refine x_aload_n h dX5_find_99 rfl ?_
        refine x_aload_n h dX5_find_100 rfl ?_
        refine x_iload h dX5_find_101 rfl ?_
        refine x_cVi h ci_X5_falseGuesses im_X5_falseGuesses l_X5_40 ⟨Nat.le_of_ble_eq_true rfl, Nat.le_of_ble_eq_true rfl⟩ ⟨rfl, rfl⟩ ⟨Nat.zero_le _, Nat.zero_le _⟩ (c_X5_falseGuesses (M := wI M (u + 41) 3 _) (gn := x.2 l) hI0 hW (gvW_wI hV hd) hl3 (by rw [wI_at, if_pos hl3]; simp) (hx l)) rfl rfl rfl rfl gu (by decide) rfl dX5_find_103 (fun v103 M103 hp103 => ?_)
        obtain ⟨rfl, hM⟩ := hp103
        obtain rfl := hM.symm
        clear hM
        refine x_istore h dX5_find_106 rfl rfl ?_
        dsimp only [List.set]
        refine x_aload_n h dX5_find_108 rfl ?_
        refine x_getR h gu f_X5_18 rfl rgv dX5_find_109 ?_
        refine x_iload h dX5_find_112 rfl ?_
        refine x_dup2 h rfl rfl dX5_find_114 ?_
        refine x_ialdv h l ggv (ix.ni hl3 (by decide)) (show _ = nI (x.2 l) from (hgvw _ _ l hl3).trans (by simp)) dX5_find_115 ?_
        refine x_iload h dX5_find_116 rfl ?_
        refine x_icm1 h dX5_find_118 ?_
        refine x_ixor h dX5_find_119 ?_
        refine x_iand h dX5_find_120 ?_
        refine x_topi (difG_ok _ (Nat.lt_of_lt_of_le (hx l) p32) (fgN (invP (u + 1) bg P V x) (u + 1) x.2 V.2 l) (fgN_lt _ _ _ _ _)) ?_
        refine x_iast h l ggv (ix.ni hl3 (by decide)) dX5_find_121 ?_
        refine x_mem (M' := wS D (wI M (u + 41) 3 (fun i => nI ((fun i => if i < l + 1 then difG (x.2 i) (fgN (invP (u + 1) bg P V x) (u + 1) x.2 V.2 i) else x.2 i) i))) (invP (u + 1) bg P V x)) ?_ ?_
        · show wS D (sI (wI M (u + 41) 3 _) (u + 41) l _) _ = _
          rw [wI_set hl3]
          refine congrArg (fun N => wS D N (invP (u + 1) bg P V x)) (wI_congr _ _ _ (fun j hj => ?_))
          unfold updI
          by_cases h1 : j = l
          · subst h1; simp
          · by_cases h2 : j < l
            · simp [h1, h2, Nat.lt_succ_of_lt h2]
            · simp [h1, h2, show ¬ j < l + 1 by omega]
        refine x_iload h dX5_find_122 rfl ?_
        refine x_iload h dX5_find_124 rfl ?_
        refine x_if_eq h 133 dX5_find_126 (by decide) (fun c126 => ?_) (fun c126 => ?_)
        · have hz : fgN (invP (u + 1) bg P V x) (u + 1) x.2 V.2 l = 0 := nI_small 0 (Nat.lt_trans (fgN_lt _ _ _ _ _) (by decide)) (by decide) (c126.trans nI_0.symm)
          refine x_ic0 h dX5_find_133 ?_
          refine x_ior h dX5_find_134 ?_
          refine x_topi (y := b2i (anyN (fun l => decide (fgN (invP (u + 1) bg P V x) (u + 1) x.2 V.2 l ≠ 0)) (l + 1))) (by rw [anyN, hz]; cases anyN (fun l => decide (fgN (invP (u + 1) bg P V x) (u + 1) x.2 V.2 l ≠ 0)) l <;> decide) ?_
          refine x_istore h dX5_find_135 rfl rfl ?_
          dsimp only [List.set]
          refine x_incn h dX5_find_137 rfl rfl rfl ?_
          dsimp only [List.set]
          refine x_goto h 80 dX5_find_140 (by decide) ?_
          exact ih hlt _
        · have hz : ¬ fgN (invP (u + 1) bg P V x) (u + 1) x.2 V.2 l = 0 := fun q => c126 ((congrArg nI q).trans nI_0)
          refine x_ic1 h dX5_find_129 ?_
          refine x_goto h 134 dX5_find_130 (by decide) ?_
          refine x_ior h dX5_find_134 ?_
          refine x_topi (y := b2i (anyN (fun l => decide (fgN (invP (u + 1) bg P V x) (u + 1) x.2 V.2 l ≠ 0)) (l + 1))) (by rw [anyN, decide_eq_true hz]; cases anyN (fun l => decide (fgN (invP (u + 1) bg P V x) (u + 1) x.2 V.2 l ≠ 0)) l <;> decide) ?_
          refine x_istore h dX5_find_135 rfl rfl ?_
          dsimp only [List.set]
          refine x_incn h dX5_find_137 rfl rfl rfl ?_
          dsimp only [List.set]
          refine x_goto h 80 dX5_find_140 (by decide) ?_
          exact ih hlt _
  have rounds : ∀ r, r ≤ 16 → ∀ w w2, X Γ E 0 0 G z (wS D (wI M (u + 41) 3 (fun i => nI ((rnds (invS (u + 1) bg P V nl) (invG (u + 1) bg P V nl) (σ, fun _ => act) r).1.2 i))) (rnds (invS (u + 1) bg P V nl) (invG (u + 1) bg P V nl) (σ, fun _ => act) r).1.1) 33 [some (.ref u), some (.ref c), some (.ref bg), some (.int (nI act)), some (.int (b2i (rnds (invS (u + 1) bg P V nl) (invG (u + 1) bg P V nl) (σ, fun _ => act) r).2)), some (.int (nI r)), w, w2] [] := by
    refine upto 16 (fun r hr ih w w2 => ?_)
    refine x_iload h dX5_find_33 rfl ?_
    refine x_bipush h (nI 16) (by decide) dX5_find_35 ?_
    refine x_icmp_ge h 149 dX5_find_37 (by decide) (fun c37 => ?_) (fun c37 => ?_)
    · obtain rfl : r = 16 := up_ge (by decide) hr c37
      exact x_vret h hQ rfl dX5_find_149 ⟨rfl, rfl, rfl, rfl⟩
    · have hlt : r < 16 := up_lt (by decide) hr c37
      refine x_iload h dX5_find_40 rfl ?_
      refine x_if_eq h 149 dX5_find_42 (by decide) (fun c42 => ?_) (fun c42 => ?_)
      · have hg := b2i_0.mp c42
        have he := rnds_stop hg (16 - r)
        rw [show r + (16 - r) = 16 by omega] at he
        exact x_vret h hQ rfl dX5_find_149 ⟨rfl, rfl, rfl, by unfold invR; rw [he]⟩
      · have hg := bool_nf (fun q => c42 (b2i_0.mpr q))
        refine x_aload_n h dX5_find_45 rfl ?_
        refine x_getR h gu f_X5_12 rfl rf dX5_find_46 ?_
        refine x_aload_n h dX5_find_49 rfl ?_
        refine x_aload_n h dX5_find_50 rfl ?_
        refine x_getR h gu f_X5_18 rfl rgv dX5_find_51 ?_
        refine x_cVv h ci_X4_assign im_X4_assign l_X5_22 ⟨Nat.le_of_ble_eq_true rfl, Nat.le_of_ble_eq_true rfl⟩ ⟨rfl, rfl⟩ ⟨Nat.zero_le _, Nat.zero_le _⟩ (c_X4_assign (M := wI M (u + 41) 3 _) (gn := (rnds (invS (u + 1) bg P V nl) (invG (u + 1) bg P V nl) (σ, fun _ => act) r).1.2) hf0 hW (gvW_wI hV hd) ggv (fun i hi => ⟨by rw [wI_at, if_pos hi], bnd r i⟩)) rfl rfl rfl rfl gf (by decide) rfl dX5_find_54 (fun M54 hp54 => ?_)
        subst hp54
        refine x_aload_n h dX5_find_57 rfl ?_
        refine x_getR h gu f_X5_12 rfl rf dX5_find_58 ?_
        refine x_aload_n h dX5_find_61 rfl ?_
        refine x_aload_n h dX5_find_62 rfl ?_
        refine x_aload_n h dX5_find_63 rfl ?_
        refine x_getR h gu f_X5_12 rfl rf dX5_find_64 ?_
        refine x_getR h gf f_X5_26 rfl ri dX5_find_67 ?_
        refine x_cVi h ci_X4_pass im_X4_pass l_X5_30 ⟨Nat.le_of_ble_eq_true rfl, Nat.le_of_ble_eq_true rfl⟩ ⟨rfl, rfl⟩ ⟨Nat.zero_le _, Nat.zero_le _⟩ (c_X4_pass (M := wI M (u + 41) 3 _) hf0 hW (pvW_wI hP hd) hbg ai) rfl rfl rfl rfl gf (by decide) rfl dX5_find_70 (fun v70 M70 hp70 => ?_)
        obtain ⟨-, rfl⟩ := hp70
        refine x_pop h rfl dX5_find_73 ?_
        refine x_ic0 h dX5_find_74 ?_
        refine x_istore h dX5_find_75 rfl rfl ?_
        dsimp only [List.set]
        refine x_in0 h dX5_find_77 ?_
        refine x_istore h dX5_find_78 rfl rfl ?_
        dsimp only [List.set]
        refine inner (rnds (invS (u + 1) bg P V nl) (invG (u + 1) bg P V nl) (σ, fun _ => act) r).1 r (bnd r) (fun w w2 => ?_) 0 (Nat.zero_le _) _
        refine x_incn h dX5_find_143 rfl rfl rfl ?_
        refine x_goto h 33 dX5_find_146 (by decide) ?_
        have ihh := ih hlt w w2
        simp only [rnds, hg, if_true] at ihh
        exact ihh
  have fill : ∀ i, i ≤ 3 → X Γ E 0 0 G z (wI (wS D M σ) (u + 41) i (fun _ => nI act)) 3 [some (.ref u), some (.ref c), some (.ref bg), some (.int (nI act)), some (.int (nI i)), none, none, none] [] := by
    refine upto 3 (fun i hi ih => ?_)
    refine x_iload h dX5_find_3 rfl ?_
    refine x_aload_n h dX5_find_5 rfl ?_
    refine x_getR h gu f_X5_18 rfl rgv dX5_find_6 ?_
    refine x_alen h ggv (by decide) dX5_find_9 ?_
    refine x_icmp_ge h 27 dX5_find_10 (by decide) (fun c10 => ?_) (fun c10 => ?_)
    · obtain rfl : i = 3 := up_ge (by decide) hi c10
      refine x_ic1 h dX5_find_27 ?_
      refine x_istore h dX5_find_28 rfl rfl ?_
      dsimp only [List.set]
      refine x_in0 h dX5_find_30 ?_
      refine x_istore h dX5_find_31 rfl rfl ?_
      dsimp only [List.set]
      exact rounds 0 (by decide) none none
    · have hlt : i < 3 := up_lt (by decide) hi c10
      refine x_aload_n h dX5_find_13 rfl ?_
      refine x_getR h gu f_X5_18 rfl rgv dX5_find_14 ?_
      refine x_iload h dX5_find_17 rfl ?_
      refine x_iload_n h dX5_find_19 rfl ?_
      refine x_iastw h i ggv (ix.ni hlt (by decide)) rfl dX5_find_20 ?_
      refine x_incn h dX5_find_21 rfl rfl rfl ?_
      dsimp only [List.set]
      refine x_goto h 3 dX5_find_24 (by decide) ?_
      exact ih hlt
  refine x_in0 h dX5_find_0 ?_
  refine x_istore h dX5_find_1 rfl rfl ?_
  dsimp only [List.set]
  have hl := fill 0 (by decide)
  rw [wI_0] at hl
  exact hl
