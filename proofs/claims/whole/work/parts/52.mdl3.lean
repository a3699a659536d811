/-! ===== the reference: what comes to the nodes, by guesses ===== -/
def foN {α : Type} (f : Nat → α → α) : Nat → α → α
  | 0, x => x
  | n + 1, x => f n (foN f n x)
def goP (Q : AP) (k s : Nat) (x : NS × NS) : NS × NS :=
  if kA Q k ≤ 2 then putP (k + 1) (dnM Q k s 0) x
  else if kA Q k = 3 then foN (fun w => putP (k + 1) (dnM Q k s w)) 6 x
  else if kA Q k ≤ 5 then (if cndT (cA Q k) s then putP (k + 1) s x else x)
  else if kA Q k = 6 then putP (if cndT (cA Q k) s then k + 1 else lA Q k) s x
  else if kA Q k = 8 then putP (lA Q k) s (putP (k + 1) s x)
  else if kA Q k = 10 then putP (k + 1) s x
  else putP (lA Q k) s x
theorem c_X12_goOn {Γ : GT} {G : GG} {M : MM} {m : Nat} (hF : mdF G M.2.2 m) {Q : AP} (hP : mpW M m Q) (hO : okM Q) {x : NS × NS} {k s : Nat} (hk : k < nA Q) (hs : s < 216) : Calls Γ q_X12_goOn [.ref m, .int (nI k), .int (nI s)] G (wCF M m x.1 x.2) (rI (fun y M' => M' = wCF M m (goP Q k s x).1 (goP Q k s x).2)) := by
  have hP0 := hP
  obtain ⟨q60, qn, qk⟩ := hP
  obtain ⟨q1, q2, q3, q4, q5, q6⟩ := qk k hk
  obtain ⟨o1, o2, o3, o4, o5, o6, o7⟩ := hO k hk
  refine Calls.intro (by decide +kernel) (Nat.le_of_ble_eq_true rfl) (fun z E h hQ => ?_)
  refine x_loc (L' := [some (.ref m), some (.int (nI k)), some (.int (nI s)), none, none]) rfl ?_
  have loop : kA Q k = 3 → ∀ w, w ≤ 6 → ∀ b : Int32, b = 0 ∨ b = 1 → X Γ E 0 0 G z (wCF M m (foN (fun w => putP (k + 1) (dnM Q k s w)) w x).1 (foN (fun w => putP (k + 1) (dnM Q k s w)) w x).2) 86 [some (.ref m), some (.int (nI k)), some (.int (nI s)), some (.int b), some (.int (nI w))] [] := by
    intro hk0
    refine upto 6 (fun w hw ih b hb => ?_)
    refine x_iload h dX12_goOn_86 rfl ?_
    refine x_bipush h (nI 6) (by decide) dX12_goOn_88 ?_
    refine x_icmp_ge h 127 dX12_goOn_90 (by decide) (fun c90 => ?_) (fun c90 => ?_)
    · obtain rfl : w = 6 := up_ge (by decide) hw c90
      refine x_iload_n h dX12_goOn_127 rfl ?_
      exact x_zret h hQ rfl hb dX12_goOn_128 ⟨rfl, rfl, _, rfl, by simp only [goP, hk0]; rfl⟩
    · have hlt : w < 6 := up_lt (by decide) hw c90
      refine x_aload_n h dX12_goOn_93 rfl ?_
      refine x_iload_n h dX12_goOn_94 rfl ?_
      refine x_in1 h dX12_goOn_95 ?_
      refine x_iaddn h  dX12_goOn_96 ?_
      refine x_aload_n h dX12_goOn_97 rfl ?_
      refine x_iload_n h dX12_goOn_98 rfl ?_
      refine x_iload_n h dX12_goOn_99 rfl ?_
      refine x_iload h dX12_goOn_100 rfl ?_
      refine x_cVi h ci_X12_done im_X12_done l_X12_249 ⟨Nat.le_of_ble_eq_true rfl, Nat.le_of_ble_eq_true rfl⟩ ⟨rfl, rfl⟩ ⟨Nat.zero_le _, Nat.zero_le _⟩ (c_X12_done (M := wCF M m _ _) hF hP0 hO (w := w) hk hs (by omega)) rfl rfl rfl rfl hF.1 (by decide) rfl dX12_goOn_102 (fun v102 M102 hp102 => ?_)
      obtain ⟨rfl, hM⟩ := hp102
      obtain rfl := hM.symm
      clear hM
      refine x_cVi h ci_X12_put im_X12_put l_X12_252 ⟨Nat.le_of_ble_eq_true rfl, Nat.le_of_ble_eq_true rfl⟩ ⟨rfl, rfl⟩ ⟨Nat.zero_le _, Nat.zero_le _⟩ (c_X12_put hF (by omega) (dn_lt hO hk hs hlt)) rfl rfl rfl rfl hF.1 (by decide) rfl dX12_goOn_105 (fun v105 M105 hp105 => ?_)
      obtain ⟨rfl, hM⟩ := hp105
      subst hM
      refine x_if_ne h 115 dX12_goOn_108 (by decide) (fun c108 => ?_) (fun c108 => ?_)
      · refine x_ic1 h dX12_goOn_115 ?_
        refine x_goto h 120 dX12_goOn_116 (by decide) ?_
        refine x_istore_n h dX12_goOn_120 rfl rfl ?_
        dsimp only [List.set]
        refine x_incn h dX12_goOn_121 rfl rfl rfl ?_
        dsimp only [List.set]
        refine x_goto h 86 dX12_goOn_124 (by decide) ?_
        exact ih hlt _ (by decide)
      · refine x_iload_n h dX12_goOn_111 rfl ?_
        refine x_if_eq h 119 dX12_goOn_112 (by decide) (fun c112 => ?_) (fun c112 => ?_)
        · refine x_ic0 h dX12_goOn_119 ?_
          refine x_istore_n h dX12_goOn_120 rfl rfl ?_
          dsimp only [List.set]
          refine x_incn h dX12_goOn_121 rfl rfl rfl ?_
          dsimp only [List.set]
          refine x_goto h 86 dX12_goOn_124 (by decide) ?_
          exact ih hlt _ (by decide)
        · refine x_ic1 h dX12_goOn_115 ?_
          refine x_goto h 120 dX12_goOn_116 (by decide) ?_
          refine x_istore_n h dX12_goOn_120 rfl rfl ?_
          dsimp only [List.set]
          refine x_incn h dX12_goOn_121 rfl rfl rfl ?_
          dsimp only [List.set]
          refine x_goto h 86 dX12_goOn_124 (by decide) ?_
          exact ih hlt _ (by decide)
  refine x_ic0 h dX12_goOn_0 ?_
  refine x_istore_n h dX12_goOn_1 rfl rfl ?_
  dsimp only [List.set]
  refine x_aload_n h dX12_goOn_2 rfl ?_
  refine x_getR h hF.1 f_X12_13 rfl (md_kind hF).1 dX12_goOn_3 ?_
  refine x_iload_n h dX12_goOn_6 rfl ?_
  refine x_ialdv h k (md_kind hF).2 (ix.ni (j := k) (by omega) (by decide)) q1 dX12_goOn_7 ?_
  rcases (show kA Q k = 0 ∨ kA Q k = 1 ∨ kA Q k = 2 ∨ kA Q k = 3 ∨ kA Q k = 4 ∨ kA Q k = 5 ∨ kA Q k = 6 ∨ kA Q k = 7 ∨ kA Q k = 8 ∨ kA Q k = 9 ∨ kA Q k = 10 by omega) with hk0 | hk0 | hk0 | hk0 | hk0 | hk0 | hk0 | hk0 | hk0 | hk0 | hk0 <;> rw [hk0]
  · refine x_tin h 68 dX12_goOn_8 (by decide) (by decide) (off := 60) (by decide) (by decide) ?_
    refine x_aload_n h dX12_goOn_68 rfl ?_
    refine x_iload_n h dX12_goOn_69 rfl ?_
    refine x_in1 h dX12_goOn_70 ?_
    refine x_iaddn h  dX12_goOn_71 ?_
    refine x_aload_n h dX12_goOn_72 rfl ?_
    refine x_iload_n h dX12_goOn_73 rfl ?_
    refine x_iload_n h dX12_goOn_74 rfl ?_
    refine x_in0 h dX12_goOn_75 ?_
    refine x_cVi h ci_X12_done im_X12_done l_X12_249 ⟨Nat.le_of_ble_eq_true rfl, Nat.le_of_ble_eq_true rfl⟩ ⟨rfl, rfl⟩ ⟨Nat.zero_le _, Nat.zero_le _⟩ (c_X12_done (M := wCF M m _ _) hF hP0 hO (w := 0) hk hs (by omega)) rfl rfl rfl rfl hF.1 (by decide) rfl dX12_goOn_76 (fun v76 M76 hp76 => ?_)
    obtain ⟨rfl, hM⟩ := hp76
    obtain rfl := hM.symm
    clear hM
    refine x_cVi h ci_X12_put im_X12_put l_X12_252 ⟨Nat.le_of_ble_eq_true rfl, Nat.le_of_ble_eq_true rfl⟩ ⟨rfl, rfl⟩ ⟨Nat.zero_le _, Nat.zero_le _⟩ (c_X12_put hF (by omega) (dn_lt hO hk hs (by omega))) rfl rfl rfl rfl hF.1 (by decide) rfl dX12_goOn_79 (fun v79 M79 hp79 => ?_)
    obtain ⟨rfl, hM⟩ := hp79
    subst hM
    exact x_zret h hQ rfl (by first | exact b2i_01 _ | decide) dX12_goOn_82 ⟨rfl, rfl, _, rfl, by simp only [goP, hk0]; rfl⟩
  · refine x_tin h 68 dX12_goOn_8 (by decide) (by decide) (off := 60) (by decide) (by decide) ?_
    refine x_aload_n h dX12_goOn_68 rfl ?_
    refine x_iload_n h dX12_goOn_69 rfl ?_
    refine x_in1 h dX12_goOn_70 ?_
    refine x_iaddn h  dX12_goOn_71 ?_
    refine x_aload_n h dX12_goOn_72 rfl ?_
    refine x_iload_n h dX12_goOn_73 rfl ?_
    refine x_iload_n h dX12_goOn_74 rfl ?_
    refine x_in0 h dX12_goOn_75 ?_
    refine x_cVi h ci_X12_done im_X12_done l_X12_249 ⟨Nat.le_of_ble_eq_true rfl, Nat.le_of_ble_eq_true rfl⟩ ⟨rfl, rfl⟩ ⟨Nat.zero_le _, Nat.zero_le _⟩ (c_X12_done (M := wCF M m _ _) hF hP0 hO (w := 0) hk hs (by omega)) rfl rfl rfl rfl hF.1 (by decide) rfl dX12_goOn_76 (fun v76 M76 hp76 => ?_)
    obtain ⟨rfl, hM⟩ := hp76
    obtain rfl := hM.symm
    clear hM
    refine x_cVi h ci_X12_put im_X12_put l_X12_252 ⟨Nat.le_of_ble_eq_true rfl, Nat.le_of_ble_eq_true rfl⟩ ⟨rfl, rfl⟩ ⟨Nat.zero_le _, Nat.zero_le _⟩ (c_X12_put hF (by omega) (dn_lt hO hk hs (by omega))) rfl rfl rfl rfl hF.1 (by decide) rfl dX12_goOn_79 (fun v79 M79 hp79 => ?_)
    obtain ⟨rfl, hM⟩ := hp79
    subst hM
    exact x_zret h hQ rfl (by first | exact b2i_01 _ | decide) dX12_goOn_82 ⟨rfl, rfl, _, rfl, by simp only [goP, hk0]; rfl⟩
  · refine x_tin h 68 dX12_goOn_8 (by decide) (by decide) (off := 60) (by decide) (by decide) ?_
    refine x_aload_n h dX12_goOn_68 rfl ?_
    refine x_iload_n h dX12_goOn_69 rfl ?_
    refine x_in1 h dX12_goOn_70 ?_
    refine x_iaddn h  dX12_goOn_71 ?_
    refine x_aload_n h dX12_goOn_72 rfl ?_
    refine x_iload_n h dX12_goOn_73 rfl ?_
    refine x_iload_n h dX12_goOn_74 rfl ?_
    refine x_in0 h dX12_goOn_75 ?_
    refine x_cVi h ci_X12_done im_X12_done l_X12_249 ⟨Nat.le_of_ble_eq_true rfl, Nat.le_of_ble_eq_true rfl⟩ ⟨rfl, rfl⟩ ⟨Nat.zero_le _, Nat.zero_le _⟩ (c_X12_done (M := wCF M m _ _) hF hP0 hO (w := 0) hk hs (by omega)) rfl rfl rfl rfl hF.1 (by decide) rfl dX12_goOn_76 (fun v76 M76 hp76 => ?_)
    obtain ⟨rfl, hM⟩ := hp76
    obtain rfl := hM.symm
    clear hM
    refine x_cVi h ci_X12_put im_X12_put l_X12_252 ⟨Nat.le_of_ble_eq_true rfl, Nat.le_of_ble_eq_true rfl⟩ ⟨rfl, rfl⟩ ⟨Nat.zero_le _, Nat.zero_le _⟩ (c_X12_put hF (by omega) (dn_lt hO hk hs (by omega))) rfl rfl rfl rfl hF.1 (by decide) rfl dX12_goOn_79 (fun v79 M79 hp79 => ?_)
    obtain ⟨rfl, hM⟩ := hp79
    subst hM
    exact x_zret h hQ rfl (by first | exact b2i_01 _ | decide) dX12_goOn_82 ⟨rfl, rfl, _, rfl, by simp only [goP, hk0]; rfl⟩
  · refine x_tin h 83 dX12_goOn_8 (by decide) (by decide) (off := 75) (by decide) (by decide) ?_
    refine x_in0 h dX12_goOn_83 ?_
    refine x_istore h dX12_goOn_84 rfl rfl ?_
    dsimp only [List.set]
    exact loop hk0 0 (by decide) _ (by decide)
  · refine x_tin h 129 dX12_goOn_8 (by decide) (by decide) (off := 121) (by decide) (by decide) ?_
    refine x_aload_n h dX12_goOn_129 rfl ?_
    refine x_iload_n h dX12_goOn_130 rfl ?_
    refine x_iload_n h dX12_goOn_131 rfl ?_
    refine x_cVi h ci_X12_isSo im_X12_isSo l_X12_255 ⟨Nat.le_of_ble_eq_true rfl, Nat.le_of_ble_eq_true rfl⟩ ⟨rfl, rfl⟩ ⟨Nat.zero_le _, Nat.zero_le _⟩ (c_X12_isSo (M := wCF M m _ _) hF hP0 hO hk hs (by omega) (by omega)) rfl rfl rfl rfl hF.1 (by decide) rfl dX12_goOn_132 (fun v132 M132 hp132 => ?_)
    obtain ⟨rfl, hM⟩ := hp132
    obtain rfl := hM.symm
    clear hM
    refine x_if_eq h 153 dX12_goOn_135 (by decide) (fun c135 => ?_) (fun c135 => ?_)
    · have e := b2i_0.mp c135
      refine x_ic0 h dX12_goOn_153 ?_
      exact x_zret h hQ rfl (by first | exact b2i_01 _ | decide) dX12_goOn_154 ⟨rfl, rfl, _, rfl, by simp only [goP, hk0, e]; rfl⟩
    · have e := bool_nf (fun q => c135 (b2i_0.mpr q))
      refine x_aload_n h dX12_goOn_138 rfl ?_
      refine x_iload_n h dX12_goOn_139 rfl ?_
      refine x_in1 h dX12_goOn_140 ?_
      refine x_iaddn h  dX12_goOn_141 ?_
      refine x_iload_n h dX12_goOn_142 rfl ?_
      refine x_cVi h ci_X12_put im_X12_put l_X12_252 ⟨Nat.le_of_ble_eq_true rfl, Nat.le_of_ble_eq_true rfl⟩ ⟨rfl, rfl⟩ ⟨Nat.zero_le _, Nat.zero_le _⟩ (c_X12_put hF (by omega) hs) rfl rfl rfl rfl hF.1 (by decide) rfl dX12_goOn_143 (fun v143 M143 hp143 => ?_)
      obtain ⟨rfl, hM⟩ := hp143
      subst hM
      refine x_if_eq h 153 dX12_goOn_146 (by decide) (fun c146 => ?_) (fun c146 => ?_)
      · refine x_ic0 h dX12_goOn_153 ?_
        exact x_zret h hQ rfl (by first | exact b2i_01 _ | decide) dX12_goOn_154 ⟨rfl, rfl, _, rfl, by simp only [goP, hk0, e]; rfl⟩
      · refine x_ic1 h dX12_goOn_149 ?_
        refine x_goto h 154 dX12_goOn_150 (by decide) ?_
        exact x_zret h hQ rfl (by first | exact b2i_01 _ | decide) dX12_goOn_154 ⟨rfl, rfl, _, rfl, by simp only [goP, hk0, e]; rfl⟩
  · refine x_tin h 129 dX12_goOn_8 (by decide) (by decide) (off := 121) (by decide) (by decide) ?_
    refine x_aload_n h dX12_goOn_129 rfl ?_
    refine x_iload_n h dX12_goOn_130 rfl ?_
    refine x_iload_n h dX12_goOn_131 rfl ?_
    refine x_cVi h ci_X12_isSo im_X12_isSo l_X12_255 ⟨Nat.le_of_ble_eq_true rfl, Nat.le_of_ble_eq_true rfl⟩ ⟨rfl, rfl⟩ ⟨Nat.zero_le _, Nat.zero_le _⟩ (c_X12_isSo (M := wCF M m _ _) hF hP0 hO hk hs (by omega) (by omega)) rfl rfl rfl rfl hF.1 (by decide) rfl dX12_goOn_132 (fun v132 M132 hp132 => ?_)
    obtain ⟨rfl, hM⟩ := hp132
    obtain rfl := hM.symm
    clear hM
    refine x_if_eq h 153 dX12_goOn_135 (by decide) (fun c135 => ?_) (fun c135 => ?_)
    · have e := b2i_0.mp c135
      refine x_ic0 h dX12_goOn_153 ?_
      exact x_zret h hQ rfl (by first | exact b2i_01 _ | decide) dX12_goOn_154 ⟨rfl, rfl, _, rfl, by simp only [goP, hk0, e]; rfl⟩
    · have e := bool_nf (fun q => c135 (b2i_0.mpr q))
      refine x_aload_n h dX12_goOn_138 rfl ?_
      refine x_iload_n h dX12_goOn_139 rfl ?_
      refine x_in1 h dX12_goOn_140 ?_
      refine x_iaddn h  dX12_goOn_141 ?_
      refine x_iload_n h dX12_goOn_142 rfl ?_
      refine x_cVi h ci_X12_put im_X12_put l_X12_252 ⟨Nat.le_of_ble_eq_true rfl, Nat.le_of_ble_eq_true rfl⟩ ⟨rfl, rfl⟩ ⟨Nat.zero_le _, Nat.zero_le _⟩ (c_X12_put hF (by omega) hs) rfl rfl rfl rfl hF.1 (by decide) rfl dX12_goOn_143 (fun v143 M143 hp143 => ?_)
      obtain ⟨rfl, hM⟩ := hp143
      subst hM
      refine x_if_eq h 153 dX12_goOn_146 (by decide) (fun c146 => ?_) (fun c146 => ?_)
      · refine x_ic0 h dX12_goOn_153 ?_
        exact x_zret h hQ rfl (by first | exact b2i_01 _ | decide) dX12_goOn_154 ⟨rfl, rfl, _, rfl, by simp only [goP, hk0, e]; rfl⟩
      · refine x_ic1 h dX12_goOn_149 ?_
        refine x_goto h 154 dX12_goOn_150 (by decide) ?_
        exact x_zret h hQ rfl (by first | exact b2i_01 _ | decide) dX12_goOn_154 ⟨rfl, rfl, _, rfl, by simp only [goP, hk0, e]; rfl⟩
  · refine x_tin h 155 dX12_goOn_8 (by decide) (by decide) (off := 147) (by decide) (by decide) ?_
    refine x_aload_n h dX12_goOn_155 rfl ?_
    refine x_aload_n h dX12_goOn_156 rfl ?_
    refine x_iload_n h dX12_goOn_157 rfl ?_
    refine x_iload_n h dX12_goOn_158 rfl ?_
    refine x_cVi h ci_X12_isSo im_X12_isSo l_X12_255 ⟨Nat.le_of_ble_eq_true rfl, Nat.le_of_ble_eq_true rfl⟩ ⟨rfl, rfl⟩ ⟨Nat.zero_le _, Nat.zero_le _⟩ (c_X12_isSo (M := wCF M m _ _) hF hP0 hO hk hs (by omega) (by omega)) rfl rfl rfl rfl hF.1 (by decide) rfl dX12_goOn_159 (fun v159 M159 hp159 => ?_)
    obtain ⟨rfl, hM⟩ := hp159
    obtain rfl := hM.symm
    clear hM
    refine x_if_eq h 171 dX12_goOn_162 (by decide) (fun c162 => ?_) (fun c162 => ?_)
    · have e := b2i_0.mp c162
      refine x_aload_n h dX12_goOn_171 rfl ?_
      refine x_getR h hF.1 f_X12_28 rfl (md_leads hF).1 dX12_goOn_172 ?_
      refine x_iload_n h dX12_goOn_175 rfl ?_
      refine x_ialdv h k (md_leads hF).2 (ix.ni (j := k) (by omega) (by decide)) q6 dX12_goOn_176 ?_
      refine x_iload_n h dX12_goOn_177 rfl ?_
      refine x_cVi h ci_X12_put im_X12_put l_X12_252 ⟨Nat.le_of_ble_eq_true rfl, Nat.le_of_ble_eq_true rfl⟩ ⟨rfl, rfl⟩ ⟨Nat.zero_le _, Nat.zero_le _⟩ (c_X12_put hF (by have := o5 (by omega) (by omega); omega) hs) rfl rfl rfl rfl hF.1 (by decide) rfl dX12_goOn_178 (fun v178 M178 hp178 => ?_)
      obtain ⟨rfl, hM⟩ := hp178
      subst hM
      exact x_zret h hQ rfl (by first | exact b2i_01 _ | decide) dX12_goOn_181 ⟨rfl, rfl, _, rfl, by simp only [goP, hk0, e]; rfl⟩
    · have e := bool_nf (fun q => c162 (b2i_0.mpr q))
      refine x_iload_n h dX12_goOn_165 rfl ?_
      refine x_in1 h dX12_goOn_166 ?_
      refine x_iaddn h  dX12_goOn_167 ?_
      refine x_goto h 177 dX12_goOn_168 (by decide) ?_
      refine x_iload_n h dX12_goOn_177 rfl ?_
      refine x_cVi h ci_X12_put im_X12_put l_X12_252 ⟨Nat.le_of_ble_eq_true rfl, Nat.le_of_ble_eq_true rfl⟩ ⟨rfl, rfl⟩ ⟨Nat.zero_le _, Nat.zero_le _⟩ (c_X12_put hF (by have := o5 (by omega) (by omega); omega) hs) rfl rfl rfl rfl hF.1 (by decide) rfl dX12_goOn_178 (fun v178 M178 hp178 => ?_)
      obtain ⟨rfl, hM⟩ := hp178
      subst hM
      exact x_zret h hQ rfl (by first | exact b2i_01 _ | decide) dX12_goOn_181 ⟨rfl, rfl, _, rfl, by simp only [goP, hk0, e]; rfl⟩
  · refine x_tin h 224 dX12_goOn_8 (by decide) (by decide) (off := 216) (by decide) (by decide) ?_
    refine x_aload_n h dX12_goOn_224 rfl ?_
    refine x_aload_n h dX12_goOn_225 rfl ?_
    refine x_getR h hF.1 f_X12_28 rfl (md_leads hF).1 dX12_goOn_226 ?_
    refine x_iload_n h dX12_goOn_229 rfl ?_
    refine x_ialdv h k (md_leads hF).2 (ix.ni (j := k) (by omega) (by decide)) q6 dX12_goOn_230 ?_
    refine x_iload_n h dX12_goOn_231 rfl ?_
    refine x_cVi h ci_X12_put im_X12_put l_X12_252 ⟨Nat.le_of_ble_eq_true rfl, Nat.le_of_ble_eq_true rfl⟩ ⟨rfl, rfl⟩ ⟨Nat.zero_le _, Nat.zero_le _⟩ (c_X12_put hF (by have := o5 (by omega) (by omega); omega) hs) rfl rfl rfl rfl hF.1 (by decide) rfl dX12_goOn_232 (fun v232 M232 hp232 => ?_)
    obtain ⟨rfl, hM⟩ := hp232
    subst hM
    exact x_zret h hQ rfl (by first | exact b2i_01 _ | decide) dX12_goOn_235 ⟨rfl, rfl, _, rfl, by simp only [goP, hk0]; rfl⟩
  · refine x_tin h 182 dX12_goOn_8 (by decide) (by decide) (off := 174) (by decide) (by decide) ?_
    refine x_aload_n h dX12_goOn_182 rfl ?_
    refine x_iload_n h dX12_goOn_183 rfl ?_
    refine x_in1 h dX12_goOn_184 ?_
    refine x_iaddn h  dX12_goOn_185 ?_
    refine x_iload_n h dX12_goOn_186 rfl ?_
    refine x_cVi h ci_X12_put im_X12_put l_X12_252 ⟨Nat.le_of_ble_eq_true rfl, Nat.le_of_ble_eq_true rfl⟩ ⟨rfl, rfl⟩ ⟨Nat.zero_le _, Nat.zero_le _⟩ (c_X12_put hF (by omega) hs) rfl rfl rfl rfl hF.1 (by decide) rfl dX12_goOn_187 (fun v187 M187 hp187 => ?_)
    obtain ⟨rfl, hM⟩ := hp187
    subst hM
    refine x_istore_n h dX12_goOn_190 rfl rfl ?_
    dsimp only [List.set]
    refine x_aload_n h dX12_goOn_191 rfl ?_
    refine x_aload_n h dX12_goOn_192 rfl ?_
    refine x_getR h hF.1 f_X12_28 rfl (md_leads hF).1 dX12_goOn_193 ?_
    refine x_iload_n h dX12_goOn_196 rfl ?_
    refine x_ialdv h k (md_leads hF).2 (ix.ni (j := k) (by omega) (by decide)) q6 dX12_goOn_197 ?_
    refine x_iload_n h dX12_goOn_198 rfl ?_
    refine x_cVi h ci_X12_put im_X12_put l_X12_252 ⟨Nat.le_of_ble_eq_true rfl, Nat.le_of_ble_eq_true rfl⟩ ⟨rfl, rfl⟩ ⟨Nat.zero_le _, Nat.zero_le _⟩ (c_X12_put hF (by have := o5 (by omega) (by omega); omega) hs) rfl rfl rfl rfl hF.1 (by decide) rfl dX12_goOn_199 (fun v199 M199 hp199 => ?_)
    obtain ⟨rfl, hM⟩ := hp199
    subst hM
    refine x_if_ne h 209 dX12_goOn_202 (by decide) (fun c202 => ?_) (fun c202 => ?_)
    · refine x_ic1 h dX12_goOn_209 ?_
      refine x_goto h 214 dX12_goOn_210 (by decide) ?_
      exact x_zret h hQ rfl (by first | exact b2i_01 _ | decide) dX12_goOn_214 ⟨rfl, rfl, _, rfl, by simp only [goP, hk0]; rfl⟩
    · refine x_iload_n h dX12_goOn_205 rfl ?_
      refine x_if_eq h 213 dX12_goOn_206 (by decide) (fun c206 => ?_) (fun c206 => ?_)
      · refine x_ic0 h dX12_goOn_213 ?_
        exact x_zret h hQ rfl (by first | exact b2i_01 _ | decide) dX12_goOn_214 ⟨rfl, rfl, _, rfl, by simp only [goP, hk0]; rfl⟩
      · refine x_ic1 h dX12_goOn_209 ?_
        refine x_goto h 214 dX12_goOn_210 (by decide) ?_
        exact x_zret h hQ rfl (by first | exact b2i_01 _ | decide) dX12_goOn_214 ⟨rfl, rfl, _, rfl, by simp only [goP, hk0]; rfl⟩
  · refine x_tin h 224 dX12_goOn_8 (by decide) (by decide) (off := 216) (by decide) (by decide) ?_
    refine x_aload_n h dX12_goOn_224 rfl ?_
    refine x_aload_n h dX12_goOn_225 rfl ?_
    refine x_getR h hF.1 f_X12_28 rfl (md_leads hF).1 dX12_goOn_226 ?_
    refine x_iload_n h dX12_goOn_229 rfl ?_
    refine x_ialdv h k (md_leads hF).2 (ix.ni (j := k) (by omega) (by decide)) q6 dX12_goOn_230 ?_
    refine x_iload_n h dX12_goOn_231 rfl ?_
    refine x_cVi h ci_X12_put im_X12_put l_X12_252 ⟨Nat.le_of_ble_eq_true rfl, Nat.le_of_ble_eq_true rfl⟩ ⟨rfl, rfl⟩ ⟨Nat.zero_le _, Nat.zero_le _⟩ (c_X12_put hF (by have := o5 (by omega) (by omega); omega) hs) rfl rfl rfl rfl hF.1 (by decide) rfl dX12_goOn_232 (fun v232 M232 hp232 => ?_)
    obtain ⟨rfl, hM⟩ := hp232
    subst hM
    exact x_zret h hQ rfl (by first | exact b2i_01 _ | decide) dX12_goOn_235 ⟨rfl, rfl, _, rfl, by simp only [goP, hk0]; rfl⟩
  · refine x_tin h 215 dX12_goOn_8 (by decide) (by decide) (off := 207) (by decide) (by decide) ?_
    refine x_aload_n h dX12_goOn_215 rfl ?_
    refine x_iload_n h dX12_goOn_216 rfl ?_
    refine x_in1 h dX12_goOn_217 ?_
    refine x_iaddn h  dX12_goOn_218 ?_
    refine x_iload_n h dX12_goOn_219 rfl ?_
    refine x_cVi h ci_X12_put im_X12_put l_X12_252 ⟨Nat.le_of_ble_eq_true rfl, Nat.le_of_ble_eq_true rfl⟩ ⟨rfl, rfl⟩ ⟨Nat.zero_le _, Nat.zero_le _⟩ (c_X12_put hF (by omega) hs) rfl rfl rfl rfl hF.1 (by decide) rfl dX12_goOn_220 (fun v220 M220 hp220 => ?_)
    obtain ⟨rfl, hM⟩ := hp220
    subst hM
    exact x_zret h hQ rfl (by first | exact b2i_01 _ | decide) dX12_goOn_223 ⟨rfl, rfl, _, rfl, by simp only [goP, hk0]; rfl⟩
def clC (i : Nat) (C : NS) : NS := fun k s => if 4 * k + s / 54 < i then false else C k s
theorem wCF_congr (M : MM) (m : Nat) {C F C2 F2 : NS} (h1 : ∀ k s, k < 62 → s < 216 → C k s = C2 k s) (h2 : ∀ k s, k < 62 → s < 216 → F k s = F2 k s) : wCF M m C F = wCF M m C2 F2 := by
  show (M.1, _, M.2.2) = (M.1, _, M.2.2)
  congr 2
  funext b j
  by_cases q1 : b = m + 28 ∧ j < 248
  · rw [if_pos q1, if_pos q1]
    exact encW_congr (fun s hs => h1 _ _ (by omega) (by omega))
  · rw [if_neg q1, if_neg q1]
    by_cases q2 : b = m + 29 ∧ j < 248
    · rw [if_pos q2, if_pos q2]
      exact encW_congr (fun s hs => h2 _ _ (by omega) (by omega))
    · rw [if_neg q2, if_neg q2]
theorem encW_none {S : ST} {w : Nat} (h : ∀ s, s / 54 = w → S s = false) : encW S w = 0 := by
  unfold encW
  rw [show enN S (54 * w) 54 = 0 from (enN_eq (fun i => by
    by_cases q : i < 54
    · rw [h (54 * w + i) (by omega)]; simp
    · simp [q])).symm]
  rfl
theorem wCF_clC (M : MM) (m : Nat) (C F : NS) {i : Nat} (hi : i < 248) : sL (wCF M m (clC i C) F) (m + 28) i 0 = wCF M m (clC (i + 1) C) F := by
  show (M.1, _, M.2.2) = (M.1, _, M.2.2)
  congr 2
  funext b j
  unfold up2
  by_cases h : b = m + 28 ∧ j = i
  · obtain ⟨rfl, rfl⟩ := h
    rw [if_pos ⟨rfl, rfl⟩, if_pos ⟨rfl, hi⟩]
    exact (encW_none (fun s hs => if_pos (by omega))).symm
  · rw [if_neg h]
    show (wCF M m (clC i C) F).2.1 b j = _
    by_cases h2 : b = m + 28 ∧ j < 248
    · simp only [wCF, if_pos h2]
      refine encW_congr (fun t ht => ?_)
      have hne : ¬ j = i := fun q => h ⟨h2.1, q⟩
      unfold clC
      by_cases h3 : 4 * (j / 4) + t / 54 < i
      · rw [if_pos h3, if_pos (by omega)]
      · rw [if_neg h3, if_neg (by omega)]
    · simp only [wCF, if_neg h2]
theorem wCF_clF (M : MM) (m : Nat) (C F : NS) {i : Nat} (hi : i < 248) : sL (wCF M m C (clC i F)) (m + 29) i 0 = wCF M m C (clC (i + 1) F) := by
  show (M.1, _, M.2.2) = (M.1, _, M.2.2)
  congr 2
  funext b j
  unfold up2
  by_cases h : b = m + 29 ∧ j = i
  · obtain ⟨rfl, rfl⟩ := h
    rw [if_pos ⟨rfl, rfl⟩, if_neg (by omega), if_pos ⟨rfl, hi⟩]
    exact (encW_none (fun s hs => if_pos (by omega))).symm
  · rw [if_neg h]
    show (wCF M m C (clC i F)).2.1 b j = _
    by_cases h1 : b = m + 28 ∧ j < 248
    · simp only [wCF, if_pos h1]
    · by_cases h2 : b = m + 29 ∧ j < 248
      · simp only [wCF, if_neg h1, if_pos h2]
        refine encW_congr (fun t ht => ?_)
        have hne : ¬ j = i := fun q => h ⟨h2.1, q⟩
        unfold clC
        by_cases h3 : 4 * (j / 4) + t / 54 < i
        · rw [if_pos h3, if_pos (by omega)]
        · rw [if_neg h3, if_neg (by omega)]
      · simp only [wCF, if_neg h1, if_neg h2]
/-- the start states below i, at the first node -/
def bgN (t : Nat → Nat) (i : Nat) : NS := fun k s => decide (k = 0) && decide (s < i) && begS t s
theorem bg_add {t : Nat → Nat} {i : Nat} (h : begS t i = true) : putP 0 i (bgN t i, bgN t i) = (bgN t (i + 1), bgN t (i + 1)) := by
  have e0 : bgN t i 0 i = false := by simp [bgN]
  have e : adC (bgN t i) 0 i = bgN t (i + 1) := by
    funext k s
    unfold adC addS bgN
    by_cases hk : k = 0
    · subst hk
      rcases Nat.lt_trichotomy s i with q | q | q
      · simp [q, Nat.lt_succ_of_lt q, Nat.ne_of_lt q]
      · subst q; simp [h]
      · simp [show ¬ s < i by omega, show ¬ s < i + 1 by omega, show ¬ s = i by omega]
    · simp [hk]
  simp only [putP, e0, e]
  rfl
theorem bg_no {t : Nat → Nat} {i : Nat} (h : begS t i = false) : bgN t i = bgN t (i + 1) := by
  funext k s
  unfold bgN
  rcases Nat.lt_trichotomy s i with q | q | q
  · simp [q, Nat.lt_succ_of_lt q]
  · subst q; simp [h]
  · simp [show ¬ s < i by omega, show ¬ s < i + 1 by omega]
theorem c_X12_beginAt {Γ : GT} {G : GG} {M : MM} {m : Nat} (hF : mdF G M.2.2 m) {C F : NS} {ra : Nat} {t : Nat → Nat} (gra : G ra = some (.inr (.int, 4))) (ht : rowI M ra t) : Calls Γ q_X12_beginAt [.ref m, .ref ra] G (wCF M m C F) (rV (fun M' => M' = wCF M m (bgN t 216) (bgN t 216))) := by
  refine Calls.intro (by decide +kernel) (Nat.le_of_ble_eq_true rfl) (fun z E h hQ => ?_)
  refine x_loc (L' := [some (.ref m), some (.ref ra), none]) rfl ?_
  have loop2 : ∀ i, i ≤ 216 → X Γ E 0 0 G z (wCF M m (bgN t i) (bgN t i)) 31 [some (.ref m), some (.ref ra), some (.int (nI i))] [] := by
    refine upto 216 (fun i hi ih => ?_)
    refine x_iload_n h dX12_beginAt_31 rfl ?_
    refine x_sipush h (nI 216) (by decide) dX12_beginAt_32 ?_
    refine x_icmp_ge h 59 dX12_beginAt_35 (by decide) (fun c35 => ?_) (fun c35 => ?_)
    · obtain rfl : i = 216 := up_ge (by decide) hi c35
      exact x_vret h hQ rfl dX12_beginAt_59 ⟨rfl, rfl, rfl, rfl⟩
    · have hlt : i < 216 := up_lt (by decide) hi c35
      refine x_aload_n h dX12_beginAt_38 rfl ?_
      refine x_iload_n h dX12_beginAt_39 rfl ?_
      refine x_cSi h ci_X12_mayBegin sm_X12_mayBegin l_X12_258 ⟨Nat.le_of_ble_eq_true rfl, Nat.le_of_ble_eq_true rfl⟩ ⟨rfl, rfl⟩ ⟨Nat.zero_le _, Nat.zero_le _⟩ (c_X12_mayBegin (M := wCF M m _ _) gra ht hlt) rfl rfl rfl rfl dX12_beginAt_40 (fun v40 M40 hp40 => ?_)
      obtain ⟨rfl, hM⟩ := hp40
      obtain rfl := hM.symm
      clear hM
      refine x_if_eq h 53 dX12_beginAt_43 (by decide) (fun c43 => ?_) (fun c43 => ?_)
      · have e := b2i_0.mp c43
        refine x_incn h dX12_beginAt_53 rfl rfl rfl ?_
        dsimp only [List.set]
        refine x_goto h 31 dX12_beginAt_56 (by decide) ?_
        have ihh := ih hlt
        rw [← bg_no e] at ihh
        exact ihh
      · have e := bool_nf (fun q => c43 (b2i_0.mpr q))
        refine x_aload_n h dX12_beginAt_46 rfl ?_
        refine x_in0 h dX12_beginAt_47 ?_
        refine x_iload_n h dX12_beginAt_48 rfl ?_
        refine x_cVi h ci_X12_put im_X12_put l_X12_252 ⟨Nat.le_of_ble_eq_true rfl, Nat.le_of_ble_eq_true rfl⟩ ⟨rfl, rfl⟩ ⟨Nat.zero_le _, Nat.zero_le _⟩ (c_X12_put hF (by decide) hlt) rfl rfl rfl rfl hF.1 (by decide) rfl dX12_beginAt_49 (fun v49 M49 hp49 => ?_)
        obtain ⟨rfl, hM⟩ := hp49
        subst hM
        rw [bg_add e]
        refine x_pop h rfl dX12_beginAt_52 ?_
        refine x_incn h dX12_beginAt_53 rfl rfl rfl ?_
        dsimp only [List.set]
        refine x_goto h 31 dX12_beginAt_56 (by decide) ?_
        exact ih hlt
  have loop1 : ∀ i, i ≤ 248 → X Γ E 0 0 G z (wCF M m (clC i C) (clC i F)) 2 [some (.ref m), some (.ref ra), some (.int (nI i))] [] := by
    refine upto 248 (fun i hi ih => ?_)
    refine x_iload_n h dX12_beginAt_2 rfl ?_
    refine x_sipush h (nI 248) (by decide) dX12_beginAt_3 ?_
    refine x_icmp_ge h 29 dX12_beginAt_6 (by decide) (fun c6 => ?_) (fun c6 => ?_)
    · obtain rfl : i = 248 := up_ge (by decide) hi c6
      refine x_in0 h dX12_beginAt_29 ?_
      refine x_istore_n h dX12_beginAt_30 rfl rfl ?_
      dsimp only [List.set]
      refine x_mem (wCF_congr (C2 := bgN t 0) (F2 := bgN t 0) M m (fun k s hk hs => ?_) (fun k s hk hs => ?_)) (loop2 0 (Nat.zero_le _))
      · rw [clC, if_pos (by omega)]; simp [bgN]
      · rw [clC, if_pos (by omega)]; simp [bgN]
    · have hlt : i < 248 := up_lt (by decide) hi c6
      refine x_aload_n h dX12_beginAt_9 rfl ?_
      refine x_getR h hF.1 f_X12_92 rfl (md_comes hF).1 dX12_beginAt_10 ?_
      refine x_iload_n h dX12_beginAt_13 rfl ?_
      refine x_lc0 h dX12_beginAt_14 ?_
      refine x_last h i (md_comes hF).2 (ix.ni (j := i) (by omega) (by decide)) dX12_beginAt_15 ?_
      refine x_mem (wCF_clC M m C _ hlt) ?_
      refine x_aload_n h dX12_beginAt_16 rfl ?_
      refine x_getR h hF.1 f_X12_96 rfl (md_fresh hF).1 dX12_beginAt_17 ?_
      refine x_iload_n h dX12_beginAt_20 rfl ?_
      refine x_lc0 h dX12_beginAt_21 ?_
      refine x_last h i (md_fresh hF).2 (ix.ni (j := i) (by omega) (by decide)) dX12_beginAt_22 ?_
      refine x_mem (wCF_clF M m _ F hlt) ?_
      refine x_incn h dX12_beginAt_23 rfl rfl rfl ?_
      dsimp only [List.set]
      refine x_goto h 2 dX12_beginAt_26 (by decide) ?_
      exact ih hlt
  refine x_in0 h dX12_beginAt_0 ?_
  refine x_istore_n h dX12_beginAt_1 rfl rfl ?_
  dsimp only [List.set]
  refine x_mem (wCF_congr (C2 := clC 0 C) (F2 := clC 0 F) M m (fun k s hk hs => ?_) (fun k s hk hs => ?_)) (loop1 0 (Nat.zero_le _))
  · rw [clC, if_neg (by omega)]
  · rw [clC, if_neg (by omega)]
def lcA (Q : AP) (V : GC) (hs : Nat → Nat) (k s : Nat) (y : NS × NS) : NS × NS := if (if kA Q k = 6 then agS V (hs (mA Q k)) s else y.1 k s) then goP Q k s y else y
theorem lcA_yes {Q : AP} {V : GC} {hs : Nat → Nat} {k s : Nat} {y : NS × NS} (h : (if kA Q k = 6 then agS V (hs (mA Q k)) s else y.1 k s) = true) : lcA Q V hs k s y = goP Q k s y := if_pos h
theorem lcA_no {Q : AP} {V : GC} {hs : Nat → Nat} {k s : Nat} {y : NS × NS} (h : (if kA Q k = 6 then agS V (hs (mA Q k)) s else y.1 k s) = false) : lcA Q V hs k s y = y := if_neg (by rw [h]; decide)
def lcS (Q : AP) (V : GC) (hs : Nat → Nat) (k : Nat) (x : NS × NS) : NS × NS := foN (lcA Q V hs k) 216 x
def lcP (Q : AP) (V : GC) (hs t : Nat → Nat) : NS × NS := foN (lcS Q V hs) (nA Q) (bgN t 216, bgN t 216)
def hsW (M : MM) (m : Nat) (hs : Nat → Nat) : Prop := ∀ l, l < 3 → M.1 (m + 30) l = nI (hs l) ∧ hs l < 32
theorem c_X12_layComes {Γ : GT} {G : GG} {M : MM} {m : Nat} (hF : mdF G M.2.2 m) {Q : AP} (hP : mpW M m Q) (hO : okM Q) {V : GC} (hV : mgW M m V) {ra : Nat} {t : Nat → Nat} (gra : G ra = some (.inr (.int, 4))) (ht : rowI M ra t) {hs : Nat → Nat} (hH : hsW M m hs) {C F : NS} : Calls Γ q_X12_layComes [.ref m, .ref ra] G (wCF M m C F) (rV (fun M' => M' = wCF M m (lcP Q V hs t).1 (lcP Q V hs t).2)) := by
  have hP0 := hP
  obtain ⟨q60, qn, qk⟩ := hP
  refine Calls.intro (by decide +kernel) (Nat.le_of_ble_eq_true rfl) (fun z E h hQ => ?_)
  refine x_loc (L' := [some (.ref m), some (.ref ra), none, none, none]) rfl ?_
  have loop : ∀ k, k ≤ nA Q → ∀ w1 w2, X Γ E 0 0 G z (wCF M m (foN (lcS Q V hs) k (bgN t 216, bgN t 216)).1 (foN (lcS Q V hs) k (bgN t 216, bgN t 216)).2) 7 [some (.ref m), some (.ref ra), some (.int (nI k)), w1, w2] [] := by
    refine upto (nA Q) (fun k hk ih w1 w2 => ?_)
    have inner : k < nA Q → ∀ s, s ≤ 216 → ∀ w2, X Γ E 0 0 G z (wCF M m (foN (lcA Q V hs k) s (foN (lcS Q V hs) k (bgN t 216, bgN t 216))).1 (foN (lcA Q V hs k) s (foN (lcS Q V hs) k (bgN t 216, bgN t 216))).2) 17 [some (.ref m), some (.ref ra), some (.int (nI k)), some (.int (nI s)), w2] [] := by
      intro hkl
      obtain ⟨q1, q2, q3, q4, q5, q6⟩ := qk k hkl
      obtain ⟨o1, o2, o3, o4, o5, o6, o7⟩ := hO k hkl
      refine upto 216 (fun s hs2 ih2 w2 => ?_)
      refine x_iload_n h dX12_layComes_17 rfl ?_
      refine x_sipush h (nI 216) (by decide) dX12_layComes_18 ?_
      refine x_icmp_ge h 80 dX12_layComes_21 (by decide) (fun c21 => ?_) (fun c21 => ?_)
      · obtain rfl : s = 216 := up_ge (by decide) hs2 c21
        refine x_incn h dX12_layComes_80 rfl rfl rfl ?_
        dsimp only [List.set]
        refine x_goto h 7 dX12_layComes_83 (by decide) ?_
        exact ih hkl _ _
      · have hlt : s < 216 := up_lt (by decide) hs2 c21
        refine x_aload_n h dX12_layComes_24 rfl ?_
        refine x_getR h hF.1 f_X12_13 rfl (md_kind hF).1 dX12_layComes_25 ?_
        refine x_iload_n h dX12_layComes_28 rfl ?_
        refine x_ialdv h k (md_kind hF).2 (ix.ni (j := k) (by omega) (by decide)) q1 dX12_layComes_29 ?_
        refine x_bipush h (nI 6) (by decide) dX12_layComes_30 ?_
        refine x_icmp_ne h 54 dX12_layComes_32 (by decide) (fun c32 => ?_) (fun c32 => ?_)
        · have hk6 : ¬ kA Q k = 6 := fun q => c32 (by rw [q])
          refine x_aload_n h dX12_layComes_54 rfl ?_
          refine x_iload_n h dX12_layComes_55 rfl ?_
          refine x_iload_n h dX12_layComes_56 rfl ?_
          refine x_cVi h ci_X12_isThere im_X12_isThere l_X12_246 ⟨Nat.le_of_ble_eq_true rfl, Nat.le_of_ble_eq_true rfl⟩ ⟨rfl, rfl⟩ ⟨Nat.zero_le _, Nat.zero_le _⟩ (c_X12_isThere hF (by omega) hlt) rfl rfl rfl rfl hF.1 (by decide) rfl dX12_layComes_57 (fun v57 M57 hp57 => ?_)
          obtain ⟨rfl, hM⟩ := hp57
          obtain rfl := hM.symm
          clear hM
          refine x_istore h dX12_layComes_60 rfl rfl ?_
          dsimp only [List.set]
          refine x_iload h dX12_layComes_62 rfl ?_
          refine x_if_eq h 74 dX12_layComes_64 (by decide) (fun c64 => ?_) (fun c64 => ?_)
          · have e := b2i_0.mp c64
            refine x_incn h dX12_layComes_74 rfl rfl rfl ?_
            dsimp only [List.set]
            refine x_goto h 17 dX12_layComes_77 (by decide) ?_
            have hy : lcA Q V hs k s (foN (lcA Q V hs k) s (foN (lcS Q V hs) k (bgN t 216, bgN t 216))) = foN (lcA Q V hs k) s (foN (lcS Q V hs) k (bgN t 216, bgN t 216)) := lcA_no ((if_neg hk6).trans e)
            have ihh := ih2 hlt
            rw [show foN (lcA Q V hs k) (s + 1) (foN (lcS Q V hs) k (bgN t 216, bgN t 216)) = lcA Q V hs k s (foN (lcA Q V hs k) s (foN (lcS Q V hs) k (bgN t 216, bgN t 216))) from rfl, hy] at ihh
            exact ihh _
          · have e := bool_nf (fun q => c64 (b2i_0.mpr q))
            refine x_aload_n h dX12_layComes_67 rfl ?_
            refine x_iload_n h dX12_layComes_68 rfl ?_
            refine x_iload_n h dX12_layComes_69 rfl ?_
            refine x_cVi h ci_X12_goOn im_X12_goOn l_X12_269 ⟨Nat.le_of_ble_eq_true rfl, Nat.le_of_ble_eq_true rfl⟩ ⟨rfl, rfl⟩ ⟨Nat.zero_le _, Nat.zero_le _⟩ (c_X12_goOn hF hP0 hO hkl hlt) rfl rfl rfl rfl hF.1 (by decide) rfl dX12_layComes_70 (fun v70 M70 hp70 => ?_)
            subst hp70
            refine x_pop h rfl dX12_layComes_73 ?_
            refine x_incn h dX12_layComes_74 rfl rfl rfl ?_
            dsimp only [List.set]
            refine x_goto h 17 dX12_layComes_77 (by decide) ?_
            have hy : lcA Q V hs k s (foN (lcA Q V hs k) s (foN (lcS Q V hs) k (bgN t 216, bgN t 216))) = goP Q k s (foN (lcA Q V hs k) s (foN (lcS Q V hs) k (bgN t 216, bgN t 216))) := lcA_yes ((if_neg hk6).trans e)
            have ihh := ih2 hlt
            rw [show foN (lcA Q V hs k) (s + 1) (foN (lcS Q V hs) k (bgN t 216, bgN t 216)) = lcA Q V hs k s (foN (lcA Q V hs k) s (foN (lcS Q V hs) k (bgN t 216, bgN t 216))) from rfl, hy] at ihh
            exact ihh _
        · have hk6 : kA Q k = 6 := nI_small 6 (by omega) (by decide) c32
          refine x_aload_n h dX12_layComes_35 rfl ?_
          refine x_aload_n h dX12_layComes_36 rfl ?_
          refine x_getR h hF.1 f_X12_99 rfl (md_has hF).1 dX12_layComes_37 ?_
          refine x_aload_n h dX12_layComes_40 rfl ?_
          refine x_getR h hF.1 f_X12_25 rfl (md_number hF).1 dX12_layComes_41 ?_
          refine x_iload_n h dX12_layComes_44 rfl ?_
          refine x_ialdv h k (md_number hF).2 (ix.ni (j := k) (by omega) (by decide)) q5 dX12_layComes_45 ?_
          refine x_ialdv h (mA Q k) (md_has hF).2 (ix.ni (o7 hk6) (by decide)) (hH _ (o7 hk6)).1 dX12_layComes_46 ?_
          refine x_iload_n h dX12_layComes_47 rfl ?_
          refine x_cVi h ci_X12_areGuessed im_X12_areGuessed l_X12_266 ⟨Nat.le_of_ble_eq_true rfl, Nat.le_of_ble_eq_true rfl⟩ ⟨rfl, rfl⟩ ⟨Nat.zero_le _, Nat.zero_le _⟩ (c_X12_areGuessed (M := wCF M m _ _) hF hV (hH _ (o7 hk6)).2 hlt) rfl rfl rfl rfl hF.1 (by decide) rfl dX12_layComes_48 (fun v48 M48 hp48 => ?_)
          obtain ⟨rfl, hM⟩ := hp48
          obtain rfl := hM.symm
          clear hM
          refine x_goto h 60 dX12_layComes_51 (by decide) ?_
          refine x_istore h dX12_layComes_60 rfl rfl ?_
          dsimp only [List.set]
          refine x_iload h dX12_layComes_62 rfl ?_
          refine x_if_eq h 74 dX12_layComes_64 (by decide) (fun c64 => ?_) (fun c64 => ?_)
          · have e := b2i_0.mp c64
            refine x_incn h dX12_layComes_74 rfl rfl rfl ?_
            dsimp only [List.set]
            refine x_goto h 17 dX12_layComes_77 (by decide) ?_
            have hy : lcA Q V hs k s (foN (lcA Q V hs k) s (foN (lcS Q V hs) k (bgN t 216, bgN t 216))) = foN (lcA Q V hs k) s (foN (lcS Q V hs) k (bgN t 216, bgN t 216)) := lcA_no ((if_pos hk6).trans e)
            have ihh := ih2 hlt
            rw [show foN (lcA Q V hs k) (s + 1) (foN (lcS Q V hs) k (bgN t 216, bgN t 216)) = lcA Q V hs k s (foN (lcA Q V hs k) s (foN (lcS Q V hs) k (bgN t 216, bgN t 216))) from rfl, hy] at ihh
            exact ihh _
          · have e := bool_nf (fun q => c64 (b2i_0.mpr q))
            refine x_aload_n h dX12_layComes_67 rfl ?_
            refine x_iload_n h dX12_layComes_68 rfl ?_
            refine x_iload_n h dX12_layComes_69 rfl ?_
            refine x_cVi h ci_X12_goOn im_X12_goOn l_X12_269 ⟨Nat.le_of_ble_eq_true rfl, Nat.le_of_ble_eq_true rfl⟩ ⟨rfl, rfl⟩ ⟨Nat.zero_le _, Nat.zero_le _⟩ (c_X12_goOn hF hP0 hO hkl hlt) rfl rfl rfl rfl hF.1 (by decide) rfl dX12_layComes_70 (fun v70 M70 hp70 => ?_)
            subst hp70
            refine x_pop h rfl dX12_layComes_73 ?_
            refine x_incn h dX12_layComes_74 rfl rfl rfl ?_
            dsimp only [List.set]
            refine x_goto h 17 dX12_layComes_77 (by decide) ?_
            have hy : lcA Q V hs k s (foN (lcA Q V hs k) s (foN (lcS Q V hs) k (bgN t 216, bgN t 216))) = goP Q k s (foN (lcA Q V hs k) s (foN (lcS Q V hs) k (bgN t 216, bgN t 216))) := lcA_yes ((if_pos hk6).trans e)
            have ihh := ih2 hlt
            rw [show foN (lcA Q V hs k) (s + 1) (foN (lcS Q V hs) k (bgN t 216, bgN t 216)) = lcA Q V hs k s (foN (lcA Q V hs k) s (foN (lcS Q V hs) k (bgN t 216, bgN t 216))) from rfl, hy] at ihh
            exact ihh _
    refine x_iload_n h dX12_layComes_7 rfl ?_
    refine x_aload_n h dX12_layComes_8 rfl ?_
    refine x_getIv h hF.1 f_X12_205 rfl qn dX12_layComes_9 ?_
    refine x_icmp_ge h 86 dX12_layComes_12 (by decide) (fun c12 => ?_) (fun c12 => ?_)
    · obtain rfl : k = nA Q := by
        have := (nI_le_iff (by omega) (by omega)).mp c12
        omega
      exact x_vret h hQ rfl dX12_layComes_86 ⟨rfl, rfl, rfl, rfl⟩
    · have hkl : k < nA Q := by
        have := mt (nI_le_iff (a := nA Q) (b := k) (by omega) (by omega)).mpr c12
        omega
      refine x_in0 h dX12_layComes_15 ?_
      refine x_istore_n h dX12_layComes_16 rfl rfl ?_
      dsimp only [List.set]
      exact inner hkl 0 (Nat.zero_le _) _
  refine x_aload_n h dX12_layComes_0 rfl ?_
  refine x_aload_n h dX12_layComes_1 rfl ?_
  refine x_cVv h ci_X12_beginAt im_X12_beginAt l_X12_262 ⟨Nat.le_of_ble_eq_true rfl, Nat.le_of_ble_eq_true rfl⟩ ⟨rfl, rfl⟩ ⟨Nat.zero_le _, Nat.zero_le _⟩ (c_X12_beginAt hF gra ht) rfl rfl rfl rfl hF.1 (by decide) rfl dX12_layComes_2 (fun M2 hp2 => ?_)
  subst hp2
  refine x_in0 h dX12_layComes_5 ?_
  refine x_istore_n h dX12_layComes_6 rfl rfl ?_
  dsimp only [List.set]
  exact loop 0 (Nat.zero_le _) _ _
def soA (V : GC) (C : NS) (g k : Nat) : Bool := allN (fun s => !C k s || cndT (V.2 g) s) 216
theorem c_X12_isSoInAll {Γ : GT} {G : GG} {M : MM} {m : Nat} (hF : mdF G M.2.2 m) {V : GC} (hV : mgW M m V) {C F : NS} {gi k : Nat} (hg : gi < V.1) (hk : k < 62) : Calls Γ q_X12_isSoInAll [.ref m, .int (nI gi), .int (nI k)] G (wCF M m C F) (rI (fun y M' => y = b2i (soA V C gi k) ∧ M' = wCF M m C F)) := by
  refine Calls.intro (by decide +kernel) (Nat.le_of_ble_eq_true rfl) (fun z E h hQ => ?_)
  refine x_loc (L' := [some (.ref m), some (.int (nI gi)), some (.int (nI k)), none, none]) rfl ?_
  have loop : ∀ i, i ≤ 216 → X Γ E 0 0 G z (wCF M m C F) 5 [some (.ref m), some (.int (nI gi)), some (.int (nI k)), some (.int (b2i (allN (fun s => !C k s || cndT (V.2 gi) s) i))), some (.int (nI i))] [] := by
    refine upto 216 (fun i hi ih => ?_)
    refine x_iload h dX12_isSoInAll_5 rfl ?_
    refine x_sipush h (nI 216) (by decide) dX12_isSoInAll_7 ?_
    refine x_icmp_ge h 49 dX12_isSoInAll_10 (by decide) (fun c10 => ?_) (fun c10 => ?_)
    · obtain rfl : i = 216 := up_ge (by decide) hi c10
      refine x_iload_n h dX12_isSoInAll_49 rfl ?_
      exact x_zret h hQ rfl (b2i_01 _) dX12_isSoInAll_50 ⟨rfl, rfl, _, rfl, rfl, rfl⟩
    · have hlt : i < 216 := up_lt (by decide) hi c10
      refine x_iload_n h dX12_isSoInAll_13 rfl ?_
      refine x_if_eq h 41 dX12_isSoInAll_14 (by decide) (fun c14 => ?_) (fun c14 => ?_)
      · have e0 := b2i_0.mp c14
        refine x_ic0 h dX12_isSoInAll_41 ?_
        refine x_topi (y := b2i (allN (fun s => !C k s || cndT (V.2 gi) s) (i + 1))) (b2i_f (by simp [allN, e0])) ?_
        refine x_istore_n h dX12_isSoInAll_42 rfl rfl ?_
        dsimp only [List.set]
        refine x_incn h dX12_isSoInAll_43 rfl rfl rfl ?_
        dsimp only [List.set]
        refine x_goto h 5 dX12_isSoInAll_46 (by decide) ?_
        exact ih hlt
      · have e0 := bool_nf (fun q => c14 (b2i_0.mpr q))
        refine x_aload_n h dX12_isSoInAll_17 rfl ?_
        refine x_iload_n h dX12_isSoInAll_18 rfl ?_
        refine x_iload h dX12_isSoInAll_19 rfl ?_
        refine x_cVi h ci_X12_isThere im_X12_isThere l_X12_246 ⟨Nat.le_of_ble_eq_true rfl, Nat.le_of_ble_eq_true rfl⟩ ⟨rfl, rfl⟩ ⟨Nat.zero_le _, Nat.zero_le _⟩ (c_X12_isThere hF hk hlt) rfl rfl rfl rfl hF.1 (by decide) rfl dX12_isSoInAll_21 (fun v21 M21 hp21 => ?_)
        obtain ⟨rfl, hM⟩ := hp21
        obtain rfl := hM.symm
        clear hM
        refine x_if_eq h 37 dX12_isSoInAll_24 (by decide) (fun c24 => ?_) (fun c24 => ?_)
        · have e1 := b2i_0.mp c24
          refine x_ic1 h dX12_isSoInAll_37 ?_
          refine x_goto h 42 dX12_isSoInAll_38 (by decide) ?_
          refine x_topi (y := b2i (allN (fun s => !C k s || cndT (V.2 gi) s) (i + 1))) (b2i_t (by simp [allN, e0, e1])) ?_
          refine x_istore_n h dX12_isSoInAll_42 rfl rfl ?_
          dsimp only [List.set]
          refine x_incn h dX12_isSoInAll_43 rfl rfl rfl ?_
          dsimp only [List.set]
          refine x_goto h 5 dX12_isSoInAll_46 (by decide) ?_
          exact ih hlt
        · have e1 := bool_nf (fun q => c24 (b2i_0.mpr q))
          refine x_aload_n h dX12_isSoInAll_27 rfl ?_
          refine x_iload_n h dX12_isSoInAll_28 rfl ?_
          refine x_iload h dX12_isSoInAll_29 rfl ?_
          refine x_cVi h ci_X12_isGuessed im_X12_isGuessed l_X12_239 ⟨Nat.le_of_ble_eq_true rfl, Nat.le_of_ble_eq_true rfl⟩ ⟨rfl, rfl⟩ ⟨Nat.zero_le _, Nat.zero_le _⟩ (c_X12_isGuessed (M := wCF M m _ _) hF hV hg hlt) rfl rfl rfl rfl hF.1 (by decide) rfl dX12_isSoInAll_31 (fun v31 M31 hp31 => ?_)
          obtain ⟨rfl, hM⟩ := hp31
          obtain rfl := hM.symm
          clear hM
          refine x_if_eq h 41 dX12_isSoInAll_34 (by decide) (fun c34 => ?_) (fun c34 => ?_)
          · have e2 := b2i_0.mp c34
            refine x_ic0 h dX12_isSoInAll_41 ?_
            refine x_topi (y := b2i (allN (fun s => !C k s || cndT (V.2 gi) s) (i + 1))) (b2i_f (by simp [allN, e0, e1, e2])) ?_
            refine x_istore_n h dX12_isSoInAll_42 rfl rfl ?_
            dsimp only [List.set]
            refine x_incn h dX12_isSoInAll_43 rfl rfl rfl ?_
            dsimp only [List.set]
            refine x_goto h 5 dX12_isSoInAll_46 (by decide) ?_
            exact ih hlt
          · have e2 := bool_nf (fun q => c34 (b2i_0.mpr q))
            refine x_ic1 h dX12_isSoInAll_37 ?_
            refine x_goto h 42 dX12_isSoInAll_38 (by decide) ?_
            refine x_topi (y := b2i (allN (fun s => !C k s || cndT (V.2 gi) s) (i + 1))) (b2i_t (by simp [allN, e0, e1, e2])) ?_
            refine x_istore_n h dX12_isSoInAll_42 rfl rfl ?_
            dsimp only [List.set]
            refine x_incn h dX12_isSoInAll_43 rfl rfl rfl ?_
            dsimp only [List.set]
            refine x_goto h 5 dX12_isSoInAll_46 (by decide) ?_
            exact ih hlt
  refine x_ic1 h dX12_isSoInAll_0 ?_
  refine x_istore_n h dX12_isSoInAll_1 rfl rfl ?_
  dsimp only [List.set]
  refine x_in0 h dX12_isSoInAll_2 ?_
  refine x_istore h dX12_isSoInAll_3 rfl rfl ?_
  dsimp only [List.set]
  exact loop 0 (Nat.zero_le _)
