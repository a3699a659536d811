/-! ===== the reference: runs ===== -/
def okR (Q : AP) : Prop := ∀ k, k < nA Q → (kA Q k = 7 → lA Q k < nA Q ∧ kA Q (lA Q k) = 6) ∧ (kA Q k = 9 → k < lA Q k)
def psi (Q : AP) (nd : Nat) : Nat := if nA Q ≤ nd then 0 else if isStm (kA Q nd) then 0 else if kA Q nd = 7 then 1 else nA Q - nd
def need (Q : AP) (nd dn : Nat) : Nat := 61 * (60 - dn) + psi Q nd + 1
theorem psi_le (Q : AP) (nd : Nat) : psi Q nd ≤ nA Q - nd := by
  unfold psi
  split
  · omega
  · split
    · omega
    · split <;> omega
def inM (t : Nat → Nat) (x : Int64) : Nat → Int64 × Nat
  | 0 => (x, 0)
  | v + 1 => if t v = 6 then (lcg (inM t x v).1, wth (inM t x v).2 v (drN (inM t x v).1 6)) else ((inM t x v).1, wth (inM t x v).2 v (t v))
theorem inM_lt {t : Nat → Nat} (x : Int64) (h : ∀ v, v < 3 → t v ≤ 6) : ∀ v, v ≤ 3 → (inM t x v).2 < 216
  | 0, _ => by show 0 < 216; decide
  | v + 1, hv => by
    have ih := inM_lt x h v (by omega)
    unfold inM
    split
    · exact wth_lt ih (drN_lt _ (by decide))
    · rename_i e
      exact wth_lt ih (by have := h v (by omega); omega)
/-- a run, of so many moves at most: how it ends, and the seed -/
def rmF (Q : AP) : Nat → Nat → Nat → Int64 → Nat → Nat × Int64
  | 0, _, _, x, _ => (0, x)
  | f + 1, nd, dn, x, s => if nA Q ≤ nd then (0, x) else if 60 < dn + (if isStm (kA Q nd) then 1 else 0) then (3, x) else
    if (stM Q nd s x).1 = none then rmF Q f (stM Q nd s x).2.2.2 (dn + (if isStm (kA Q nd) then 1 else 0)) (stM Q nd s x).2.1 (stM Q nd s x).2.2.1 else ((stM Q nd s x).1.getD 0, (stM Q nd s x).2.1)
theorem need_step {Q : AP} (hR : okR Q) (hO : okM Q) (h60 : nA Q ≤ 60) {nd dn s : Nat} {x : Int64} (hn : nd < nA Q) (hd : dn + (if isStm (kA Q nd) then 1 else 0) ≤ 60) : need Q (stM Q nd s x).2.2.2 (dn + (if isStm (kA Q nd) then 1 else 0)) + 1 ≤ need Q nd dn := by
  obtain ⟨o1, o2, o3, o4, o5, o6, o7⟩ := hO nd hn
  obtain ⟨r1, r2⟩ := hR nd hn
  have hp := psi_le Q (stM Q nd s x).2.2.2
  unfold need
  by_cases hs : isStm (kA Q nd) = true
  · rw [if_pos hs] at hd ⊢
    omega
  · rw [if_neg hs] at hd ⊢
    have hk : kA Q nd = 7 ∨ kA Q nd = 9 ∨ kA Q nd = 10 := by
      unfold isStm at hs
      simp at hs
      omega
    have e0 : psi Q nd = if kA Q nd = 7 then 1 else nA Q - nd := by
      unfold psi
      rw [if_neg (by omega), if_neg hs]
    rcases hk with q | q | q
    · have e1 : (stM Q nd s x).2.2.2 = lA Q nd := by simp only [stM, q]; rfl
      obtain ⟨a, b⟩ := r1 q
      have e2 : psi Q (lA Q nd) = 0 := by
        unfold psi
        rw [if_neg (by omega), if_pos (by rw [b]; rfl)]
      rw [e1, e2, e0, if_pos q]
      omega
    · have e1 : (stM Q nd s x).2.2.2 = lA Q nd := by simp only [stM, q]; rfl
      have a := r2 q
      rw [e1] at hp ⊢
      rw [e0, if_neg (by omega)]
      omega
    · have e1 : (stM Q nd s x).2.2.2 = nd + 1 := by simp only [stM, q]; rfl
      rw [e1] at hp ⊢
      rw [e0, if_neg (by omega)]
      omega
theorem stM_lt {Q : AP} (hO : okM Q) {nd s : Nat} {x : Int64} (hn : nd < nA Q) (hs : s < 216) : (stM Q nd s x).2.2.1 < 216 ∧ (stM Q nd s x).2.2.2 ≤ nA Q ∧ (∀ e, (stM Q nd s x).1 = some e → e = 1 ∨ e = 2) := by
  obtain ⟨o1, o2, o3, o4, o5, o6, o7⟩ := hO nd hn
  unfold stM
  split
  · exact ⟨dn_lt hO hn hs (by decide), hn, fun e q => by cases q⟩
  split
  · exact ⟨dn_lt hO hn hs (drN_lt _ (by decide)), hn, fun e q => by cases q⟩
  split
  · refine ⟨hs, hn, fun e q => ?_⟩
    have q' : (if cndT (cA Q nd) s then none else some 2) = some e := q
    split at q'
    · cases q'
    · cases q'; exact Or.inr rfl
  split
  · refine ⟨hs, hn, fun e q => ?_⟩
    have q' : (if cndT (cA Q nd) s then none else some 1) = some e := q
    split at q'
    · cases q'
    · cases q'; exact Or.inl rfl
  split
  · have := o5 (by omega) (by omega)
    refine ⟨hs, ?_, fun e q => by cases q⟩
    show (if cndT (cA Q nd) s then nd + 1 else lA Q nd) ≤ nA Q
    split <;> omega
  split
  · have := o5 (by omega) (by omega)
    refine ⟨hs, ?_, fun e q => by cases q⟩
    show (if drN x 2 = 0 then nd + 1 else lA Q nd) ≤ nA Q
    split <;> omega
  split
  · exact ⟨hs, hn, fun e q => by cases q⟩
  · have := o5 (by omega) (by omega)
    exact ⟨hs, this, fun e q => by cases q⟩
theorem rn_rn (M : MM) (m : Nat) (x : Int64) (s nd : Nat) (x' : Int64) (s' nd' : Nat) : rnM (rnM M m x s nd) m x' s' nd' = rnM M m x' s' nd' := by
  refine Prod.ext ?_ (Prod.ext ?_ rfl)
  · funext b j
    show (if b = m ∧ j = 49 then _ else if b = m ∧ j = 50 then _ else if b = m ∧ j = 49 then _ else if b = m ∧ j = 50 then _ else M.1 b j) = (if b = m ∧ j = 49 then _ else if b = m ∧ j = 50 then _ else M.1 b j)
    by_cases q : b = m ∧ j = 49
    · rw [if_pos q, if_pos q]
    · rw [if_neg q, if_neg q, if_neg q]
      by_cases q2 : b = m ∧ j = 50
      · rw [if_pos q2, if_pos q2]
      · rw [if_neg q2, if_neg q2, if_neg q2]
  · funext b j
    show (if b = m ∧ j = 43 then _ else if b = m ∧ j = 43 then _ else M.2.1 b j) = (if b = m ∧ j = 43 then _ else M.2.1 b j)
    by_cases q : b = m ∧ j = 43
    · rw [if_pos q, if_pos q]
    · rw [if_neg q, if_neg q, if_neg q]
def rnF (Q : AP) (t : Nat → Nat) (x : Int64) : Nat × Int64 := rmF Q 3721 0 0 (inM t x 3).1 (inM t x 3).2
theorem c_X12_run {Γ : GT} {G : GG} {M : MM} {m : Nat} (hF : mdF G M.2.2 m) {Q : AP} (hP : mpW M m Q) (hO : okM Q) (hR : okR Q) {t : Nat → Nat} (ht : rowI M (m + 21) t) {x : Int64} (hx : M.2.1 m 43 = x) : Calls Γ q_X12_run [.ref m] G M (rI (fun y M' => y = nI (rnF Q t x).1 ∧ ∃ s nd, M' = rnM M m (rnF Q t x).2 s nd)) := by
  have hP0 := hP
  obtain ⟨q60, qn, qk⟩ := hP
  have ht6 : ∀ v, v < 3 → t v ≤ 6 := fun v hv => (ht v hv).2
  refine Calls.intro (by decide +kernel) (Nat.le_of_ble_eq_true rfl) (fun z E h hQ => ?_)
  refine x_loc (L' := [some (.ref m), none, none]) rfl ?_
  have loop : ∀ f nd dn xx s, need Q nd dn ≤ f → nd ≤ nA Q → dn ≤ 60 → s < 216 → (rnF Q t x) = rmF Q f nd dn xx s → X Γ E 0 0 G z (rnM M m xx s nd) 66 [some (.ref m), some (.int (nI dn)), some (.int (-9))] [] := by
    intro f
    induction f with
    | zero => intro nd dn xx s hf; unfold need at hf; omega
    | succ f ih =>
    intro nd dn xx s hf hnd hdn hs hres
    have fin : ∀ e N d, 0 < e → e < 100 → (rnF Q t x).1 = e → (∃ s nd, N = rnM M m (rnF Q t x).2 s nd) → X Γ E 0 0 G z N 66 [some (.ref m), some (.int d), some (.int (nI e))] [] := by
      intro e N d e0 e1 he hN
      refine x_iload_n h dX12_run_66 rfl ?_
      refine x_bipush h (-9) (by decide) dX12_run_67 ?_
      refine x_icmp_ne h 124 dX12_run_69 (by decide) (fun c69 => ?_) (fun c69 => ?_)
      · refine x_iload_n h dX12_run_124 rfl ?_
        refine x_bipush h (-9) (by decide) dX12_run_125 ?_
        refine x_icmp_ne h 134 dX12_run_127 (by decide) (fun c127 => ?_) (fun c127 => ?_)
        · refine x_iload_n h dX12_run_134 rfl ?_
          exact x_iret h hQ rfl dX12_run_135 ⟨rfl, rfl, _, rfl, by rw [he], hN⟩
        · exact absurd c127 (fun q => absurd (show nI e = (-9 : Int32) from q) (by
            intro q2
            have := congrArg Int32.toInt q2
            rw [nI_toInt (by omega)] at this
            have e9 : (-9 : Int32).toInt = -9 := by decide
            rw [e9] at this
            omega))
      · exact absurd c69 (fun q => absurd (show nI e = (-9 : Int32) from q) (by
          intro q2
          have := congrArg Int32.toInt q2
          rw [nI_toInt (by omega)] at this
          have e9 : (-9 : Int32).toInt = -9 := by decide
          rw [e9] at this
          omega))
    refine x_iload_n h dX12_run_66 rfl ?_
    refine x_bipush h (-9) (by decide) dX12_run_67 ?_
    refine x_icmp_ne h 124 dX12_run_69 (by decide) (fun c69 => ?_) (fun c69 => ?_)
    · exact absurd rfl c69
    · refine x_aload_n h dX12_run_72 rfl ?_
      refine x_getIv h hF.1 f_X12_395 rfl (rn_In M m _ _ _) dX12_run_73 ?_
      refine x_aload_n h dX12_run_76 rfl ?_
      refine x_getIv h hF.1 f_X12_205 rfl ((rn_I (by omega)).trans qn) dX12_run_77 ?_
      refine x_icmp_ge h 124 dX12_run_80 (by decide) (fun c80 => ?_) (fun c80 => ?_)
      · have e0 : nA Q ≤ nd := (nI_le_iff (by omega) (by omega)).mp c80
        refine x_iload_n h dX12_run_124 rfl ?_
        refine x_bipush h (-9) (by decide) dX12_run_125 ?_
        refine x_icmp_ne h 134 dX12_run_127 (by decide) (fun c127 => ?_) (fun c127 => ?_)
        · exact absurd rfl c127
        · refine x_in0 h dX12_run_130 ?_
          refine x_goto h 135 dX12_run_131 (by decide) ?_
          exact x_iret h hQ rfl dX12_run_135 ⟨rfl, rfl, _, rfl, by rw [hres, rmF, if_pos e0], s, nd, by rw [hres, rmF, if_pos e0]⟩
      · have hnl : nd < nA Q := by
          have := mt (nI_le_iff (a := nA Q) (b := nd) (by omega) (by omega)).mpr c80
          omega
        have hkl : kA Q nd ≤ 10 := (hO nd hnl).1
        refine x_iload_n h dX12_run_83 rfl ?_
        refine x_aload_n h dX12_run_84 rfl ?_
        refine x_getR h hF.1 f_X12_13 rfl (md_kind hF).1 dX12_run_85 ?_
        refine x_aload_n h dX12_run_88 rfl ?_
        refine x_getIv h hF.1 f_X12_395 rfl (rn_In M m _ _ _) dX12_run_89 ?_
        refine x_ialdv h nd (md_kind hF).2 (ix.ni (j := nd) (by omega) (by decide)) ((rn_I (by omega)).trans (qk nd hnl).1) dX12_run_92 ?_
        refine x_cSi h ci_X12_isStatement sm_X12_isStatement l_X12_220 ⟨Nat.le_of_ble_eq_true rfl, Nat.le_of_ble_eq_true rfl⟩ ⟨rfl, rfl⟩ ⟨Nat.zero_le _, Nat.zero_le _⟩ (c_X12_isStatement (by omega)) rfl rfl rfl rfl dX12_run_93 (fun v93 M93 hp93 => ?_)
        obtain ⟨rfl, hM⟩ := hp93
        obtain rfl := hM.symm
        clear hM
        refine x_if_eq h 103 dX12_run_96 (by decide) (fun c96 => ?_) (fun c96 => ?_)
        · have hst := b2i_0.mp c96
          refine x_in0 h dX12_run_103 ?_
          refine x_iaddn h  dX12_run_104 ?_
          refine x_topi (y := nI (dn + (if isStm (kA Q nd) then 1 else 0))) (by rw [hst]; rfl) ?_
          refine x_istore_n h dX12_run_105 rfl rfl ?_
          dsimp only [List.set]
          refine x_iload_n h dX12_run_106 rfl ?_
          refine x_bipush h (nI 60) (by decide) dX12_run_107 ?_
          refine x_icmp_le h 116 dX12_run_109 (by decide) (fun c109 => ?_) (fun c109 => ?_)
          · have e60 : dn + (if isStm (kA Q nd) then 1 else 0) ≤ 60 := (nI_le_iff (by rw [hst]; simp; omega) (by decide)).mp c109
            refine x_aload_n h dX12_run_116 rfl ?_
            refine x_cVi h ci_X12_step im_X12_step l_X12_404 ⟨Nat.le_of_ble_eq_true rfl, Nat.le_of_ble_eq_true rfl⟩ ⟨rfl, rfl⟩ ⟨Nat.zero_le _, Nat.zero_le _⟩ (c_X12_step hF hP0 hO hnl hs) rfl rfl rfl rfl hF.1 (by decide) rfl dX12_run_117 (fun v117 M117 hp117 => ?_)
            have hv := hp117.1
            have hM := hp117.2
            clear hp117
            rw [hv]
            clear hv v117
            subst hM
            refine x_istore_n h dX12_run_120 rfl rfl ?_
            dsimp only [List.set]
            refine x_goto h 66 dX12_run_121 (by decide) ?_
            have hlt := stM_lt (x := xx) hO hnl hs
            cases hst2 : (stM Q nd s xx).1 with
            | none =>
              refine ih _ _ _ _ (by have := need_step hR hO q60 (s := s) (x := xx) hnl e60; omega) hlt.2.1 e60 hlt.1 ?_
              rw [hres, rmF, if_neg (by omega), if_neg (by omega), if_pos hst2]
            | some e =>
              have he := hlt.2.2 e hst2
              refine fin e _ _ (by omega) (by omega) ?_ ⟨(stM Q nd s xx).2.2.1, (stM Q nd s xx).2.2.2, ?_⟩
              · rw [hres, rmF, if_neg (by omega), if_neg (by omega), if_neg (by rw [hst2]; exact fun q => by cases q), hst2]; rfl
              · rw [hres, rmF, if_neg (by omega), if_neg (by omega), if_neg (by rw [hst2]; exact fun q => by cases q)]
          · have e60 : 60 < dn + (if isStm (kA Q nd) then 1 else 0) := by
              have := mt (nI_le_iff (a := dn + (if isStm (kA Q nd) then 1 else 0)) (b := 60) (by rw [hst]; simp; omega) (by decide)).mpr c109
              omega
            refine x_in3 h dX12_run_112 ?_
            refine x_goto h 120 dX12_run_113 (by decide) ?_
            refine x_istore_n h dX12_run_120 rfl rfl ?_
            dsimp only [List.set]
            refine x_goto h 66 dX12_run_121 (by decide) ?_
            refine fin 3 _ _ (by decide) (by decide) ?_ ⟨s, nd, ?_⟩
            · rw [hres, rmF, if_neg (by omega), if_pos e60]
            · rw [hres, rmF, if_neg (by omega), if_pos e60]
        · have hst := bool_nf (fun q => c96 (b2i_0.mpr q))
          refine x_in1 h dX12_run_99 ?_
          refine x_goto h 104 dX12_run_100 (by decide) ?_
          refine x_iaddn h  dX12_run_104 ?_
          refine x_topi (y := nI (dn + (if isStm (kA Q nd) then 1 else 0))) (by rw [hst]; rfl) ?_
          refine x_istore_n h dX12_run_105 rfl rfl ?_
          dsimp only [List.set]
          refine x_iload_n h dX12_run_106 rfl ?_
          refine x_bipush h (nI 60) (by decide) dX12_run_107 ?_
          refine x_icmp_le h 116 dX12_run_109 (by decide) (fun c109 => ?_) (fun c109 => ?_)
          · have e60 : dn + (if isStm (kA Q nd) then 1 else 0) ≤ 60 := (nI_le_iff (by rw [hst]; simp; omega) (by decide)).mp c109
            refine x_aload_n h dX12_run_116 rfl ?_
            refine x_cVi h ci_X12_step im_X12_step l_X12_404 ⟨Nat.le_of_ble_eq_true rfl, Nat.le_of_ble_eq_true rfl⟩ ⟨rfl, rfl⟩ ⟨Nat.zero_le _, Nat.zero_le _⟩ (c_X12_step hF hP0 hO hnl hs) rfl rfl rfl rfl hF.1 (by decide) rfl dX12_run_117 (fun v117 M117 hp117 => ?_)
            have hv := hp117.1
            have hM := hp117.2
            clear hp117
            rw [hv]
            clear hv v117
            subst hM
            refine x_istore_n h dX12_run_120 rfl rfl ?_
            dsimp only [List.set]
            refine x_goto h 66 dX12_run_121 (by decide) ?_
            have hlt := stM_lt (x := xx) hO hnl hs
            cases hst2 : (stM Q nd s xx).1 with
            | none =>
              refine ih _ _ _ _ (by have := need_step hR hO q60 (s := s) (x := xx) hnl e60; omega) hlt.2.1 e60 hlt.1 ?_
              rw [hres, rmF, if_neg (by omega), if_neg (by omega), if_pos hst2]
            | some e =>
              have he := hlt.2.2 e hst2
              refine fin e _ _ (by omega) (by omega) ?_ ⟨(stM Q nd s xx).2.2.1, (stM Q nd s xx).2.2.2, ?_⟩
              · rw [hres, rmF, if_neg (by omega), if_neg (by omega), if_neg (by rw [hst2]; exact fun q => by cases q), hst2]; rfl
              · rw [hres, rmF, if_neg (by omega), if_neg (by omega), if_neg (by rw [hst2]; exact fun q => by cases q)]
          · have e60 : 60 < dn + (if isStm (kA Q nd) then 1 else 0) := by
              have := mt (nI_le_iff (a := dn + (if isStm (kA Q nd) then 1 else 0)) (b := 60) (by rw [hst]; simp; omega) (by decide)).mpr c109
              omega
            refine x_in3 h dX12_run_112 ?_
            refine x_goto h 120 dX12_run_113 (by decide) ?_
            refine x_istore_n h dX12_run_120 rfl rfl ?_
            dsimp only [List.set]
            refine x_goto h 66 dX12_run_121 (by decide) ?_
            refine fin 3 _ _ (by decide) (by decide) ?_ ⟨s, nd, ?_⟩
            · rw [hres, rmF, if_neg (by omega), if_pos e60]
            · rw [hres, rmF, if_neg (by omega), if_pos e60]
  have init : ∀ v, v ≤ 3 → X Γ E 0 0 G z (rnM M m (inM t x v).1 (inM t x v).2 0) 12 [some (.ref m), some (.int (nI v)), none] [] := by
    refine upto 3 (fun v hv ih => ?_)
    have hs := inM_lt x ht6 v hv
    refine x_iload_n h dX12_run_12 rfl ?_
    refine x_in3 h dX12_run_13 ?_
    refine x_icmp_ge h 61 dX12_run_14 (by decide) (fun c14 => ?_) (fun c14 => ?_)
    · obtain rfl : v = 3 := up_ge (by decide) hv c14
      refine x_in0 h dX12_run_61 ?_
      refine x_istore_n h dX12_run_62 rfl rfl ?_
      dsimp only [List.set]
      refine x_bipush h (-9) (by decide) dX12_run_63 ?_
      refine x_istore_n h dX12_run_65 rfl rfl ?_
      dsimp only [List.set]
      exact loop 3721 0 0 _ _ (by unfold need; have := psi_le Q 0; omega) (Nat.zero_le _) (by decide) hs rfl
    · have hlt : v < 3 := up_lt (by decide) hv c14
      have ht1 := ht6 v hlt
      refine x_aload_n h dX12_run_17 rfl ?_
      refine x_aload_n h dX12_run_18 rfl ?_
      refine x_getIv h hF.1 f_X12_398 rfl (rn_Is M m _ _ _) dX12_run_19 ?_
      refine x_iload_n h dX12_run_22 rfl ?_
      refine x_aload_n h dX12_run_23 rfl ?_
      refine x_getR h hF.1 f_X12_70 rfl (md_now hF).1 dX12_run_24 ?_
      refine x_iload_n h dX12_run_27 rfl ?_
      refine x_ialdv h v (md_now hF).2 (ix.ni (by omega) (by decide)) ((rn_I (by omega)).trans (ht v hlt).1) dX12_run_28 ?_
      refine x_bipush h (nI 6) (by decide) dX12_run_29 ?_
      refine x_icmp_ne h 43 dX12_run_31 (by decide) (fun c31 => ?_) (fun c31 => ?_)
      · have e6 : ¬ t v = 6 := fun q => c31 (by rw [q])
        refine x_aload_n h dX12_run_43 rfl ?_
        refine x_getR h hF.1 f_X12_70 rfl (md_now hF).1 dX12_run_44 ?_
        refine x_iload_n h dX12_run_47 rfl ?_
        refine x_ialdv h v (md_now hF).2 (ix.ni (by omega) (by decide)) ((rn_I (by omega)).trans (ht v hlt).1) dX12_run_48 ?_
        refine x_cSi h ci_X12_with sm_X12_with l_X12_242 ⟨Nat.le_of_ble_eq_true rfl, Nat.le_of_ble_eq_true rfl⟩ ⟨rfl, rfl⟩ ⟨Nat.zero_le _, Nat.zero_le _⟩ (c_X12_with hs hlt) rfl rfl rfl rfl dX12_run_49 (fun v49 M49 hp49 => ?_)
        obtain ⟨rfl, hM⟩ := hp49
        obtain rfl := hM.symm
        clear hM
        refine x_putI h hF.1 f_X12_398 rfl rfl dX12_run_52 ?_
        refine x_mem (rn_s M m _ _ _ _) ?_
        refine x_incn h dX12_run_55 rfl rfl rfl ?_
        dsimp only [List.set]
        refine x_goto h 12 dX12_run_58 (by decide) ?_
        have ihh := ih hlt
        rw [show inM t x (v + 1) = ((inM t x v).1, wth (inM t x v).2 v (t v)) from if_neg e6] at ihh
        exact ihh
      · have e6 : t v = 6 := nI_small 6 (by omega) (by decide) c31
        refine x_aload_n h dX12_run_34 rfl ?_
        refine x_bipush h (nI 6) (by decide) dX12_run_35 ?_
        refine x_cVi h ci_X12_draw im_X12_draw l_X12_401 ⟨Nat.le_of_ble_eq_true rfl, Nat.le_of_ble_eq_true rfl⟩ ⟨rfl, rfl⟩ ⟨Nat.zero_le _, Nat.zero_le _⟩ (c_X12_draw hF (k := 6) (by decide) (by decide)) rfl rfl rfl rfl hF.1 (by decide) rfl dX12_run_37 (fun v37 M37 hp37 => ?_)
        obtain ⟨rfl, hM⟩ := hp37
        subst hM
        refine x_goto h 49 dX12_run_40 (by decide) ?_
        refine x_cSi h ci_X12_with sm_X12_with l_X12_242 ⟨Nat.le_of_ble_eq_true rfl, Nat.le_of_ble_eq_true rfl⟩ ⟨rfl, rfl⟩ ⟨Nat.zero_le _, Nat.zero_le _⟩ (c_X12_with hs hlt) rfl rfl rfl rfl dX12_run_49 (fun v49 M49 hp49 => ?_)
        obtain ⟨rfl, hM⟩ := hp49
        obtain rfl := hM.symm
        clear hM
        refine x_putI h hF.1 f_X12_398 rfl rfl dX12_run_52 ?_
        refine x_mem (rn_s M m _ _ _ _) ?_
        refine x_incn h dX12_run_55 rfl rfl rfl ?_
        dsimp only [List.set]
        refine x_goto h 12 dX12_run_58 (by decide) ?_
        have ihh := ih hlt
        rw [show inM t x (v + 1) = (lcg (inM t x v).1, wth (inM t x v).2 v (drN (inM t x v).1 6)) from if_pos e6] at ihh
        exact ihh
  refine x_aload_n h dX12_run_0 rfl ?_
  refine x_in0 h dX12_run_1 ?_
  refine x_putI h hF.1 f_X12_398 rfl rfl dX12_run_2 ?_
  refine x_aload_n h dX12_run_5 rfl ?_
  refine x_in0 h dX12_run_6 ?_
  refine x_putI h hF.1 f_X12_395 rfl rfl dX12_run_7 ?_
  refine x_in0 h dX12_run_10 ?_
  refine x_istore_n h dX12_run_11 rfl rfl ?_
  dsimp only [List.set]
  refine x_mem (rn_0 M m) ?_
  rw [hx]
  exact init 0 (Nat.zero_le _)
def drS (Q : AP) (t : Nat → Nat) (x : Int64) : Nat → Nat × Int64
  | 0 => (0, x)
  | i + 1 => ((drS Q t x i).1 + (rnF Q t (drS Q t x i).2).1, (rnF Q t (drS Q t x i).2).2)
theorem rowI_rn {M : MM} {m a : Nat} {t : Nat → Nat} (h : rowI M a t) (hne : a ≠ m) (x : Int64) (s nd : Nat) : rowI (rnM M m x s nd) a t := fun i hi => ⟨(rn_I (Or.inl hne)).trans (h i hi).1, (h i hi).2⟩
theorem mInv_rn {M : MM} {m : Nat} {tx : Nat → Nat} {len : Nat} {pg : PGM} {su : SU} {hy : HY} {kp : KP} {ze : SE} {sd : Int64} (hI : mInv M m tx len pg su hy kp ze sd) (x : Int64) (s nd : Nat) : mInv (rnM M m x s nd) m tx len pg su hy kp ze x := by
  obtain ⟨iT, iP, iN, iD, iK, iS, iE, iC⟩ := hI
  exact ⟨mTx_cg iT (fun a j h => rn_I (by omega)), mPg_cg iP (fun a j h => rn_I (by omega)), mNw_cg iN (fun a j h => rn_I (by omega)), mDy_cg iD (fun a j h => rn_I (by omega)), mKp_cg iK (fun a j h => rn_I (by omega)), mSn_cg iS (fun a j h => rn_I (by omega)), rn_Lx M m x s nd, mCF_lg iC (fun a j q => if_neg (by omega))⟩
theorem off_rn (M : MM) (m : Nat) (x : Int64) (s nd : Nat) : offM m M (rnM M m x s nd) := ⟨rfl, fun b q => ⟨fun j => rn_I (by omega), fun j => if_neg (by omega)⟩⟩
theorem in_no1 {x : Int32} (h : ∀ n, n < 20 → x ≠ nI (n + 1)) : (decide (lN 1 ≤ x.toInt64) && decide (x.toInt64 ≤ lN 20)) = false := by
  cases hx : (decide (lN 1 ≤ x.toInt64) && decide (x.toInt64 ≤ lN 20)) with
  | false => rfl
  | true =>
    rw [Bool.and_eq_true, decide_eq_true_iff, decide_eq_true_iff, Int64.le_iff_toInt_le, Int64.le_iff_toInt_le, lN_toInt (by decide), lN_toInt (by decide), i32_l] at hx
    have e := i32_nat (x := x) (by omega)
    exact absurd (e.trans (by congr 1; omega)) (h (x.toInt.toNat - 1) (by omega))
theorem c_X12_drawn_0 {Γ : GT} {G : GG} {M : MM} {m : Nat} (hF : mdF G M.2.2 m) {tx : Nat → Nat} {len : Nat} {pg : PGM} {su : SU} {hy : HY} {kp : KP} {ze : SE} {sd : Int64} (hI : mInv M m tx len pg su hy kp ze sd) {x : Int32} (hx : ∀ n, n < 20 → x ≠ nI (n + 1)) : Calls Γ q_X12_drawn [.ref m, .int x] G M (rI (fun y M' => y = -2 ∧ mInv M' m (tx) (len) (pg) (su) (hy) (kp) (ze) (sd) ∧ offM m M M')) := by
  have hI0 := hI
  obtain ⟨iT, iP, iN, iD, iK, iS, iE, iC⟩ := hI
  refine Calls.intro (by decide +kernel) (Nat.le_of_ble_eq_true rfl) (fun z E h hQ => ?_)
  refine x_loc (L' := [some (.ref m), some (.int x), none, none]) rfl ?_
  refine x_iload_n h dX12_drawn_0 rfl ?_
  refine x_i2l h dX12_drawn_1 ?_
  refine x_lc1 h dX12_drawn_2 ?_
  refine x_ldc2 h kl_X12_407 dX12_drawn_3 ?_
  refine x_cSi h ci_X12_in sm_X12_in l_X12_114 ⟨Nat.le_of_ble_eq_true rfl, Nat.le_of_ble_eq_true rfl⟩ ⟨rfl, rfl⟩ ⟨Nat.zero_le _, Nat.zero_le _⟩ (c_X12_in (b := lN 1) (c := lN 20)) rfl rfl rfl rfl dX12_drawn_6 (fun v6 M6 hp6 => ?_)
  obtain ⟨rfl, hM⟩ := hp6
  obtain rfl := hM.symm
  clear hM
  refine x_if_ne h 15 dX12_drawn_9 (by decide) (fun c9 => ?_) (fun c9 => ?_)
  · exact absurd (b2i_0.mpr (in_no1 hx)) c9
  · refine x_bipush h (-2) (by decide) dX12_drawn_12 ?_
    exact x_iret h hQ rfl dX12_drawn_14 ⟨rfl, rfl, _, rfl, rfl, hI0, off_refl m M⟩
theorem c_X12_drawn_1 {Γ : GT} {G : GG} {M : MM} {m : Nat} (hF : mdF G M.2.2 m) {tx : Nat → Nat} {len : Nat} {pg : PGM} {su : SU} {hy : HY} {kp : KP} {ze : SE} {sd : Int64} (hI : mInv M m tx len pg su hy kp ze sd) (hR : okR pg.1) {n : Nat} (hn : n < 20) : Calls Γ q_X12_drawn [.ref m, .int (nI (n + 1))] G M (rI (fun y M' => y = nI (drS pg.1 su.1 sd (n + 1)).1 ∧ mInv M' m (tx) (len) (pg) (su) (hy) (kp) (ze) ((drS pg.1 su.1 sd (n + 1)).2) ∧ offM m M M')) := by
  have hI0 := hI
  obtain ⟨iT, iP, iN, iD, iK, iS, iE, iC⟩ := hI
  have ht : rowI M (m + 21) su.1 := fun v hv => ⟨by have := iN.1.1 v hv; rw [Nat.zero_add] at this; exact this, iN.2.1 v hv⟩
  refine Calls.intro (by decide +kernel) (Nat.le_of_ble_eq_true rfl) (fun z E h hQ => ?_)
  refine x_loc (L' := [some (.ref m), some (.int (nI (n + 1))), none, none]) rfl ?_
  have loop : ∀ i, i ≤ n + 1 → ∀ s nd, X Γ E 0 0 G z (rnM M m (drS pg.1 su.1 sd i).2 s nd) 19 [some (.ref m), some (.int (nI (n + 1))), some (.int (nI (drS pg.1 su.1 sd i).1)), some (.int (nI i))] [] := by
    refine upto (n + 1) (fun i hi ih s nd => ?_)
    refine x_iload_n h dX12_drawn_19 rfl ?_
    refine x_iload_n h dX12_drawn_20 rfl ?_
    refine x_icmp_ge h 37 dX12_drawn_21 (by decide) (fun c21 => ?_) (fun c21 => ?_)
    · obtain rfl : i = n + 1 := by
        have := (nI_le_iff (by omega) (by omega)).mp c21
        omega
      refine x_iload_n h dX12_drawn_37 rfl ?_
      exact x_iret h hQ rfl dX12_drawn_38 ⟨rfl, rfl, _, rfl, rfl, mInv_rn hI0 _ s nd, off_rn M m _ s nd⟩
    · have hlt : i < n + 1 := by
        have := mt (nI_le_iff (a := n + 1) (b := i) (by omega) (by omega)).mpr c21
        omega
      refine x_iload_n h dX12_drawn_24 rfl ?_
      refine x_aload_n h dX12_drawn_25 rfl ?_
      refine x_cVi h ci_X12_run im_X12_run l_X12_409 ⟨Nat.le_of_ble_eq_true rfl, Nat.le_of_ble_eq_true rfl⟩ ⟨rfl, rfl⟩ ⟨Nat.zero_le _, Nat.zero_le _⟩ (c_X12_run (M := rnM M m (drS pg.1 su.1 sd i).2 s nd) hF (mpW_rn iP.1 _ _ _) iP.2.1 hR (rowI_rn ht (by omega) _ _ _) (rn_Lx M m _ s nd)) rfl rfl rfl rfl hF.1 (by decide) rfl dX12_drawn_26 (fun v26 M26 hp26 => ?_)
      obtain ⟨rfl, s2, nd2, hM⟩ := hp26
      rw [rn_rn] at hM
      subst hM
      refine x_iaddn h  dX12_drawn_29 ?_
      refine x_istore_n h dX12_drawn_30 rfl rfl ?_
      dsimp only [List.set]
      refine x_incn h dX12_drawn_31 rfl rfl rfl ?_
      dsimp only [List.set]
      refine x_goto h 19 dX12_drawn_34 (by decide) ?_
      exact ih hlt s2 nd2
  have first : X Γ E 0 0 G z M 19 [some (.ref m), some (.int (nI (n + 1))), some (.int (nI 0)), some (.int (nI 0))] [] := by
    refine x_iload_n h dX12_drawn_19 rfl ?_
    refine x_iload_n h dX12_drawn_20 rfl ?_
    refine x_icmp_ge h 37 dX12_drawn_21 (by decide) (fun c21 => ?_) (fun c21 => ?_)
    · exact absurd ((nI_le_iff (a := n + 1) (b := 0) (by omega) (by decide)).mp c21) (by omega)
    · refine x_iload_n h dX12_drawn_24 rfl ?_
      refine x_aload_n h dX12_drawn_25 rfl ?_
      refine x_cVi h ci_X12_run im_X12_run l_X12_409 ⟨Nat.le_of_ble_eq_true rfl, Nat.le_of_ble_eq_true rfl⟩ ⟨rfl, rfl⟩ ⟨Nat.zero_le _, Nat.zero_le _⟩ (c_X12_run hF iP.1 iP.2.1 hR ht iE) rfl rfl rfl rfl hF.1 (by decide) rfl dX12_drawn_26 (fun v26 M26 hp26 => ?_)
      obtain ⟨rfl, s2, nd2, hM⟩ := hp26
      subst hM
      refine x_iaddn h  dX12_drawn_29 ?_
      refine x_istore_n h dX12_drawn_30 rfl rfl ?_
      dsimp only [List.set]
      refine x_incn h dX12_drawn_31 rfl rfl rfl ?_
      dsimp only [List.set]
      refine x_goto h 19 dX12_drawn_34 (by decide) ?_
      exact loop 1 (by omega) s2 nd2
  refine x_iload_n h dX12_drawn_0 rfl ?_
  refine x_i2l h dX12_drawn_1 ?_
  refine x_lc1 h dX12_drawn_2 ?_
  refine x_ldc2 h kl_X12_407 dX12_drawn_3 ?_
  refine x_cSi h ci_X12_in sm_X12_in l_X12_114 ⟨Nat.le_of_ble_eq_true rfl, Nat.le_of_ble_eq_true rfl⟩ ⟨rfl, rfl⟩ ⟨Nat.zero_le _, Nat.zero_le _⟩ (c_X12_in (b := lN 1) (c := lN 20)) rfl rfl rfl rfl dX12_drawn_6 (fun v6 M6 hp6 => ?_)
  obtain ⟨rfl, hM⟩ := hp6
  obtain rfl := hM.symm
  clear hM
  refine x_if_ne h 15 dX12_drawn_9 (by decide) (fun c9 => ?_) (fun c9 => ?_)
  · refine x_in0 h dX12_drawn_15 ?_
    refine x_istore_n h dX12_drawn_16 rfl rfl ?_
    dsimp only [List.set]
    refine x_in0 h dX12_drawn_17 ?_
    refine x_istore_n h dX12_drawn_18 rfl rfl ?_
    dsimp only [List.set]
    exact first
  · exact absurd (show (decide (lN 1 ≤ (nI (n + 1)).toInt64) && decide ((nI (n + 1)).toInt64 ≤ lN 20)) = true from by rw [in_nat (by omega) (by decide) (by decide)]; exact decide_eq_true (by omega)) (by rw [b2i_0.mp c9]; decide)
