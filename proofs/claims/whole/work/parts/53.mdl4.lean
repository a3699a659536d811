/-! ===== the reference: giving up guesses, checks ===== -/
theorem foN_inv {α : Type} {f : Nat → α → α} {P : α → Prop} (h : ∀ i x, P x → P (f i x)) : ∀ n x, P x → P (foN f n x)
  | 0, _, q => q
  | n + 1, x, q => h n _ (foN_inv h n x q)
def itN {α : Type} (f : α → α) : Nat → α → α
  | 0, x => x
  | r + 1, x => f (itN f r x)
theorem itN_fix {α : Type} {f : α → α} {x : α} {r : Nat} (h : f (itN f r x) = itN f r x) : ∀ k, itN f (r + k) x = itN f r x
  | 0 => rfl
  | k + 1 => by
    show f (itN f (r + k) x) = _
    rw [itN_fix h k, h]
/-- the memory with the guesses that the loops have -/
def hsM (M : MM) (m : Nat) (hs : Nat → Nat) : MM := wI M (m + 30) 3 (fun l => nI (hs l))
theorem hsM_ne {M : MM} {m : Nat} (hs : Nat → Nat) {b : Nat} (j : Nat) (h : b ≠ m + 30) : (hsM M m hs).1 b j = M.1 b j := wI_ne _ _ _ _ h
theorem mpW_hs {M : MM} {m : Nat} {Q : AP} (h : mpW M m Q) (hs : Nat → Nat) : mpW (hsM M m hs) m Q := by
  obtain ⟨a, b, c⟩ := h
  refine ⟨a, (hsM_ne hs 8 (by omega)).trans b, fun k hk => ?_⟩
  obtain ⟨c1, c2, c3, c4, c5, c6⟩ := c k hk
  exact ⟨(hsM_ne hs k (by omega)).trans c1, (hsM_ne hs k (by omega)).trans c2, (hsM_ne hs k (by omega)).trans c3, (hsM_ne hs k (by omega)).trans c4, (hsM_ne hs k (by omega)).trans c5, (hsM_ne hs k (by omega)).trans c6⟩
theorem mgW_hs {M : MM} {m : Nat} {V : GC} (h : mgW M m V) (hs : Nat → Nat) : mgW (hsM M m hs) m V := by
  obtain ⟨a, b, c⟩ := h
  refine ⟨a, (hsM_ne hs 12 (by omega)).trans b, fun k hk => ?_⟩
  obtain ⟨c1, c2, c3, c4⟩ := c k hk
  exact ⟨(hsM_ne hs k (by omega)).trans c1, (hsM_ne hs k (by omega)).trans c2, (hsM_ne hs k (by omega)).trans c3, c4⟩
theorem rowI_hs {M : MM} {m a : Nat} {t : Nat → Nat} (h : rowI M a t) (hs : Nat → Nat) (hne : a ≠ m + 30) : rowI (hsM M m hs) a t := fun i hi => ⟨(hsM_ne hs i hne).trans (h i hi).1, (h i hi).2⟩
theorem hsW_hs {M : MM} {m : Nat} {hs : Nat → Nat} (h : ∀ l, hs l < 32) : hsW (hsM M m hs) m hs := fun l hl => ⟨(wI_at _ _ _ _ _).trans (if_pos hl), h l⟩
theorem hsM_set {M : MM} {m : Nat} {hs : Nat → Nat} {l x : Nat} (hl : l < 3) (C F : NS) : sI (wCF (hsM M m hs) m C F) (m + 30) l (nI x) = wCF (hsM M m (upN hs l x)) m C F := by
  show wCF (sI (hsM M m hs) (m + 30) l (nI x)) m C F = _
  unfold hsM
  rw [wI_set hl]
  refine congrArg (fun N => wCF N m C F) (wI_congr _ _ _ (fun j hj => ?_))
  unfold updI upN
  by_cases e : j = l <;> simp [e]
def guA (Q : AP) (V : GC) (C : NS) (k gi : Nat) (y : (Nat → Nat) × Nat) : (Nat → Nat) × Nat := if (y.1 (mA Q k)).testBit gi && !soA V C gi k then (upN y.1 (mA Q k) (difG (y.1 (mA Q k)) (2 ^ gi)), y.2 + 1) else y
theorem guA_yes {Q : AP} {V : GC} {C : NS} {k gi : Nat} {y : (Nat → Nat) × Nat} (h1 : (y.1 (mA Q k)).testBit gi = true) (h2 : soA V C gi k = false) : guA Q V C k gi y = (upN y.1 (mA Q k) (difG (y.1 (mA Q k)) (2 ^ gi)), y.2 + 1) := if_pos (by rw [h1, h2]; rfl)
theorem guA_no1 {Q : AP} {V : GC} {C : NS} {k gi : Nat} {y : (Nat → Nat) × Nat} (h1 : (y.1 (mA Q k)).testBit gi = false) : guA Q V C k gi y = y := if_neg (by rw [h1]; simp)
theorem guA_no2 {Q : AP} {V : GC} {C : NS} {k gi : Nat} {y : (Nat → Nat) × Nat} (h2 : soA V C gi k = true) : guA Q V C k gi y = y := if_neg (by rw [h2]; simp)
def guS (Q : AP) (V : GC) (C : NS) (k : Nat) (y : (Nat → Nat) × Nat) : (Nat → Nat) × Nat := if kA Q k = 6 then foN (guA Q V C k) V.1 y else y
def guP (Q : AP) (V : GC) (C : NS) (hs : Nat → Nat) : (Nat → Nat) × Nat := foN (guS Q V C) (nA Q) (hs, 0)
theorem difG_lt {a : Nat} (w : Nat) (h : a < 32) : difG a w < 32 := Nat.lt_of_le_of_lt Nat.and_le_left h
theorem guA_inv {Q : AP} {V : GC} {C : NS} {k gi : Nat} {y : (Nat → Nat) × Nat} (h : ∀ l, y.1 l < 32) : ∀ l, (guA Q V C k gi y).1 l < 32 := by
  unfold guA
  split
  · intro l
    show upN _ _ _ l < 32
    unfold upN
    split
    · exact difG_lt _ (h _)
    · exact h l
  · exact h
theorem guS_inv {Q : AP} {V : GC} {C : NS} {k : Nat} {y : (Nat → Nat) × Nat} (h : ∀ l, y.1 l < 32) : ∀ l, (guS Q V C k y).1 l < 32 := by
  unfold guS
  split
  · exact foN_inv (P := fun (y : (Nat → Nat) × Nat) => ∀ l, y.1 l < 32) (fun _ _ q => guA_inv q) _ _ h
  · exact h
theorem guP_inv {Q : AP} {V : GC} {C : NS} {hs : Nat → Nat} (h : ∀ l, hs l < 32) : ∀ l, (guP Q V C hs).1 l < 32 := foN_inv (P := fun (y : (Nat → Nat) × Nat) => ∀ l, y.1 l < 32) (fun _ _ q => guS_inv q) _ _ h
theorem guP_0 {Q : AP} {V : GC} {C : NS} {hs : Nat → Nat} (h : (guP Q V C hs).2 = 0) : (guP Q V C hs).1 = hs := by
  refine foN_inv (P := fun (y : (Nat → Nat) × Nat) => y.2 = 0 → y.1 = hs) (fun k y q => ?_) (nA Q) (hs, 0) (fun _ => rfl) h
  unfold guS
  split
  · refine foN_inv (P := fun (y : (Nat → Nat) × Nat) => y.2 = 0 → y.1 = hs) (fun gi y q => ?_) _ _ q
    unfold guA
    split
    · intro e; exact absurd e (Nat.succ_ne_zero _)
    · exact q
  · exact q
theorem guA_le {Q : AP} {V : GC} {C : NS} {k gi : Nat} {y : (Nat → Nat) × Nat} : (guA Q V C k gi y).2 ≤ y.2 + 1 := by
  unfold guA
  split
  · exact Nat.le_refl _
  · exact Nat.le_succ _
theorem guF_le {Q : AP} {V : GC} {C : NS} {k : Nat} : ∀ n (x : (Nat → Nat) × Nat), (foN (guA Q V C k) n x).2 ≤ x.2 + n
  | 0, x => Nat.le_refl _
  | n + 1, x => Nat.le_trans (guA_le (y := foN (guA Q V C k) n x)) (Nat.succ_le_succ (guF_le n x))
theorem guS_le {Q : AP} {V : GC} {C : NS} {k : Nat} {y : (Nat → Nat) × Nat} (h5 : V.1 ≤ 5) : (guS Q V C k y).2 ≤ y.2 + 5 := by
  unfold guS
  split
  · have := guF_le (Q := Q) (V := V) (C := C) (k := k) V.1 y
    omega
  · omega
theorem guP_le {Q : AP} {V : GC} {C : NS} (h5 : V.1 ≤ 5) : ∀ k (y : (Nat → Nat) × Nat), (foN (guS Q V C) k y).2 ≤ y.2 + 5 * k
  | 0, y => Nat.le_refl _
  | k + 1, y => by
    have ih := guP_le (Q := Q) (C := C) h5 k y
    have := guS_le (Q := Q) (C := C) (k := k) (y := foN (guS Q V C) k y) h5
    show (guS Q V C k (foN (guS Q V C) k y)).2 ≤ _
    omega
theorem clr5 : ∀ a, a < 32 → ∀ gi, gi < 5 → nI a &&& ((nI 1 <<< (nI gi &&& 31)) ^^^ (-1)) = nI (difG a (2 ^ gi)) := by decide +kernel
theorem c_X12_giveUp {Γ : GT} {G : GG} {M : MM} {m : Nat} (hF : mdF G M.2.2 m) {Q : AP} (hP : mpW M m Q) (hO : okM Q) {V : GC} (hV : mgW M m V) {C F : NS} {hs : Nat → Nat} (hh : ∀ l, hs l < 32) : Calls Γ q_X12_giveUp [.ref m] G (wCF (hsM M m hs) m C F) (rI (fun y M' => y = nI (guP Q V C hs).2 ∧ M' = wCF (hsM M m (guP Q V C hs).1) m C F)) := by
  have hP0 := hP
  have hV0 := hV
  obtain ⟨v5, vn, vk⟩ := hV
  obtain ⟨q60, qn, qk⟩ := hP
  refine Calls.intro (by decide +kernel) (Nat.le_of_ble_eq_true rfl) (fun z E h hQ => ?_)
  refine x_loc (L' := [some (.ref m), none, none, none]) rfl ?_
  have loop : ∀ k, k ≤ nA Q → ∀ w, X Γ E 0 0 G z (wCF (hsM M m (foN (guS Q V C) k (hs, 0)).1) m C F) 4 [some (.ref m), some (.int (nI (foN (guS Q V C) k (hs, 0)).2)), some (.int (nI k)), w] [] := by
    refine upto (nA Q) (fun k hk ih w => ?_)
    have inner : k < nA Q → kA Q k = 6 → ∀ gi, gi ≤ V.1 → X Γ E 0 0 G z (wCF (hsM M m (foN (guA Q V C k) gi (foN (guS Q V C) k (hs, 0))).1) m C F) 14 [some (.ref m), some (.int (nI (foN (guA Q V C k) gi (foN (guS Q V C) k (hs, 0))).2)), some (.int (nI k)), some (.int (nI gi))] [] := by
      intro hkl hk6
      obtain ⟨q1, q2, q3, q4, q5, q6⟩ := mpW_hs hP0 (foN (guS Q V C) k (hs, 0)).1 |>.2.2 k hkl
      obtain ⟨o1, o2, o3, o4, o5, o6, o7⟩ := hO k hkl
      refine upto V.1 (fun gi hg ih2 => ?_)
      have hb := foN_inv (P := fun (y : (Nat → Nat) × Nat) => ∀ l, y.1 l < 32) (fun i _ q => guA_inv (Q := Q) (V := V) (C := C) (k := k) (gi := i) q) gi _ (foN_inv (P := fun (y : (Nat → Nat) × Nat) => ∀ l, y.1 l < 32) (fun i _ q => guS_inv (Q := Q) (V := V) (C := C) (k := i) q) k (hs, 0) hh)
      refine x_iload_n h dX12_giveUp_14 rfl ?_
      refine x_aload_n h dX12_giveUp_15 rfl ?_
      refine x_getIv h hF.1 f_X12_217 rfl ((hsM_ne _ 12 (by omega)).trans vn) dX12_giveUp_16 ?_
      refine x_icmp_ge h 88 dX12_giveUp_19 (by decide) (fun c19 => ?_) (fun c19 => ?_)
      · obtain rfl : gi = V.1 := by
          have := (nI_le_iff (by omega) (by omega)).mp c19
          omega
        refine x_incn h dX12_giveUp_88 rfl rfl rfl ?_
        dsimp only [List.set]
        refine x_goto h 4 dX12_giveUp_91 (by decide) ?_
        have ihh := ih hkl
        rw [show foN (guS Q V C) (k + 1) (hs, 0) = guS Q V C k (foN (guS Q V C) k (hs, 0)) from rfl, show guS Q V C k (foN (guS Q V C) k (hs, 0)) = foN (guA Q V C k) V.1 (foN (guS Q V C) k (hs, 0)) from if_pos hk6] at ihh
        exact ihh _
      · have hlt : gi < V.1 := by
          have := mt (nI_le_iff (a := V.1) (b := gi) (by omega) (by omega)).mpr c19
          omega
        refine x_aload_n h dX12_giveUp_22 rfl ?_
        refine x_getR h hF.1 f_X12_13 rfl (md_kind hF).1 dX12_giveUp_23 ?_
        refine x_iload_n h dX12_giveUp_26 rfl ?_
        refine x_ialdv h k (md_kind hF).2 (ix.ni (j := k) (by omega) (by decide)) ((hsM_ne _ k (by omega)).trans (qk k hkl).1) dX12_giveUp_27 ?_
        refine x_bipush h (nI 6) (by decide) dX12_giveUp_28 ?_
        refine x_icmp_ne h 88 dX12_giveUp_30 (by decide) (fun c30 => ?_) (fun c30 => ?_)
        · exact absurd (by rw [hk6]) c30
        · refine x_aload_n h dX12_giveUp_33 rfl ?_
          refine x_getR h hF.1 f_X12_99 rfl (md_has hF).1 dX12_giveUp_34 ?_
          refine x_aload_n h dX12_giveUp_37 rfl ?_
          refine x_getR h hF.1 f_X12_25 rfl (md_number hF).1 dX12_giveUp_38 ?_
          refine x_iload_n h dX12_giveUp_41 rfl ?_
          refine x_ialdv h k (md_number hF).2 (ix.ni (j := k) (by omega) (by decide)) ((hsM_ne _ k (by omega)).trans (qk k hkl).2.2.2.2.1) dX12_giveUp_42 ?_
          refine x_ialdv h (mA Q k) (md_has hF).2 (ix.ni (o7 hk6) (by decide)) (show (hsM M m _).1 (m + 30) (mA Q k) = nI ((foN (guA Q V C k) gi (foN (guS Q V C) k (hs, 0))).1 (mA Q k)) from (hsW_hs hb _ (o7 hk6)).1) dX12_giveUp_43 ?_
          refine x_iload_n h dX12_giveUp_44 rfl ?_
          refine x_cSi h ci_X12_isIn sm_X12_isIn l_X12_236 ⟨Nat.le_of_ble_eq_true rfl, Nat.le_of_ble_eq_true rfl⟩ ⟨rfl, rfl⟩ ⟨Nat.zero_le _, Nat.zero_le _⟩ (c_X12_isIn (hb _) (by omega)) rfl rfl rfl rfl dX12_giveUp_45 (fun v45 M45 hp45 => ?_)
          obtain ⟨rfl, hM⟩ := hp45
          obtain rfl := hM.symm
          clear hM
          refine x_if_eq h 82 dX12_giveUp_48 (by decide) (fun c48 => ?_) (fun c48 => ?_)
          · have e1 := b2i_0.mp c48
            refine x_incn h dX12_giveUp_82 rfl rfl rfl ?_
            dsimp only [List.set]
            refine x_goto h 14 dX12_giveUp_85 (by decide) ?_
            have hy : guA Q V C k gi (foN (guA Q V C k) gi (foN (guS Q V C) k (hs, 0))) = foN (guA Q V C k) gi (foN (guS Q V C) k (hs, 0)) := guA_no1 e1
            have ihh := ih2 hlt
            rw [show foN (guA Q V C k) (gi + 1) (foN (guS Q V C) k (hs, 0)) = guA Q V C k gi (foN (guA Q V C k) gi (foN (guS Q V C) k (hs, 0))) from rfl, hy] at ihh
            exact ihh
          · have e1 := bool_nf (fun q => c48 (b2i_0.mpr q))
            refine x_aload_n h dX12_giveUp_51 rfl ?_
            refine x_iload_n h dX12_giveUp_52 rfl ?_
            refine x_iload_n h dX12_giveUp_53 rfl ?_
            refine x_cVi h ci_X12_isSoInAll im_X12_isSoInAll l_X12_272 ⟨Nat.le_of_ble_eq_true rfl, Nat.le_of_ble_eq_true rfl⟩ ⟨rfl, rfl⟩ ⟨Nat.zero_le _, Nat.zero_le _⟩ (c_X12_isSoInAll (M := hsM M m _) hF (mgW_hs hV0 _) hlt (by omega)) rfl rfl rfl rfl hF.1 (by decide) rfl dX12_giveUp_54 (fun v54 M54 hp54 => ?_)
            have hv := hp54.1
            have hM := hp54.2
            clear hp54
            rw [hv]
            clear hv v54
            obtain rfl := hM.symm
            clear hM
            refine x_if_ne h 82 dX12_giveUp_57 (by decide) (fun c57 => ?_) (fun c57 => ?_)
            · have e2 := bool_nf (fun q => c57 (b2i_0.mpr q))
              refine x_incn h dX12_giveUp_82 rfl rfl rfl ?_
              dsimp only [List.set]
              refine x_goto h 14 dX12_giveUp_85 (by decide) ?_
              have hy : guA Q V C k gi (foN (guA Q V C k) gi (foN (guS Q V C) k (hs, 0))) = foN (guA Q V C k) gi (foN (guS Q V C) k (hs, 0)) := guA_no2 e2
              have ihh := ih2 hlt
              rw [show foN (guA Q V C k) (gi + 1) (foN (guS Q V C) k (hs, 0)) = guA Q V C k gi (foN (guA Q V C k) gi (foN (guS Q V C) k (hs, 0))) from rfl, hy] at ihh
              exact ihh
            · have e2 := b2i_0.mp c57
              refine x_aload_n h dX12_giveUp_60 rfl ?_
              refine x_getR h hF.1 f_X12_99 rfl (md_has hF).1 dX12_giveUp_61 ?_
              refine x_aload_n h dX12_giveUp_64 rfl ?_
              refine x_getR h hF.1 f_X12_25 rfl (md_number hF).1 dX12_giveUp_65 ?_
              refine x_iload_n h dX12_giveUp_68 rfl ?_
              refine x_ialdv h k (md_number hF).2 (ix.ni (j := k) (by omega) (by decide)) ((hsM_ne _ k (by omega)).trans (qk k hkl).2.2.2.2.1) dX12_giveUp_69 ?_
              refine x_dup2 h rfl rfl dX12_giveUp_70 ?_
              refine x_ialdv h (mA Q k) (md_has hF).2 (ix.ni (o7 hk6) (by decide)) (show (hsM M m _).1 (m + 30) (mA Q k) = nI ((foN (guA Q V C k) gi (foN (guS Q V C) k (hs, 0))).1 (mA Q k)) from (hsW_hs hb _ (o7 hk6)).1) dX12_giveUp_71 ?_
              refine x_in1 h dX12_giveUp_72 ?_
              refine x_iload_n h dX12_giveUp_73 rfl ?_
              refine x_ishl h dX12_giveUp_74 ?_
              refine x_icm1 h dX12_giveUp_75 ?_
              refine x_ixor h dX12_giveUp_76 ?_
              refine x_iand h dX12_giveUp_77 ?_
              refine x_topi (clr5 _ (hb _) gi (by omega)) ?_
              refine x_iast h (mA Q k) (md_has hF).2 (ix.ni (o7 hk6) (by decide)) dX12_giveUp_78 ?_
              refine x_mem (hsM_set (o7 hk6) C F) ?_
              refine x_incn h dX12_giveUp_79 rfl rfl rfl ?_
              dsimp only [List.set]
              refine x_incn h dX12_giveUp_82 rfl rfl rfl ?_
              dsimp only [List.set]
              refine x_goto h 14 dX12_giveUp_85 (by decide) ?_
              have hy : guA Q V C k gi (foN (guA Q V C k) gi (foN (guS Q V C) k (hs, 0))) = (upN (foN (guA Q V C k) gi (foN (guS Q V C) k (hs, 0))).1 (mA Q k) (difG ((foN (guA Q V C k) gi (foN (guS Q V C) k (hs, 0))).1 (mA Q k)) (2 ^ gi)), (foN (guA Q V C k) gi (foN (guS Q V C) k (hs, 0))).2 + 1) := guA_yes e1 e2
              have ihh := ih2 hlt
              rw [show foN (guA Q V C k) (gi + 1) (foN (guS Q V C) k (hs, 0)) = guA Q V C k gi (foN (guA Q V C k) gi (foN (guS Q V C) k (hs, 0))) from rfl, hy] at ihh
              exact ihh
    refine x_iload_n h dX12_giveUp_4 rfl ?_
    refine x_aload_n h dX12_giveUp_5 rfl ?_
    refine x_getIv h hF.1 f_X12_205 rfl ((hsM_ne _ 8 (by omega)).trans qn) dX12_giveUp_6 ?_
    refine x_icmp_ge h 94 dX12_giveUp_9 (by decide) (fun c9 => ?_) (fun c9 => ?_)
    · obtain rfl : k = nA Q := by
        have := (nI_le_iff (by omega) (by omega)).mp c9
        omega
      refine x_iload_n h dX12_giveUp_94 rfl ?_
      exact x_iret h hQ rfl dX12_giveUp_95 ⟨rfl, rfl, _, rfl, rfl, rfl⟩
    · have hkl : k < nA Q := by
        have := mt (nI_le_iff (a := nA Q) (b := k) (by omega) (by omega)).mpr c9
        omega
      refine x_in0 h dX12_giveUp_12 ?_
      refine x_istore_n h dX12_giveUp_13 rfl rfl ?_
      dsimp only [List.set]
      by_cases hk6 : kA Q k = 6
      · exact inner hkl hk6 0 (Nat.zero_le _)
      refine x_iload_n h dX12_giveUp_14 rfl ?_
      refine x_aload_n h dX12_giveUp_15 rfl ?_
      refine x_getIv h hF.1 f_X12_217 rfl ((hsM_ne _ 12 (by omega)).trans vn) dX12_giveUp_16 ?_
      refine x_icmp_ge h 88 dX12_giveUp_19 (by decide) (fun c19 => ?_) (fun c19 => ?_)
      · refine x_incn h dX12_giveUp_88 rfl rfl rfl ?_
        dsimp only [List.set]
        refine x_goto h 4 dX12_giveUp_91 (by decide) ?_
        have ihh := ih hkl
        rw [show foN (guS Q V C) (k + 1) (hs, 0) = guS Q V C k (foN (guS Q V C) k (hs, 0)) from rfl, show guS Q V C k (foN (guS Q V C) k (hs, 0)) = foN (guS Q V C) k (hs, 0) from if_neg hk6] at ihh
        exact ihh _
      · refine x_aload_n h dX12_giveUp_22 rfl ?_
        refine x_getR h hF.1 f_X12_13 rfl (md_kind hF).1 dX12_giveUp_23 ?_
        refine x_iload_n h dX12_giveUp_26 rfl ?_
        refine x_ialdv h k (md_kind hF).2 (ix.ni (j := k) (by omega) (by decide)) ((hsM_ne _ k (by omega)).trans (qk k hkl).1) dX12_giveUp_27 ?_
        refine x_bipush h (nI 6) (by decide) dX12_giveUp_28 ?_
        refine x_icmp_ne h 88 dX12_giveUp_30 (by decide) (fun c30 => ?_) (fun c30 => ?_)
        · refine x_incn h dX12_giveUp_88 rfl rfl rfl ?_
          dsimp only [List.set]
          refine x_goto h 4 dX12_giveUp_91 (by decide) ?_
          have ihh := ih hkl
          rw [show foN (guS Q V C) (k + 1) (hs, 0) = guS Q V C k (foN (guS Q V C) k (hs, 0)) from rfl, show guS Q V C k (foN (guS Q V C) k (hs, 0)) = foN (guS Q V C) k (hs, 0) from if_neg hk6] at ihh
          exact ihh _
        · exact absurd (nI_small 6 (by have := (hO k hkl).1; omega) (by decide) c30) hk6
  refine x_in0 h dX12_giveUp_0 ?_
  refine x_istore_n h dX12_giveUp_1 rfl rfl ?_
  dsimp only [List.set]
  refine x_in0 h dX12_giveUp_2 ?_
  refine x_istore_n h dX12_giveUp_3 rfl rfl ?_
  dsimp only [List.set]
  exact loop 0 (Nat.zero_le _) _
theorem lef5 : ∀ n, n < 6 → ∀ a, a < 32 → ((nI 1 <<< (nI n &&& 31)) - nI 1) &&& (nI a ^^^ (-1)) = nI (difG (2 ^ n - 1) a) := by decide +kernel
theorem c_X12_left {Γ : GT} {G : GG} {M : MM} {m : Nat} (hF : mdF G M.2.2 m) {V : GC} (hV : mgW M m V) {ra off : Nat} (gra : G ra = some (.inr (.int, 4))) (h3 : M.1 ra 3 = nI off) (hoff : off < 32) : Calls Γ q_X12_left [.ref m, .ref ra] G M (rI (fun y M' => y = nI (difG (2 ^ V.1 - 1) off) ∧ M' = M)) := by
  obtain ⟨v5, vn, vk⟩ := hV
  refine Calls.intro (by decide +kernel) (Nat.le_of_ble_eq_true rfl) (fun z E h hQ => ?_)
  refine x_loc (L' := [some (.ref m), some (.ref ra)]) rfl ?_
  refine x_in1 h dX12_left_0 ?_
  refine x_aload_n h dX12_left_1 rfl ?_
  refine x_getIv h hF.1 f_X12_217 rfl vn dX12_left_2 ?_
  refine x_ishl h dX12_left_5 ?_
  refine x_in1 h dX12_left_6 ?_
  refine x_isub h dX12_left_7 ?_
  refine x_aload_n h dX12_left_8 rfl ?_
  refine x_in3 h dX12_left_9 ?_
  refine x_ialdv h 3 gra (ix.ni (j := 3) (by decide) (by decide)) h3 dX12_left_10 ?_
  refine x_icm1 h dX12_left_11 ?_
  refine x_ixor h dX12_left_12 ?_
  refine x_iand h dX12_left_13 ?_
  refine x_topi (lef5 V.1 (by omega) off hoff) ?_
  exact x_iret h hQ rfl dX12_left_14 ⟨rfl, rfl, _, rfl, rfl, rfl⟩
def guH (Q : AP) (V : GC) (t hs : Nat → Nat) : Nat → Nat := (guP Q V (lcP Q V hs t).1 hs).1
/-- the guesses that are left to the loops in the end -/
def HS (Q : AP) (V : GC) (t : Nat → Nat) (act : Nat) : Nat → Nat := itN (guH Q V t) 15 (fun _ => act)
theorem it_lt {Q : AP} {V : GC} {t : Nat → Nat} {act : Nat} (ha : act < 32) : ∀ r l, itN (guH Q V t) r (fun _ => act) l < 32
  | 0, _ => ha
  | r + 1, l => guP_inv (it_lt ha r) l
theorem c_X12_findInvariants {Γ : GT} {G : GG} {M : MM} {m : Nat} (hF : mdF G M.2.2 m) {Q : AP} (hP : mpW M m Q) (hO : okM Q) {V : GC} (hV : mgW M m V) {ra : Nat} {t : Nat → Nat} (gra : G ra = some (.inr (.int, 4))) (ht : rowI M ra t) (hra : ra ≠ m + 30) {C F : NS} {act : Nat} (ha : act < 32) : Calls Γ q_X12_findInvariants [.ref m, .ref ra, .int (nI act)] G (wCF M m C F) (rV (fun M' => M' = wCF (hsM M m (HS Q V t act)) m (lcP Q V (HS Q V t act) t).1 (lcP Q V (HS Q V t act) t).2)) := by
  have q60 := hP.1
  have v5 := hV.1
  refine Calls.intro (by decide +kernel) (Nat.le_of_ble_eq_true rfl) (fun z E h hQ => ?_)
  refine x_loc (L' := [some (.ref m), some (.ref ra), some (.int (nI act)), none]) rfl ?_
  have loop2 : ∀ i, i ≤ 15 → X Γ E 0 0 G z (wCF (hsM M m (itN (guH Q V t) i (fun _ => act))) m (lcP Q V (itN (guH Q V t) i (fun _ => act)) t).1 (lcP Q V (itN (guH Q V t) i (fun _ => act)) t).2) 27 [some (.ref m), some (.ref ra), some (.int (nI act)), some (.int (nI i))] [] := by
    refine upto 15 (fun i hi ih => ?_)
    have hb := it_lt (Q := Q) (V := V) (t := t) ha i
    refine x_iload_n h dX12_findInvariants_27 rfl ?_
    refine x_bipush h (nI 15) (by decide) dX12_findInvariants_28 ?_
    refine x_icmp_ge h 51 dX12_findInvariants_30 (by decide) (fun c30 => ?_) (fun c30 => ?_)
    · obtain rfl : i = 15 := up_ge (by decide) hi c30
      exact x_vret h hQ rfl dX12_findInvariants_51 ⟨rfl, rfl, rfl, rfl⟩
    · have hlt : i < 15 := up_lt (by decide) hi c30
      refine x_aload_n h dX12_findInvariants_33 rfl ?_
      refine x_cVi h ci_X12_giveUp im_X12_giveUp l_X12_278 ⟨Nat.le_of_ble_eq_true rfl, Nat.le_of_ble_eq_true rfl⟩ ⟨rfl, rfl⟩ ⟨Nat.zero_le _, Nat.zero_le _⟩ (c_X12_giveUp hF hP hO hV hb) rfl rfl rfl rfl hF.1 (by decide) rfl dX12_findInvariants_34 (fun v34 M34 hp34 => ?_)
      obtain ⟨rfl, hM⟩ := hp34
      subst hM
      refine x_if_le h 51 dX12_findInvariants_37 (by decide) (fun c37 => ?_) (fun c37 => ?_)
      · have e : (guP Q V (lcP Q V (itN (guH Q V t) i (fun _ => act)) t).1 (itN (guH Q V t) i (fun _ => act))).2 = 0 := by
          have := guP_le (Q := Q) (V := V) (C := (lcP Q V (itN (guH Q V t) i (fun _ => act)) t).1) v5 (nA Q) (itN (guH Q V t) i (fun _ => act), 0)
          have h2 := (nI_le_iff (a := (guP Q V (lcP Q V (itN (guH Q V t) i (fun _ => act)) t).1 (itN (guH Q V t) i (fun _ => act))).2) (b := 0) (by unfold guP; omega) (by decide)).mp c37
          omega
        exact x_vret h hQ rfl dX12_findInvariants_51 ⟨rfl, rfl, rfl, by
          have e2 : guH Q V t (itN (guH Q V t) i (fun _ => act)) = itN (guH Q V t) i (fun _ => act) := guP_0 e
          have e3 : HS Q V t act = itN (guH Q V t) i (fun _ => act) := by
            have := itN_fix e2 (15 - i)
            rw [show i + (15 - i) = 15 by omega] at this
            exact this
          rw [e3]
          exact congrArg (fun h => wCF (hsM M m h) m _ _) e2⟩
      · refine x_aload_n h dX12_findInvariants_40 rfl ?_
        refine x_aload_n h dX12_findInvariants_41 rfl ?_
        refine x_cVv h ci_X12_layComes im_X12_layComes l_X12_275 ⟨Nat.le_of_ble_eq_true rfl, Nat.le_of_ble_eq_true rfl⟩ ⟨rfl, rfl⟩ ⟨Nat.zero_le _, Nat.zero_le _⟩ (c_X12_layComes (M := hsM M m _) hF (mpW_hs hP _) hO (mgW_hs hV _) gra (rowI_hs ht _ hra) (hsW_hs (it_lt ha (i + 1)))) rfl rfl rfl rfl hF.1 (by decide) rfl dX12_findInvariants_42 (fun M42 hp42 => ?_)
        subst hp42
        refine x_incn h dX12_findInvariants_45 rfl rfl rfl ?_
        dsimp only [List.set]
        refine x_goto h 27 dX12_findInvariants_48 (by decide) ?_
        exact ih hlt
  have loop1 : ∀ i, i ≤ 3 → X Γ E 0 0 G z (wCF (wI M (m + 30) i (fun _ => nI act)) m C F) 2 [some (.ref m), some (.ref ra), some (.int (nI act)), some (.int (nI i))] [] := by
    refine upto 3 (fun i hi ih => ?_)
    refine x_iload_n h dX12_findInvariants_2 rfl ?_
    refine x_in3 h dX12_findInvariants_3 ?_
    refine x_icmp_ge h 20 dX12_findInvariants_4 (by decide) (fun c4 => ?_) (fun c4 => ?_)
    · obtain rfl : i = 3 := up_ge (by decide) hi c4
      refine x_aload_n h dX12_findInvariants_20 rfl ?_
      refine x_aload_n h dX12_findInvariants_21 rfl ?_
      refine x_cVv h ci_X12_layComes im_X12_layComes l_X12_275 ⟨Nat.le_of_ble_eq_true rfl, Nat.le_of_ble_eq_true rfl⟩ ⟨rfl, rfl⟩ ⟨Nat.zero_le _, Nat.zero_le _⟩ (c_X12_layComes (M := hsM M m (fun _ => act)) hF (mpW_hs hP _) hO (mgW_hs hV _) gra (rowI_hs ht _ hra) (hsW_hs (fun _ => ha))) rfl rfl rfl rfl hF.1 (by decide) rfl dX12_findInvariants_22 (fun M22 hp22 => ?_)
      subst hp22
      refine x_in0 h dX12_findInvariants_25 ?_
      refine x_istore_n h dX12_findInvariants_26 rfl rfl ?_
      dsimp only [List.set]
      exact loop2 0 (Nat.zero_le _)
    · have hlt : i < 3 := up_lt (by decide) hi c4
      refine x_aload_n h dX12_findInvariants_7 rfl ?_
      refine x_getR h hF.1 f_X12_99 rfl (md_has hF).1 dX12_findInvariants_8 ?_
      refine x_iload_n h dX12_findInvariants_11 rfl ?_
      refine x_iload_n h dX12_findInvariants_12 rfl ?_
      refine x_iast h i (md_has hF).2 (ix.ni hlt (by decide)) dX12_findInvariants_13 ?_
      refine x_incn h dX12_findInvariants_14 rfl rfl rfl ?_
      dsimp only [List.set]
      refine x_goto h 2 dX12_findInvariants_17 (by decide) ?_
      refine x_mem (show sI (wCF (wI M (m + 30) i (fun _ => nI act)) m C F) (m + 30) i (nI act) = wCF (wI M (m + 30) (i + 1) (fun _ => nI act)) m C F from congrArg (fun N => wCF N m C F) (wI_succ M (m + 30) i (fun _ => nI act) rfl)) ?_
      exact ih hlt
  refine x_in0 h dX12_findInvariants_0 ?_
  refine x_istore_n h dX12_findInvariants_1 rfl rfl ?_
  dsimp only [List.set]
  have l0 := loop1 0 (Nat.zero_le _)
  rw [wI_0] at l0
  exact l0
theorem difG_le32 {n off : Nat} (hn : n ≤ 5) : difG (2 ^ n - 1) off < 32 := by
  have : 2 ^ n ≤ 2 ^ 5 := Nat.pow_le_pow_right (by decide) hn
  exact difG_lt _ (by omega)
theorem c_X12_invariants {Γ : GT} {G : GG} {M : MM} {m : Nat} (hF : mdF G M.2.2 m) {Q : AP} (hP : mpW M m Q) (hO : okM Q) {V : GC} (hV : mgW M m V) {ra : Nat} {t : Nat → Nat} (gra : G ra = some (.inr (.int, 4))) (ht : rowI M ra t) (hra : ra ≠ m + 30) {off : Nat} (h3 : M.1 ra 3 = nI off) (hoff : off < 32) {C F : NS} {act : Nat} (ha : act = difG (2 ^ V.1 - 1) off) : Calls Γ q_X12_invariants [.ref m, .ref ra] G (wCF M m C F) (rV (fun M' => M' = wCF (hsM M m (HS Q V t act)) m (lcP Q V (HS Q V t act) t).1 (lcP Q V (HS Q V t act) t).2)) := by
  subst ha
  refine Calls.intro (by decide +kernel) (Nat.le_of_ble_eq_true rfl) (fun z E h hQ => ?_)
  refine x_loc (L' := [some (.ref m), some (.ref ra)]) rfl ?_
  refine x_aload_n h dX12_invariants_0 rfl ?_
  refine x_aload_n h dX12_invariants_1 rfl ?_
  refine x_aload_n h dX12_invariants_2 rfl ?_
  refine x_aload_n h dX12_invariants_3 rfl ?_
  refine x_cVi h ci_X12_left im_X12_left l_X12_281 ⟨Nat.le_of_ble_eq_true rfl, Nat.le_of_ble_eq_true rfl⟩ ⟨rfl, rfl⟩ ⟨Nat.zero_le _, Nat.zero_le _⟩ (c_X12_left (M := wCF M m _ _) hF hV gra h3 hoff) rfl rfl rfl rfl hF.1 (by decide) rfl dX12_invariants_4 (fun v4 M4 hp4 => ?_)
  obtain ⟨rfl, hM⟩ := hp4
  obtain rfl := hM.symm
  clear hM
  refine x_cVv h ci_X12_findInvariants im_X12_findInvariants l_X12_285 ⟨Nat.le_of_ble_eq_true rfl, Nat.le_of_ble_eq_true rfl⟩ ⟨rfl, rfl⟩ ⟨Nat.zero_le _, Nat.zero_le _⟩ (c_X12_findInvariants hF hP hO hV gra ht hra (difG_le32 hV.1)) rfl rfl rfl rfl hF.1 (by decide) rfl dX12_invariants_7 (fun M7 hp7 => ?_)
  subst hp7
  exact x_vret h hQ rfl dX12_invariants_10 ⟨rfl, rfl, rfl, rfl⟩
