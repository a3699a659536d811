/-! ===== Reader.take ===== -/
def tkT (T : RT) (ch : Nat) : Option RT :=
  if T 200 0 = 0 then stT T ch else if T 200 0 = 1 then opT T ch
  else if T 200 0 = 2 then (if trmN ch < 9 then some (nvT T (trmN ch)) else none)
  else if T 200 0 = 3 then (if isNm ch then some (tU (tU T 200 2 (ch - 97)) 200 0 4) else none)
  else if T 200 0 = 4 then (if isSg ch then some (tU (tU T 200 3 ch) 200 0 5) else none)
  else if T 200 0 = 5 then (if trmN ch < 9 then some (trT T (trmN ch)) else none)
  else (if ch = 59 ∧ T 0 6 < 5 then some (ecT T 4294967295) else none)
theorem trmN_le (ch : Nat) : trmN ch ≤ 9 := by
  unfold trmN
  split
  · rename_i q; have : 97 ≤ ch ∧ ch ≤ 99 := of_decide_eq_true q; omega
  · split <;> omega
theorem tk_01 {u c : Nat} {M M' : MM} {o : Option RT} {y : Int32} (h : tkP u c M o y M') : y = 0 ∨ y = 1 := by
  cases o with
  | none => exact Or.inl (h.2 rfl).1
  | some T' => exact Or.inr (h.1 T' rfl).1
theorem tk_eq {u c : Nat} {M M' : MM} {o o' : Option RT} {y : Int32} (e : o' = o) (h : tkP u c M o y M') : tkP u c M o' y M' := e ▸ h
theorem c_X6_take {Γ : GT} {G : GG} {M : MM} {u c : Nat} {T : RT} (hR : rdF G M.2.2 u) (hW : codeF G M.2.2 c) (hd : u + 2 ≤ c ∨ c + 125 ≤ u) (hT : rdW M u c T) (h60 : T 0 1 < 60) {ch i : Nat} (hch : ch < 2 ^ 16) (hok : rdOk T i) (hi : i < 60) : Calls Γ q_X6_take [.ref u, .int (nI ch), .ref c] G M (rI (tkP u c M (tkT T ch))) := by
  have hok0 := hok
  obtain ⟨o1, o2, o3, o4, o5, o6, o7, o8, o9, o10, o11, o12⟩ := hok
  refine Calls.intro (by decide +kernel) (Nat.le_of_ble_eq_true rfl) (fun z E h hQ => ?_)
  refine x_loc (L' := [some (.ref u), some (.int (nI ch)), some (.ref c)]) rfl ?_
  refine x_aload_n h dX6_take_0 rfl ?_
  refine x_getIv h hR.1 f_X6_20 rfl (rdW_u hT 0) dX6_take_1 ?_
  rcases (show T 200 0 = 0 ∨ T 200 0 = 1 ∨ T 200 0 = 2 ∨ T 200 0 = 3 ∨ T 200 0 = 4 ∨ T 200 0 = 5 ∨ T 200 0 = 6 by omega) with hx | hx | hx | hx | hx | hx | hx
  · rw [hx]
    refine x_tin h 44 dX6_take_4 (by decide) (by decide) (off := 40) (by decide) (by decide) ?_
    refine x_aload_n h dX6_take_44 rfl ?_
    refine x_iload_n h dX6_take_45 rfl ?_
    refine x_aload_n h dX6_take_46 rfl ?_
    refine x_cVi h ci_X6_takeStatement im_X6_takeStatement l_X6_31 ⟨Nat.le_of_ble_eq_true rfl, Nat.le_of_ble_eq_true rfl⟩ ⟨rfl, rfl⟩ ⟨Nat.zero_le _, Nat.zero_le _⟩ (c_X6_takeStatement hR hW hd hT h60 hch hok0) rfl rfl rfl rfl hR.1 (by decide) rfl dX6_take_47 (fun v47 M47 hp47 => ?_)
    exact x_zret h hQ rfl (tk_01 hp47) dX6_take_50 ⟨rfl, rfl, _, rfl, tk_eq (show tkT T ch = stT T ch from if_pos hx) hp47⟩
  · rw [hx]
    refine x_tin h 51 dX6_take_4 (by decide) (by decide) (off := 47) (by decide) (by decide) ?_
    refine x_aload_n h dX6_take_51 rfl ?_
    refine x_iload_n h dX6_take_52 rfl ?_
    refine x_aload_n h dX6_take_53 rfl ?_
    refine x_cVi h ci_X6_takeOperation im_X6_takeOperation l_X6_34 ⟨Nat.le_of_ble_eq_true rfl, Nat.le_of_ble_eq_true rfl⟩ ⟨rfl, rfl⟩ ⟨Nat.zero_le _, Nat.zero_le _⟩ (c_X6_takeOperation hR hW hd hT h60 hch) rfl rfl rfl rfl hR.1 (by decide) rfl dX6_take_54 (fun v54 M54 hp54 => ?_)
    exact x_zret h hQ rfl (tk_01 hp54) dX6_take_57 ⟨rfl, rfl, _, rfl, tk_eq (show tkT T ch = opT T ch from by unfold tkT; rw [if_neg (by omega), if_pos hx]) hp54⟩
  · rw [hx]
    rw [hx] at o2
    simp at o2
    refine x_tin h 70 dX6_take_4 (by decide) (by decide) (off := 66) (by decide) (by decide) ?_
    refine x_aload_n h dX6_take_70 rfl ?_
    refine x_iload_n h dX6_take_71 rfl ?_
    refine x_cSi h ci_X6_term sm_X6_term l_X6_44 ⟨Nat.le_of_ble_eq_true rfl, Nat.le_of_ble_eq_true rfl⟩ ⟨rfl, rfl⟩ ⟨Nat.zero_le _, Nat.zero_le _⟩ (c_X6_term hch) rfl rfl rfl rfl dX6_take_72 (fun v72 M72 hp72 => ?_)
    obtain ⟨rfl, hM⟩ := hp72
    obtain rfl := hM.symm
    clear hM
    refine x_aload_n h dX6_take_75 rfl ?_
    refine x_cVi h ci_X6_takeNewValue im_X6_takeNewValue l_X6_48 ⟨Nat.le_of_ble_eq_true rfl, Nat.le_of_ble_eq_true rfl⟩ ⟨rfl, rfl⟩ ⟨Nat.zero_le _, Nat.zero_le _⟩ (c_X6_takeNewValue (n := T 0 1) (st := T 0 10) (v := T 200 2) (j := T 0 3) hR hW hd (rdW_c hT 1) (rdW_c hT 10) h60 (rdW_u hT 2) o4 (rdW_c hT 3) (fun _ => by omega) (trmN_le ch)) rfl rfl rfl rfl hR.1 (by decide) rfl dX6_take_76 (fun v76 M76 hp76 => ?_)
    exact x_zret h hQ rfl (by rw [hp76.1]; exact b2i_01 _) dX6_take_79 ⟨rfl, rfl, _, rfl, by
        have hb := hp76.1
        subst hb
        by_cases q : trmN ch < 9
        · rw [decide_eq_true q]; exact tk_some (by unfold tkT; rw [if_neg (by omega), if_neg (by omega), if_pos hx, if_pos q]) (by rw [hp76.2.1 q]; exact rdS_nv hd (rdS_0 hT) h60 (by omega) _)
        · rw [hp76.2.2 q, decide_eq_false q]; exact tk_none (by unfold tkT; rw [if_neg (by omega), if_neg (by omega), if_pos hx, if_neg q])⟩
  · rw [hx]
    refine x_tin h 58 dX6_take_4 (by decide) (by decide) (off := 54) (by decide) (by decide) ?_
    refine x_aload_n h dX6_take_58 rfl ?_
    refine x_iload_n h dX6_take_59 rfl ?_
    refine x_cVi h ci_X6_takeLeft im_X6_takeLeft l_X6_37 ⟨Nat.le_of_ble_eq_true rfl, Nat.le_of_ble_eq_true rfl⟩ ⟨rfl, rfl⟩ ⟨Nat.zero_le _, Nat.zero_le _⟩ (c_X6_takeLeft hR hch) rfl rfl rfl rfl hR.1 (by decide) rfl dX6_take_60 (fun v60 M60 hp60 => ?_)
    exact x_zret h hQ rfl (by rw [hp60.1]; exact b2i_01 _) dX6_take_63 ⟨rfl, rfl, _, rfl, by
        have hb := hp60.1
        subst hb
        cases q : isNm ch with
        | true => rw [hp60.2.1 q]; exact tk_some (by unfold tkT; rw [if_neg (by omega), if_neg (by omega), if_neg (by omega), if_pos hx, if_pos q]) (rdS_u hd (rdS_u hd (rdS_0 hT) (a := 0) (by decide)) (a := 0) (by decide))
        | false => rw [hp60.2.2 q]; exact tk_none (by unfold tkT; rw [if_neg (by omega), if_neg (by omega), if_neg (by omega), if_pos hx, if_neg (by rw [q]; decide)])⟩
  · rw [hx]
    refine x_tin h 64 dX6_take_4 (by decide) (by decide) (off := 60) (by decide) (by decide) ?_
    refine x_aload_n h dX6_take_64 rfl ?_
    refine x_iload_n h dX6_take_65 rfl ?_
    refine x_cVi h ci_X6_takeSign im_X6_takeSign l_X6_41 ⟨Nat.le_of_ble_eq_true rfl, Nat.le_of_ble_eq_true rfl⟩ ⟨rfl, rfl⟩ ⟨Nat.zero_le _, Nat.zero_le _⟩ (c_X6_takeSign hR hch) rfl rfl rfl rfl hR.1 (by decide) rfl dX6_take_66 (fun v66 M66 hp66 => ?_)
    exact x_zret h hQ rfl (by rw [hp66.1]; exact b2i_01 _) dX6_take_69 ⟨rfl, rfl, _, rfl, by
        have hb := hp66.1
        subst hb
        cases q : isSg ch with
        | true => rw [hp66.2.1 q]; exact tk_some (by unfold tkT; rw [if_neg (by omega), if_neg (by omega), if_neg (by omega), if_neg (by omega), if_pos hx, if_pos q]) (rdS_u hd (rdS_u hd (rdS_0 hT) (a := 0) (by decide)) (a := 0) (by decide))
        | false => rw [hp66.2.2 q]; exact tk_none (by unfold tkT; rw [if_neg (by omega), if_neg (by omega), if_neg (by omega), if_neg (by omega), if_pos hx, if_neg (by rw [q]; decide)])⟩
  · rw [hx]
    rw [hx] at o2
    simp at o2
    have hw := o12 (by omega) (by omega)
    refine x_tin h 80 dX6_take_4 (by decide) (by decide) (off := 76) (by decide) (by decide) ?_
    refine x_aload_n h dX6_take_80 rfl ?_
    refine x_iload_n h dX6_take_81 rfl ?_
    refine x_cSi h ci_X6_term sm_X6_term l_X6_44 ⟨Nat.le_of_ble_eq_true rfl, Nat.le_of_ble_eq_true rfl⟩ ⟨rfl, rfl⟩ ⟨Nat.zero_le _, Nat.zero_le _⟩ (c_X6_term hch) rfl rfl rfl rfl dX6_take_82 (fun v82 M82 hp82 => ?_)
    obtain ⟨rfl, hM⟩ := hp82
    obtain rfl := hM.symm
    clear hM
    refine x_aload_n h dX6_take_85 rfl ?_
    refine x_cVi h ci_X6_takeRight im_X6_takeRight l_X6_52 ⟨Nat.le_of_ble_eq_true rfl, Nat.le_of_ble_eq_true rfl⟩ ⟨rfl, rfl⟩ ⟨Nat.zero_le _, Nat.zero_le _⟩ (c_X6_takeRight hR hW hd hT h60 (fun _ => by omega) (trmN_le ch) (by omega)) rfl rfl rfl rfl hR.1 (by decide) rfl dX6_take_86 (fun v86 M86 hp86 => ?_)
    exact x_zret h hQ rfl (by rw [hp86.1]; exact b2i_01 _) dX6_take_89 ⟨rfl, rfl, _, rfl, by
        have hb := hp86.1
        subst hb
        by_cases q : trmN ch < 9
        · rw [decide_eq_true q]; exact tk_some (by unfold tkT; rw [if_neg (by omega), if_neg (by omega), if_neg (by omega), if_neg (by omega), if_neg (by omega), if_pos hx, if_pos q]) (hp86.2.1 q)
        · rw [hp86.2.2 q, decide_eq_false q]; exact tk_none (by unfold tkT; rw [if_neg (by omega), if_neg (by omega), if_neg (by omega), if_neg (by omega), if_neg (by omega), if_pos hx, if_neg q])⟩
  · rw [hx]
    refine x_tout h 90 dX6_take_4 (by decide) (by decide) ?_
    refine x_iload_n h dX6_take_90 rfl ?_
    refine x_bipush h (nI 59) (by decide) dX6_take_91 ?_
    refine x_icmp_ne h 108 dX6_take_93 (by decide) (fun c93 => ?_) (fun c93 => ?_)
    · have e93 : ¬ ch = 59 := fun q => c93 (by rw [q])
      refine x_ic0 h dX6_take_108 ?_
      exact x_zret h hQ rfl (by decide) dX6_take_109 ⟨rfl, rfl, _, rfl, tk_none (by unfold tkT; rw [if_neg (by omega), if_neg (by omega), if_neg (by omega), if_neg (by omega), if_neg (by omega), if_neg (by omega), if_neg (by omega)])⟩
    · have e93 : ch = 59 := nI_small 59 (by omega) (by decide) c93
      refine x_aload_n h dX6_take_96 rfl ?_
      refine x_aload_n h dX6_take_97 rfl ?_
      refine x_cVi h ci_X6_beginGuess im_X6_beginGuess l_X6_55 ⟨Nat.le_of_ble_eq_true rfl, Nat.le_of_ble_eq_true rfl⟩ ⟨rfl, rfl⟩ ⟨Nat.zero_le _, Nat.zero_le _⟩ (c_X6_beginGuess (m := T 0 6) hR hW (rdW_c hT 6) o8) rfl rfl rfl rfl hR.1 (by decide) rfl dX6_take_98 (fun v98 M98 hp98 => ?_)
      have hq := hp98
      obtain rfl := hp98.1
      refine x_if_eq h 108 dX6_take_101 (by decide) (fun c101 => ?_) (fun c101 => ?_)
      · have eg : ¬ T 0 6 < 5 := of_decide_eq_false (b2i_0.mp c101)
        refine x_ic0 h dX6_take_108 ?_
        exact x_zret h hQ rfl (by decide) dX6_take_109 ⟨rfl, rfl, _, rfl, (by rw [hq.2.2 eg]; exact tk_none (by unfold tkT; rw [if_neg (by omega), if_neg (by omega), if_neg (by omega), if_neg (by omega), if_neg (by omega), if_neg (by omega), if_neg (by omega)]))⟩
      · have eg : T 0 6 < 5 := of_decide_eq_true (bool_nf (fun q => c101 (b2i_0.mpr q)))
        refine x_ic1 h dX6_take_104 ?_
        refine x_goto h 109 dX6_take_105 (by decide) ?_
        exact x_zret h hQ rfl (by decide) dX6_take_109 ⟨rfl, rfl, _, rfl, (by rw [hq.2.1 eg]; exact tk_some (T' := ecT T 4294967295) (by unfold tkT; rw [if_neg (by omega), if_neg (by omega), if_neg (by omega), if_neg (by omega), if_neg (by omega), if_neg (by omega), if_pos (by omega)]) (rdS_u hd (rdS_u hd (rdS_0 hT) (a := 0) (f := 1) (x := 4294967295) (by decide)) (a := 0) (by decide)))⟩
