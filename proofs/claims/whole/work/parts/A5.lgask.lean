/-! ===== LoopGuesses: drawn, about, loop, check, falls ===== -/
theorem sub_pos {x : Int32} {a : Nat} (ha : a < 32) (h : x &&& (nI a ^^^ (-1)) = 0) : ∃ w, w < 32 ∧ w &&& a = w ∧ x = nI w := by
  obtain ⟨n, hn, e⟩ := wb_of32 x
  have e2 := sub_and h
  rw [e, fa_and] at e2
  have hle : n &&& a ≤ a := Nat.and_le_right
  refine ⟨n &&& a, by omega, ?_, e.trans e2.symm⟩
  rw [Nat.and_assoc, Nat.and_self]
theorem lt_of_nle {x y : Int32} (h : ¬ y ≤ x) : x < y := by
  have := mt Int32.le_iff_toInt_le.mpr h
  rw [Int32.lt_iff_toInt_lt]
  omega
section KN
variable {G : GG} {M : MM} {n c : Nat} {S V : RT} {t : Nat → Nat}
theorem act_lt (ng off : Nat) : difG (2 ^ ng - 1) off < 2 ^ ng := Nat.lt_of_le_of_lt (difG_le _ _) (by have := Nat.two_pow_pos ng; omega)
theorem en_eq (h : PR S V) : nA (pgV V).1 = nA (aT S) := (pr_n h).1
theorem rc_of (h : aK G M n c S V t) (h4 : M.1 n 4 ≠ 0) : ∃ σ, hasA G M σ ∧ trS σ c S ∧ fiE (aT S) (n + 3) σ (rcC (pgV V).1 (begS t)) := by
  obtain ⟨-, -, σ, a, b, -, k⟩ := h
  exact ⟨σ, a, b, k.2.2.1 h4⟩
theorem iv_of (h : aK G M n c S V t) {act : Nat} (h6 : M.1 n 6 = nI act) (ha : act < 2 ^ V 0 26) : ∃ σ, hasA G M σ ∧ trS σ c S ∧ ivI M σ n S V t act := by
  obtain ⟨hS, -, σ, a, b, -, k⟩ := h
  have v26 := (okV hS.2.2.2.2.2.2.2 hS.2.2.2.2.2.1).2.2.2.2.2.2.1
  have p32 := pow_le32 v26
  rcases k.2.2.2.1 with q | ⟨ac, q1, q2, q3⟩
  · rw [q] at h6
    exact absurd h6.symm (nI_ne_m1 (by omega))
  · rw [q2] at h6
    have e := (nI_eq_iff (by omega) (by omega)).mp h6
    rw [← e]
    exact ⟨σ, a, b, q3⟩
/-- the sets of a flow, in the memory -/
theorem fi_now (hA : anS G M n c S V) {f : Nat} {σ : SG} {C : NS} (hf : flowW G M.2.2 (DG G) f) (hs : hasA G M σ) (h : fiE (aT S) f σ C) : hasS M (f + 1) (C (nA (pgV V).1)) := by
  rw [en_eq hA.2.2.2.2.2]
  exact hasS_congr (hs _ (fw_now hf).2.2) (fun u hu => h.1 u hu)
theorem fi_come (hA : anS G M n c S V) {f : Nat} {σ : SG} {C : NS} (hf : flowW G M.2.2 (DG G) f) (hs : hasA G M σ) (h : fiE (aT S) f σ C) {l : Nat} (hl : l < V 0 24) : hasS M (f + 3 + 1 + 2 * l) (C (ndF V 6 l)) := by
  have e := (pr_n hA.2.2.2.2.2).2.2.1
  have l3 := (okV hA.2.2.2.2.2.2.2 hA.2.2.2.2.2.1).2.2.2.2.1
  exact hasS_congr (hs _ ((fw_come hf).2.2 l (by omega)).2.2) (fun u hu => fi_lp hA.2.2.2.2.2 h (by omega) hu)
theorem fi_chk (hA : anS G M n c S V) {f : Nat} {σ : SG} {C : NS} (hf : flowW G M.2.2 (DG G) f) (hs : hasA G M σ) (h : fiE (aT S) f σ C) {i : Nat} (hi : i < V 0 23) : hasS M (f + 17 + 1 + 2 * i) (C (ndF V 5 i)) := by
  have e := (pr_n hA.2.2.2.2.2).2.1
  have l4 := (okV hA.2.2.2.2.2.2.2 hA.2.2.2.2.2.1).2.2.2.1
  exact hasS_congr (hs _ ((fw_check hf).2.2 i (by omega)).2.2) (fun u hu => fi_ck hA.2.2.2.2.2 h (by omega) hu)
theorem fi_tru (hA : anS G M n c S V) {σ : SG} (hs : hasA G M σ) (ht : trS σ c S) {i : Nat} (hi : i < V 0 23) : hasS M (c + 5 + 3 * S 4 i + 1) (cndT (cA (pgV V).1 (ndF V 5 i))) := by
  have e := (pr_n hA.2.2.2.2.2).2.1
  obtain ⟨-, -, -, -, e5, l5⟩ := ck_nd hA.2.2.2.2.2 (i := i) (by omega)
  have hu : S 0 3 ≤ 20 := by have := hA.2.2.2.2.2.1.2.1.2.1; omega
  refine hasS_congr (hs _ (DG_S (hA.2.1.2.2.2.2.2.2.1 (S 4 i) (by omega)).2.2.2).2) (fun u hu => ?_)
  rw [e5]
  exact ht _ l5 u hu
theorem s_fulfilled {Γ : GT} (h : aK G M n c S V t) (h4 : M.1 n 4 ≠ 0) : Calls Γ q_X2_fulfilled [.ref c, .ref (n + 3)] G M (rI (fun y M' => y = nI (enN (fneS (pgV V).1 (pgV V).2.2.1.2 (rcC (pgV V).1 (begS t))) 0 (V 0 23)) ∧ M' = M)) := by
  obtain ⟨σ, hA, hT, hF⟩ := rc_of h h4
  have hX := anS_X h.1
  have k := c_X2_fulfilled (Γ := Γ) (M := M) (D := DG G) (σ := σ) (f := n + 3) hX.1 hX.2.2.2.1 (an_fl h.1.1)
  rw [← wS_of hA] at k
  refine k.imp (fun r M' hp => ?_)
  obtain ⟨y, hr, e1, e2⟩ := hp
  refine ⟨y, hr, ?_, e2⟩
  rw [e1]
  exact congrArg nI (ful_eq h.1.2.2.2.2.2 hT hF)
end KN
theorem rv_of {G : GG} {M : MM} {o : Nat} {b : Bool} {S V : RT} {tx : Nat → Nat} {len : Nat} {su : SU} {hy : HY} {kp : KP} {ze : SE} {sd : Int64} (h : cO G M o b S V tx len su hy kp ze sd) : rvW G M (o + 433) (cd o b) (rvT S) := by
  have c1 := cd_in o b
  obtain ⟨hT, hP⟩ := h.2.2.2.1
  have hW := (lg_code h.1).2
  have n60 : S 0 1 ≤ 60 := hP.1.2.1.1
  have wf := wf_of hP.1
  refine ⟨n60, by omega, cdW_c hT 1, fun i hi => ?_⟩
  have hi' : i < S 0 1 := hi
  have hr := cdW_sr hT (i := i) (by omega)
  have hc := hW.2.2.2.2.2.2.1 _ hr.2
  obtain ⟨t1, t2, t3, t4⟩ := hP.1.2.2.1 i hi'
  refine ⟨⟨(hW.2.2.2.1 i (by omega)).2, by omega, cdW_s hT (by omega) (by decide), cdW_s hT (by omega) (by decide), cdW_s hT (by omega) (by decide), cd o b + 5 + 3 * S (65 + i) 4, hr.1, (show (cd o b + 5 + 3 * S (65 + i) 4 : Nat) ≠ o + 433 + 1 by omega), hc.2.1, cdW_q hT hr.2⟩, t1, t2, fun q => cd_ok hP (hP.1.2.2.2.2.1.1 i hi' (by rcases q with q | q | q | q <;> (have q' : S (65 + i) 0 = _ := q; omega))), fun q1 q2 => ?_⟩
  have q1' : 6 ≤ S (65 + i) 0 := q1
  have q2' : S (65 + i) 0 ≤ 9 := q2
  show S (65 + i) 3 ≤ 60
  rcases (show S (65 + i) 0 = 6 ∨ S (65 + i) 0 = 7 ∨ S (65 + i) 0 = 8 ∨ S (65 + i) 0 = 9 by omega) with k | k | k | k
  · have : S (65 + i) 3 < S 0 1 := (wf.2.1 i hi' k).2.1
    omega
  · have : S (65 + i) 3 < i := (wf.2.2.1 i hi' k).1
    omega
  · have : S (65 + i) 3 < S 0 1 := (wf.2.2.2.1 i hi' k).2.1
    omega
  · have : S (65 + i) 3 < S 0 1 := (wf.2.2.2.2.1 i hi' k).2.2.1
    omega
theorem ru_of (M : MM) (w : Nat) : ∃ vs, M = ruM M w (M.2.1 w 0) vs := by
  refine ⟨fun j => (M.1 (w + 1) j).toBitVec.toNat, ?_⟩
  have e : ∀ x : Int32, x = nI x.toBitVec.toNat := fun x => Int32.toBitVec_inj.mp (by show _ = BitVec.ofNat 32 _; simp)
  unfold ruM
  rw [sL_same M w 0 rfl]
  show (M.1, M.2.1, M.2.2) = (_, M.2.1, M.2.2)
  congr 1
  funext a j
  by_cases q : a = w + 1 ∧ j < 3
  · rw [if_pos q, q.1]; exact e _
  · rw [if_neg q]
theorem cInv_ru {G : GG} {M : MM} {o : Nat} {b : Bool} {S V : RT} {tx : Nat → Nat} {len : Nat} {su : SU} {hy : HY} {kp : KP} {ze : SE} {sd : Int64} (h : cInv G M o b S V tx len su hy kp ze sd) (x : Int64) (vs : Nat → Nat) : cInv G (ruM M (o + 433) x vs) o b S V tx len su hy kp ze x ∧ offO o M (ruM M (o + 433) x vs) :=
  ⟨cInv_sd h rfl (fun a j _ _ => wI_ne _ _ _ _ (by omega)) (up2_self _ _ _ _) (fun a j q => up2_ne _ _ (by omega)), oO_wI (oO_L (oO_refl o M) _ (by omega)) _ (by omega)⟩
theorem c_X11_drawn_1 {Γ : GT} {G : GG} {M : MM} {o : Nat} {b : Bool} {S V : RT} {tx : Nat → Nat} {len : Nat} {su : SU} {hy : HY} {kp : KP} {ze : SE} {sd : Int64} (hI : cInv G M o b S V tx len su hy kp ze sd) {n : Nat} (hn : n < 20) : Calls Γ q_X11_drawn [.ref o, .int (nI (n + 1))] G M (rI (fun y M' => y = nI (drS (pgV V).1 su.1 sd (n + 1)).1 ∧ cInv G M' o b S V (tx) (len) (su) (hy) (kp) (ze) ((drS (pgV V).1 su.1 sd (n + 1)).2) ∧ offO o M M')) := by
  have hI0 := hI
  obtain ⟨hO, hA⟩ := hI
  have hO0 := hO
  obtain ⟨v22, v23, v24, v25, v26⟩ := cv_ok hO
  have hP := hO.2.2.2.1.2
  have hsd := hO.2.2.2.2.2.2.2.2
  obtain ⟨vs0, hru⟩ := ru_of M (o + 433)
  rw [hsd] at hru
  refine Calls.intro (by decide +kernel) (Nat.le_of_ble_eq_true rfl) (fun z E h hQ => ?_)
  refine x_loc (L' := [some (.ref o), some (.int (nI (n + 1))), none, none]) rfl ?_
  have loop : ∀ i, i ≤ n + 1 → ∀ vs, X Γ E 0 0 G z (ruM M (o + 433) (drS (pgV V).1 su.1 sd i).2 vs) 18 [some (.ref o), some (.int (nI (n + 1))), some (.int (nI (drS (pgV V).1 su.1 sd i).1)), some (.int (nI i))] [] := by
    refine upto (n + 1) (fun i hi ih vs => ?_)
    refine x_iload_n h dX11_drawn_18 rfl ?_
    refine x_iload_n h dX11_drawn_19 rfl ?_
    refine x_icmp_ge h 47 dX11_drawn_20 (by decide) (fun c20 => ?_) (fun c20 => ?_)
    · obtain rfl : i = n + 1 := by
        have := (nI_le_iff (by omega) (by omega)).mp c20
        omega
      refine x_iload_n h dX11_drawn_47 rfl ?_
      exact x_iret h hQ rfl dX11_drawn_48 ⟨rfl, rfl, _, rfl, rfl, cInv_ru hI0 _ _⟩
    · have hlt : i < n + 1 := by
        have := mt (nI_le_iff (a := n + 1) (b := i) (by omega) (by omega)).mpr c20
        omega
      have e := rn_eq hP (t := su.1) (vs := vs) (x := (drS (pgV V).1 su.1 sd i).2) (fun v hv => hO.2.2.2.2.1.2.1 v hv) (F := 3721) rfl
      refine x_iload_n h dX11_drawn_23 rfl ?_
      refine x_aload_n h dX11_drawn_24 rfl ?_
      refine x_getR h hO.1.1 f_X11_75 rfl (lg_runner hO.1).1 dX11_drawn_25 ?_
      refine x_aload_n h dX11_drawn_28 rfl ?_
      refine x_getR h hO.1.1 f_X11_23 rfl (lg_code hO.1).1 dX11_drawn_29 ?_
      refine x_aload_n h dX11_drawn_32 rfl ?_
      refine x_getR h hO.1.1 f_X11_33 rfl (lg_setup hO.1).1 dX11_drawn_33 ?_
      refine x_cVi h ci_X7_run im_X7_run l_X11_268 ⟨Nat.le_of_ble_eq_true rfl, Nat.le_of_ble_eq_true rfl⟩ ⟨rfl, rfl⟩ ⟨Nat.zero_le _, Nat.zero_le _⟩ (c_X7_run (M := M) (Q := rvT S) (lg_runner hO.1).2 (lg_code hO.1).2 (rv_of hO) (lg_setup hO.1).2 hO.2.2.2.2.1.1 (by omega) (cv_6 hO)) rfl rfl rfl rfl (lg_runner hO.1).2.1 (by decide) rfl dX11_drawn_36 (fun v36 M36 hp36 => ?_)
      have hv := hp36.1
      have hM := hp36.2
      clear hp36
      rw [e.1] at hv
      rw [e.2] at hM
      rw [hv]
      clear hv v36
      generalize (runF (rvT S) 3721 0 0 (iniV su.1 (drS (pgV V).1 su.1 sd i).2 vs 3).1 (iniV su.1 (drS (pgV V).1 su.1 sd i).2 vs 3).2).2.2 = vs2 at hM
      obtain rfl := hM
      refine x_iaddn h  dX11_drawn_39 ?_
      refine x_istore_n h dX11_drawn_40 rfl rfl ?_
      dsimp only [List.set]
      refine x_incn h dX11_drawn_41 rfl rfl rfl ?_
      dsimp only [List.set]
      refine x_goto h 18 dX11_drawn_44 (by decide) ?_
      exact ih hlt _
  refine x_iload_n h dX11_drawn_0 rfl ?_
  refine x_in1 h dX11_drawn_1 ?_
  refine x_icmp_lt h 11 dX11_drawn_2 (by decide) (fun c2 => ?_) (fun c2 => ?_)
  · exact absurd ((nI_lt_iff (by omega) (by decide)).mp c2) (by omega)
  · refine x_iload_n h dX11_drawn_5 rfl ?_
    refine x_bipush h (nI 20) (by decide) dX11_drawn_6 ?_
    refine x_icmp_le h 14 dX11_drawn_8 (by decide) (fun c8 => ?_) (fun c8 => ?_)
    · refine x_in0 h dX11_drawn_14 ?_
      refine x_istore_n h dX11_drawn_15 rfl rfl ?_
      dsimp only [List.set]
      refine x_in0 h dX11_drawn_16 ?_
      refine x_istore_n h dX11_drawn_17 rfl rfl ?_
      dsimp only [List.set]
      refine x_mem hru ?_
      exact loop 0 (Nat.zero_le _) vs0
    · exact absurd ((nI_le_iff (by omega) (by omega)).mpr (by omega)) c8
theorem c_X11_about_0 {Γ : GT} {G : GG} {M : MM} {o : Nat} {b : Bool} {S V : RT} {tx : Nat → Nat} {len : Nat} {su : SU} {hy : HY} {kp : KP} {ze : SE} {sd : Int64} (hI : cInv G M o b S V tx len su hy kp ze sd) {x : Int32} (hx : ∀ n, n < 12 → x ≠ nI n) : Calls Γ q_X11_about [.ref o, .int x] G M (rI (fun y M' => y = -2 ∧ cInv G M' o b S V (tx) (len) (su) (hy) (kp) (ze) (sd) ∧ offO o M M')) := by
  have hI0 := hI
  obtain ⟨hO, hA⟩ := hI
  have hO0 := hO
  obtain ⟨v22, v23, v24, v25, v26⟩ := cv_ok hO
  refine Calls.intro (by decide +kernel) (Nat.le_of_ble_eq_true rfl) (fun z E h hQ => ?_)
  refine x_loc (L' := [some (.ref o), some (.int x)]) rfl ?_
  refine x_iload_n h dX11_about_0 rfl ?_
  skip
  · refine x_tout h 205 dX11_about_1 (ts_out (b := 11) hx) (by decide) ?_
    refine x_bipush h (-2) (by decide) dX11_about_205 ?_
    exact x_iret h hQ rfl dX11_about_207 ⟨rfl, rfl, _, rfl, rfl, hI0, oO_refl o M⟩
theorem c_X11_about_1 {Γ : GT} {G : GG} {M : MM} {o : Nat} {b : Bool} {S V : RT} {tx : Nat → Nat} {len : Nat} {su : SU} {hy : HY} {kp : KP} {ze : SE} {sd : Int64} (hI : cInv G M o b S V tx len su hy kp ze sd) {n : Nat} (hn : n < 12) : Calls Γ q_X11_about [.ref o, .int (nI n)] G M (rI (fun y M' => abS (pgV V) su hy ze len n y ∧ cInv G M' o b S V (tx) (len) (su) (hy) (kp) (ze) (sd) ∧ offO o M M')) := by
  have hI0 := hI
  obtain ⟨hO, hA⟩ := hI
  have hO0 := hO
  obtain ⟨v22, v23, v24, v25, v26⟩ := cv_ok hO
  refine Calls.intro (by decide +kernel) (Nat.le_of_ble_eq_true rfl) (fun z E h hQ => ?_)
  refine x_loc (L' := [some (.ref o), some (.int (nI n))]) rfl ?_
  refine x_iload_n h dX11_about_0 rfl ?_
  rcases (show n = 0 ∨ n = 1 ∨ n = 2 ∨ n = 3 ∨ n = 4 ∨ n = 5 ∨ n = 6 ∨ n = 7 ∨ n = 8 ∨ n = 9 ∨ n = 10 ∨ n = 11 by omega) with rfl | rfl | rfl | rfl | rfl | rfl | rfl | rfl | rfl | rfl | rfl | rfl
  · refine x_tin h 64 dX11_about_1 (by decide) (by decide) (off := 63) (by decide) (by decide) ?_
    refine x_aload_n h dX11_about_64 rfl ?_
    refine x_getR h hO.1.1 f_X11_23 rfl (lg_code hO.1).1 dX11_about_65 ?_
    refine x_getIv h (lg_code hO.1).2.1 f_X11_105 rfl (cv_k hO) dX11_about_68 ?_
    exact x_iret h hQ rfl dX11_about_71 ⟨rfl, rfl, _, rfl, rfl, hI0, oO_refl o M⟩
  · refine x_tin h 72 dX11_about_1 (by decide) (by decide) (off := 71) (by decide) (by decide) ?_
    refine x_aload_n h dX11_about_72 rfl ?_
    refine x_getR h hO.1.1 f_X11_23 rfl (lg_code hO.1).1 dX11_about_73 ?_
    refine x_getIv h (lg_code hO.1).2.1 f_X11_108 rfl (cv_l hO) dX11_about_76 ?_
    exact x_iret h hQ rfl dX11_about_79 ⟨rfl, rfl, _, rfl, rfl, hI0, oO_refl o M⟩
  · refine x_tin h 80 dX11_about_1 (by decide) (by decide) (off := 79) (by decide) (by decide) ?_
    refine x_aload_n h dX11_about_80 rfl ?_
    refine x_getR h hO.1.1 f_X11_23 rfl (lg_code hO.1).1 dX11_about_81 ?_
    refine x_getIv h (lg_code hO.1).2.1 f_X11_111 rfl (cv_e hO) dX11_about_84 ?_
    exact x_iret h hQ rfl dX11_about_87 ⟨rfl, rfl, _, rfl, rfl, hI0, oO_refl o M⟩
  · refine x_tin h 88 dX11_about_1 (by decide) (by decide) (off := 87) (by decide) (by decide) ?_
    refine x_aload_n h dX11_about_88 rfl ?_
    refine x_getR h hO.1.1 f_X11_23 rfl (lg_code hO.1).1 dX11_about_89 ?_
    refine x_getIv h (lg_code hO.1).2.1 f_X11_114 rfl (cv_g hO) dX11_about_92 ?_
    exact x_iret h hQ rfl dX11_about_95 ⟨rfl, rfl, _, rfl, rfl, hI0, oO_refl o M⟩
  · refine x_tin h 96 dX11_about_1 (by decide) (by decide) (off := 95) (by decide) (by decide) ?_
    refine x_aload_n h dX11_about_96 rfl ?_
    refine x_getR h hO.1.1 f_X11_33 rfl (lg_setup hO.1).1 dX11_about_97 ?_
    refine x_getIv h (lg_setup hO.1).2.1 f_X11_117 rfl hO.2.2.2.2.1.1.2.2.2 dX11_about_100 ?_
    exact x_iret h hQ rfl dX11_about_103 ⟨rfl, rfl, _, rfl, rfl, hI0, oO_refl o M⟩
  · refine x_tin h 104 dX11_about_1 (by decide) (by decide) (off := 103) (by decide) (by decide) ?_
    refine x_aload_n h dX11_about_104 rfl ?_
    refine x_aload_n h dX11_about_105 rfl ?_
    refine x_getR h hO.1.1 f_X11_33 rfl (lg_setup hO.1).1 dX11_about_106 ?_
    refine x_cVr h ci_X11_view im_X11_view l_X11_120 ⟨Nat.le_of_ble_eq_true rfl, Nat.le_of_ble_eq_true rfl⟩ ⟨rfl, rfl⟩ ⟨Nat.zero_le _, Nat.zero_le _⟩ (c_X11_view hI0 (lg_setup hO.1).2 hO.2.2.2.2.1.1 (cv_6 hO) (by omega)) rfl rfl rfl rfl hO.1.1 (by decide) rfl dX11_about_109 (fun v109 M109 hp109 => ?_)
    obtain ⟨rfl, ⟨hO, hK⟩, ho109⟩ := hp109
    refine x_aload_n h dX11_about_112 rfl ?_
    refine x_aload_n h dX11_about_113 rfl ?_
    refine x_getR h hO.1.1 f_X11_33 rfl (lg_setup hO.1).1 dX11_about_114 ?_
    refine x_cVi h ci_X11_active im_X11_active l_X11_124 ⟨Nat.le_of_ble_eq_true rfl, Nat.le_of_ble_eq_true rfl⟩ ⟨rfl, rfl⟩ ⟨Nat.zero_le _, Nat.zero_le _⟩ (c_X11_active hO (lg_setup hO.1).2.1 hO.2.2.2.2.1.1.2.2.2 (cv_32 hO)) rfl rfl rfl rfl hO.1.1 (by decide) rfl dX11_about_117 (fun v117 M117 hp117 => ?_)
    obtain ⟨rfl, hM⟩ := hp117
    obtain rfl := hM.symm
    clear hM
    refine x_cVi h ci_X0_proved im_X0_proved l_X11_128 ⟨Nat.le_of_ble_eq_true rfl, Nat.le_of_ble_eq_true rfl⟩ ⟨rfl, rfl⟩ ⟨Nat.zero_le _, Nat.zero_le _⟩ (s_proved hK (act_lt _ _)) rfl rfl rfl rfl (lg_analysis hO.1).2.1 (by decide) rfl dX11_about_120 (fun v120 M120 hp120 => ?_)
    obtain ⟨rfl, hK, ho120⟩ := hp120
    have hO := cO_off hO ho120
    exact x_iret h hQ rfl dX11_about_123 ⟨rfl, rfl, _, rfl, rfl, (cKn_I ⟨hO, hK⟩), (oO_trans (oO_A ho109) (oO_A ho120))⟩
  · refine x_tin h 124 dX11_about_1 (by decide) (by decide) (off := 123) (by decide) (by decide) ?_
    refine x_aload_n h dX11_about_124 rfl ?_
    refine x_getR h hO.1.1 f_X11_23 rfl (lg_code hO.1).1 dX11_about_125 ?_
    refine x_aload_n h dX11_about_128 rfl ?_
    refine x_aload_n h dX11_about_129 rfl ?_
    refine x_getR h hO.1.1 f_X11_33 rfl (lg_setup hO.1).1 dX11_about_130 ?_
    refine x_cVr h ci_X11_view im_X11_view l_X11_120 ⟨Nat.le_of_ble_eq_true rfl, Nat.le_of_ble_eq_true rfl⟩ ⟨rfl, rfl⟩ ⟨Nat.zero_le _, Nat.zero_le _⟩ (c_X11_view hI0 (lg_setup hO.1).2 hO.2.2.2.2.1.1 (cv_6 hO) (by omega)) rfl rfl rfl rfl hO.1.1 (by decide) rfl dX11_about_133 (fun v133 M133 hp133 => ?_)
    obtain ⟨rfl, ⟨hO, hK⟩, ho133⟩ := hp133
    refine x_cVr h ci_X0_reached im_X0_reached l_X11_132 ⟨Nat.le_of_ble_eq_true rfl, Nat.le_of_ble_eq_true rfl⟩ ⟨rfl, rfl⟩ ⟨Nat.zero_le _, Nat.zero_le _⟩ (s_reached hK) rfl rfl rfl rfl (lg_analysis hO.1).2.1 (by decide) rfl dX11_about_136 (fun v136 M136 hp136 => ?_)
    obtain ⟨rfl, hK, ho136, h4⟩ := hp136
    have hO := cO_off hO ho136
    refine x_cVi h ci_X2_fulfilled im_X2_fulfilled l_X11_136 ⟨Nat.le_of_ble_eq_true rfl, Nat.le_of_ble_eq_true rfl⟩ ⟨rfl, rfl⟩ ⟨Nat.zero_le _, Nat.zero_le _⟩ (s_fulfilled hK h4) rfl rfl rfl rfl (lg_code hO.1).2.1 (by decide) rfl dX11_about_139 (fun v139 M139 hp139 => ?_)
    have hv := hp139.1
    have hM := hp139.2
    clear hp139
    rw [hv]
    clear hv v139
    obtain rfl := hM.symm
    clear hM
    exact x_iret h hQ rfl dX11_about_142 ⟨rfl, rfl, _, rfl, ⟨_, rcC_ok _ _, rfl⟩, (cKn_I ⟨hO, hK⟩), (oO_trans (oO_A ho133) (oO_A ho136))⟩
  · refine x_tin h 143 dX11_about_1 (by decide) (by decide) (off := 142) (by decide) (by decide) ?_
    refine x_aload_n h dX11_about_143 rfl ?_
    refine x_aload_n h dX11_about_144 rfl ?_
    refine x_getR h hO.1.1 f_X11_33 rfl (lg_setup hO.1).1 dX11_about_145 ?_
    refine x_cVr h ci_X11_view im_X11_view l_X11_120 ⟨Nat.le_of_ble_eq_true rfl, Nat.le_of_ble_eq_true rfl⟩ ⟨rfl, rfl⟩ ⟨Nat.zero_le _, Nat.zero_le _⟩ (c_X11_view hI0 (lg_setup hO.1).2 hO.2.2.2.2.1.1 (cv_6 hO) (by omega)) rfl rfl rfl rfl hO.1.1 (by decide) rfl dX11_about_148 (fun v148 M148 hp148 => ?_)
    obtain ⟨rfl, ⟨hO, hK⟩, ho148⟩ := hp148
    refine x_aload_n h dX11_about_151 rfl ?_
    refine x_aload_n h dX11_about_152 rfl ?_
    refine x_getR h hO.1.1 f_X11_33 rfl (lg_setup hO.1).1 dX11_about_153 ?_
    refine x_cVi h ci_X11_active im_X11_active l_X11_124 ⟨Nat.le_of_ble_eq_true rfl, Nat.le_of_ble_eq_true rfl⟩ ⟨rfl, rfl⟩ ⟨Nat.zero_le _, Nat.zero_le _⟩ (c_X11_active hO (lg_setup hO.1).2.1 hO.2.2.2.2.1.1.2.2.2 (cv_32 hO)) rfl rfl rfl rfl hO.1.1 (by decide) rfl dX11_about_156 (fun v156 M156 hp156 => ?_)
    obtain ⟨rfl, hM⟩ := hp156
    obtain rfl := hM.symm
    clear hM
    refine x_cVr h ci_X0_invariants im_X0_invariants l_X11_140 ⟨Nat.le_of_ble_eq_true rfl, Nat.le_of_ble_eq_true rfl⟩ ⟨rfl, rfl⟩ ⟨Nat.zero_le _, Nat.zero_le _⟩ (s_invariants hK (act_lt _ _)) rfl rfl rfl rfl (lg_analysis hO.1).2.1 (by decide) rfl dX11_about_159 (fun v159 M159 hp159 => ?_)
    obtain ⟨rfl, hK, ho159, h6n⟩ := hp159
    have hO := cO_off hO ho159
    obtain ⟨σ, hσ, htr, hiv⟩ := iv_of hK h6n (act_lt _ _)
    refine x_getR h (an_iv (lg_analysis hO.1).2).1 f_X11_144 rfl (an_iv (lg_analysis hO.1).2).2.1 dX11_about_162 ?_
    refine x_getR h (an_iv (lg_analysis hO.1).2).2.2.1.1 f_X11_150 rfl (fw_now (an_iv (lg_analysis hO.1).2).2.2.1).1 dX11_about_165 ?_
    refine x_cVi h ci_X9_count im_X9_count l_X11_155 ⟨Nat.le_of_ble_eq_true rfl, Nat.le_of_ble_eq_true rfl⟩ ⟨rfl, rfl⟩ ⟨Nat.zero_le _, Nat.zero_le _⟩ (c_X9_count (S := lcC (pgV V) su (nA (pgV V).1)) (fw_now (an_iv hK.1.1).2.2.1).2.1 (fi_now hK.1 (an_iv hK.1.1).2.2.1 hσ hiv.2.1)) rfl rfl rfl rfl (fw_now (an_iv (lg_analysis hO.1).2).2.2.1).2.1.1 (by decide) rfl dX11_about_168 (fun v168 M168 hp168 => ?_)
    have hv := hp168.1
    have hM := hp168.2
    clear hp168
    rw [hv]
    clear hv v168
    obtain rfl := hM.symm
    clear hM
    exact x_iret h hQ rfl dX11_about_171 ⟨rfl, rfl, _, rfl, rfl, (cKn_I ⟨hO, hK⟩), (oO_trans (oO_A ho148) (oO_A ho159))⟩
  · refine x_tin h 172 dX11_about_1 (by decide) (by decide) (off := 171) (by decide) (by decide) ?_
    refine x_aload_n h dX11_about_172 rfl ?_
    refine x_aload_n h dX11_about_173 rfl ?_
    refine x_getR h hO.1.1 f_X11_33 rfl (lg_setup hO.1).1 dX11_about_174 ?_
    refine x_cVr h ci_X11_view im_X11_view l_X11_120 ⟨Nat.le_of_ble_eq_true rfl, Nat.le_of_ble_eq_true rfl⟩ ⟨rfl, rfl⟩ ⟨Nat.zero_le _, Nat.zero_le _⟩ (c_X11_view hI0 (lg_setup hO.1).2 hO.2.2.2.2.1.1 (cv_6 hO) (by omega)) rfl rfl rfl rfl hO.1.1 (by decide) rfl dX11_about_177 (fun v177 M177 hp177 => ?_)
    obtain ⟨rfl, ⟨hO, hK⟩, ho177⟩ := hp177
    refine x_cVr h ci_X0_reached im_X0_reached l_X11_132 ⟨Nat.le_of_ble_eq_true rfl, Nat.le_of_ble_eq_true rfl⟩ ⟨rfl, rfl⟩ ⟨Nat.zero_le _, Nat.zero_le _⟩ (s_reached hK) rfl rfl rfl rfl (lg_analysis hO.1).2.1 (by decide) rfl dX11_about_180 (fun v180 M180 hp180 => ?_)
    obtain ⟨rfl, hK, ho180, h4⟩ := hp180
    have hO := cO_off hO ho180
    obtain ⟨σ, hσ, htr, hfi⟩ := rc_of hK h4
    refine x_getR h (an_fl (lg_analysis hO.1).2).1 f_X11_150 rfl (fw_now (an_fl (lg_analysis hO.1).2)).1 dX11_about_183 ?_
    refine x_cVi h ci_X9_count im_X9_count l_X11_155 ⟨Nat.le_of_ble_eq_true rfl, Nat.le_of_ble_eq_true rfl⟩ ⟨rfl, rfl⟩ ⟨Nat.zero_le _, Nat.zero_le _⟩ (c_X9_count (S := rcC (pgV V).1 (begS su.1) (nA (pgV V).1)) (fw_now (an_fl hK.1.1)).2.1 (fi_now hK.1 (an_fl hK.1.1) hσ hfi)) rfl rfl rfl rfl (fw_now (an_fl (lg_analysis hO.1).2)).2.1.1 (by decide) rfl dX11_about_186 (fun v186 M186 hp186 => ?_)
    have hv := hp186.1
    have hM := hp186.2
    clear hp186
    rw [hv]
    clear hv v186
    obtain rfl := hM.symm
    clear hM
    exact x_iret h hQ rfl dX11_about_189 ⟨rfl, rfl, _, rfl, ⟨_, rcC_ok _ _, rfl⟩, (cKn_I ⟨hO, hK⟩), (oO_trans (oO_A ho177) (oO_A ho180))⟩
  · refine x_tin h 190 dX11_about_1 (by decide) (by decide) (off := 189) (by decide) (by decide) ?_
    refine x_aload_n h dX11_about_190 rfl ?_
    refine x_getIv h hO.1.1 f_X11_96 rfl hO.2.2.2.2.2.1.2.1 dX11_about_191 ?_
    exact x_iret h hQ rfl dX11_about_194 ⟨rfl, rfl, _, rfl, rfl, hI0, oO_refl o M⟩
  · refine x_tin h 195 dX11_about_1 (by decide) (by decide) (off := 194) (by decide) (by decide) ?_
    refine x_aload_n h dX11_about_195 rfl ?_
    refine x_getIv h hO.1.1 f_X11_159 rfl hO.2.2.2.2.2.2.2.1.2.1 dX11_about_196 ?_
    exact x_iret h hQ rfl dX11_about_199 ⟨rfl, rfl, _, rfl, rfl, hI0, oO_refl o M⟩
  · refine x_tin h 200 dX11_about_1 (by decide) (by decide) (off := 199) (by decide) (by decide) ?_
    refine x_aload_n h dX11_about_200 rfl ?_
    refine x_getIv h hO.1.1 f_X11_82 rfl hO.2.1.2.1 dX11_about_201 ?_
    exact x_iret h hQ rfl dX11_about_204 ⟨rfl, rfl, _, rfl, rfl, hI0, oO_refl o M⟩
theorem c_X11_loop_0 {Γ : GT} {G : GG} {M : MM} {o : Nat} {b : Bool} {S V : RT} {tx : Nat → Nat} {len : Nat} {su : SU} {hy : HY} {kp : KP} {ze : SE} {sd : Int64} (hI : cInv G M o b S V tx len su hy kp ze sd) {x w : Int32} (hx : ∀ n, n < V 0 24 → x ≠ nI n) : Calls Γ q_X11_loop [.ref o, .int x, .int w] G M (rI (fun y M' => y = -1 ∧ cInv G M' o b S V (tx) (len) (su) (hy) (kp) (ze) (sd) ∧ offO o M M')) := by
  have hI0 := hI
  obtain ⟨hO, hA⟩ := hI
  have hO0 := hO
  obtain ⟨v22, v23, v24, v25, v26⟩ := cv_ok hO
  refine Calls.intro (by decide +kernel) (Nat.le_of_ble_eq_true rfl) (fun z E h hQ => ?_)
  refine x_loc (L' := [some (.ref o), some (.int x), some (.int w), none]) rfl ?_
  refine x_iload_n h dX11_loop_0 rfl ?_
  refine x_if_lt h 20 dX11_loop_1 (by decide) (fun c1 => ?_) (fun c1 => ?_)
  · refine x_icm1 h dX11_loop_20 ?_
    exact x_iret h hQ rfl dX11_loop_21 ⟨rfl, rfl, _, rfl, rfl, hI0, oO_refl o M⟩
  · refine x_iload_n h dX11_loop_4 rfl ?_
    refine x_aload_n h dX11_loop_5 rfl ?_
    refine x_getR h hO.1.1 f_X11_23 rfl (lg_code hO.1).1 dX11_loop_6 ?_
    refine x_getIv h (lg_code hO.1).2.1 f_X11_108 rfl (cv_l hO) dX11_loop_9 ?_
    refine x_icmp_ge h 20 dX11_loop_12 (by decide) (fun c12 => ?_) (fun c12 => ?_)
    · refine x_icm1 h dX11_loop_20 ?_
      exact x_iret h hQ rfl dX11_loop_21 ⟨rfl, rfl, _, rfl, rfl, hI0, oO_refl o M⟩
    · exact absurd (lt_of_nle c12) (rng_lt (by omega) hx c1)
theorem c_X11_loop_1 {Γ : GT} {G : GG} {M : MM} {o : Nat} {b : Bool} {S V : RT} {tx : Nat → Nat} {len : Nat} {su : SU} {hy : HY} {kp : KP} {ze : SE} {sd : Int64} (hI : cInv G M o b S V tx len su hy kp ze sd) {n : Nat} {w : Int32} (hn : n < V 0 24) (hw : ∀ n, n < 4 → w ≠ nI n) : Calls Γ q_X11_loop [.ref o, .int (nI n), .int w] G M (rI (fun y M' => y = -2 ∧ cInv G M' o b S V (tx) (len) (su) (hy) (kp) (ze) (sd) ∧ offO o M M')) := by
  have hI0 := hI
  obtain ⟨hO, hA⟩ := hI
  have hO0 := hO
  obtain ⟨v22, v23, v24, v25, v26⟩ := cv_ok hO
  refine Calls.intro (by decide +kernel) (Nat.le_of_ble_eq_true rfl) (fun z E h hQ => ?_)
  refine x_loc (L' := [some (.ref o), some (.int (nI n)), some (.int w), none]) rfl ?_
  refine x_iload_n h dX11_loop_0 rfl ?_
  refine x_if_lt h 20 dX11_loop_1 (by decide) (fun c1 => ?_) (fun c1 => ?_)
  · exact (nI_nneg (by omega) c1).elim
  · refine x_iload_n h dX11_loop_4 rfl ?_
    refine x_aload_n h dX11_loop_5 rfl ?_
    refine x_getR h hO.1.1 f_X11_23 rfl (lg_code hO.1).1 dX11_loop_6 ?_
    refine x_getIv h (lg_code hO.1).2.1 f_X11_108 rfl (cv_l hO) dX11_loop_9 ?_
    refine x_icmp_ge h 20 dX11_loop_12 (by decide) (fun c12 => ?_) (fun c12 => ?_)
    · exact absurd ((nI_le_iff (by omega) (by omega)).mp c12) (by omega)
    · refine x_iload_n h dX11_loop_15 rfl ?_
      refine x_in3 h dX11_loop_16 ?_
      refine x_icmp_lt h 22 dX11_loop_17 (by decide) (fun c17 => ?_) (fun c17 => ?_)
      · refine x_iload_n h dX11_loop_22 rfl ?_
        refine x_if_lt h 31 dX11_loop_23 (by decide) (fun c23 => ?_) (fun c23 => ?_)
        · refine x_bipush h (-2) (by decide) dX11_loop_31 ?_
          exact x_iret h hQ rfl dX11_loop_33 ⟨rfl, rfl, _, rfl, rfl, hI0, oO_refl o M⟩
        · refine x_iload_n h dX11_loop_26 rfl ?_
          refine x_in3 h dX11_loop_27 ?_
          refine x_icmp_le h 34 dX11_loop_28 (by decide) (fun c28 => ?_) (fun c28 => ?_)
          · exact absurd c28 (rng_le (by decide) hw c23)
          · refine x_bipush h (-2) (by decide) dX11_loop_31 ?_
            exact x_iret h hQ rfl dX11_loop_33 ⟨rfl, rfl, _, rfl, rfl, hI0, oO_refl o M⟩
      · exact absurd ((nI_lt_iff (by omega) (by omega)).mpr (by omega)) c17
theorem c_X11_loop_2 {Γ : GT} {G : GG} {M : MM} {o : Nat} {b : Bool} {S V : RT} {tx : Nat → Nat} {len : Nat} {su : SU} {hy : HY} {kp : KP} {ze : SE} {sd : Int64} (hI : cInv G M o b S V tx len su hy kp ze sd) {n w : Nat} (hn : n < V 0 24) (hw : w < 4) : Calls Γ q_X11_loop [.ref o, .int (nI n), .int (nI w)] G M (rI (fun y M' => lpS (pgV V) su n w y ∧ cInv G M' o b S V (tx) (len) (su) (hy) (kp) (ze) (sd) ∧ offO o M M')) := by
  have hI0 := hI
  obtain ⟨hO, hA⟩ := hI
  have hO0 := hO
  obtain ⟨v22, v23, v24, v25, v26⟩ := cv_ok hO
  refine Calls.intro (by decide +kernel) (Nat.le_of_ble_eq_true rfl) (fun z E h hQ => ?_)
  refine x_loc (L' := [some (.ref o), some (.int (nI n)), some (.int (nI w)), none]) rfl ?_
  refine x_iload_n h dX11_loop_0 rfl ?_
  refine x_if_lt h 20 dX11_loop_1 (by decide) (fun c1 => ?_) (fun c1 => ?_)
  · exact (nI_nneg (by omega) c1).elim
  · refine x_iload_n h dX11_loop_4 rfl ?_
    refine x_aload_n h dX11_loop_5 rfl ?_
    refine x_getR h hO.1.1 f_X11_23 rfl (lg_code hO.1).1 dX11_loop_6 ?_
    refine x_getIv h (lg_code hO.1).2.1 f_X11_108 rfl (cv_l hO) dX11_loop_9 ?_
    refine x_icmp_ge h 20 dX11_loop_12 (by decide) (fun c12 => ?_) (fun c12 => ?_)
    · exact absurd ((nI_le_iff (by omega) (by omega)).mp c12) (by omega)
    · refine x_iload_n h dX11_loop_15 rfl ?_
      refine x_in3 h dX11_loop_16 ?_
      refine x_icmp_lt h 22 dX11_loop_17 (by decide) (fun c17 => ?_) (fun c17 => ?_)
      · refine x_iload_n h dX11_loop_22 rfl ?_
        refine x_if_lt h 31 dX11_loop_23 (by decide) (fun c23 => ?_) (fun c23 => ?_)
        · exact (nI_nneg (by omega) c23).elim
        · refine x_iload_n h dX11_loop_26 rfl ?_
          refine x_in3 h dX11_loop_27 ?_
          refine x_icmp_le h 34 dX11_loop_28 (by decide) (fun c28 => ?_) (fun c28 => ?_)
          · refine x_iload_n h dX11_loop_34 rfl ?_
            refine x_in2 h dX11_loop_35 ?_
            refine x_icmp_ne h 59 dX11_loop_36 (by decide) (fun c36 => ?_) (fun c36 => ?_)
            · have w2 : ¬ w = 2 := fun q => c36 (by rw [q])
              refine x_aload_n h dX11_loop_59 rfl ?_
              refine x_aload_n h dX11_loop_60 rfl ?_
              refine x_getR h hO.1.1 f_X11_33 rfl (lg_setup hO.1).1 dX11_loop_61 ?_
              refine x_cVr h ci_X11_view im_X11_view l_X11_120 ⟨Nat.le_of_ble_eq_true rfl, Nat.le_of_ble_eq_true rfl⟩ ⟨rfl, rfl⟩ ⟨Nat.zero_le _, Nat.zero_le _⟩ (c_X11_view hI0 (lg_setup hO.1).2 hO.2.2.2.2.1.1 (cv_6 hO) (by omega)) rfl rfl rfl rfl hO.1.1 (by decide) rfl dX11_loop_64 (fun v64 M64 hp64 => ?_)
              obtain ⟨rfl, ⟨hO, hK⟩, ho64⟩ := hp64
              refine x_aload_n h dX11_loop_67 rfl ?_
              refine x_aload_n h dX11_loop_68 rfl ?_
              refine x_getR h hO.1.1 f_X11_33 rfl (lg_setup hO.1).1 dX11_loop_69 ?_
              refine x_cVi h ci_X11_active im_X11_active l_X11_124 ⟨Nat.le_of_ble_eq_true rfl, Nat.le_of_ble_eq_true rfl⟩ ⟨rfl, rfl⟩ ⟨Nat.zero_le _, Nat.zero_le _⟩ (c_X11_active hO (lg_setup hO.1).2.1 hO.2.2.2.2.1.1.2.2.2 (cv_32 hO)) rfl rfl rfl rfl hO.1.1 (by decide) rfl dX11_loop_72 (fun v72 M72 hp72 => ?_)
              obtain ⟨rfl, hM⟩ := hp72
              obtain rfl := hM.symm
              clear hM
              refine x_cVr h ci_X0_invariants im_X0_invariants l_X11_140 ⟨Nat.le_of_ble_eq_true rfl, Nat.le_of_ble_eq_true rfl⟩ ⟨rfl, rfl⟩ ⟨Nat.zero_le _, Nat.zero_le _⟩ (s_invariants hK (act_lt _ _)) rfl rfl rfl rfl (lg_analysis hO.1).2.1 (by decide) rfl dX11_loop_75 (fun v75 M75 hp75 => ?_)
              obtain ⟨rfl, hK, ho75, h6n⟩ := hp75
              have hO := cO_off hO ho75
              obtain ⟨σ, hσ, htr, hiv⟩ := iv_of hK h6n (act_lt _ _)
              refine x_astore_n h dX11_loop_78 rfl rfl ?_
              dsimp only [List.set]
              refine x_iload_n h dX11_loop_79 rfl ?_
              refine x_if_ne h 90 dX11_loop_80 (by decide) (fun c80 => ?_) (fun c80 => ?_)
              · have w0 : ¬ w = 0 := fun q => c80 (by rw [q]; exact nI_0)
                refine x_iload_n h dX11_loop_90 rfl ?_
                refine x_in1 h dX11_loop_91 ?_
                refine x_icmp_ne h 110 dX11_loop_92 (by decide) (fun c92 => ?_) (fun c92 => ?_)
                · have w1 : ¬ w = 1 := fun q => c92 (by rw [q])
                  obtain rfl : w = 3 := by omega
                  refine x_aload_n h dX11_loop_110 rfl ?_
                  refine x_getR h (an_iv (lg_analysis hO.1).2).1 f_X11_144 rfl (an_iv (lg_analysis hO.1).2).2.1 dX11_loop_111 ?_
                  refine x_getR h (an_iv (lg_analysis hO.1).2).2.2.1.1 f_X11_162 rfl (fw_come (an_iv (lg_analysis hO.1).2).2.2.1).1 dX11_loop_114 ?_
                  refine x_iload_n h dX11_loop_117 rfl ?_
                  refine x_aald h n (fw_come (an_iv (lg_analysis hO.1).2).2.2.1).2.1 (by decide) (ix.ni (by omega) (by decide)) ((fw_come (an_iv hK.1.1).2.2.1).2.2 n (by omega)).1 dX11_loop_118 ?_
                  refine x_cVi h ci_X9_count im_X9_count l_X11_155 ⟨Nat.le_of_ble_eq_true rfl, Nat.le_of_ble_eq_true rfl⟩ ⟨rfl, rfl⟩ ⟨Nat.zero_le _, Nat.zero_le _⟩ (c_X9_count (S := lcC (pgV V) su (ndF V 6 n)) ((fw_come (an_iv hK.1.1).2.2.1).2.2 n (by omega)).2.1 (fi_come hK.1 (an_iv hK.1.1).2.2.1 hσ hiv.2.1 hn)) rfl rfl rfl rfl ((fw_come (an_iv hK.1.1).2.2.1).2.2 n (by omega)).2.1.1 (by decide) rfl dX11_loop_119 (fun v119 M119 hp119 => ?_)
                  have hv := hp119.1
                  have hM := hp119.2
                  clear hp119
                  rw [hv]
                  clear hv v119
                  obtain rfl := hM.symm
                  clear hM
                  exact x_iret h hQ rfl dX11_loop_122 ⟨rfl, rfl, _, rfl, rfl, (cKn_I ⟨hO, hK⟩), (oO_trans (oO_A ho64) (oO_A ho75))⟩
                · obtain rfl : w = 1 := nI_small 1 (by omega) (by decide) c92
                  refine x_aload_n h dX11_loop_95 rfl ?_
                  refine x_getR h (an_iv (lg_analysis hO.1).2).1 f_X11_144 rfl (an_iv (lg_analysis hO.1).2).2.1 dX11_loop_96 ?_
                  refine x_getR h (an_iv (lg_analysis hO.1).2).2.2.1.1 f_X11_169 rfl (fw_inside (an_iv (lg_analysis hO.1).2).2.2.1).1 dX11_loop_99 ?_
                  refine x_iload_n h dX11_loop_102 rfl ?_
                  refine x_aald h n (fw_inside (an_iv (lg_analysis hO.1).2).2.2.1).2.1 (by decide) (ix.ni (by omega) (by decide)) ((fw_inside (an_iv hK.1.1).2.2.1).2.2 n (by omega)).1 dX11_loop_103 ?_
                  refine x_cVi h ci_X9_count im_X9_count l_X11_155 ⟨Nat.le_of_ble_eq_true rfl, Nat.le_of_ble_eq_true rfl⟩ ⟨rfl, rfl⟩ ⟨Nat.zero_le _, Nat.zero_le _⟩ (c_X9_count (S := agS (pgV V).2.1 (hsP (pgV V) su n)) ((fw_inside (an_iv hK.1.1).2.2.1).2.2 n (by omega)).2.1 (hasS_congr (hσ _ ((fw_inside (an_iv hK.1.1).2.2.1).2.2 n (by omega)).2.2) (fun u hu => hiv.2.2 n u (by omega) hu))) rfl rfl rfl rfl ((fw_inside (an_iv hK.1.1).2.2.1).2.2 n (by omega)).2.1.1 (by decide) rfl dX11_loop_104 (fun v104 M104 hp104 => ?_)
                  have hv := hp104.1
                  have hM := hp104.2
                  clear hp104
                  rw [hv]
                  clear hv v104
                  obtain rfl := hM.symm
                  clear hM
                  refine x_goto h 122 dX11_loop_107 (by decide) ?_
                  exact x_iret h hQ rfl dX11_loop_122 ⟨rfl, rfl, _, rfl, rfl, (cKn_I ⟨hO, hK⟩), (oO_trans (oO_A ho64) (oO_A ho75))⟩
              · obtain rfl : w = 0 := nI_small 0 (by omega) (by decide) (c80.trans nI_0.symm)
                refine x_aload_n h dX11_loop_83 rfl ?_
                refine x_getR h (an_iv (lg_analysis hO.1).2).1 f_X11_166 rfl (an_iv (lg_analysis hO.1).2).2.2.2.1 dX11_loop_84 ?_
                refine x_iload_n h dX11_loop_87 rfl ?_
                refine x_ialdv h n (an_iv (lg_analysis hO.1).2).2.2.2.2 (ix.ni (by omega) (by decide)) (show _ = nI (hsP (pgV V) su n) from hiv.1 n (by omega)) dX11_loop_88 ?_
                exact x_iret h hQ rfl dX11_loop_89 ⟨rfl, rfl, _, rfl, rfl, (cKn_I ⟨hO, hK⟩), (oO_trans (oO_A ho64) (oO_A ho75))⟩
            · obtain rfl : w = 2 := nI_small 2 (by omega) (by decide) c36
              refine x_aload_n h dX11_loop_39 rfl ?_
              refine x_aload_n h dX11_loop_40 rfl ?_
              refine x_getR h hO.1.1 f_X11_33 rfl (lg_setup hO.1).1 dX11_loop_41 ?_
              refine x_cVr h ci_X11_view im_X11_view l_X11_120 ⟨Nat.le_of_ble_eq_true rfl, Nat.le_of_ble_eq_true rfl⟩ ⟨rfl, rfl⟩ ⟨Nat.zero_le _, Nat.zero_le _⟩ (c_X11_view hI0 (lg_setup hO.1).2 hO.2.2.2.2.1.1 (cv_6 hO) (by omega)) rfl rfl rfl rfl hO.1.1 (by decide) rfl dX11_loop_44 (fun v44 M44 hp44 => ?_)
              obtain ⟨rfl, ⟨hO, hK⟩, ho44⟩ := hp44
              refine x_cVr h ci_X0_reached im_X0_reached l_X11_132 ⟨Nat.le_of_ble_eq_true rfl, Nat.le_of_ble_eq_true rfl⟩ ⟨rfl, rfl⟩ ⟨Nat.zero_le _, Nat.zero_le _⟩ (s_reached hK) rfl rfl rfl rfl (lg_analysis hO.1).2.1 (by decide) rfl dX11_loop_47 (fun v47 M47 hp47 => ?_)
              obtain ⟨rfl, hK, ho47, h4⟩ := hp47
              have hO := cO_off hO ho47
              obtain ⟨σ, hσ, htr, hfi⟩ := rc_of hK h4
              refine x_getR h (an_fl (lg_analysis hO.1).2).1 f_X11_162 rfl (fw_come (an_fl (lg_analysis hO.1).2)).1 dX11_loop_50 ?_
              refine x_iload_n h dX11_loop_53 rfl ?_
              refine x_aald h n (fw_come (an_fl (lg_analysis hO.1).2)).2.1 (by decide) (ix.ni (by omega) (by decide)) ((fw_come (an_fl hK.1.1)).2.2 n (by omega)).1 dX11_loop_54 ?_
              refine x_cVi h ci_X9_count im_X9_count l_X11_155 ⟨Nat.le_of_ble_eq_true rfl, Nat.le_of_ble_eq_true rfl⟩ ⟨rfl, rfl⟩ ⟨Nat.zero_le _, Nat.zero_le _⟩ (c_X9_count (S := rcC (pgV V).1 (begS su.1) (ndF V 6 n)) ((fw_come (an_fl hK.1.1)).2.2 n (by omega)).2.1 (fi_come hK.1 (an_fl hK.1.1) hσ hfi hn)) rfl rfl rfl rfl ((fw_come (an_fl hK.1.1)).2.2 n (by omega)).2.1.1 (by decide) rfl dX11_loop_55 (fun v55 M55 hp55 => ?_)
              have hv := hp55.1
              have hM := hp55.2
              clear hp55
              rw [hv]
              clear hv v55
              obtain rfl := hM.symm
              clear hM
              exact x_iret h hQ rfl dX11_loop_58 ⟨rfl, rfl, _, rfl, ⟨_, rcC_ok _ _, rfl⟩, (cKn_I ⟨hO, hK⟩), (oO_trans (oO_A ho44) (oO_A ho47))⟩
          · exact absurd ((nI_le_iff (by omega) (by omega)).mpr (by omega)) c28
      · exact absurd ((nI_lt_iff (by omega) (by omega)).mpr (by omega)) c17
theorem c_X11_check_0 {Γ : GT} {G : GG} {M : MM} {o : Nat} {b : Bool} {S V : RT} {tx : Nat → Nat} {len : Nat} {su : SU} {hy : HY} {kp : KP} {ze : SE} {sd : Int64} (hI : cInv G M o b S V tx len su hy kp ze sd) {x w : Int32} (hx : ∀ n, n < V 0 23 → x ≠ nI n) : Calls Γ q_X11_check [.ref o, .int x, .int w] G M (rI (fun y M' => y = -1 ∧ cInv G M' o b S V (tx) (len) (su) (hy) (kp) (ze) (sd) ∧ offO o M M')) := by
  have hI0 := hI
  obtain ⟨hO, hA⟩ := hI
  have hO0 := hO
  obtain ⟨v22, v23, v24, v25, v26⟩ := cv_ok hO
  refine Calls.intro (by decide +kernel) (Nat.le_of_ble_eq_true rfl) (fun z E h hQ => ?_)
  refine x_loc (L' := [some (.ref o), some (.int x), some (.int w), none, none, none]) rfl ?_
  refine x_iload_n h dX11_check_0 rfl ?_
  refine x_if_lt h 20 dX11_check_1 (by decide) (fun c1 => ?_) (fun c1 => ?_)
  · refine x_icm1 h dX11_check_20 ?_
    exact x_iret h hQ rfl dX11_check_21 ⟨rfl, rfl, _, rfl, rfl, hI0, oO_refl o M⟩
  · refine x_iload_n h dX11_check_4 rfl ?_
    refine x_aload_n h dX11_check_5 rfl ?_
    refine x_getR h hO.1.1 f_X11_23 rfl (lg_code hO.1).1 dX11_check_6 ?_
    refine x_getIv h (lg_code hO.1).2.1 f_X11_105 rfl (cv_k hO) dX11_check_9 ?_
    refine x_icmp_ge h 20 dX11_check_12 (by decide) (fun c12 => ?_) (fun c12 => ?_)
    · refine x_icm1 h dX11_check_20 ?_
      exact x_iret h hQ rfl dX11_check_21 ⟨rfl, rfl, _, rfl, rfl, hI0, oO_refl o M⟩
    · exact absurd (lt_of_nle c12) (rng_lt (by omega) hx c1)
theorem c_X11_check_1 {Γ : GT} {G : GG} {M : MM} {o : Nat} {b : Bool} {S V : RT} {tx : Nat → Nat} {len : Nat} {su : SU} {hy : HY} {kp : KP} {ze : SE} {sd : Int64} (hI : cInv G M o b S V tx len su hy kp ze sd) {n : Nat} {w : Int32} (hn : n < V 0 23) (hw : ∀ n, n < 4 → w ≠ nI n) : Calls Γ q_X11_check [.ref o, .int (nI n), .int w] G M (rI (fun y M' => y = -2 ∧ cInv G M' o b S V (tx) (len) (su) (hy) (kp) (ze) (sd) ∧ offO o M M')) := by
  have hI0 := hI
  obtain ⟨hO, hA⟩ := hI
  have hO0 := hO
  obtain ⟨v22, v23, v24, v25, v26⟩ := cv_ok hO
  refine Calls.intro (by decide +kernel) (Nat.le_of_ble_eq_true rfl) (fun z E h hQ => ?_)
  refine x_loc (L' := [some (.ref o), some (.int (nI n)), some (.int w), none, none, none]) rfl ?_
  refine x_iload_n h dX11_check_0 rfl ?_
  refine x_if_lt h 20 dX11_check_1 (by decide) (fun c1 => ?_) (fun c1 => ?_)
  · exact (nI_nneg (by omega) c1).elim
  · refine x_iload_n h dX11_check_4 rfl ?_
    refine x_aload_n h dX11_check_5 rfl ?_
    refine x_getR h hO.1.1 f_X11_23 rfl (lg_code hO.1).1 dX11_check_6 ?_
    refine x_getIv h (lg_code hO.1).2.1 f_X11_105 rfl (cv_k hO) dX11_check_9 ?_
    refine x_icmp_ge h 20 dX11_check_12 (by decide) (fun c12 => ?_) (fun c12 => ?_)
    · exact absurd ((nI_le_iff (by omega) (by omega)).mp c12) (by omega)
    · refine x_iload_n h dX11_check_15 rfl ?_
      refine x_in4 h dX11_check_16 ?_
      refine x_icmp_lt h 22 dX11_check_17 (by decide) (fun c17 => ?_) (fun c17 => ?_)
      · refine x_iload_n h dX11_check_22 rfl ?_
        refine x_if_lt h 31 dX11_check_23 (by decide) (fun c23 => ?_) (fun c23 => ?_)
        · refine x_bipush h (-2) (by decide) dX11_check_31 ?_
          exact x_iret h hQ rfl dX11_check_33 ⟨rfl, rfl, _, rfl, rfl, hI0, oO_refl o M⟩
        · refine x_iload_n h dX11_check_26 rfl ?_
          refine x_in3 h dX11_check_27 ?_
          refine x_icmp_le h 34 dX11_check_28 (by decide) (fun c28 => ?_) (fun c28 => ?_)
          · exact absurd c28 (rng_le (by decide) hw c23)
          · refine x_bipush h (-2) (by decide) dX11_check_31 ?_
            exact x_iret h hQ rfl dX11_check_33 ⟨rfl, rfl, _, rfl, rfl, hI0, oO_refl o M⟩
      · exact absurd ((nI_lt_iff (by omega) (by omega)).mpr (by omega)) c17
theorem c_X11_check_2 {Γ : GT} {G : GG} {M : MM} {o : Nat} {b : Bool} {S V : RT} {tx : Nat → Nat} {len : Nat} {su : SU} {hy : HY} {kp : KP} {ze : SE} {sd : Int64} (hI : cInv G M o b S V tx len su hy kp ze sd) {n w : Nat} (hn : n < V 0 23) (hw : w < 4) : Calls Γ q_X11_check [.ref o, .int (nI n), .int (nI w)] G M (rI (fun y M' => ckS (pgV V) su n w y ∧ cInv G M' o b S V (tx) (len) (su) (hy) (kp) (ze) (sd) ∧ offO o M M')) := by
  have hI0 := hI
  obtain ⟨hO, hA⟩ := hI
  have hO0 := hO
  obtain ⟨v22, v23, v24, v25, v26⟩ := cv_ok hO
  refine Calls.intro (by decide +kernel) (Nat.le_of_ble_eq_true rfl) (fun z E h hQ => ?_)
  refine x_loc (L' := [some (.ref o), some (.int (nI n)), some (.int (nI w)), none, none, none]) rfl ?_
  have rest : ∀ (N : MM) (f : Nat) (C : NS) (l3 : Option Value), cO G N o b S V tx len su hy kp ze sd → aK G N (o + 265) (cd o b) S V su.1 → offO o M N → flowW G N.2.2 (DG G) f → (∃ σ, hasA G N σ ∧ trS σ (cd o b) S ∧ fiE (aT S) f σ C) → (w < 2 → ckS (pgV V) su n w (nI (fb_ct (C (ndF V 5 n)) 216))) → (¬ w < 2 → ckS (pgV V) su n w (fstV (fun s => C (ndF V 5 n) s && !cndT (cA (pgV V).1 (ndF V 5 n)) s))) → X Γ E 0 0 G z N 92 [some (.ref o), some (.int (nI n)), some (.int (nI w)), l3, some (.ref f), none] [] := by
    intro N f C l3 hO hK ho hfw hex y1 y2
    obtain ⟨σ, hσ, htr, hfi⟩ := hex
    have hcf := fi_chk hK.1 hfw hσ hfi hn
    have htc := fi_tru hK.1 hσ htr hn
    have e23 := (pr_n hO.2.2.2.1.2).2.1
    obtain ⟨-, -, -, -, -, l5⟩ := ck_nd hO.2.2.2.1.2 (i := n) (by omega)
    have hu : S 0 3 ≤ 20 := by have := hO.2.2.2.1.2.1.2.1.2.1; omega
    have hrf := hO.2.2.2.1.1.2 4 n (Or.inr (Or.inl ⟨rfl, by omega⟩))
    have hcc := (lg_code hO.1).2.2.2.2.2.2.2.1 (S 4 n) hrf.2
    refine x_aload h dX11_check_92 rfl ?_
    refine x_getR h hfw.1 f_X11_172 rfl (fw_check hfw).1 dX11_check_94 ?_
    refine x_iload_n h dX11_check_97 rfl ?_
    refine x_aald h n (fw_check hfw).2.1 (by decide) (ix.ni (by omega) (by decide)) ((fw_check hfw).2.2 n (by omega)).1 dX11_check_98 ?_
    refine x_astore h dX11_check_99 rfl rfl ?_
    dsimp only [List.set]
    refine x_iload_n h dX11_check_101 rfl ?_
    refine x_in2 h dX11_check_102 ?_
    refine x_icmp_ge h 114 dX11_check_103 (by decide) (fun c103 => ?_) (fun c103 => ?_)
    · have w2 : ¬ w < 2 := by
        have := (nI_le_iff (by decide) (by omega)).mp c103
        omega
      refine x_aload h dX11_check_114 rfl ?_
      refine x_aload_n h dX11_check_116 rfl ?_
      refine x_getR h hO.1.1 f_X11_23 rfl (lg_code hO.1).1 dX11_check_117 ?_
      refine x_getR h (lg_code hO.1).2.1 f_X11_175 rfl (lg_code hO.1).2.2.2.2.2.2.2.2.2.2.1 dX11_check_120 ?_
      refine x_iload_n h dX11_check_123 rfl ?_
      refine x_aald h n (lg_code hO.1).2.2.2.2.2.2.2.2.2.2.2 (by decide) (ix.ni (by omega) (by decide)) hrf.1 dX11_check_124 ?_
      refine x_getR h hcc.2.1 f_X11_179 rfl hcc.2.2.1 dX11_check_125 ?_
      refine x_cVi h ci_X9_smallestOutside im_X9_smallestOutside l_X11_184 ⟨Nat.le_of_ble_eq_true rfl, Nat.le_of_ble_eq_true rfl⟩ ⟨rfl, rfl⟩ ⟨Nat.zero_le _, Nat.zero_le _⟩ (c_X9_smallestOutside (S := C (ndF V 5 n)) (T := cndT (cA (pgV V).1 (ndF V 5 n))) ((fw_check hfw).2.2 n (by omega)).2.1 hcf hcc.2.2.2 htc) rfl rfl rfl rfl ((fw_check hfw).2.2 n (by omega)).2.1.1 (by decide) rfl dX11_check_128 (fun v128 M128 hp128 => ?_)
      have hv := hp128.1
      have hM := hp128.2
      clear hp128
      rw [hv]
      clear hv v128
      obtain rfl := hM.symm
      clear hM
      exact x_iret h hQ rfl dX11_check_131 ⟨rfl, rfl, _, rfl, y2 w2, cKn_I ⟨hO, hK⟩, ho⟩
    · have w2 : w < 2 := by
        have := mt (nI_le_iff (by decide) (by omega)).mpr c103
        omega
      refine x_aload h dX11_check_106 rfl ?_
      refine x_cVi h ci_X9_count im_X9_count l_X11_155 ⟨Nat.le_of_ble_eq_true rfl, Nat.le_of_ble_eq_true rfl⟩ ⟨rfl, rfl⟩ ⟨Nat.zero_le _, Nat.zero_le _⟩ (c_X9_count (S := C (ndF V 5 n)) ((fw_check hfw).2.2 n (by omega)).2.1 hcf) rfl rfl rfl rfl ((fw_check hfw).2.2 n (by omega)).2.1.1 (by decide) rfl dX11_check_108 (fun v108 M108 hp108 => ?_)
      have hv := hp108.1
      have hM := hp108.2
      clear hp108
      rw [hv]
      clear hv v108
      obtain rfl := hM.symm
      clear hM
      refine x_goto h 131 dX11_check_111 (by decide) ?_
      exact x_iret h hQ rfl dX11_check_131 ⟨rfl, rfl, _, rfl, y1 w2, cKn_I ⟨hO, hK⟩, ho⟩
  refine x_iload_n h dX11_check_0 rfl ?_
  refine x_if_lt h 20 dX11_check_1 (by decide) (fun c1 => ?_) (fun c1 => ?_)
  · exact (nI_nneg (by omega) c1).elim
  · refine x_iload_n h dX11_check_4 rfl ?_
    refine x_aload_n h dX11_check_5 rfl ?_
    refine x_getR h hO.1.1 f_X11_23 rfl (lg_code hO.1).1 dX11_check_6 ?_
    refine x_getIv h (lg_code hO.1).2.1 f_X11_105 rfl (cv_k hO) dX11_check_9 ?_
    refine x_icmp_ge h 20 dX11_check_12 (by decide) (fun c12 => ?_) (fun c12 => ?_)
    · exact absurd ((nI_le_iff (by omega) (by omega)).mp c12) (by omega)
    · refine x_iload_n h dX11_check_15 rfl ?_
      refine x_in4 h dX11_check_16 ?_
      refine x_icmp_lt h 22 dX11_check_17 (by decide) (fun c17 => ?_) (fun c17 => ?_)
      · refine x_iload_n h dX11_check_22 rfl ?_
        refine x_if_lt h 31 dX11_check_23 (by decide) (fun c23 => ?_) (fun c23 => ?_)
        · exact (nI_nneg (by omega) c23).elim
        · refine x_iload_n h dX11_check_26 rfl ?_
          refine x_in3 h dX11_check_27 ?_
          refine x_icmp_le h 34 dX11_check_28 (by decide) (fun c28 => ?_) (fun c28 => ?_)
          · refine x_iload_n h dX11_check_34 rfl ?_
            refine x_in1 h dX11_check_35 ?_
            refine x_icmp_eq h 44 dX11_check_36 (by decide) (fun c36 => ?_) (fun c36 => ?_)
            · have w1 : w = 1 := nI_small 1 (by omega) (by decide) c36
              refine x_in1 h dX11_check_44 ?_
              refine x_goto h 49 dX11_check_45 (by decide) ?_
              refine x_istore_n h dX11_check_49 rfl rfl ?_
              dsimp only [List.set]
              refine x_iload_n h dX11_check_50 rfl ?_
              refine x_if_eq h 68 dX11_check_51 (by decide) (fun c51 => ?_) (fun c51 => ?_)
              · exact absurd c51 (by decide)
              · refine x_aload_n h dX11_check_54 rfl ?_
                refine x_aload_n h dX11_check_55 rfl ?_
                refine x_getR h hO.1.1 f_X11_33 rfl (lg_setup hO.1).1 dX11_check_56 ?_
                refine x_cVr h ci_X11_view im_X11_view l_X11_120 ⟨Nat.le_of_ble_eq_true rfl, Nat.le_of_ble_eq_true rfl⟩ ⟨rfl, rfl⟩ ⟨Nat.zero_le _, Nat.zero_le _⟩ (c_X11_view hI0 (lg_setup hO.1).2 hO.2.2.2.2.1.1 (cv_6 hO) (by omega)) rfl rfl rfl rfl hO.1.1 (by decide) rfl dX11_check_59 (fun v59 M59 hp59 => ?_)
                obtain ⟨rfl, ⟨hO, hK⟩, ho59⟩ := hp59
                refine x_cVr h ci_X0_reached im_X0_reached l_X11_132 ⟨Nat.le_of_ble_eq_true rfl, Nat.le_of_ble_eq_true rfl⟩ ⟨rfl, rfl⟩ ⟨Nat.zero_le _, Nat.zero_le _⟩ (s_reached hK) rfl rfl rfl rfl (lg_analysis hO.1).2.1 (by decide) rfl dX11_check_62 (fun v62 M62 hp62 => ?_)
                obtain ⟨rfl, hK, ho62, h4⟩ := hp62
                have hO := cO_off hO ho62
                refine x_goto h 90 dX11_check_65 (by decide) ?_
                refine x_astore h dX11_check_90 rfl rfl ?_
                dsimp only [List.set]
                obtain ⟨σ, hσ, htr, hfi⟩ := rc_of hK h4
                refine rest _ _ (rcC (pgV V).1 (begS su.1)) _ hO hK (oO_trans (oO_A ho59) (oO_A ho62)) (an_fl hK.1.1) ⟨σ, hσ, htr, hfi⟩ (fun q => ?_) (fun q => ?_)
                · obtain rfl : w = 1 := by omega
                  exact ⟨_, rcC_ok _ _, rfl⟩
                · obtain rfl : w = 3 := by omega
                  exact ⟨_, rcC_ok _ _, rfl⟩
            · have w1 : ¬ w = 1 := fun q => c36 (by rw [q])
              refine x_iload_n h dX11_check_39 rfl ?_
              refine x_in3 h dX11_check_40 ?_
              refine x_icmp_ne h 48 dX11_check_41 (by decide) (fun c41 => ?_) (fun c41 => ?_)
              · have w3 : ¬ w = 3 := fun q => c41 (by rw [q])
                refine x_in0 h dX11_check_48 ?_
                refine x_istore_n h dX11_check_49 rfl rfl ?_
                dsimp only [List.set]
                refine x_iload_n h dX11_check_50 rfl ?_
                refine x_if_eq h 68 dX11_check_51 (by decide) (fun c51 => ?_) (fun c51 => ?_)
                · refine x_aload_n h dX11_check_68 rfl ?_
                  refine x_aload_n h dX11_check_69 rfl ?_
                  refine x_getR h hO.1.1 f_X11_33 rfl (lg_setup hO.1).1 dX11_check_70 ?_
                  refine x_cVr h ci_X11_view im_X11_view l_X11_120 ⟨Nat.le_of_ble_eq_true rfl, Nat.le_of_ble_eq_true rfl⟩ ⟨rfl, rfl⟩ ⟨Nat.zero_le _, Nat.zero_le _⟩ (c_X11_view hI0 (lg_setup hO.1).2 hO.2.2.2.2.1.1 (cv_6 hO) (by omega)) rfl rfl rfl rfl hO.1.1 (by decide) rfl dX11_check_73 (fun v73 M73 hp73 => ?_)
                  obtain ⟨rfl, ⟨hO, hK⟩, ho73⟩ := hp73
                  refine x_aload_n h dX11_check_76 rfl ?_
                  refine x_aload_n h dX11_check_77 rfl ?_
                  refine x_getR h hO.1.1 f_X11_33 rfl (lg_setup hO.1).1 dX11_check_78 ?_
                  refine x_cVi h ci_X11_active im_X11_active l_X11_124 ⟨Nat.le_of_ble_eq_true rfl, Nat.le_of_ble_eq_true rfl⟩ ⟨rfl, rfl⟩ ⟨Nat.zero_le _, Nat.zero_le _⟩ (c_X11_active hO (lg_setup hO.1).2.1 hO.2.2.2.2.1.1.2.2.2 (cv_32 hO)) rfl rfl rfl rfl hO.1.1 (by decide) rfl dX11_check_81 (fun v81 M81 hp81 => ?_)
                  obtain ⟨rfl, hM⟩ := hp81
                  obtain rfl := hM.symm
                  clear hM
                  refine x_cVr h ci_X0_invariants im_X0_invariants l_X11_140 ⟨Nat.le_of_ble_eq_true rfl, Nat.le_of_ble_eq_true rfl⟩ ⟨rfl, rfl⟩ ⟨Nat.zero_le _, Nat.zero_le _⟩ (s_invariants hK (act_lt _ _)) rfl rfl rfl rfl (lg_analysis hO.1).2.1 (by decide) rfl dX11_check_84 (fun v84 M84 hp84 => ?_)
                  obtain ⟨rfl, hK, ho84, h6n⟩ := hp84
                  have hO := cO_off hO ho84
                  refine x_getR h (an_iv (lg_analysis hO.1).2).1 f_X11_144 rfl (an_iv (lg_analysis hO.1).2).2.1 dX11_check_87 ?_
                  refine x_astore h dX11_check_90 rfl rfl ?_
                  dsimp only [List.set]
                  obtain ⟨σ, hσ, htr, hiv⟩ := iv_of hK h6n (act_lt _ _)
                  refine rest _ _ (lcC (pgV V) su) _ hO hK (oO_trans (oO_A ho73) (oO_A ho84)) (an_iv hK.1.1).2.2.1 ⟨σ, hσ, htr, hiv.2.1⟩ (fun q => ?_) (fun q => ?_)
                  · obtain rfl : w = 0 := by omega
                    rfl
                  · obtain rfl : w = 2 := by omega
                    rfl
                · exact absurd c51 (by decide)
              · have w3 : w = 3 := nI_small 3 (by omega) (by decide) c41
                refine x_in1 h dX11_check_44 ?_
                refine x_goto h 49 dX11_check_45 (by decide) ?_
                refine x_istore_n h dX11_check_49 rfl rfl ?_
                dsimp only [List.set]
                refine x_iload_n h dX11_check_50 rfl ?_
                refine x_if_eq h 68 dX11_check_51 (by decide) (fun c51 => ?_) (fun c51 => ?_)
                · exact absurd c51 (by decide)
                · refine x_aload_n h dX11_check_54 rfl ?_
                  refine x_aload_n h dX11_check_55 rfl ?_
                  refine x_getR h hO.1.1 f_X11_33 rfl (lg_setup hO.1).1 dX11_check_56 ?_
                  refine x_cVr h ci_X11_view im_X11_view l_X11_120 ⟨Nat.le_of_ble_eq_true rfl, Nat.le_of_ble_eq_true rfl⟩ ⟨rfl, rfl⟩ ⟨Nat.zero_le _, Nat.zero_le _⟩ (c_X11_view hI0 (lg_setup hO.1).2 hO.2.2.2.2.1.1 (cv_6 hO) (by omega)) rfl rfl rfl rfl hO.1.1 (by decide) rfl dX11_check_59 (fun v59 M59 hp59 => ?_)
                  obtain ⟨rfl, ⟨hO, hK⟩, ho59⟩ := hp59
                  refine x_cVr h ci_X0_reached im_X0_reached l_X11_132 ⟨Nat.le_of_ble_eq_true rfl, Nat.le_of_ble_eq_true rfl⟩ ⟨rfl, rfl⟩ ⟨Nat.zero_le _, Nat.zero_le _⟩ (s_reached hK) rfl rfl rfl rfl (lg_analysis hO.1).2.1 (by decide) rfl dX11_check_62 (fun v62 M62 hp62 => ?_)
                  obtain ⟨rfl, hK, ho62, h4⟩ := hp62
                  have hO := cO_off hO ho62
                  refine x_goto h 90 dX11_check_65 (by decide) ?_
                  refine x_astore h dX11_check_90 rfl rfl ?_
                  dsimp only [List.set]
                  obtain ⟨σ, hσ, htr, hfi⟩ := rc_of hK h4
                  refine rest _ _ (rcC (pgV V).1 (begS su.1)) _ hO hK (oO_trans (oO_A ho59) (oO_A ho62)) (an_fl hK.1.1) ⟨σ, hσ, htr, hfi⟩ (fun q => ?_) (fun q => ?_)
                  · obtain rfl : w = 1 := by omega
                    exact ⟨_, rcC_ok _ _, rfl⟩
                  · obtain rfl : w = 3 := by omega
                    exact ⟨_, rcC_ok _ _, rfl⟩
          · exact absurd ((nI_le_iff (by omega) (by omega)).mpr (by omega)) c28
      · exact absurd ((nI_lt_iff (by omega) (by omega)).mpr (by omega)) c17
theorem c_X11_falls_0 {Γ : GT} {G : GG} {M : MM} {o : Nat} {b : Bool} {S V : RT} {tx : Nat → Nat} {len : Nat} {su : SU} {hy : HY} {kp : KP} {ze : SE} {sd : Int64} (hI : cInv G M o b S V tx len su hy kp ze sd) {x w : Int32} (hx : ∀ n, n < V 0 24 → x ≠ nI n) : Calls Γ q_X11_falls [.ref o, .int x, .int w] G M (rI (fun y M' => y = -1 ∧ cInv G M' o b S V (tx) (len) (su) (hy) (kp) (ze) (sd) ∧ offO o M M')) := by
  have hI0 := hI
  obtain ⟨hO, hA⟩ := hI
  have hO0 := hO
  obtain ⟨v22, v23, v24, v25, v26⟩ := cv_ok hO
  refine Calls.intro (by decide +kernel) (Nat.le_of_ble_eq_true rfl) (fun z E h hQ => ?_)
  refine x_loc (L' := [some (.ref o), some (.int x), some (.int w), none]) rfl ?_
  refine x_iload_n h dX11_falls_0 rfl ?_
  refine x_if_lt h 15 dX11_falls_1 (by decide) (fun c1 => ?_) (fun c1 => ?_)
  · refine x_icm1 h dX11_falls_15 ?_
    exact x_iret h hQ rfl dX11_falls_16 ⟨rfl, rfl, _, rfl, rfl, hI0, oO_refl o M⟩
  · refine x_iload_n h dX11_falls_4 rfl ?_
    refine x_aload_n h dX11_falls_5 rfl ?_
    refine x_getR h hO.1.1 f_X11_23 rfl (lg_code hO.1).1 dX11_falls_6 ?_
    refine x_getIv h (lg_code hO.1).2.1 f_X11_108 rfl (cv_l hO) dX11_falls_9 ?_
    refine x_icmp_lt h 17 dX11_falls_12 (by decide) (fun c12 => ?_) (fun c12 => ?_)
    · exact absurd c12 (rng_lt (by omega) hx c1)
    · refine x_icm1 h dX11_falls_15 ?_
      exact x_iret h hQ rfl dX11_falls_16 ⟨rfl, rfl, _, rfl, rfl, hI0, oO_refl o M⟩
theorem c_X11_falls_1 {Γ : GT} {G : GG} {M : MM} {o : Nat} {b : Bool} {S V : RT} {tx : Nat → Nat} {len : Nat} {su : SU} {hy : HY} {kp : KP} {ze : SE} {sd : Int64} (hI : cInv G M o b S V tx len su hy kp ze sd) {n : Nat} {x : Int32} (hn : n < V 0 24) (hx : ∀ w, w < 32 → w &&& actP (pgV V) su = w → x ≠ nI w) : Calls Γ q_X11_falls [.ref o, .int (nI n), .int x] G M (rI (fun y M' => y = -2 ∧ cInv G M' o b S V (tx) (len) (su) (hy) (kp) (ze) (sd) ∧ offO o M M')) := by
  have hI0 := hI
  obtain ⟨hO, hA⟩ := hI
  have hO0 := hO
  obtain ⟨v22, v23, v24, v25, v26⟩ := cv_ok hO
  have a32 : actP (pgV V) su < 32 := actP_lt su v26
  refine Calls.intro (by decide +kernel) (Nat.le_of_ble_eq_true rfl) (fun z E h hQ => ?_)
  refine x_loc (L' := [some (.ref o), some (.int (nI n)), some (.int x), none]) rfl ?_
  refine x_iload_n h dX11_falls_0 rfl ?_
  refine x_if_lt h 15 dX11_falls_1 (by decide) (fun c1 => ?_) (fun c1 => ?_)
  · exact (nI_nneg (by omega) c1).elim
  · refine x_iload_n h dX11_falls_4 rfl ?_
    refine x_aload_n h dX11_falls_5 rfl ?_
    refine x_getR h hO.1.1 f_X11_23 rfl (lg_code hO.1).1 dX11_falls_6 ?_
    refine x_getIv h (lg_code hO.1).2.1 f_X11_108 rfl (cv_l hO) dX11_falls_9 ?_
    refine x_icmp_lt h 17 dX11_falls_12 (by decide) (fun c12 => ?_) (fun c12 => ?_)
    · refine x_aload_n h dX11_falls_17 rfl ?_
      refine x_aload_n h dX11_falls_18 rfl ?_
      refine x_getR h hO.1.1 f_X11_33 rfl (lg_setup hO.1).1 dX11_falls_19 ?_
      refine x_cVi h ci_X11_active im_X11_active l_X11_124 ⟨Nat.le_of_ble_eq_true rfl, Nat.le_of_ble_eq_true rfl⟩ ⟨rfl, rfl⟩ ⟨Nat.zero_le _, Nat.zero_le _⟩ (c_X11_active hO (lg_setup hO.1).2.1 hO.2.2.2.2.1.1.2.2.2 (cv_32 hO)) rfl rfl rfl rfl hO.1.1 (by decide) rfl dX11_falls_22 (fun v22 M22 hp22 => ?_)
      obtain ⟨rfl, hM⟩ := hp22
      obtain rfl := hM.symm
      clear hM
      refine x_istore_n h dX11_falls_25 rfl rfl ?_
      dsimp only [List.set]
      refine x_iload_n h dX11_falls_26 rfl ?_
      refine x_iload_n h dX11_falls_27 rfl ?_
      refine x_icm1 h dX11_falls_28 ?_
      refine x_ixor h dX11_falls_29 ?_
      refine x_iand h dX11_falls_30 ?_
      refine x_if_eq h 37 dX11_falls_31 (by decide) (fun c31 => ?_) (fun c31 => ?_)
      · obtain ⟨w, h1, h2, h3⟩ := sub_pos a32 c31
        exact absurd h3 (hx w h1 h2)
      · refine x_bipush h (-2) (by decide) dX11_falls_34 ?_
        exact x_iret h hQ rfl dX11_falls_36 ⟨rfl, rfl, _, rfl, rfl, hI0, oO_refl o M⟩
    · exact absurd ((nI_lt_iff (by omega) (by omega)).mpr (by omega)) c12
theorem c_X11_falls_2 {Γ : GT} {G : GG} {M : MM} {o : Nat} {b : Bool} {S V : RT} {tx : Nat → Nat} {len : Nat} {su : SU} {hy : HY} {kp : KP} {ze : SE} {sd : Int64} (hI : cInv G M o b S V tx len su hy kp ze sd) {n w : Nat} (hn : n < V 0 24) (hw : w < 32) (hs : w &&& actP (pgV V) su = w) : Calls Γ q_X11_falls [.ref o, .int (nI n), .int (nI w)] G M (rI (fun y M' => y = flsV (pgV V) su n w ∧ cInv G M' o b S V (tx) (len) (su) (hy) (kp) (ze) (sd) ∧ offO o M M')) := by
  have hI0 := hI
  obtain ⟨hO, hA⟩ := hI
  have hO0 := hO
  obtain ⟨v22, v23, v24, v25, v26⟩ := cv_ok hO
  have a32 : actP (pgV V) su < 32 := actP_lt su v26
  have wlt : w < 2 ^ V 0 26 := Nat.lt_of_le_of_lt (by rw [← hs]; exact Nat.and_le_right) (act_lt (V 0 26) su.2)
  refine Calls.intro (by decide +kernel) (Nat.le_of_ble_eq_true rfl) (fun z E h hQ => ?_)
  refine x_loc (L' := [some (.ref o), some (.int (nI n)), some (.int (nI w)), none]) rfl ?_
  refine x_iload_n h dX11_falls_0 rfl ?_
  refine x_if_lt h 15 dX11_falls_1 (by decide) (fun c1 => ?_) (fun c1 => ?_)
  · exact (nI_nneg (by omega) c1).elim
  · refine x_iload_n h dX11_falls_4 rfl ?_
    refine x_aload_n h dX11_falls_5 rfl ?_
    refine x_getR h hO.1.1 f_X11_23 rfl (lg_code hO.1).1 dX11_falls_6 ?_
    refine x_getIv h (lg_code hO.1).2.1 f_X11_108 rfl (cv_l hO) dX11_falls_9 ?_
    refine x_icmp_lt h 17 dX11_falls_12 (by decide) (fun c12 => ?_) (fun c12 => ?_)
    · refine x_aload_n h dX11_falls_17 rfl ?_
      refine x_aload_n h dX11_falls_18 rfl ?_
      refine x_getR h hO.1.1 f_X11_33 rfl (lg_setup hO.1).1 dX11_falls_19 ?_
      refine x_cVi h ci_X11_active im_X11_active l_X11_124 ⟨Nat.le_of_ble_eq_true rfl, Nat.le_of_ble_eq_true rfl⟩ ⟨rfl, rfl⟩ ⟨Nat.zero_le _, Nat.zero_le _⟩ (c_X11_active hO (lg_setup hO.1).2.1 hO.2.2.2.2.1.1.2.2.2 (cv_32 hO)) rfl rfl rfl rfl hO.1.1 (by decide) rfl dX11_falls_22 (fun v22 M22 hp22 => ?_)
      obtain ⟨rfl, hM⟩ := hp22
      obtain rfl := hM.symm
      clear hM
      refine x_istore_n h dX11_falls_25 rfl rfl ?_
      dsimp only [List.set]
      refine x_iload_n h dX11_falls_26 rfl ?_
      refine x_iload_n h dX11_falls_27 rfl ?_
      refine x_icm1 h dX11_falls_28 ?_
      refine x_ixor h dX11_falls_29 ?_
      refine x_iand h dX11_falls_30 ?_
      refine x_topi (difG_ok w hw _ a32) ?_
      refine x_if_eq h 37 dX11_falls_31 (by decide) (fun c31 => ?_) (fun c31 => ?_)
      · refine x_aload_n h dX11_falls_37 rfl ?_
        refine x_aload_n h dX11_falls_38 rfl ?_
        refine x_getR h hO.1.1 f_X11_33 rfl (lg_setup hO.1).1 dX11_falls_39 ?_
        refine x_cVr h ci_X11_view im_X11_view l_X11_120 ⟨Nat.le_of_ble_eq_true rfl, Nat.le_of_ble_eq_true rfl⟩ ⟨rfl, rfl⟩ ⟨Nat.zero_le _, Nat.zero_le _⟩ (c_X11_view hI0 (lg_setup hO.1).2 hO.2.2.2.2.1.1 (cv_6 hO) (by omega)) rfl rfl rfl rfl hO.1.1 (by decide) rfl dX11_falls_42 (fun v42 M42 hp42 => ?_)
        obtain ⟨rfl, ⟨hO, hK⟩, ho42⟩ := hp42
        refine x_iload_n h dX11_falls_45 rfl ?_
        refine x_iload_n h dX11_falls_46 rfl ?_
        refine x_iload_n h dX11_falls_47 rfl ?_
        refine x_cVi h ci_X0_firstFalse im_X0_firstFalse l_X11_201 ⟨Nat.le_of_ble_eq_true rfl, Nat.le_of_ble_eq_true rfl⟩ ⟨rfl, rfl⟩ ⟨Nat.zero_le _, Nat.zero_le _⟩ (s_firstFalse hK (act_lt _ _) hn wlt) rfl rfl rfl rfl (lg_analysis hO.1).2.1 (by decide) rfl dX11_falls_48 (fun v48 M48 hp48 => ?_)
        obtain ⟨hv, hK, ho48⟩ := hp48
        rw [hv]
        clear hv v48
        have hO := cO_off hO ho48
        exact x_iret h hQ rfl dX11_falls_51 ⟨rfl, rfl, _, rfl, rfl, (cKn_I ⟨hO, hK⟩), (oO_trans (oO_A ho42) (oO_A ho48))⟩
      · exact absurd (show nI (difG w (actP (pgV V) su)) = 0 from by rw [(dif_sub _ a32 w hw).mpr hs]; exact nI_0) c31
    · exact absurd ((nI_lt_iff (by omega) (by omega)).mpr (by omega)) c12
