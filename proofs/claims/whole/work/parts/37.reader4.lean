/-! ===== Reader: the acts of its letters on the table ===== -/
def olT (T : RT) (q : Nat) : RT := tU (tU (tU (apT (phT T (T 0 1)) 6) (65 + T 0 1) 4 q) (65 + T 0 1) 2 (T 0 8)) 0 8 (T 0 8 + 1)
def ocT (T : RT) : RT := tU (tU (apT (phT T (T 0 1)) 8) (65 + T 0 1) 2 (T 0 9)) 0 9 (T 0 9 + 1)
def acT (T : RT) (q : Nat) : RT := tU (tU (tU (tU (apT T 5) (65 + T 0 1) 4 q) (65 + T 0 1) 2 (T 0 7)) 4 (T 0 7) q) 0 7 (T 0 7 + 1)
def agT (T : RT) (q : Nat) : RT := tU (tU T 3 (T 0 6) q) 0 6 (T 0 6 + 1)
def chT (T : RT) (k : Nat) : RT := tU (tU (apT T k) (65 + T 0 1) 1 (T 200 2)) 200 0 0
def nvT (T : RT) (t : Nat) : RT := tU (tU (ncT (tU (apT T (if t = 6 + T 200 2 then 4 else 0)) (65 + T 0 1) 1 (T 200 2)) (T 200 2) 61 t) (65 + T 0 1) 4 (T 0 3)) 200 0 0
theorem phT_c (T : RT) (pl f : Nat) : phT T pl 0 f = T 0 f := (tU_ne (by omega)).trans (tU_ne (by omega))
theorem rdS_ol {u c : Nat} {M N : MM} {T : RT} (hd : u + 2 ≤ c ∨ c + 125 ≤ u) (h : rdS u c M N T) (h60 : T 0 1 < 60) {q : Nat} (hq : q < 20) : rdS u c M (olM N u c (T 0 1) (T 0 10) (T 200 5) (T 0 8) (c + 5 + 3 * q)) (olT T q) :=
  rdS_c hd (rdS_s hd (rdS_sr (rdS_ap hd (rdS_ph hd h rfl) (phT_c _ _ _) (phT_c _ _ _) h60) h60 hq) h60 (by decide)) (a := 0) (by decide) (by unfold refS; omega)
theorem rdS_oc {u c : Nat} {M N : MM} {T : RT} (hd : u + 2 ≤ c ∨ c + 125 ≤ u) (h : rdS u c M N T) (h60 : T 0 1 < 60) : rdS u c M (ocM N u c (T 0 1) (T 0 10) (T 200 5) (T 0 9)) (ocT T) :=
  rdS_c hd (rdS_s hd (rdS_ap hd (rdS_ph hd h rfl) (phT_c _ _ _) (phT_c _ _ _) h60) h60 (by decide)) (a := 0) (by decide) (by unfold refS; omega)
theorem rdS_ac {u c : Nat} {M N : MM} {T : RT} (hd : u + 2 ≤ c ∨ c + 125 ≤ u) (h : rdS u c M N T) (h60 : T 0 1 < 60) (h4 : T 0 7 < 4) {q : Nat} (hq : q < 20) : rdS u c M (acM N c (T 0 1) (T 0 10) (T 0 7) (c + 5 + 3 * q)) (acT T q) :=
  rdS_c hd (rdS_r (rdS_s hd (rdS_sr (rdS_ap hd h rfl rfl h60) h60 hq) h60 (by decide)) (a := 4) (by unfold refS; omega) hq) (a := 0) (by decide) (by unfold refS; omega)
theorem rdS_ag {u c : Nat} {M N : MM} {T : RT} (hd : u + 2 ≤ c ∨ c + 125 ≤ u) (h : rdS u c M N T) (h5 : T 0 6 < 5) {q : Nat} (hq : q < 20) : rdS u c M (agM N c (T 0 6) (c + 5 + 3 * q)) (agT T q) :=
  rdS_c hd (rdS_r h (a := 3) (by unfold refS; omega) hq) (a := 0) (by decide) (by unfold refS; omega)
theorem rdS_ch {u c : Nat} {M N : MM} {T : RT} (hd : u + 2 ≤ c ∨ c + 125 ≤ u) (h : rdS u c M N T) (h60 : T 0 1 < 60) (k : Nat) : rdS u c M (sI (sI (apM N c (T 0 1) k (T 0 10)) (c + 65 + T 0 1) 1 (nI (T 200 2))) u 0 (nI 0)) (chT T k) :=
  rdS_u hd (rdS_s hd (rdS_ap hd h rfl rfl h60) h60 (by decide)) (a := 0) (by decide)
theorem apT_c {T : RT} {k f : Nat} (h1 : f ≠ 1) (h2 : f ≠ 10) : apT T k 0 f = T 0 f := (tU_ne (by omega)).trans ((tU_ne (by omega)).trans ((tU_ne (by omega)).trans (tU_ne (by omega))))
theorem rdS_nv {u c : Nat} {M N : MM} {T : RT} (hd : u + 2 ≤ c ∨ c + 125 ≤ u) (h : rdS u c M N T) (h60 : T 0 1 < 60) (h20 : T 0 3 < 20) (t : Nat) : rdS u c M (sI (sR (ncM (sI (apM N c (T 0 1) (if t = 6 + T 200 2 then 4 else 0) (T 0 10)) (c + 65 + T 0 1) 1 (nI (T 200 2))) c (T 0 3) (nI (T 200 2)) (nI 61) (nI t)) (c + 65 + T 0 1) 4 (.ref (c + 5 + 3 * T 0 3))) u 0 (nI 0)) (nvT T t) :=
  rdS_u hd (rdS_sr (rdS_nc hd (rdS_s hd (rdS_ap hd h rfl rfl h60) h60 (by decide)) ((tU_ne (by omega)).trans (apT_c (by decide) (by decide))) h20) h60 h20) (a := 0) (by decide)
/-- a condition's end: its table, by the owner -/
def trT (T : RT) (t : Nat) : RT :=
  let T1 := tU (ncT T (T 200 2) (T 200 3) t) 200 0 0
  if T 200 1 = 4 then tU (apT T1 4) (65 + T 0 1) 4 (T 0 3) else if T 200 1 = 5 then acT T1 (T 0 3) else if T 200 1 = 6 then olT T1 (T 0 3) else tU (agT T1 (T 0 3)) 200 0 6
theorem ncT_c {T : RT} {x y w f : Nat} (h : f ≠ 3) : ncT T x y w 0 f = T 0 f := (tU_ne (by omega)).trans ((tU_ne (by omega)).trans ((tU_ne (by omega)).trans (tU_ne (by omega))))
theorem ncT_u {T : RT} {x y w f : Nat} (h : T 0 3 < 20) : ncT T x y w 200 f = T 200 f := (tU_ne (by omega)).trans ((tU_ne (by omega)).trans ((tU_ne (by omega)).trans (tU_ne (by omega))))
theorem ncM_u {M : MM} {u c j f : Nat} {x y w : Int32} (hd : u + 2 ≤ c ∨ c + 125 ≤ u) (hj : j < 20) : (ncM M c j x y w).1 u f = M.1 u f := by
  simp only [ncM, sI, up2]
  (repeat' split) <;> first | omega | rfl
theorem c_X6_takeRight {Γ : GT} {G : GG} {M : MM} {u c : Nat} {T : RT} (hR : rdF G M.2.2 u) (hW : codeF G M.2.2 c) (hd : u + 2 ≤ c ∨ c + 125 ≤ u) (hT : rdW M u c T) (h60 : T 0 1 < 60) {t : Nat} (h20 : t < 9 → T 0 3 < 20) (ht9 : t ≤ 9) (hw : T 200 1 = 4 ∨ (T 200 1 = 5 ∧ T 0 7 < 4) ∨ (T 200 1 = 6 ∧ T 200 5 < 6) ∨ (T 200 1 = 4294967295 ∧ T 0 6 < 5)) : Calls Γ q_X6_takeRight [.ref u, .int (trmI t), .ref c] G M (rI (fun y M' => y = b2i (decide (t < 9)) ∧ (t < 9 → rdS u c M M' (trT T t)) ∧ (¬ t < 9 → M' = M))) := by
  refine Calls.intro (by decide +kernel) (Nat.le_of_ble_eq_true rfl) (fun z E h hQ => ?_)
  refine x_loc (L' := [some (.ref u), some (.int (trmI t)), some (.ref c), none]) rfl ?_
  refine x_iload_n h dX6_takeRight_0 rfl ?_
  refine x_if_ge h 6 dX6_takeRight_1 (by decide) (fun c1 => ?_) (fun c1 => ?_)
  · have ht : t < 9 := Classical.not_not.mp (mt trmI_lt.mpr (fun q => absurd q (Int32.not_lt.mpr c1)))
    rw [show trmI t = nI t from if_pos ht]
    refine x_aload_n h dX6_takeRight_6 rfl ?_
    refine x_aload_n h dX6_takeRight_7 rfl ?_
    refine x_getIv h hR.1 f_X6_62 rfl (rdW_u hT 2) dX6_takeRight_8 ?_
    refine x_aload_n h dX6_takeRight_11 rfl ?_
    refine x_getIv h hR.1 f_X6_112 rfl (rdW_u hT 3) dX6_takeRight_12 ?_
    refine x_iload_n h dX6_takeRight_15 rfl ?_
    refine x_cVr h ci_X2_newCondition im_X2_newCondition l_X6_104 ⟨Nat.le_of_ble_eq_true rfl, Nat.le_of_ble_eq_true rfl⟩ ⟨rfl, rfl⟩ ⟨Nat.zero_le _, Nat.zero_le _⟩ (c_X2_newCondition (j := T 0 3) hW (rdW_c hT 3) (h20 ht)) rfl rfl rfl rfl hW.1 (by decide) rfl dX6_takeRight_16 (fun v16 M16 hp16 => ?_)
    obtain ⟨rfl, rfl⟩ := hp16
    refine x_astore_n h dX6_takeRight_19 rfl rfl ?_
    dsimp only [List.set]
    refine x_aload_n h dX6_takeRight_20 rfl ?_
    refine x_in0 h dX6_takeRight_21 ?_
    refine x_putI h hR.1 f_X6_20 rfl rfl dX6_takeRight_22 ?_
    have s1 : rdS u c M (sI (ncM M c (T 0 3) (nI (T 200 2)) (nI (T 200 3)) (nI t)) u 0 (nI 0)) (tU (ncT T (T 200 2) (T 200 3) t) 200 0 0) := rdS_u hd (rdS_nc hd (rdS_0 hT) rfl (h20 ht)) (a := 0) (by decide)
    have v1 : ∀ f, f ≠ 3 → (tU (ncT T (T 200 2) (T 200 3) t) 200 0 0) 0 f = T 0 f := fun f hf => (tU_ne (by omega)).trans (ncT_c hf)
    have v5 : (tU (ncT T (T 200 2) (T 200 3) t) 200 0 0) 200 5 = T 200 5 := (tU_ne (by omega)).trans (ncT_u (h20 ht))
    have i1 : ∀ f, f ≠ 3 → (sI (ncM M c (T 0 3) (nI (T 200 2)) (nI (T 200 3)) (nI t)) u 0 (nI 0)).1 c f = nI (T 0 f) := fun f hf => (rdW_c s1.1 f).trans (congrArg nI (v1 f hf))
    have i5 : (sI (ncM M c (T 0 3) (nI (T 200 2)) (nI (T 200 3)) (nI t)) u 0 (nI 0)).1 u 5 = nI (T 200 5) := (rdW_u s1.1 5).trans (congrArg nI v5)
    have ow : (sI (ncM M c (T 0 3) (nI (T 200 2)) (nI (T 200 3)) (nI t)) u 0 (nI 0)).1 u 1 = nI (T 200 1) := (up2_ne _ _ (by omega)).trans ((ncM_u hd (h20 ht)).trans (rdW_u hT 1))
    refine x_aload_n h dX6_takeRight_25 rfl ?_
    refine x_getIv h hR.1 f_X6_93 rfl ow dX6_takeRight_26 ?_
    rcases hw with hw | hw | hw | hw
    · rw [hw]
      refine x_tin h 56 dX6_takeRight_29 (by decide) (by decide) (off := 27) (by decide) (by decide) ?_
      refine x_aload_n h dX6_takeRight_56 rfl ?_
      refine x_in4 h dX6_takeRight_57 ?_
      refine x_cVr h ci_X2_append im_X2_append l_X6_99 ⟨Nat.le_of_ble_eq_true rfl, Nat.le_of_ble_eq_true rfl⟩ ⟨rfl, rfl⟩ ⟨Nat.zero_le _, Nat.zero_le _⟩ (c_X2_append (M := sI (ncM M c (T 0 3) (nI (T 200 2)) (nI (T 200 3)) (nI t)) u 0 (nI 0)) hW (i1 1 (by decide)) (i1 10 (by decide)) h60 (by decide)) rfl rfl rfl rfl hW.1 (by decide) rfl dX6_takeRight_58 (fun v58 M58 hp58 => ?_)
      obtain ⟨rfl, rfl⟩ := hp58
      refine x_aload_n h dX6_takeRight_61 rfl ?_
      refine x_putR h (hW.2.2.2.1 (T 0 1) h60).2 f_X6_108 rfl rfl dX6_takeRight_62 ?_
      refine x_goto h 96 dX6_takeRight_65 (by decide) ?_
      refine x_ic1 h dX6_takeRight_96 ?_
      exact x_zret h hQ rfl (by decide) dX6_takeRight_97 ⟨rfl, rfl, _, rfl, b2i_t (decide_eq_true ht), (fun _ => by unfold trT; rw [if_pos hw]; have r := rdS_sr (rdS_ap (n := T 0 1) (k := 4) (st := T 0 10) hd s1 (v1 1 (by decide)) (v1 10 (by decide)) h60) h60 (h20 ht); exact r), fun q => absurd ht q⟩
    · rw [hw.1]
      refine x_tin h 68 dX6_takeRight_29 (by decide) (by decide) (off := 39) (by decide) (by decide) ?_
      refine x_aload_n h dX6_takeRight_68 rfl ?_
      refine x_aload_n h dX6_takeRight_69 rfl ?_
      refine x_cVv h ci_X2_appendCheck im_X2_appendCheck l_X6_115 ⟨Nat.le_of_ble_eq_true rfl, Nat.le_of_ble_eq_true rfl⟩ ⟨rfl, rfl⟩ ⟨Nat.zero_le _, Nat.zero_le _⟩ (c_X2_appendCheck (M := sI (ncM M c (T 0 3) (nI (T 200 2)) (nI (T 200 3)) (nI t)) u 0 (nI 0)) hW (i1 1 (by decide)) (i1 10 (by decide)) h60 (i1 7 (by decide)) hw.2 (hW.2.2.2.2.2.2.1 (T 0 3) (h20 ht)).2.1) rfl rfl rfl rfl hW.1 (by decide) rfl dX6_takeRight_70 (fun M70 hp70 => ?_)
      subst hp70
      refine x_goto h 96 dX6_takeRight_73 (by decide) ?_
      refine x_ic1 h dX6_takeRight_96 ?_
      exact x_zret h hQ rfl (by decide) dX6_takeRight_97 ⟨rfl, rfl, _, rfl, b2i_t (decide_eq_true ht), (fun _ => by unfold trT; rw [if_neg (by omega), if_pos hw.1]; have r := rdS_ac hd s1 (by rw [v1 1 (by decide)]; exact h60) (by rw [v1 7 (by decide)]; exact hw.2) (h20 ht); rw [v1 1 (by decide), v1 10 (by decide), v1 7 (by decide)] at r; exact r), fun q => absurd ht q⟩
    · rw [hw.1]
      refine x_tin h 76 dX6_takeRight_29 (by decide) (by decide) (off := 47) (by decide) (by decide) ?_
      refine x_aload_n h dX6_takeRight_76 rfl ?_
      refine x_aload_n h dX6_takeRight_77 rfl ?_
      refine x_aload_n h dX6_takeRight_78 rfl ?_
      refine x_cVv h ci_X6_openLoop im_X6_openLoop l_X6_119 ⟨Nat.le_of_ble_eq_true rfl, Nat.le_of_ble_eq_true rfl⟩ ⟨rfl, rfl⟩ ⟨Nat.zero_le _, Nat.zero_le _⟩ (c_X6_openLoop (M := sI (ncM M c (T 0 3) (nI (T 200 2)) (nI (T 200 3)) (nI t)) u 0 (nI 0)) hR hW hd (i1 1 (by decide)) (i1 10 (by decide)) h60 i5 hw.2 (i1 8 (by decide))) rfl rfl rfl rfl hR.1 (by decide) rfl dX6_takeRight_79 (fun M79 hp79 => ?_)
      subst hp79
      refine x_goto h 96 dX6_takeRight_82 (by decide) ?_
      refine x_ic1 h dX6_takeRight_96 ?_
      exact x_zret h hQ rfl (by decide) dX6_takeRight_97 ⟨rfl, rfl, _, rfl, b2i_t (decide_eq_true ht), (fun _ => by unfold trT; rw [if_neg (by omega), if_neg (by omega), if_pos hw.1]; have r := rdS_ol hd s1 (by rw [v1 1 (by decide)]; exact h60) (h20 ht); rw [v1 1 (by decide), v1 10 (by decide), v1 8 (by decide), v5] at r; exact r), fun q => absurd ht q⟩
    · rw [hw.1]
      refine x_tout h 85 dX6_takeRight_29 (by decide) (by decide) ?_
      refine x_aload_n h dX6_takeRight_85 rfl ?_
      refine x_aload_n h dX6_takeRight_86 rfl ?_
      refine x_cVv h ci_X2_appendGuess im_X2_appendGuess l_X6_123 ⟨Nat.le_of_ble_eq_true rfl, Nat.le_of_ble_eq_true rfl⟩ ⟨rfl, rfl⟩ ⟨Nat.zero_le _, Nat.zero_le _⟩ (c_X2_appendGuess (M := sI (ncM M c (T 0 3) (nI (T 200 2)) (nI (T 200 3)) (nI t)) u 0 (nI 0)) hW (i1 6 (by decide)) hw.2 (hW.2.2.2.2.2.2.1 (T 0 3) (h20 ht)).2.1) rfl rfl rfl rfl hW.1 (by decide) rfl dX6_takeRight_87 (fun M87 hp87 => ?_)
      subst hp87
      refine x_aload_n h dX6_takeRight_90 rfl ?_
      refine x_bipush h (nI 6) (by decide) dX6_takeRight_91 ?_
      refine x_putI h hR.1 f_X6_20 rfl rfl dX6_takeRight_93 ?_
      refine x_ic1 h dX6_takeRight_96 ?_
      exact x_zret h hQ rfl (by decide) dX6_takeRight_97 ⟨rfl, rfl, _, rfl, b2i_t (decide_eq_true ht), (fun _ => by unfold trT; rw [if_neg (by omega), if_neg (by omega), if_neg (by omega)]; have r := rdS_ag hd s1 (by rw [v1 6 (by decide)]; exact hw.2) (h20 ht); rw [v1 6 (by decide)] at r; exact rdS_u hd r (a := 0) (by decide)), fun q => absurd ht q⟩
  · have ht : ¬ t < 9 := trmI_lt.mp (Int32.not_le.mp c1)
    refine x_ic0 h dX6_takeRight_4 ?_
    exact x_zret h hQ rfl (by decide) dX6_takeRight_5 ⟨rfl, rfl, _, rfl, b2i_f (decide_eq_false ht), fun q => absurd q ht, fun _ => rfl⟩
