/-! ===== Condition and Step ===== -/
def pkv (v a b c : Nat) : Nat := if v = 0 then a else if v = 1 then b else c
/-- a condition: variable, sign, term -/
abbrev CND : Type := Nat × Nat × Nat
def cndOk (k : CND) : Prop := k.1 < 3 ∧ (k.2.1 = 60 ∨ k.2.1 = 61 ∨ k.2.1 = 62 ∨ k.2.1 = 35) ∧ k.2.2 < 9
def cmpS (sg x y : Nat) : Bool := if sg = 60 then decide (x < y) else if sg = 61 then decide (x = y) else if sg = 62 then decide (y < x) else decide (x ≠ y)
def trmV (t a b c : Nat) : Nat := if t < 6 then t else pkv (t - 6) a b c
def cndV (k : CND) (a b c : Nat) : Bool := cmpS k.2.1 (pkv k.1 a b c) (trmV k.2.2 a b c)
/-- the set of states in which it is true -/
def cndT (k : CND) : ST := fun s => cndV k (s / 36) (s / 6 % 6) (s % 6)
/-- a condition in a cell -/
def cnIs (M : MM) (q : Nat) (k : CND) : Prop := M.1 q 0 = nI k.1 ∧ M.1 q 1 = nI k.2.1 ∧ M.1 q 2 = nI k.2.2
theorem pkv_lt {v a b c n : Nat} (ha : a < n) (hb : b < n) (hc : c < n) : pkv v a b c < n := by
  unfold pkv
  split
  · exact ha
  · split
    · exact hb
    · exact hc
theorem trm_lt {t a b c : Nat} (ht : t < 9) (ha : a < 6) (hb : b < 6) (hc : c < 6) : trmV t a b c < 6 := by unfold trmV; split <;> first | assumption | exact pkv_lt ha hb hc
theorem c_X3_pick {Γ : GT} {G : GG} {M : MM} {v a b c : Nat} (hv : v < 3) : Calls Γ q_X3_pick [.int (nI v), .int (nI a), .int (nI b), .int (nI c)] G M (rI (fun r M' => r = nI (pkv v a b c) ∧ M' = M)) := by
  refine Calls.intro (by decide +kernel) (Nat.le_of_ble_eq_true rfl) (fun z E h hQ => ?_)
  refine x_loc (L' := [some (.int (nI v)), some (.int (nI a)), some (.int (nI b)), some (.int (nI c))]) rfl ?_
  refine x_iload_n h dX3_pick_0 rfl ?_
  refine x_if_ne h 6 dX3_pick_1 (by decide) (fun c1 => ?_) (fun c1 => ?_)
  · have hv0 : ¬ v = 0 := fun q => c1 (by rw [q]; exact nI_0)
    refine x_iload_n h dX3_pick_6 rfl ?_
    refine x_in1 h dX3_pick_7 ?_
    refine x_icmp_ne h 15 dX3_pick_8 (by decide) (fun c8 => ?_) (fun c8 => ?_)
    · have hv1 : ¬ v = 1 := fun q => c8 (by rw [q])
      refine x_iload_n h dX3_pick_15 rfl ?_
      exact x_iret h hQ rfl dX3_pick_16 ⟨rfl, rfl, _, rfl, by simp [pkv, hv0, hv1], rfl⟩
    · have hv1 : v = 1 := (nI_eq_iff (by omega) (by decide)).mp c8
      refine x_iload_n h dX3_pick_11 rfl ?_
      refine x_goto h 16 dX3_pick_12 (by decide) ?_
      exact x_iret h hQ rfl dX3_pick_16 ⟨rfl, rfl, _, rfl, by simp [pkv, hv1], rfl⟩
  · have hv0 : v = 0 := (nI_eq_iff (by omega) (by decide)).mp (c1.trans nI_0.symm)
    refine x_iload_n h dX3_pick_4 rfl ?_
    exact x_iret h hQ rfl dX3_pick_5 ⟨rfl, rfl, _, rfl, by simp [pkv, hv0], rfl⟩
theorem c_X3_value {Γ : GT} {G : GG} {M : MM} {q a b c : Nat} {k : CND} (g0 : G q = some (.inl 3)) (hk : cnIs M q k) (ok : cndOk k) : Calls Γ q_X3_value [.ref q, .int (nI a), .int (nI b), .int (nI c)] G M (rI (fun r M' => r = nI (trmV k.2.2 a b c) ∧ M' = M)) := by
  obtain ⟨k1, k2, k3⟩ := hk
  obtain ⟨o1, o2, o3⟩ := ok
  refine Calls.intro (by decide +kernel) (Nat.le_of_ble_eq_true rfl) (fun z E h hQ => ?_)
  refine x_loc (L' := [some (.ref q), some (.int (nI a)), some (.int (nI b)), some (.int (nI c))]) rfl ?_
  refine x_aload_n h dX3_value_0 rfl ?_
  refine x_getIv h g0 f_X3_25 rfl k3 dX3_value_1 ?_
  refine x_bipush h (nI 6) (by decide) dX3_value_4 ?_
  refine x_icmp_ge h 16 dX3_value_6 (by decide) (fun c6 => ?_) (fun c6 => ?_)
  · have h6 := (nI_le_iff (by decide) (by omega)).mp c6
    refine x_aload_n h dX3_value_16 rfl ?_
    refine x_getIv h g0 f_X3_25 rfl k3 dX3_value_17 ?_
    refine x_bipush h (nI 6) (by decide) dX3_value_20 ?_
    refine x_isubn h h6 dX3_value_22 ?_
    refine x_iload_n h dX3_value_23 rfl ?_
    refine x_iload_n h dX3_value_24 rfl ?_
    refine x_iload_n h dX3_value_25 rfl ?_
    refine x_cSi h ci_X3_pick sm_X3_pick l_X3_28 ⟨Nat.le_of_ble_eq_true rfl, Nat.le_of_ble_eq_true rfl⟩ ⟨rfl, rfl⟩ ⟨Nat.zero_le _, Nat.zero_le _⟩ (c_X3_pick (v := k.2.2 - 6) (by omega)) rfl rfl rfl rfl dX3_value_26 (fun v26 M26 hp26 => ?_)
    obtain ⟨rfl, rfl⟩ := hp26
    exact x_iret h hQ rfl dX3_value_29 ⟨rfl, rfl, _, rfl, by rw [trmV, if_neg (by omega)], rfl⟩
  · have h6 := mt (nI_le_iff (by decide) (by omega)).mpr c6
    refine x_aload_n h dX3_value_9 rfl ?_
    refine x_getIv h g0 f_X3_25 rfl k3 dX3_value_10 ?_
    refine x_goto h 29 dX3_value_13 (by decide) ?_
    exact x_iret h hQ rfl dX3_value_29 ⟨rfl, rfl, _, rfl, by rw [trmV, if_pos (by omega)], rfl⟩
theorem c_X3_isTrue {Γ : GT} {G : GG} {M : MM} {q a b c : Nat} {k : CND} (g0 : G q = some (.inl 3)) (hk : cnIs M q k) (ok : cndOk k) (ha : a < 6) (hb : b < 6) (hc : c < 6) : Calls Γ q_X3_isTrue [.ref q, .int (nI a), .int (nI b), .int (nI c)] G M (rI (fun r M' => r = b2i (cndV k a b c) ∧ M' = M)) := by
  have hk0 := hk
  have ok0 := ok
  obtain ⟨k1, k2, k3⟩ := hk
  obtain ⟨o1, o2, o3⟩ := ok
  obtain ⟨kv, ks, kt⟩ := k
  dsimp only at k1 k2 k3 o1 o2 o3
  refine Calls.intro (by decide +kernel) (Nat.le_of_ble_eq_true rfl) (fun z E h hQ => ?_)
  refine x_loc (L' := [some (.ref q), some (.int (nI a)), some (.int (nI b)), some (.int (nI c)), none, none]) rfl ?_
  refine x_aload_n h dX3_isTrue_0 rfl ?_
  refine x_getIv h g0 f_X3_18 rfl k1 dX3_isTrue_1 ?_
  refine x_iload_n h dX3_isTrue_4 rfl ?_
  refine x_iload_n h dX3_isTrue_5 rfl ?_
  refine x_iload_n h dX3_isTrue_6 rfl ?_
  refine x_cSi h ci_X3_pick sm_X3_pick l_X3_28 ⟨Nat.le_of_ble_eq_true rfl, Nat.le_of_ble_eq_true rfl⟩ ⟨rfl, rfl⟩ ⟨Nat.zero_le _, Nat.zero_le _⟩ (c_X3_pick o1) rfl rfl rfl rfl dX3_isTrue_7 (fun v7 M7 hp7 => ?_)
  obtain ⟨rfl, rfl⟩ := hp7
  refine x_istore h dX3_isTrue_10 rfl rfl ?_
  dsimp only [List.set]
  refine x_aload_n h dX3_isTrue_12 rfl ?_
  refine x_iload_n h dX3_isTrue_13 rfl ?_
  refine x_iload_n h dX3_isTrue_14 rfl ?_
  refine x_iload_n h dX3_isTrue_15 rfl ?_
  refine x_cVi h ci_X3_value im_X3_value l_X3_32 ⟨Nat.le_of_ble_eq_true rfl, Nat.le_of_ble_eq_true rfl⟩ ⟨rfl, rfl⟩ ⟨Nat.zero_le _, Nat.zero_le _⟩ (c_X3_value g0 hk0 ok0) rfl rfl rfl rfl g0 (by decide) rfl dX3_isTrue_16 (fun v16 M16 hp16 => ?_)
  obtain ⟨rfl, rfl⟩ := hp16
  have hx : pkv kv a b c < 2 ^ 31 := Nat.lt_trans (pkv_lt ha hb hc) (by decide)
  have hy : trmV kt a b c < 2 ^ 31 := Nat.lt_trans (trm_lt o3 ha hb hc) (by decide)
  refine x_istore h dX3_isTrue_19 rfl rfl ?_
  dsimp only [List.set]
  refine x_aload_n h dX3_isTrue_21 rfl ?_
  refine x_getIv h g0 f_X3_22 rfl k2 dX3_isTrue_22 ?_
  rcases o2 with rfl | rfl | rfl | rfl
  · refine x_tin h 52 dX3_isTrue_25 (by decide) (by decide) (off := 27) (by decide) (by decide) ?_
    refine x_iload h dX3_isTrue_52 rfl ?_
    refine x_iload h dX3_isTrue_54 rfl ?_
    refine x_icmp_ge h 63 dX3_isTrue_56 (by decide) (fun c56 => ?_) (fun c56 => ?_)
    · have e := (nI_le_iff hy hx).mp c56
      refine x_ic0 h dX3_isTrue_63 ?_
      exact x_zret h hQ rfl (by decide) dX3_isTrue_64 ⟨rfl, rfl, _, rfl, b2i_f (by simp [cndV, cmpS]; omega), rfl⟩
    · have e := mt (nI_le_iff hy hx).mpr c56
      refine x_ic1 h dX3_isTrue_59 ?_
      refine x_goto h 64 dX3_isTrue_60 (by decide) ?_
      exact x_zret h hQ rfl (by decide) dX3_isTrue_64 ⟨rfl, rfl, _, rfl, b2i_t (by simp [cndV, cmpS]; omega), rfl⟩
  · refine x_tin h 78 dX3_isTrue_25 (by decide) (by decide) (off := 53) (by decide) (by decide) ?_
    refine x_iload h dX3_isTrue_78 rfl ?_
    refine x_iload h dX3_isTrue_80 rfl ?_
    refine x_icmp_ne h 89 dX3_isTrue_82 (by decide) (fun c82 => ?_) (fun c82 => ?_)
    · have e := mt (nI_eq_iff hx hy).mpr c82
      refine x_ic0 h dX3_isTrue_89 ?_
      exact x_zret h hQ rfl (by decide) dX3_isTrue_90 ⟨rfl, rfl, _, rfl, b2i_f (by simp [cndV, cmpS]; omega), rfl⟩
    · have e := (nI_eq_iff hx hy).mp c82
      refine x_ic1 h dX3_isTrue_85 ?_
      refine x_goto h 90 dX3_isTrue_86 (by decide) ?_
      exact x_zret h hQ rfl (by decide) dX3_isTrue_90 ⟨rfl, rfl, _, rfl, b2i_t (by simp [cndV, cmpS]; omega), rfl⟩
  · refine x_tin h 65 dX3_isTrue_25 (by decide) (by decide) (off := 40) (by decide) (by decide) ?_
    refine x_iload h dX3_isTrue_65 rfl ?_
    refine x_iload h dX3_isTrue_67 rfl ?_
    refine x_icmp_le h 76 dX3_isTrue_69 (by decide) (fun c69 => ?_) (fun c69 => ?_)
    · have e := (nI_le_iff hx hy).mp c69
      refine x_ic0 h dX3_isTrue_76 ?_
      exact x_zret h hQ rfl (by decide) dX3_isTrue_77 ⟨rfl, rfl, _, rfl, b2i_f (by simp [cndV, cmpS]; omega), rfl⟩
    · have e := mt (nI_le_iff hx hy).mpr c69
      refine x_ic1 h dX3_isTrue_72 ?_
      refine x_goto h 77 dX3_isTrue_73 (by decide) ?_
      exact x_zret h hQ rfl (by decide) dX3_isTrue_77 ⟨rfl, rfl, _, rfl, b2i_t (by simp [cndV, cmpS]; omega), rfl⟩
  · refine x_tout h 91 dX3_isTrue_25 (by decide) (by decide) ?_
    refine x_iload h dX3_isTrue_91 rfl ?_
    refine x_iload h dX3_isTrue_93 rfl ?_
    refine x_icmp_eq h 102 dX3_isTrue_95 (by decide) (fun c95 => ?_) (fun c95 => ?_)
    · have e := (nI_eq_iff hx hy).mp c95
      refine x_ic0 h dX3_isTrue_102 ?_
      exact x_zret h hQ rfl (by decide) dX3_isTrue_103 ⟨rfl, rfl, _, rfl, b2i_f (by simp [cndV, cmpS]; omega), rfl⟩
    · have e := mt (nI_eq_iff hx hy).mpr c95
      refine x_ic1 h dX3_isTrue_98 ?_
      refine x_goto h 103 dX3_isTrue_99 (by decide) ?_
      exact x_zret h hQ rfl (by decide) dX3_isTrue_103 ⟨rfl, rfl, _, rfl, b2i_t (by simp [cndV, cmpS]; omega), rfl⟩
theorem c_X3_put {Γ : GT} {G : GG} {M : MM} {q : Nat} {x y w : Int32} (g0 : G q = some (.inl 3)) : Calls Γ q_X3_put [.ref q, .int x, .int y, .int w] G M (rV (fun M' => M' = sI (sI (sI M q 0 x) q 1 y) q 2 w)) := by
  refine Calls.intro (by decide +kernel) (Nat.le_of_ble_eq_true rfl) (fun z E h hQ => ?_)
  refine x_loc (L' := [some (.ref q), some (.int x), some (.int y), some (.int w)]) rfl ?_
  refine x_aload_n h dX3_put_0 rfl ?_
  refine x_iload_n h dX3_put_1 rfl ?_
  refine x_putI h g0 f_X3_18 rfl rfl dX3_put_2 ?_
  refine x_aload_n h dX3_put_5 rfl ?_
  refine x_iload_n h dX3_put_6 rfl ?_
  refine x_putI h g0 f_X3_22 rfl rfl dX3_put_7 ?_
  refine x_aload_n h dX3_put_10 rfl ?_
  refine x_iload_n h dX3_put_11 rfl ?_
  refine x_putI h g0 f_X3_25 rfl rfl dX3_put_12 ?_
  exact x_vret h hQ rfl dX3_put_15 ⟨rfl, rfl, rfl, rfl⟩
theorem setS_set (M : MM) (a : Nat) (S T : ST) : setS (setS M a S) a T = setS M a T := by
  show (M.1, _, M.2.2) = (M.1, _, M.2.2)
  congr 2
  funext b j
  by_cases hb : b = a + 1 ∧ j < 6
  · simp [hb]
  · simp [hb, setS, wL]
theorem cndT_at (k : CND) {a b c : Nat} (ha : a < 6) (hb : b < 6) (hc : c < 6) : cndT k (36 * a + (6 * b + c)) = cndV k a b c := by
  unfold cndT
  rw [show (36 * a + (6 * b + c)) / 36 = a by omega, show (36 * a + (6 * b + c)) / 6 % 6 = b by omega, show (36 * a + (6 * b + c)) % 6 = c by omega]
/-- the part of a set below a state -/
def belS (n : Nat) (S : ST) : ST := fun s => decide (s < n) && S s
theorem bel_add {n : Nat} {S : ST} (h : S n = true) : (fun s => belS n S s || decide (s = n)) = belS (n + 1) S := by
  funext s
  unfold belS
  rcases Nat.lt_trichotomy s n with q | q | q
  · simp [q, Nat.lt_succ_of_lt q, Nat.ne_of_lt q]
  · subst q; simp [h]
  · simp [show ¬ s < n by omega, show ¬ s < n + 1 by omega, show ¬ s = n by omega]
theorem bel_no {n : Nat} {S : ST} (h : S n = false) : belS n S = belS (n + 1) S := by
  funext s
  unfold belS
  rcases Nat.lt_trichotomy s n with q | q | q
  · simp [q, Nat.lt_succ_of_lt q]
  · subst q; simp [h]
  · simp [show ¬ s < n by omega, show ¬ s < n + 1 by omega]
theorem bel_0 (S : ST) : belS 0 S = fun _ => false := by funext s; simp [belS]
theorem c_X3_findTruths {Γ : GT} {G : GG} {M : MM} {q t : Nat} {k : CND} (g0 : G q = some (.inl 3)) (hk : cnIs M q k) (ok : cndOk k) (r0 : M.2.2 q 3 = .ref t) (hS : isS G M.2.2 t) : Calls Γ q_X3_findTruths [.ref q] G M (rV (fun M' => M' = setS M t (cndT k))) := by
  refine Calls.intro (by decide +kernel) (Nat.le_of_ble_eq_true rfl) (fun z E h hQ => ?_)
  refine x_loc (L' := [some (.ref q), none, none, none]) rfl ?_
  have loopC : ∀ a b, a < 6 → b < 6 → (∀ w, X Γ E 0 0 G z (setS M t (belS (36 * a + (6 * b + 6)) (cndT k))) 57 [some (.ref q), some (.int (nI a)), some (.int (nI b)), w] []) → ∀ c, c ≤ 6 → X Γ E 0 0 G z (setS M t (belS (36 * a + (6 * b + c)) (cndT k))) 25 [some (.ref q), some (.int (nI a)), some (.int (nI b)), some (.int (nI c))] [] := by
    intro a b ha hb fin
    refine upto 6 (fun c hc ih => ?_)
    refine x_iload_n h dX3_findTruths_25 rfl ?_
    refine x_bipush h (nI 6) (by decide) dX3_findTruths_26 ?_
    refine x_icmp_ge h 57 dX3_findTruths_28 (by decide) (fun c28 => ?_) (fun c28 => ?_)
    · obtain rfl : c = 6 := up_ge (by decide) hc c28
      exact fin _
    · have hlt : c < 6 := up_lt (by decide) hc c28
      refine x_aload_n h dX3_findTruths_31 rfl ?_
      refine x_iload_n h dX3_findTruths_32 rfl ?_
      refine x_iload_n h dX3_findTruths_33 rfl ?_
      refine x_iload_n h dX3_findTruths_34 rfl ?_
      refine x_cVi h ci_X3_isTrue im_X3_isTrue l_X3_39 ⟨Nat.le_of_ble_eq_true rfl, Nat.le_of_ble_eq_true rfl⟩ ⟨rfl, rfl⟩ ⟨Nat.zero_le _, Nat.zero_le _⟩ (c_X3_isTrue g0 hk ok ha hb hlt) rfl rfl rfl rfl g0 (by decide) rfl dX3_findTruths_35 (fun v35 M35 hp35 => ?_)
      obtain ⟨rfl, rfl⟩ := hp35
      refine x_if_eq h 51 dX3_findTruths_38 (by decide) (fun c38 => ?_) (fun c38 => ?_)
      · have e := b2i_0.mp c38
        rw [← cndT_at k ha hb hlt] at e
        refine x_mem (congrArg (setS M t) (bel_no e)) ?_
        refine x_incn h dX3_findTruths_51 rfl rfl rfl ?_
        dsimp only [List.set]
        refine x_goto h 25 dX3_findTruths_54 (by decide) ?_
        exact ih hlt
      · have e := bool_nf (fun q => c38 (b2i_0.mpr q))
        rw [← cndT_at k ha hb hlt] at e
        refine x_aload_n h dX3_findTruths_41 rfl ?_
        refine x_getR h g0 f_X3_12 rfl r0 dX3_findTruths_42 ?_
        refine x_iload_n h dX3_findTruths_45 rfl ?_
        refine x_iload_n h dX3_findTruths_46 rfl ?_
        refine x_iload_n h dX3_findTruths_47 rfl ?_
        refine x_cVv h ci_X9_add im_X9_add l_X3_43 ⟨Nat.le_of_ble_eq_true rfl, Nat.le_of_ble_eq_true rfl⟩ ⟨rfl, rfl⟩ ⟨Nat.zero_le _, Nat.zero_le _⟩ (c_X9_add hS (hasS_set _ _ _) ha hb hlt) rfl rfl rfl rfl hS.1 (by decide) rfl dX3_findTruths_48 (fun M48 hp48 => ?_)
        subst hp48
        refine x_mem ((setS_set _ _ _ _).trans (congrArg (setS M t) (bel_add e))) ?_
        refine x_incn h dX3_findTruths_51 rfl rfl rfl ?_
        dsimp only [List.set]
        refine x_goto h 25 dX3_findTruths_54 (by decide) ?_
        exact ih hlt
  have loopB : ∀ a, a < 6 → (∀ w w2, X Γ E 0 0 G z (setS M t (belS (36 * a + 36) (cndT k))) 63 [some (.ref q), some (.int (nI a)), w, w2] []) → ∀ b, b ≤ 6 → ∀ w, X Γ E 0 0 G z (setS M t (belS (36 * a + 6 * b) (cndT k))) 17 [some (.ref q), some (.int (nI a)), some (.int (nI b)), w] [] := by
    intro a ha fin
    refine upto 6 (fun b hb ih w => ?_)
    refine x_iload_n h dX3_findTruths_17 rfl ?_
    refine x_bipush h (nI 6) (by decide) dX3_findTruths_18 ?_
    refine x_icmp_ge h 63 dX3_findTruths_20 (by decide) (fun c20 => ?_) (fun c20 => ?_)
    · obtain rfl : b = 6 := up_ge (by decide) hb c20
      exact fin _ _
    · have hlt : b < 6 := up_lt (by decide) hb c20
      refine x_in0 h dX3_findTruths_23 ?_
      refine x_istore_n h dX3_findTruths_24 rfl rfl ?_
      dsimp only [List.set]
      refine loopC a b ha hlt (fun w => ?_) 0 (by decide)
      refine x_incn h dX3_findTruths_57 rfl rfl rfl ?_
      refine x_goto h 17 dX3_findTruths_60 (by decide) ?_
      exact ih hlt _
  have loopA : ∀ a, a ≤ 6 → ∀ w w2, X Γ E 0 0 G z (setS M t (belS (36 * a) (cndT k))) 9 [some (.ref q), some (.int (nI a)), w, w2] [] := by
    refine upto 6 (fun a ha ih w w2 => ?_)
    refine x_iload_n h dX3_findTruths_9 rfl ?_
    refine x_bipush h (nI 6) (by decide) dX3_findTruths_10 ?_
    refine x_icmp_ge h 69 dX3_findTruths_12 (by decide) (fun c12 => ?_) (fun c12 => ?_)
    · obtain rfl : a = 6 := up_ge (by decide) ha c12
      exact x_vret h hQ rfl dX3_findTruths_69 ⟨rfl, rfl, rfl, setS_congr _ _ (fun s hs => by simp [belS, hs])⟩
    · have hlt : a < 6 := up_lt (by decide) ha c12
      refine x_in0 h dX3_findTruths_15 ?_
      refine x_istore_n h dX3_findTruths_16 rfl rfl ?_
      dsimp only [List.set]
      refine loopB a hlt (fun w w2 => ?_) 0 (by decide) _
      refine x_incn h dX3_findTruths_63 rfl rfl rfl ?_
      refine x_goto h 9 dX3_findTruths_66 (by decide) ?_
      exact ih hlt _ _
  refine x_aload_n h dX3_findTruths_0 rfl ?_
  refine x_getR h g0 f_X3_12 rfl r0 dX3_findTruths_1 ?_
  refine x_cVv h ci_X9_clear im_X9_clear l_X3_36 ⟨Nat.le_of_ble_eq_true rfl, Nat.le_of_ble_eq_true rfl⟩ ⟨rfl, rfl⟩ ⟨Nat.zero_le _, Nat.zero_le _⟩ (c_X9_clear hS) rfl rfl rfl rfl hS.1 (by decide) rfl dX3_findTruths_4 (fun M4 hp4 => ?_)
  subst hp4
  refine x_mem (congrArg (setS M t) (bel_0 (cndT k)).symm) ?_
  refine x_in0 h dX3_findTruths_7 ?_
  refine x_istore_n h dX3_findTruths_8 rfl rfl ?_
  dsimp only [List.set]
  exact loopA 0 (by decide) none none
def isStm (k : Nat) : Bool := decide (k ≠ 7) && decide (k ≠ 9) && decide (k ≠ 10)
theorem c_X10_isStatement {Γ : GT} {G : GG} {M : MM} {q k : Nat} (g0 : G q = some (.inl 10)) (hk : M.1 q 0 = nI k) (h9 : k < 2 ^ 31) : Calls Γ q_X10_isStatement [.ref q] G M (rI (fun v M' => v = b2i (isStm k) ∧ M' = M)) := by
  refine Calls.intro (by decide +kernel) (Nat.le_of_ble_eq_true rfl) (fun z E h hQ => ?_)
  refine x_loc (L' := [some (.ref q)]) rfl ?_
  refine x_aload_n h dX10_isStatement_0 rfl ?_
  refine x_getIv h g0 f_X10_13 rfl hk dX10_isStatement_1 ?_
  refine x_bipush h (nI 7) (by decide) dX10_isStatement_4 ?_
  refine x_icmp_eq h 31 dX10_isStatement_6 (by decide) (fun c6 => ?_) (fun c6 => ?_)
  · have c6e := (nI_eq_iff h9 (by decide)).mp c6
    refine x_ic0 h dX10_isStatement_31 ?_
    exact x_zret h hQ rfl (by decide) dX10_isStatement_32 ⟨rfl, rfl, _, rfl, b2i_f (by simp [isStm, *]), rfl⟩
  · have c6e := mt (nI_eq_iff h9 (by decide)).mpr c6
    refine x_aload_n h dX10_isStatement_9 rfl ?_
    refine x_getIv h g0 f_X10_13 rfl hk dX10_isStatement_10 ?_
    refine x_bipush h (nI 9) (by decide) dX10_isStatement_13 ?_
    refine x_icmp_eq h 31 dX10_isStatement_15 (by decide) (fun c15 => ?_) (fun c15 => ?_)
    · have c15e := (nI_eq_iff h9 (by decide)).mp c15
      refine x_ic0 h dX10_isStatement_31 ?_
      exact x_zret h hQ rfl (by decide) dX10_isStatement_32 ⟨rfl, rfl, _, rfl, b2i_f (by simp [isStm, *]), rfl⟩
    · have c15e := mt (nI_eq_iff h9 (by decide)).mpr c15
      refine x_aload_n h dX10_isStatement_18 rfl ?_
      refine x_getIv h g0 f_X10_13 rfl hk dX10_isStatement_19 ?_
      refine x_bipush h (nI 10) (by decide) dX10_isStatement_22 ?_
      refine x_icmp_eq h 31 dX10_isStatement_24 (by decide) (fun c24 => ?_) (fun c24 => ?_)
      · have c24e := (nI_eq_iff h9 (by decide)).mp c24
        refine x_ic0 h dX10_isStatement_31 ?_
        exact x_zret h hQ rfl (by decide) dX10_isStatement_32 ⟨rfl, rfl, _, rfl, b2i_f (by simp [isStm, *]), rfl⟩
      · have c24e := mt (nI_eq_iff h9 (by decide)).mpr c24
        refine x_ic1 h dX10_isStatement_27 ?_
        refine x_goto h 32 dX10_isStatement_28 (by decide) ?_
        exact x_zret h hQ rfl (by decide) dX10_isStatement_32 ⟨rfl, rfl, _, rfl, b2i_t (by simp [isStm, *]), rfl⟩
