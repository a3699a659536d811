/-! ===== Reader.read ===== -/
theorem rdS_clr {u c : Nat} {M : MM} {T : RT} (hd : u + 2 ≤ c ∨ c + 125 ≤ u) (h : rdW M u c T) : rdS u c M (sI (sI (clrM M c) u 0 (nI 0)) u 5 (nI 0)) (t0T T) := by
  have a1 := rdS_c hd (rdS_0 h) (a := 0) (f := 1) (x := 0) (by decide) (by unfold refS; omega)
  have a2 := rdS_c hd a1 (a := 0) (f := 3) (x := 0) (by decide) (by unfold refS; omega)
  have a3 := rdS_c hd a2 (a := 0) (f := 6) (x := 0) (by decide) (by unfold refS; omega)
  have a4 := rdS_c hd a3 (a := 0) (f := 7) (x := 0) (by decide) (by unfold refS; omega)
  have a5 := rdS_c hd a4 (a := 0) (f := 8) (x := 0) (by decide) (by unfold refS; omega)
  have a6 := rdS_c hd a5 (a := 0) (f := 9) (x := 0) (by decide) (by unfold refS; omega)
  have a7 := rdS_c hd a6 (a := 0) (f := 10) (x := 0) (by decide) (by unfold refS; omega)
  exact rdS_u hd (rdS_u hd a7 (a := 0) (f := 0) (x := 0) (by decide)) (a := 0) (f := 5) (x := 0) (by decide)
def wholeT (S : RT) : Prop := S 200 5 = 0 ∧ (S 200 0 = 0 ∨ S 200 0 = 6)
/-- what a reading ends with -/
def readP (u c : Nat) (M : MM) (tx : Nat → Nat) (len : Nat) (T : RT) : Int32 → MM → Prop := fun y M' => ∃ m S, m ≤ len ∧ rdI tx (t0T T) m = some S ∧ rdS u c M M' S ∧ ((m < len ∧ tkT S (tx m) = none ∧ y = nI m) ∨ (m = len ∧ (wholeT S → y = -9) ∧ (¬ wholeT S → y = nI len)))
theorem c_X6_read {Γ : GT} {G : GG} {M : MM} {u c : Nat} {T : RT} (hR : rdF G M.2.2 u) (hW : codeF G M.2.2 c) (hd : u + 2 ≤ c ∨ c + 125 ≤ u) (hT : rdW M u c T) (hv : T 200 2 < 3) (hk : ∀ j, j < 60 → T (65 + j) 0 ≤ 10) {ta len : Nat} {tx : Nat → Nat} (gta : G ta = some (.inr (.char, 60))) (hlen : len ≤ 60) (htx : ∀ i, i < len → M.1 ta i = nI (tx i) ∧ tx i < 2 ^ 16) (hta : ¬ (c ≤ ta ∧ ta < c + 125) ∧ ¬ (u ≤ ta ∧ ta < u + 2)) : Calls Γ q_X6_read [.ref u, .ref ta, .int (nI len), .ref c] G M (rI (readP u c M tx len T)) := by
  refine Calls.intro (by decide +kernel) (Nat.le_of_ble_eq_true rfl) (fun z E h hQ => ?_)
  refine x_loc (L' := [some (.ref u), some (.ref ta), some (.int (nI len)), some (.ref c), none]) rfl ?_
  have ok0 := t0_ok hv hk
  have loop : ∀ i, i ≤ len → ∀ (S : RT) (N : MM), rdI tx (t0T T) i = some S → rdS u c M N S → X Γ E 0 0 G z N 17 [some (.ref u), some (.ref ta), some (.int (nI len)), some (.ref c), some (.int (nI i))] [] := by
    refine upto len (fun i hi ih S N eS hN => ?_)
    have hR2 := rdS_rdF hd hN hR
    have hW2 := rdS_codeF hN hW
    have hok := rdI_ok ok0 i S (by omega) eS
    have hs1 : S 0 1 ≤ i := hok.1
    have hs5 : S 200 5 < 2 ^ 31 := by have := hok.2.2.2.2; omega
    have hs0 : S 200 0 ≤ 6 := hok.2.2.1
    refine x_iload h dX6_read_17 rfl ?_
    refine x_iload_n h dX6_read_19 rfl ?_
    refine x_icmp_ge h 51 dX6_read_20 (by decide) (fun c20 => ?_) (fun c20 => ?_)
    · obtain rfl : i = len := by
        have := (nI_le_iff (by omega) (by omega)).mp c20
        omega
      refine x_aload_n h dX6_read_51 rfl ?_
      refine x_getIv h hR2.1 f_X6_24 rfl (rdW_u hN.1 5) dX6_read_52 ?_
      refine x_if_ne h 78 dX6_read_55 (by decide) (fun c55 => ?_) (fun c55 => ?_)
      · have e55 : ¬ S 200 5 = 0 := fun q => c55 ((congrArg nI q).trans nI_0)
        refine x_in0 h dX6_read_78 ?_
        refine x_istore h dX6_read_79 rfl rfl ?_
        dsimp only [List.set]
        refine x_iload h dX6_read_81 rfl ?_
        refine x_if_eq h 91 dX6_read_83 (by decide) (fun c83 => ?_) (fun c83 => ?_)
        · refine x_iload_n h dX6_read_91 rfl ?_
          exact x_iret h hQ rfl dX6_read_92 ⟨rfl, rfl, _, rfl, _, S, Nat.le_refl _, eS, hN, Or.inr ⟨rfl, (fun q => absurd q.1 e55), fun _ => rfl⟩⟩
        · exact absurd c83 (by decide)
      · have e55 : S 200 5 = 0 := nI_small 0 hs5 (by decide) (c55.trans nI_0.symm)
        refine x_aload_n h dX6_read_58 rfl ?_
        refine x_getIv h hR2.1 f_X6_20 rfl (rdW_u hN.1 0) dX6_read_59 ?_
        refine x_if_eq h 74 dX6_read_62 (by decide) (fun c62 => ?_) (fun c62 => ?_)
        · have e62 : S 200 0 = 0 := nI_small 0 (by omega) (by decide) (c62.trans nI_0.symm)
          refine x_in1 h dX6_read_74 ?_
          refine x_goto h 79 dX6_read_75 (by decide) ?_
          refine x_istore h dX6_read_79 rfl rfl ?_
          dsimp only [List.set]
          refine x_iload h dX6_read_81 rfl ?_
          refine x_if_eq h 91 dX6_read_83 (by decide) (fun c83 => ?_) (fun c83 => ?_)
          · exact absurd c83 (by decide)
          · refine x_bipush h (-9) (by decide) dX6_read_86 ?_
            refine x_goto h 92 dX6_read_88 (by decide) ?_
            exact x_iret h hQ rfl dX6_read_92 ⟨rfl, rfl, _, rfl, _, S, Nat.le_refl _, eS, hN, Or.inr ⟨rfl, (fun _ => rfl), fun q => absurd ⟨e55, Or.inl e62⟩ q⟩⟩
        · have e62 : ¬ S 200 0 = 0 := fun q => c62 ((congrArg nI q).trans nI_0)
          refine x_aload_n h dX6_read_65 rfl ?_
          refine x_getIv h hR2.1 f_X6_20 rfl (rdW_u hN.1 0) dX6_read_66 ?_
          refine x_bipush h (nI 6) (by decide) dX6_read_69 ?_
          refine x_icmp_ne h 78 dX6_read_71 (by decide) (fun c71 => ?_) (fun c71 => ?_)
          · have e71 : ¬ S 200 0 = 6 := fun q => c71 (by rw [q])
            refine x_in0 h dX6_read_78 ?_
            refine x_istore h dX6_read_79 rfl rfl ?_
            dsimp only [List.set]
            refine x_iload h dX6_read_81 rfl ?_
            refine x_if_eq h 91 dX6_read_83 (by decide) (fun c83 => ?_) (fun c83 => ?_)
            · refine x_iload_n h dX6_read_91 rfl ?_
              exact x_iret h hQ rfl dX6_read_92 ⟨rfl, rfl, _, rfl, _, S, Nat.le_refl _, eS, hN, Or.inr ⟨rfl, (fun q => absurd q.2 (by omega)), fun _ => rfl⟩⟩
            · exact absurd c83 (by decide)
          · have e71 : S 200 0 = 6 := nI_small 6 (by omega) (by decide) c71
            refine x_in1 h dX6_read_74 ?_
            refine x_goto h 79 dX6_read_75 (by decide) ?_
            refine x_istore h dX6_read_79 rfl rfl ?_
            dsimp only [List.set]
            refine x_iload h dX6_read_81 rfl ?_
            refine x_if_eq h 91 dX6_read_83 (by decide) (fun c83 => ?_) (fun c83 => ?_)
            · exact absurd c83 (by decide)
            · refine x_bipush h (-9) (by decide) dX6_read_86 ?_
              refine x_goto h 92 dX6_read_88 (by decide) ?_
              exact x_iret h hQ rfl dX6_read_92 ⟨rfl, rfl, _, rfl, _, S, Nat.le_refl _, eS, hN, Or.inr ⟨rfl, (fun _ => rfl), fun q => absurd ⟨e55, Or.inr e71⟩ q⟩⟩
    · have hlt : i < len := by
        have := mt (nI_le_iff (a := len) (b := i) (by omega) (by omega)).mpr c20
        omega
      refine x_iload h dX6_read_23 rfl ?_
      refine x_aload_n h dX6_read_25 rfl ?_
      refine x_alen h gta (by decide) dX6_read_26 ?_
      refine x_icmp_ge h 51 dX6_read_27 (by decide) (fun c27 => ?_) (fun c27 => ?_)
      · exact absurd ((nI_le_iff (by decide) (by omega)).mp c27) (by omega)
      · refine x_aload_n h dX6_read_30 rfl ?_
        refine x_aload_n h dX6_read_31 rfl ?_
        refine x_iload h dX6_read_32 rfl ?_
        refine x_caldv h i gta (ix.ni (show i < 60 by omega) (by decide)) ((hN.2.2.1 ta i hta.1 hta.2).trans (htx i hlt).1) dX6_read_34 ?_
        refine x_aload_n h dX6_read_35 rfl ?_
        refine x_cVi h ci_X6_take im_X6_take l_X6_27 ⟨Nat.le_of_ble_eq_true rfl, Nat.le_of_ble_eq_true rfl⟩ ⟨rfl, rfl⟩ ⟨Nat.zero_le _, Nat.zero_le _⟩ (c_X6_take (T := S) (i := i) hR2 hW2 hd hN.1 (by omega) (htx i hlt).2 hok (by omega)) rfl rfl rfl rfl hR2.1 (by decide) rfl dX6_read_36 (fun v36 M36 hp36 => ?_)
        refine x_if_ne h 45 dX6_read_39 (by decide) (fun c39 => ?_) (fun c39 => ?_)
        · obtain ⟨S2, e2⟩ : ∃ S2, tkT S (tx i) = some S2 := by
            cases q : tkT S (tx i) with
            | none => exact absurd (hp36.2 q).1 c39
            | some S2 => exact ⟨S2, rfl⟩
          refine x_incn h dX6_read_45 rfl rfl rfl ?_
          dsimp only [List.set]
          refine x_goto h 17 dX6_read_48 (by decide) ?_
          exact ih hlt S2 M36 (by rw [rdI, eS]; exact e2) (rdS_trans hN (hp36.1 S2 e2).2)
        · have e2 : tkT S (tx i) = none := by
            cases q : tkT S (tx i) with
            | none => rfl
            | some S2 => rw [(hp36.1 S2 q).1] at c39; exact absurd c39 (by decide)
          obtain rfl := (hp36.2 e2).2
          refine x_iload h dX6_read_42 rfl ?_
          exact x_iret h hQ rfl dX6_read_44 ⟨rfl, rfl, _, rfl, i, S, hi, eS, hN, Or.inl ⟨hlt, e2, rfl⟩⟩
  refine x_aload_n h dX6_read_0 rfl ?_
  refine x_cVv h ci_X2_clear im_X2_clear l_X6_15 ⟨Nat.le_of_ble_eq_true rfl, Nat.le_of_ble_eq_true rfl⟩ ⟨rfl, rfl⟩ ⟨Nat.zero_le _, Nat.zero_le _⟩ (c_X2_clear hW) rfl rfl rfl rfl hW.1 (by decide) rfl dX6_read_1 (fun M1 hp1 => ?_)
  subst hp1
  refine x_aload_n h dX6_read_4 rfl ?_
  refine x_in0 h dX6_read_5 ?_
  refine x_putI h hR.1 f_X6_20 rfl rfl dX6_read_6 ?_
  refine x_aload_n h dX6_read_9 rfl ?_
  refine x_in0 h dX6_read_10 ?_
  refine x_putI h hR.1 f_X6_24 rfl rfl dX6_read_11 ?_
  refine x_in0 h dX6_read_14 ?_
  refine x_istore h dX6_read_15 rfl rfl ?_
  dsimp only [List.set]
  exact loop 0 (Nat.zero_le _) (t0T T) _ rfl (rdS_clr hd hT)
