theorem val_00 {i : Nat} (hi : i < 36) : valS i 0 = 0 := by simp only [valS, if_true]; omega
def updL (f : Nat → Int64) (k : Nat) (x : Int64) : Nat → Int64 := fun j => if j = k then x else f j
theorem wL_set {M : MM} {p c : Nat} {f : Nat → Int64} {v : Int64} (hc : c < 6) : sL (wL M p 6 f) p c v = wL M p 6 (updL f c v) := by
  show (M.1, _, M.2.2) = (M.1, _, M.2.2)
  congr 2
  funext b j
  simp only [up2, wL, updL]
  by_cases hb : b = p
  · by_cases hj : j = c
    · subst hj; simp [hb, hc]
    · simp [hb, hj]
  · simp [hb]
theorem x_lastu {Γ : GT} {E : CT} {q : MD} {k n : Nat} {G : GG} {z : Nat} {M : MM} {pc : Nat} {L : List (Option Value)} {st : List Value} (h : Ok Γ E q) {p : Nat} {i : Int32} {x : Int64} (c : Nat) {f : Nat → Int64} (hc : c < 6) (hG : G p = some (.inr (.long, 6))) (hi : ix i c 6) (d : decode q.2.1 pc = .ok (.lastore, 1)) (kk : X Γ E k n G z (wL M p 6 (updL f c x)) (pc + 1) L st) : X Γ E k n G z (wL M p 6 f) pc L (.long x :: .int i :: .ref p :: st) :=
  x_last h c hG hi d (by rw [wL_set hc]; exact kk)
theorem c_X9_shift_011 {Γ : GT} {G : GG} {M : MM} {a : Nat} {S : ST} (hS : isS G M.2.2 a) (eS : hasS M a S) : Calls Γ q_X9_shift [.ref a, .int (nI 0), .int (nI 1), .int (nI 1)] G M (rV (fun M' => M' = setS M a (shS 0 true true S))) := by
  obtain ⟨g0, r0, g1⟩ := hS
  refine Calls.intro (by decide +kernel) (Nat.le_of_ble_eq_true rfl) (fun z E h hQ => ?_)
  refine x_mem (M' := wL M (a + 1) 6 (encF S)) (wL_of rfl rfl (fun _ _ _ => rfl) (fun j hj => eS j hj)) ?_
  refine x_loc (L' := [some (.ref a), some (.int (nI 0)), some (.int (nI 1)), some (.int (nI 1)), none, none, none, none, none, none, none, none]) rfl ?_
  refine x_iload_n h dX9_shift_0 rfl ?_
  refine x_if_ne h 113 dX9_shift_1 (by decide) (fun c1 => ?_) (fun c1 => ?_)
  · exact absurd c1 (by decide)
  · refine x_iload_n h dX9_shift_4 rfl ?_
    refine x_if_eq h 12 dX9_shift_5 (by decide) (fun c5 => ?_) (fun c5 => ?_)
    · exact absurd c5 (by decide)
    · refine x_in5 h dX9_shift_8 ?_
      refine x_goto h 13 dX9_shift_9 (by decide) ?_
      refine x_istore h dX9_shift_13 rfl rfl ?_
      dsimp only [List.set]
      refine x_aload_n h dX9_shift_15 rfl ?_
      refine x_getR h g0 f_X9_9 rfl r0 dX9_shift_16 ?_
      refine x_iload h dX9_shift_19 rfl ?_
      refine x_laldv h 5 g1 (ix.ni (j := 5) (by decide) (by decide)) (show _ = encF S 5 from (wL_at _ _ _ _ _).trans rfl) dX9_shift_21 ?_
      refine x_lstore h dX9_shift_22 rfl rfl ?_
      dsimp only [List.set]
      refine x_in1 h dX9_shift_24 ?_
      refine x_istore h dX9_shift_25 rfl rfl ?_
      dsimp only [List.set]
      refine x_iload h dX9_shift_27 rfl ?_
      refine x_bipush h (nI 6) (by decide) dX9_shift_29 ?_
      refine x_icmp_ge h 85 dX9_shift_31 (by decide) (fun c31 => ?_) (fun c31 => ?_)
      · exact absurd c31 (by decide)
      · refine x_iload_n h dX9_shift_34 rfl ?_
        refine x_if_eq h 46 dX9_shift_35 (by decide) (fun c35 => ?_) (fun c35 => ?_)
        · exact absurd c35 (by decide)
        · refine x_bipush h (nI 6) (by decide) dX9_shift_38 ?_
          refine x_iload h dX9_shift_40 rfl ?_
          refine x_isub h dX9_shift_42 ?_
          refine x_topi (y := nI 5) (by decide) ?_
          refine x_goto h 50 dX9_shift_43 (by decide) ?_
          refine x_istore h dX9_shift_50 rfl rfl ?_
          dsimp only [List.set]
          refine x_aload_n h dX9_shift_52 rfl ?_
          refine x_getR h g0 f_X9_9 rfl r0 dX9_shift_53 ?_
          refine x_iload h dX9_shift_56 rfl ?_
          refine x_aload_n h dX9_shift_58 rfl ?_
          refine x_getR h g0 f_X9_9 rfl r0 dX9_shift_59 ?_
          refine x_iload_n h dX9_shift_62 rfl ?_
          refine x_if_eq h 73 dX9_shift_63 (by decide) (fun c63 => ?_) (fun c63 => ?_)
          · exact absurd c63 (by decide)
          · refine x_iload h dX9_shift_66 rfl ?_
            refine x_in1 h dX9_shift_68 ?_
            refine x_isub h dX9_shift_69 ?_
            refine x_topi (y := nI 4) (by decide) ?_
            refine x_goto h 77 dX9_shift_70 (by decide) ?_
            refine x_laldv h 4 g1 (ix.ni (j := 4) (by decide) (by decide)) (show _ = encF S 4 from (wL_at _ _ _ _ _).trans rfl) dX9_shift_77 ?_
            refine x_lastu h 5 (by decide) g1 (ix.ni (j := 5) (by decide) (by decide)) dX9_shift_78 ?_
            refine x_incn h dX9_shift_79 rfl rfl rfl ?_
            dsimp only [List.set]
            refine x_goto h 27 dX9_shift_82 (by decide) ?_
            refine x_iload h dX9_shift_27 rfl ?_
            refine x_bipush h (nI 6) (by decide) dX9_shift_29 ?_
            refine x_icmp_ge h 85 dX9_shift_31 (by decide) (fun c31 => ?_) (fun c31 => ?_)
            · exact absurd c31 (by decide)
            · refine x_iload_n h dX9_shift_34 rfl ?_
              refine x_if_eq h 46 dX9_shift_35 (by decide) (fun c35 => ?_) (fun c35 => ?_)
              · exact absurd c35 (by decide)
              · refine x_bipush h (nI 6) (by decide) dX9_shift_38 ?_
                refine x_iload h dX9_shift_40 rfl ?_
                refine x_isub h dX9_shift_42 ?_
                refine x_topi (y := nI 4) (by decide) ?_
                refine x_goto h 50 dX9_shift_43 (by decide) ?_
                refine x_istore h dX9_shift_50 rfl rfl ?_
                dsimp only [List.set]
                refine x_aload_n h dX9_shift_52 rfl ?_
                refine x_getR h g0 f_X9_9 rfl r0 dX9_shift_53 ?_
                refine x_iload h dX9_shift_56 rfl ?_
                refine x_aload_n h dX9_shift_58 rfl ?_
                refine x_getR h g0 f_X9_9 rfl r0 dX9_shift_59 ?_
                refine x_iload_n h dX9_shift_62 rfl ?_
                refine x_if_eq h 73 dX9_shift_63 (by decide) (fun c63 => ?_) (fun c63 => ?_)
                · exact absurd c63 (by decide)
                · refine x_iload h dX9_shift_66 rfl ?_
                  refine x_in1 h dX9_shift_68 ?_
                  refine x_isub h dX9_shift_69 ?_
                  refine x_topi (y := nI 3) (by decide) ?_
                  refine x_goto h 77 dX9_shift_70 (by decide) ?_
                  refine x_laldv h 3 g1 (ix.ni (j := 3) (by decide) (by decide)) (show _ = encF S 3 from (wL_at _ _ _ _ _).trans rfl) dX9_shift_77 ?_
                  refine x_lastu h 4 (by decide) g1 (ix.ni (j := 4) (by decide) (by decide)) dX9_shift_78 ?_
                  refine x_incn h dX9_shift_79 rfl rfl rfl ?_
                  dsimp only [List.set]
                  refine x_goto h 27 dX9_shift_82 (by decide) ?_
                  refine x_iload h dX9_shift_27 rfl ?_
                  refine x_bipush h (nI 6) (by decide) dX9_shift_29 ?_
                  refine x_icmp_ge h 85 dX9_shift_31 (by decide) (fun c31 => ?_) (fun c31 => ?_)
                  · exact absurd c31 (by decide)
                  · refine x_iload_n h dX9_shift_34 rfl ?_
                    refine x_if_eq h 46 dX9_shift_35 (by decide) (fun c35 => ?_) (fun c35 => ?_)
                    · exact absurd c35 (by decide)
                    · refine x_bipush h (nI 6) (by decide) dX9_shift_38 ?_
                      refine x_iload h dX9_shift_40 rfl ?_
                      refine x_isub h dX9_shift_42 ?_
                      refine x_topi (y := nI 3) (by decide) ?_
                      refine x_goto h 50 dX9_shift_43 (by decide) ?_
                      refine x_istore h dX9_shift_50 rfl rfl ?_
                      dsimp only [List.set]
                      refine x_aload_n h dX9_shift_52 rfl ?_
                      refine x_getR h g0 f_X9_9 rfl r0 dX9_shift_53 ?_
                      refine x_iload h dX9_shift_56 rfl ?_
                      refine x_aload_n h dX9_shift_58 rfl ?_
                      refine x_getR h g0 f_X9_9 rfl r0 dX9_shift_59 ?_
                      refine x_iload_n h dX9_shift_62 rfl ?_
                      refine x_if_eq h 73 dX9_shift_63 (by decide) (fun c63 => ?_) (fun c63 => ?_)
                      · exact absurd c63 (by decide)
                      · refine x_iload h dX9_shift_66 rfl ?_
                        refine x_in1 h dX9_shift_68 ?_
                        refine x_isub h dX9_shift_69 ?_
                        refine x_topi (y := nI 2) (by decide) ?_
                        refine x_goto h 77 dX9_shift_70 (by decide) ?_
                        refine x_laldv h 2 g1 (ix.ni (j := 2) (by decide) (by decide)) (show _ = encF S 2 from (wL_at _ _ _ _ _).trans rfl) dX9_shift_77 ?_
                        refine x_lastu h 3 (by decide) g1 (ix.ni (j := 3) (by decide) (by decide)) dX9_shift_78 ?_
                        refine x_incn h dX9_shift_79 rfl rfl rfl ?_
                        dsimp only [List.set]
                        refine x_goto h 27 dX9_shift_82 (by decide) ?_
                        refine x_iload h dX9_shift_27 rfl ?_
                        refine x_bipush h (nI 6) (by decide) dX9_shift_29 ?_
                        refine x_icmp_ge h 85 dX9_shift_31 (by decide) (fun c31 => ?_) (fun c31 => ?_)
                        · exact absurd c31 (by decide)
                        · refine x_iload_n h dX9_shift_34 rfl ?_
                          refine x_if_eq h 46 dX9_shift_35 (by decide) (fun c35 => ?_) (fun c35 => ?_)
                          · exact absurd c35 (by decide)
                          · refine x_bipush h (nI 6) (by decide) dX9_shift_38 ?_
                            refine x_iload h dX9_shift_40 rfl ?_
                            refine x_isub h dX9_shift_42 ?_
                            refine x_topi (y := nI 2) (by decide) ?_
                            refine x_goto h 50 dX9_shift_43 (by decide) ?_
                            refine x_istore h dX9_shift_50 rfl rfl ?_
                            dsimp only [List.set]
                            refine x_aload_n h dX9_shift_52 rfl ?_
                            refine x_getR h g0 f_X9_9 rfl r0 dX9_shift_53 ?_
                            refine x_iload h dX9_shift_56 rfl ?_
                            refine x_aload_n h dX9_shift_58 rfl ?_
                            refine x_getR h g0 f_X9_9 rfl r0 dX9_shift_59 ?_
                            refine x_iload_n h dX9_shift_62 rfl ?_
                            refine x_if_eq h 73 dX9_shift_63 (by decide) (fun c63 => ?_) (fun c63 => ?_)
                            · exact absurd c63 (by decide)
                            · refine x_iload h dX9_shift_66 rfl ?_
                              refine x_in1 h dX9_shift_68 ?_
                              refine x_isub h dX9_shift_69 ?_
                              refine x_topi (y := nI 1) (by decide) ?_
                              refine x_goto h 77 dX9_shift_70 (by decide) ?_
                              refine x_laldv h 1 g1 (ix.ni (j := 1) (by decide) (by decide)) (show _ = encF S 1 from (wL_at _ _ _ _ _).trans rfl) dX9_shift_77 ?_
                              refine x_lastu h 2 (by decide) g1 (ix.ni (j := 2) (by decide) (by decide)) dX9_shift_78 ?_
                              refine x_incn h dX9_shift_79 rfl rfl rfl ?_
                              dsimp only [List.set]
                              refine x_goto h 27 dX9_shift_82 (by decide) ?_
                              refine x_iload h dX9_shift_27 rfl ?_
                              refine x_bipush h (nI 6) (by decide) dX9_shift_29 ?_
                              refine x_icmp_ge h 85 dX9_shift_31 (by decide) (fun c31 => ?_) (fun c31 => ?_)
                              · exact absurd c31 (by decide)
                              · refine x_iload_n h dX9_shift_34 rfl ?_
                                refine x_if_eq h 46 dX9_shift_35 (by decide) (fun c35 => ?_) (fun c35 => ?_)
                                · exact absurd c35 (by decide)
                                · refine x_bipush h (nI 6) (by decide) dX9_shift_38 ?_
                                  refine x_iload h dX9_shift_40 rfl ?_
                                  refine x_isub h dX9_shift_42 ?_
                                  refine x_topi (y := nI 1) (by decide) ?_
                                  refine x_goto h 50 dX9_shift_43 (by decide) ?_
                                  refine x_istore h dX9_shift_50 rfl rfl ?_
                                  dsimp only [List.set]
                                  refine x_aload_n h dX9_shift_52 rfl ?_
                                  refine x_getR h g0 f_X9_9 rfl r0 dX9_shift_53 ?_
                                  refine x_iload h dX9_shift_56 rfl ?_
                                  refine x_aload_n h dX9_shift_58 rfl ?_
                                  refine x_getR h g0 f_X9_9 rfl r0 dX9_shift_59 ?_
                                  refine x_iload_n h dX9_shift_62 rfl ?_
                                  refine x_if_eq h 73 dX9_shift_63 (by decide) (fun c63 => ?_) (fun c63 => ?_)
                                  · exact absurd c63 (by decide)
                                  · refine x_iload h dX9_shift_66 rfl ?_
                                    refine x_in1 h dX9_shift_68 ?_
                                    refine x_isub h dX9_shift_69 ?_
                                    refine x_topi (y := nI 0) (by decide) ?_
                                    refine x_goto h 77 dX9_shift_70 (by decide) ?_
                                    refine x_laldv h 0 g1 (ix.ni (j := 0) (by decide) (by decide)) (show _ = encF S 0 from (wL_at _ _ _ _ _).trans rfl) dX9_shift_77 ?_
                                    refine x_lastu h 1 (by decide) g1 (ix.ni (j := 1) (by decide) (by decide)) dX9_shift_78 ?_
                                    refine x_incn h dX9_shift_79 rfl rfl rfl ?_
                                    dsimp only [List.set]
                                    refine x_goto h 27 dX9_shift_82 (by decide) ?_
                                    refine x_iload h dX9_shift_27 rfl ?_
                                    refine x_bipush h (nI 6) (by decide) dX9_shift_29 ?_
                                    refine x_icmp_ge h 85 dX9_shift_31 (by decide) (fun c31 => ?_) (fun c31 => ?_)
                                    · refine x_aload_n h dX9_shift_85 rfl ?_
                                      refine x_getR h g0 f_X9_9 rfl r0 dX9_shift_86 ?_
                                      refine x_iload_n h dX9_shift_89 rfl ?_
                                      refine x_if_eq h 97 dX9_shift_90 (by decide) (fun c90 => ?_) (fun c90 => ?_)
                                      · exact absurd c90 (by decide)
                                      · refine x_in0 h dX9_shift_93 ?_
                                        refine x_goto h 98 dX9_shift_94 (by decide) ?_
                                        refine x_lc0 h dX9_shift_98 ?_
                                        refine x_lastu h 0 (by decide) g1 (ix.ni (j := 0) (by decide) (by decide)) dX9_shift_99 ?_
                                        refine x_aload_n h dX9_shift_100 rfl ?_
                                        refine x_getR h g0 f_X9_9 rfl r0 dX9_shift_101 ?_
                                        refine x_iload h dX9_shift_104 rfl ?_
                                        refine x_dup2 h rfl rfl dX9_shift_106 ?_
                                        refine x_laldv h 5 g1 (ix.ni (j := 5) (by decide) (by decide)) (show _ = encF S 4 from (wL_at _ _ _ _ _).trans rfl) dX9_shift_107 ?_
                                        refine x_lload h dX9_shift_108 rfl ?_
                                        refine x_lor h dX9_shift_110 ?_
                                        refine x_lastu h 5 (by decide) g1 (ix.ni (j := 5) (by decide) (by decide)) dX9_shift_111 ?_
                                        exact x_vret h hQ rfl dX9_shift_112 ⟨rfl, rfl, rfl, (wL_congr _ _ _ (fun j hj => match j, hj with
                                            | 0, _ => encF_z (fun i hi => by simp [shS, sgS, val_0 0 hi, val_00 hi, Nat.add_zero])
                                            | 1, _ => encF_re (S := S) (k := 0) (fun i hi => by simp [shS, sgS, val_0 1 hi, val_00 hi, show 36 * 1 + i - 36 = 36 * 0 + i by omega])
                                            | 2, _ => encF_re (S := S) (k := 1) (fun i hi => by simp [shS, sgS, val_0 2 hi, val_00 hi, show 36 * 2 + i - 36 = 36 * 1 + i by omega])
                                            | 3, _ => encF_re (S := S) (k := 2) (fun i hi => by simp [shS, sgS, val_0 3 hi, val_00 hi, show 36 * 3 + i - 36 = 36 * 2 + i by omega])
                                            | 4, _ => encF_re (S := S) (k := 3) (fun i hi => by simp [shS, sgS, val_0 4 hi, val_00 hi, show 36 * 4 + i - 36 = 36 * 3 + i by omega])
                                            | 5, _ => encF_or_re (S := S) (T := S) (k := 4) (k' := 5) (fun i hi => by simp [shS, sgS, val_0 5 hi, val_00 hi, show 36 * 5 + i - 36 = 36 * 4 + i by omega])))⟩
                                    · exact absurd c31 (by decide)
theorem c_X9_shift_010 {Γ : GT} {G : GG} {M : MM} {a : Nat} {S : ST} (hS : isS G M.2.2 a) (eS : hasS M a S) : Calls Γ q_X9_shift [.ref a, .int (nI 0), .int (nI 1), .int (nI 0)] G M (rV (fun M' => M' = setS M a (shS 0 true false S))) := by
  obtain ⟨g0, r0, g1⟩ := hS
  refine Calls.intro (by decide +kernel) (Nat.le_of_ble_eq_true rfl) (fun z E h hQ => ?_)
  refine x_mem (M' := wL M (a + 1) 6 (encF S)) (wL_of rfl rfl (fun _ _ _ => rfl) (fun j hj => eS j hj)) ?_
  refine x_loc (L' := [some (.ref a), some (.int (nI 0)), some (.int (nI 1)), some (.int (nI 0)), none, none, none, none, none, none, none, none]) rfl ?_
  refine x_iload_n h dX9_shift_0 rfl ?_
  refine x_if_ne h 113 dX9_shift_1 (by decide) (fun c1 => ?_) (fun c1 => ?_)
  · exact absurd c1 (by decide)
  · refine x_iload_n h dX9_shift_4 rfl ?_
    refine x_if_eq h 12 dX9_shift_5 (by decide) (fun c5 => ?_) (fun c5 => ?_)
    · refine x_in0 h dX9_shift_12 ?_
      refine x_istore h dX9_shift_13 rfl rfl ?_
      dsimp only [List.set]
      refine x_aload_n h dX9_shift_15 rfl ?_
      refine x_getR h g0 f_X9_9 rfl r0 dX9_shift_16 ?_
      refine x_iload h dX9_shift_19 rfl ?_
      refine x_laldv h 0 g1 (ix.ni (j := 0) (by decide) (by decide)) (show _ = encF S 0 from (wL_at _ _ _ _ _).trans rfl) dX9_shift_21 ?_
      refine x_lstore h dX9_shift_22 rfl rfl ?_
      dsimp only [List.set]
      refine x_in1 h dX9_shift_24 ?_
      refine x_istore h dX9_shift_25 rfl rfl ?_
      dsimp only [List.set]
      refine x_iload h dX9_shift_27 rfl ?_
      refine x_bipush h (nI 6) (by decide) dX9_shift_29 ?_
      refine x_icmp_ge h 85 dX9_shift_31 (by decide) (fun c31 => ?_) (fun c31 => ?_)
      · exact absurd c31 (by decide)
      · refine x_iload_n h dX9_shift_34 rfl ?_
        refine x_if_eq h 46 dX9_shift_35 (by decide) (fun c35 => ?_) (fun c35 => ?_)
        · exact absurd c35 (by decide)
        · refine x_bipush h (nI 6) (by decide) dX9_shift_38 ?_
          refine x_iload h dX9_shift_40 rfl ?_
          refine x_isub h dX9_shift_42 ?_
          refine x_topi (y := nI 5) (by decide) ?_
          refine x_goto h 50 dX9_shift_43 (by decide) ?_
          refine x_istore h dX9_shift_50 rfl rfl ?_
          dsimp only [List.set]
          refine x_aload_n h dX9_shift_52 rfl ?_
          refine x_getR h g0 f_X9_9 rfl r0 dX9_shift_53 ?_
          refine x_iload h dX9_shift_56 rfl ?_
          refine x_aload_n h dX9_shift_58 rfl ?_
          refine x_getR h g0 f_X9_9 rfl r0 dX9_shift_59 ?_
          refine x_iload_n h dX9_shift_62 rfl ?_
          refine x_if_eq h 73 dX9_shift_63 (by decide) (fun c63 => ?_) (fun c63 => ?_)
          · exact absurd c63 (by decide)
          · refine x_iload h dX9_shift_66 rfl ?_
            refine x_in1 h dX9_shift_68 ?_
            refine x_isub h dX9_shift_69 ?_
            refine x_topi (y := nI 4) (by decide) ?_
            refine x_goto h 77 dX9_shift_70 (by decide) ?_
            refine x_laldv h 4 g1 (ix.ni (j := 4) (by decide) (by decide)) (show _ = encF S 4 from (wL_at _ _ _ _ _).trans rfl) dX9_shift_77 ?_
            refine x_lastu h 5 (by decide) g1 (ix.ni (j := 5) (by decide) (by decide)) dX9_shift_78 ?_
            refine x_incn h dX9_shift_79 rfl rfl rfl ?_
            dsimp only [List.set]
            refine x_goto h 27 dX9_shift_82 (by decide) ?_
            refine x_iload h dX9_shift_27 rfl ?_
            refine x_bipush h (nI 6) (by decide) dX9_shift_29 ?_
            refine x_icmp_ge h 85 dX9_shift_31 (by decide) (fun c31 => ?_) (fun c31 => ?_)
            · exact absurd c31 (by decide)
            · refine x_iload_n h dX9_shift_34 rfl ?_
              refine x_if_eq h 46 dX9_shift_35 (by decide) (fun c35 => ?_) (fun c35 => ?_)
              · exact absurd c35 (by decide)
              · refine x_bipush h (nI 6) (by decide) dX9_shift_38 ?_
                refine x_iload h dX9_shift_40 rfl ?_
                refine x_isub h dX9_shift_42 ?_
                refine x_topi (y := nI 4) (by decide) ?_
                refine x_goto h 50 dX9_shift_43 (by decide) ?_
                refine x_istore h dX9_shift_50 rfl rfl ?_
                dsimp only [List.set]
                refine x_aload_n h dX9_shift_52 rfl ?_
                refine x_getR h g0 f_X9_9 rfl r0 dX9_shift_53 ?_
                refine x_iload h dX9_shift_56 rfl ?_
                refine x_aload_n h dX9_shift_58 rfl ?_
                refine x_getR h g0 f_X9_9 rfl r0 dX9_shift_59 ?_
                refine x_iload_n h dX9_shift_62 rfl ?_
                refine x_if_eq h 73 dX9_shift_63 (by decide) (fun c63 => ?_) (fun c63 => ?_)
                · exact absurd c63 (by decide)
                · refine x_iload h dX9_shift_66 rfl ?_
                  refine x_in1 h dX9_shift_68 ?_
                  refine x_isub h dX9_shift_69 ?_
                  refine x_topi (y := nI 3) (by decide) ?_
                  refine x_goto h 77 dX9_shift_70 (by decide) ?_
                  refine x_laldv h 3 g1 (ix.ni (j := 3) (by decide) (by decide)) (show _ = encF S 3 from (wL_at _ _ _ _ _).trans rfl) dX9_shift_77 ?_
                  refine x_lastu h 4 (by decide) g1 (ix.ni (j := 4) (by decide) (by decide)) dX9_shift_78 ?_
                  refine x_incn h dX9_shift_79 rfl rfl rfl ?_
                  dsimp only [List.set]
                  refine x_goto h 27 dX9_shift_82 (by decide) ?_
                  refine x_iload h dX9_shift_27 rfl ?_
                  refine x_bipush h (nI 6) (by decide) dX9_shift_29 ?_
                  refine x_icmp_ge h 85 dX9_shift_31 (by decide) (fun c31 => ?_) (fun c31 => ?_)
                  · exact absurd c31 (by decide)
                  · refine x_iload_n h dX9_shift_34 rfl ?_
                    refine x_if_eq h 46 dX9_shift_35 (by decide) (fun c35 => ?_) (fun c35 => ?_)
                    · exact absurd c35 (by decide)
                    · refine x_bipush h (nI 6) (by decide) dX9_shift_38 ?_
                      refine x_iload h dX9_shift_40 rfl ?_
                      refine x_isub h dX9_shift_42 ?_
                      refine x_topi (y := nI 3) (by decide) ?_
                      refine x_goto h 50 dX9_shift_43 (by decide) ?_
                      refine x_istore h dX9_shift_50 rfl rfl ?_
                      dsimp only [List.set]
                      refine x_aload_n h dX9_shift_52 rfl ?_
                      refine x_getR h g0 f_X9_9 rfl r0 dX9_shift_53 ?_
                      refine x_iload h dX9_shift_56 rfl ?_
                      refine x_aload_n h dX9_shift_58 rfl ?_
                      refine x_getR h g0 f_X9_9 rfl r0 dX9_shift_59 ?_
                      refine x_iload_n h dX9_shift_62 rfl ?_
                      refine x_if_eq h 73 dX9_shift_63 (by decide) (fun c63 => ?_) (fun c63 => ?_)
                      · exact absurd c63 (by decide)
                      · refine x_iload h dX9_shift_66 rfl ?_
                        refine x_in1 h dX9_shift_68 ?_
                        refine x_isub h dX9_shift_69 ?_
                        refine x_topi (y := nI 2) (by decide) ?_
                        refine x_goto h 77 dX9_shift_70 (by decide) ?_
                        refine x_laldv h 2 g1 (ix.ni (j := 2) (by decide) (by decide)) (show _ = encF S 2 from (wL_at _ _ _ _ _).trans rfl) dX9_shift_77 ?_
                        refine x_lastu h 3 (by decide) g1 (ix.ni (j := 3) (by decide) (by decide)) dX9_shift_78 ?_
                        refine x_incn h dX9_shift_79 rfl rfl rfl ?_
                        dsimp only [List.set]
                        refine x_goto h 27 dX9_shift_82 (by decide) ?_
                        refine x_iload h dX9_shift_27 rfl ?_
                        refine x_bipush h (nI 6) (by decide) dX9_shift_29 ?_
                        refine x_icmp_ge h 85 dX9_shift_31 (by decide) (fun c31 => ?_) (fun c31 => ?_)
                        · exact absurd c31 (by decide)
                        · refine x_iload_n h dX9_shift_34 rfl ?_
                          refine x_if_eq h 46 dX9_shift_35 (by decide) (fun c35 => ?_) (fun c35 => ?_)
                          · exact absurd c35 (by decide)
                          · refine x_bipush h (nI 6) (by decide) dX9_shift_38 ?_
                            refine x_iload h dX9_shift_40 rfl ?_
                            refine x_isub h dX9_shift_42 ?_
                            refine x_topi (y := nI 2) (by decide) ?_
                            refine x_goto h 50 dX9_shift_43 (by decide) ?_
                            refine x_istore h dX9_shift_50 rfl rfl ?_
                            dsimp only [List.set]
                            refine x_aload_n h dX9_shift_52 rfl ?_
                            refine x_getR h g0 f_X9_9 rfl r0 dX9_shift_53 ?_
                            refine x_iload h dX9_shift_56 rfl ?_
                            refine x_aload_n h dX9_shift_58 rfl ?_
                            refine x_getR h g0 f_X9_9 rfl r0 dX9_shift_59 ?_
                            refine x_iload_n h dX9_shift_62 rfl ?_
                            refine x_if_eq h 73 dX9_shift_63 (by decide) (fun c63 => ?_) (fun c63 => ?_)
                            · exact absurd c63 (by decide)
                            · refine x_iload h dX9_shift_66 rfl ?_
                              refine x_in1 h dX9_shift_68 ?_
                              refine x_isub h dX9_shift_69 ?_
                              refine x_topi (y := nI 1) (by decide) ?_
                              refine x_goto h 77 dX9_shift_70 (by decide) ?_
                              refine x_laldv h 1 g1 (ix.ni (j := 1) (by decide) (by decide)) (show _ = encF S 1 from (wL_at _ _ _ _ _).trans rfl) dX9_shift_77 ?_
                              refine x_lastu h 2 (by decide) g1 (ix.ni (j := 2) (by decide) (by decide)) dX9_shift_78 ?_
                              refine x_incn h dX9_shift_79 rfl rfl rfl ?_
                              dsimp only [List.set]
                              refine x_goto h 27 dX9_shift_82 (by decide) ?_
                              refine x_iload h dX9_shift_27 rfl ?_
                              refine x_bipush h (nI 6) (by decide) dX9_shift_29 ?_
                              refine x_icmp_ge h 85 dX9_shift_31 (by decide) (fun c31 => ?_) (fun c31 => ?_)
                              · exact absurd c31 (by decide)
                              · refine x_iload_n h dX9_shift_34 rfl ?_
                                refine x_if_eq h 46 dX9_shift_35 (by decide) (fun c35 => ?_) (fun c35 => ?_)
                                · exact absurd c35 (by decide)
                                · refine x_bipush h (nI 6) (by decide) dX9_shift_38 ?_
                                  refine x_iload h dX9_shift_40 rfl ?_
                                  refine x_isub h dX9_shift_42 ?_
                                  refine x_topi (y := nI 1) (by decide) ?_
                                  refine x_goto h 50 dX9_shift_43 (by decide) ?_
                                  refine x_istore h dX9_shift_50 rfl rfl ?_
                                  dsimp only [List.set]
                                  refine x_aload_n h dX9_shift_52 rfl ?_
                                  refine x_getR h g0 f_X9_9 rfl r0 dX9_shift_53 ?_
                                  refine x_iload h dX9_shift_56 rfl ?_
                                  refine x_aload_n h dX9_shift_58 rfl ?_
                                  refine x_getR h g0 f_X9_9 rfl r0 dX9_shift_59 ?_
                                  refine x_iload_n h dX9_shift_62 rfl ?_
                                  refine x_if_eq h 73 dX9_shift_63 (by decide) (fun c63 => ?_) (fun c63 => ?_)
                                  · exact absurd c63 (by decide)
                                  · refine x_iload h dX9_shift_66 rfl ?_
                                    refine x_in1 h dX9_shift_68 ?_
                                    refine x_isub h dX9_shift_69 ?_
                                    refine x_topi (y := nI 0) (by decide) ?_
                                    refine x_goto h 77 dX9_shift_70 (by decide) ?_
                                    refine x_laldv h 0 g1 (ix.ni (j := 0) (by decide) (by decide)) (show _ = encF S 0 from (wL_at _ _ _ _ _).trans rfl) dX9_shift_77 ?_
                                    refine x_lastu h 1 (by decide) g1 (ix.ni (j := 1) (by decide) (by decide)) dX9_shift_78 ?_
                                    refine x_incn h dX9_shift_79 rfl rfl rfl ?_
                                    dsimp only [List.set]
                                    refine x_goto h 27 dX9_shift_82 (by decide) ?_
                                    refine x_iload h dX9_shift_27 rfl ?_
                                    refine x_bipush h (nI 6) (by decide) dX9_shift_29 ?_
                                    refine x_icmp_ge h 85 dX9_shift_31 (by decide) (fun c31 => ?_) (fun c31 => ?_)
                                    · refine x_aload_n h dX9_shift_85 rfl ?_
                                      refine x_getR h g0 f_X9_9 rfl r0 dX9_shift_86 ?_
                                      refine x_iload_n h dX9_shift_89 rfl ?_
                                      refine x_if_eq h 97 dX9_shift_90 (by decide) (fun c90 => ?_) (fun c90 => ?_)
                                      · exact absurd c90 (by decide)
                                      · refine x_in0 h dX9_shift_93 ?_
                                        refine x_goto h 98 dX9_shift_94 (by decide) ?_
                                        refine x_lc0 h dX9_shift_98 ?_
                                        refine x_lastu h 0 (by decide) g1 (ix.ni (j := 0) (by decide) (by decide)) dX9_shift_99 ?_
                                        refine x_aload_n h dX9_shift_100 rfl ?_
                                        refine x_getR h g0 f_X9_9 rfl r0 dX9_shift_101 ?_
                                        refine x_iload h dX9_shift_104 rfl ?_
                                        refine x_dup2 h rfl rfl dX9_shift_106 ?_
                                        refine x_laldv h 0 g1 (ix.ni (j := 0) (by decide) (by decide)) (show _ = (0 : Int64) from (wL_at _ _ _ _ _).trans rfl) dX9_shift_107 ?_
                                        refine x_lload h dX9_shift_108 rfl ?_
                                        refine x_lor h dX9_shift_110 ?_
                                        refine x_topl (y := encF S 0) (by simp) ?_
                                        refine x_lastu h 0 (by decide) g1 (ix.ni (j := 0) (by decide) (by decide)) dX9_shift_111 ?_
                                        exact x_vret h hQ rfl dX9_shift_112 ⟨rfl, rfl, rfl, (wL_congr _ _ _ (fun j hj => match j, hj with
                                            | 0, _ => encF_re (S := S) (k := 0) (fun i hi => by simp [shS, sgS, val_0 0 hi, val_00 hi, Nat.add_zero])
                                            | 1, _ => encF_re (S := S) (k := 0) (fun i hi => by simp [shS, sgS, val_0 1 hi, val_00 hi, show 36 * 1 + i - 36 = 36 * 0 + i by omega])
                                            | 2, _ => encF_re (S := S) (k := 1) (fun i hi => by simp [shS, sgS, val_0 2 hi, val_00 hi, show 36 * 2 + i - 36 = 36 * 1 + i by omega])
                                            | 3, _ => encF_re (S := S) (k := 2) (fun i hi => by simp [shS, sgS, val_0 3 hi, val_00 hi, show 36 * 3 + i - 36 = 36 * 2 + i by omega])
                                            | 4, _ => encF_re (S := S) (k := 3) (fun i hi => by simp [shS, sgS, val_0 4 hi, val_00 hi, show 36 * 4 + i - 36 = 36 * 3 + i by omega])
                                            | 5, _ => encF_re (S := S) (k := 4) (fun i hi => by simp [shS, sgS, val_0 5 hi, val_00 hi, show 36 * 5 + i - 36 = 36 * 4 + i by omega])))⟩
                                    · exact absurd c31 (by decide)
    · exact absurd c5 (by decide)
theorem c_X9_shift_001 {Γ : GT} {G : GG} {M : MM} {a : Nat} {S : ST} (hS : isS G M.2.2 a) (eS : hasS M a S) : Calls Γ q_X9_shift [.ref a, .int (nI 0), .int (nI 0), .int (nI 1)] G M (rV (fun M' => M' = setS M a (shS 0 false true S))) := by
  obtain ⟨g0, r0, g1⟩ := hS
  refine Calls.intro (by decide +kernel) (Nat.le_of_ble_eq_true rfl) (fun z E h hQ => ?_)
  refine x_mem (M' := wL M (a + 1) 6 (encF S)) (wL_of rfl rfl (fun _ _ _ => rfl) (fun j hj => eS j hj)) ?_
  refine x_loc (L' := [some (.ref a), some (.int (nI 0)), some (.int (nI 0)), some (.int (nI 1)), none, none, none, none, none, none, none, none]) rfl ?_
  refine x_iload_n h dX9_shift_0 rfl ?_
  refine x_if_ne h 113 dX9_shift_1 (by decide) (fun c1 => ?_) (fun c1 => ?_)
  · exact absurd c1 (by decide)
  · refine x_iload_n h dX9_shift_4 rfl ?_
    refine x_if_eq h 12 dX9_shift_5 (by decide) (fun c5 => ?_) (fun c5 => ?_)
    · exact absurd c5 (by decide)
    · refine x_in5 h dX9_shift_8 ?_
      refine x_goto h 13 dX9_shift_9 (by decide) ?_
      refine x_istore h dX9_shift_13 rfl rfl ?_
      dsimp only [List.set]
      refine x_aload_n h dX9_shift_15 rfl ?_
      refine x_getR h g0 f_X9_9 rfl r0 dX9_shift_16 ?_
      refine x_iload h dX9_shift_19 rfl ?_
      refine x_laldv h 5 g1 (ix.ni (j := 5) (by decide) (by decide)) (show _ = encF S 5 from (wL_at _ _ _ _ _).trans rfl) dX9_shift_21 ?_
      refine x_lstore h dX9_shift_22 rfl rfl ?_
      dsimp only [List.set]
      refine x_in1 h dX9_shift_24 ?_
      refine x_istore h dX9_shift_25 rfl rfl ?_
      dsimp only [List.set]
      refine x_iload h dX9_shift_27 rfl ?_
      refine x_bipush h (nI 6) (by decide) dX9_shift_29 ?_
      refine x_icmp_ge h 85 dX9_shift_31 (by decide) (fun c31 => ?_) (fun c31 => ?_)
      · exact absurd c31 (by decide)
      · refine x_iload_n h dX9_shift_34 rfl ?_
        refine x_if_eq h 46 dX9_shift_35 (by decide) (fun c35 => ?_) (fun c35 => ?_)
        · refine x_iload h dX9_shift_46 rfl ?_
          refine x_in1 h dX9_shift_48 ?_
          refine x_isub h dX9_shift_49 ?_
          refine x_topi (y := nI 0) (by decide) ?_
          refine x_istore h dX9_shift_50 rfl rfl ?_
          dsimp only [List.set]
          refine x_aload_n h dX9_shift_52 rfl ?_
          refine x_getR h g0 f_X9_9 rfl r0 dX9_shift_53 ?_
          refine x_iload h dX9_shift_56 rfl ?_
          refine x_aload_n h dX9_shift_58 rfl ?_
          refine x_getR h g0 f_X9_9 rfl r0 dX9_shift_59 ?_
          refine x_iload_n h dX9_shift_62 rfl ?_
          refine x_if_eq h 73 dX9_shift_63 (by decide) (fun c63 => ?_) (fun c63 => ?_)
          · refine x_iload h dX9_shift_73 rfl ?_
            refine x_in1 h dX9_shift_75 ?_
            refine x_iadd h dX9_shift_76 ?_
            refine x_topi (y := nI 1) (by decide) ?_
            refine x_laldv h 1 g1 (ix.ni (j := 1) (by decide) (by decide)) (show _ = encF S 1 from (wL_at _ _ _ _ _).trans rfl) dX9_shift_77 ?_
            refine x_lastu h 0 (by decide) g1 (ix.ni (j := 0) (by decide) (by decide)) dX9_shift_78 ?_
            refine x_incn h dX9_shift_79 rfl rfl rfl ?_
            dsimp only [List.set]
            refine x_goto h 27 dX9_shift_82 (by decide) ?_
            refine x_iload h dX9_shift_27 rfl ?_
            refine x_bipush h (nI 6) (by decide) dX9_shift_29 ?_
            refine x_icmp_ge h 85 dX9_shift_31 (by decide) (fun c31 => ?_) (fun c31 => ?_)
            · exact absurd c31 (by decide)
            · refine x_iload_n h dX9_shift_34 rfl ?_
              refine x_if_eq h 46 dX9_shift_35 (by decide) (fun c35 => ?_) (fun c35 => ?_)
              · refine x_iload h dX9_shift_46 rfl ?_
                refine x_in1 h dX9_shift_48 ?_
                refine x_isub h dX9_shift_49 ?_
                refine x_topi (y := nI 1) (by decide) ?_
                refine x_istore h dX9_shift_50 rfl rfl ?_
                dsimp only [List.set]
                refine x_aload_n h dX9_shift_52 rfl ?_
                refine x_getR h g0 f_X9_9 rfl r0 dX9_shift_53 ?_
                refine x_iload h dX9_shift_56 rfl ?_
                refine x_aload_n h dX9_shift_58 rfl ?_
                refine x_getR h g0 f_X9_9 rfl r0 dX9_shift_59 ?_
                refine x_iload_n h dX9_shift_62 rfl ?_
                refine x_if_eq h 73 dX9_shift_63 (by decide) (fun c63 => ?_) (fun c63 => ?_)
                · refine x_iload h dX9_shift_73 rfl ?_
                  refine x_in1 h dX9_shift_75 ?_
                  refine x_iadd h dX9_shift_76 ?_
                  refine x_topi (y := nI 2) (by decide) ?_
                  refine x_laldv h 2 g1 (ix.ni (j := 2) (by decide) (by decide)) (show _ = encF S 2 from (wL_at _ _ _ _ _).trans rfl) dX9_shift_77 ?_
                  refine x_lastu h 1 (by decide) g1 (ix.ni (j := 1) (by decide) (by decide)) dX9_shift_78 ?_
                  refine x_incn h dX9_shift_79 rfl rfl rfl ?_
                  dsimp only [List.set]
                  refine x_goto h 27 dX9_shift_82 (by decide) ?_
                  refine x_iload h dX9_shift_27 rfl ?_
                  refine x_bipush h (nI 6) (by decide) dX9_shift_29 ?_
                  refine x_icmp_ge h 85 dX9_shift_31 (by decide) (fun c31 => ?_) (fun c31 => ?_)
                  · exact absurd c31 (by decide)
                  · refine x_iload_n h dX9_shift_34 rfl ?_
                    refine x_if_eq h 46 dX9_shift_35 (by decide) (fun c35 => ?_) (fun c35 => ?_)
                    · refine x_iload h dX9_shift_46 rfl ?_
                      refine x_in1 h dX9_shift_48 ?_
                      refine x_isub h dX9_shift_49 ?_
                      refine x_topi (y := nI 2) (by decide) ?_
                      refine x_istore h dX9_shift_50 rfl rfl ?_
                      dsimp only [List.set]
                      refine x_aload_n h dX9_shift_52 rfl ?_
                      refine x_getR h g0 f_X9_9 rfl r0 dX9_shift_53 ?_
                      refine x_iload h dX9_shift_56 rfl ?_
                      refine x_aload_n h dX9_shift_58 rfl ?_
                      refine x_getR h g0 f_X9_9 rfl r0 dX9_shift_59 ?_
                      refine x_iload_n h dX9_shift_62 rfl ?_
                      refine x_if_eq h 73 dX9_shift_63 (by decide) (fun c63 => ?_) (fun c63 => ?_)
                      · refine x_iload h dX9_shift_73 rfl ?_
                        refine x_in1 h dX9_shift_75 ?_
                        refine x_iadd h dX9_shift_76 ?_
                        refine x_topi (y := nI 3) (by decide) ?_
                        refine x_laldv h 3 g1 (ix.ni (j := 3) (by decide) (by decide)) (show _ = encF S 3 from (wL_at _ _ _ _ _).trans rfl) dX9_shift_77 ?_
                        refine x_lastu h 2 (by decide) g1 (ix.ni (j := 2) (by decide) (by decide)) dX9_shift_78 ?_
                        refine x_incn h dX9_shift_79 rfl rfl rfl ?_
                        dsimp only [List.set]
                        refine x_goto h 27 dX9_shift_82 (by decide) ?_
                        refine x_iload h dX9_shift_27 rfl ?_
                        refine x_bipush h (nI 6) (by decide) dX9_shift_29 ?_
                        refine x_icmp_ge h 85 dX9_shift_31 (by decide) (fun c31 => ?_) (fun c31 => ?_)
                        · exact absurd c31 (by decide)
                        · refine x_iload_n h dX9_shift_34 rfl ?_
                          refine x_if_eq h 46 dX9_shift_35 (by decide) (fun c35 => ?_) (fun c35 => ?_)
                          · refine x_iload h dX9_shift_46 rfl ?_
                            refine x_in1 h dX9_shift_48 ?_
                            refine x_isub h dX9_shift_49 ?_
                            refine x_topi (y := nI 3) (by decide) ?_
                            refine x_istore h dX9_shift_50 rfl rfl ?_
                            dsimp only [List.set]
                            refine x_aload_n h dX9_shift_52 rfl ?_
                            refine x_getR h g0 f_X9_9 rfl r0 dX9_shift_53 ?_
                            refine x_iload h dX9_shift_56 rfl ?_
                            refine x_aload_n h dX9_shift_58 rfl ?_
                            refine x_getR h g0 f_X9_9 rfl r0 dX9_shift_59 ?_
                            refine x_iload_n h dX9_shift_62 rfl ?_
                            refine x_if_eq h 73 dX9_shift_63 (by decide) (fun c63 => ?_) (fun c63 => ?_)
                            · refine x_iload h dX9_shift_73 rfl ?_
                              refine x_in1 h dX9_shift_75 ?_
                              refine x_iadd h dX9_shift_76 ?_
                              refine x_topi (y := nI 4) (by decide) ?_
                              refine x_laldv h 4 g1 (ix.ni (j := 4) (by decide) (by decide)) (show _ = encF S 4 from (wL_at _ _ _ _ _).trans rfl) dX9_shift_77 ?_
                              refine x_lastu h 3 (by decide) g1 (ix.ni (j := 3) (by decide) (by decide)) dX9_shift_78 ?_
                              refine x_incn h dX9_shift_79 rfl rfl rfl ?_
                              dsimp only [List.set]
                              refine x_goto h 27 dX9_shift_82 (by decide) ?_
                              refine x_iload h dX9_shift_27 rfl ?_
                              refine x_bipush h (nI 6) (by decide) dX9_shift_29 ?_
                              refine x_icmp_ge h 85 dX9_shift_31 (by decide) (fun c31 => ?_) (fun c31 => ?_)
                              · exact absurd c31 (by decide)
                              · refine x_iload_n h dX9_shift_34 rfl ?_
                                refine x_if_eq h 46 dX9_shift_35 (by decide) (fun c35 => ?_) (fun c35 => ?_)
                                · refine x_iload h dX9_shift_46 rfl ?_
                                  refine x_in1 h dX9_shift_48 ?_
                                  refine x_isub h dX9_shift_49 ?_
                                  refine x_topi (y := nI 4) (by decide) ?_
                                  refine x_istore h dX9_shift_50 rfl rfl ?_
                                  dsimp only [List.set]
                                  refine x_aload_n h dX9_shift_52 rfl ?_
                                  refine x_getR h g0 f_X9_9 rfl r0 dX9_shift_53 ?_
                                  refine x_iload h dX9_shift_56 rfl ?_
                                  refine x_aload_n h dX9_shift_58 rfl ?_
                                  refine x_getR h g0 f_X9_9 rfl r0 dX9_shift_59 ?_
                                  refine x_iload_n h dX9_shift_62 rfl ?_
                                  refine x_if_eq h 73 dX9_shift_63 (by decide) (fun c63 => ?_) (fun c63 => ?_)
                                  · refine x_iload h dX9_shift_73 rfl ?_
                                    refine x_in1 h dX9_shift_75 ?_
                                    refine x_iadd h dX9_shift_76 ?_
                                    refine x_topi (y := nI 5) (by decide) ?_
                                    refine x_laldv h 5 g1 (ix.ni (j := 5) (by decide) (by decide)) (show _ = encF S 5 from (wL_at _ _ _ _ _).trans rfl) dX9_shift_77 ?_
                                    refine x_lastu h 4 (by decide) g1 (ix.ni (j := 4) (by decide) (by decide)) dX9_shift_78 ?_
                                    refine x_incn h dX9_shift_79 rfl rfl rfl ?_
                                    dsimp only [List.set]
                                    refine x_goto h 27 dX9_shift_82 (by decide) ?_
                                    refine x_iload h dX9_shift_27 rfl ?_
                                    refine x_bipush h (nI 6) (by decide) dX9_shift_29 ?_
                                    refine x_icmp_ge h 85 dX9_shift_31 (by decide) (fun c31 => ?_) (fun c31 => ?_)
                                    · refine x_aload_n h dX9_shift_85 rfl ?_
                                      refine x_getR h g0 f_X9_9 rfl r0 dX9_shift_86 ?_
                                      refine x_iload_n h dX9_shift_89 rfl ?_
                                      refine x_if_eq h 97 dX9_shift_90 (by decide) (fun c90 => ?_) (fun c90 => ?_)
                                      · refine x_in5 h dX9_shift_97 ?_
                                        refine x_lc0 h dX9_shift_98 ?_
                                        refine x_lastu h 5 (by decide) g1 (ix.ni (j := 5) (by decide) (by decide)) dX9_shift_99 ?_
                                        refine x_aload_n h dX9_shift_100 rfl ?_
                                        refine x_getR h g0 f_X9_9 rfl r0 dX9_shift_101 ?_
                                        refine x_iload h dX9_shift_104 rfl ?_
                                        refine x_dup2 h rfl rfl dX9_shift_106 ?_
                                        refine x_laldv h 5 g1 (ix.ni (j := 5) (by decide) (by decide)) (show _ = (0 : Int64) from (wL_at _ _ _ _ _).trans rfl) dX9_shift_107 ?_
                                        refine x_lload h dX9_shift_108 rfl ?_
                                        refine x_lor h dX9_shift_110 ?_
                                        refine x_topl (y := encF S 5) (by simp) ?_
                                        refine x_lastu h 5 (by decide) g1 (ix.ni (j := 5) (by decide) (by decide)) dX9_shift_111 ?_
                                        exact x_vret h hQ rfl dX9_shift_112 ⟨rfl, rfl, rfl, (wL_congr _ _ _ (fun j hj => match j, hj with
                                            | 0, _ => encF_re (S := S) (k := 1) (fun i hi => by simp [shS, sgS, val_0 0 hi, val_00 hi, Nat.add_comm i 36])
                                            | 1, _ => encF_re (S := S) (k := 2) (fun i hi => by simp [shS, sgS, val_0 1 hi, val_00 hi, show 36 * 1 + i + 36 = 36 * 2 + i by omega])
                                            | 2, _ => encF_re (S := S) (k := 3) (fun i hi => by simp [shS, sgS, val_0 2 hi, val_00 hi, show 36 * 2 + i + 36 = 36 * 3 + i by omega])
                                            | 3, _ => encF_re (S := S) (k := 4) (fun i hi => by simp [shS, sgS, val_0 3 hi, val_00 hi, show 36 * 3 + i + 36 = 36 * 4 + i by omega])
                                            | 4, _ => encF_re (S := S) (k := 5) (fun i hi => by simp [shS, sgS, val_0 4 hi, val_00 hi, show 36 * 4 + i + 36 = 36 * 5 + i by omega])
                                            | 5, _ => encF_re (S := S) (k := 5) (fun i hi => by simp [shS, sgS, val_0 5 hi, val_00 hi, Nat.add_zero])))⟩
                                      · exact absurd c90 (by decide)
                                    · exact absurd c31 (by decide)
                                  · exact absurd c63 (by decide)
                                · exact absurd c35 (by decide)
                            · exact absurd c63 (by decide)
                          · exact absurd c35 (by decide)
                      · exact absurd c63 (by decide)
                    · exact absurd c35 (by decide)
                · exact absurd c63 (by decide)
              · exact absurd c35 (by decide)
          · exact absurd c63 (by decide)
        · exact absurd c35 (by decide)
theorem c_X9_shift_000 {Γ : GT} {G : GG} {M : MM} {a : Nat} {S : ST} (hS : isS G M.2.2 a) (eS : hasS M a S) : Calls Γ q_X9_shift [.ref a, .int (nI 0), .int (nI 0), .int (nI 0)] G M (rV (fun M' => M' = setS M a (shS 0 false false S))) := by
  obtain ⟨g0, r0, g1⟩ := hS
  refine Calls.intro (by decide +kernel) (Nat.le_of_ble_eq_true rfl) (fun z E h hQ => ?_)
  refine x_mem (M' := wL M (a + 1) 6 (encF S)) (wL_of rfl rfl (fun _ _ _ => rfl) (fun j hj => eS j hj)) ?_
  refine x_loc (L' := [some (.ref a), some (.int (nI 0)), some (.int (nI 0)), some (.int (nI 0)), none, none, none, none, none, none, none, none]) rfl ?_
  refine x_iload_n h dX9_shift_0 rfl ?_
  refine x_if_ne h 113 dX9_shift_1 (by decide) (fun c1 => ?_) (fun c1 => ?_)
  · exact absurd c1 (by decide)
  · refine x_iload_n h dX9_shift_4 rfl ?_
    refine x_if_eq h 12 dX9_shift_5 (by decide) (fun c5 => ?_) (fun c5 => ?_)
    · refine x_in0 h dX9_shift_12 ?_
      refine x_istore h dX9_shift_13 rfl rfl ?_
      dsimp only [List.set]
      refine x_aload_n h dX9_shift_15 rfl ?_
      refine x_getR h g0 f_X9_9 rfl r0 dX9_shift_16 ?_
      refine x_iload h dX9_shift_19 rfl ?_
      refine x_laldv h 0 g1 (ix.ni (j := 0) (by decide) (by decide)) (show _ = encF S 0 from (wL_at _ _ _ _ _).trans rfl) dX9_shift_21 ?_
      refine x_lstore h dX9_shift_22 rfl rfl ?_
      dsimp only [List.set]
      refine x_in1 h dX9_shift_24 ?_
      refine x_istore h dX9_shift_25 rfl rfl ?_
      dsimp only [List.set]
      refine x_iload h dX9_shift_27 rfl ?_
      refine x_bipush h (nI 6) (by decide) dX9_shift_29 ?_
      refine x_icmp_ge h 85 dX9_shift_31 (by decide) (fun c31 => ?_) (fun c31 => ?_)
      · exact absurd c31 (by decide)
      · refine x_iload_n h dX9_shift_34 rfl ?_
        refine x_if_eq h 46 dX9_shift_35 (by decide) (fun c35 => ?_) (fun c35 => ?_)
        · refine x_iload h dX9_shift_46 rfl ?_
          refine x_in1 h dX9_shift_48 ?_
          refine x_isub h dX9_shift_49 ?_
          refine x_topi (y := nI 0) (by decide) ?_
          refine x_istore h dX9_shift_50 rfl rfl ?_
          dsimp only [List.set]
          refine x_aload_n h dX9_shift_52 rfl ?_
          refine x_getR h g0 f_X9_9 rfl r0 dX9_shift_53 ?_
          refine x_iload h dX9_shift_56 rfl ?_
          refine x_aload_n h dX9_shift_58 rfl ?_
          refine x_getR h g0 f_X9_9 rfl r0 dX9_shift_59 ?_
          refine x_iload_n h dX9_shift_62 rfl ?_
          refine x_if_eq h 73 dX9_shift_63 (by decide) (fun c63 => ?_) (fun c63 => ?_)
          · refine x_iload h dX9_shift_73 rfl ?_
            refine x_in1 h dX9_shift_75 ?_
            refine x_iadd h dX9_shift_76 ?_
            refine x_topi (y := nI 1) (by decide) ?_
            refine x_laldv h 1 g1 (ix.ni (j := 1) (by decide) (by decide)) (show _ = encF S 1 from (wL_at _ _ _ _ _).trans rfl) dX9_shift_77 ?_
            refine x_lastu h 0 (by decide) g1 (ix.ni (j := 0) (by decide) (by decide)) dX9_shift_78 ?_
            refine x_incn h dX9_shift_79 rfl rfl rfl ?_
            dsimp only [List.set]
            refine x_goto h 27 dX9_shift_82 (by decide) ?_
            refine x_iload h dX9_shift_27 rfl ?_
            refine x_bipush h (nI 6) (by decide) dX9_shift_29 ?_
            refine x_icmp_ge h 85 dX9_shift_31 (by decide) (fun c31 => ?_) (fun c31 => ?_)
            · exact absurd c31 (by decide)
            · refine x_iload_n h dX9_shift_34 rfl ?_
              refine x_if_eq h 46 dX9_shift_35 (by decide) (fun c35 => ?_) (fun c35 => ?_)
              · refine x_iload h dX9_shift_46 rfl ?_
                refine x_in1 h dX9_shift_48 ?_
                refine x_isub h dX9_shift_49 ?_
                refine x_topi (y := nI 1) (by decide) ?_
                refine x_istore h dX9_shift_50 rfl rfl ?_
                dsimp only [List.set]
                refine x_aload_n h dX9_shift_52 rfl ?_
                refine x_getR h g0 f_X9_9 rfl r0 dX9_shift_53 ?_
                refine x_iload h dX9_shift_56 rfl ?_
                refine x_aload_n h dX9_shift_58 rfl ?_
                refine x_getR h g0 f_X9_9 rfl r0 dX9_shift_59 ?_
                refine x_iload_n h dX9_shift_62 rfl ?_
                refine x_if_eq h 73 dX9_shift_63 (by decide) (fun c63 => ?_) (fun c63 => ?_)
                · refine x_iload h dX9_shift_73 rfl ?_
                  refine x_in1 h dX9_shift_75 ?_
                  refine x_iadd h dX9_shift_76 ?_
                  refine x_topi (y := nI 2) (by decide) ?_
                  refine x_laldv h 2 g1 (ix.ni (j := 2) (by decide) (by decide)) (show _ = encF S 2 from (wL_at _ _ _ _ _).trans rfl) dX9_shift_77 ?_
                  refine x_lastu h 1 (by decide) g1 (ix.ni (j := 1) (by decide) (by decide)) dX9_shift_78 ?_
                  refine x_incn h dX9_shift_79 rfl rfl rfl ?_
                  dsimp only [List.set]
                  refine x_goto h 27 dX9_shift_82 (by decide) ?_
                  refine x_iload h dX9_shift_27 rfl ?_
                  refine x_bipush h (nI 6) (by decide) dX9_shift_29 ?_
                  refine x_icmp_ge h 85 dX9_shift_31 (by decide) (fun c31 => ?_) (fun c31 => ?_)
                  · exact absurd c31 (by decide)
                  · refine x_iload_n h dX9_shift_34 rfl ?_
                    refine x_if_eq h 46 dX9_shift_35 (by decide) (fun c35 => ?_) (fun c35 => ?_)
                    · refine x_iload h dX9_shift_46 rfl ?_
                      refine x_in1 h dX9_shift_48 ?_
                      refine x_isub h dX9_shift_49 ?_
                      refine x_topi (y := nI 2) (by decide) ?_
                      refine x_istore h dX9_shift_50 rfl rfl ?_
                      dsimp only [List.set]
                      refine x_aload_n h dX9_shift_52 rfl ?_
                      refine x_getR h g0 f_X9_9 rfl r0 dX9_shift_53 ?_
                      refine x_iload h dX9_shift_56 rfl ?_
                      refine x_aload_n h dX9_shift_58 rfl ?_
                      refine x_getR h g0 f_X9_9 rfl r0 dX9_shift_59 ?_
                      refine x_iload_n h dX9_shift_62 rfl ?_
                      refine x_if_eq h 73 dX9_shift_63 (by decide) (fun c63 => ?_) (fun c63 => ?_)
                      · refine x_iload h dX9_shift_73 rfl ?_
                        refine x_in1 h dX9_shift_75 ?_
                        refine x_iadd h dX9_shift_76 ?_
                        refine x_topi (y := nI 3) (by decide) ?_
                        refine x_laldv h 3 g1 (ix.ni (j := 3) (by decide) (by decide)) (show _ = encF S 3 from (wL_at _ _ _ _ _).trans rfl) dX9_shift_77 ?_
                        refine x_lastu h 2 (by decide) g1 (ix.ni (j := 2) (by decide) (by decide)) dX9_shift_78 ?_
                        refine x_incn h dX9_shift_79 rfl rfl rfl ?_
                        dsimp only [List.set]
                        refine x_goto h 27 dX9_shift_82 (by decide) ?_
                        refine x_iload h dX9_shift_27 rfl ?_
                        refine x_bipush h (nI 6) (by decide) dX9_shift_29 ?_
                        refine x_icmp_ge h 85 dX9_shift_31 (by decide) (fun c31 => ?_) (fun c31 => ?_)
                        · exact absurd c31 (by decide)
                        · refine x_iload_n h dX9_shift_34 rfl ?_
                          refine x_if_eq h 46 dX9_shift_35 (by decide) (fun c35 => ?_) (fun c35 => ?_)
                          · refine x_iload h dX9_shift_46 rfl ?_
                            refine x_in1 h dX9_shift_48 ?_
                            refine x_isub h dX9_shift_49 ?_
                            refine x_topi (y := nI 3) (by decide) ?_
                            refine x_istore h dX9_shift_50 rfl rfl ?_
                            dsimp only [List.set]
                            refine x_aload_n h dX9_shift_52 rfl ?_
                            refine x_getR h g0 f_X9_9 rfl r0 dX9_shift_53 ?_
                            refine x_iload h dX9_shift_56 rfl ?_
                            refine x_aload_n h dX9_shift_58 rfl ?_
                            refine x_getR h g0 f_X9_9 rfl r0 dX9_shift_59 ?_
                            refine x_iload_n h dX9_shift_62 rfl ?_
                            refine x_if_eq h 73 dX9_shift_63 (by decide) (fun c63 => ?_) (fun c63 => ?_)
                            · refine x_iload h dX9_shift_73 rfl ?_
                              refine x_in1 h dX9_shift_75 ?_
                              refine x_iadd h dX9_shift_76 ?_
                              refine x_topi (y := nI 4) (by decide) ?_
                              refine x_laldv h 4 g1 (ix.ni (j := 4) (by decide) (by decide)) (show _ = encF S 4 from (wL_at _ _ _ _ _).trans rfl) dX9_shift_77 ?_
                              refine x_lastu h 3 (by decide) g1 (ix.ni (j := 3) (by decide) (by decide)) dX9_shift_78 ?_
                              refine x_incn h dX9_shift_79 rfl rfl rfl ?_
                              dsimp only [List.set]
                              refine x_goto h 27 dX9_shift_82 (by decide) ?_
                              refine x_iload h dX9_shift_27 rfl ?_
                              refine x_bipush h (nI 6) (by decide) dX9_shift_29 ?_
                              refine x_icmp_ge h 85 dX9_shift_31 (by decide) (fun c31 => ?_) (fun c31 => ?_)
                              · exact absurd c31 (by decide)
                              · refine x_iload_n h dX9_shift_34 rfl ?_
                                refine x_if_eq h 46 dX9_shift_35 (by decide) (fun c35 => ?_) (fun c35 => ?_)
                                · refine x_iload h dX9_shift_46 rfl ?_
                                  refine x_in1 h dX9_shift_48 ?_
                                  refine x_isub h dX9_shift_49 ?_
                                  refine x_topi (y := nI 4) (by decide) ?_
                                  refine x_istore h dX9_shift_50 rfl rfl ?_
                                  dsimp only [List.set]
                                  refine x_aload_n h dX9_shift_52 rfl ?_
                                  refine x_getR h g0 f_X9_9 rfl r0 dX9_shift_53 ?_
                                  refine x_iload h dX9_shift_56 rfl ?_
                                  refine x_aload_n h dX9_shift_58 rfl ?_
                                  refine x_getR h g0 f_X9_9 rfl r0 dX9_shift_59 ?_
                                  refine x_iload_n h dX9_shift_62 rfl ?_
                                  refine x_if_eq h 73 dX9_shift_63 (by decide) (fun c63 => ?_) (fun c63 => ?_)
                                  · refine x_iload h dX9_shift_73 rfl ?_
                                    refine x_in1 h dX9_shift_75 ?_
                                    refine x_iadd h dX9_shift_76 ?_
                                    refine x_topi (y := nI 5) (by decide) ?_
                                    refine x_laldv h 5 g1 (ix.ni (j := 5) (by decide) (by decide)) (show _ = encF S 5 from (wL_at _ _ _ _ _).trans rfl) dX9_shift_77 ?_
                                    refine x_lastu h 4 (by decide) g1 (ix.ni (j := 4) (by decide) (by decide)) dX9_shift_78 ?_
                                    refine x_incn h dX9_shift_79 rfl rfl rfl ?_
                                    dsimp only [List.set]
                                    refine x_goto h 27 dX9_shift_82 (by decide) ?_
                                    refine x_iload h dX9_shift_27 rfl ?_
                                    refine x_bipush h (nI 6) (by decide) dX9_shift_29 ?_
                                    refine x_icmp_ge h 85 dX9_shift_31 (by decide) (fun c31 => ?_) (fun c31 => ?_)
                                    · refine x_aload_n h dX9_shift_85 rfl ?_
                                      refine x_getR h g0 f_X9_9 rfl r0 dX9_shift_86 ?_
                                      refine x_iload_n h dX9_shift_89 rfl ?_
                                      refine x_if_eq h 97 dX9_shift_90 (by decide) (fun c90 => ?_) (fun c90 => ?_)
                                      · refine x_in5 h dX9_shift_97 ?_
                                        refine x_lc0 h dX9_shift_98 ?_
                                        refine x_lastu h 5 (by decide) g1 (ix.ni (j := 5) (by decide) (by decide)) dX9_shift_99 ?_
                                        refine x_aload_n h dX9_shift_100 rfl ?_
                                        refine x_getR h g0 f_X9_9 rfl r0 dX9_shift_101 ?_
                                        refine x_iload h dX9_shift_104 rfl ?_
                                        refine x_dup2 h rfl rfl dX9_shift_106 ?_
                                        refine x_laldv h 0 g1 (ix.ni (j := 0) (by decide) (by decide)) (show _ = encF S 1 from (wL_at _ _ _ _ _).trans rfl) dX9_shift_107 ?_
                                        refine x_lload h dX9_shift_108 rfl ?_
                                        refine x_lor h dX9_shift_110 ?_
                                        refine x_lastu h 0 (by decide) g1 (ix.ni (j := 0) (by decide) (by decide)) dX9_shift_111 ?_
                                        exact x_vret h hQ rfl dX9_shift_112 ⟨rfl, rfl, rfl, (wL_congr _ _ _ (fun j hj => match j, hj with
                                            | 0, _ => encF_or_re (S := S) (T := S) (k := 1) (k' := 0) (fun i hi => by simp [shS, sgS, val_0 0 hi, val_00 hi, Nat.add_comm i 36])
                                            | 1, _ => encF_re (S := S) (k := 2) (fun i hi => by simp [shS, sgS, val_0 1 hi, val_00 hi, show 36 * 1 + i + 36 = 36 * 2 + i by omega])
                                            | 2, _ => encF_re (S := S) (k := 3) (fun i hi => by simp [shS, sgS, val_0 2 hi, val_00 hi, show 36 * 2 + i + 36 = 36 * 3 + i by omega])
                                            | 3, _ => encF_re (S := S) (k := 4) (fun i hi => by simp [shS, sgS, val_0 3 hi, val_00 hi, show 36 * 3 + i + 36 = 36 * 4 + i by omega])
                                            | 4, _ => encF_re (S := S) (k := 5) (fun i hi => by simp [shS, sgS, val_0 4 hi, val_00 hi, show 36 * 4 + i + 36 = 36 * 5 + i by omega])
                                            | 5, _ => encF_z (fun i hi => by simp [shS, sgS, val_0 5 hi, val_00 hi, Nat.add_zero])))⟩
                                      · exact absurd c90 (by decide)
                                    · exact absurd c31 (by decide)
                                  · exact absurd c63 (by decide)
                                · exact absurd c35 (by decide)
                            · exact absurd c63 (by decide)
                          · exact absurd c35 (by decide)
                      · exact absurd c63 (by decide)
                    · exact absurd c35 (by decide)
                · exact absurd c63 (by decide)
              · exact absurd c35 (by decide)
          · exact absurd c63 (by decide)
        · exact absurd c35 (by decide)
    · exact absurd c5 (by decide)
