/-! ===== LoopGuesses: static methods ===== -/
theorem kf_fac : KW (.fieldLink RX11 234 "LoopGuesses" "FACTORIALS" "[I") := KW.by 804 (by decide +kernel) rfl
section ST
variable {Γ : GT} {E : CT} {q : MD} {k n : Nat} {G : GG} {z : Nat} {M : MM} {pc : Nat} {L : List (Option Value)} {st : List Value}
theorem x_gfac (h : Ok Γ E q) {idx : Nat} (hl : KW (.fieldLink q.1.cls idx "LoopGuesses" "FACTORIALS" "[I")) (d : decode q.2.1 pc = .ok (.getstatic idx, 3)) (kk : X Γ E k n G z M (pc + 3) L (.ref Γ.2.2.2.2 :: st)) : X Γ E k n G z M pc L st := fun H locs ls hH hF hL => by
  obtain ⟨cf, kf, fi, f, a, cell, h1, h2, h3, h4, h5, h6, h7, h8⟩ := h.ks.2.2.2.1
  exact W.gets h.1 h.2.1 h.2.2.2.2.2.1 (h.ks.at hl) h1 h2 h3 h4 (by rw [hH.2.2.1 a (Array.getElem?_eq_some_iff.mp h5).1]; exact h5) (fun e => by rw [e] at h6; cases h6) h7 rfl d (kk H locs ls hH hF hL)
theorem x_lfac (h : Ok Γ E q) (d : decode q.2.1 pc = .ok (.arraylength, 1)) (kk : X Γ E k n G z M (pc + 1) L (.int (nI 6) :: st)) : X Γ E k n G z M pc L (.ref Γ.2.2.2.2 :: st) := fun H locs ls hH hF hL => by
  obtain ⟨cell, t1, t2, t3, t4, t5, t6, t7⟩ := h.ks.2.2.2.2
  exact W.alen h.1 h.2.1 (by rw [hH.2.2.1 _ (Array.getElem?_eq_some_iff.mp t1).1]; exact t1) t2 t5 rfl rfl d (kk H locs ls hH hF hL)
theorem x_afac (h : Ok Γ E q) {j : Nat} (hj : j < 6) (d : decode q.2.1 pc = .ok (.iaload, 1)) (kk : X Γ E k n G z M (pc + 1) L (.int (facT j) :: st)) : X Γ E k n G z M pc L (.int (nI j) :: .ref Γ.2.2.2.2 :: st) := fun H locs ls hH hF hL => by
  obtain ⟨cell, t1, t2, t3, t4, t5, t6, t7⟩ := h.ks.2.2.2.2
  have hi := ix.ni (n := 6) hj (by decide)
  refine W.iald h.1 h.2.1 (by rw [hH.2.2.1 _ (Array.getElem?_eq_some_iff.mp t1).1]; exact t1) t2 t3 ?_ (v := .int (facT j)) ?_ rfl rfl d (kk H locs ls hH hF hL)
  · rw [hi.2.1]
    rintro (q | q)
    · exact hi.1 q
    · omega
  · rw [hi.2.1]; exact t6 j hj
end ST
theorem fac_ok : ∀ j, j < 6 → facT j = nI (fct j) := by decide +kernel
theorem c_X11_factorial {Γ : GT} {G : GG} {M : MM} {n : Nat} (hn : n < 6) : Calls Γ q_X11_factorial [.int (nI n)] G M (rI (fun y M' => y = nI (fct n) ∧ M' = M)) := by
  refine Calls.intro (by decide +kernel) (Nat.le_of_ble_eq_true rfl) (fun z E h hQ => ?_)
  refine x_loc (L' := [some (.int (nI n))]) rfl ?_
  refine x_iload_n h dX11_factorial_0 rfl ?_
  refine x_if_lt h 12 dX11_factorial_1 (by decide) (fun c1 => ?_) (fun c1 => ?_)
  · exact (nI_nneg (by omega) c1).elim
  · refine x_iload_n h dX11_factorial_4 rfl ?_
    refine x_gfac h kf_fac dX11_factorial_5 ?_
    refine x_lfac h dX11_factorial_8 ?_
    refine x_icmp_lt h 16 dX11_factorial_9 (by decide) (fun c9 => ?_) (fun c9 => ?_)
    · refine x_gfac h kf_fac dX11_factorial_16 ?_
      refine x_iload_n h dX11_factorial_19 rfl ?_
      refine x_afac h hn dX11_factorial_20 ?_
      exact x_iret h hQ rfl dX11_factorial_21 ⟨rfl, rfl, _, rfl, fac_ok n hn, rfl⟩
    · exact absurd ((nI_lt_iff (by omega) (by omega)).mpr (by omega)) c9
theorem c_X11_power {Γ : GT} {G : GG} {M : MM} {x n : Nat} (hn : n < 2 ^ 31) : Calls Γ q_X11_power [.int (nI x), .int (nI n)] G M (rI (fun y M' => y = nI (x ^ n) ∧ M' = M)) := by
  refine Calls.intro (by decide +kernel) (Nat.le_of_ble_eq_true rfl) (fun z E h hQ => ?_)
  refine x_loc (L' := [some (.int (nI x)), some (.int (nI n)), none, none]) rfl ?_
  have loop : ∀ i, i ≤ n → X Γ E 0 0 G z M 4 [some (.int (nI x)), some (.int (nI n)), some (.int (nI (x ^ i))), some (.int (nI i))] [] := by
    refine upto n (fun i hi ih => ?_)
    refine x_iload_n h dX11_power_4 rfl ?_
    refine x_iload_n h dX11_power_5 rfl ?_
    refine x_icmp_ge h 19 dX11_power_6 (by decide) (fun c6 => ?_) (fun c6 => ?_)
    · obtain rfl : i = n := by
        have := (nI_le_iff hn (by omega)).mp c6
        omega
      refine x_iload_n h dX11_power_19 rfl ?_
      exact x_iret h hQ rfl dX11_power_20 ⟨rfl, rfl, _, rfl, rfl, rfl⟩
    · have hlt : i < n := by
        have := mt (nI_le_iff (a := n) (b := i) hn (by omega)).mpr c6
        omega
      refine x_iload_n h dX11_power_9 rfl ?_
      refine x_iload_n h dX11_power_10 rfl ?_
      refine x_imuln h  dX11_power_11 ?_
      refine x_istore_n h dX11_power_12 rfl rfl ?_
      dsimp only [List.set]
      refine x_incn h dX11_power_13 rfl rfl rfl ?_
      dsimp only [List.set]
      refine x_goto h 4 dX11_power_16 (by decide) ?_
      exact ih hlt
  refine x_in1 h dX11_power_0 ?_
  refine x_istore_n h dX11_power_1 rfl rfl ?_
  dsimp only [List.set]
  refine x_in0 h dX11_power_2 ?_
  refine x_istore_n h dX11_power_3 rfl rfl ?_
  dsimp only [List.set]
  exact loop 0 (Nat.zero_le _)
theorem c_X11_part {Γ : GT} {G : GG} {M : MM} {a b : Nat} {u : Bool} (ha : a < 2 ^ 31) (hb : b < 2 ^ 31) (h0 : 0 < b) : Calls Γ q_X11_part [.int (nI a), .int (nI b), .int (b2i u)] G M (rI (fun y M' => y = frcV u a b ∧ M' = M)) := by
  have gp : 0 < Nat.gcd a b := Nat.gcd_pos_of_pos_right a h0
  have gl : Nat.gcd a b ≤ b := Nat.gcd_le_right a h0
  refine Calls.intro (by decide +kernel) (Nat.le_of_ble_eq_true rfl) (fun z E h hQ => ?_)
  refine x_loc (L' := [some (.int (nI a)), some (.int (nI b)), some (.int (b2i u)), none, none, none, none]) rfl ?_
  have e64 := eu_64 (d := b) (r := a) (N := 64) rfl ha
  have fin : ∀ (l4 l5 l6 : Option Value), X Γ E 0 0 G z M 39 [some (.int (nI a)), some (.int (nI b)), some (.int (b2i u)), some (.int (nI (Nat.gcd a b))), l4, l5, l6] [] := by
    intro l4 l5 l6
    refine x_iload_n h dX11_part_39 rfl ?_
    refine x_if_ne h 46 dX11_part_40 (by decide) (fun c40 => ?_) (fun c40 => ?_)
    · refine x_iload_n h dX11_part_46 rfl ?_
      refine x_if_eq h 56 dX11_part_47 (by decide) (fun c47 => ?_) (fun c47 => ?_)
      · have e := b2i_0.mp c47
        refine x_iload_n h dX11_part_56 rfl ?_
        refine x_iload_n h dX11_part_57 rfl ?_
        refine x_idivn h ⟨by omega, by omega, by omega⟩ dX11_part_58 ?_
        exact x_iret h hQ rfl dX11_part_59 ⟨rfl, rfl, _, rfl, by unfold frcV; rw [e]; rfl, rfl⟩
      · have e := bool_nf (fun q => c47 (b2i_0.mpr q))
        refine x_iload_n h dX11_part_50 rfl ?_
        refine x_iload_n h dX11_part_51 rfl ?_
        refine x_idivn h ⟨by omega, by omega, by omega⟩ dX11_part_52 ?_
        refine x_goto h 59 dX11_part_53 (by decide) ?_
        exact x_iret h hQ rfl dX11_part_59 ⟨rfl, rfl, _, rfl, by unfold frcV; rw [e]; rfl, rfl⟩
    · exact absurd (nI_small 0 (by omega) (by decide) (c40.trans nI_0.symm)) (by omega)
  have loop : ∀ i, i ≤ 64 → ∀ d r, d < 2 ^ 31 → r < 2 ^ 31 → euN (64 - i) d r = (Nat.gcd a b, 0) → ∀ l6, X Γ E 0 0 G z M 8 [some (.int (nI a)), some (.int (nI b)), some (.int (b2i u)), some (.int (nI d)), some (.int (nI r)), some (.int (nI i)), l6] [] := by
    refine upto 64 (fun i hi ih d r hd hr he l6 => ?_)
    refine x_iload h dX11_part_8 rfl ?_
    refine x_bipush h (nI 64) (by decide) dX11_part_10 ?_
    refine x_icmp_ge h 39 dX11_part_12 (by decide) (fun c12 => ?_) (fun c12 => ?_)
    · obtain rfl : i = 64 := up_ge (by decide) hi c12
      have e1 : d = Nat.gcd a b := congrArg Prod.fst he
      rw [e1]
      exact fin _ _ _
    · have hlt : i < 64 := up_lt (by decide) hi c12
      refine x_iload h dX11_part_15 rfl ?_
      refine x_if_eq h 39 dX11_part_17 (by decide) (fun c17 => ?_) (fun c17 => ?_)
      · have hz : r = 0 := nI_small 0 hr (by decide) (c17.trans nI_0.symm)
        rw [hz, euN_0] at he
        have e1 : d = Nat.gcd a b := congrArg Prod.fst he
        rw [e1]
        exact fin _ _ _
      · have hz : ¬ r = 0 := fun q => c17 (by rw [q]; exact nI_0)
        have lt1 := Nat.mod_lt d (show r > 0 by omega)
        refine x_iload_n h dX11_part_20 rfl ?_
        refine x_iload h dX11_part_21 rfl ?_
        refine x_iremn h ⟨hd, by omega, hr⟩ dX11_part_23 ?_
        refine x_istore h dX11_part_24 rfl rfl ?_
        dsimp only [List.set]
        refine x_iload h dX11_part_26 rfl ?_
        refine x_istore_n h dX11_part_28 rfl rfl ?_
        dsimp only [List.set]
        refine x_iload h dX11_part_29 rfl ?_
        refine x_istore h dX11_part_31 rfl rfl ?_
        dsimp only [List.set]
        refine x_incn h dX11_part_33 rfl rfl rfl ?_
        dsimp only [List.set]
        refine x_goto h 8 dX11_part_36 (by decide) ?_
        refine ih hlt r (d % r) hr (by omega) ?_ _
        rw [show 64 - i = 64 - (i + 1) + 1 by omega, euN, if_neg hz] at he
        exact he
  refine x_iload_n h dX11_part_0 rfl ?_
  refine x_istore_n h dX11_part_1 rfl rfl ?_
  dsimp only [List.set]
  refine x_iload_n h dX11_part_2 rfl ?_
  refine x_istore h dX11_part_3 rfl rfl ?_
  dsimp only [List.set]
  refine x_in0 h dX11_part_5 ?_
  refine x_istore h dX11_part_6 rfl rfl ?_
  dsimp only [List.set]
  exact loop 0 (by decide) b a hb ha e64 none
