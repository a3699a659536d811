/-! ===== Invariants: guesses are given up until those left hold ===== -/
def invW (G : GG) (R : Nat → Nat → Value) (D : DS) (u : Nat) : Prop := G u = some (.inl 5) ∧ R u 0 = .ref (u + 1) ∧ flowW G R D (u + 1) ∧ R u 1 = .ref (u + 41) ∧ G (u + 41) = some (.inr (.int, 3))
/-- the guesses of a loop that aren't true in all that comes -/
def fgS (σ : SG) (cm gn : Nat) (gt : Nat → Nat) : ST := fun g => gn.testBit g && anyS (fun s => σ cm s && !σ (gt g) s)
theorem shl1 : ∀ g, g < 8 → nI 1 <<< (nI g &&& 31) = nI (2 ^ g) := by decide +kernel
theorem enN_set {S : ST} {g : Nat} (h : S g = true) : enN S 0 g ||| 2 ^ g = enN S 0 (g + 1) := by
  refine enN_eq (fun i => ?_)
  rw [Nat.testBit_or, enN_bit, Nat.testBit_two_pow]
  rcases Nat.lt_trichotomy i g with q | q | q
  · simp [q, Nat.lt_succ_of_lt q, Nat.ne_of_gt q]
  · subst q; simp [h]
  · simp [show ¬ i < g by omega, show ¬ i < g + 1 by omega, Nat.ne_of_lt q]
theorem enN_no {S : ST} {g : Nat} (h : S g = false) : enN S 0 g = enN S 0 (g + 1) := by
  rw [enN]; simp [h]
theorem c_X5_falseGuesses {Γ : GT} {G : GG} {M : MM} {D : DS} {σ : SG} {u c : Nat} {V : GV} (hI : invW G M.2.2 D u) (hW : codeF G M.2.2 c) (hV : gvW G M D c V) {l gn : Nat} (hl3 : l < 3) (hgn : M.1 (u + 41) l = nI gn) (hlt : gn < 2 ^ V.1) : Calls Γ q_X5_falseGuesses [.ref u, .ref c, .int (nI l)] G (wS D M σ) (rI (fun w M' => w = nI (enN (fgS σ (u + 1 + 3 + 1 + 2 * l) gn V.2) 0 5) ∧ M' = wS D M σ)) := by
  have hI0 := hI
  obtain ⟨gu, rf, hf, rgv, ggv⟩ := hI
  have hf0 := hf
  obtain ⟨gf, rn, dn, rc, ac, ri, ai, -⟩ := hf
  have hW0 := hW
  obtain ⟨gc, rs, gs, hs, rcc, gcn, hc, rg, gg, rkk, gk⟩ := hW
  have hV0 := hV
  obtain ⟨v5, hng, hg⟩ := hV
  have p32 : 2 ^ V.1 ≤ 32 := Nat.pow_le_pow_right (by decide) v5
  refine Calls.intro (by decide +kernel) (Nat.le_of_ble_eq_true rfl) (fun z E h hQ => ?_)
  refine x_loc (L' := [some (.ref u), some (.ref c), some (.int (nI l)), none, none]) rfl ?_
  have loop : ∀ g, g ≤ 5 → X Γ E 0 0 G z (wS D M σ) 32 [some (.ref u), some (.ref c), some (.int (nI l)), some (.int (nI (enN (fgS σ (u + 1 + 3 + 1 + 2 * l) gn V.2) 0 g))), some (.int (nI g))] [] := by
    refine upto 5 (fun g hg5 ih => ?_)
    refine x_iload h dX5_falseGuesses_32 rfl ?_
    refine x_in5 h dX5_falseGuesses_34 ?_
    refine x_icmp_ge h 91 dX5_falseGuesses_35 (by decide) (fun c35 => ?_) (fun c35 => ?_)
    · obtain rfl : g = 5 := up_ge (by decide) hg5 c35
      refine x_iload_n h dX5_falseGuesses_91 rfl ?_
      exact x_iret h hQ rfl dX5_falseGuesses_92 ⟨rfl, rfl, _, rfl, rfl, rfl⟩
    · have hl5 : g < 5 := up_lt (by decide) hg5 c35
      refine x_aload_n h dX5_falseGuesses_38 rfl ?_
      refine x_getR h gu f_X5_18 rfl rgv dX5_falseGuesses_39 ?_
      refine x_iload_n h dX5_falseGuesses_42 rfl ?_
      refine x_ialdv h l ggv (ix.ni hl3 (by decide)) hgn dX5_falseGuesses_43 ?_
      refine x_iload h dX5_falseGuesses_44 rfl ?_
      refine x_ishr h dX5_falseGuesses_46 ?_
      refine x_in1 h dX5_falseGuesses_47 ?_
      refine x_iand h dX5_falseGuesses_48 ?_
      refine x_topi (bit5 _ (Nat.lt_of_lt_of_le hlt p32) g hl5) ?_
      refine x_in1 h dX5_falseGuesses_49 ?_
      refine x_icmp_ne h 85 dX5_falseGuesses_50 (by decide) (fun c50 => ?_) (fun c50 => ?_)
      · have hb : gn.testBit g = false := by
          cases hx : gn.testBit g with
          | false => rfl
          | true => exact absurd (by rw [if_pos hx]) c50
        refine x_incn h dX5_falseGuesses_85 rfl rfl rfl ?_
        dsimp only [List.set]
        refine x_goto h 32 dX5_falseGuesses_88 (by decide) ?_
        have ihh := ih hl5
        rw [← enN_no (S := fgS σ (u + 1 + 3 + 1 + 2 * l) gn V.2) (g := g) (by simp [fgS, hb])] at ihh
        exact ihh
      · have hb : gn.testBit g = true := by
          cases hx : gn.testBit g with
          | true => rfl
          | false => rw [hx] at c50; exact absurd c50 (by decide)
        obtain ⟨q, rq, gq, rt, dt⟩ := hg g (tb_lt hlt hb)
        refine x_aload_n h dX5_falseGuesses_53 rfl ?_
        refine x_getR h gu f_X5_12 rfl rf dX5_falseGuesses_54 ?_
        refine x_getR h gf f_X5_44 rfl rc dX5_falseGuesses_57 ?_
        refine x_iload_n h dX5_falseGuesses_60 rfl ?_
        refine x_aald h l ac.1 (by decide) (ix.ni hl3 (by decide)) (ac.2 l hl3).1 dX5_falseGuesses_61 ?_
        refine x_aload_n h dX5_falseGuesses_62 rfl ?_
        refine x_getR h gc f_X5_47 rfl rg dX5_falseGuesses_63 ?_
        refine x_iload h dX5_falseGuesses_66 rfl ?_
        refine x_aald h g gg (by decide) (ix.ni hl5 (by decide)) rq dX5_falseGuesses_68 ?_
        refine x_getR h gq f_X5_51 rfl rt dX5_falseGuesses_69 ?_
        refine x_cVi h ci_X9_isWithin im_X9_isWithin l_X5_57 ⟨Nat.le_of_ble_eq_true rfl, Nat.le_of_ble_eq_true rfl⟩ ⟨rfl, rfl⟩ ⟨Nat.zero_le _, Nat.zero_le _⟩ (s_isWithin (ac.2 l hl3).2 dt) rfl rfl rfl rfl (ac.2 l hl3).2.1.1 (by decide) rfl dX5_falseGuesses_72 (fun v72 M72 hp72 => ?_)
        obtain ⟨rfl, hM⟩ := hp72
        obtain rfl := hM.symm
        clear hM
        refine x_if_ne h 85 dX5_falseGuesses_75 (by decide) (fun c75 => ?_) (fun c75 => ?_)
        · have hz : anyS (fun s => σ (u + 1 + 3 + 1 + 2 * l) s && !σ (V.2 g) s) = false := by
            cases hx : anyS (fun s => σ (u + 1 + 3 + 1 + 2 * l) s && !σ (V.2 g) s) with
            | false => rfl
            | true => rw [hx] at c75; exact absurd rfl c75
          refine x_incn h dX5_falseGuesses_85 rfl rfl rfl ?_
          dsimp only [List.set]
          refine x_goto h 32 dX5_falseGuesses_88 (by decide) ?_
          have ihh := ih hl5
          rw [← enN_no (S := fgS σ (u + 1 + 3 + 1 + 2 * l) gn V.2) (g := g) (by simp only [fgS, hb, Bool.true_and]; exact hz)] at ihh
          exact ihh
        · have hz : anyS (fun s => σ (u + 1 + 3 + 1 + 2 * l) s && !σ (V.2 g) s) = true := by
            cases hx : anyS (fun s => σ (u + 1 + 3 + 1 + 2 * l) s && !σ (V.2 g) s) with
            | true => rfl
            | false => rw [hx] at c75; exact absurd c75 (by decide)
          refine x_iload_n h dX5_falseGuesses_78 rfl ?_
          refine x_in1 h dX5_falseGuesses_79 ?_
          refine x_iload h dX5_falseGuesses_80 rfl ?_
          refine x_ishl h dX5_falseGuesses_82 ?_
          refine x_topi (shl1 g (by omega)) ?_
          refine x_ior h dX5_falseGuesses_83 ?_
          refine x_topi (y := nI (enN (fgS σ (u + 1 + 3 + 1 + 2 * l) gn V.2) 0 (g + 1))) (by rw [fa_or, enN_set (by simp only [fgS, hb, Bool.true_and]; exact hz)]) ?_
          refine x_istore_n h dX5_falseGuesses_84 rfl rfl ?_
          dsimp only [List.set]
          refine x_incn h dX5_falseGuesses_85 rfl rfl rfl ?_
          dsimp only [List.set]
          refine x_goto h 32 dX5_falseGuesses_88 (by decide) ?_
          exact ih hl5
  refine x_in0 h dX5_falseGuesses_0 ?_
  refine x_istore_n h dX5_falseGuesses_1 rfl rfl ?_
  dsimp only [List.set]
  refine x_iload_n h dX5_falseGuesses_2 rfl ?_
  refine x_if_lt h 27 dX5_falseGuesses_3 (by decide) (fun c3 => ?_) (fun c3 => ?_)
  · exact (nI_nneg (by omega) c3).elim
  · refine x_iload_n h dX5_falseGuesses_6 rfl ?_
    refine x_aload_n h dX5_falseGuesses_7 rfl ?_
    refine x_getR h gu f_X5_18 rfl rgv dX5_falseGuesses_8 ?_
    refine x_alen h ggv (by decide) dX5_falseGuesses_11 ?_
    refine x_icmp_ge h 27 dX5_falseGuesses_12 (by decide) (fun c12 => ?_) (fun c12 => ?_)
    · exact absurd ((nI_le_iff (by decide) (by omega)).mp c12) (by omega)
    · refine x_iload_n h dX5_falseGuesses_15 rfl ?_
      refine x_aload_n h dX5_falseGuesses_16 rfl ?_
      refine x_getR h gu f_X5_12 rfl rf dX5_falseGuesses_17 ?_
      refine x_getR h gf f_X5_44 rfl rc dX5_falseGuesses_20 ?_
      refine x_alen h ac.1 (by decide) dX5_falseGuesses_23 ?_
      refine x_icmp_lt h 29 dX5_falseGuesses_24 (by decide) (fun c24 => ?_) (fun c24 => ?_)
      · refine x_in0 h dX5_falseGuesses_29 ?_
        refine x_istore h dX5_falseGuesses_30 rfl rfl ?_
        dsimp only [List.set]
        exact loop 0 (by decide)
      · exact absurd ((nI_lt_iff (by omega) (by decide)).mpr hl3) c24
