/-! ===== the reference: which ===== -/
theorem encW_and (S T : ST) (k : Nat) : encW S k &&& encW T k = encW (fun s => S s && T s) k := by
  unfold encW
  rw [fb_andL]
  congr 1
  refine enN_eq (fun i => ?_)
  rw [Nat.testBit_and, enN_bit, enN_bit]
  cases decide (i < 54) <;> cases S (54 * k + i) <;> cases T (54 * k + i) <;> rfl
theorem encW_diff (S T : ST) (k : Nat) : encW S k &&& (encW T k ^^^ (-1)) = encW (fun s => S s && !T s) k := by
  unfold encW
  rw [lN_m1, fb_xorL, fb_andL]
  congr 1
  refine enN_eq (fun i => ?_)
  rw [Nat.testBit_and, Nat.testBit_xor, enN_bit, enN_bit, Nat.testBit_two_pow_sub_one]
  by_cases hi : i < 54
  · simp [hi, show i < 64 by omega]
  · simp [hi]
theorem encW_all (k : Nat) : (18014398509481983 : Int64) = encW (fun _ => true) k := by
  rw [fa_litL]
  refine congrArg lN (enN_eq (fun i => ?_))
  have e : Nat.testBit 18014398509481983 i = decide (i < 54) := Nat.testBit_two_pow_sub_one 54 i
  exact e.trans (by simp)
/-- the memory with the states that may be -/
def wY (M : MM) (m : Nat) (S : ST) : MM := wL M (m + 31) 4 (encW S)
theorem mInv_Y {M : MM} {m : Nat} {tx : Nat → Nat} {len : Nat} {pg : PGM} {su : SU} {hy : HY} {kp : KP} {ze : SE} {sd : Int64} (hI : mInv M m tx len pg su hy kp ze sd) (k : Nat) (f : Nat → Int64) : mInv (wL M (m + 31) k f) m tx len pg su hy kp ze sd := by
  obtain ⟨iT, iP, iN, iD, iK, iS, iE, iC⟩ := hI
  exact ⟨iT, iP, iN, iD, iK, iS, (wL_ne _ _ _ _ (by omega)).trans iE, mCF_lg iC (fun a j q => wL_ne _ _ _ _ (by omega))⟩
theorem off_Y {m : Nat} {M N : MM} (h : offM m M N) (k : Nat) (f : Nat → Int64) : offM m M (wL N (m + 31) k f) := off_trans h ⟨rfl, fun b q => ⟨fun j => rfl, fun j => wL_ne _ _ _ _ (by omega)⟩⟩
theorem wCF_Y (M : MM) (m k : Nat) (f : Nat → Int64) (C F : NS) {x : Int64} (hx : x = f k) : sL (wCF (wL M (m + 31) k f) m C F) (m + 31) k x = wCF (wL M (m + 31) (k + 1) f) m C F := by
  rw [← wL_succ M (m + 31) k f hx]
  refine Prod.ext rfl (Prod.ext ?_ rfl)
  funext b j
  show (if b = m + 31 ∧ j = k then x else (wCF (wL M (m + 31) k f) m C F).2.1 b j) = (if b = m + 28 ∧ j < 248 then _ else if b = m + 29 ∧ j < 248 then _ else if b = m + 31 ∧ j = k then x else (wL M (m + 31) k f).2.1 b j)
  by_cases q : b = m + 31 ∧ j = k
  · rw [if_pos q, if_neg (by omega), if_neg (by omega), if_pos q]
  · rw [if_neg q, if_neg q]
    rfl
theorem wL_ov (M : MM) (p k n : Nat) (f h : Nat → Int64) (hk : k ≤ n) : wL (wL M p n h) p k f = wL M p n (fun j => if j < k then f j else h j) := by
  refine Prod.ext rfl (Prod.ext ?_ rfl)
  funext b j
  show (if b = p ∧ j < k then f j else if b = p ∧ j < n then h j else M.2.1 b j) = (if b = p ∧ j < n then (if j < k then f j else h j) else M.2.1 b j)
  by_cases q1 : b = p ∧ j < k
  · rw [if_pos q1, if_pos ⟨q1.1, by omega⟩, if_pos q1.2]
  · rw [if_neg q1]
    by_cases q2 : b = p ∧ j < n
    · rw [if_pos q2, if_pos q2, if_neg (fun q => q1 ⟨q2.1, q⟩)]
    · rw [if_neg q2, if_neg q2]
theorem wY_get (M : MM) (m : Nat) (S : ST) (C F : NS) {k : Nat} (hk : k < 4) : (wCF (wY M m S) m C F).2.1 (m + 31) k = encW S k := by
  show (if m + 31 = m + 28 ∧ k < 248 then _ else if m + 31 = m + 29 ∧ k < 248 then _ else (wL M (m + 31) 4 (encW S)).2.1 (m + 31) k) = _
  rw [if_neg (by omega), if_neg (by omega), wL_at, if_pos hk]
theorem c_X12_leave {Γ : GT} {G : GG} {M : MM} {m : Nat} (hF : mdF G M.2.2 m) {Q : AP} (hP : mpW M m Q) (hO : okM Q) {C F : NS} {S : ST} {cv : Int32} {w : Nat} (hw : w < 2) : Calls Γ q_X12_leave [.ref m, .int cv, .int (nI w)] G (wCF (wY M m S) m C F) (rV (fun M' => ∃ (S2 : ST) (x : NS × NS), (∀ s, S2 s = true ↔ S s = true ∧ (w = 1 ↔ Can (edM Q) (flM Q cv) (nA Q) 0 s)) ∧ M' = wCF (wY M m S2) m x.1 x.2)) := by
  refine Calls.intro (by decide +kernel) (Nat.le_of_ble_eq_true rfl) (fun z E h hQ => ?_)
  refine x_loc (L' := [some (.ref m), some (.int cv), some (.int (nI w)), none]) rfl ?_
  have loop : ∀ x : NS × NS, canC Q cv x.1 → ∀ i, i ≤ 4 → X Γ E 0 0 G z (wCF (wL (wY M m S) (m + 31) i (encW (fun s => S s && (if w = 1 then x.1 0 s else !x.1 0 s)))) m x.1 x.2) 7 [some (.ref m), some (.int cv), some (.int (nI w)), some (.int (nI i))] [] := by
    intro x hx
    refine upto 4 (fun i hi ih => ?_)
    refine x_iload_n h dX12_leave_7 rfl ?_
    refine x_in4 h dX12_leave_8 ?_
    refine x_icmp_ge h 51 dX12_leave_9 (by decide) (fun c9 => ?_) (fun c9 => ?_)
    · obtain rfl : i = 4 := up_ge (by decide) hi c9
      refine x_vret h hQ rfl dX12_leave_51 ⟨rfl, rfl, rfl, (fun s => S s && (if w = 1 then x.1 0 s else !x.1 0 s)), x, fun s => ?_, ?_⟩
      · have e := hx 0 s
        show (S s && (if w = 1 then x.1 0 s else !x.1 0 s)) = true ↔ _
        rw [Bool.and_eq_true]
        by_cases q : w = 1
        · rw [if_pos q, e]
          exact ⟨fun a => ⟨a.1, fun _ => a.2, fun _ => q⟩, fun a => ⟨a.1, a.2.mp q⟩⟩
        · rw [if_neg q]
          refine ⟨fun a => ⟨a.1, fun b => absurd b q, fun b => ?_⟩, fun a => ⟨a.1, ?_⟩⟩
          · rw [e.mpr b] at a; exact absurd a.2 (by decide)
          · cases hz : x.1 0 s with
            | false => rfl
            | true => exact absurd (a.2.mpr (e.mp hz)) q
      · unfold wY
        rw [wL_ov _ _ _ _ _ _ (Nat.le_refl 4)]
        exact congrArg (fun N => wCF N m x.1 x.2) (wL_congr _ _ _ (fun j hj => if_pos hj))
    · have hlt : i < 4 := up_lt (by decide) hi c9
      refine x_aload_n h dX12_leave_12 rfl ?_
      refine x_getR h hF.1 f_X12_102 rfl (md_mays hF).1 dX12_leave_13 ?_
      refine x_iload_n h dX12_leave_16 rfl ?_
      refine x_dup2 h rfl rfl dX12_leave_17 ?_
      refine x_laldv h i (md_mays hF).2 (ix.ni (j := i) (by omega) (by decide)) (show _ = encW S i from by
        show (if m + 31 = m + 28 ∧ i < 248 then _ else if m + 31 = m + 29 ∧ i < 248 then _ else (wL (wY M m S) (m + 31) i _).2.1 (m + 31) i) = _
        rw [if_neg (by omega), if_neg (by omega), wL_at, if_neg (Nat.lt_irrefl _)]
        exact (wL_at _ _ _ _ _).trans (if_pos hlt)) dX12_leave_18 ?_
      refine x_iload_n h dX12_leave_19 rfl ?_
      refine x_in1 h dX12_leave_20 ?_
      refine x_icmp_ne h 33 dX12_leave_21 (by decide) (fun c21 => ?_) (fun c21 => ?_)
      · have ew : ¬ w = 1 := fun q => c21 (by rw [q])
        refine x_aload_n h dX12_leave_33 rfl ?_
        refine x_getR h hF.1 f_X12_92 rfl (md_comes hF).1 dX12_leave_34 ?_
        refine x_iload_n h dX12_leave_37 rfl ?_
        refine x_laldv h i (md_comes hF).2 (ix.ni (j := i) (by omega) (by decide)) (show _ = encW (x.1 0) i from by have := wCF_c (M := wL (wY M m S) (m + 31) i (encW (fun s => S s && (if w = 1 then x.1 0 s else !x.1 0 s)))) (m := m) (C := x.1) (F := x.2) (k := 0) (w := i) (by decide) hlt; rw [Nat.mul_zero, Nat.zero_add] at this; exact this) dX12_leave_38 ?_
        refine x_ldc2 h kl_X12_374 dX12_leave_39 ?_
        refine x_lxor h dX12_leave_42 ?_
        refine x_land h dX12_leave_43 ?_
        refine x_topl (y := encW (fun s => S s && (if w = 1 then x.1 0 s else !x.1 0 s)) i) (by rw [encW_diff]; simp only [ew, if_false]) ?_
        refine x_last h i (md_mays hF).2 (ix.ni (j := i) (by omega) (by decide)) dX12_leave_44 ?_
        refine x_mem (wCF_Y (wY M m S) m i (encW (fun s => S s && (if w = 1 then x.1 0 s else !x.1 0 s))) x.1 x.2 rfl) ?_
        refine x_incn h dX12_leave_45 rfl rfl rfl ?_
        dsimp only [List.set]
        refine x_goto h 7 dX12_leave_48 (by decide) ?_
        exact ih hlt
      · have ew : w = 1 := nI_small 1 (by omega) (by decide) c21
        refine x_aload_n h dX12_leave_24 rfl ?_
        refine x_getR h hF.1 f_X12_92 rfl (md_comes hF).1 dX12_leave_25 ?_
        refine x_iload_n h dX12_leave_28 rfl ?_
        refine x_laldv h i (md_comes hF).2 (ix.ni (j := i) (by omega) (by decide)) (show _ = encW (x.1 0) i from by have := wCF_c (M := wL (wY M m S) (m + 31) i (encW (fun s => S s && (if w = 1 then x.1 0 s else !x.1 0 s)))) (m := m) (C := x.1) (F := x.2) (k := 0) (w := i) (by decide) hlt; rw [Nat.mul_zero, Nat.zero_add] at this; exact this) dX12_leave_29 ?_
        refine x_goto h 43 dX12_leave_30 (by decide) ?_
        refine x_land h dX12_leave_43 ?_
        refine x_topl (y := encW (fun s => S s && (if w = 1 then x.1 0 s else !x.1 0 s)) i) (by rw [encW_and]; simp only [ew, if_true]) ?_
        refine x_last h i (md_mays hF).2 (ix.ni (j := i) (by omega) (by decide)) dX12_leave_44 ?_
        refine x_mem (wCF_Y (wY M m S) m i (encW (fun s => S s && (if w = 1 then x.1 0 s else !x.1 0 s))) x.1 x.2 rfl) ?_
        refine x_incn h dX12_leave_45 rfl rfl rfl ?_
        dsimp only [List.set]
        refine x_goto h 7 dX12_leave_48 (by decide) ?_
        exact ih hlt
  refine x_aload_n h dX12_leave_0 rfl ?_
  refine x_iload_n h dX12_leave_1 rfl ?_
  refine x_cVv h ci_X12_layCans im_X12_layCans l_X12_371 ⟨Nat.le_of_ble_eq_true rfl, Nat.le_of_ble_eq_true rfl⟩ ⟨rfl, rfl⟩ ⟨Nat.zero_le _, Nat.zero_le _⟩ (c_X12_layCans (M := wY M m S) hF hP hO) rfl rfl rfl rfl hF.1 (by decide) rfl dX12_leave_2 (fun M2 hp2 => ?_)
  obtain ⟨x, hM, hx⟩ := hp2
  subst hM
  refine x_in0 h dX12_leave_5 ?_
  refine x_istore_n h dX12_leave_6 rfl rfl ?_
  dsimp only [List.set]
  have l0 := loop x hx 0 (Nat.zero_le _)
  rw [wL_0] at l0
  exact l0
def cvO (pg : PGM) (c : Nat) : Int32 := if c < pg.2.2.1.1 then nI c else -9
/-- the state agrees with the first i that were seen -/
def whP (pg : PGM) (ze : SE) (i s : Nat) : Prop := ∀ j, j < i → (ze.2.2 j = 1 ↔ Can (edM pg.1) (flM pg.1 (cvO pg (ze.2.1 j))) (nA pg.1) 0 s)
def whS (pg : PGM) (su : SU) (ze : SE) (n : Nat) (y : Int32) : Prop := ∃ S : ST, (∀ s, s < 216 → (S s = true ↔ begS su.1 s = true ∧ whP pg ze ze.1 s)) ∧ y = (if n = 0 then nI (fb_ct S 216) else fstV S)
/-- counted, and found, from above -/
def cdN (S : ST) : Nat → Nat
  | 0 => 0
  | j + 1 => cdN S j + (if S (215 - j) then 1 else 0)
def fdN (S : ST) : Nat → Int32
  | 0 => -9
  | j + 1 => if S (215 - j) then nI (told (215 - j)) else fdN S j
theorem cd_ct {S : ST} {n : Nat} : ∀ j, j ≤ 216 → 216 - j = n → fb_ct S n + cdN S j = fb_ct S 216
  | 0, _, e => by
    obtain rfl : n = 216 := by omega
    exact Nat.add_zero _
  | j + 1, hj, e => by
    have ih := cd_ct (S := S) (n := n + 1) j (by omega) (by omega)
    rw [fb_ct_succ] at ih
    show fb_ct S n + (cdN S j + if S (215 - j) then 1 else 0) = fb_ct S 216
    rw [show 215 - j = n by omega, ← ih]
    omega
theorem cdN_y {S : ST} {j : Nat} (h : S (215 - j) = true) : cdN S (j + 1) = cdN S j + 1 := by rw [cdN, h]; rfl
theorem cdN_n {S : ST} {j : Nat} (h : S (215 - j) = false) : cdN S (j + 1) = cdN S j + 0 := by rw [cdN, h]; rfl
theorem fdN_y {S : ST} {j : Nat} (h : S (215 - j) = true) : fdN S (j + 1) = nI (told (215 - j)) := by rw [fdN, h]; rfl
theorem fdN_n {S : ST} {j : Nat} (h : S (215 - j) = false) : fdN S (j + 1) = fdN S j := by rw [fdN, h]; rfl
theorem fd_ge {S : ST} : ∀ j, j ≤ 216 → (fdN S j = -9 ∧ ∀ s, 216 - j ≤ s → s < 216 → S s = false) ∨ ∃ i, 216 - j ≤ i ∧ i < 216 ∧ S i = true ∧ (∀ u, 216 - j ≤ u → u < i → S u = false) ∧ fdN S j = nI (told i)
  | 0, _ => Or.inl ⟨rfl, fun i h1 h2 => absurd h2 (by omega)⟩
  | j + 1, hj => by
    unfold fdN
    cases hp : S (215 - j) with
    | true => exact Or.inr ⟨215 - j, by omega, by omega, hp, fun u h1 h2 => absurd h2 (by omega), rfl⟩
    | false =>
      rcases fd_ge (S := S) j (by omega) with ⟨a, b⟩ | ⟨i, a, b, c, d, e⟩
      · refine Or.inl ⟨a, fun i h1 h2 => ?_⟩
        rcases Nat.lt_or_ge i (216 - j) with q | q
        · rw [show i = 215 - j by omega]; exact hp
        · exact b i q h2
      · refine Or.inr ⟨i, by omega, b, c, fun u h1 h2 => ?_, e⟩
        rcases Nat.lt_or_ge u (216 - j) with q | q
        · rw [show u = 215 - j by omega]; exact hp
        · exact d u q h2
theorem fd_fst {S : ST} {n : Nat} (hn : n = 216) : fdN S n = fstV S := by
  rcases fd_ge (S := S) n (by omega) with ⟨a, b⟩ | ⟨i, a, b, c, d, e⟩
  · rw [a, fstV, if_neg (first_none (fun s hs => b s (by omega) hs))]
  · rw [e, fstV, first_is b c (fun u hu => d u (by omega) hu), if_pos b]
theorem c_X12_which_0 {Γ : GT} {G : GG} {M : MM} {m : Nat} (hF : mdF G M.2.2 m) {tx : Nat → Nat} {len : Nat} {pg : PGM} {su : SU} {hy : HY} {kp : KP} {ze : SE} {sd : Int64} (hI : mInv M m tx len pg su hy kp ze sd) {x : Int32} (hx : ∀ n, n < 2 → x ≠ nI n) : Calls Γ q_X12_which [.ref m, .int x] G M (rI (fun y M' => y = -2 ∧ mInv M' m (tx) (len) (pg) (su) (hy) (kp) (ze) (sd) ∧ offM m M M')) := by
  have hI0 := hI
  obtain ⟨iT, iP, iN, iD, iK, iS, iE, iC⟩ := hI
  refine Calls.intro (by decide +kernel) (Nat.le_of_ble_eq_true rfl) (fun z E h hQ => ?_)
  refine x_loc (L' := [some (.ref m), some (.int x), none, none, none, none]) rfl ?_
  refine x_iload_n h dX12_which_0 rfl ?_
  refine x_i2l h dX12_which_1 ?_
  refine x_lc0 h dX12_which_2 ?_
  refine x_lc1 h dX12_which_3 ?_
  refine x_cSi h ci_X12_in sm_X12_in l_X12_114 ⟨Nat.le_of_ble_eq_true rfl, Nat.le_of_ble_eq_true rfl⟩ ⟨rfl, rfl⟩ ⟨Nat.zero_le _, Nat.zero_le _⟩ (c_X12_in (b := lN 0) (c := lN 1)) rfl rfl rfl rfl dX12_which_4 (fun v4 M4 hp4 => ?_)
  obtain ⟨rfl, hM⟩ := hp4
  obtain rfl := hM.symm
  clear hM
  refine x_if_ne h 13 dX12_which_7 (by decide) (fun c7 => ?_) (fun c7 => ?_)
  · exact absurd (b2i_0.mpr (in_no hx (by decide))) c7
  · refine x_bipush h (-2) (by decide) dX12_which_10 ?_
    exact x_iret h hQ rfl dX12_which_12 ⟨rfl, rfl, _, rfl, rfl, hI0, off_refl m M⟩
theorem c_X12_which_1 {Γ : GT} {G : GG} {M : MM} {m : Nat} (hF : mdF G M.2.2 m) {tx : Nat → Nat} {len : Nat} {pg : PGM} {su : SU} {hy : HY} {kp : KP} {ze : SE} {sd : Int64} (hI : mInv M m tx len pg su hy kp ze sd) {n : Nat} (hn : n < 2) : Calls Γ q_X12_which [.ref m, .int (nI n)] G M (rI (fun y M' => whS pg su ze n y ∧ mInv M' m tx len pg su hy kp ze sd ∧ offM m M M')) := by
  have hI0 := hI
  obtain ⟨iT, iP, iN, iD, iK, iS, iE, iC⟩ := hI
  have ht : rowI M (m + 21) su.1 := fun v hv => ⟨by have := iN.1.1 v hv; rw [Nat.zero_add] at this; exact this, iN.2.1 v hv⟩
  have nk4 := iP.2.2.2.1.1
  obtain ⟨z6, zn, zk⟩ := iS
  obtain ⟨C0, F0, hCF⟩ := iC
  refine Calls.intro (by decide +kernel) (Nat.le_of_ble_eq_true rfl) (fun z E h hQ => ?_)
  refine x_loc (L' := [some (.ref m), some (.int (nI n)), none, none, none, none]) rfl ?_
  have loop3 : ∀ S C F, (∀ s, s < 216 → (S s = true ↔ whP pg ze ze.1 s)) → ∀ j, j ≤ 216 → ∀ w, X Γ E 0 0 G z (wCF (wY M m S) m C F) 95 [some (.ref m), some (.int (nI n)), some (.int (nI (cdN (fun s => begS su.1 s && S s) j))), some (.int (fdN (fun s => begS su.1 s && S s) j)), some (.int (if j < 216 then nI (216 - 1 - j) else -1)), w] [] := by
    intro S C F hS
    refine upto 216 (fun j hj ih w => ?_)
    have hM9 : mInv (wCF (wY M m S) m C F) m tx len pg su hy kp ze sd := mInv_CF (mInv_Y hI0 _ _) C F
    refine x_iload h dX12_which_95 rfl ?_
    refine x_if_lt h 176 dX12_which_97 (by decide) (fun c97 => ?_) (fun c97 => ?_)
    · obtain rfl : j = 216 := by
        rcases Nat.lt_or_ge j 216 with q | q
        · rw [if_pos q] at c97; exact (nI_nneg (by omega) c97).elim
        · omega
      refine x_iload_n h dX12_which_176 rfl ?_
      refine x_if_ne h 184 dX12_which_177 (by decide) (fun c177 => ?_) (fun c177 => ?_)
      · have e0 : ¬ n = 0 := fun q => c177 (by rw [q]; exact nI_0)
        refine x_iload_n h dX12_which_184 rfl ?_
        exact x_iret h hQ rfl dX12_which_185 ⟨rfl, rfl, _, rfl, ⟨(fun s => begS su.1 s && S s), fun s hs => by rw [← hS s hs, ← Bool.and_eq_true], by rw [if_neg e0]; exact fd_fst rfl⟩, hM9, off_C (off_Y (off_refl m M) _ _) C F⟩
      · have e0 : n = 0 := nI_small 0 (by omega) (by decide) (c177.trans nI_0.symm)
        refine x_iload_n h dX12_which_180 rfl ?_
        refine x_goto h 185 dX12_which_181 (by decide) ?_
        exact x_iret h hQ rfl dX12_which_185 ⟨rfl, rfl, _, rfl, ⟨(fun s => begS su.1 s && S s), fun s hs => by rw [← hS s hs, ← Bool.and_eq_true], by rw [if_pos e0]; exact congrArg nI ((Nat.zero_add _).symm.trans (cd_ct (S := (fun s => begS su.1 s && S s)) (n := 0) 216 (Nat.le_refl _) rfl))⟩, hM9, off_C (off_Y (off_refl m M) _ _) C F⟩
    · have hjl : j < 216 := by
        rcases Nat.lt_or_ge j 216 with q | q
        · exact q
        · rw [if_neg (by omega)] at c97; exact absurd (by decide) c97
      rw [if_pos hjl]
      rw [show 216 - 1 - j = 215 - j by omega]
      refine x_aload_n h dX12_which_100 rfl ?_
      refine x_getR h hF.1 f_X12_70 rfl (md_now hF).1 dX12_which_101 ?_
      refine x_iload h dX12_which_104 rfl ?_
      refine x_cSi h ci_X12_mayBegin sm_X12_mayBegin l_X12_258 ⟨Nat.le_of_ble_eq_true rfl, Nat.le_of_ble_eq_true rfl⟩ ⟨rfl, rfl⟩ ⟨Nat.zero_le _, Nat.zero_le _⟩ (c_X12_mayBegin (M := wCF (wY M m S) m C F) (md_now hF).2 ht (s := 215 - j) (by omega)) rfl rfl rfl rfl dX12_which_106 (fun v106 M106 hp106 => ?_)
      obtain ⟨rfl, hM⟩ := hp106
      obtain rfl := hM.symm
      clear hM
      refine x_if_eq h 139 dX12_which_109 (by decide) (fun c109 => ?_) (fun c109 => ?_)
      · have e1 := b2i_0.mp c109
        refine x_ic0 h dX12_which_139 ?_
        refine x_istore h dX12_which_140 rfl rfl ?_
        dsimp only [List.set]
        refine x_iload_n h dX12_which_142 rfl ?_
        refine x_iload h dX12_which_143 rfl ?_
        refine x_if_eq h 152 dX12_which_145 (by decide) (fun c145 => ?_) (fun c145 => ?_)
        · refine x_in0 h dX12_which_152 ?_
          refine x_iaddn h  dX12_which_153 ?_
          refine x_istore_n h dX12_which_154 rfl rfl ?_
          dsimp only [List.set]
          refine x_iload h dX12_which_155 rfl ?_
          refine x_if_eq h 168 dX12_which_157 (by decide) (fun c157 => ?_) (fun c157 => ?_)
          · refine x_iload_n h dX12_which_168 rfl ?_
            refine x_istore_n h dX12_which_169 rfl rfl ?_
            dsimp only [List.set]
            refine x_iinc h (-1) (by decide) dX12_which_170 rfl rfl rfl ?_
            dsimp only [List.set]
            refine x_goto h 95 dX12_which_173 (by decide) ?_
            have hp9 : (fun s => begS su.1 s && S s) (215 - j) = false := by show (_ && _) = false; rw [e1]; rfl
            have ihh := fun w => ih hjl w
            rw [cdN_n (S := (fun s => begS su.1 s && S s)) hp9, fdN_n (S := (fun s => begS su.1 s && S s)) hp9] at ihh
            have e7 := dec37 hjl
            rw [show 216 - 1 - j = 215 - j by omega] at e7
            rw [e7]
            exact ihh _
          · exact absurd c157 (by decide)
        · exact absurd c145 (by decide)
      · have e1 := bool_nf (fun q => c109 (b2i_0.mpr q))
        refine x_aload_n h dX12_which_112 rfl ?_
        refine x_getR h hF.1 f_X12_102 rfl (md_mays hF).1 dX12_which_113 ?_
        refine x_iload h dX12_which_116 rfl ?_
        refine x_bipush h (nI 54) (by decide) dX12_which_118 ?_
        refine x_idivn h ⟨by omega, by decide, by decide⟩ dX12_which_120 ?_
        refine x_laldv h ((215 - j) / 54) (md_mays hF).2 (ix.ni (by omega) (by decide)) (wY_get M m S C F (by omega)) dX12_which_121 ?_
        refine x_iload h dX12_which_122 rfl ?_
        refine x_bipush h (nI 54) (by decide) dX12_which_124 ?_
        refine x_iremn h ⟨by omega, by decide, by decide⟩ dX12_which_126 ?_
        refine x_lshr h dX12_which_127 ?_
        refine x_lc1 h dX12_which_128 ?_
        refine x_land h dX12_which_129 ?_
        refine x_topl (encW_bit S (s := 215 - j) (by omega)) ?_
        refine x_lc1 h dX12_which_130 ?_
        refine x_lcmp h dX12_which_131 ?_
        refine x_if_ne h 139 dX12_which_132 (by decide) (fun c132 => ?_) (fun c132 => ?_)
        · have e2 : S (215 - j) = false := by
            cases hz : S (215 - j) with
            | false => rfl
            | true => rw [hz] at c132; exact absurd ((lg_cmp_eq _ _).mpr rfl) c132
          refine x_ic0 h dX12_which_139 ?_
          refine x_istore h dX12_which_140 rfl rfl ?_
          dsimp only [List.set]
          refine x_iload_n h dX12_which_142 rfl ?_
          refine x_iload h dX12_which_143 rfl ?_
          refine x_if_eq h 152 dX12_which_145 (by decide) (fun c145 => ?_) (fun c145 => ?_)
          · refine x_in0 h dX12_which_152 ?_
            refine x_iaddn h  dX12_which_153 ?_
            refine x_istore_n h dX12_which_154 rfl rfl ?_
            dsimp only [List.set]
            refine x_iload h dX12_which_155 rfl ?_
            refine x_if_eq h 168 dX12_which_157 (by decide) (fun c157 => ?_) (fun c157 => ?_)
            · refine x_iload_n h dX12_which_168 rfl ?_
              refine x_istore_n h dX12_which_169 rfl rfl ?_
              dsimp only [List.set]
              refine x_iinc h (-1) (by decide) dX12_which_170 rfl rfl rfl ?_
              dsimp only [List.set]
              refine x_goto h 95 dX12_which_173 (by decide) ?_
              have hp9 : (fun s => begS su.1 s && S s) (215 - j) = false := by show (_ && _) = false; rw [e1, e2]; rfl
              have ihh := fun w => ih hjl w
              rw [cdN_n (S := (fun s => begS su.1 s && S s)) hp9, fdN_n (S := (fun s => begS su.1 s && S s)) hp9] at ihh
              have e7 := dec37 hjl
              rw [show 216 - 1 - j = 215 - j by omega] at e7
              rw [e7]
              exact ihh _
            · exact absurd c157 (by decide)
          · exact absurd c145 (by decide)
        · have e2 : S (215 - j) = true := by
            cases hz : S (215 - j) with
            | true => rfl
            | false => rw [hz] at c132; exact absurd ((lg_cmp_eq _ _).mp c132) (by decide)
          refine x_ic1 h dX12_which_135 ?_
          refine x_goto h 140 dX12_which_136 (by decide) ?_
          refine x_istore h dX12_which_140 rfl rfl ?_
          dsimp only [List.set]
          refine x_iload_n h dX12_which_142 rfl ?_
          refine x_iload h dX12_which_143 rfl ?_
          refine x_if_eq h 152 dX12_which_145 (by decide) (fun c145 => ?_) (fun c145 => ?_)
          · exact absurd c145 (by decide)
          · refine x_in1 h dX12_which_148 ?_
            refine x_goto h 153 dX12_which_149 (by decide) ?_
            refine x_iaddn h  dX12_which_153 ?_
            refine x_istore_n h dX12_which_154 rfl rfl ?_
            dsimp only [List.set]
            refine x_iload h dX12_which_155 rfl ?_
            refine x_if_eq h 168 dX12_which_157 (by decide) (fun c157 => ?_) (fun c157 => ?_)
            · exact absurd c157 (by decide)
            · refine x_iload h dX12_which_160 rfl ?_
              refine x_cSi h ci_X12_told sm_X12_told l_X12_295 ⟨Nat.le_of_ble_eq_true rfl, Nat.le_of_ble_eq_true rfl⟩ ⟨rfl, rfl⟩ ⟨Nat.zero_le _, Nat.zero_le _⟩ (c_X12_told (s := 215 - j) (by omega)) rfl rfl rfl rfl dX12_which_162 (fun v162 M162 hp162 => ?_)
              have hv := hp162.1
              have hM := hp162.2
              clear hp162
              rw [hv]
              clear hv v162
              obtain rfl := hM.symm
              clear hM
              refine x_goto h 169 dX12_which_165 (by decide) ?_
              refine x_istore_n h dX12_which_169 rfl rfl ?_
              dsimp only [List.set]
              refine x_iinc h (-1) (by decide) dX12_which_170 rfl rfl rfl ?_
              dsimp only [List.set]
              refine x_goto h 95 dX12_which_173 (by decide) ?_
              have hp9 : (fun s => begS su.1 s && S s) (215 - j) = true := by show (_ && _) = true; rw [e1, e2]; rfl
              have ihh := fun w => ih hjl w
              rw [cdN_y (S := (fun s => begS su.1 s && S s)) hp9, fdN_y (S := (fun s => begS su.1 s && S s)) hp9] at ihh
              have e7 := dec37 hjl
              rw [show 216 - 1 - j = 215 - j by omega] at e7
              rw [e7]
              exact ihh _
  have loop2 : ∀ i, i ≤ ze.1 → ∀ S C F, (∀ s, s < 216 → (S s = true ↔ whP pg ze i s)) → X Γ E 0 0 G z (wCF (wY M m S) m C F) 37 [some (.ref m), some (.int (nI n)), some (.int (nI i)), none, none, none] [] := by
    refine upto ze.1 (fun i hi ih S C F hS => ?_)
    refine x_iload_n h dX12_which_37 rfl ?_
    refine x_aload_n h dX12_which_38 rfl ?_
    refine x_getIv h hF.1 f_X12_316 rfl zn dX12_which_39 ?_
    refine x_icmp_ge h 85 dX12_which_42 (by decide) (fun c42 => ?_) (fun c42 => ?_)
    · obtain rfl : i = ze.1 := by
        have := (nI_le_iff (by omega) (by omega)).mp c42
        omega
      refine x_in0 h dX12_which_85 ?_
      refine x_istore_n h dX12_which_86 rfl rfl ?_
      dsimp only [List.set]
      refine x_bipush h (-9) (by decide) dX12_which_87 ?_
      refine x_istore_n h dX12_which_89 rfl rfl ?_
      dsimp only [List.set]
      refine x_sipush h (nI 215) (by decide) dX12_which_90 ?_
      refine x_istore h dX12_which_93 rfl rfl ?_
      dsimp only [List.set]
      exact loop3 S C F hS 0 (Nat.zero_le _) _
    · have hlt : i < ze.1 := by
        have := mt (nI_le_iff (a := ze.1) (b := i) (by omega) (by omega)).mpr c42
        omega
      obtain ⟨z1, z2, z3, z4⟩ := zk i hlt
      refine x_aload_n h dX12_which_45 rfl ?_
      refine x_aload_n h dX12_which_46 rfl ?_
      refine x_getR h hF.1 f_X12_86 rfl (md_seenCheck hF).1 dX12_which_47 ?_
      refine x_iload_n h dX12_which_50 rfl ?_
      refine x_ialdv h i (md_seenCheck hF).2 (ix.ni (j := i) (by omega) (by decide)) z1 dX12_which_51 ?_
      refine x_aload_n h dX12_which_52 rfl ?_
      refine x_getIv h hF.1 f_X12_208 rfl iP.2.2.2.1.2.1 dX12_which_53 ?_
      refine x_icmp_ge h 68 dX12_which_56 (by decide) (fun c56 => ?_) (fun c56 => ?_)
      · have ec : ¬ ze.2.1 i < pg.2.2.1.1 := by
          have := (nI_le_iff (by omega) (by omega)).mp c56
          omega
        refine x_bipush h (-9) (by decide) dX12_which_68 ?_
        refine x_aload_n h dX12_which_70 rfl ?_
        refine x_getR h hF.1 f_X12_89 rfl (md_seenWas hF).1 dX12_which_71 ?_
        refine x_iload_n h dX12_which_74 rfl ?_
        refine x_ialdv h i (md_seenWas hF).2 (ix.ni (j := i) (by omega) (by decide)) z2 dX12_which_75 ?_
        refine x_cVv h ci_X12_leave im_X12_leave l_X12_378 ⟨Nat.le_of_ble_eq_true rfl, Nat.le_of_ble_eq_true rfl⟩ ⟨rfl, rfl⟩ ⟨Nat.zero_le _, Nat.zero_le _⟩ (c_X12_leave hF iP.1 iP.2.1 z4) rfl rfl rfl rfl hF.1 (by decide) rfl dX12_which_76 (fun M76 hp76 => ?_)
        obtain ⟨S2, x, h2, hM⟩ := hp76
        subst hM
        refine x_incn h dX12_which_79 rfl rfl rfl ?_
        dsimp only [List.set]
        refine x_goto h 37 dX12_which_82 (by decide) ?_
        refine ih hlt S2 x.1 x.2 (fun s hs => ?_)
        rw [h2 s, hS s hs]
        have ecv : cvO pg (ze.2.1 i) = -9 := by rw [cvO, if_neg ec]
        constructor
        · intro a j hj
          rcases Nat.lt_or_ge j i with q | q
          · exact a.1 j q
          · obtain rfl : j = i := by omega
            rw [ecv]; exact a.2
        · intro a
          refine ⟨fun j hj => a j (by omega), ?_⟩
          have := a i (by omega)
          rw [ecv] at this; exact this
      · have ec : ze.2.1 i < pg.2.2.1.1 := by
          have := mt (nI_le_iff (a := pg.2.2.1.1) (b := ze.2.1 i) (by omega) (by omega)).mpr c56
          omega
        refine x_aload_n h dX12_which_59 rfl ?_
        refine x_getR h hF.1 f_X12_86 rfl (md_seenCheck hF).1 dX12_which_60 ?_
        refine x_iload_n h dX12_which_63 rfl ?_
        refine x_ialdv h i (md_seenCheck hF).2 (ix.ni (j := i) (by omega) (by decide)) z1 dX12_which_64 ?_
        refine x_goto h 70 dX12_which_65 (by decide) ?_
        refine x_aload_n h dX12_which_70 rfl ?_
        refine x_getR h hF.1 f_X12_89 rfl (md_seenWas hF).1 dX12_which_71 ?_
        refine x_iload_n h dX12_which_74 rfl ?_
        refine x_ialdv h i (md_seenWas hF).2 (ix.ni (j := i) (by omega) (by decide)) z2 dX12_which_75 ?_
        refine x_cVv h ci_X12_leave im_X12_leave l_X12_378 ⟨Nat.le_of_ble_eq_true rfl, Nat.le_of_ble_eq_true rfl⟩ ⟨rfl, rfl⟩ ⟨Nat.zero_le _, Nat.zero_le _⟩ (c_X12_leave hF iP.1 iP.2.1 z4) rfl rfl rfl rfl hF.1 (by decide) rfl dX12_which_76 (fun M76 hp76 => ?_)
        obtain ⟨S2, x, h2, hM⟩ := hp76
        subst hM
        refine x_incn h dX12_which_79 rfl rfl rfl ?_
        dsimp only [List.set]
        refine x_goto h 37 dX12_which_82 (by decide) ?_
        refine ih hlt S2 x.1 x.2 (fun s hs => ?_)
        rw [h2 s, hS s hs]
        have ecv : cvO pg (ze.2.1 i) = nI (ze.2.1 i) := by rw [cvO, if_pos ec]
        constructor
        · intro a j hj
          rcases Nat.lt_or_ge j i with q | q
          · exact a.1 j q
          · obtain rfl : j = i := by omega
            rw [ecv]; exact a.2
        · intro a
          refine ⟨fun j hj => a j (by omega), ?_⟩
          have := a i (by omega)
          rw [ecv] at this; exact this
  have loop1 : ∀ i, i ≤ 4 → X Γ E 0 0 G z (wCF (wL M (m + 31) i (encW (fun _ => true))) m C0 F0) 15 [some (.ref m), some (.int (nI n)), some (.int (nI i)), none, none, none] [] := by
    refine upto 4 (fun i hi ih => ?_)
    refine x_iload_n h dX12_which_15 rfl ?_
    refine x_in4 h dX12_which_16 ?_
    refine x_icmp_ge h 35 dX12_which_17 (by decide) (fun c17 => ?_) (fun c17 => ?_)
    · obtain rfl : i = 4 := up_ge (by decide) hi c17
      refine x_in0 h dX12_which_35 ?_
      refine x_istore_n h dX12_which_36 rfl rfl ?_
      dsimp only [List.set]
      exact loop2 0 (Nat.zero_le _) (fun _ => true) C0 F0 (fun s hs => ⟨fun _ j hj => absurd hj (Nat.not_lt_zero _), fun _ => rfl⟩)
    · have hlt : i < 4 := up_lt (by decide) hi c17
      refine x_aload_n h dX12_which_20 rfl ?_
      refine x_getR h hF.1 f_X12_102 rfl (md_mays hF).1 dX12_which_21 ?_
      refine x_iload_n h dX12_which_24 rfl ?_
      refine x_ldc2 h kl_X12_376 dX12_which_25 ?_
      refine x_last h i (md_mays hF).2 (ix.ni (j := i) (by omega) (by decide)) dX12_which_28 ?_
      refine x_mem (wCF_Y M m i (encW (fun _ => true)) C0 F0 (encW_all i)) ?_
      refine x_incn h dX12_which_29 rfl rfl rfl ?_
      dsimp only [List.set]
      refine x_goto h 15 dX12_which_32 (by decide) ?_
      exact ih hlt
  refine x_iload_n h dX12_which_0 rfl ?_
  refine x_i2l h dX12_which_1 ?_
  refine x_lc0 h dX12_which_2 ?_
  refine x_lc1 h dX12_which_3 ?_
  refine x_cSi h ci_X12_in sm_X12_in l_X12_114 ⟨Nat.le_of_ble_eq_true rfl, Nat.le_of_ble_eq_true rfl⟩ ⟨rfl, rfl⟩ ⟨Nat.zero_le _, Nat.zero_le _⟩ (c_X12_in (b := lN 0) (c := lN 1)) rfl rfl rfl rfl dX12_which_4 (fun v4 M4 hp4 => ?_)
  obtain ⟨rfl, hM⟩ := hp4
  obtain rfl := hM.symm
  clear hM
  refine x_if_ne h 13 dX12_which_7 (by decide) (fun c7 => ?_) (fun c7 => ?_)
  · refine x_mem hCF ?_
    refine x_in0 h dX12_which_13 ?_
    refine x_istore_n h dX12_which_14 rfl rfl ?_
    dsimp only [List.set]
    have l0 := loop1 0 (Nat.zero_le _)
    rw [wL_0] at l0
    exact l0
  · exact absurd (in_yes (n := n) (b := 1) (by omega) (by decide)) (by rw [b2i_0.mp c7]; decide)
