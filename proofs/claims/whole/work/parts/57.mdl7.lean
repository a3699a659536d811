/-! ===== the reference: its whole state; the plain doings ===== -/
/-- a program with what belongs to it: guesses; checks and loops with their nodes; choices -/
abbrev PGM : Type := AP × GC × (Nat × (Nat → Nat)) × (Nat × (Nat → Nat)) × Nat
abbrev SU : Type := (Nat → Nat) × Nat
abbrev HY : Type := Nat × (Nat → SU)
abbrev KP : Type := Nat → Option SU
abbrev SE : Type := Nat × (Nat → Nat) × (Nat → Nat)
def suOk (ng : Nat) (s : SU) : Prop := (∀ v, v < 3 → s.1 v ≤ 6) ∧ s.2 < 2 ^ ng
/-- a setup in four ints of a row -/
def suA (M : MM) (a i : Nat) (s : SU) : Prop := (∀ v, v < 3 → M.1 a (i + v) = nI (s.1 v)) ∧ M.1 a (i + 3) = nI s.2
def lpW (M : MM) (m : Nat) (Q : AP) (nl : Nat) (ln : Nat → Nat) : Prop := nl ≤ 3 ∧ M.1 m 10 = nI nl ∧ (∀ c, c < nl → ln c < nA Q ∧ kA Q (ln c) = 6 ∧ mA Q (ln c) = c) ∧ ∀ j, j < nA Q → kA Q j = 6 → mA Q j < nl ∧ j = ln (mA Q j)
def mTx (M : MM) (m : Nat) (tx : Nat → Nat) (len : Nat) : Prop := len ≤ 60 ∧ M.1 m 1 = nI len ∧ ∀ i, i < len → M.1 (m + 1) i = nI (tx i) ∧ tx i < 256
def mPg (M : MM) (m : Nat) (g : PGM) : Prop := mpW M m g.1 ∧ okM g.1 ∧ mgW M m g.2.1 ∧ ckW M m g.1 g.2.2.1.1 g.2.2.1.2 ∧ lpW M m g.1 g.2.2.2.1.1 g.2.2.2.1.2 ∧ M.1 m 11 = nI g.2.2.2.2 ∧ g.2.2.2.2 ≤ 3
def mNw (M : MM) (m : Nat) (ng : Nat) (s : SU) : Prop := suA M (m + 21) 0 s ∧ suOk ng s
def mDy (M : MM) (m : Nat) (ng : Nat) (h : HY) : Prop := h.1 ≤ 14 ∧ M.1 m 36 = nI h.1 ∧ ∃ nx, nx < 14 ∧ M.1 m 37 = nI nx ∧ ∀ i, i < h.1 → suA M (m + 23) (4 * ((nx + 14 - h.1 + i) % 14)) (h.2 i) ∧ suOk ng (h.2 i)
def mKp (M : MM) (m : Nat) (ng : Nat) (kp : KP) : Prop := ∀ i, i < 2 → M.1 (m + 25) i = b2i (kp i).isSome ∧ ∀ s, kp i = some s → suA M (m + 24) (4 * i) s ∧ suOk ng s
def mSn (M : MM) (m : Nat) (z : SE) : Prop := z.1 ≤ 6 ∧ M.1 m 42 = nI z.1 ∧ ∀ i, i < z.1 → M.1 (m + 26) i = nI (z.2.1 i) ∧ M.1 (m + 27) i = nI (z.2.2 i) ∧ z.2.1 i < 4 ∧ z.2.2 i < 2
def mCF (M : MM) (m : Nat) : Prop := ∃ C F : NS, M = wCF M m C F
def mInv (M : MM) (m : Nat) (tx : Nat → Nat) (len : Nat) (g : PGM) (s : SU) (h : HY) (kp : KP) (z : SE) (sd : Int64) : Prop := mTx M m tx len ∧ mPg M m g ∧ mNw M m g.2.1.1 s ∧ mDy M m g.2.1.1 h ∧ mKp M m g.2.1.1 kp ∧ mSn M m z ∧ M.2.1 m 43 = sd ∧ mCF M m
/-- nothing but the reference's cells is changed -/
def offM (m : Nat) (M M' : MM) : Prop := M'.2.2 = M.2.2 ∧ ∀ b, (b < m ∨ m + 33 ≤ b) → (∀ j, M'.1 b j = M.1 b j) ∧ ∀ j, M'.2.1 b j = M.2.1 b j
theorem off_refl (m : Nat) (M : MM) : offM m M M := ⟨rfl, fun _ _ => ⟨fun _ => rfl, fun _ => rfl⟩⟩
theorem off_trans {m : Nat} {M N K : MM} (h1 : offM m M N) (h2 : offM m N K) : offM m M K := ⟨h2.1.trans h1.1, fun b q => ⟨fun j => ((h2.2 b q).1 j).trans ((h1.2 b q).1 j), fun j => ((h2.2 b q).2 j).trans ((h1.2 b q).2 j)⟩⟩
theorem off_I {m : Nat} {M N : MM} (h : offM m M N) {a k : Nat} (x : Int32) (ha : m ≤ a ∧ a < m + 33) : offM m M (sI N a k x) := off_trans h ⟨rfl, fun b q => ⟨fun j => up2_ne _ _ (by omega), fun j => rfl⟩⟩
theorem off_L {m : Nat} {M N : MM} (h : offM m M N) {a k : Nat} (x : Int64) (ha : m ≤ a ∧ a < m + 33) : offM m M (sL N a k x) := off_trans h ⟨rfl, fun b q => ⟨fun j => rfl, fun j => up2_ne _ _ (by omega)⟩⟩
theorem off_C {m : Nat} {M N : MM} (h : offM m M N) (C F : NS) : offM m M (wCF N m C F) := off_trans h ⟨rfl, fun b q => ⟨fun j => rfl, fun j => by
  show (if b = m + 28 ∧ j < 248 then _ else if b = m + 29 ∧ j < 248 then _ else N.2.1 b j) = _
  rw [if_neg (by omega), if_neg (by omega)]⟩⟩
theorem off_wI {m : Nat} {M N : MM} (h : offM m M N) {a k : Nat} (f : Nat → Int32) (ha : m ≤ a ∧ a < m + 33) : offM m M (wI N a k f) := off_trans h ⟨rfl, fun b q => ⟨fun j => wI_ne _ _ _ _ (by omega), fun j => rfl⟩⟩
section CG
variable {M N : MM} {m : Nat}
theorem suA_cg {a i : Nat} {s : SU} (h : suA M a i s) (e : ∀ j, i ≤ j → j < i + 4 → N.1 a j = M.1 a j) : suA N a i s := ⟨fun v hv => (e _ (by omega) (by omega)).trans (h.1 v hv), (e _ (by omega) (by omega)).trans h.2⟩
theorem mTx_cg {tx : Nat → Nat} {len : Nat} (h : mTx M m tx len) (e : ∀ a j, (a = 0 ∧ j = 1) ∨ a = 1 → N.1 (m + a) j = M.1 (m + a) j) : mTx N m tx len := ⟨h.1, (e 0 1 (Or.inl ⟨rfl, rfl⟩)).trans h.2.1, fun i hi => ⟨(e 1 i (Or.inr rfl)).trans (h.2.2 i hi).1, (h.2.2 i hi).2⟩⟩
theorem mPg_cg {g : PGM} (h : mPg M m g) (e : ∀ a j, (a = 0 ∧ 8 ≤ j ∧ j ≤ 12) ∨ (2 ≤ a ∧ a ≤ 10) → N.1 (m + a) j = M.1 (m + a) j) : mPg N m g := by
  obtain ⟨h1, h2, h3, h4, h5, h6, h7⟩ := h
  refine ⟨⟨h1.1, (e 0 8 (by omega)).trans h1.2.1, fun k hk => ?_⟩, h2, ⟨h3.1, (e 0 12 (by omega)).trans h3.2.1, fun k hk => ?_⟩, ⟨h4.1, (e 0 9 (by omega)).trans h4.2.1, h4.2.2⟩, ⟨h5.1, (e 0 10 (by omega)).trans h5.2.1, h5.2.2⟩, (e 0 11 (by omega)).trans h6, h7⟩
  · obtain ⟨a1, a2, a3, a4, a5, a6⟩ := h1.2.2 k hk
    exact ⟨(e 2 k (by omega)).trans a1, (e 3 k (by omega)).trans a2, (e 4 k (by omega)).trans a3, (e 5 k (by omega)).trans a4, (e 6 k (by omega)).trans a5, (e 7 k (by omega)).trans a6⟩
  · obtain ⟨a1, a2, a3, a4⟩ := h3.2.2 k hk
    exact ⟨(e 8 k (by omega)).trans a1, (e 9 k (by omega)).trans a2, (e 10 k (by omega)).trans a3, a4⟩
theorem mNw_cg {ng : Nat} {s : SU} (h : mNw M m ng s) (e : ∀ a j, a = 21 → N.1 (m + a) j = M.1 (m + a) j) : mNw N m ng s := ⟨suA_cg h.1 (fun j _ _ => e 21 j rfl), h.2⟩
theorem mDy_cg {ng : Nat} {h : HY} (q : mDy M m ng h) (e : ∀ a j, (a = 0 ∧ (j = 36 ∨ j = 37)) ∨ a = 23 → N.1 (m + a) j = M.1 (m + a) j) : mDy N m ng h := by
  obtain ⟨h1, h2, nx, h3, h4, h5⟩ := q
  exact ⟨h1, (e 0 36 (by omega)).trans h2, nx, h3, (e 0 37 (by omega)).trans h4, fun i hi => ⟨suA_cg (h5 i hi).1 (fun j _ _ => e 23 j (by omega)), (h5 i hi).2⟩⟩
theorem mKp_cg {ng : Nat} {kp : KP} (q : mKp M m ng kp) (e : ∀ a j, a = 24 ∨ a = 25 → N.1 (m + a) j = M.1 (m + a) j) : mKp N m ng kp := fun i hi => ⟨(e 25 i (Or.inr rfl)).trans (q i hi).1, fun s hs => ⟨suA_cg ((q i hi).2 s hs).1 (fun j _ _ => e 24 j (Or.inl rfl)), ((q i hi).2 s hs).2⟩⟩
theorem mSn_cg {z : SE} (h : mSn M m z) (e : ∀ a j, (a = 0 ∧ j = 42) ∨ a = 26 ∨ a = 27 → N.1 (m + a) j = M.1 (m + a) j) : mSn N m z := ⟨h.1, (e 0 42 (by omega)).trans h.2.1, fun i hi => ⟨(e 26 i (by omega)).trans (h.2.2 i hi).1, (e 27 i (by omega)).trans (h.2.2 i hi).2.1, (h.2.2 i hi).2.2⟩⟩
theorem mCF_cg (h : mCF M m) (e : N.2.1 = M.2.1) : mCF N m := by
  obtain ⟨C, F, h⟩ := h
  refine ⟨C, F, ?_⟩
  have h1 : M.2.1 = (wCF M m C F).2.1 := congrArg (fun (K : MM) => K.2.1) h
  show (N.1, N.2.1, N.2.2) = (N.1, _, N.2.2)
  congr 2
  rw [e]
  exact h1
end CG
/-- an int of a call within 0 .. b-1, or not -/
def isR (x : Int32) (b : Nat) : Option Nat → Prop
  | some n => n < b ∧ x = nI n
  | none => ∀ n, n < b → x ≠ nI n
theorem i32_nat {x : Int32} (h : 0 ≤ x.toInt) : x = nI x.toInt.toNat := by
  apply Int32.toInt_inj.mp
  have hb : x.toInt < 2 ^ 31 := by have := Int32.toInt_lt x; omega
  rw [nI_toInt (by omega)]
  omega
theorem isR_ex (x : Int32) {b : Nat} (hb : b < 2 ^ 31) : ∃ r, isR x b r := by
  by_cases h : 0 ≤ x.toInt ∧ x.toInt < (b : Int)
  · exact ⟨some x.toInt.toNat, by omega, i32_nat h.1⟩
  · refine ⟨none, fun n hn e => h ?_⟩
    rw [e, nI_toInt (by omega)]
    omega
theorem in_yes {n b : Nat} (h : n ≤ b) (hb : b < 2 ^ 31) : (decide (lN 0 ≤ (nI n).toInt64) && decide ((nI n).toInt64 ≤ lN b)) = true := by
  rw [in_nat (by omega) (by decide) hb]
  exact decide_eq_true (by omega)
theorem in_no {x : Int32} {b : Nat} (h : ∀ n, n < b + 1 → x ≠ nI n) (hb : b < 2 ^ 31) : (decide (lN 0 ≤ x.toInt64) && decide (x.toInt64 ≤ lN b)) = false := by
  cases hx : (decide (lN 0 ≤ x.toInt64) && decide (x.toInt64 ≤ lN b)) with
  | false => rfl
  | true =>
    rw [Bool.and_eq_true, decide_eq_true_iff, decide_eq_true_iff, Int64.le_iff_toInt_le, Int64.le_iff_toInt_le, lN_toInt hb, lN_toInt (by decide), i32_l] at hx
    have e := i32_nat (x := x) (by omega)
    exact absurd e (h _ (by omega))
theorem in_gi {g : Nat} (hg : g < 2 ^ 30) : (nI g - nI 1).toInt64.toInt = (g : Int) - 1 := by
  rw [i32_l]
  rcases Nat.eq_zero_or_pos g with q | q
  · subst q; decide
  · rw [pk_sub q, nI_toInt (by omega)]; omega
theorem in_gy {n g : Nat} (h : n < g) (hg : g < 2 ^ 30) : (decide (lN 0 ≤ (nI n).toInt64) && decide ((nI n).toInt64 ≤ (nI g - nI 1).toInt64)) = true := by
  rw [Bool.and_eq_true, decide_eq_true_iff, decide_eq_true_iff, Int64.le_iff_toInt_le, Int64.le_iff_toInt_le, in_gi hg, lN_toInt (by decide), i32_l, nI_toInt (by omega)]
  omega
theorem in_gn {x : Int32} {g : Nat} (h : ∀ n, n < g → x ≠ nI n) (hg : g < 2 ^ 30) : (decide (lN 0 ≤ x.toInt64) && decide (x.toInt64 ≤ (nI g - nI 1).toInt64)) = false := by
  cases hx : (decide (lN 0 ≤ x.toInt64) && decide (x.toInt64 ≤ (nI g - nI 1).toInt64)) with
  | false => rfl
  | true =>
    rw [Bool.and_eq_true, decide_eq_true_iff, decide_eq_true_iff, Int64.le_iff_toInt_le, Int64.le_iff_toInt_le, in_gi hg, lN_toInt (by decide), i32_l] at hx
    have e := i32_nat (x := x) (by omega)
    exact absurd e (h _ (by omega))
theorem upN_ne (f : Nat → Nat) {k j : Nat} (x : Nat) (h : j ≠ k) : upN f k x j = f j := if_neg h
theorem upN_at (f : Nat → Nat) (k x : Nat) : upN f k x k = x := if_pos rfl
theorem c_X12_write_0 {Γ : GT} {G : GG} {M : MM} {m : Nat} (hF : mdF G M.2.2 m) {tx : Nat → Nat} {len : Nat} {pg : PGM} {su : SU} {hy : HY} {kp : KP} {ze : SE} {sd : Int64} (hI : mInv M m tx len pg su hy kp ze sd) {x : Int32} (hx : ∀ n, n < 256 → x ≠ nI n) : Calls Γ q_X12_write [.ref m, .int x] G M (rI (fun y M' => y = -2 ∧ mInv M' m (tx) (len) (pg) (su) (hy) (kp) (ze) (sd) ∧ offM m M M')) := by
  have hI0 := hI
  obtain ⟨iT, iP, iN, iD, iK, iS, iE, iC⟩ := hI
  refine Calls.intro (by decide +kernel) (Nat.le_of_ble_eq_true rfl) (fun z E h hQ => ?_)
  refine x_loc (L' := [some (.ref m), some (.int x)]) rfl ?_
  refine x_iload_n h dX12_write_0 rfl ?_
  refine x_i2l h dX12_write_1 ?_
  refine x_lc0 h dX12_write_2 ?_
  refine x_ldc2 h kl_X12_112 dX12_write_3 ?_
  refine x_cSi h ci_X12_in sm_X12_in l_X12_114 ⟨Nat.le_of_ble_eq_true rfl, Nat.le_of_ble_eq_true rfl⟩ ⟨rfl, rfl⟩ ⟨Nat.zero_le _, Nat.zero_le _⟩ (c_X12_in (b := lN 0) (c := lN 255)) rfl rfl rfl rfl dX12_write_6 (fun v6 M6 hp6 => ?_)
  obtain ⟨rfl, hM⟩ := hp6
  obtain rfl := hM.symm
  clear hM
  refine x_if_ne h 15 dX12_write_9 (by decide) (fun c9 => ?_) (fun c9 => ?_)
  · exact absurd (b2i_0.mpr (in_no hx (by decide))) c9
  · refine x_bipush h (-2) (by decide) dX12_write_12 ?_
    exact x_iret h hQ rfl dX12_write_14 ⟨rfl, rfl, _, rfl, rfl, hI0, off_refl m M⟩
theorem c_X12_write_1 {Γ : GT} {G : GG} {M : MM} {m : Nat} (hF : mdF G M.2.2 m) {tx : Nat → Nat} {len : Nat} {pg : PGM} {su : SU} {hy : HY} {kp : KP} {ze : SE} {sd : Int64} (hI : mInv M m tx len pg su hy kp ze sd) {n : Nat} (hn : n < 256) : Calls Γ q_X12_write [.ref m, .int (nI n)] G M (rI (fun y M' => y = (if len = 60 then -4 else nI (len + 1)) ∧ mInv M' m (if len = 60 then tx else upN tx len n) (if len = 60 then len else len + 1) (pg) (su) (hy) (kp) (ze) (sd) ∧ offM m M M')) := by
  have hI0 := hI
  obtain ⟨iT, iP, iN, iD, iK, iS, iE, iC⟩ := hI
  have l60 := iT.1
  have hl := iT.2.1
  refine Calls.intro (by decide +kernel) (Nat.le_of_ble_eq_true rfl) (fun z E h hQ => ?_)
  refine x_loc (L' := [some (.ref m), some (.int (nI n))]) rfl ?_
  refine x_iload_n h dX12_write_0 rfl ?_
  refine x_i2l h dX12_write_1 ?_
  refine x_lc0 h dX12_write_2 ?_
  refine x_ldc2 h kl_X12_112 dX12_write_3 ?_
  refine x_cSi h ci_X12_in sm_X12_in l_X12_114 ⟨Nat.le_of_ble_eq_true rfl, Nat.le_of_ble_eq_true rfl⟩ ⟨rfl, rfl⟩ ⟨Nat.zero_le _, Nat.zero_le _⟩ (c_X12_in (b := lN 0) (c := lN 255)) rfl rfl rfl rfl dX12_write_6 (fun v6 M6 hp6 => ?_)
  obtain ⟨rfl, hM⟩ := hp6
  obtain rfl := hM.symm
  clear hM
  refine x_if_ne h 15 dX12_write_9 (by decide) (fun c9 => ?_) (fun c9 => ?_)
  · refine x_aload_n h dX12_write_15 rfl ?_
    refine x_getIv h hF.1 f_X12_118 rfl hl dX12_write_16 ?_
    refine x_bipush h (nI 60) (by decide) dX12_write_19 ?_
    refine x_icmp_ne h 27 dX12_write_21 (by decide) (fun c21 => ?_) (fun c21 => ?_)
    · have e : ¬ len = 60 := fun q => c21 (by rw [q])
      refine x_aload_n h dX12_write_27 rfl ?_
      refine x_getR h hF.1 f_X12_7 rfl (md_text hF).1 dX12_write_28 ?_
      refine x_aload_n h dX12_write_31 rfl ?_
      refine x_getIv h hF.1 f_X12_118 rfl hl dX12_write_32 ?_
      refine x_iload_n h dX12_write_35 rfl ?_
      refine x_iast h len (md_text hF).2 (ix.ni (by omega) (by decide)) dX12_write_36 ?_
      refine x_aload_n h dX12_write_37 rfl ?_
      refine x_dup h rfl dX12_write_38 ?_
      refine x_getIv h hF.1 f_X12_118 rfl (show _ = nI len from (up2_ne _ _ (by omega)).trans hl) dX12_write_39 ?_
      refine x_in1 h dX12_write_42 ?_
      refine x_iaddn h  dX12_write_43 ?_
      refine x_putI h hF.1 f_X12_118 rfl rfl dX12_write_44 ?_
      refine x_aload_n h dX12_write_47 rfl ?_
      refine x_getIv h hF.1 f_X12_118 rfl (show _ = nI (len + 1) from up2_self _ _ _ _) dX12_write_48 ?_
      exact x_iret h hQ rfl dX12_write_51 ⟨rfl, rfl, _, rfl, by rw [if_neg e], by
        rw [if_neg e, if_neg e]
        refine ⟨⟨by omega, by simp [sI, up2], fun i hi => ?_⟩, (mPg_cg iP (fun a j h => by simp only [sI, up2]; rw [if_neg (by omega), if_neg (by omega)])), (mNw_cg iN (fun a j h => by simp only [sI, up2]; rw [if_neg (by omega), if_neg (by omega)])), (mDy_cg iD (fun a j h => by simp only [sI, up2]; rw [if_neg (by omega), if_neg (by omega)])), (mKp_cg iK (fun a j h => by simp only [sI, up2]; rw [if_neg (by omega), if_neg (by omega)])), (mSn_cg iS (fun a j h => by simp only [sI, up2]; rw [if_neg (by omega), if_neg (by omega)])), iE, (mCF_cg iC rfl)⟩
        by_cases q : i = len
        · subst q
          rw [upN_at]
          exact ⟨by simp [sI, up2], hn⟩
        · rw [upN_ne _ _ q]
          refine ⟨?_, (iT.2.2 i (by omega)).2⟩
          simp only [sI, up2]
          rw [if_neg (by omega), if_neg (by omega)]
          exact (iT.2.2 i (by omega)).1, (off_I (off_I (off_refl m M) _ (by omega)) _ (by omega))⟩
    · have e : len = 60 := nI_small 60 (by omega) (by decide) c21
      refine x_bipush h (-4) (by decide) dX12_write_24 ?_
      exact x_iret h hQ rfl dX12_write_26 ⟨rfl, rfl, _, rfl, by rw [if_pos e], by rw [if_pos e, if_pos e]; exact hI0, off_refl m M⟩
  · exact absurd (in_yes (n := n) (b := 255) (by omega) (by decide)) (by rw [b2i_0.mp c9]; decide)
theorem c_X12_wipe {Γ : GT} {G : GG} {M : MM} {m : Nat} (hF : mdF G M.2.2 m) {tx : Nat → Nat} {len : Nat} {pg : PGM} {su : SU} {hy : HY} {kp : KP} {ze : SE} {sd : Int64} (hI : mInv M m tx len pg su hy kp ze sd) : Calls Γ q_X12_wipe [.ref m] G M (rI (fun y M' => y = nI len ∧ mInv M' m (tx) (0) (pg) (su) (hy) (kp) (ze) (sd) ∧ offM m M M')) := by
  have hI0 := hI
  obtain ⟨iT, iP, iN, iD, iK, iS, iE, iC⟩ := hI
  have hl := iT.2.1
  refine Calls.intro (by decide +kernel) (Nat.le_of_ble_eq_true rfl) (fun z E h hQ => ?_)
  refine x_loc (L' := [some (.ref m), none]) rfl ?_
  refine x_aload_n h dX12_wipe_0 rfl ?_
  refine x_getIv h hF.1 f_X12_118 rfl hl dX12_wipe_1 ?_
  refine x_istore_n h dX12_wipe_4 rfl rfl ?_
  dsimp only [List.set]
  refine x_aload_n h dX12_wipe_5 rfl ?_
  refine x_in0 h dX12_wipe_6 ?_
  refine x_putI h hF.1 f_X12_118 rfl rfl dX12_wipe_7 ?_
  refine x_iload_n h dX12_wipe_10 rfl ?_
  exact x_iret h hQ rfl dX12_wipe_11 ⟨rfl, rfl, _, rfl, rfl, ⟨⟨Nat.zero_le _, up2_self _ _ _ _, fun i hi => absurd hi (Nat.not_lt_zero _)⟩, (mPg_cg iP (fun a j h => by simp only [sI, up2]; rw [if_neg (by omega)])), (mNw_cg iN (fun a j h => by simp only [sI, up2]; rw [if_neg (by omega)])), (mDy_cg iD (fun a j h => by simp only [sI, up2]; rw [if_neg (by omega)])), (mKp_cg iK (fun a j h => by simp only [sI, up2]; rw [if_neg (by omega)])), (mSn_cg iS (fun a j h => by simp only [sI, up2]; rw [if_neg (by omega)])), iE, (mCF_cg iC rfl)⟩, (off_I (off_refl m M) _ (by omega))⟩
theorem c_X12_start_0 {Γ : GT} {G : GG} {M : MM} {m : Nat} (hF : mdF G M.2.2 m) {tx : Nat → Nat} {len : Nat} {pg : PGM} {su : SU} {hy : HY} {kp : KP} {ze : SE} {sd : Int64} (hI : mInv M m tx len pg su hy kp ze sd) {x : Int32} (hx : ∀ n, n < 3 → x ≠ nI n) : Calls Γ q_X12_start [.ref m, .int x] G M (rI (fun y M' => y = -1 ∧ mInv M' m (tx) (len) (pg) (su) (hy) (kp) (ze) (sd) ∧ offM m M M')) := by
  have hI0 := hI
  obtain ⟨iT, iP, iN, iD, iK, iS, iE, iC⟩ := hI
  refine Calls.intro (by decide +kernel) (Nat.le_of_ble_eq_true rfl) (fun z E h hQ => ?_)
  refine x_loc (L' := [some (.ref m), some (.int x)]) rfl ?_
  refine x_iload_n h dX12_start_0 rfl ?_
  refine x_i2l h dX12_start_1 ?_
  refine x_lc0 h dX12_start_2 ?_
  refine x_ldc2 h kl_X12_324 dX12_start_3 ?_
  refine x_cSi h ci_X12_in sm_X12_in l_X12_114 ⟨Nat.le_of_ble_eq_true rfl, Nat.le_of_ble_eq_true rfl⟩ ⟨rfl, rfl⟩ ⟨Nat.zero_le _, Nat.zero_le _⟩ (c_X12_in (b := lN 0) (c := lN 2)) rfl rfl rfl rfl dX12_start_6 (fun v6 M6 hp6 => ?_)
  obtain ⟨rfl, hM⟩ := hp6
  obtain rfl := hM.symm
  clear hM
  refine x_if_eq h 21 dX12_start_9 (by decide) (fun c9 => ?_) (fun c9 => ?_)
  · refine x_icm1 h dX12_start_21 ?_
    exact x_iret h hQ rfl dX12_start_22 ⟨rfl, rfl, _, rfl, rfl, hI0, off_refl m M⟩
  · exact absurd (b2i_0.mpr (in_no hx (by decide))) c9
theorem c_X12_start_1 {Γ : GT} {G : GG} {M : MM} {m : Nat} (hF : mdF G M.2.2 m) {tx : Nat → Nat} {len : Nat} {pg : PGM} {su : SU} {hy : HY} {kp : KP} {ze : SE} {sd : Int64} (hI : mInv M m tx len pg su hy kp ze sd) {n : Nat} (hn : n < 3) : Calls Γ q_X12_start [.ref m, .int (nI n)] G M (rI (fun y M' => y = nI (su.1 n) ∧ mInv M' m (tx) (len) (pg) (su) (hy) (kp) (ze) (sd) ∧ offM m M M')) := by
  have hI0 := hI
  obtain ⟨iT, iP, iN, iD, iK, iS, iE, iC⟩ := hI
  refine Calls.intro (by decide +kernel) (Nat.le_of_ble_eq_true rfl) (fun z E h hQ => ?_)
  refine x_loc (L' := [some (.ref m), some (.int (nI n))]) rfl ?_
  refine x_iload_n h dX12_start_0 rfl ?_
  refine x_i2l h dX12_start_1 ?_
  refine x_lc0 h dX12_start_2 ?_
  refine x_ldc2 h kl_X12_324 dX12_start_3 ?_
  refine x_cSi h ci_X12_in sm_X12_in l_X12_114 ⟨Nat.le_of_ble_eq_true rfl, Nat.le_of_ble_eq_true rfl⟩ ⟨rfl, rfl⟩ ⟨Nat.zero_le _, Nat.zero_le _⟩ (c_X12_in (b := lN 0) (c := lN 2)) rfl rfl rfl rfl dX12_start_6 (fun v6 M6 hp6 => ?_)
  obtain ⟨rfl, hM⟩ := hp6
  obtain rfl := hM.symm
  clear hM
  refine x_if_eq h 21 dX12_start_9 (by decide) (fun c9 => ?_) (fun c9 => ?_)
  · exact absurd (in_yes (n := n) (b := 2) (by omega) (by decide)) (by rw [b2i_0.mp c9]; decide)
  · refine x_aload_n h dX12_start_12 rfl ?_
    refine x_getR h hF.1 f_X12_70 rfl (md_now hF).1 dX12_start_13 ?_
    refine x_iload_n h dX12_start_16 rfl ?_
    refine x_ialdv h n (md_now hF).2 (ix.ni (by omega) (by decide)) (show M.1 (m + 21) n = nI (su.1 n) from by have := iN.1.1 n hn; rw [Nat.zero_add] at this; exact this) dX12_start_17 ?_
    refine x_goto h 22 dX12_start_18 (by decide) ?_
    exact x_iret h hQ rfl dX12_start_22 ⟨rfl, rfl, _, rfl, rfl, hI0, off_refl m M⟩
theorem c_X12_unsee {Γ : GT} {G : GG} {M : MM} {m : Nat} (hF : mdF G M.2.2 m) {tx : Nat → Nat} {len : Nat} {pg : PGM} {su : SU} {hy : HY} {kp : KP} {ze : SE} {sd : Int64} (hI : mInv M m tx len pg su hy kp ze sd) : Calls Γ q_X12_unsee [.ref m] G M (rI (fun y M' => y = nI ze.1 ∧ mInv M' m (tx) (len) (pg) (su) (hy) (kp) ((0, ze.2)) (sd) ∧ offM m M M')) := by
  have hI0 := hI
  obtain ⟨iT, iP, iN, iD, iK, iS, iE, iC⟩ := hI
  have hl := iS.2.1
  refine Calls.intro (by decide +kernel) (Nat.le_of_ble_eq_true rfl) (fun z E h hQ => ?_)
  refine x_loc (L' := [some (.ref m), none]) rfl ?_
  refine x_aload_n h dX12_unsee_0 rfl ?_
  refine x_getIv h hF.1 f_X12_316 rfl hl dX12_unsee_1 ?_
  refine x_istore_n h dX12_unsee_4 rfl rfl ?_
  dsimp only [List.set]
  refine x_aload_n h dX12_unsee_5 rfl ?_
  refine x_in0 h dX12_unsee_6 ?_
  refine x_putI h hF.1 f_X12_316 rfl rfl dX12_unsee_7 ?_
  refine x_iload_n h dX12_unsee_10 rfl ?_
  exact x_iret h hQ rfl dX12_unsee_11 ⟨rfl, rfl, _, rfl, rfl, ⟨(mTx_cg iT (fun a j h => by simp only [sI, up2]; rw [if_neg (by omega)])), (mPg_cg iP (fun a j h => by simp only [sI, up2]; rw [if_neg (by omega)])), (mNw_cg iN (fun a j h => by simp only [sI, up2]; rw [if_neg (by omega)])), (mDy_cg iD (fun a j h => by simp only [sI, up2]; rw [if_neg (by omega)])), (mKp_cg iK (fun a j h => by simp only [sI, up2]; rw [if_neg (by omega)])), ⟨Nat.zero_le _, up2_self _ _ _ _, fun i hi => absurd hi (Nat.not_lt_zero _)⟩, iE, (mCF_cg iC rfl)⟩, (off_I (off_refl m M) _ (by omega))⟩
theorem c_X12_see_0 {Γ : GT} {G : GG} {M : MM} {m : Nat} (hF : mdF G M.2.2 m) {tx : Nat → Nat} {len : Nat} {pg : PGM} {su : SU} {hy : HY} {kp : KP} {ze : SE} {sd : Int64} (hI : mInv M m tx len pg su hy kp ze sd) {x w : Int32} (hx : ∀ n, n < pg.2.2.1.1 → x ≠ nI n) : Calls Γ q_X12_see [.ref m, .int x, .int w] G M (rI (fun y M' => y = -1 ∧ mInv M' m (tx) (len) (pg) (su) (hy) (kp) (ze) (sd) ∧ offM m M M')) := by
  have hI0 := hI
  obtain ⟨iT, iP, iN, iD, iK, iS, iE, iC⟩ := hI
  have nk4 := iP.2.2.2.1.1
  refine Calls.intro (by decide +kernel) (Nat.le_of_ble_eq_true rfl) (fun z E h hQ => ?_)
  refine x_loc (L' := [some (.ref m), some (.int x), some (.int w)]) rfl ?_
  refine x_iload_n h dX12_see_0 rfl ?_
  refine x_i2l h dX12_see_1 ?_
  refine x_lc0 h dX12_see_2 ?_
  refine x_aload_n h dX12_see_3 rfl ?_
  refine x_getIv h hF.1 f_X12_208 rfl iP.2.2.2.1.2.1 dX12_see_4 ?_
  refine x_in1 h dX12_see_7 ?_
  refine x_isub h dX12_see_8 ?_
  refine x_i2l h dX12_see_9 ?_
  refine x_cSi h ci_X12_in sm_X12_in l_X12_114 ⟨Nat.le_of_ble_eq_true rfl, Nat.le_of_ble_eq_true rfl⟩ ⟨rfl, rfl⟩ ⟨Nat.zero_le _, Nat.zero_le _⟩ (c_X12_in (b := lN 0)) rfl rfl rfl rfl dX12_see_10 (fun v10 M10 hp10 => ?_)
  obtain ⟨rfl, hM⟩ := hp10
  obtain rfl := hM.symm
  clear hM
  refine x_if_ne h 18 dX12_see_13 (by decide) (fun c13 => ?_) (fun c13 => ?_)
  · exact absurd (b2i_0.mpr (in_gn hx (by omega))) c13
  · refine x_icm1 h dX12_see_16 ?_
    exact x_iret h hQ rfl dX12_see_17 ⟨rfl, rfl, _, rfl, rfl, hI0, off_refl m M⟩
theorem c_X12_see_1 {Γ : GT} {G : GG} {M : MM} {m : Nat} (hF : mdF G M.2.2 m) {tx : Nat → Nat} {len : Nat} {pg : PGM} {su : SU} {hy : HY} {kp : KP} {ze : SE} {sd : Int64} (hI : mInv M m tx len pg su hy kp ze sd) {n : Nat} {w : Int32} (hn : n < pg.2.2.1.1) (hw : ∀ n, n < 2 → w ≠ nI n) : Calls Γ q_X12_see [.ref m, .int (nI n), .int w] G M (rI (fun y M' => y = -2 ∧ mInv M' m (tx) (len) (pg) (su) (hy) (kp) (ze) (sd) ∧ offM m M M')) := by
  have hI0 := hI
  obtain ⟨iT, iP, iN, iD, iK, iS, iE, iC⟩ := hI
  have nk4 := iP.2.2.2.1.1
  refine Calls.intro (by decide +kernel) (Nat.le_of_ble_eq_true rfl) (fun z E h hQ => ?_)
  refine x_loc (L' := [some (.ref m), some (.int (nI n)), some (.int w)]) rfl ?_
  refine x_iload_n h dX12_see_0 rfl ?_
  refine x_i2l h dX12_see_1 ?_
  refine x_lc0 h dX12_see_2 ?_
  refine x_aload_n h dX12_see_3 rfl ?_
  refine x_getIv h hF.1 f_X12_208 rfl iP.2.2.2.1.2.1 dX12_see_4 ?_
  refine x_in1 h dX12_see_7 ?_
  refine x_isub h dX12_see_8 ?_
  refine x_i2l h dX12_see_9 ?_
  refine x_cSi h ci_X12_in sm_X12_in l_X12_114 ⟨Nat.le_of_ble_eq_true rfl, Nat.le_of_ble_eq_true rfl⟩ ⟨rfl, rfl⟩ ⟨Nat.zero_le _, Nat.zero_le _⟩ (c_X12_in (b := lN 0)) rfl rfl rfl rfl dX12_see_10 (fun v10 M10 hp10 => ?_)
  obtain ⟨rfl, hM⟩ := hp10
  obtain rfl := hM.symm
  clear hM
  refine x_if_ne h 18 dX12_see_13 (by decide) (fun c13 => ?_) (fun c13 => ?_)
  · refine x_iload_n h dX12_see_18 rfl ?_
    refine x_i2l h dX12_see_19 ?_
    refine x_lc0 h dX12_see_20 ?_
    refine x_lc1 h dX12_see_21 ?_
    refine x_cSi h ci_X12_in sm_X12_in l_X12_114 ⟨Nat.le_of_ble_eq_true rfl, Nat.le_of_ble_eq_true rfl⟩ ⟨rfl, rfl⟩ ⟨Nat.zero_le _, Nat.zero_le _⟩ (c_X12_in (b := lN 0) (c := lN 1)) rfl rfl rfl rfl dX12_see_22 (fun v22 M22 hp22 => ?_)
    obtain ⟨rfl, hM⟩ := hp22
    obtain rfl := hM.symm
    clear hM
    refine x_if_ne h 31 dX12_see_25 (by decide) (fun c25 => ?_) (fun c25 => ?_)
    · exact absurd (b2i_0.mpr (in_no hw (by decide))) c25
    · refine x_bipush h (-2) (by decide) dX12_see_28 ?_
      exact x_iret h hQ rfl dX12_see_30 ⟨rfl, rfl, _, rfl, rfl, hI0, off_refl m M⟩
  · exact absurd (in_gy hn (by omega)) (by rw [b2i_0.mp c13]; decide)
theorem c_X12_see_2 {Γ : GT} {G : GG} {M : MM} {m : Nat} (hF : mdF G M.2.2 m) {tx : Nat → Nat} {len : Nat} {pg : PGM} {su : SU} {hy : HY} {kp : KP} {ze : SE} {sd : Int64} (hI : mInv M m tx len pg su hy kp ze sd) {n w : Nat} (hn : n < pg.2.2.1.1) (hw : w < 2) : Calls Γ q_X12_see [.ref m, .int (nI n), .int (nI w)] G M (rI (fun y M' => y = (if ze.1 = 6 then -4 else nI (ze.1 + 1)) ∧ mInv M' m (tx) (len) (pg) (su) (hy) (kp) (if ze.1 = 6 then ze else (ze.1 + 1, upN ze.2.1 ze.1 n, upN ze.2.2 ze.1 w)) (sd) ∧ offM m M M')) := by
  have hI0 := hI
  obtain ⟨iT, iP, iN, iD, iK, iS, iE, iC⟩ := hI
  have nk4 := iP.2.2.2.1.1
  have hl := iS.2.1
  have s6 := iS.1
  refine Calls.intro (by decide +kernel) (Nat.le_of_ble_eq_true rfl) (fun z E h hQ => ?_)
  refine x_loc (L' := [some (.ref m), some (.int (nI n)), some (.int (nI w))]) rfl ?_
  refine x_iload_n h dX12_see_0 rfl ?_
  refine x_i2l h dX12_see_1 ?_
  refine x_lc0 h dX12_see_2 ?_
  refine x_aload_n h dX12_see_3 rfl ?_
  refine x_getIv h hF.1 f_X12_208 rfl iP.2.2.2.1.2.1 dX12_see_4 ?_
  refine x_in1 h dX12_see_7 ?_
  refine x_isub h dX12_see_8 ?_
  refine x_i2l h dX12_see_9 ?_
  refine x_cSi h ci_X12_in sm_X12_in l_X12_114 ⟨Nat.le_of_ble_eq_true rfl, Nat.le_of_ble_eq_true rfl⟩ ⟨rfl, rfl⟩ ⟨Nat.zero_le _, Nat.zero_le _⟩ (c_X12_in (b := lN 0)) rfl rfl rfl rfl dX12_see_10 (fun v10 M10 hp10 => ?_)
  obtain ⟨rfl, hM⟩ := hp10
  obtain rfl := hM.symm
  clear hM
  refine x_if_ne h 18 dX12_see_13 (by decide) (fun c13 => ?_) (fun c13 => ?_)
  · refine x_iload_n h dX12_see_18 rfl ?_
    refine x_i2l h dX12_see_19 ?_
    refine x_lc0 h dX12_see_20 ?_
    refine x_lc1 h dX12_see_21 ?_
    refine x_cSi h ci_X12_in sm_X12_in l_X12_114 ⟨Nat.le_of_ble_eq_true rfl, Nat.le_of_ble_eq_true rfl⟩ ⟨rfl, rfl⟩ ⟨Nat.zero_le _, Nat.zero_le _⟩ (c_X12_in (b := lN 0) (c := lN 1)) rfl rfl rfl rfl dX12_see_22 (fun v22 M22 hp22 => ?_)
    obtain ⟨rfl, hM⟩ := hp22
    obtain rfl := hM.symm
    clear hM
    refine x_if_ne h 31 dX12_see_25 (by decide) (fun c25 => ?_) (fun c25 => ?_)
    · refine x_aload_n h dX12_see_31 rfl ?_
      refine x_getIv h hF.1 f_X12_316 rfl hl dX12_see_32 ?_
      refine x_bipush h (nI 6) (by decide) dX12_see_35 ?_
      refine x_icmp_ne h 43 dX12_see_37 (by decide) (fun c37 => ?_) (fun c37 => ?_)
      · have e : ¬ ze.1 = 6 := fun q => c37 (by rw [q])
        refine x_aload_n h dX12_see_43 rfl ?_
        refine x_getR h hF.1 f_X12_86 rfl (md_seenCheck hF).1 dX12_see_44 ?_
        refine x_aload_n h dX12_see_47 rfl ?_
        refine x_getIv h hF.1 f_X12_316 rfl hl dX12_see_48 ?_
        refine x_iload_n h dX12_see_51 rfl ?_
        refine x_iast h ze.1 (md_seenCheck hF).2 (ix.ni (by omega) (by decide)) dX12_see_52 ?_
        refine x_aload_n h dX12_see_53 rfl ?_
        refine x_getR h hF.1 f_X12_89 rfl (md_seenWas hF).1 dX12_see_54 ?_
        refine x_aload_n h dX12_see_57 rfl ?_
        refine x_getIv h hF.1 f_X12_316 rfl (show _ = nI ze.1 from (up2_ne _ _ (by omega)).trans hl) dX12_see_58 ?_
        refine x_iload_n h dX12_see_61 rfl ?_
        refine x_iast h ze.1 (md_seenWas hF).2 (ix.ni (by omega) (by decide)) dX12_see_62 ?_
        refine x_aload_n h dX12_see_63 rfl ?_
        refine x_dup h rfl dX12_see_64 ?_
        refine x_getIv h hF.1 f_X12_316 rfl (show _ = nI ze.1 from (up2_ne _ _ (by omega)).trans ((up2_ne _ _ (by omega)).trans hl)) dX12_see_65 ?_
        refine x_in1 h dX12_see_68 ?_
        refine x_iaddn h  dX12_see_69 ?_
        refine x_putI h hF.1 f_X12_316 rfl rfl dX12_see_70 ?_
        refine x_aload_n h dX12_see_73 rfl ?_
        refine x_getIv h hF.1 f_X12_316 rfl (show _ = nI (ze.1 + 1) from up2_self _ _ _ _) dX12_see_74 ?_
        exact x_iret h hQ rfl dX12_see_77 ⟨rfl, rfl, _, rfl, by rw [if_neg e], by
          rw [if_neg e]
          refine ⟨(mTx_cg iT (fun a j h => by simp only [sI, up2]; rw [if_neg (by omega), if_neg (by omega), if_neg (by omega)])), (mPg_cg iP (fun a j h => by simp only [sI, up2]; rw [if_neg (by omega), if_neg (by omega), if_neg (by omega)])), (mNw_cg iN (fun a j h => by simp only [sI, up2]; rw [if_neg (by omega), if_neg (by omega), if_neg (by omega)])), (mDy_cg iD (fun a j h => by simp only [sI, up2]; rw [if_neg (by omega), if_neg (by omega), if_neg (by omega)])), (mKp_cg iK (fun a j h => by simp only [sI, up2]; rw [if_neg (by omega), if_neg (by omega), if_neg (by omega)])), ⟨by show ze.1 + 1 ≤ 6; omega, up2_self _ _ _ _, fun i hi => ?_⟩, iE, (mCF_cg iC rfl)⟩
          have hi' : i < ze.1 + 1 := hi
          by_cases q : i = ze.1
          · subst q
            refine ⟨?_, ?_, by show upN _ _ _ _ < 4; rw [upN_at]; omega, by show upN _ _ _ _ < 2; rw [upN_at]; exact hw⟩
            · show _ = nI (upN _ _ _ _)
              rw [upN_at]
              simp [sI, up2]
            · show _ = nI (upN _ _ _ _)
              rw [upN_at]
              simp [sI, up2]
          · obtain ⟨a1, a2, a3, a4⟩ := iS.2.2 i (by omega)
            refine ⟨?_, ?_, by show upN _ _ _ _ < 4; rw [upN_ne _ _ q]; exact a3, by show upN _ _ _ _ < 2; rw [upN_ne _ _ q]; exact a4⟩
            · show _ = nI (upN _ _ _ _)
              rw [upN_ne _ _ q]
              simp only [sI, up2]
              rw [if_neg (by omega), if_neg (by omega), if_neg (by omega)]
              exact a1
            · show _ = nI (upN _ _ _ _)
              rw [upN_ne _ _ q]
              simp only [sI, up2]
              rw [if_neg (by omega), if_neg (by omega), if_neg (by omega)]
              exact a2, (off_I (off_I (off_I (off_refl m M) _ (by omega)) _ (by omega)) _ (by omega))⟩
      · have e : ze.1 = 6 := nI_small 6 (by omega) (by decide) c37
        refine x_bipush h (-4) (by decide) dX12_see_40 ?_
        exact x_iret h hQ rfl dX12_see_42 ⟨rfl, rfl, _, rfl, by rw [if_pos e], by rw [if_pos e]; exact hI0, off_refl m M⟩
    · exact absurd (in_yes (n := w) (b := 1) (by omega) (by decide)) (by rw [b2i_0.mp c25]; decide)
  · exact absurd (in_gy hn (by omega)) (by rw [b2i_0.mp c13]; decide)
theorem mCF_lg {M N : MM} {m : Nat} (h : mCF M m) (e : ∀ a j, a = m + 28 ∨ a = m + 29 → N.2.1 a j = M.2.1 a j) : mCF N m := by
  obtain ⟨C, F, h⟩ := h
  refine ⟨C, F, ?_⟩
  have h1 : M.2.1 = (wCF M m C F).2.1 := congrArg (fun (K : MM) => K.2.1) h
  show (N.1, N.2.1, N.2.2) = (N.1, _, N.2.2)
  congr 2
  funext b j
  by_cases q : b = m + 28 ∧ j < 248
  · rw [if_pos q, e b j (Or.inl q.1), h1, q.1]
    show (if m + 28 = m + 28 ∧ j < 248 then _ else _) = _
    rw [if_pos ⟨rfl, q.2⟩]
  · rw [if_neg q]
    by_cases q2 : b = m + 29 ∧ j < 248
    · rw [if_pos q2, e b j (Or.inr q2.1), h1, q2.1]
      show (if m + 29 = m + 28 ∧ j < 248 then _ else if m + 29 = m + 29 ∧ j < 248 then _ else _) = _
      rw [if_neg (by omega), if_pos ⟨rfl, q2.2⟩]
    · rw [if_neg q2]
theorem c_X12_seed {Γ : GT} {G : GG} {M : MM} {m : Nat} (hF : mdF G M.2.2 m) {tx : Nat → Nat} {len : Nat} {pg : PGM} {su : SU} {hy : HY} {kp : KP} {ze : SE} {sd : Int64} (hI : mInv M m tx len pg su hy kp ze sd) {x : Int64} : Calls Γ q_X12_seed [.ref m, .long x] G M (rL (fun y M' => y = sd ∧ mInv M' m (tx) (len) (pg) (su) (hy) (kp) (ze) (x) ∧ offM m M M')) := by
  have hI0 := hI
  obtain ⟨iT, iP, iN, iD, iK, iS, iE, iC⟩ := hI
  refine Calls.intro (by decide +kernel) (Nat.le_of_ble_eq_true rfl) (fun z E h hQ => ?_)
  refine x_loc (L' := [some (.ref m), some (.long x), none, none, none]) rfl ?_
  refine x_aload_n h dX12_seed_0 rfl ?_
  refine x_getL h hF.1 f_X12_387 rfl dX12_seed_1 ?_
  refine x_lstore_n h dX12_seed_4 rfl rfl ?_
  dsimp only [List.set]
  refine x_aload_n h dX12_seed_5 rfl ?_
  refine x_lload_n h dX12_seed_6 rfl ?_
  refine x_putL h hF.1 f_X12_387 rfl rfl dX12_seed_7 ?_
  refine x_lload_n h dX12_seed_10 rfl ?_
  exact x_lret h hQ rfl dX12_seed_11 ⟨rfl, rfl, _, rfl, iE, ⟨(mTx_cg iT (fun a j h => rfl)), (mPg_cg iP (fun a j h => rfl)), (mNw_cg iN (fun a j h => rfl)), (mDy_cg iD (fun a j h => rfl)), (mKp_cg iK (fun a j h => rfl)), (mSn_cg iS (fun a j h => rfl)), up2_self _ _ _ _, (mCF_lg iC (fun a j q => up2_ne _ _ (by omega)))⟩, off_L (off_refl m M) _ (by omega)⟩
