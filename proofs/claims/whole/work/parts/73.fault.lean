/-! ===== the text read by both: the same fault ===== -/
theorem rel_0 (T U : RT) : rel (t0T T) (u0U U) := by
  refine rel_mk (n := 0) (ex := 0) (ow := T 200 1) (va := T 200 2) (sg := T 200 3) (dp := 0) (gs := 0) (ks := 0) (lp := 0) (co := 0) (by simp [t0T, tU]) (by simp [t0T, tU]) (by simp [t0T, tU]) (by simp [t0T, tU]) (by simp [t0T, tU]) (by simp [t0T, tU]) (by simp [t0T, tU]) (by simp [t0T, tU]) (by simp [t0T, tU]) (by simp [t0T, tU]) (by simp [u0U, tU]) (by simp [u0U, tU]) ⟨fun _ => ?_, fun q => ?_, fun q => ?_⟩ (fun d hd => absurd hd (Nat.not_lt_zero _)) (fun j hj => absurd hj (Nat.not_lt_zero _)) (fun g hg => absurd hg (Nat.not_lt_zero _)) ⟨fun q => ?_, fun q => ?_, fun q => ?_, fun q => ?_, fun _ => rfl⟩
  · refine ⟨?_, ?_, ?_, ?_, ?_⟩ <;> simp [u0U, tU]
  · omega
  · omega
  · omega
  · omega
  · omega
  · omega
/-- a table that a reading may begin with -/
def tbOk (T : RT) : Prop := T 200 2 < 3 ∧ ∀ j, j < 60 → T (65 + j) 0 ≤ 10
theorem rdI_okT {tx : Nat → Nat} {T : RT} (h : tbOk T) {i : Nat} {S : RT} (hi : i ≤ 60) (e : rdI tx (t0T T) i = some S) : rdOk S i := rdI_ok (t0_ok h.1 h.2) i S hi e
theorem rdI_ixT {tx : Nat → Nat} {T : RT} (h : tbOk T) {i : Nat} {S : RT} (hi : i ≤ 60) (e : rdI tx (t0T T) i = some S) : idxOk S := rdI_ix (t0_ok h.1 h.2) (by simp [t0T, tU]) (by simp [t0T, tU]) (by simp [t0T, tU]) i S hi e
theorem rdI_nm {tx : Nat → Nat} {T : RT} (h : tbOk T) : ∀ (i : Nat) (S : RT), i ≤ 60 → rdI tx (t0T T) i = some S → nmOk S
  | 0, S, _, e => by cases e; exact nm_0 T
  | i + 1, S, hi, e => by
    rw [rdI] at e
    cases q : rdI tx (t0T T) i with
    | none => rw [q] at e; cases e
    | some R =>
      rw [q] at e
      exact tk_nm (rdI_okT h (by omega) q) (by omega) (rdI_nm h i R (by omega) q) e
theorem rel_I {tx : Nat → Nat} {T U : RT} (h : tbOk T) : ∀ i, i ≤ 60 → tkR (rdI tx (t0T T) i) (mdI tx (u0U U) i)
  | 0, _ => Or.inr ⟨_, _, rfl, rfl, rel_0 T U⟩
  | i + 1, hi => by
    rcases rel_I (tx := tx) (T := T) (U := U) h i (by omega) with ⟨a, b⟩ | ⟨S, V, a, b, c⟩
    · exact Or.inl ⟨by rw [rdI, a]; rfl, by rw [mdI, b]; rfl⟩
    · have := rel_tk (ch := tx i) c (rdI_okT h (by omega) a) (by omega) (rdI_ixT h (by omega) a)
      rw [rdI, a, mdI, b]
      exact this
theorem rel_V {tx : Nat → Nat} {T U : RT} (h : tbOk T) {i : Nat} (hi : i ≤ 60) {V : RT} (e : mdI tx (u0U U) i = some V) : ∃ S, rdI tx (t0T T) i = some S ∧ rel S V := by
  rcases rel_I (tx := tx) (U := U) h i hi with ⟨a, b⟩ | ⟨S, V2, a, b, c⟩
  · rw [b] at e; cases e
  · rw [b] at e; cases e; exact ⟨S, a, c⟩
theorem wh_iff {S V : RT} (h : rel S V) (hz : dpz S) : wholeT S ↔ wholeU V := by
  unfold wholeT wholeU
  rw [h.1]
  constructor
  · rintro ⟨a, b | b⟩
    · have s := h.2.2.1.1 (Or.inl b)
      exact Or.inr ⟨b, by rw [s.2.2.2.2]; exact a⟩
    · exact Or.inl b
  · rintro (b | ⟨b, a⟩)
    · exact ⟨hz.1 b, Or.inr b⟩
    · have s := h.2.2.1.1 (Or.inl b)
      exact ⟨by rw [← s.2.2.2.2]; exact a, Or.inl b⟩
/-- what a reading tells -/
def rdQ (T : RT) (tx : Nat → Nat) (len : Nat) (y : Int32) : Prop := ∃ k S, k ≤ len ∧ rdI tx (t0T T) k = some S ∧ ((k < len ∧ tkT S (tx k) = none ∧ y = nI k) ∨ (k = len ∧ (wholeT S → y = -9) ∧ (¬ wholeT S → y = nI len)))
theorem rdI_pre {tx : Nat → Nat} {T S : RT} : ∀ {k : Nat} (d : Nat), rdI tx T (k + d) = some S → ∃ R, rdI tx T k = some R
  | k, 0, e => ⟨S, e⟩
  | k, d + 1, e => by
    rw [← Nat.add_assoc, rdI] at e
    cases q : rdI tx T (k + d) with
    | none => rw [q] at e; cases e
    | some R => exact rdI_pre d q
theorem rdQ_fun {T : RT} {tx : Nat → Nat} {len : Nat} {y1 y2 : Int32} (h1 : rdQ T tx len y1) (h2 : rdQ T tx len y2) : y1 = y2 := by
  obtain ⟨k1, S1, a1, b1, c1⟩ := h1
  obtain ⟨k2, S2, a2, b2, c2⟩ := h2
  have nolt : ∀ {k l : Nat} {S R : RT}, rdI tx (t0T T) k = some S → rdI tx (t0T T) l = some R → tkT S (tx k) = none → ¬ k < l := by
    intro k l S R e1 e2 e3 hlt
    have e2' : rdI tx (t0T T) (k + 1 + (l - (k + 1))) = some R := by rw [show k + 1 + (l - (k + 1)) = l by omega]; exact e2
    obtain ⟨R2, e4⟩ := rdI_pre (l - (k + 1)) e2'
    rw [rdI, e1] at e4
    exact absurd (e3.symm.trans e4) (by intro q; cases q)
  rcases c1 with ⟨d1, f1, g1⟩ | ⟨d1, f1, g1⟩ <;> rcases c2 with ⟨d2, f2, g2⟩ | ⟨d2, f2, g2⟩
  · have n1 := nolt b1 b2 f1
    have n2 := nolt b2 b1 f2
    rw [g1, g2, show k1 = k2 by omega]
  · exact absurd (show k1 < k2 by omega) (nolt b1 b2 f1)
  · exact absurd (show k2 < k1 by omega) (nolt b2 b1 f2)
  · subst d1 d2
    rw [b1] at b2
    cases b2
    by_cases q : wholeT S1
    · rw [f1 q, f2 q]
    · rw [g1 q, g2 q]
theorem readP_Q {u c : Nat} {M : MM} {tx : Nat → Nat} {len : Nat} {T : RT} {y : Int32} {M' : MM} (h : readP u c M tx len T y M') : rdQ T tx len y := by
  obtain ⟨k, S, a, b, -, d⟩ := h
  exact ⟨k, S, a, b, d⟩
theorem rdmP_Q {m : Nat} {M : MM} {tx : Nat → Nat} {len : Nat} {T U : RT} (ht : tbOk T) (hl : len ≤ 60) {y : Int32} {M' : MM} (h : rdmP m M tx len U y M') : rdQ T tx len y := by
  obtain ⟨k, V, a, b, d⟩ := h
  obtain ⟨S, e1, e2⟩ := rel_V (T := T) ht (by omega) b
  have hz := (rdI_nm ht k S (by omega) e1).1
  refine ⟨k, S, a, e1, ?_⟩
  rcases d with ⟨d1, d2, d3, -⟩ | ⟨d1, -, d3, d4⟩
  · refine Or.inl ⟨d1, ?_, d3⟩
    rcases rel_tk (ch := tx k) e2 (rdI_okT ht (by omega) e1) (by omega) (rdI_ixT ht (by omega) e1) with ⟨p, q⟩ | ⟨S2, V2, p, q, r⟩
    · exact p
    · rw [d2] at q; cases q
  · exact Or.inr ⟨d1, fun q => d3 ((wh_iff e2 hz).mp q), fun q => d4 (fun q2 => q ((wh_iff e2 hz).mpr q2))⟩
theorem regN {a j : Nat} (h : a < 28) (h1 : a < 11 ∨ 20 < a) (h2 : a = 0 → j < 22 ∨ (26 < j ∧ j < 31) ∨ 32 < j) : regR a j = false := by
  have e2 : decide (11 ≤ a ∧ a ≤ 20) = false := decide_eq_false (by omega)
  unfold regR
  rw [e2]
  by_cases q : a = 0
  · have := h2 q
    have e3 : decide (22 ≤ j ∧ j ≤ 26) = false := decide_eq_false (by omega)
    have e4 : decide (j = 31) = false := decide_eq_false (by omega)
    have e5 : decide (j = 32) = false := decide_eq_false (by omega)
    rw [e3, e4, e5]; simp
  · rw [decide_eq_false q]; rfl
theorem mInv_mt {M : MM} {m : Nat} {tx : Nat → Nat} {len : Nat} {pg : PGM} {su : SU} {hy : HY} {kp : KP} {ze : SE} {sd : Int64} (hI : mInv M m tx len pg su hy kp ze sd) (U : RT) : mInv (mtM M m U) m tx len pg su hy kp ze sd := by
  obtain ⟨iT, iP, iN, iD, iK, iS, iE, iC⟩ := hI
  exact ⟨mTx_cg iT (fun a j h => mt_ne M m U (regN (by omega) (by omega) (by omega))), mPg_cg iP (fun a j h => mt_ne M m U (regN (by omega) (by omega) (by omega))), mNw_cg iN (fun a j h => mt_ne M m U (regN (by omega) (by omega) (by omega))), mDy_cg iD (fun a j h => mt_ne M m U (regN (by omega) (by omega) (by omega))), mKp_cg iK (fun a j h => mt_ne M m U (regN (by omega) (by omega) (by omega))), mSn_cg iS (fun a j h => mt_ne M m U (regN (by omega) (by omega) (by omega))), iE, mCF_cg iC rfl⟩
theorem off_mt (M : MM) (m : Nat) (U : RT) : offM m M (mtM M m U) := ⟨rfl, fun b q => ⟨fun j => if_neg (fun r => by
  have e : regR (b - m) j = false := by
    have e2 : decide (11 ≤ b - m ∧ b - m ≤ 20) = false := decide_eq_false (by omega)
    unfold regR
    rw [e2, decide_eq_false (show ¬ b - m = 0 by omega)]; rfl
  rw [e] at r; cases r.2), fun j => rfl⟩⟩
theorem ok_reads {tx : Nat → Nat} {T U : RT} (ht : tbOk T) {len : Nat} (hl : len ≤ 60) : (∀ i V, i < len → mdI tx (u0U U) i = some V → okU V) ∧ (∀ V, mdI tx (u0U U) len = some V → V 0 32 ≤ 6 ∧ V 0 31 < 8) := by
  refine ⟨fun i V hi e => ?_, fun V e => ?_⟩
  · obtain ⟨S, e1, e2⟩ := rel_V (T := T) ht (by omega) e
    exact okU_of e2 (rdI_okT ht (by omega) e1) (by omega)
  · obtain ⟨S, e1, e2⟩ := rel_V (T := T) ht (by omega) e
    have hok := rdI_okT ht (by omega) e1
    obtain ⟨o1, o2, o3, o4, o5, o6, o7, o8, o9, o10, o11, o12⟩ := hok
    refine ⟨by rw [e2.1]; exact o3, ?_⟩
    have sc := e2.2.2.1
    rcases (show S 200 0 = 0 ∨ S 200 0 = 1 ∨ S 200 0 = 2 ∨ (3 ≤ S 200 0 ∧ S 200 0 ≤ 5) ∨ S 200 0 = 6 by omega) with hx | hx | hx | hx | hx
    · have s := sc.1 (Or.inl hx); omega
    · have s := sc.2.1 (Or.inl hx); omega
    · have s := sc.2.1 (Or.inr hx); omega
    · have w := o12 hx.1 hx.2
      have sw := sc.2.2 hx.1 hx.2
      rcases w with w | w | w | w
      · have s := sw.1 w; omega
      · have s := sw.2.1 w.1; omega
      · have s := sw.2.2.1 w.1; omega
      · have s := sw.2.2.2 w.1; omega
    · have s := sc.1 (Or.inr hx); omega
theorem c_X12_fault {Γ : GT} {G : GG} {M : MM} {m : Nat} (hF : mdF G M.2.2 m) {tx : Nat → Nat} {len : Nat} {pg : PGM} {su : SU} {hy : HY} {kp : KP} {ze : SE} {sd : Int64} (hI : mInv M m tx len pg su hy kp ze sd) {T : RT} (ht : tbOk T) : Calls Γ q_X12_fault [.ref m] G M (rI (fun y M' => rdQ T tx len y ∧ mInv M' m tx len pg su hy kp ze sd ∧ offM m M M')) := by
  have hI0 := hI
  obtain ⟨iT, -⟩ := hI
  obtain ⟨U, hU⟩ := mt_ex M m
  have hr := ok_reads (tx := tx) (U := U) ht iT.1
  refine Calls.intro (by decide +kernel) (Nat.le_of_ble_eq_true rfl) (fun z E h hQ => ?_)
  refine x_loc (L' := [some (.ref m)]) rfl ?_
  refine x_mem hU ?_
  refine x_aload_n h dX12_fault_0 rfl ?_
  refine x_cVi h ci_X12_readText im_X12_readText l_X12_202 ⟨Nat.le_of_ble_eq_true rfl, Nat.le_of_ble_eq_true rfl⟩ ⟨rfl, rfl⟩ ⟨Nat.zero_le _, Nat.zero_le _⟩ (c_X12_readText hF (U := U) iT hr.1 hr.2) rfl rfl rfl rfl hF.1 (by decide) rfl dX12_fault_1 (fun v1 M1 hp1 => ?_)
  have hq := rdmP_Q ht iT.1 hp1
  have hM : ∃ U2, M1 = mtM M m U2 := by
    obtain ⟨k, V, a, b, d⟩ := hp1
    rcases d with ⟨-, -, -, d4⟩ | ⟨-, d4, -⟩
    · exact d4
    · exact ⟨V, d4⟩
  obtain ⟨U2, rfl⟩ := hM
  exact x_iret h hQ rfl dX12_fault_4 ⟨rfl, rfl, _, rfl, hq, mInv_mt hI0 U2, off_mt M m U2⟩
