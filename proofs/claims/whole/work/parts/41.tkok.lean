/-! ===== a letter taken keeps the form; the letters of a text ===== -/
theorem plT_lt {T : RT} {i : Nat} (h : rdOk T i) (hi : i < 60) : plT T < 60 := by
  obtain ⟨o1, o2, o3, o4, o5, o6, o7, o8, o9, o10, o11, o12⟩ := h
  by_cases q : 1 ≤ T 200 5
  · rw [show plT T = T 201 (T 200 5 - 1) from if_pos q]
    have := o10 (T 200 5 - 1) (by omega)
    omega
  · rw [show plT T = 0 from if_neg q]; decide
theorem st_ok {T T' : RT} {i ch : Nat} (h : rdOk T i) (hi : i < 60) (hx : T 200 0 = 0) (e : stT T ch = some T') : rdOk T' (i + 1) := by
  have hp := plT_lt h hi
  unfold stT at e
  split at e
  · rename_i q
    cases e
    have q2 : 97 ≤ ch ∧ ch ≤ 99 := of_decide_eq_true q
    exact ok_nm h hi hx (by omega)
  split at e
  · cases e; exact ok_ec h hi hx (Or.inl rfl)
  split at e
  · split at e
    · rename_i q; cases e; exact ok_ec h hi hx (Or.inr (Or.inl ⟨rfl, q⟩))
    · cases e
  split at e
  · split at e
    · rename_i q; cases e; exact ok_ec h hi hx (Or.inr (Or.inr (Or.inl ⟨rfl, q⟩)))
    · cases e
  split at e
  · split at e
    · cases e; exact ok_cl h hi hx hp
    · cases e
  split at e
  · split at e
    · rename_i q; cases e; exact ok_oc h hi hx q
    · cases e
  split at e
  · split at e
    · rename_i q; cases e; exact ok_pb9 h hi hx hp q.1
    · cases e
  split at e
  · split at e
    · cases e; exact ok_pb10 h hi hx hp
    · cases e
  split at e
  · split at e
    · rename_i q; cases e; exact ok_ec h hi hx (Or.inr (Or.inr (Or.inr ⟨rfl, q.2⟩)))
    · cases e
  cases e
theorem op_ok {T T' : RT} {i ch : Nat} (h : rdOk T i) (hi : i < 60) (hx : T 200 0 = 1) (e : opT T ch = some T') : rdOk T' (i + 1) := by
  unfold opT at e
  split at e
  · cases e; exact ok_op h hi hx
  split at e
  · cases e; exact ok_ch h hi hx (by decide)
  split at e
  · cases e; exact ok_ch h hi hx (by decide)
  split at e
  · cases e; exact ok_ch h hi hx (by decide)
  cases e
theorem tk_ok {T T' : RT} {i ch : Nat} (h : rdOk T i) (hi : i < 60) (e : tkT T ch = some T') : rdOk T' (i + 1) := by
  unfold tkT at e
  split at e
  · rename_i q; exact st_ok h hi q e
  split at e
  · rename_i q; exact op_ok h hi q e
  split at e
  · rename_i q
    split at e
    · cases e; exact ok_nv h hi q
    · cases e
  split at e
  · rename_i q
    split at e
    · rename_i r
      cases e
      have r2 : 97 ≤ ch ∧ ch ≤ 99 := of_decide_eq_true r
      exact ok_lf h hi q (by omega)
    · cases e
  split at e
  · rename_i q
    split at e
    · cases e; exact ok_sg h hi q
    · cases e
  split at e
  · rename_i q
    split at e
    · cases e
      rcases h.2.2.2.2.2.2.2.2.2.2.2 (by omega) (by omega) with w | w | w | w
      · exact ok_tr4 h hi q w
      · exact ok_tr5 h hi q w.1 w.2
      · exact ok_tr6 h hi q w.1 w.2
      · exact ok_tr7 h hi q w.1 w.2
    · cases e
  rename_i q0 q1 q2 q3 q4 q5
  have q6 : T 200 0 = 6 := by have := h.2.2.1; omega
  split at e
  · rename_i r; cases e; exact ok_ec6 h hi q6 (Or.inr (Or.inr (Or.inr ⟨rfl, r.2⟩)))
  · cases e
/-- the table behind i letters of a text -/
def rdI (tx : Nat → Nat) (T : RT) : Nat → Option RT
  | 0 => some T
  | i + 1 => (rdI tx T i).bind (fun S => tkT S (tx i))
theorem rdI_ok {tx : Nat → Nat} {T : RT} (h : rdOk T 0) : ∀ (i : Nat) (S : RT), i ≤ 60 → rdI tx T i = some S → rdOk S i
  | 0, S, _, e => by cases e; exact h
  | i + 1, S, hi, e => by
    rw [rdI] at e
    cases q : rdI tx T i with
    | none => rw [q] at e; cases e
    | some R =>
      rw [q] at e
      exact tk_ok (rdI_ok h i R (by omega) q) (by omega) e
theorem frm_trans {u c : Nat} {M N K : MM} (h1 : frm u c M N) (h2 : frm u c N K) : frm u c M K := ⟨h2.1.trans h1.1, fun b j q1 q2 => (h2.2.1 b j q1 q2).trans (h1.2.1 b j q1 q2), fun b j q => (h2.2.2 b j q).trans (h1.2.2 b j q)⟩
theorem rdS_trans {u c : Nat} {M N K : MM} {T S : RT} (h1 : rdS u c M N T) (h2 : rdS u c N K S) : rdS u c M K S := ⟨h2.1, frm_trans h1.2 h2.2⟩
/-- the table as a reading begins -/
def t0T (T : RT) : RT := tU (tU (tU (tU (tU (tU (tU (tU (tU T 0 1 0) 0 3 0) 0 6 0) 0 7 0) 0 8 0) 0 9 0) 0 10 0) 200 0 0) 200 5 0
theorem t0_ok {T : RT} (hv : T 200 2 < 3) (hk : ∀ j, j < 60 → T (65 + j) 0 ≤ 10) : rdOk (t0T T) 0 := by
  refine ok_mk (n := 0) (us := 0) (ex := 0) (ow := T 200 1) (va := T 200 2) (dp := 0) (gs := 0) (ks := 0) (lp := 0) (co := 0) (by simp [t0T, tU]) (by simp [t0T, tU]) (by simp [t0T, tU]) (by simp [t0T, tU]) (by simp [t0T, tU]) (by simp [t0T, tU]) (by simp [t0T, tU]) (by simp [t0T, tU]) (by simp [t0T, tU]) (by simp [t0T, tU]) (by omega) (by decide) (by omega) hv (by omega) (by omega) (by omega) (by omega) (by omega) (fun j hj => absurd hj (by omega)) (fun j hj => ?_) (fun q => absurd q (by decide))
  have a := hk j hj
  simp [t0T, tU] <;> (repeat' split) <;> (intros; omega)
