/-! ===== a letter taken keeps the places in range ===== -/
theorem st_sp {T T' : RT} {i ch : Nat} (h : rdOk T i) (hi : i < 60) (hs : stpOk T) (hx : T 200 0 = 0) (e : stT T ch = some T') : stpOk T' := by
  have hn : T 0 1 < 60 := Nat.lt_of_le_of_lt h.1 hi
  have hu : T 0 3 < 20 := by have := h.2.1; omega
  have hv : T 200 2 < 3 := h.2.2.2.1
  have hpl : 1 ≤ T 200 5 → plT T < T 0 1 := fun q => by rw [show plT T = T 201 (T 200 5 - 1) from if_pos q]; exact h.2.2.2.2.2.2.2.2.2.1 _ (by omega)
  unfold stT at e
  split at e
  · rename_i q
    cases e
    have q2 : 97 ≤ ch ∧ ch ≤ 99 := of_decide_eq_true q
    exact sp_nm hs hn hu
  split at e
  · cases e; exact sp_ec hs hn hu
  split at e
  · split at e
    · rename_i q; cases e; exact sp_ec hs hn hu
    · cases e
  split at e
  · split at e
    · rename_i q; cases e; exact sp_ec hs hn hu
    · cases e
  split at e
  · split at e
    · rename_i q; cases e; exact sp_cl hs hn hu (hpl q.1) q.2
    · cases e
  split at e
  · split at e
    · rename_i q; cases e; exact sp_oc hs hn hu q
    · cases e
  split at e
  · split at e
    · rename_i q; cases e; exact sp_pb9 hs hn hu (hpl q.1) q.2
    · cases e
  split at e
  · split at e
    · rename_i q; cases e; exact sp_pb10 hs hn hu (hpl q.1) q.2
    · cases e
  split at e
  · split at e
    · rename_i q; cases e; exact sp_ec hs hn hu
    · cases e
  cases e
theorem op_sp {T T' : RT} {i ch : Nat} (h : rdOk T i) (hi : i < 60) (hs : stpOk T) (hx : T 200 0 = 1) (e : opT T ch = some T') : stpOk T' := by
  have hn : T 0 1 < 60 := Nat.lt_of_le_of_lt h.1 hi
  have hu : T 0 3 < 20 := by have := h.2.1; omega
  have hv : T 200 2 < 3 := h.2.2.2.1
  unfold opT at e
  split at e
  · cases e; exact sp_op hs hn hu
  split at e
  · cases e; exact sp_ch hs hn hu (by decide) hv
  split at e
  · cases e; exact sp_ch hs hn hu (by decide) hv
  split at e
  · cases e; exact sp_ch hs hn hu (by decide) hv
  cases e
theorem tk_sp {T T' : RT} {i ch : Nat} (h : rdOk T i) (hi : i < 60) (hs : stpOk T) (e : tkT T ch = some T') : stpOk T' := by
  have hn : T 0 1 < 60 := Nat.lt_of_le_of_lt h.1 hi
  have hu : T 0 3 < 20 := by have := h.2.1; omega
  have hv : T 200 2 < 3 := h.2.2.2.1
  unfold tkT at e
  split at e
  · rename_i q; exact st_sp h hi hs q e
  split at e
  · rename_i q; exact op_sp h hi hs q e
  split at e
  · rename_i q
    split at e
    · cases e; exact sp_nv hs hn hu hv
    · cases e
  split at e
  · rename_i q
    split at e
    · rename_i r
      cases e
      have r2 : 97 ≤ ch ∧ ch ≤ 99 := of_decide_eq_true r
      exact sp_lf hs hn hu
    · cases e
  split at e
  · rename_i q
    split at e
    · cases e; exact sp_sg hs hn hu
    · cases e
  split at e
  · rename_i q
    split at e
    · cases e
      rcases h.2.2.2.2.2.2.2.2.2.2.2 (by omega) (by omega) with w | w | w | w
      · exact sp_tr4 hs hn hu w
      · exact sp_tr5 hs hn hu w.1 w.2
      · exact sp_tr6 hs hn hu w.1 w.2
      · exact sp_tr7 hs hn hu w.1 w.2
    · cases e
  rename_i q0 q1 q2 q3 q4 q5
  have q6 : T 200 0 = 6 := by have := h.2.2.1; omega
  split at e
  · rename_i r; cases e; exact sp_ec hs hn hu
  · cases e
theorem rdI_sp {tx : Nat → Nat} {T : RT} (h : rdOk T 0) (h0 : T 0 1 = 0) : ∀ (i : Nat) (S : RT), i ≤ 60 → rdI tx T i = some S → stpOk S
  | 0, S, _, e => by cases e; intro j hj; omega
  | i + 1, S, hi, e => by
    rw [rdI] at e
    cases q : rdI tx T i with
    | none => rw [q] at e; cases e
    | some R =>
      rw [q] at e
      exact tk_sp (rdI_ok h i R (by omega) q) (by omega) (rdI_sp h h0 i R (by omega) q) e
