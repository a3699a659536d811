/-! ===== a letter taken keeps the indices of conditions ===== -/
theorem st_ix {T T' : RT} {i ch : Nat} (h : rdOk T i) (hi : i < 60) (hs : idxOk T) (hx : T 200 0 = 0) (e : stT T ch = some T') : idxOk T' := by
  have hn : T 0 1 < 60 := Nat.lt_of_le_of_lt h.1 hi
  have hu : T 0 3 ≤ 20 := by have := h.2.1; omega
  have hu2 : T 0 3 < 20 := by have := h.2.1; omega
  have hv : T 200 2 < 3 := h.2.2.2.1
  have hp := plT_lt h hi
  have hpl : 1 ≤ T 200 5 → plT T < T 0 1 := fun q => by rw [show plT T = T 201 (T 200 5 - 1) from if_pos q]; exact h.2.2.2.2.2.2.2.2.2.1 _ (by omega)
  unfold stT at e
  split at e
  · rename_i q
    cases e
    have q2 : 97 ≤ ch ∧ ch ≤ 99 := of_decide_eq_true q
    exact ix_nm hs hn hu
  split at e
  · cases e; exact ix_ec hs hn hu
  split at e
  · split at e
    · rename_i q; cases e; exact ix_ec hs hn hu
    · cases e
  split at e
  · split at e
    · rename_i q; cases e; exact ix_ec hs hn hu
    · cases e
  split at e
  · split at e
    · rename_i q; cases e; exact ix_cl hs hn hu (hpl q.1) q.2
    · cases e
  split at e
  · split at e
    · rename_i q; cases e; exact ix_oc hs hn hu
    · cases e
  split at e
  · split at e
    · rename_i q; cases e; exact ix_pb9 hs hn hu hp
    · cases e
  split at e
  · split at e
    · cases e; exact ix_pb10 hs hn hu hp
    · cases e
  split at e
  · split at e
    · rename_i q; cases e; exact ix_ec hs hn hu
    · cases e
  cases e
theorem op_ix {T T' : RT} {i ch : Nat} (h : rdOk T i) (hi : i < 60) (hs : idxOk T) (hx : T 200 0 = 1) (e : opT T ch = some T') : idxOk T' := by
  have hn : T 0 1 < 60 := Nat.lt_of_le_of_lt h.1 hi
  have hu : T 0 3 ≤ 20 := by have := h.2.1; omega
  have hu2 : T 0 3 < 20 := by have := h.2.1; omega
  have hv : T 200 2 < 3 := h.2.2.2.1
  unfold opT at e
  split at e
  · cases e; exact ix_op hs hn hu
  split at e
  · cases e; exact ix_ch hs hn hu (by decide) (by decide)
  split at e
  · cases e; exact ix_ch hs hn hu (by decide) (by decide)
  split at e
  · cases e; exact ix_ch hs hn hu (by decide) (by decide)
  cases e
theorem tk_ix {T T' : RT} {i ch : Nat} (h : rdOk T i) (hi : i < 60) (hs : idxOk T) (e : tkT T ch = some T') : idxOk T' := by
  have hn : T 0 1 < 60 := Nat.lt_of_le_of_lt h.1 hi
  have hu : T 0 3 ≤ 20 := by have := h.2.1; omega
  have hu2 : T 0 3 < 20 := by have := h.2.1; omega
  have hv : T 200 2 < 3 := h.2.2.2.1
  unfold tkT at e
  split at e
  · rename_i q; exact st_ix h hi hs q e
  split at e
  · rename_i q; exact op_ix h hi hs q e
  split at e
  · rename_i q
    split at e
    · rename_i ht; cases e; exact ix_nv hs hn hu hu2
    · cases e
  split at e
  · rename_i q
    split at e
    · rename_i r
      cases e
      have r2 : 97 ≤ ch ∧ ch ≤ 99 := of_decide_eq_true r
      exact ix_lf hs hn hu
    · cases e
  split at e
  · rename_i q
    split at e
    · rename_i ht; cases e; exact ix_sg hs hn hu
    · cases e
  split at e
  · rename_i q
    split at e
    · rename_i ht
      cases e
      rcases h.2.2.2.2.2.2.2.2.2.2.2 (by omega) (by omega) with w | w | w | w
      · exact ix_tr4 hs hn hu hu2 w
      · exact ix_tr5 hs hn hu hu2 w.1
      · exact ix_tr6 hs hn hu hu2 w.1
      · exact ix_tr7 hs hn hu hu2 w.1
    · cases e
  rename_i q0 q1 q2 q3 q4 q5
  have q6 : T 200 0 = 6 := by have := h.2.2.1; omega
  split at e
  · rename_i r; cases e; exact ix_ec hs hn hu
  · cases e
theorem rdI_ix {tx : Nat → Nat} {T : RT} (h : rdOk T 0) (h0 : T 0 1 = 0) (h6 : T 0 6 = 0) (h7 : T 0 7 = 0) : ∀ (i : Nat) (S : RT), i ≤ 60 → rdI tx T i = some S → idxOk S
  | 0, S, _, e => by cases e; exact ⟨fun j hj => absurd hj (by omega), fun j hj => absurd hj (by omega), fun j hj => absurd hj (by omega)⟩
  | i + 1, S, hi, e => by
    rw [rdI] at e
    cases q : rdI tx T i with
    | none => rw [q] at e; cases e
    | some R =>
      rw [q] at e
      exact tk_ix (rdI_ok h i R (by omega) q) (by omega) (rdI_ix h h0 h6 h7 i R (by omega) q) e
theorem rdI_cs {tx : Nat → Nat} {T : RT} (h : rdOk T 0) (h3 : T 0 3 = 0) (hx : T 200 0 = 0) : ∀ (i : Nat) (S : RT), i ≤ 60 → rdI tx T i = some S → cnsOk S ∧ (S 200 0 = 5 → sgnOk S)
  | 0, S, _, e => by cases e; exact ⟨fun j hj => absurd hj (by omega), fun q => absurd q (by omega)⟩
  | i + 1, S, hi, e => by
    rw [rdI] at e
    cases q : rdI tx T i with
    | none => rw [q] at e; cases e
    | some R =>
      rw [q] at e
      have a := rdI_cs h h3 hx i R (by omega) q
      exact tk_cs (rdI_ok h i R (by omega) q) (by omega) a.1 a.2 e
