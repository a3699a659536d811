/-! ===== a letter taken keeps the conditions well-formed ===== -/
def sgnOk (T : RT) : Prop := T 200 3 = 60 ∨ T 200 3 = 61 ∨ T 200 3 = 62 ∨ T 200 3 = 35
theorem st_cs {T T' : RT} {i ch : Nat} (h : rdOk T i) (hi : i < 60) (hs : cnsOk T) (hg : T 200 0 = 5 → sgnOk T) (hx : T 200 0 = 0) (e : stT T ch = some T') : cnsOk T' ∧ (T' 200 0 = 5 → sgnOk T') := by
  have hn : T 0 1 < 60 := Nat.lt_of_le_of_lt h.1 hi
  have hu : T 0 3 ≤ 20 := by have := h.2.1; omega
  have hu2 : T 0 3 < 20 := by have := h.2.1; omega
  have hv : T 200 2 < 3 := h.2.2.2.1
  have hp := plT_lt h hi
  unfold stT at e
  split at e
  · rename_i q
    cases e
    have q2 : 97 ≤ ch ∧ ch ≤ 99 := of_decide_eq_true q
    exact ⟨cs_nm hs hn hu, fun wz => absurd wz (by simp [tU] <;> (repeat' split) <;> (intros; omega))⟩
  split at e
  · cases e; exact ⟨cs_ec hs hn hu, fun wz => absurd wz (by simp [ecT, tU] <;> (repeat' split) <;> (intros; omega))⟩
  split at e
  · split at e
    · rename_i q; cases e; exact ⟨cs_ec hs hn hu, fun wz => absurd wz (by simp [ecT, tU] <;> (repeat' split) <;> (intros; omega))⟩
    · cases e
  split at e
  · split at e
    · rename_i q; cases e; exact ⟨cs_ec hs hn hu, fun wz => absurd wz (by simp [ecT, tU] <;> (repeat' split) <;> (intros; omega))⟩
    · cases e
  split at e
  · split at e
    · cases e; exact ⟨cs_cl hs hn hu hp, fun wz => absurd wz (by simp [clT, apT, hx, tU] <;> (repeat' split) <;> (intros; omega))⟩
    · cases e
  split at e
  · split at e
    · rename_i q; cases e; exact ⟨cs_oc hs hn hu, fun wz => absurd wz (by simp [ocT, apT, phT, hx, tU] <;> (repeat' split) <;> (intros; omega))⟩
    · cases e
  split at e
  · split at e
    · rename_i q; cases e; exact ⟨cs_pb9 hs hn hu hp, fun wz => absurd wz (by simp [pbT, apT, phT, hx, tU] <;> (repeat' split) <;> (intros; omega))⟩
    · cases e
  split at e
  · split at e
    · cases e; exact ⟨cs_pb10 hs hn hu hp, fun wz => absurd wz (by simp [pbT, apT, phT, hx, tU] <;> (repeat' split) <;> (intros; omega))⟩
    · cases e
  split at e
  · split at e
    · rename_i q; cases e; exact ⟨cs_ec hs hn hu, fun wz => absurd wz (by simp [ecT, tU] <;> (repeat' split) <;> (intros; omega))⟩
    · cases e
  cases e
theorem op_cs {T T' : RT} {i ch : Nat} (h : rdOk T i) (hi : i < 60) (hs : cnsOk T) (hg : T 200 0 = 5 → sgnOk T) (hx : T 200 0 = 1) (e : opT T ch = some T') : cnsOk T' ∧ (T' 200 0 = 5 → sgnOk T') := by
  have hn : T 0 1 < 60 := Nat.lt_of_le_of_lt h.1 hi
  have hu : T 0 3 ≤ 20 := by have := h.2.1; omega
  have hu2 : T 0 3 < 20 := by have := h.2.1; omega
  have hv : T 200 2 < 3 := h.2.2.2.1
  unfold opT at e
  split at e
  · cases e; exact ⟨cs_op hs hn hu, fun wz => absurd wz (by simp [tU] <;> (repeat' split) <;> (intros; omega))⟩
  split at e
  · cases e; exact ⟨cs_ch hs hn hu, fun wz => absurd wz (by simp [chT, apT, tU] <;> (repeat' split) <;> (intros; omega))⟩
  split at e
  · cases e; exact ⟨cs_ch hs hn hu, fun wz => absurd wz (by simp [chT, apT, tU] <;> (repeat' split) <;> (intros; omega))⟩
  split at e
  · cases e; exact ⟨cs_ch hs hn hu, fun wz => absurd wz (by simp [chT, apT, tU] <;> (repeat' split) <;> (intros; omega))⟩
  cases e
theorem tk_cs {T T' : RT} {i ch : Nat} (h : rdOk T i) (hi : i < 60) (hs : cnsOk T) (hg : T 200 0 = 5 → sgnOk T) (e : tkT T ch = some T') : cnsOk T' ∧ (T' 200 0 = 5 → sgnOk T') := by
  have hn : T 0 1 < 60 := Nat.lt_of_le_of_lt h.1 hi
  have hu : T 0 3 ≤ 20 := by have := h.2.1; omega
  have hu2 : T 0 3 < 20 := by have := h.2.1; omega
  have hv : T 200 2 < 3 := h.2.2.2.1
  unfold tkT at e
  split at e
  · rename_i q; exact st_cs h hi hs hg q e
  split at e
  · rename_i q; exact op_cs h hi hs hg q e
  split at e
  · rename_i q
    split at e
    · rename_i ht; cases e; exact ⟨cs_nv hs hn hu hu2 hv ht, fun wz => absurd wz (by simp [nvT, ncT, apT, tU] <;> (repeat' split) <;> (intros; omega))⟩
    · cases e
  split at e
  · rename_i q
    split at e
    · rename_i r
      cases e
      have r2 : 97 ≤ ch ∧ ch ≤ 99 := of_decide_eq_true r
      exact ⟨cs_lf hs hn hu, fun wz => absurd wz (by simp [tU] <;> (repeat' split) <;> (intros; omega))⟩
    · cases e
  split at e
  · rename_i q
    split at e
    · rename_i ht; cases e; exact ⟨cs_sg hs hn hu, fun _ => by have h2 : ch = 60 ∨ ch = 61 ∨ ch = 62 ∨ ch = 35 := of_decide_eq_true ht; simpa [sgnOk, tU] using h2⟩
    · cases e
  split at e
  · rename_i q
    split at e
    · rename_i ht
      cases e
      rcases h.2.2.2.2.2.2.2.2.2.2.2 (by omega) (by omega) with w | w | w | w
      · exact ⟨cs_tr4 hs hn hu hu2 hv (hg q) ht w, fun wz => absurd wz (by simp [trT, ncT, apT, tU, w] <;> (repeat' split) <;> (intros; omega))⟩
      · exact ⟨cs_tr5 hs hn hu hu2 hv (hg q) ht w.1, fun wz => absurd wz (by simp [trT, ncT, acT, apT, tU, w.1] <;> (repeat' split) <;> (intros; omega))⟩
      · exact ⟨cs_tr6 hs hn hu hu2 hv (hg q) ht w.1, fun wz => absurd wz (by simp [trT, ncT, olT, apT, phT, tU, w.1] <;> (repeat' split) <;> (intros; omega))⟩
      · exact ⟨cs_tr7 hs hn hu hu2 hv (hg q) ht w.1, fun wz => absurd wz (by simp [trT, ncT, agT, tU, w.1] <;> (repeat' split) <;> (intros; omega))⟩
    · cases e
  rename_i q0 q1 q2 q3 q4 q5
  have q6 : T 200 0 = 6 := by have := h.2.2.1; omega
  split at e
  · rename_i r; cases e; exact ⟨cs_ec hs hn hu, fun wz => absurd wz (by simp [ecT, tU] <;> (repeat' split) <;> (intros; omega))⟩
  · cases e
