/-! ===== a check's condition is that of its step ===== -/
def ckOk (T : RT) : Prop := ∀ j, j < T 0 1 → T (65 + j) 0 = 5 → T 4 (T (65 + j) 2) = T (65 + j) 4
def ckN (T : RT) : Prop := ckOk T ∧ nmb T 5 7
theorem ck_mk {T T' : RT} (hs : ckN T) (e0 : ∀ j, j < T 0 1 → T' (65 + j) 0 = T (65 + j) 0) (e2 : ∀ j, j < T 0 1 → T' (65 + j) 2 = T (65 + j) 2) (e4 : ∀ j, j < T 0 1 → T' (65 + j) 4 = T (65 + j) 4) (eg : ∀ g, g < T 0 7 → T' 4 g = T 4 g) (en : T' 0 1 = T 0 1 ∨ (T' 0 1 = T 0 1 + 1 ∧ (T' (65 + T 0 1) 0 = 5 → T' (65 + T 0 1) 2 = T 0 7 ∧ T' 4 (T 0 7) = T' (65 + T 0 1) 4))) : ckOk T' := by
  intro j hj k5
  rcases Nat.lt_or_ge j (T 0 1) with q | q
  · have k := k5
    rw [e0 j q] at k
    rw [e2 j q, e4 j q, eg _ (hs.2.1 j q k)]
    exact hs.1 j q k
  · rcases en with a | ⟨a, b⟩
    · omega
    · obtain rfl : j = T 0 1 := by omega
      obtain ⟨c, d⟩ := b k5
      rw [c]; exact d
theorem ck_nm {T : RT} (hs : ckN T) (hn : T 0 1 < 60) (hu : T 0 3 ≤ 20) {v : Nat} : ckOk (tU (tU T 200 2 v) 200 0 1) := by
  refine ck_mk hs (fun j hj => ?_) (fun j hj => ?_) (fun j hj => ?_) (fun g hg => ?_) ?_
  · have q2 : ¬ j = T 0 1 := by omega
    simp [tU, q2] <;> (repeat' split) <;> (intros; omega)
  · have q2 : ¬ j = T 0 1 := by omega
    simp [tU, q2] <;> (repeat' split) <;> (intros; omega)
  · have q2 : ¬ j = T 0 1 := by omega
    simp [tU, q2] <;> (repeat' split) <;> (intros; omega)
  · have q3 : ¬ g = T 0 7 := by omega
    simp [tU, q3] <;> (repeat' split) <;> (intros; omega)
  · exact Or.inl (by simp [tU] <;> (repeat' split) <;> (intros; omega))
theorem ck_ec {T : RT} (hs : ckN T) (hn : T 0 1 < 60) (hu : T 0 3 ≤ 20) {w : Nat} : ckOk (ecT T w) := by
  refine ck_mk hs (fun j hj => ?_) (fun j hj => ?_) (fun j hj => ?_) (fun g hg => ?_) ?_
  · have q2 : ¬ j = T 0 1 := by omega
    simp [ecT, tU, q2] <;> (repeat' split) <;> (intros; omega)
  · have q2 : ¬ j = T 0 1 := by omega
    simp [ecT, tU, q2] <;> (repeat' split) <;> (intros; omega)
  · have q2 : ¬ j = T 0 1 := by omega
    simp [ecT, tU, q2] <;> (repeat' split) <;> (intros; omega)
  · have q3 : ¬ g = T 0 7 := by omega
    simp [ecT, tU, q3] <;> (repeat' split) <;> (intros; omega)
  · exact Or.inl (by simp [ecT, tU] <;> (repeat' split) <;> (intros; omega))
theorem ck_op {T : RT} (hs : ckN T) (hn : T 0 1 < 60) (hu : T 0 3 ≤ 20)  : ckOk (tU T 200 0 2) := by
  refine ck_mk hs (fun j hj => ?_) (fun j hj => ?_) (fun j hj => ?_) (fun g hg => ?_) ?_
  · have q2 : ¬ j = T 0 1 := by omega
    simp [tU, q2] <;> (repeat' split) <;> (intros; omega)
  · have q2 : ¬ j = T 0 1 := by omega
    simp [tU, q2] <;> (repeat' split) <;> (intros; omega)
  · have q2 : ¬ j = T 0 1 := by omega
    simp [tU, q2] <;> (repeat' split) <;> (intros; omega)
  · have q3 : ¬ g = T 0 7 := by omega
    simp [tU, q3] <;> (repeat' split) <;> (intros; omega)
  · exact Or.inl (by simp [tU] <;> (repeat' split) <;> (intros; omega))
theorem ck_lf {T : RT} (hs : ckN T) (hn : T 0 1 < 60) (hu : T 0 3 ≤ 20) {v : Nat} : ckOk (tU (tU T 200 2 v) 200 0 4) := by
  refine ck_mk hs (fun j hj => ?_) (fun j hj => ?_) (fun j hj => ?_) (fun g hg => ?_) ?_
  · have q2 : ¬ j = T 0 1 := by omega
    simp [tU, q2] <;> (repeat' split) <;> (intros; omega)
  · have q2 : ¬ j = T 0 1 := by omega
    simp [tU, q2] <;> (repeat' split) <;> (intros; omega)
  · have q2 : ¬ j = T 0 1 := by omega
    simp [tU, q2] <;> (repeat' split) <;> (intros; omega)
  · have q3 : ¬ g = T 0 7 := by omega
    simp [tU, q3] <;> (repeat' split) <;> (intros; omega)
  · exact Or.inl (by simp [tU] <;> (repeat' split) <;> (intros; omega))
theorem ck_sg {T : RT} (hs : ckN T) (hn : T 0 1 < 60) (hu : T 0 3 ≤ 20) {w : Nat} : ckOk (tU (tU T 200 3 w) 200 0 5) := by
  refine ck_mk hs (fun j hj => ?_) (fun j hj => ?_) (fun j hj => ?_) (fun g hg => ?_) ?_
  · have q2 : ¬ j = T 0 1 := by omega
    simp [tU, q2] <;> (repeat' split) <;> (intros; omega)
  · have q2 : ¬ j = T 0 1 := by omega
    simp [tU, q2] <;> (repeat' split) <;> (intros; omega)
  · have q2 : ¬ j = T 0 1 := by omega
    simp [tU, q2] <;> (repeat' split) <;> (intros; omega)
  · have q3 : ¬ g = T 0 7 := by omega
    simp [tU, q3] <;> (repeat' split) <;> (intros; omega)
  · exact Or.inl (by simp [tU] <;> (repeat' split) <;> (intros; omega))
theorem ck_ch {T : RT} (hs : ckN T) (hn : T 0 1 < 60) (hu : T 0 3 ≤ 20) {k : Nat} (h0 : 1 ≤ k) (hk : k ≤ 3) : ckOk (chT T k) := by
  refine ck_mk hs (fun j hj => ?_) (fun j hj => ?_) (fun j hj => ?_) (fun g hg => ?_) ?_
  · have q2 : ¬ j = T 0 1 := by omega
    simp [chT, apT, tU, q2] <;> (repeat' split) <;> (intros; omega)
  · have q2 : ¬ j = T 0 1 := by omega
    simp [chT, apT, tU, q2] <;> (repeat' split) <;> (intros; omega)
  · have q2 : ¬ j = T 0 1 := by omega
    simp [chT, apT, tU, q2] <;> (repeat' split) <;> (intros; omega)
  · have q3 : ¬ g = T 0 7 := by omega
    simp [chT, apT, tU, q3] <;> (repeat' split) <;> (intros; omega)
  · refine Or.inr ⟨by simp [chT, apT, tU] <;> (repeat' split) <;> (intros; omega), fun q => ?_⟩
    exfalso
    revert q
    simp [chT, apT, tU] <;> (repeat' split) <;> (intros; omega)
theorem ck_nv {T : RT} (hs : ckN T) (hn : T 0 1 < 60) (hu : T 0 3 ≤ 20) {t : Nat} (hu2 : T 0 3 < 20) : ckOk (nvT T t) := by
  refine ck_mk hs (fun j hj => ?_) (fun j hj => ?_) (fun j hj => ?_) (fun g hg => ?_) ?_
  · have q2 : ¬ j = T 0 1 := by omega
    simp [nvT, ncT, apT, tU, q2] <;> (repeat' split) <;> (intros; omega)
  · have q2 : ¬ j = T 0 1 := by omega
    simp [nvT, ncT, apT, tU, q2] <;> (repeat' split) <;> (intros; omega)
  · have q2 : ¬ j = T 0 1 := by omega
    simp [nvT, ncT, apT, tU, q2] <;> (repeat' split) <;> (intros; omega)
  · have q3 : ¬ g = T 0 7 := by omega
    simp [nvT, ncT, apT, tU, q3] <;> (repeat' split) <;> (intros; omega)
  · refine Or.inr ⟨by simp [nvT, ncT, apT, tU] <;> (repeat' split) <;> (intros; omega), fun q => ?_⟩
    exfalso
    revert q
    simp [nvT, ncT, apT, tU] <;> (repeat' split) <;> (intros; omega)
theorem ck_oc {T : RT} (hs : ckN T) (hn : T 0 1 < 60) (hu : T 0 3 ≤ 20)  : ckOk (ocT T) := by
  refine ck_mk hs (fun j hj => ?_) (fun j hj => ?_) (fun j hj => ?_) (fun g hg => ?_) ?_
  · have q2 : ¬ j = T 0 1 := by omega
    simp [ocT, apT, phT, tU, q2] <;> (repeat' split) <;> (intros; omega)
  · have q2 : ¬ j = T 0 1 := by omega
    simp [ocT, apT, phT, tU, q2] <;> (repeat' split) <;> (intros; omega)
  · have q2 : ¬ j = T 0 1 := by omega
    simp [ocT, apT, phT, tU, q2] <;> (repeat' split) <;> (intros; omega)
  · have q3 : ¬ g = T 0 7 := by omega
    simp [ocT, apT, phT, tU, q3] <;> (repeat' split) <;> (intros; omega)
  · refine Or.inr ⟨by simp [ocT, apT, phT, tU] <;> (repeat' split) <;> (intros; omega), fun q => ?_⟩
    exfalso
    revert q
    simp [ocT, apT, phT, tU] <;> (repeat' split) <;> (intros; omega)
theorem ck_cl {T : RT} (hs : ckN T) (hn : T 0 1 < 60) (hu : T 0 3 ≤ 20) {pl : Nat} (hp : pl < T 0 1) (hk : T (65 + pl) 0 = 6) : ckOk (clT T pl) := by
  refine ck_mk hs (fun j hj => ?_) (fun j hj => ?_) (fun j hj => ?_) (fun g hg => ?_) ?_
  · have q2 : ¬ j = T 0 1 := by omega
    simp [clT, apT, tU, q2] <;> (repeat' split) <;> (intros; omega)
  · have q2 : ¬ j = T 0 1 := by omega
    simp [clT, apT, tU, q2] <;> (repeat' split) <;> (intros; omega)
  · have q2 : ¬ j = T 0 1 := by omega
    simp [clT, apT, tU, q2] <;> (repeat' split) <;> (intros; omega)
  · have q3 : ¬ g = T 0 7 := by omega
    simp [clT, apT, tU, q3] <;> (repeat' split) <;> (intros; omega)
  · refine Or.inr ⟨by simp [clT, apT, tU] <;> (repeat' split) <;> (intros; omega), fun q => ?_⟩
    exfalso
    revert q
    simp [clT, apT, tU] <;> (repeat' split) <;> (intros; omega)
theorem ck_pb9 {T : RT} (hs : ckN T) (hn : T 0 1 < 60) (hu : T 0 3 ≤ 20) {pl : Nat} (hp : pl < 60) : ckOk (pbT T pl 9) := by
  refine ck_mk hs (fun j hj => ?_) (fun j hj => ?_) (fun j hj => ?_) (fun g hg => ?_) ?_
  · have q2 : ¬ j = T 0 1 := by omega
    simp [pbT, apT, phT, tU, q2] <;> (repeat' split) <;> (intros; omega)
  · have q2 : ¬ j = T 0 1 := by omega
    simp [pbT, apT, phT, tU, q2] <;> (repeat' split) <;> (intros; omega)
  · have q2 : ¬ j = T 0 1 := by omega
    simp [pbT, apT, phT, tU, q2] <;> (repeat' split) <;> (intros; omega)
  · have q3 : ¬ g = T 0 7 := by omega
    simp [pbT, apT, phT, tU, q3] <;> (repeat' split) <;> (intros; omega)
  · refine Or.inr ⟨by simp [pbT, apT, phT, tU] <;> (repeat' split) <;> (intros; omega), fun q => ?_⟩
    exfalso
    revert q
    simp [pbT, apT, phT, tU] <;> (repeat' split) <;> (intros; omega)
theorem ck_pb10 {T : RT} (hs : ckN T) (hn : T 0 1 < 60) (hu : T 0 3 ≤ 20) {pl : Nat} (hp : pl < 60) : ckOk (pbT T pl 10) := by
  refine ck_mk hs (fun j hj => ?_) (fun j hj => ?_) (fun j hj => ?_) (fun g hg => ?_) ?_
  · have q2 : ¬ j = T 0 1 := by omega
    simp [pbT, apT, phT, tU, q2] <;> (repeat' split) <;> (intros; omega)
  · have q2 : ¬ j = T 0 1 := by omega
    simp [pbT, apT, phT, tU, q2] <;> (repeat' split) <;> (intros; omega)
  · have q2 : ¬ j = T 0 1 := by omega
    simp [pbT, apT, phT, tU, q2] <;> (repeat' split) <;> (intros; omega)
  · have q3 : ¬ g = T 0 7 := by omega
    simp [pbT, apT, phT, tU, q3] <;> (repeat' split) <;> (intros; omega)
  · refine Or.inr ⟨by simp [pbT, apT, phT, tU] <;> (repeat' split) <;> (intros; omega), fun q => ?_⟩
    exfalso
    revert q
    simp [pbT, apT, phT, tU] <;> (repeat' split) <;> (intros; omega)
theorem ck_tr4 {T : RT} (hs : ckN T) (hn : T 0 1 < 60) (hu : T 0 3 ≤ 20) {t : Nat} (hu2 : T 0 3 < 20) (hw : T 200 1 = 4) : ckOk (trT T t) := by
  refine ck_mk hs (fun j hj => ?_) (fun j hj => ?_) (fun j hj => ?_) (fun g hg => ?_) ?_
  · have q2 : ¬ j = T 0 1 := by omega
    simp [trT, ncT, apT, tU, hw, q2] <;> (repeat' split) <;> (intros; omega)
  · have q2 : ¬ j = T 0 1 := by omega
    simp [trT, ncT, apT, tU, hw, q2] <;> (repeat' split) <;> (intros; omega)
  · have q2 : ¬ j = T 0 1 := by omega
    simp [trT, ncT, apT, tU, hw, q2] <;> (repeat' split) <;> (intros; omega)
  · have q3 : ¬ g = T 0 7 := by omega
    simp [trT, ncT, apT, tU, hw, q3] <;> (repeat' split) <;> (intros; omega)
  · refine Or.inr ⟨by simp [trT, ncT, apT, tU, hw] <;> (repeat' split) <;> (intros; omega), fun q => ?_⟩
    exfalso
    revert q
    simp [trT, ncT, apT, tU, hw] <;> (repeat' split) <;> (intros; omega)
theorem ck_tr5 {T : RT} (hs : ckN T) (hn : T 0 1 < 60) (hu : T 0 3 ≤ 20) {t : Nat} (hu2 : T 0 3 < 20) (hw : T 200 1 = 5) : ckOk (trT T t) := by
  refine ck_mk hs (fun j hj => ?_) (fun j hj => ?_) (fun j hj => ?_) (fun g hg => ?_) ?_
  · have q2 : ¬ j = T 0 1 := by omega
    simp [trT, ncT, acT, apT, tU, hw, q2] <;> (repeat' split) <;> (intros; omega)
  · have q2 : ¬ j = T 0 1 := by omega
    simp [trT, ncT, acT, apT, tU, hw, q2] <;> (repeat' split) <;> (intros; omega)
  · have q2 : ¬ j = T 0 1 := by omega
    simp [trT, ncT, acT, apT, tU, hw, q2] <;> (repeat' split) <;> (intros; omega)
  · have q3 : ¬ g = T 0 7 := by omega
    simp [trT, ncT, acT, apT, tU, hw, q3] <;> (repeat' split) <;> (intros; omega)
  · refine Or.inr ⟨by simp [trT, ncT, acT, apT, tU, hw] <;> (repeat' split) <;> (intros; omega), fun q => ⟨?_, ?_⟩⟩ <;> (simp [trT, ncT, acT, apT, tU, hw] <;> (repeat' split) <;> (intros; omega))
theorem ck_tr6 {T : RT} (hs : ckN T) (hn : T 0 1 < 60) (hu : T 0 3 ≤ 20) {t : Nat} (hu2 : T 0 3 < 20) (hw : T 200 1 = 6) : ckOk (trT T t) := by
  refine ck_mk hs (fun j hj => ?_) (fun j hj => ?_) (fun j hj => ?_) (fun g hg => ?_) ?_
  · have q2 : ¬ j = T 0 1 := by omega
    simp [trT, ncT, olT, apT, phT, tU, hw, q2] <;> (repeat' split) <;> (intros; omega)
  · have q2 : ¬ j = T 0 1 := by omega
    simp [trT, ncT, olT, apT, phT, tU, hw, q2] <;> (repeat' split) <;> (intros; omega)
  · have q2 : ¬ j = T 0 1 := by omega
    simp [trT, ncT, olT, apT, phT, tU, hw, q2] <;> (repeat' split) <;> (intros; omega)
  · have q3 : ¬ g = T 0 7 := by omega
    simp [trT, ncT, olT, apT, phT, tU, hw, q3] <;> (repeat' split) <;> (intros; omega)
  · refine Or.inr ⟨by simp [trT, ncT, olT, apT, phT, tU, hw] <;> (repeat' split) <;> (intros; omega), fun q => ?_⟩
    exfalso
    revert q
    simp [trT, ncT, olT, apT, phT, tU, hw] <;> (repeat' split) <;> (intros; omega)
theorem ck_tr7 {T : RT} (hs : ckN T) (hn : T 0 1 < 60) (hu : T 0 3 ≤ 20) {t : Nat} (hu2 : T 0 3 < 20) (hw : T 200 1 = 4294967295) : ckOk (trT T t) := by
  refine ck_mk hs (fun j hj => ?_) (fun j hj => ?_) (fun j hj => ?_) (fun g hg => ?_) ?_
  · have q2 : ¬ j = T 0 1 := by omega
    simp [trT, ncT, agT, tU, hw, q2] <;> (repeat' split) <;> (intros; omega)
  · have q2 : ¬ j = T 0 1 := by omega
    simp [trT, ncT, agT, tU, hw, q2] <;> (repeat' split) <;> (intros; omega)
  · have q2 : ¬ j = T 0 1 := by omega
    simp [trT, ncT, agT, tU, hw, q2] <;> (repeat' split) <;> (intros; omega)
  · have q3 : ¬ g = T 0 7 := by omega
    simp [trT, ncT, agT, tU, hw, q3] <;> (repeat' split) <;> (intros; omega)
  · exact Or.inl (by simp [trT, ncT, agT, tU, hw] <;> (repeat' split) <;> (intros; omega))
theorem st_ck {T T' : RT} {i ch : Nat} (h : rdOk T i) (hi : i < 60) (hs : ckN T) (hx : T 200 0 = 0) (e : stT T ch = some T') : ckOk T' := by
  have hn : T 0 1 < 60 := Nat.lt_of_le_of_lt h.1 hi
  have hu : T 0 3 ≤ 20 := by have := h.2.1; omega
  have hu2 : T 0 3 < 20 := by have := h.2.1; omega
  have hv : T 200 2 < 3 := h.2.2.2.1
  have hp := plT_lt h hi
  have hpl : 1 ≤ T 200 5 → plT T < T 0 1 := fun q => by rw [show plT T = T 201 (T 200 5 - 1) from if_pos q]; exact h.2.2.2.2.2.2.2.2.2.1 _ (by omega)
  unfold stT at e
  split at e
  · rename_i q
    cases e
    have q2 : 97 ≤ ch ∧ ch ≤ 99 := of_decide_eq_true q
    exact ck_nm hs hn hu
  split at e
  · cases e; exact ck_ec hs hn hu
  split at e
  · split at e
    · rename_i q; cases e; exact ck_ec hs hn hu
    · cases e
  split at e
  · split at e
    · rename_i q; cases e; exact ck_ec hs hn hu
    · cases e
  split at e
  · split at e
    · rename_i q; cases e; exact ck_cl hs hn hu (hpl q.1) q.2
    · cases e
  split at e
  · split at e
    · rename_i q; cases e; exact ck_oc hs hn hu
    · cases e
  split at e
  · split at e
    · rename_i q; cases e; exact ck_pb9 hs hn hu hp
    · cases e
  split at e
  · split at e
    · cases e; exact ck_pb10 hs hn hu hp
    · cases e
  split at e
  · split at e
    · rename_i q; cases e; exact ck_ec hs hn hu
    · cases e
  cases e
theorem op_ck {T T' : RT} {i ch : Nat} (h : rdOk T i) (hi : i < 60) (hs : ckN T) (hx : T 200 0 = 1) (e : opT T ch = some T') : ckOk T' := by
  have hn : T 0 1 < 60 := Nat.lt_of_le_of_lt h.1 hi
  have hu : T 0 3 ≤ 20 := by have := h.2.1; omega
  have hu2 : T 0 3 < 20 := by have := h.2.1; omega
  have hv : T 200 2 < 3 := h.2.2.2.1
  unfold opT at e
  split at e
  · cases e; exact ck_op hs hn hu
  split at e
  · cases e; exact ck_ch hs hn hu (by decide) (by decide)
  split at e
  · cases e; exact ck_ch hs hn hu (by decide) (by decide)
  split at e
  · cases e; exact ck_ch hs hn hu (by decide) (by decide)
  cases e
theorem tk_ck {T T' : RT} {i ch : Nat} (h : rdOk T i) (hi : i < 60) (hs : ckN T) (e : tkT T ch = some T') : ckOk T' := by
  have hn : T 0 1 < 60 := Nat.lt_of_le_of_lt h.1 hi
  have hu : T 0 3 ≤ 20 := by have := h.2.1; omega
  have hu2 : T 0 3 < 20 := by have := h.2.1; omega
  have hv : T 200 2 < 3 := h.2.2.2.1
  unfold tkT at e
  split at e
  · rename_i q; exact st_ck h hi hs q e
  split at e
  · rename_i q; exact op_ck h hi hs q e
  split at e
  · rename_i q
    split at e
    · rename_i ht; cases e; exact ck_nv hs hn hu hu2
    · cases e
  split at e
  · rename_i q
    split at e
    · rename_i r
      cases e
      have r2 : 97 ≤ ch ∧ ch ≤ 99 := of_decide_eq_true r
      exact ck_lf hs hn hu
    · cases e
  split at e
  · rename_i q
    split at e
    · rename_i ht; cases e; exact ck_sg hs hn hu
    · cases e
  split at e
  · rename_i q
    split at e
    · rename_i ht
      cases e
      rcases h.2.2.2.2.2.2.2.2.2.2.2 (by omega) (by omega) with w | w | w | w
      · exact ck_tr4 hs hn hu hu2 w
      · exact ck_tr5 hs hn hu hu2 w.1
      · exact ck_tr6 hs hn hu hu2 w.1
      · exact ck_tr7 hs hn hu hu2 w.1
    · cases e
  rename_i q0 q1 q2 q3 q4 q5
  have q6 : T 200 0 = 6 := by have := h.2.2.1; omega
  split at e
  · rename_i r; cases e; exact ck_ec hs hn hu
  · cases e
theorem rdI_ck {tx : Nat → Nat} {T : RT} (h : tbOk T) : ∀ (i : Nat) (S : RT), i ≤ 60 → rdI tx (t0T T) i = some S → ckOk S
  | 0, S, _, e => by
    cases e
    have e1 : t0T T 0 1 = 0 := by simp [t0T, tU]
    exact fun j hj => absurd hj (by omega)
  | i + 1, S, hi, e => by
    rw [rdI] at e
    cases q : rdI tx (t0T T) i with
    | none => rw [q] at e; cases e
    | some R =>
      rw [q] at e
      exact tk_ck (rdI_okT h (by omega) q) (by omega) ⟨rdI_ck h i R (by omega) q, (rdI_nm h i R (by omega) q).2.1⟩ e
