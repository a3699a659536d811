/-! ===== the places of a program stay in range, letter by letter ===== -/
theorem sp_nm {T : RT} (hs : stpOk T) (hn : T 0 1 < 60) (hu : T 0 3 < 20) {v : Nat} : stpOk (tU (tU T 200 2 v) 200 0 1) := by
  have en : (tU (tU T 200 2 v) 200 0 1) 0 1 = T 0 1 := by simp [tU] <;> (repeat' split) <;> (intros; omega)
  intro j hj
  rw [en] at hj
  have a := hs j hj
  refine ⟨?_, ?_, ?_, ?_⟩ <;> simp [tU] <;> (repeat' split) <;> (intros; omega)
theorem sp_ec {T : RT} (hs : stpOk T) (hn : T 0 1 < 60) (hu : T 0 3 < 20) {w : Nat} : stpOk (ecT T w) := by
  have en : (ecT T w) 0 1 = T 0 1 := by simp [ecT, tU] <;> (repeat' split) <;> (intros; omega)
  intro j hj
  rw [en] at hj
  have a := hs j hj
  refine ⟨?_, ?_, ?_, ?_⟩ <;> simp [ecT, tU] <;> (repeat' split) <;> (intros; omega)
theorem sp_op {T : RT} (hs : stpOk T) (hn : T 0 1 < 60) (hu : T 0 3 < 20)  : stpOk (tU T 200 0 2) := by
  have en : (tU T 200 0 2) 0 1 = T 0 1 := by simp [tU] <;> (repeat' split) <;> (intros; omega)
  intro j hj
  rw [en] at hj
  have a := hs j hj
  refine ⟨?_, ?_, ?_, ?_⟩ <;> simp [tU] <;> (repeat' split) <;> (intros; omega)
theorem sp_lf {T : RT} (hs : stpOk T) (hn : T 0 1 < 60) (hu : T 0 3 < 20) {v : Nat} : stpOk (tU (tU T 200 2 v) 200 0 4) := by
  have en : (tU (tU T 200 2 v) 200 0 4) 0 1 = T 0 1 := by simp [tU] <;> (repeat' split) <;> (intros; omega)
  intro j hj
  rw [en] at hj
  have a := hs j hj
  refine ⟨?_, ?_, ?_, ?_⟩ <;> simp [tU] <;> (repeat' split) <;> (intros; omega)
theorem sp_sg {T : RT} (hs : stpOk T) (hn : T 0 1 < 60) (hu : T 0 3 < 20) {w : Nat} : stpOk (tU (tU T 200 3 w) 200 0 5) := by
  have en : (tU (tU T 200 3 w) 200 0 5) 0 1 = T 0 1 := by simp [tU] <;> (repeat' split) <;> (intros; omega)
  intro j hj
  rw [en] at hj
  have a := hs j hj
  refine ⟨?_, ?_, ?_, ?_⟩ <;> simp [tU] <;> (repeat' split) <;> (intros; omega)
theorem sp_ch {T : RT} (hs : stpOk T) (hn : T 0 1 < 60) (hu : T 0 3 < 20) {k : Nat} (hk : k ≤ 3) (hv : T 200 2 < 3) : stpOk (chT T k) := by
  have en : (chT T k) 0 1 = T 0 1 + 1 := by simp [chT, apT, tU] <;> (repeat' split) <;> (intros; omega)
  intro j hj
  rw [en] at hj
  rcases Nat.lt_or_ge j (T 0 1) with q | q
  · have a := hs j q
    have q2 : ¬ j = T 0 1 := by omega
    refine ⟨?_, ?_, ?_, ?_⟩ <;> simp [chT, apT, tU] <;> (repeat' split) <;> (intros; omega)
  · obtain rfl : j = T 0 1 := by omega
    refine ⟨?_, ?_, ?_, ?_⟩ <;> simp [chT, apT, tU] <;> (repeat' split) <;> (intros; omega)
theorem sp_nv {T : RT} (hs : stpOk T) (hn : T 0 1 < 60) (hu : T 0 3 < 20) {t : Nat} (hv : T 200 2 < 3) : stpOk (nvT T t) := by
  have en : (nvT T t) 0 1 = T 0 1 + 1 := by simp [nvT, ncT, apT, tU] <;> (repeat' split) <;> (intros; omega)
  intro j hj
  rw [en] at hj
  rcases Nat.lt_or_ge j (T 0 1) with q | q
  · have a := hs j q
    have q2 : ¬ j = T 0 1 := by omega
    refine ⟨?_, ?_, ?_, ?_⟩ <;> simp [nvT, ncT, apT, tU] <;> (repeat' split) <;> (intros; omega)
  · obtain rfl : j = T 0 1 := by omega
    refine ⟨?_, ?_, ?_, ?_⟩ <;> simp [nvT, ncT, apT, tU] <;> (repeat' split) <;> (intros; omega)
theorem sp_oc {T : RT} (hs : stpOk T) (hn : T 0 1 < 60) (hu : T 0 3 < 20) (h3 : T 0 9 < 3) : stpOk (ocT T) := by
  have en : (ocT T) 0 1 = T 0 1 + 1 := by simp [ocT, apT, phT, tU] <;> (repeat' split) <;> (intros; omega)
  intro j hj
  rw [en] at hj
  rcases Nat.lt_or_ge j (T 0 1) with q | q
  · have a := hs j q
    have q2 : ¬ j = T 0 1 := by omega
    refine ⟨?_, ?_, ?_, ?_⟩ <;> simp [ocT, apT, phT, tU] <;> (repeat' split) <;> (intros; omega)
  · obtain rfl : j = T 0 1 := by omega
    refine ⟨?_, ?_, ?_, ?_⟩ <;> simp [ocT, apT, phT, tU] <;> (repeat' split) <;> (intros; omega)
theorem sp_cl {T : RT} (hs : stpOk T) (hn : T 0 1 < 60) (hu : T 0 3 < 20) {pl : Nat} (hp : pl < T 0 1) (hk : T (65 + pl) 0 = 6) : stpOk (clT T pl) := by
  have b := hs pl hp
  have en : (clT T pl) 0 1 = T 0 1 + 1 := by simp [clT, apT, tU] <;> (repeat' split) <;> (intros; omega)
  intro j hj
  rw [en] at hj
  rcases Nat.lt_or_ge j (T 0 1) with q | q
  · have a := hs j q
    have q2 : ¬ j = T 0 1 := by omega
    refine ⟨?_, ?_, ?_, ?_⟩ <;> simp [clT, apT, tU] <;> (repeat' split) <;> (intros; omega)
  · obtain rfl : j = T 0 1 := by omega
    refine ⟨?_, ?_, ?_, ?_⟩ <;> simp [clT, apT, tU] <;> (repeat' split) <;> (intros; omega)
theorem sp_pb9 {T : RT} (hs : stpOk T) (hn : T 0 1 < 60) (hu : T 0 3 < 20) {pl : Nat} (hp : pl < T 0 1) (hk : T (65 + pl) 0 = 8) : stpOk (pbT T pl 9) := by
  have b := hs pl hp
  have en : (pbT T pl 9) 0 1 = T 0 1 + 1 := by simp [pbT, apT, phT, tU] <;> (repeat' split) <;> (intros; omega)
  intro j hj
  rw [en] at hj
  rcases Nat.lt_or_ge j (T 0 1) with q | q
  · have a := hs j q
    have q2 : ¬ j = T 0 1 := by omega
    refine ⟨?_, ?_, ?_, ?_⟩ <;> simp [pbT, apT, phT, tU] <;> (repeat' split) <;> (intros; omega)
  · obtain rfl : j = T 0 1 := by omega
    refine ⟨?_, ?_, ?_, ?_⟩ <;> simp [pbT, apT, phT, tU] <;> (repeat' split) <;> (intros; omega)
theorem sp_pb10 {T : RT} (hs : stpOk T) (hn : T 0 1 < 60) (hu : T 0 3 < 20) {pl : Nat} (hp : pl < T 0 1) (hk : T (65 + pl) 0 = 9) : stpOk (pbT T pl 10) := by
  have b := hs pl hp
  have en : (pbT T pl 10) 0 1 = T 0 1 + 1 := by simp [pbT, apT, phT, tU] <;> (repeat' split) <;> (intros; omega)
  intro j hj
  rw [en] at hj
  rcases Nat.lt_or_ge j (T 0 1) with q | q
  · have a := hs j q
    have q2 : ¬ j = T 0 1 := by omega
    refine ⟨?_, ?_, ?_, ?_⟩ <;> simp [pbT, apT, phT, tU] <;> (repeat' split) <;> (intros; omega)
  · obtain rfl : j = T 0 1 := by omega
    refine ⟨?_, ?_, ?_, ?_⟩ <;> simp [pbT, apT, phT, tU] <;> (repeat' split) <;> (intros; omega)
theorem sp_tr4 {T : RT} (hs : stpOk T) (hn : T 0 1 < 60) (hu : T 0 3 < 20) {t : Nat} (hw : T 200 1 = 4) : stpOk (trT T t) := by
  have en : (trT T t) 0 1 = T 0 1 + 1 := by simp [trT, ncT, apT, tU, hw] <;> (repeat' split) <;> (intros; omega)
  intro j hj
  rw [en] at hj
  rcases Nat.lt_or_ge j (T 0 1) with q | q
  · have a := hs j q
    have q2 : ¬ j = T 0 1 := by omega
    refine ⟨?_, ?_, ?_, ?_⟩ <;> simp [trT, ncT, apT, tU, hw] <;> (repeat' split) <;> (intros; omega)
  · obtain rfl : j = T 0 1 := by omega
    refine ⟨?_, ?_, ?_, ?_⟩ <;> simp [trT, ncT, apT, tU, hw] <;> (repeat' split) <;> (intros; omega)
theorem sp_tr5 {T : RT} (hs : stpOk T) (hn : T 0 1 < 60) (hu : T 0 3 < 20) {t : Nat} (hw : T 200 1 = 5) (h4 : T 0 7 < 4) : stpOk (trT T t) := by
  have en : (trT T t) 0 1 = T 0 1 + 1 := by simp [trT, ncT, acT, apT, tU, hw] <;> (repeat' split) <;> (intros; omega)
  intro j hj
  rw [en] at hj
  rcases Nat.lt_or_ge j (T 0 1) with q | q
  · have a := hs j q
    have q2 : ¬ j = T 0 1 := by omega
    refine ⟨?_, ?_, ?_, ?_⟩ <;> simp [trT, ncT, acT, apT, tU, hw] <;> (repeat' split) <;> (intros; omega)
  · obtain rfl : j = T 0 1 := by omega
    refine ⟨?_, ?_, ?_, ?_⟩ <;> simp [trT, ncT, acT, apT, tU, hw] <;> (repeat' split) <;> (intros; omega)
theorem sp_tr6 {T : RT} (hs : stpOk T) (hn : T 0 1 < 60) (hu : T 0 3 < 20) {t : Nat} (hw : T 200 1 = 6) (h4 : T 0 8 < 3) : stpOk (trT T t) := by
  have en : (trT T t) 0 1 = T 0 1 + 1 := by simp [trT, ncT, olT, apT, phT, tU, hw] <;> (repeat' split) <;> (intros; omega)
  intro j hj
  rw [en] at hj
  rcases Nat.lt_or_ge j (T 0 1) with q | q
  · have a := hs j q
    have q2 : ¬ j = T 0 1 := by omega
    refine ⟨?_, ?_, ?_, ?_⟩ <;> simp [trT, ncT, olT, apT, phT, tU, hw] <;> (repeat' split) <;> (intros; omega)
  · obtain rfl : j = T 0 1 := by omega
    refine ⟨?_, ?_, ?_, ?_⟩ <;> simp [trT, ncT, olT, apT, phT, tU, hw] <;> (repeat' split) <;> (intros; omega)
theorem sp_tr7 {T : RT} (hs : stpOk T) (hn : T 0 1 < 60) (hu : T 0 3 < 20) {t : Nat} (hw : T 200 1 = 4294967295) (h4 : T 0 6 < 5) : stpOk (trT T t) := by
  have en : (trT T t) 0 1 = T 0 1 := by simp [trT, ncT, agT, tU, hw] <;> (repeat' split) <;> (intros; omega)
  intro j hj
  rw [en] at hj
  have a := hs j hj
  refine ⟨?_, ?_, ?_, ?_⟩ <;> simp [trT, ncT, agT, tU, hw] <;> (repeat' split) <;> (intros; omega)
