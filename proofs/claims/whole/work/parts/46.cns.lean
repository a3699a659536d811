/-! ===== the conditions of a program stay well-formed, letter by letter ===== -/
def cnsOk (T : RT) : Prop := ∀ j, j < T 0 3 → T (5 + 3 * j) 0 < 3 ∧ (T (5 + 3 * j) 1 = 60 ∨ T (5 + 3 * j) 1 = 61 ∨ T (5 + 3 * j) 1 = 62 ∨ T (5 + 3 * j) 1 = 35) ∧ T (5 + 3 * j) 2 < 9
theorem cs_nm {T : RT} (hs : cnsOk T) (hn : T 0 1 < 60) (hu : T 0 3 ≤ 20) {v : Nat} : cnsOk (tU (tU T 200 2 v) 200 0 1) := by
  have en : (tU (tU T 200 2 v) 200 0 1) 0 3 = T 0 3 := by simp [tU] <;> (repeat' split) <;> (intros; omega)
  intro j hj
  rw [en] at hj
  have a := hs j hj
  refine ⟨?_, ?_, ?_⟩ <;> simp [tU] <;> (repeat' split) <;> (intros; omega)
theorem cs_ec {T : RT} (hs : cnsOk T) (hn : T 0 1 < 60) (hu : T 0 3 ≤ 20) {w : Nat} : cnsOk (ecT T w) := by
  have en : (ecT T w) 0 3 = T 0 3 := by simp [ecT, tU] <;> (repeat' split) <;> (intros; omega)
  intro j hj
  rw [en] at hj
  have a := hs j hj
  refine ⟨?_, ?_, ?_⟩ <;> simp [ecT, tU] <;> (repeat' split) <;> (intros; omega)
theorem cs_op {T : RT} (hs : cnsOk T) (hn : T 0 1 < 60) (hu : T 0 3 ≤ 20)  : cnsOk (tU T 200 0 2) := by
  have en : (tU T 200 0 2) 0 3 = T 0 3 := by simp [tU] <;> (repeat' split) <;> (intros; omega)
  intro j hj
  rw [en] at hj
  have a := hs j hj
  refine ⟨?_, ?_, ?_⟩ <;> simp [tU] <;> (repeat' split) <;> (intros; omega)
theorem cs_lf {T : RT} (hs : cnsOk T) (hn : T 0 1 < 60) (hu : T 0 3 ≤ 20) {v : Nat} : cnsOk (tU (tU T 200 2 v) 200 0 4) := by
  have en : (tU (tU T 200 2 v) 200 0 4) 0 3 = T 0 3 := by simp [tU] <;> (repeat' split) <;> (intros; omega)
  intro j hj
  rw [en] at hj
  have a := hs j hj
  refine ⟨?_, ?_, ?_⟩ <;> simp [tU] <;> (repeat' split) <;> (intros; omega)
theorem cs_sg {T : RT} (hs : cnsOk T) (hn : T 0 1 < 60) (hu : T 0 3 ≤ 20) {w : Nat} : cnsOk (tU (tU T 200 3 w) 200 0 5) := by
  have en : (tU (tU T 200 3 w) 200 0 5) 0 3 = T 0 3 := by simp [tU] <;> (repeat' split) <;> (intros; omega)
  intro j hj
  rw [en] at hj
  have a := hs j hj
  refine ⟨?_, ?_, ?_⟩ <;> simp [tU] <;> (repeat' split) <;> (intros; omega)
theorem cs_ch {T : RT} (hs : cnsOk T) (hn : T 0 1 < 60) (hu : T 0 3 ≤ 20) {k : Nat} : cnsOk (chT T k) := by
  have en : (chT T k) 0 3 = T 0 3 := by simp [chT, apT, tU] <;> (repeat' split) <;> (intros; omega)
  intro j hj
  rw [en] at hj
  have a := hs j hj
  refine ⟨?_, ?_, ?_⟩ <;> simp [chT, apT, tU] <;> (repeat' split) <;> (intros; omega)
theorem cs_nv {T : RT} (hs : cnsOk T) (hn : T 0 1 < 60) (hu : T 0 3 ≤ 20) {t : Nat} (hu2 : T 0 3 < 20) (hv : T 200 2 < 3) (ht : t < 9) : cnsOk (nvT T t) := by
  have en : (nvT T t) 0 3 = T 0 3 + 1 := by simp [nvT, ncT, apT, tU] <;> (repeat' split) <;> (intros; omega)
  intro j hj
  rw [en] at hj
  rcases Nat.lt_or_ge j (T 0 3) with q | q
  · have a := hs j q
    have q2 : ¬ j = T 0 3 := by omega
    refine ⟨?_, ?_, ?_⟩ <;> simp [nvT, ncT, apT, tU] <;> (repeat' split) <;> (intros; omega)
  · obtain rfl : j = T 0 3 := by omega
    refine ⟨?_, ?_, ?_⟩ <;> simp [nvT, ncT, apT, tU] <;> (repeat' split) <;> (intros; omega)
theorem cs_oc {T : RT} (hs : cnsOk T) (hn : T 0 1 < 60) (hu : T 0 3 ≤ 20)  : cnsOk (ocT T) := by
  have en : (ocT T) 0 3 = T 0 3 := by simp [ocT, apT, phT, tU] <;> (repeat' split) <;> (intros; omega)
  intro j hj
  rw [en] at hj
  have a := hs j hj
  refine ⟨?_, ?_, ?_⟩ <;> simp [ocT, apT, phT, tU] <;> (repeat' split) <;> (intros; omega)
theorem cs_cl {T : RT} (hs : cnsOk T) (hn : T 0 1 < 60) (hu : T 0 3 ≤ 20) {pl : Nat} (hp : pl < 60) : cnsOk (clT T pl) := by
  have en : (clT T pl) 0 3 = T 0 3 := by simp [clT, apT, tU] <;> (repeat' split) <;> (intros; omega)
  intro j hj
  rw [en] at hj
  have a := hs j hj
  refine ⟨?_, ?_, ?_⟩ <;> simp [clT, apT, tU] <;> (repeat' split) <;> (intros; omega)
theorem cs_pb9 {T : RT} (hs : cnsOk T) (hn : T 0 1 < 60) (hu : T 0 3 ≤ 20) {pl : Nat} (hp : pl < 60) : cnsOk (pbT T pl 9) := by
  have en : (pbT T pl 9) 0 3 = T 0 3 := by simp [pbT, apT, phT, tU] <;> (repeat' split) <;> (intros; omega)
  intro j hj
  rw [en] at hj
  have a := hs j hj
  refine ⟨?_, ?_, ?_⟩ <;> simp [pbT, apT, phT, tU] <;> (repeat' split) <;> (intros; omega)
theorem cs_pb10 {T : RT} (hs : cnsOk T) (hn : T 0 1 < 60) (hu : T 0 3 ≤ 20) {pl : Nat} (hp : pl < 60) : cnsOk (pbT T pl 10) := by
  have en : (pbT T pl 10) 0 3 = T 0 3 := by simp [pbT, apT, phT, tU] <;> (repeat' split) <;> (intros; omega)
  intro j hj
  rw [en] at hj
  have a := hs j hj
  refine ⟨?_, ?_, ?_⟩ <;> simp [pbT, apT, phT, tU] <;> (repeat' split) <;> (intros; omega)
theorem cs_tr4 {T : RT} (hs : cnsOk T) (hn : T 0 1 < 60) (hu : T 0 3 ≤ 20) {t : Nat} (hu2 : T 0 3 < 20) (hv : T 200 2 < 3) (hg : T 200 3 = 60 ∨ T 200 3 = 61 ∨ T 200 3 = 62 ∨ T 200 3 = 35) (ht : t < 9) (hw : T 200 1 = 4) : cnsOk (trT T t) := by
  have en : (trT T t) 0 3 = T 0 3 + 1 := by simp [trT, ncT, apT, tU, hw] <;> (repeat' split) <;> (intros; omega)
  intro j hj
  rw [en] at hj
  rcases Nat.lt_or_ge j (T 0 3) with q | q
  · have a := hs j q
    have q2 : ¬ j = T 0 3 := by omega
    refine ⟨?_, ?_, ?_⟩ <;> simp [trT, ncT, apT, tU, hw] <;> (repeat' split) <;> (intros; omega)
  · obtain rfl : j = T 0 3 := by omega
    refine ⟨?_, ?_, ?_⟩ <;> simp [trT, ncT, apT, tU, hw] <;> (repeat' split) <;> (intros; omega)
theorem cs_tr5 {T : RT} (hs : cnsOk T) (hn : T 0 1 < 60) (hu : T 0 3 ≤ 20) {t : Nat} (hu2 : T 0 3 < 20) (hv : T 200 2 < 3) (hg : T 200 3 = 60 ∨ T 200 3 = 61 ∨ T 200 3 = 62 ∨ T 200 3 = 35) (ht : t < 9) (hw : T 200 1 = 5) : cnsOk (trT T t) := by
  have en : (trT T t) 0 3 = T 0 3 + 1 := by simp [trT, ncT, acT, apT, tU, hw] <;> (repeat' split) <;> (intros; omega)
  intro j hj
  rw [en] at hj
  rcases Nat.lt_or_ge j (T 0 3) with q | q
  · have a := hs j q
    have q2 : ¬ j = T 0 3 := by omega
    refine ⟨?_, ?_, ?_⟩ <;> simp [trT, ncT, acT, apT, tU, hw] <;> (repeat' split) <;> (intros; omega)
  · obtain rfl : j = T 0 3 := by omega
    refine ⟨?_, ?_, ?_⟩ <;> simp [trT, ncT, acT, apT, tU, hw] <;> (repeat' split) <;> (intros; omega)
theorem cs_tr6 {T : RT} (hs : cnsOk T) (hn : T 0 1 < 60) (hu : T 0 3 ≤ 20) {t : Nat} (hu2 : T 0 3 < 20) (hv : T 200 2 < 3) (hg : T 200 3 = 60 ∨ T 200 3 = 61 ∨ T 200 3 = 62 ∨ T 200 3 = 35) (ht : t < 9) (hw : T 200 1 = 6) : cnsOk (trT T t) := by
  have en : (trT T t) 0 3 = T 0 3 + 1 := by simp [trT, ncT, olT, apT, phT, tU, hw] <;> (repeat' split) <;> (intros; omega)
  intro j hj
  rw [en] at hj
  rcases Nat.lt_or_ge j (T 0 3) with q | q
  · have a := hs j q
    have q2 : ¬ j = T 0 3 := by omega
    refine ⟨?_, ?_, ?_⟩ <;> simp [trT, ncT, olT, apT, phT, tU, hw] <;> (repeat' split) <;> (intros; omega)
  · obtain rfl : j = T 0 3 := by omega
    refine ⟨?_, ?_, ?_⟩ <;> simp [trT, ncT, olT, apT, phT, tU, hw] <;> (repeat' split) <;> (intros; omega)
theorem cs_tr7 {T : RT} (hs : cnsOk T) (hn : T 0 1 < 60) (hu : T 0 3 ≤ 20) {t : Nat} (hu2 : T 0 3 < 20) (hv : T 200 2 < 3) (hg : T 200 3 = 60 ∨ T 200 3 = 61 ∨ T 200 3 = 62 ∨ T 200 3 = 35) (ht : t < 9) (hw : T 200 1 = 4294967295) : cnsOk (trT T t) := by
  have en : (trT T t) 0 3 = T 0 3 + 1 := by simp [trT, ncT, agT, tU, hw] <;> (repeat' split) <;> (intros; omega)
  intro j hj
  rw [en] at hj
  rcases Nat.lt_or_ge j (T 0 3) with q | q
  · have a := hs j q
    have q2 : ¬ j = T 0 3 := by omega
    refine ⟨?_, ?_, ?_⟩ <;> simp [trT, ncT, agT, tU, hw] <;> (repeat' split) <;> (intros; omega)
  · obtain rfl : j = T 0 3 := by omega
    refine ⟨?_, ?_, ?_⟩ <;> simp [trT, ncT, agT, tU, hw] <;> (repeat' split) <;> (intros; omega)
