/-! ===== what a letter does to the nodes and counts ===== -/
def dpz (T : RT) : Prop := (T 200 0 = 6 → T 200 5 = 0) ∧ (3 ≤ T 200 0 → T 200 0 ≤ 5 → T 200 1 = 4294967295 → T 200 5 = 0)
def cnS (T T' : RT) (kd f : Nat) : Prop := (T' 0 1 = T 0 1 + 1 → T' (65 + T 0 1) 0 = kd → T' (65 + T 0 1) 2 = T 0 f ∧ T' 0 f = T 0 f + 1) ∧ (¬ (T' 0 1 = T 0 1 + 1 ∧ T' (65 + T 0 1) 0 = kd) → T' 0 f = T 0 f)
def shp (T T' : RT) : Prop := (T' 0 1 = T 0 1 ∨ T' 0 1 = T 0 1 + 1) ∧ (∀ j, j < T 0 1 → T' (65 + j) 0 = T (65 + j) 0 ∧ T' (65 + j) 2 = T (65 + j) 2) ∧ cnS T T' 5 7 ∧ cnS T T' 6 8 ∧ cnS T T' 8 9
theorem sh_nm {T : RT} (hn : T 0 1 < 60) (hz : dpz T) (hx : T 200 0 = 0) {v : Nat} : dpz (tU (tU T 200 2 v) 200 0 1) ∧ shp T (tU (tU T 200 2 v) 200 0 1) := by
  obtain ⟨z1, z2⟩ := hz
  refine ⟨⟨?_, ?_⟩, ?_, fun j hj => ?_, ⟨?_, ?_⟩, ⟨?_, ?_⟩, ⟨?_, ?_⟩⟩
  · simp [tU] <;> (repeat' split) <;> (intros; omega)
  · simp [tU] <;> (repeat' split) <;> (intros; omega)
  · first | (left; simp [tU] <;> (repeat' split) <;> (intros; omega)) | (right; simp [tU] <;> (repeat' split) <;> (intros; omega))
  · have q2 : ¬ j = T 0 1 := by omega
    refine ⟨?_, ?_⟩ <;> (simp [tU, q2] <;> (repeat' split) <;> (intros; omega))
  · simp [tU] <;> (repeat' split) <;> (intros; omega)
  · simp [tU] <;> (repeat' split) <;> (intros; omega)
  · simp [tU] <;> (repeat' split) <;> (intros; omega)
  · simp [tU] <;> (repeat' split) <;> (intros; omega)
  · simp [tU] <;> (repeat' split) <;> (intros; omega)
  · simp [tU] <;> (repeat' split) <;> (intros; omega)
theorem sh_ec {T : RT} (hn : T 0 1 < 60) (hz : dpz T) {w : Nat} (hw : w = 4294967295 → T 200 5 = 0) : dpz (ecT T w) ∧ shp T (ecT T w) := by
  obtain ⟨z1, z2⟩ := hz
  refine ⟨⟨?_, ?_⟩, ?_, fun j hj => ?_, ⟨?_, ?_⟩, ⟨?_, ?_⟩, ⟨?_, ?_⟩⟩
  · simp [ecT, tU] <;> (repeat' split) <;> (intros; omega)
  · simp [ecT, tU] <;> (repeat' split) <;> (intros; omega)
  · first | (left; simp [ecT, tU] <;> (repeat' split) <;> (intros; omega)) | (right; simp [ecT, tU] <;> (repeat' split) <;> (intros; omega))
  · have q2 : ¬ j = T 0 1 := by omega
    refine ⟨?_, ?_⟩ <;> (simp [ecT, tU, q2] <;> (repeat' split) <;> (intros; omega))
  · simp [ecT, tU] <;> (repeat' split) <;> (intros; omega)
  · simp [ecT, tU] <;> (repeat' split) <;> (intros; omega)
  · simp [ecT, tU] <;> (repeat' split) <;> (intros; omega)
  · simp [ecT, tU] <;> (repeat' split) <;> (intros; omega)
  · simp [ecT, tU] <;> (repeat' split) <;> (intros; omega)
  · simp [ecT, tU] <;> (repeat' split) <;> (intros; omega)
theorem sh_op {T : RT} (hn : T 0 1 < 60) (hz : dpz T) (hx : T 200 0 = 1) : dpz (tU T 200 0 2) ∧ shp T (tU T 200 0 2) := by
  obtain ⟨z1, z2⟩ := hz
  refine ⟨⟨?_, ?_⟩, ?_, fun j hj => ?_, ⟨?_, ?_⟩, ⟨?_, ?_⟩, ⟨?_, ?_⟩⟩
  · simp [tU] <;> (repeat' split) <;> (intros; omega)
  · simp [tU] <;> (repeat' split) <;> (intros; omega)
  · first | (left; simp [tU] <;> (repeat' split) <;> (intros; omega)) | (right; simp [tU] <;> (repeat' split) <;> (intros; omega))
  · have q2 : ¬ j = T 0 1 := by omega
    refine ⟨?_, ?_⟩ <;> (simp [tU, q2] <;> (repeat' split) <;> (intros; omega))
  · simp [tU] <;> (repeat' split) <;> (intros; omega)
  · simp [tU] <;> (repeat' split) <;> (intros; omega)
  · simp [tU] <;> (repeat' split) <;> (intros; omega)
  · simp [tU] <;> (repeat' split) <;> (intros; omega)
  · simp [tU] <;> (repeat' split) <;> (intros; omega)
  · simp [tU] <;> (repeat' split) <;> (intros; omega)
theorem sh_ch {T : RT} (hn : T 0 1 < 60) (hz : dpz T) (hx : T 200 0 = 1) {k : Nat} (hk : 1 ≤ k ∧ k ≤ 3) : dpz (chT T k) ∧ shp T (chT T k) := by
  obtain ⟨z1, z2⟩ := hz
  refine ⟨⟨?_, ?_⟩, ?_, fun j hj => ?_, ⟨?_, ?_⟩, ⟨?_, ?_⟩, ⟨?_, ?_⟩⟩
  · simp [chT, apT, tU] <;> (repeat' split) <;> (intros; omega)
  · simp [chT, apT, tU] <;> (repeat' split) <;> (intros; omega)
  · first | (left; simp [chT, apT, tU] <;> (repeat' split) <;> (intros; omega)) | (right; simp [chT, apT, tU] <;> (repeat' split) <;> (intros; omega))
  · have q2 : ¬ j = T 0 1 := by omega
    refine ⟨?_, ?_⟩ <;> (simp [chT, apT, tU, q2] <;> (repeat' split) <;> (intros; omega))
  · simp [chT, apT, tU] <;> (repeat' split) <;> (intros; omega)
  · simp [chT, apT, tU] <;> (repeat' split) <;> (intros; omega)
  · simp [chT, apT, tU] <;> (repeat' split) <;> (intros; omega)
  · simp [chT, apT, tU] <;> (repeat' split) <;> (intros; omega)
  · simp [chT, apT, tU] <;> (repeat' split) <;> (intros; omega)
  · simp [chT, apT, tU] <;> (repeat' split) <;> (intros; omega)
theorem sh_nv {T : RT} (hn : T 0 1 < 60) (hz : dpz T) (hu : T 0 3 < 20) (hx : T 200 0 = 2) {t : Nat} : dpz (nvT T t) ∧ shp T (nvT T t) := by
  obtain ⟨z1, z2⟩ := hz
  refine ⟨⟨?_, ?_⟩, ?_, fun j hj => ?_, ⟨?_, ?_⟩, ⟨?_, ?_⟩, ⟨?_, ?_⟩⟩
  · simp [nvT, ncT, apT, tU] <;> (repeat' split) <;> (intros; omega)
  · simp [nvT, ncT, apT, tU] <;> (repeat' split) <;> (intros; omega)
  · first | (left; simp [nvT, ncT, apT, tU] <;> (repeat' split) <;> (intros; omega)) | (right; simp [nvT, ncT, apT, tU] <;> (repeat' split) <;> (intros; omega))
  · have q2 : ¬ j = T 0 1 := by omega
    refine ⟨?_, ?_⟩ <;> (simp [nvT, ncT, apT, tU, q2] <;> (repeat' split) <;> (intros; omega))
  · simp [nvT, ncT, apT, tU] <;> (repeat' split) <;> (intros; omega)
  · simp [nvT, ncT, apT, tU] <;> (repeat' split) <;> (intros; omega)
  · simp [nvT, ncT, apT, tU] <;> (repeat' split) <;> (intros; omega)
  · simp [nvT, ncT, apT, tU] <;> (repeat' split) <;> (intros; omega)
  · simp [nvT, ncT, apT, tU] <;> (repeat' split) <;> (intros; omega)
  · simp [nvT, ncT, apT, tU] <;> (repeat' split) <;> (intros; omega)
theorem sh_lf {T : RT} (hn : T 0 1 < 60) (hz : dpz T) (hx : T 200 0 = 3) {v : Nat} : dpz (tU (tU T 200 2 v) 200 0 4) ∧ shp T (tU (tU T 200 2 v) 200 0 4) := by
  obtain ⟨z1, z2⟩ := hz
  refine ⟨⟨?_, ?_⟩, ?_, fun j hj => ?_, ⟨?_, ?_⟩, ⟨?_, ?_⟩, ⟨?_, ?_⟩⟩
  · simp [tU] <;> (repeat' split) <;> (intros; omega)
  · simp [tU] <;> (repeat' split) <;> (intros; omega)
  · first | (left; simp [tU] <;> (repeat' split) <;> (intros; omega)) | (right; simp [tU] <;> (repeat' split) <;> (intros; omega))
  · have q2 : ¬ j = T 0 1 := by omega
    refine ⟨?_, ?_⟩ <;> (simp [tU, q2] <;> (repeat' split) <;> (intros; omega))
  · simp [tU] <;> (repeat' split) <;> (intros; omega)
  · simp [tU] <;> (repeat' split) <;> (intros; omega)
  · simp [tU] <;> (repeat' split) <;> (intros; omega)
  · simp [tU] <;> (repeat' split) <;> (intros; omega)
  · simp [tU] <;> (repeat' split) <;> (intros; omega)
  · simp [tU] <;> (repeat' split) <;> (intros; omega)
theorem sh_sg {T : RT} (hn : T 0 1 < 60) (hz : dpz T) (hx : T 200 0 = 4) {v : Nat} : dpz (tU (tU T 200 3 v) 200 0 5) ∧ shp T (tU (tU T 200 3 v) 200 0 5) := by
  obtain ⟨z1, z2⟩ := hz
  refine ⟨⟨?_, ?_⟩, ?_, fun j hj => ?_, ⟨?_, ?_⟩, ⟨?_, ?_⟩, ⟨?_, ?_⟩⟩
  · simp [tU] <;> (repeat' split) <;> (intros; omega)
  · simp [tU] <;> (repeat' split) <;> (intros; omega)
  · first | (left; simp [tU] <;> (repeat' split) <;> (intros; omega)) | (right; simp [tU] <;> (repeat' split) <;> (intros; omega))
  · have q2 : ¬ j = T 0 1 := by omega
    refine ⟨?_, ?_⟩ <;> (simp [tU, q2] <;> (repeat' split) <;> (intros; omega))
  · simp [tU] <;> (repeat' split) <;> (intros; omega)
  · simp [tU] <;> (repeat' split) <;> (intros; omega)
  · simp [tU] <;> (repeat' split) <;> (intros; omega)
  · simp [tU] <;> (repeat' split) <;> (intros; omega)
  · simp [tU] <;> (repeat' split) <;> (intros; omega)
  · simp [tU] <;> (repeat' split) <;> (intros; omega)
theorem sh_tr4 {T : RT} (hn : T 0 1 < 60) (hz : dpz T) (hu : T 0 3 < 20) (hx : T 200 0 = 5) {t : Nat} : dpz (tU (apT (tU (ncT T (T 200 2) (T 200 3) t) 200 0 0) 4) (65 + T 0 1) 4 (T 0 3)) ∧ shp T (tU (apT (tU (ncT T (T 200 2) (T 200 3) t) 200 0 0) 4) (65 + T 0 1) 4 (T 0 3)) := by
  obtain ⟨z1, z2⟩ := hz
  refine ⟨⟨?_, ?_⟩, ?_, fun j hj => ?_, ⟨?_, ?_⟩, ⟨?_, ?_⟩, ⟨?_, ?_⟩⟩
  · simp [ncT, apT, tU] <;> (repeat' split) <;> (intros; omega)
  · simp [ncT, apT, tU] <;> (repeat' split) <;> (intros; omega)
  · first | (left; simp [ncT, apT, tU] <;> (repeat' split) <;> (intros; omega)) | (right; simp [ncT, apT, tU] <;> (repeat' split) <;> (intros; omega))
  · have q2 : ¬ j = T 0 1 := by omega
    refine ⟨?_, ?_⟩ <;> (simp [ncT, apT, tU, q2] <;> (repeat' split) <;> (intros; omega))
  · simp [ncT, apT, tU] <;> (repeat' split) <;> (intros; omega)
  · simp [ncT, apT, tU] <;> (repeat' split) <;> (intros; omega)
  · simp [ncT, apT, tU] <;> (repeat' split) <;> (intros; omega)
  · simp [ncT, apT, tU] <;> (repeat' split) <;> (intros; omega)
  · simp [ncT, apT, tU] <;> (repeat' split) <;> (intros; omega)
  · simp [ncT, apT, tU] <;> (repeat' split) <;> (intros; omega)
theorem sh_tr5 {T : RT} (hn : T 0 1 < 60) (hz : dpz T) (hu : T 0 3 < 20) (hx : T 200 0 = 5) {t : Nat} : dpz (acT (tU (ncT T (T 200 2) (T 200 3) t) 200 0 0) (T 0 3)) ∧ shp T (acT (tU (ncT T (T 200 2) (T 200 3) t) 200 0 0) (T 0 3)) := by
  obtain ⟨z1, z2⟩ := hz
  refine ⟨⟨?_, ?_⟩, ?_, fun j hj => ?_, ⟨?_, ?_⟩, ⟨?_, ?_⟩, ⟨?_, ?_⟩⟩
  · simp [ncT, acT, apT, tU] <;> (repeat' split) <;> (intros; omega)
  · simp [ncT, acT, apT, tU] <;> (repeat' split) <;> (intros; omega)
  · first | (left; simp [ncT, acT, apT, tU] <;> (repeat' split) <;> (intros; omega)) | (right; simp [ncT, acT, apT, tU] <;> (repeat' split) <;> (intros; omega))
  · have q2 : ¬ j = T 0 1 := by omega
    refine ⟨?_, ?_⟩ <;> (simp [ncT, acT, apT, tU, q2] <;> (repeat' split) <;> (intros; omega))
  · simp [ncT, acT, apT, tU] <;> (repeat' split) <;> (intros; omega)
  · simp [ncT, acT, apT, tU] <;> (repeat' split) <;> (intros; omega)
  · simp [ncT, acT, apT, tU] <;> (repeat' split) <;> (intros; omega)
  · simp [ncT, acT, apT, tU] <;> (repeat' split) <;> (intros; omega)
  · simp [ncT, acT, apT, tU] <;> (repeat' split) <;> (intros; omega)
  · simp [ncT, acT, apT, tU] <;> (repeat' split) <;> (intros; omega)
theorem sh_tr6 {T : RT} (hn : T 0 1 < 60) (hz : dpz T) (hu : T 0 3 < 20) (hx : T 200 0 = 5) {t : Nat} : dpz (olT (tU (ncT T (T 200 2) (T 200 3) t) 200 0 0) (T 0 3)) ∧ shp T (olT (tU (ncT T (T 200 2) (T 200 3) t) 200 0 0) (T 0 3)) := by
  obtain ⟨z1, z2⟩ := hz
  refine ⟨⟨?_, ?_⟩, ?_, fun j hj => ?_, ⟨?_, ?_⟩, ⟨?_, ?_⟩, ⟨?_, ?_⟩⟩
  · simp [ncT, olT, apT, phT, tU] <;> (repeat' split) <;> (intros; omega)
  · simp [ncT, olT, apT, phT, tU] <;> (repeat' split) <;> (intros; omega)
  · first | (left; simp [ncT, olT, apT, phT, tU] <;> (repeat' split) <;> (intros; omega)) | (right; simp [ncT, olT, apT, phT, tU] <;> (repeat' split) <;> (intros; omega))
  · have q2 : ¬ j = T 0 1 := by omega
    refine ⟨?_, ?_⟩ <;> (simp [ncT, olT, apT, phT, tU, q2] <;> (repeat' split) <;> (intros; omega))
  · simp [ncT, olT, apT, phT, tU] <;> (repeat' split) <;> (intros; omega)
  · simp [ncT, olT, apT, phT, tU] <;> (repeat' split) <;> (intros; omega)
  · simp [ncT, olT, apT, phT, tU] <;> (repeat' split) <;> (intros; omega)
  · simp [ncT, olT, apT, phT, tU] <;> (repeat' split) <;> (intros; omega)
  · simp [ncT, olT, apT, phT, tU] <;> (repeat' split) <;> (intros; omega)
  · simp [ncT, olT, apT, phT, tU] <;> (repeat' split) <;> (intros; omega)
theorem sh_tr7 {T : RT} (hn : T 0 1 < 60) (hz : dpz T) (hu : T 0 3 < 20) (hx : T 200 0 = 5) (hw : T 200 1 = 4294967295) {t : Nat} : dpz (tU (agT (tU (ncT T (T 200 2) (T 200 3) t) 200 0 0) (T 0 3)) 200 0 6) ∧ shp T (tU (agT (tU (ncT T (T 200 2) (T 200 3) t) 200 0 0) (T 0 3)) 200 0 6) := by
  obtain ⟨z1, z2⟩ := hz
  have z3 := z2 (by omega) (by omega) hw
  refine ⟨⟨?_, ?_⟩, ?_, fun j hj => ?_, ⟨?_, ?_⟩, ⟨?_, ?_⟩, ⟨?_, ?_⟩⟩
  · simp [ncT, agT, tU] <;> (repeat' split) <;> (intros; omega)
  · simp [ncT, agT, tU] <;> (repeat' split) <;> (intros; omega)
  · first | (left; simp [ncT, agT, tU] <;> (repeat' split) <;> (intros; omega)) | (right; simp [ncT, agT, tU] <;> (repeat' split) <;> (intros; omega))
  · have q2 : ¬ j = T 0 1 := by omega
    refine ⟨?_, ?_⟩ <;> (simp [ncT, agT, tU, q2] <;> (repeat' split) <;> (intros; omega))
  · simp [ncT, agT, tU] <;> (repeat' split) <;> (intros; omega)
  · simp [ncT, agT, tU] <;> (repeat' split) <;> (intros; omega)
  · simp [ncT, agT, tU] <;> (repeat' split) <;> (intros; omega)
  · simp [ncT, agT, tU] <;> (repeat' split) <;> (intros; omega)
  · simp [ncT, agT, tU] <;> (repeat' split) <;> (intros; omega)
  · simp [ncT, agT, tU] <;> (repeat' split) <;> (intros; omega)
theorem sh_oc {T : RT} (hn : T 0 1 < 60) (hz : dpz T) (hx : T 200 0 = 0) : dpz (ocT T) ∧ shp T (ocT T) := by
  obtain ⟨z1, z2⟩ := hz
  refine ⟨⟨?_, ?_⟩, ?_, fun j hj => ?_, ⟨?_, ?_⟩, ⟨?_, ?_⟩, ⟨?_, ?_⟩⟩
  · simp [ocT, apT, phT, tU, hx] <;> (repeat' split) <;> (intros; omega)
  · simp [ocT, apT, phT, tU, hx] <;> (repeat' split) <;> (intros; omega)
  · first | (left; simp [ocT, apT, phT, tU, hx] <;> (repeat' split) <;> (intros; omega)) | (right; simp [ocT, apT, phT, tU, hx] <;> (repeat' split) <;> (intros; omega))
  · have q2 : ¬ j = T 0 1 := by omega
    refine ⟨?_, ?_⟩ <;> (simp [ocT, apT, phT, tU, hx, q2] <;> (repeat' split) <;> (intros; omega))
  · simp [ocT, apT, phT, tU, hx] <;> (repeat' split) <;> (intros; omega)
  · simp [ocT, apT, phT, tU, hx] <;> (repeat' split) <;> (intros; omega)
  · simp [ocT, apT, phT, tU, hx] <;> (repeat' split) <;> (intros; omega)
  · simp [ocT, apT, phT, tU, hx] <;> (repeat' split) <;> (intros; omega)
  · simp [ocT, apT, phT, tU, hx] <;> (repeat' split) <;> (intros; omega)
  · simp [ocT, apT, phT, tU, hx] <;> (repeat' split) <;> (intros; omega)
theorem sh_cl {T : RT} (hn : T 0 1 < 60) (hz : dpz T) (hx : T 200 0 = 0) {pl : Nat} (hp : pl < T 0 1) : dpz (clT T pl) ∧ shp T (clT T pl) := by
  obtain ⟨z1, z2⟩ := hz
  refine ⟨⟨?_, ?_⟩, ?_, fun j hj => ?_, ⟨?_, ?_⟩, ⟨?_, ?_⟩, ⟨?_, ?_⟩⟩
  · simp [clT, apT, tU, hx] <;> (repeat' split) <;> (intros; omega)
  · simp [clT, apT, tU, hx] <;> (repeat' split) <;> (intros; omega)
  · first | (left; simp [clT, apT, tU, hx] <;> (repeat' split) <;> (intros; omega)) | (right; simp [clT, apT, tU, hx] <;> (repeat' split) <;> (intros; omega))
  · have q2 : ¬ j = T 0 1 := by omega
    refine ⟨?_, ?_⟩ <;> (simp [clT, apT, tU, hx, q2] <;> (repeat' split) <;> (intros; omega))
  · simp [clT, apT, tU, hx] <;> (repeat' split) <;> (intros; omega)
  · simp [clT, apT, tU, hx] <;> (repeat' split) <;> (intros; omega)
  · simp [clT, apT, tU, hx] <;> (repeat' split) <;> (intros; omega)
  · simp [clT, apT, tU, hx] <;> (repeat' split) <;> (intros; omega)
  · simp [clT, apT, tU, hx] <;> (repeat' split) <;> (intros; omega)
  · simp [clT, apT, tU, hx] <;> (repeat' split) <;> (intros; omega)
theorem sh_pb9 {T : RT} (hn : T 0 1 < 60) (hz : dpz T) (hx : T 200 0 = 0) {pl : Nat} (hp : pl < T 0 1) : dpz (pbT T pl 9) ∧ shp T (pbT T pl 9) := by
  obtain ⟨z1, z2⟩ := hz
  refine ⟨⟨?_, ?_⟩, ?_, fun j hj => ?_, ⟨?_, ?_⟩, ⟨?_, ?_⟩, ⟨?_, ?_⟩⟩
  · simp [pbT, apT, phT, tU, hx] <;> (repeat' split) <;> (intros; omega)
  · simp [pbT, apT, phT, tU, hx] <;> (repeat' split) <;> (intros; omega)
  · first | (left; simp [pbT, apT, phT, tU, hx] <;> (repeat' split) <;> (intros; omega)) | (right; simp [pbT, apT, phT, tU, hx] <;> (repeat' split) <;> (intros; omega))
  · have q2 : ¬ j = T 0 1 := by omega
    refine ⟨?_, ?_⟩ <;> (simp [pbT, apT, phT, tU, hx, q2] <;> (repeat' split) <;> (intros; omega))
  · simp [pbT, apT, phT, tU, hx] <;> (repeat' split) <;> (intros; omega)
  · simp [pbT, apT, phT, tU, hx] <;> (repeat' split) <;> (intros; omega)
  · simp [pbT, apT, phT, tU, hx] <;> (repeat' split) <;> (intros; omega)
  · simp [pbT, apT, phT, tU, hx] <;> (repeat' split) <;> (intros; omega)
  · simp [pbT, apT, phT, tU, hx] <;> (repeat' split) <;> (intros; omega)
  · simp [pbT, apT, phT, tU, hx] <;> (repeat' split) <;> (intros; omega)
theorem sh_pb10 {T : RT} (hn : T 0 1 < 60) (hz : dpz T) (hx : T 200 0 = 0) {pl : Nat} (hp : pl < T 0 1) : dpz (pbT T pl 10) ∧ shp T (pbT T pl 10) := by
  obtain ⟨z1, z2⟩ := hz
  refine ⟨⟨?_, ?_⟩, ?_, fun j hj => ?_, ⟨?_, ?_⟩, ⟨?_, ?_⟩, ⟨?_, ?_⟩⟩
  · simp [pbT, apT, phT, tU, hx] <;> (repeat' split) <;> (intros; omega)
  · simp [pbT, apT, phT, tU, hx] <;> (repeat' split) <;> (intros; omega)
  · first | (left; simp [pbT, apT, phT, tU, hx] <;> (repeat' split) <;> (intros; omega)) | (right; simp [pbT, apT, phT, tU, hx] <;> (repeat' split) <;> (intros; omega))
  · have q2 : ¬ j = T 0 1 := by omega
    refine ⟨?_, ?_⟩ <;> (simp [pbT, apT, phT, tU, hx, q2] <;> (repeat' split) <;> (intros; omega))
  · simp [pbT, apT, phT, tU, hx] <;> (repeat' split) <;> (intros; omega)
  · simp [pbT, apT, phT, tU, hx] <;> (repeat' split) <;> (intros; omega)
  · simp [pbT, apT, phT, tU, hx] <;> (repeat' split) <;> (intros; omega)
  · simp [pbT, apT, phT, tU, hx] <;> (repeat' split) <;> (intros; omega)
  · simp [pbT, apT, phT, tU, hx] <;> (repeat' split) <;> (intros; omega)
  · simp [pbT, apT, phT, tU, hx] <;> (repeat' split) <;> (intros; omega)
theorem st_sh {T T' : RT} {i ch : Nat} (h : rdOk T i) (hi : i < 60) (hz : dpz T) (hx : T 200 0 = 0) (e : stT T ch = some T') : dpz T' ∧ shp T T' := by
  have hn : T 0 1 < 60 := Nat.lt_of_le_of_lt h.1 hi
  have hu : T 0 3 ≤ 20 := by have := h.2.1; omega
  have hu2 : T 0 3 < 20 := by have := h.2.1; omega
  have hv : T 200 2 < 3 := h.2.2.2.1
  have hpl : 1 ≤ T 200 5 → plT T < T 0 1 := fun q => by rw [show plT T = T 201 (T 200 5 - 1) from if_pos q]; exact h.2.2.2.2.2.2.2.2.2.1 _ (by omega)
  unfold stT at e
  split at e
  · rename_i q
    cases e
    have q2 : 97 ≤ ch ∧ ch ≤ 99 := of_decide_eq_true q
    exact sh_nm hn hz hx
  split at e
  · cases e; exact sh_ec hn hz (fun q => by cases q)
  split at e
  · split at e
    · rename_i q; cases e; exact sh_ec hn hz (fun q => by cases q)
    · cases e
  split at e
  · split at e
    · rename_i q; cases e; exact sh_ec hn hz (fun q => by cases q)
    · cases e
  split at e
  · split at e
    · rename_i q; cases e; exact sh_cl hn hz hx (hpl q.1)
    · cases e
  split at e
  · split at e
    · rename_i q; cases e; exact sh_oc hn hz hx
    · cases e
  split at e
  · split at e
    · rename_i q; cases e; exact sh_pb9 hn hz hx (hpl q.1)
    · cases e
  split at e
  · split at e
    · rename_i q; cases e; exact sh_pb10 hn hz hx (hpl q.1)
    · cases e
  split at e
  · split at e
    · rename_i q; cases e; exact sh_ec hn hz (fun _ => q.1)
    · cases e
  cases e
theorem op_sh {T T' : RT} {i ch : Nat} (h : rdOk T i) (hi : i < 60) (hz : dpz T) (hx : T 200 0 = 1) (e : opT T ch = some T') : dpz T' ∧ shp T T' := by
  have hn : T 0 1 < 60 := Nat.lt_of_le_of_lt h.1 hi
  have hu : T 0 3 ≤ 20 := by have := h.2.1; omega
  have hu2 : T 0 3 < 20 := by have := h.2.1; omega
  have hv : T 200 2 < 3 := h.2.2.2.1
  unfold opT at e
  split at e
  · cases e; exact sh_op hn hz hx
  split at e
  · cases e; exact sh_ch hn hz hx (by omega)
  split at e
  · cases e; exact sh_ch hn hz hx (by omega)
  split at e
  · cases e; exact sh_ch hn hz hx (by omega)
  cases e
theorem tk_sh {T T' : RT} {i ch : Nat} (h : rdOk T i) (hi : i < 60) (hz : dpz T) (e : tkT T ch = some T') : dpz T' ∧ shp T T' := by
  have hn : T 0 1 < 60 := Nat.lt_of_le_of_lt h.1 hi
  have hu : T 0 3 ≤ 20 := by have := h.2.1; omega
  have hu2 : T 0 3 < 20 := by have := h.2.1; omega
  have hv : T 200 2 < 3 := h.2.2.2.1
  unfold tkT at e
  split at e
  · rename_i q; exact st_sh h hi hz q e
  split at e
  · rename_i q; exact op_sh h hi hz q e
  split at e
  · rename_i q
    split at e
    · rename_i ht; cases e; exact sh_nv hn hz hu2 q
    · cases e
  split at e
  · rename_i q
    split at e
    · rename_i r
      cases e
      have r2 : 97 ≤ ch ∧ ch ≤ 99 := of_decide_eq_true r
      exact sh_lf hn hz q
    · cases e
  split at e
  · rename_i q
    split at e
    · rename_i ht; cases e; exact sh_sg hn hz q
    · cases e
  split at e
  · rename_i q
    split at e
    · rename_i ht
      cases e
      rcases h.2.2.2.2.2.2.2.2.2.2.2 (by omega) (by omega) with w | w | w | w
      · unfold trT; rw [if_pos w]; exact sh_tr4 hn hz hu2 q
      · unfold trT; rw [if_neg (by omega), if_pos w.1]; exact sh_tr5 hn hz hu2 q
      · unfold trT; rw [if_neg (by omega), if_neg (by omega), if_pos w.1]; exact sh_tr6 hn hz hu2 q
      · unfold trT; rw [if_neg (by omega), if_neg (by omega), if_neg (by omega)]; exact sh_tr7 hn hz hu2 q w.1
    · cases e
  rename_i q0 q1 q2 q3 q4 q5
  have q6 : T 200 0 = 6 := by have := h.2.2.1; omega
  split at e
  · rename_i r; cases e; exact sh_ec hn hz (fun _ => hz.1 q6)
  · cases e
theorem dpz_0 (T : RT) : dpz (t0T T) := by
  refine ⟨?_, ?_⟩ <;> (simp [t0T, tU])
/-- the nodes of a kind are numbered, each once -/
def nmb (T : RT) (kd f : Nat) : Prop := (∀ j, j < T 0 1 → T (65 + j) 0 = kd → T (65 + j) 2 < T 0 f) ∧ (∀ i j, i < T 0 1 → j < T 0 1 → T (65 + i) 0 = kd → T (65 + j) 0 = kd → T (65 + i) 2 = T (65 + j) 2 → i = j) ∧ ∀ c, c < T 0 f → ∃ j, j < T 0 1 ∧ T (65 + j) 0 = kd ∧ T (65 + j) 2 = c
theorem nmb_sh {T T' : RT} {kd f : Nat} (h : nmb T kd f) (hs : shp T T') (hc : cnS T T' kd f) : nmb T' kd f := by
  obtain ⟨h1, h2, h3⟩ := h
  obtain ⟨s1, s2, -⟩ := hs
  by_cases q : T' 0 1 = T 0 1 + 1 ∧ T' (65 + T 0 1) 0 = kd
  · obtain ⟨c1, c2⟩ := hc.1 q.1 q.2
    have hold : ∀ j, j < T' 0 1 → T' (65 + j) 0 = kd → (j < T 0 1 ∧ T (65 + j) 0 = kd ∧ T' (65 + j) 2 = T (65 + j) 2 ∧ T (65 + j) 2 < T 0 f) ∨ (j = T 0 1 ∧ T' (65 + j) 2 = T 0 f) := fun j hj hk => by
      rcases Nat.lt_or_ge j (T 0 1) with u | u
      · have a := s2 j u
        exact Or.inl ⟨u, by rw [← a.1]; exact hk, a.2, h1 j u (by rw [← a.1]; exact hk)⟩
      · have e : j = T 0 1 := by omega
        exact Or.inr ⟨e, by rw [e]; exact c1⟩
    refine ⟨fun j hj hk => ?_, fun i j hi hj ki kj e => ?_, fun c hcc => ?_⟩
    · rcases hold j hj hk with a | a
      · omega
      · omega
    · rcases hold i hi ki with a | a <;> rcases hold j hj kj with b | b
      · exact h2 i j a.1 b.1 a.2.1 b.2.1 (by omega)
      · omega
      · omega
      · omega
    · rcases Nat.lt_or_ge c (T 0 f) with u | u
      · obtain ⟨j, j1, j2, j3⟩ := h3 c u
        have a := s2 j j1
        exact ⟨j, by omega, by rw [a.1]; exact j2, by rw [a.2]; exact j3⟩
      · exact ⟨T 0 1, by omega, q.2, by omega⟩
  · have c2 := hc.2 q
    have hold : ∀ j, j < T' 0 1 → T' (65 + j) 0 = kd → j < T 0 1 ∧ T (65 + j) 0 = kd ∧ T' (65 + j) 2 = T (65 + j) 2 := fun j hj hk => by
      rcases Nat.lt_or_ge j (T 0 1) with u | u
      · have a := s2 j u
        exact ⟨u, by rw [← a.1]; exact hk, a.2⟩
      · have e : j = T 0 1 := by omega
        exact absurd ⟨by omega, by rw [← e]; exact hk⟩ q
    refine ⟨fun j hj hk => ?_, fun i j hi hj ki kj e => ?_, fun c hcc => ?_⟩
    · obtain ⟨a, b, d⟩ := hold j hj hk
      rw [d, c2]; exact h1 j a b
    · obtain ⟨a, b, d⟩ := hold i hi ki
      obtain ⟨a2, b2, d2⟩ := hold j hj kj
      exact h2 i j a a2 b b2 (by omega)
    · obtain ⟨j, j1, j2, j3⟩ := h3 c (by omega)
      have a := s2 j j1
      exact ⟨j, by omega, by rw [a.1]; exact j2, by rw [a.2]; exact j3⟩
def nmOk (T : RT) : Prop := dpz T ∧ nmb T 5 7 ∧ nmb T 6 8 ∧ nmb T 8 9
theorem tk_nm {T T' : RT} {i ch : Nat} (h : rdOk T i) (hi : i < 60) (hs : nmOk T) (e : tkT T ch = some T') : nmOk T' := by
  obtain ⟨a, b⟩ := tk_sh h hi hs.1 e
  exact ⟨a, nmb_sh hs.2.1 b b.2.2.1, nmb_sh hs.2.2.1 b b.2.2.2.1, nmb_sh hs.2.2.2 b b.2.2.2.2⟩
theorem nm_0 (T : RT) : nmOk (t0T T) := by
  have e1 : t0T T 0 1 = 0 := by simp [t0T, tU]
  have e7 : t0T T 0 7 = 0 := by simp [t0T, tU]
  have e8 : t0T T 0 8 = 0 := by simp [t0T, tU]
  have e9 : t0T T 0 9 = 0 := by simp [t0T, tU]
  refine ⟨dpz_0 T, ⟨fun j hj => absurd hj (by omega), fun i j hi => absurd hi (by omega), fun c hc => absurd hc (by omega)⟩, ⟨fun j hj => absurd hj (by omega), fun i j hi => absurd hi (by omega), fun c hc => absurd hc (by omega)⟩, ⟨fun j hj => absurd hj (by omega), fun i j hi => absurd hi (by omega), fun c hc => absurd hc (by omega)⟩⟩
