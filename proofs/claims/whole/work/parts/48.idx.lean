/-! ===== the conditions named by a program are among those made ===== -/
def idxOk (T : RT) : Prop := (∀ j, j < T 0 1 → (T (65 + j) 0 = 0 ∨ (4 ≤ T (65 + j) 0 ∧ T (65 + j) 0 ≤ 7)) → T (65 + j) 4 < T 0 3) ∧ (∀ g, g < T 0 6 → T 3 g < T 0 3) ∧ (∀ g, g < T 0 7 → T 4 g < T 0 3)
theorem idx_mk {T' : RT} {n us gs ks : Nat} (v1 : T' 0 1 = n) (v3 : T' 0 3 = us) (v6 : T' 0 6 = gs) (v7 : T' 0 7 = ks) (a : ∀ j, j < n → (T' (65 + j) 0 = 0 ∨ (4 ≤ T' (65 + j) 0 ∧ T' (65 + j) 0 ≤ 7)) → T' (65 + j) 4 < us) (b : ∀ g, g < gs → T' 3 g < us) (c : ∀ g, g < ks → T' 4 g < us) : idxOk T' := by
  subst v1 v3 v6 v7
  exact ⟨a, b, c⟩
theorem ix_nm {T : RT} (hs : idxOk T) (hn : T 0 1 < 60) (hu : T 0 3 ≤ 20) {v : Nat} : idxOk (tU (tU T 200 2 v) 200 0 1) := by
  obtain ⟨h1, h2, h3⟩ := hs
  refine idx_mk (show _ = T 0 1 from by simp [tU] <;> (repeat' split) <;> (intros; omega)) (show _ = T 0 3 from by simp [tU] <;> (repeat' split) <;> (intros; omega)) (show _ = T 0 6 from by simp [tU] <;> (repeat' split) <;> (intros; omega)) (show _ = T 0 7 from by simp [tU] <;> (repeat' split) <;> (intros; omega)) (fun j hj => ?_) (fun g hg => ?_) (fun g hg => ?_)
  · have a := h1 j hj
    simp [tU] <;> (repeat' split) <;> (intros; omega)
  · rcases Nat.lt_or_ge g (T 0 6) with q | q
    · have a := h2 g q
      simp [tU] <;> (repeat' split) <;> (intros; omega)
    · simp [tU] <;> (repeat' split) <;> (intros; omega)
  · rcases Nat.lt_or_ge g (T 0 7) with q | q
    · have a := h3 g q
      simp [tU] <;> (repeat' split) <;> (intros; omega)
    · simp [tU] <;> (repeat' split) <;> (intros; omega)
theorem ix_ec {T : RT} (hs : idxOk T) (hn : T 0 1 < 60) (hu : T 0 3 ≤ 20) {w : Nat} : idxOk (ecT T w) := by
  obtain ⟨h1, h2, h3⟩ := hs
  refine idx_mk (show _ = T 0 1 from by simp [ecT, tU] <;> (repeat' split) <;> (intros; omega)) (show _ = T 0 3 from by simp [ecT, tU] <;> (repeat' split) <;> (intros; omega)) (show _ = T 0 6 from by simp [ecT, tU] <;> (repeat' split) <;> (intros; omega)) (show _ = T 0 7 from by simp [ecT, tU] <;> (repeat' split) <;> (intros; omega)) (fun j hj => ?_) (fun g hg => ?_) (fun g hg => ?_)
  · have a := h1 j hj
    simp [ecT, tU] <;> (repeat' split) <;> (intros; omega)
  · rcases Nat.lt_or_ge g (T 0 6) with q | q
    · have a := h2 g q
      simp [ecT, tU] <;> (repeat' split) <;> (intros; omega)
    · simp [ecT, tU] <;> (repeat' split) <;> (intros; omega)
  · rcases Nat.lt_or_ge g (T 0 7) with q | q
    · have a := h3 g q
      simp [ecT, tU] <;> (repeat' split) <;> (intros; omega)
    · simp [ecT, tU] <;> (repeat' split) <;> (intros; omega)
theorem ix_op {T : RT} (hs : idxOk T) (hn : T 0 1 < 60) (hu : T 0 3 ≤ 20)  : idxOk (tU T 200 0 2) := by
  obtain ⟨h1, h2, h3⟩ := hs
  refine idx_mk (show _ = T 0 1 from by simp [tU] <;> (repeat' split) <;> (intros; omega)) (show _ = T 0 3 from by simp [tU] <;> (repeat' split) <;> (intros; omega)) (show _ = T 0 6 from by simp [tU] <;> (repeat' split) <;> (intros; omega)) (show _ = T 0 7 from by simp [tU] <;> (repeat' split) <;> (intros; omega)) (fun j hj => ?_) (fun g hg => ?_) (fun g hg => ?_)
  · have a := h1 j hj
    simp [tU] <;> (repeat' split) <;> (intros; omega)
  · rcases Nat.lt_or_ge g (T 0 6) with q | q
    · have a := h2 g q
      simp [tU] <;> (repeat' split) <;> (intros; omega)
    · simp [tU] <;> (repeat' split) <;> (intros; omega)
  · rcases Nat.lt_or_ge g (T 0 7) with q | q
    · have a := h3 g q
      simp [tU] <;> (repeat' split) <;> (intros; omega)
    · simp [tU] <;> (repeat' split) <;> (intros; omega)
theorem ix_lf {T : RT} (hs : idxOk T) (hn : T 0 1 < 60) (hu : T 0 3 ≤ 20) {v : Nat} : idxOk (tU (tU T 200 2 v) 200 0 4) := by
  obtain ⟨h1, h2, h3⟩ := hs
  refine idx_mk (show _ = T 0 1 from by simp [tU] <;> (repeat' split) <;> (intros; omega)) (show _ = T 0 3 from by simp [tU] <;> (repeat' split) <;> (intros; omega)) (show _ = T 0 6 from by simp [tU] <;> (repeat' split) <;> (intros; omega)) (show _ = T 0 7 from by simp [tU] <;> (repeat' split) <;> (intros; omega)) (fun j hj => ?_) (fun g hg => ?_) (fun g hg => ?_)
  · have a := h1 j hj
    simp [tU] <;> (repeat' split) <;> (intros; omega)
  · rcases Nat.lt_or_ge g (T 0 6) with q | q
    · have a := h2 g q
      simp [tU] <;> (repeat' split) <;> (intros; omega)
    · simp [tU] <;> (repeat' split) <;> (intros; omega)
  · rcases Nat.lt_or_ge g (T 0 7) with q | q
    · have a := h3 g q
      simp [tU] <;> (repeat' split) <;> (intros; omega)
    · simp [tU] <;> (repeat' split) <;> (intros; omega)
theorem ix_sg {T : RT} (hs : idxOk T) (hn : T 0 1 < 60) (hu : T 0 3 ≤ 20) {w : Nat} : idxOk (tU (tU T 200 3 w) 200 0 5) := by
  obtain ⟨h1, h2, h3⟩ := hs
  refine idx_mk (show _ = T 0 1 from by simp [tU] <;> (repeat' split) <;> (intros; omega)) (show _ = T 0 3 from by simp [tU] <;> (repeat' split) <;> (intros; omega)) (show _ = T 0 6 from by simp [tU] <;> (repeat' split) <;> (intros; omega)) (show _ = T 0 7 from by simp [tU] <;> (repeat' split) <;> (intros; omega)) (fun j hj => ?_) (fun g hg => ?_) (fun g hg => ?_)
  · have a := h1 j hj
    simp [tU] <;> (repeat' split) <;> (intros; omega)
  · rcases Nat.lt_or_ge g (T 0 6) with q | q
    · have a := h2 g q
      simp [tU] <;> (repeat' split) <;> (intros; omega)
    · simp [tU] <;> (repeat' split) <;> (intros; omega)
  · rcases Nat.lt_or_ge g (T 0 7) with q | q
    · have a := h3 g q
      simp [tU] <;> (repeat' split) <;> (intros; omega)
    · simp [tU] <;> (repeat' split) <;> (intros; omega)
theorem ix_ch {T : RT} (hs : idxOk T) (hn : T 0 1 < 60) (hu : T 0 3 ≤ 20) {k : Nat} (h0 : 1 ≤ k) (hk : k ≤ 3) : idxOk (chT T k) := by
  obtain ⟨h1, h2, h3⟩ := hs
  refine idx_mk (show _ = T 0 1 + 1 from by simp [chT, apT, tU] <;> (repeat' split) <;> (intros; omega)) (show _ = T 0 3 from by simp [chT, apT, tU] <;> (repeat' split) <;> (intros; omega)) (show _ = T 0 6 from by simp [chT, apT, tU] <;> (repeat' split) <;> (intros; omega)) (show _ = T 0 7 from by simp [chT, apT, tU] <;> (repeat' split) <;> (intros; omega)) (fun j hj => ?_) (fun g hg => ?_) (fun g hg => ?_)
  · rcases Nat.lt_or_ge j (T 0 1) with q | q
    · have a := h1 j q
      have q2 : ¬ j = T 0 1 := by omega
      simp [chT, apT, tU, q2] <;> (repeat' split) <;> (intros; omega)
    · obtain rfl : j = T 0 1 := by omega
      simp [chT, apT, tU] <;> (repeat' split) <;> (intros; omega)
  · rcases Nat.lt_or_ge g (T 0 6) with q | q
    · have a := h2 g q
      simp [chT, apT, tU] <;> (repeat' split) <;> (intros; omega)
    · simp [chT, apT, tU] <;> (repeat' split) <;> (intros; omega)
  · rcases Nat.lt_or_ge g (T 0 7) with q | q
    · have a := h3 g q
      simp [chT, apT, tU] <;> (repeat' split) <;> (intros; omega)
    · simp [chT, apT, tU] <;> (repeat' split) <;> (intros; omega)
theorem ix_nv {T : RT} (hs : idxOk T) (hn : T 0 1 < 60) (hu : T 0 3 ≤ 20) {t : Nat} (hu2 : T 0 3 < 20) : idxOk (nvT T t) := by
  obtain ⟨h1, h2, h3⟩ := hs
  refine idx_mk (show _ = T 0 1 + 1 from by simp [nvT, ncT, apT, tU] <;> (repeat' split) <;> (intros; omega)) (show _ = T 0 3 + 1 from by simp [nvT, ncT, apT, tU] <;> (repeat' split) <;> (intros; omega)) (show _ = T 0 6 from by simp [nvT, ncT, apT, tU] <;> (repeat' split) <;> (intros; omega)) (show _ = T 0 7 from by simp [nvT, ncT, apT, tU] <;> (repeat' split) <;> (intros; omega)) (fun j hj => ?_) (fun g hg => ?_) (fun g hg => ?_)
  · rcases Nat.lt_or_ge j (T 0 1) with q | q
    · have a := h1 j q
      have q2 : ¬ j = T 0 1 := by omega
      simp [nvT, ncT, apT, tU, q2] <;> (repeat' split) <;> (intros; omega)
    · obtain rfl : j = T 0 1 := by omega
      simp [nvT, ncT, apT, tU] <;> (repeat' split) <;> (intros; omega)
  · rcases Nat.lt_or_ge g (T 0 6) with q | q
    · have a := h2 g q
      simp [nvT, ncT, apT, tU] <;> (repeat' split) <;> (intros; omega)
    · simp [nvT, ncT, apT, tU] <;> (repeat' split) <;> (intros; omega)
  · rcases Nat.lt_or_ge g (T 0 7) with q | q
    · have a := h3 g q
      simp [nvT, ncT, apT, tU] <;> (repeat' split) <;> (intros; omega)
    · simp [nvT, ncT, apT, tU] <;> (repeat' split) <;> (intros; omega)
theorem ix_oc {T : RT} (hs : idxOk T) (hn : T 0 1 < 60) (hu : T 0 3 ≤ 20)  : idxOk (ocT T) := by
  obtain ⟨h1, h2, h3⟩ := hs
  refine idx_mk (show _ = T 0 1 + 1 from by simp [ocT, apT, phT, tU] <;> (repeat' split) <;> (intros; omega)) (show _ = T 0 3 from by simp [ocT, apT, phT, tU] <;> (repeat' split) <;> (intros; omega)) (show _ = T 0 6 from by simp [ocT, apT, phT, tU] <;> (repeat' split) <;> (intros; omega)) (show _ = T 0 7 from by simp [ocT, apT, phT, tU] <;> (repeat' split) <;> (intros; omega)) (fun j hj => ?_) (fun g hg => ?_) (fun g hg => ?_)
  · rcases Nat.lt_or_ge j (T 0 1) with q | q
    · have a := h1 j q
      have q2 : ¬ j = T 0 1 := by omega
      simp [ocT, apT, phT, tU, q2] <;> (repeat' split) <;> (intros; omega)
    · obtain rfl : j = T 0 1 := by omega
      simp [ocT, apT, phT, tU] <;> (repeat' split) <;> (intros; omega)
  · rcases Nat.lt_or_ge g (T 0 6) with q | q
    · have a := h2 g q
      simp [ocT, apT, phT, tU] <;> (repeat' split) <;> (intros; omega)
    · simp [ocT, apT, phT, tU] <;> (repeat' split) <;> (intros; omega)
  · rcases Nat.lt_or_ge g (T 0 7) with q | q
    · have a := h3 g q
      simp [ocT, apT, phT, tU] <;> (repeat' split) <;> (intros; omega)
    · simp [ocT, apT, phT, tU] <;> (repeat' split) <;> (intros; omega)
theorem ix_cl {T : RT} (hs : idxOk T) (hn : T 0 1 < 60) (hu : T 0 3 ≤ 20) {pl : Nat} (hp : pl < T 0 1) (hk : T (65 + pl) 0 = 6) : idxOk (clT T pl) := by
  obtain ⟨h1, h2, h3⟩ := hs
  have b := h1 pl hp (by omega)
  refine idx_mk (show _ = T 0 1 + 1 from by simp [clT, apT, tU] <;> (repeat' split) <;> (intros; omega)) (show _ = T 0 3 from by simp [clT, apT, tU] <;> (repeat' split) <;> (intros; omega)) (show _ = T 0 6 from by simp [clT, apT, tU] <;> (repeat' split) <;> (intros; omega)) (show _ = T 0 7 from by simp [clT, apT, tU] <;> (repeat' split) <;> (intros; omega)) (fun j hj => ?_) (fun g hg => ?_) (fun g hg => ?_)
  · rcases Nat.lt_or_ge j (T 0 1) with q | q
    · have a := h1 j q
      have q2 : ¬ j = T 0 1 := by omega
      simp [clT, apT, tU, q2] <;> (repeat' split) <;> (intros; omega)
    · obtain rfl : j = T 0 1 := by omega
      simp [clT, apT, tU] <;> (repeat' split) <;> (intros; omega)
  · rcases Nat.lt_or_ge g (T 0 6) with q | q
    · have a := h2 g q
      simp [clT, apT, tU] <;> (repeat' split) <;> (intros; omega)
    · simp [clT, apT, tU] <;> (repeat' split) <;> (intros; omega)
  · rcases Nat.lt_or_ge g (T 0 7) with q | q
    · have a := h3 g q
      simp [clT, apT, tU] <;> (repeat' split) <;> (intros; omega)
    · simp [clT, apT, tU] <;> (repeat' split) <;> (intros; omega)
theorem ix_pb9 {T : RT} (hs : idxOk T) (hn : T 0 1 < 60) (hu : T 0 3 ≤ 20) {pl : Nat} (hp : pl < 60) : idxOk (pbT T pl 9) := by
  obtain ⟨h1, h2, h3⟩ := hs
  refine idx_mk (show _ = T 0 1 + 1 from by simp [pbT, apT, phT, tU] <;> (repeat' split) <;> (intros; omega)) (show _ = T 0 3 from by simp [pbT, apT, phT, tU] <;> (repeat' split) <;> (intros; omega)) (show _ = T 0 6 from by simp [pbT, apT, phT, tU] <;> (repeat' split) <;> (intros; omega)) (show _ = T 0 7 from by simp [pbT, apT, phT, tU] <;> (repeat' split) <;> (intros; omega)) (fun j hj => ?_) (fun g hg => ?_) (fun g hg => ?_)
  · rcases Nat.lt_or_ge j (T 0 1) with q | q
    · have a := h1 j q
      have q2 : ¬ j = T 0 1 := by omega
      simp [pbT, apT, phT, tU, q2] <;> (repeat' split) <;> (intros; omega)
    · obtain rfl : j = T 0 1 := by omega
      simp [pbT, apT, phT, tU] <;> (repeat' split) <;> (intros; omega)
  · rcases Nat.lt_or_ge g (T 0 6) with q | q
    · have a := h2 g q
      simp [pbT, apT, phT, tU] <;> (repeat' split) <;> (intros; omega)
    · simp [pbT, apT, phT, tU] <;> (repeat' split) <;> (intros; omega)
  · rcases Nat.lt_or_ge g (T 0 7) with q | q
    · have a := h3 g q
      simp [pbT, apT, phT, tU] <;> (repeat' split) <;> (intros; omega)
    · simp [pbT, apT, phT, tU] <;> (repeat' split) <;> (intros; omega)
theorem ix_pb10 {T : RT} (hs : idxOk T) (hn : T 0 1 < 60) (hu : T 0 3 ≤ 20) {pl : Nat} (hp : pl < 60) : idxOk (pbT T pl 10) := by
  obtain ⟨h1, h2, h3⟩ := hs
  refine idx_mk (show _ = T 0 1 + 1 from by simp [pbT, apT, phT, tU] <;> (repeat' split) <;> (intros; omega)) (show _ = T 0 3 from by simp [pbT, apT, phT, tU] <;> (repeat' split) <;> (intros; omega)) (show _ = T 0 6 from by simp [pbT, apT, phT, tU] <;> (repeat' split) <;> (intros; omega)) (show _ = T 0 7 from by simp [pbT, apT, phT, tU] <;> (repeat' split) <;> (intros; omega)) (fun j hj => ?_) (fun g hg => ?_) (fun g hg => ?_)
  · rcases Nat.lt_or_ge j (T 0 1) with q | q
    · have a := h1 j q
      have q2 : ¬ j = T 0 1 := by omega
      simp [pbT, apT, phT, tU, q2] <;> (repeat' split) <;> (intros; omega)
    · obtain rfl : j = T 0 1 := by omega
      simp [pbT, apT, phT, tU] <;> (repeat' split) <;> (intros; omega)
  · rcases Nat.lt_or_ge g (T 0 6) with q | q
    · have a := h2 g q
      simp [pbT, apT, phT, tU] <;> (repeat' split) <;> (intros; omega)
    · simp [pbT, apT, phT, tU] <;> (repeat' split) <;> (intros; omega)
  · rcases Nat.lt_or_ge g (T 0 7) with q | q
    · have a := h3 g q
      simp [pbT, apT, phT, tU] <;> (repeat' split) <;> (intros; omega)
    · simp [pbT, apT, phT, tU] <;> (repeat' split) <;> (intros; omega)
theorem ix_tr4 {T : RT} (hs : idxOk T) (hn : T 0 1 < 60) (hu : T 0 3 ≤ 20) {t : Nat} (hu2 : T 0 3 < 20) (hw : T 200 1 = 4) : idxOk (trT T t) := by
  obtain ⟨h1, h2, h3⟩ := hs
  refine idx_mk (show _ = T 0 1 + 1 from by simp [trT, ncT, apT, tU, hw] <;> (repeat' split) <;> (intros; omega)) (show _ = T 0 3 + 1 from by simp [trT, ncT, apT, tU, hw] <;> (repeat' split) <;> (intros; omega)) (show _ = T 0 6 from by simp [trT, ncT, apT, tU, hw] <;> (repeat' split) <;> (intros; omega)) (show _ = T 0 7 from by simp [trT, ncT, apT, tU, hw] <;> (repeat' split) <;> (intros; omega)) (fun j hj => ?_) (fun g hg => ?_) (fun g hg => ?_)
  · rcases Nat.lt_or_ge j (T 0 1) with q | q
    · have a := h1 j q
      have q2 : ¬ j = T 0 1 := by omega
      simp [trT, ncT, apT, tU, hw, q2] <;> (repeat' split) <;> (intros; omega)
    · obtain rfl : j = T 0 1 := by omega
      simp [trT, ncT, apT, tU, hw] <;> (repeat' split) <;> (intros; omega)
  · rcases Nat.lt_or_ge g (T 0 6) with q | q
    · have a := h2 g q
      simp [trT, ncT, apT, tU, hw] <;> (repeat' split) <;> (intros; omega)
    · simp [trT, ncT, apT, tU, hw] <;> (repeat' split) <;> (intros; omega)
  · rcases Nat.lt_or_ge g (T 0 7) with q | q
    · have a := h3 g q
      simp [trT, ncT, apT, tU, hw] <;> (repeat' split) <;> (intros; omega)
    · simp [trT, ncT, apT, tU, hw] <;> (repeat' split) <;> (intros; omega)
theorem ix_tr5 {T : RT} (hs : idxOk T) (hn : T 0 1 < 60) (hu : T 0 3 ≤ 20) {t : Nat} (hu2 : T 0 3 < 20) (hw : T 200 1 = 5) : idxOk (trT T t) := by
  obtain ⟨h1, h2, h3⟩ := hs
  refine idx_mk (show _ = T 0 1 + 1 from by simp [trT, ncT, acT, apT, tU, hw] <;> (repeat' split) <;> (intros; omega)) (show _ = T 0 3 + 1 from by simp [trT, ncT, acT, apT, tU, hw] <;> (repeat' split) <;> (intros; omega)) (show _ = T 0 6 from by simp [trT, ncT, acT, apT, tU, hw] <;> (repeat' split) <;> (intros; omega)) (show _ = T 0 7 + 1 from by simp [trT, ncT, acT, apT, tU, hw] <;> (repeat' split) <;> (intros; omega)) (fun j hj => ?_) (fun g hg => ?_) (fun g hg => ?_)
  · rcases Nat.lt_or_ge j (T 0 1) with q | q
    · have a := h1 j q
      have q2 : ¬ j = T 0 1 := by omega
      simp [trT, ncT, acT, apT, tU, hw, q2] <;> (repeat' split) <;> (intros; omega)
    · obtain rfl : j = T 0 1 := by omega
      simp [trT, ncT, acT, apT, tU, hw] <;> (repeat' split) <;> (intros; omega)
  · rcases Nat.lt_or_ge g (T 0 6) with q | q
    · have a := h2 g q
      simp [trT, ncT, acT, apT, tU, hw] <;> (repeat' split) <;> (intros; omega)
    · simp [trT, ncT, acT, apT, tU, hw] <;> (repeat' split) <;> (intros; omega)
  · rcases Nat.lt_or_ge g (T 0 7) with q | q
    · have a := h3 g q
      simp [trT, ncT, acT, apT, tU, hw] <;> (repeat' split) <;> (intros; omega)
    · simp [trT, ncT, acT, apT, tU, hw] <;> (repeat' split) <;> (intros; omega)
theorem ix_tr6 {T : RT} (hs : idxOk T) (hn : T 0 1 < 60) (hu : T 0 3 ≤ 20) {t : Nat} (hu2 : T 0 3 < 20) (hw : T 200 1 = 6) : idxOk (trT T t) := by
  obtain ⟨h1, h2, h3⟩ := hs
  refine idx_mk (show _ = T 0 1 + 1 from by simp [trT, ncT, olT, apT, phT, tU, hw] <;> (repeat' split) <;> (intros; omega)) (show _ = T 0 3 + 1 from by simp [trT, ncT, olT, apT, phT, tU, hw] <;> (repeat' split) <;> (intros; omega)) (show _ = T 0 6 from by simp [trT, ncT, olT, apT, phT, tU, hw] <;> (repeat' split) <;> (intros; omega)) (show _ = T 0 7 from by simp [trT, ncT, olT, apT, phT, tU, hw] <;> (repeat' split) <;> (intros; omega)) (fun j hj => ?_) (fun g hg => ?_) (fun g hg => ?_)
  · rcases Nat.lt_or_ge j (T 0 1) with q | q
    · have a := h1 j q
      have q2 : ¬ j = T 0 1 := by omega
      simp [trT, ncT, olT, apT, phT, tU, hw, q2] <;> (repeat' split) <;> (intros; omega)
    · obtain rfl : j = T 0 1 := by omega
      simp [trT, ncT, olT, apT, phT, tU, hw] <;> (repeat' split) <;> (intros; omega)
  · rcases Nat.lt_or_ge g (T 0 6) with q | q
    · have a := h2 g q
      simp [trT, ncT, olT, apT, phT, tU, hw] <;> (repeat' split) <;> (intros; omega)
    · simp [trT, ncT, olT, apT, phT, tU, hw] <;> (repeat' split) <;> (intros; omega)
  · rcases Nat.lt_or_ge g (T 0 7) with q | q
    · have a := h3 g q
      simp [trT, ncT, olT, apT, phT, tU, hw] <;> (repeat' split) <;> (intros; omega)
    · simp [trT, ncT, olT, apT, phT, tU, hw] <;> (repeat' split) <;> (intros; omega)
theorem ix_tr7 {T : RT} (hs : idxOk T) (hn : T 0 1 < 60) (hu : T 0 3 ≤ 20) {t : Nat} (hu2 : T 0 3 < 20) (hw : T 200 1 = 4294967295) : idxOk (trT T t) := by
  obtain ⟨h1, h2, h3⟩ := hs
  refine idx_mk (show _ = T 0 1 from by simp [trT, ncT, agT, tU, hw] <;> (repeat' split) <;> (intros; omega)) (show _ = T 0 3 + 1 from by simp [trT, ncT, agT, tU, hw] <;> (repeat' split) <;> (intros; omega)) (show _ = T 0 6 + 1 from by simp [trT, ncT, agT, tU, hw] <;> (repeat' split) <;> (intros; omega)) (show _ = T 0 7 from by simp [trT, ncT, agT, tU, hw] <;> (repeat' split) <;> (intros; omega)) (fun j hj => ?_) (fun g hg => ?_) (fun g hg => ?_)
  · have a := h1 j hj
    simp [trT, ncT, agT, tU, hw] <;> (repeat' split) <;> (intros; omega)
  · rcases Nat.lt_or_ge g (T 0 6) with q | q
    · have a := h2 g q
      simp [trT, ncT, agT, tU, hw] <;> (repeat' split) <;> (intros; omega)
    · simp [trT, ncT, agT, tU, hw] <;> (repeat' split) <;> (intros; omega)
  · rcases Nat.lt_or_ge g (T 0 7) with q | q
    · have a := h3 g q
      simp [trT, ncT, agT, tU, hw] <;> (repeat' split) <;> (intros; omega)
    · simp [trT, ncT, agT, tU, hw] <;> (repeat' split) <;> (intros; omega)
