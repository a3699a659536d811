/-! ===== the conditions named by a program are among those made ===== -/
def idxOk (T : RT) : Prop := (∀ j, j < T 0 1 → (T (65 + j) 0 = 0 ∨ (4 ≤ T (65 + j) 0 ∧ T (65 + j) 0 ≤ 7)) → T (65 + j) 4 < T 0 3) ∧ (∀ g, g < T 0 6 → T 3 g < T 0 3) ∧ (∀ g, g < T 0 7 → T 4 g < T 0 3)
theorem idx_mk {T' : RT} {n us gs ks : Nat} (v1 : T' 0 1 = n) (v3 : T' 0 3 = us) (v6 : T' 0 6 = gs) (v7 : T' 0 7 = ks) (a : ∀ j, j < n → (T' (65 + j) 0 = 0 ∨ (4 ≤ T' (65 + j) 0 ∧ T' (65 + j) 0 ≤ 7)) → T' (65 + j) 4 < us) (b : ∀ g, g < gs → T' 3 g < us) (c : ∀ g, g < ks → T' 4 g < us) : idxOk T' := by
  subst v1 v3 v6 v7
  exact ⟨a, b, c⟩
theorem ix_nm {T : RT} (hs : idxOk T) (hn : T 0 1 < 60) (hu : T 0 3 ≤ 20) {v : Nat} : idxOk (tU (tU T 200 2 v) 200 0 1) := by
  obtain ⟨h1, h2, h3⟩ := hs
  refine idx_mk (show _ = T 0 1 from by simp [tU] <;> (repeat' split) <;> (intros; omega)) (show _ = T 0 3 from by simp [tU] <;> (repeat' split) <;> (intros; omega)) (show _ = T 0 6 from by simp [tU] <;> (repeat' split) <;> (intros; omega)) (show _ = T 0 7 from by simp [tU] <;> (repeat' split) <;> (intros; omega)) (fun j hj => ?_) (fun g hg => ?_) (fun g hg => ?_)
  · have a := h1 j hj
    simp [tU] <;> (repeat' split) <;> (intros; omega)
  · rcases Nat.lt_or_ge g (T 0 6) with q | q
    · have a := h2 g q
      simp [tU] <;> (repeat' split) <;> (intros; omega)
    · simp [tU] <;> (repeat' split) <;> (intros; omega)
  · rcases Nat.lt_or_ge g (T 0 7) with q | q
    · have a := h3 g q
      simp [tU] <;> (repeat' split) <;> (intros; omega)
    · simp [tU] <;> (repeat' split) <;> (intros; omega)
theorem ix_ec {T : RT} (hs : idxOk T) (hn : T 0 1 < 60) (hu : T 0 3 ≤ 20) {w : Nat} : idxOk (ecT T w) := by
  obtain ⟨h1, h2, h3⟩ := hs
  refine idx_mk (show _ = T 0 1 from by simp [ecT, tU] <;> (repeat' split) <;> (intros; omega)) (show _ = T 0 3 from by simp [ecT, tU] <;> (repeat' split) <;> (intros; omega)) (show _ = T 0 6 from by simp [ecT, tU] <;> (repeat' split) <;> (intros; omega)) (show _ = T 0 7 from by simp [ecT, tU] <;> (repeat' split) <;> (intros; omega)) (fun j hj => ?_) (fun g hg => ?_) (fun g hg => ?_)
  · have a := h1 j hj
    simp [ecT, tU] <;> (repeat' split) <;> (intros; omega)
  · rcases Nat.lt_or_ge g (T 0 6) with q | q
    · have a := h2 g q
      simp [ecT, tU] <;> (repeat' split) <;> (intros; omega)
    · simp [ecT, tU] <;> (repeat' split) <;> (intros; omega)
  · rcases Nat.lt_or_ge g (T 0 7) with q | q
    · have a := h3 g q
      simp [ecT, tU] <;> (repeat' split) <;> (intros; omega)
    · simp [ecT, tU] <;> (repeat' split) <;> (intros; omega)
theorem ix_op {T : RT} (hs : idxOk T) (hn : T 0 1 < 60) (hu : T 0 3 ≤ 20)  : idxOk (tU T 200 0 2) := by
  obtain ⟨h1, h2, h3⟩ := hs
  refine idx_mk (show _ = T 0 1 from by simp [tU] <;> (repeat' split) <;> (intros; omega)) (show _ = T 0 3 from by simp [tU] <;> (repeat' split) <;> (intros; omega)) (show _ = T 0 6 from by simp [tU] <;> (repeat' split) <;> (intros; omega)) (show _ = T 0 7 from by simp [tU] <;> (repeat' split) <;> (intros; omega)) (fun j hj => ?_) (fun g hg => ?_) (fun g hg => ?_)
  · have a := h1 j hj
    simp [tU] <;> (repeat' split) <;> (intros; omega)
  · rcases Nat.lt_or_ge g (T 0 6) with q | q
    · have a := h2 g q
      simp [tU] <;> (repeat' split) <;> (intros; omega)
    · simp [tU] <;> (repeat' split) <;> (intros; omega)
  · rcases Nat.lt_or_ge g (T 0 7) with q | q
    · have a := h3 g q
      simp [tU] <;> (repeat' split) <;> (intros; omega)
    · simp [tU] <;> (repeat' split) <;> (intros; omega)
theorem ix_lf {T : RT} (hs : idxOk T) (hn : T 0 1 < 60) (hu : T 0 3 ≤ 20) {v : Nat} : idxOk (tU (tU T 200 2 v) 200 0 4) := by
  obtain ⟨h1, h2, h3⟩ := hs
  refine idx_mk (show _ = T 0 1 from by simp [tU] <;> (repeat' split) <;> (intros; omega)) (show _ = T 0 3 from by simp [tU] <;> (repeat' split) <;> (intros; omega)) (show _ = T 0 6 from by simp [tU] <;> (repeat' split) <;> (intros; omega)) (show _ = T 0 7 from by simp [tU] <;> (repeat' split) <;> (intros; omega)) (fun j hj => ?_) (fun g hg => ?_) (fun g hg => ?_)
  · have a := h1 j hj
    simp [tU] <;> (repeat' split) <;> (intros; omega)
  · rcases Nat.lt_or_ge g (T 0 6) with q | q
    · have a := h2 g q
      simp [tU] <;> (repeat' split) <;> (intros; omega)
    · simp [tU] <;> (repeat' split) <;> (intros; omega)
  · rcases Nat.lt_or_ge g (T 0 7) with q | q
    · have a := h3 g q
      simp [tU] <;> (repeat' split) <;> (intros; omega)
    · simp [tU] <;> (repeat' split) <;> (intros; omega)
theorem ix_sg {T : RT} (hs : idxOk T) (hn : T 0 1 < 60) (hu : T 0 3 ≤ 20) {w : Nat} : idxOk (tU (tU T 200 3 w) 200 0 5) := by
  obtain ⟨h1, h2, h3⟩ := hs
  refine idx_mk (show _ = T 0 1 from by simp [tU] <;> (repeat' split) <;> (intros; omega)) (show _ = T 0 3 from by simp [tU] <;> (repeat' split) <;> (intros; omega)) (show _ = T 0 6 from by simp [tU] <;> (repeat' split) <;> (intros; omega)) (show _ = T 0 7 from by simp [tU] <;> (repeat' split) <;> (intros; omega)) (fun j hj => ?_) (fun g hg => ?_) (fun g hg => ?_)
  · have a := h1 j hj
    simp [tU] <;> (repeat' split) <;> (intros; omega)
  · rcases Nat.lt_or_ge g (T 0 6) with q | q
    · have a := h2 g q
      simp [tU] <;> (repeat' split) <;> (intros; omega)
    · simp [tU] <;> (repeat' split) <;> (intros; omega)
  · rcases Nat.lt_or_ge g (T 0 7) with q | q
    · have a := h3 g q
      simp [tU] <;> (repeat' split) <;> (intros; omega)
    · simp [tU] <;> (repeat' split) <;> (intros; omega)
theorem ix_ch {T : RT} (hs : idxOk T) (hn : T 0 1 < 60) (hu : T 0 3 ≤ 20) {k : Nat} (h0 : 1 ≤ k) (hk : k ≤ 3) : idxOk (chT T k) := by
  obtain ⟨h1, h2, h3⟩ := hs
  refine idx_mk (show _ = T 0 1 + 1 from by simp [chT, apT, tU] <;> (repeat' split) <;> (intros; omega)) (show _ = T 0 3 from by simp [chT, apT, tU] <;> (repeat' split) <;> (intros; omega)) (show _ = T 0 6 from by simp [chT, apT, tU] <;> (repeat' split) <;> (intros; omega)) (show _ = T 0 7 from by simp [chT, apT, tU] <;> (repeat' split) <;> (intros; omega)) (fun j hj => ?_) (fun g hg => ?_) (fun g hg => ?_)
  · rcases Nat.lt_or_ge j (T 0 1) with q | q
    · have a := h1 j q
      have q2 : ¬ j = T 0 1 := by omega
      simp [chT, apT, tU, q2] <;> (repeat' split) <;> (intros; omega)
    · obtain rfl : j = T 0 1 := by omega
      simp [chT, apT, tU] <;> (repeat' split) <;> (intros; omega)
  · rcases Nat.lt_or_ge g (T 0 6) with q | q
    · have a := h2 g q
      simp [chT, apT, tU] <;> (repeat' split) <;> (intros; omega)
    · simp [chT, apT, tU] <;> (repeat' split) <;> (intros; omega)
  · rcases Nat.lt_or_ge g (T 0 7) with q | q
    · have a := h3 g q
      simp [chT, apT, tU] <;> (repeat' split) <;> (intros; omega)
    · simp [chT, apT, tU] <;> (repeat' split) <;> (intros; omega)
theorem ix_nv {T : RT} (hs : idxOk T) (hn : T 0 1 < 60) (hu : T 0 3 ≤ 20) {t : Nat} (hu2 : T 0 3 < 20) : idxOk (nvT T t) := by
  obtain ⟨h1, h2, h3⟩ := hs
  refine idx_mk (show _ = T 0 1 + 1 from by simp [nvT, ncT, apT, tU] <;> (repeat' split) <;> (intros; omega)) (show _ = T 0 3 + 1 from by simp [nvT, ncT, apT, tU] <;> (repeat' split) <;> (intros; omega)) (show _ = T 0 6 from by simp [nvT, ncT, apT, tU] <;> (repeat' split) <;> (intros; omega)) (show _ = T 0 7 from by simp [nvT, ncT, apT, tU] <;> (repeat' split) <;> (intros; omega)) (fun j hj => ?_) (fun g hg => ?_) (fun g hg => ?_)
  · rcases Nat.lt_or_ge j (T 0 1) with q | q
    · have a := h1 j q
      have q2 : ¬ j = T 0 1 := by omega
      simp [nvT, ncT, apT, tU, q2] <;> (repeat' split) <;> (intros; omega)
    · obtain rfl : j = T 0 1 := by omega
      simp [nvT, ncT, apT, tU] <;> (repeat' split) <;> (intros; omega)
  · rcases Nat.lt_or_ge g (T 0 6) with q | q
    · have a := h2 g q
      simp [nvT, ncT, apT, tU] <;> (repeat' split) <;> (intros; omega)
    · simp [nvT, ncT, apT, tU] <;> (repeat' split) <;> (intros; omega)
  · rcases Nat.lt_or_ge g (T 0 7) with q | q
    · have a := h3 g q
      simp [nvT, ncT, apT, tU] <;> (repeat' split) <;> (intros; omega)
    · simp [nvT, ncT, apT, tU] <;> (repeat' split) <;> (intros; omega)
