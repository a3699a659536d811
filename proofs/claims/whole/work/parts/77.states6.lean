/-! ===== states, changed in one variable ===== -/
theorem wth_val {s v x : Nat} (hs : s < 216) (hv : v < 3) (hx : x < 6) : valS (wth s v x) v = x := by
  rcases (show v = 0 ∨ v = 1 ∨ v = 2 by omega) with rfl | rfl | rfl <;> (simp [wth, valS, sgS]; omega)
theorem wth_other {s u v x : Nat} (hs : s < 216) (hu : u < 3) (hv : v < 3) (huv : u ≠ v) (hx : x < 6) : valS (wth s v x) u = valS s u := by
  rcases (show v = 0 ∨ v = 1 ∨ v = 2 by omega) with rfl | rfl | rfl <;> rcases (show u = 0 ∨ u = 1 ∨ u = 2 by omega) with rfl | rfl | rfl <;> first | exact absurd rfl huv | (simp [wth, valS, sgS]; omega)
theorem wth_wth {s v x y : Nat} (hs : s < 216) (hv : v < 3) (hx : x < 6) : wth (wth s v x) v y = wth s v y := by
  rcases (show v = 0 ∨ v = 1 ∨ v = 2 by omega) with rfl | rfl | rfl <;> (simp [wth, valS, sgS]; omega)
theorem wth_id {s v : Nat} (hs : s < 216) : wth s v (valS s v) = s := by
  have := val_sg (v := v) hs
  unfold wth
  omega
def sng (s : Nat) : ST := fun x => decide (x = s)
theorem any6_iff {f : Nat → Bool} : any6 f = true ↔ ∃ w, w < 6 ∧ f w = true := by
  unfold any6
  constructor
  · intro h
    simp only [Bool.or_eq_true] at h
    rcases h with ((((h | h) | h) | h) | h) | h
    · exact ⟨0, by omega, h⟩
    · exact ⟨1, by omega, h⟩
    · exact ⟨2, by omega, h⟩
    · exact ⟨3, by omega, h⟩
    · exact ⟨4, by omega, h⟩
    · exact ⟨5, by omega, h⟩
  · rintro ⟨w, hw, h⟩
    rcases (show w = 0 ∨ w = 1 ∨ w = 2 ∨ w = 3 ∨ w = 4 ∨ w = 5 by omega) with rfl | rfl | rfl | rfl | rfl | rfl <;> simp [h]
theorem fr_iff {v : Nat} {S : ST} {s : Nat} : frS v S s = true ↔ ∃ w, w < 6 ∧ S (wth s v w) = true := any6_iff
/-- s and s2 differ at most in v -/
theorem wth_sym {s s2 v : Nat} (hs : s < 216) (hs2 : s2 < 216) (hv : v < 3) : (∃ w, w < 6 ∧ wth s2 v w = s) ↔ ∃ w, w < 6 ∧ s2 = wth s v w := by
  constructor
  · rintro ⟨w, hw, rfl⟩
    exact ⟨valS s2 v, val_lt hs2, by rw [wth_wth hs2 hv hw, wth_id hs2]⟩
  · rintro ⟨w, hw, rfl⟩
    exact ⟨valS s v, val_lt hs, by rw [wth_wth hs hv hw, wth_id hs]⟩
theorem up_iff {s s2 v : Nat} (hs : s < 216) (hs2 : s2 < 216) (hv : v < 3) : ((1 ≤ valS s2 v ∧ s2 - sgS v = s) ∨ (valS s2 v = 5 ∧ s2 = s)) ↔ s2 = wth s v (if valS s v < 5 then valS s v + 1 else 5) := by
  rcases (show v = 0 ∨ v = 1 ∨ v = 2 by omega) with rfl | rfl | rfl <;> (simp [wth, valS, sgS]; split <;> omega)
theorem dn_iff {s s2 v : Nat} (hs : s < 216) (hs2 : s2 < 216) (hv : v < 3) : ((valS s2 v ≤ 4 ∧ s2 + sgS v = s) ∨ (valS s2 v = 0 ∧ s2 = s)) ↔ s2 = wth s v (if 0 < valS s v then valS s v - 1 else 0) := by
  rcases (show v = 0 ∨ v = 1 ∨ v = 2 by omega) with rfl | rfl | rfl <;> (simp [wth, valS, sgS]; split <;> omega)
/-- the class's program by itself: a simple step, forwards and backwards -/
def tA (A : AP) (k : Nat) : ST := cndT (cA A k)
def fwS (A : AP) (k : Nat) (S : ST) : ST :=
  if kA A k = 0 then fun s => frS (vA A k) S s && tA A k s
  else if kA A k = 1 then shS (vA A k) true true S
  else if kA A k = 2 then shS (vA A k) false false S
  else if kA A k = 3 then frS (vA A k) S
  else fun s => S s && tA A k s
def bwS (A : AP) (k : Nat) (S : ST) : ST :=
  if kA A k = 0 then frS (vA A k) (fun s => S s && tA A k s)
  else if kA A k = 1 then shS (vA A k) false true S
  else if kA A k = 2 then shS (vA A k) true false S
  else if kA A k = 3 then frS (vA A k) S
  else fun s => S s && tA A k s
/-- what a simple step makes of a state -/
def suS (A : AP) (k s s2 : Nat) : Prop :=
  if kA A k = 0 then (∃ w, w < 6 ∧ s2 = wth s (vA A k) w) ∧ tA A k s2 = true
  else if kA A k = 1 then s2 = wth s (vA A k) (if valS s (vA A k) < 5 then valS s (vA A k) + 1 else 5)
  else if kA A k = 2 then s2 = wth s (vA A k) (if 0 < valS s (vA A k) then valS s (vA A k) - 1 else 0)
  else if kA A k = 3 then ∃ w, w < 6 ∧ s2 = wth s (vA A k) w
  else s2 = s ∧ tA A k s = true
theorem fw_iff {A : AP} {k : Nat} {S : ST} {s2 : Nat} (hs2 : s2 < 216) (hv : kA A k ≤ 3 → vA A k < 3) : fwS A k S s2 = true ↔ ∃ s, s < 216 ∧ S s = true ∧ suS A k s s2 := by
  unfold fwS suS
  split
  · rename_i e
    have hv3 := hv (by omega)
    rw [Bool.and_eq_true, fr_iff]
    constructor
    · rintro ⟨⟨w, hw, h1⟩, h2⟩
      exact ⟨wth s2 (vA A k) w, wth_lt hs2 hw, h1, (wth_sym (wth_lt hs2 hw) hs2 hv3).mp ⟨w, hw, rfl⟩, h2⟩
    · rintro ⟨s, hs, h1, h2, h3⟩
      obtain ⟨w, hw, e2⟩ := (wth_sym hs hs2 hv3).mpr h2
      exact ⟨⟨w, hw, by rw [e2]; exact h1⟩, h3⟩
  split
  · rename_i e
    have hv3 := hv (by omega)
    unfold shS
    simp only [if_true, Bool.or_eq_true, Bool.and_eq_true, decide_eq_true_iff]
    constructor
    · rintro (⟨h1, h2⟩ | ⟨h1, h2⟩)
      · exact ⟨s2 - sgS (vA A k), by omega, h2, (up_iff (by omega) hs2 hv3).mp (Or.inl ⟨h1, rfl⟩)⟩
      · exact ⟨s2, hs2, h2, (up_iff hs2 hs2 hv3).mp (Or.inr ⟨h1, rfl⟩)⟩
    · rintro ⟨s, hs, h1, h2⟩
      rcases (up_iff hs hs2 hv3).mpr h2 with ⟨a, b⟩ | ⟨a, b⟩
      · exact Or.inl ⟨a, by rw [b]; exact h1⟩
      · exact Or.inr ⟨a, by rw [b]; exact h1⟩
  split
  · rename_i e
    have hv3 := hv (by omega)
    have hb : valS s2 (vA A k) ≤ 4 → s2 + sgS (vA A k) < 216 := by
      rcases (show vA A k = 0 ∨ vA A k = 1 ∨ vA A k = 2 by omega) with q | q | q <;> (rw [q]; simp [valS, sgS]; omega)
    unfold shS
    simp only [Bool.false_eq_true, if_false, Bool.or_eq_true, Bool.and_eq_true, decide_eq_true_iff]
    constructor
    · rintro (⟨h1, h2⟩ | ⟨h1, h2⟩)
      · exact ⟨s2 + sgS (vA A k), hb h1, h2, (dn_iff (hb h1) hs2 hv3).mp (Or.inl ⟨h1, rfl⟩)⟩
      · exact ⟨s2, hs2, h2, (dn_iff hs2 hs2 hv3).mp (Or.inr ⟨h1, rfl⟩)⟩
    · rintro ⟨s, hs, h1, h2⟩
      rcases (dn_iff hs hs2 hv3).mpr h2 with ⟨a, b⟩ | ⟨a, b⟩
      · exact Or.inl ⟨a, by rw [b]; exact h1⟩
      · exact Or.inr ⟨a, by rw [b]; exact h1⟩
  split
  · rename_i e
    have hv3 := hv (by omega)
    rw [fr_iff]
    constructor
    · rintro ⟨w, hw, h1⟩
      exact ⟨wth s2 (vA A k) w, wth_lt hs2 hw, h1, (wth_sym (wth_lt hs2 hw) hs2 hv3).mp ⟨w, hw, rfl⟩⟩
    · rintro ⟨s, hs, h1, h2⟩
      obtain ⟨w, hw, e2⟩ := (wth_sym hs hs2 hv3).mpr h2
      exact ⟨w, hw, by rw [e2]; exact h1⟩
  · rw [Bool.and_eq_true]
    constructor
    · rintro ⟨h1, h2⟩; exact ⟨s2, hs2, h1, rfl, h2⟩
    · rintro ⟨s, hs, h1, rfl, h2⟩; exact ⟨h1, h2⟩
theorem bw_iff {A : AP} {k : Nat} {S : ST} {s : Nat} (hs : s < 216) (hv : kA A k ≤ 3 → vA A k < 3) : bwS A k S s = true ↔ ∃ s2, s2 < 216 ∧ S s2 = true ∧ suS A k s s2 := by
  unfold bwS suS
  split
  · rename_i e
    have hv3 := hv (by omega)
    rw [fr_iff]
    constructor
    · rintro ⟨w, hw, h1⟩
      rw [Bool.and_eq_true] at h1
      exact ⟨wth s (vA A k) w, wth_lt hs hw, h1.1, ⟨w, hw, rfl⟩, h1.2⟩
    · rintro ⟨s2, hs2, h1, ⟨w, hw, rfl⟩, h3⟩
      exact ⟨w, hw, by rw [Bool.and_eq_true]; exact ⟨h1, h3⟩⟩
  split
  · rename_i e
    have hv3 := hv (by omega)
    have hvl := val_lt (v := vA A k) hs
    have hb : valS s (vA A k) ≤ 4 → s + sgS (vA A k) = wth s (vA A k) (valS s (vA A k) + 1) := by
      intro h
      rcases (show vA A k = 0 ∨ vA A k = 1 ∨ vA A k = 2 by omega) with q | q | q <;> (rw [q] at h ⊢; simp [wth, valS, sgS] at h ⊢; omega)
    unfold shS
    simp only [Bool.false_eq_true, if_false, if_true, Bool.or_eq_true, Bool.and_eq_true, decide_eq_true_iff]
    constructor
    · rintro (⟨h1, h2⟩ | ⟨h1, h2⟩)
      · exact ⟨s + sgS (vA A k), by rw [hb h1]; exact wth_lt hs (by omega), h2, by rw [if_pos (by omega)]; exact hb h1⟩
      · exact ⟨s, hs, h2, by rw [if_neg (by omega), ← h1, wth_id hs]⟩
    · rintro ⟨s2, hs2, h1, rfl⟩
      by_cases q : valS s (vA A k) < 5
      · rw [if_pos q] at h1
        exact Or.inl ⟨by omega, by rw [hb (by omega)]; exact h1⟩
      · rw [if_neg q] at h1
        have e5 : valS s (vA A k) = 5 := by omega
        rw [← e5, wth_id hs] at h1
        exact Or.inr ⟨e5, h1⟩
  split
  · rename_i e
    have hv3 := hv (by omega)
    have hb : 1 ≤ valS s (vA A k) → s - sgS (vA A k) = wth s (vA A k) (valS s (vA A k) - 1) := by
      intro h
      rcases (show vA A k = 0 ∨ vA A k = 1 ∨ vA A k = 2 by omega) with q | q | q <;> (rw [q] at h ⊢; simp [wth, valS, sgS] at h ⊢; omega)
    have hvl := val_lt (v := vA A k) hs
    unfold shS
    simp only [Bool.false_eq_true, if_false, if_true, Bool.or_eq_true, Bool.and_eq_true, decide_eq_true_iff]
    constructor
    · rintro (⟨h1, h2⟩ | ⟨h1, h2⟩)
      · exact ⟨s - sgS (vA A k), by omega, h2, by rw [if_pos (by omega)]; exact hb h1⟩
      · exact ⟨s, hs, h2, by rw [if_neg (by omega), ← h1, wth_id hs]⟩
    · rintro ⟨s2, hs2, h1, rfl⟩
      by_cases q : 0 < valS s (vA A k)
      · rw [if_pos q] at h1
        exact Or.inl ⟨by omega, by rw [hb (by omega)]; exact h1⟩
      · rw [if_neg q] at h1
        have e5 : valS s (vA A k) = 0 := by omega
        rw [← e5, wth_id hs] at h1
        exact Or.inr ⟨e5, h1⟩
  split
  · rw [fr_iff]
    constructor
    · rintro ⟨w, hw, h1⟩; exact ⟨wth s (vA A k) w, wth_lt hs hw, h1, w, hw, rfl⟩
    · rintro ⟨s2, hs2, h1, w, hw, rfl⟩; exact ⟨w, hw, h1⟩
  · rw [Bool.and_eq_true]
    constructor
    · rintro ⟨h1, h2⟩; exact ⟨s, hs, h1, rfl, h2⟩
    · rintro ⟨s2, hs2, h1, rfl, h2⟩; exact ⟨h1, h2⟩
/-- an edge of the class's program -/
def edC (A : AP) (k s k' s' : Nat) : Prop :=
  if kA A k ≤ 5 then k' = k + 1 ∧ suS A k s s'
  else if kA A k = 6 then k' = (if tA A k s then k + 1 else lA A k + 1) ∧ s' = s
  else if kA A k = 7 then k' = lA A k ∧ s' = s
  else if kA A k = 8 then (k' = k + 1 ∨ k' = lA A k + 1) ∧ s' = s
  else if kA A k = 9 then k' = lA A k ∧ s' = s
  else k' = k + 1 ∧ s' = s
