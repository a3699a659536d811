/-! ===== the table keeps its form, letter by letter ===== -/
def pnd (e : Nat) : Nat := if e = 1 ∨ e = 3 then 1 else if e = 2 ∨ e = 4 then 2 else if e = 5 then 3 else 0
theorem ok_mk {T' : RT} {i n us ex ow va dp gs ks lp co : Nat} (v01 : T' 0 1 = n) (v03 : T' 0 3 = us) (v2000 : T' 200 0 = ex) (v2001 : T' 200 1 = ow) (v2002 : T' 200 2 = va) (v2005 : T' 200 5 = dp) (v06 : T' 0 6 = gs) (v07 : T' 0 7 = ks) (v08 : T' 0 8 = lp) (v09 : T' 0 9 = co) (e1 : n ≤ i) (e2 : 3 * us + pnd ex ≤ i) (e3 : ex ≤ 6) (e4 : va < 3) (e5 : dp ≤ lp + co) (e6 : lp ≤ 3) (e7 : co ≤ 3) (e8 : gs ≤ 5) (e9 : ks ≤ 4) (e10 : ∀ j, j < dp → T' 201 j < n) (e11 : ∀ j, j < 60 → T' (65 + j) 0 ≤ 10) (e12 : 3 ≤ ex → ex ≤ 5 → ow = 4 ∨ (ow = 5 ∧ ks < 4) ∨ (ow = 6 ∧ lp < 3) ∨ (ow = 4294967295 ∧ gs < 5)) : rdOk T' i := by
  subst v01 v03 v2000 v2001 v2002 v2005 v06 v07 v08 v09
  exact ⟨e1, e2, e3, e4, e5, e6, e7, e8, e9, e10, e11, e12⟩
theorem ok_nm {T : RT} {i : Nat} (h : rdOk T i) (hi : i < 60) (hx : T 200 0 = 0) {v : Nat} (hv : v < 3) : rdOk (tU (tU T 200 2 v) 200 0 1) (i + 1) := by
  obtain ⟨o1, o2, o3, o4, o5, o6, o7, o8, o9, o10, o11, o12⟩ := h
  have o2p : 3 * T 0 3 + 0 ≤ i := by rw [hx] at o2; simpa using o2
  refine ok_mk (show _ = T 0 1 from by simp [tU] <;> (repeat' split) <;> (intros; omega)) (show _ = T 0 3 from by simp [tU] <;> (repeat' split) <;> (intros; omega)) (show _ = 1 from by simp [tU] <;> (repeat' split) <;> (intros; omega)) (show _ = T 200 1 from by simp [tU] <;> (repeat' split) <;> (intros; omega)) (show _ = v from by simp [tU] <;> (repeat' split) <;> (intros; omega)) (show _ = T 200 5 from by simp [tU] <;> (repeat' split) <;> (intros; omega)) (show _ = T 0 6 from by simp [tU] <;> (repeat' split) <;> (intros; omega)) (show _ = T 0 7 from by simp [tU] <;> (repeat' split) <;> (intros; omega)) (show _ = T 0 8 from by simp [tU] <;> (repeat' split) <;> (intros; omega)) (show _ = T 0 9 from by simp [tU] <;> (repeat' split) <;> (intros; omega)) (by omega) (by simp only [pnd]; (repeat' split) <;> omega) (by omega) (by omega) (by omega) (by omega) (by omega) (by omega) (by omega) (fun j hj => ?_) (fun j hj => ?_) (fun q1 q2 => (by omega))
  · by_cases q : j < T 200 5
    · have a := o10 j q
      simp [tU] <;> (repeat' split) <;> (intros; omega)
    · simp [tU] <;> (repeat' split) <;> (intros; omega)
  · have a := o11 j hj
    simp [tU] <;> (repeat' split) <;> (intros; omega)
theorem ok_ec {T : RT} {i : Nat} (h : rdOk T i) (hi : i < 60) (hx : T 200 0 = 0) {w : Nat} (hw : w = 4 ∨ (w = 5 ∧ T 0 7 < 4) ∨ (w = 6 ∧ T 0 8 < 3) ∨ (w = 4294967295 ∧ T 0 6 < 5)) : rdOk (ecT T w) (i + 1) := by
  obtain ⟨o1, o2, o3, o4, o5, o6, o7, o8, o9, o10, o11, o12⟩ := h
  have o2p : 3 * T 0 3 + 0 ≤ i := by rw [hx] at o2; simpa using o2
  refine ok_mk (show _ = T 0 1 from by simp [ecT, tU] <;> (repeat' split) <;> (intros; omega)) (show _ = T 0 3 from by simp [ecT, tU] <;> (repeat' split) <;> (intros; omega)) (show _ = 3 from by simp [ecT, tU] <;> (repeat' split) <;> (intros; omega)) (show _ = w from by simp [ecT, tU] <;> (repeat' split) <;> (intros; omega)) (show _ = T 200 2 from by simp [ecT, tU] <;> (repeat' split) <;> (intros; omega)) (show _ = T 200 5 from by simp [ecT, tU] <;> (repeat' split) <;> (intros; omega)) (show _ = T 0 6 from by simp [ecT, tU] <;> (repeat' split) <;> (intros; omega)) (show _ = T 0 7 from by simp [ecT, tU] <;> (repeat' split) <;> (intros; omega)) (show _ = T 0 8 from by simp [ecT, tU] <;> (repeat' split) <;> (intros; omega)) (show _ = T 0 9 from by simp [ecT, tU] <;> (repeat' split) <;> (intros; omega)) (by omega) (by simp only [pnd]; (repeat' split) <;> omega) (by omega) (by omega) (by omega) (by omega) (by omega) (by omega) (by omega) (fun j hj => ?_) (fun j hj => ?_) (fun q1 q2 => hw)
  · by_cases q : j < T 200 5
    · have a := o10 j q
      simp [ecT, tU] <;> (repeat' split) <;> (intros; omega)
    · simp [ecT, tU] <;> (repeat' split) <;> (intros; omega)
  · have a := o11 j hj
    simp [ecT, tU] <;> (repeat' split) <;> (intros; omega)
theorem ok_ec6 {T : RT} {i : Nat} (h : rdOk T i) (hi : i < 60) (hx : T 200 0 = 6) {w : Nat} (hw : w = 4 ∨ (w = 5 ∧ T 0 7 < 4) ∨ (w = 6 ∧ T 0 8 < 3) ∨ (w = 4294967295 ∧ T 0 6 < 5)) : rdOk (ecT T w) (i + 1) := by
  obtain ⟨o1, o2, o3, o4, o5, o6, o7, o8, o9, o10, o11, o12⟩ := h
  have o2p : 3 * T 0 3 + 0 ≤ i := by rw [hx] at o2; simpa using o2
  refine ok_mk (show _ = T 0 1 from by simp [ecT, tU] <;> (repeat' split) <;> (intros; omega)) (show _ = T 0 3 from by simp [ecT, tU] <;> (repeat' split) <;> (intros; omega)) (show _ = 3 from by simp [ecT, tU] <;> (repeat' split) <;> (intros; omega)) (show _ = w from by simp [ecT, tU] <;> (repeat' split) <;> (intros; omega)) (show _ = T 200 2 from by simp [ecT, tU] <;> (repeat' split) <;> (intros; omega)) (show _ = T 200 5 from by simp [ecT, tU] <;> (repeat' split) <;> (intros; omega)) (show _ = T 0 6 from by simp [ecT, tU] <;> (repeat' split) <;> (intros; omega)) (show _ = T 0 7 from by simp [ecT, tU] <;> (repeat' split) <;> (intros; omega)) (show _ = T 0 8 from by simp [ecT, tU] <;> (repeat' split) <;> (intros; omega)) (show _ = T 0 9 from by simp [ecT, tU] <;> (repeat' split) <;> (intros; omega)) (by omega) (by simp only [pnd]; (repeat' split) <;> omega) (by omega) (by omega) (by omega) (by omega) (by omega) (by omega) (by omega) (fun j hj => ?_) (fun j hj => ?_) (fun q1 q2 => hw)
  · by_cases q : j < T 200 5
    · have a := o10 j q
      simp [ecT, tU] <;> (repeat' split) <;> (intros; omega)
    · simp [ecT, tU] <;> (repeat' split) <;> (intros; omega)
  · have a := o11 j hj
    simp [ecT, tU] <;> (repeat' split) <;> (intros; omega)
theorem ok_cl {T : RT} {i : Nat} (h : rdOk T i) (hi : i < 60) (hx : T 200 0 = 0) {pl : Nat} (hp : pl < 60) : rdOk (clT T pl) (i + 1) := by
  obtain ⟨o1, o2, o3, o4, o5, o6, o7, o8, o9, o10, o11, o12⟩ := h
  have o2p : 3 * T 0 3 + 0 ≤ i := by rw [hx] at o2; simpa using o2
  refine ok_mk (show _ = T 0 1 + 1 from by simp [clT, apT, tU] <;> (repeat' split) <;> (intros; omega)) (show _ = T 0 3 from by simp [clT, apT, tU] <;> (repeat' split) <;> (intros; omega)) (show _ = 0 from by simp [clT, apT, tU] <;> (repeat' split) <;> (intros; omega)) (show _ = T 200 1 from by simp [clT, apT, tU] <;> (repeat' split) <;> (intros; omega)) (show _ = T 200 2 from by simp [clT, apT, tU] <;> (repeat' split) <;> (intros; omega)) (show _ = T 200 5 - 1 from by simp [clT, apT, tU] <;> (repeat' split) <;> (intros; omega)) (show _ = T 0 6 from by simp [clT, apT, tU] <;> (repeat' split) <;> (intros; omega)) (show _ = T 0 7 from by simp [clT, apT, tU] <;> (repeat' split) <;> (intros; omega)) (show _ = T 0 8 from by simp [clT, apT, tU] <;> (repeat' split) <;> (intros; omega)) (show _ = T 0 9 from by simp [clT, apT, tU] <;> (repeat' split) <;> (intros; omega)) (by omega) (by simp only [pnd]; (repeat' split) <;> omega) (by omega) (by omega) (by omega) (by omega) (by omega) (by omega) (by omega) (fun j hj => ?_) (fun j hj => ?_) (fun q1 q2 => (by omega))
  · by_cases q : j < T 200 5
    · have a := o10 j q
      simp [clT, apT, tU] <;> (repeat' split) <;> (intros; omega)
    · simp [clT, apT, tU] <;> (repeat' split) <;> (intros; omega)
  · have a := o11 j hj
    simp [clT, apT, tU] <;> (repeat' split) <;> (intros; omega)
theorem ok_pb10 {T : RT} {i : Nat} (h : rdOk T i) (hi : i < 60) (hx : T 200 0 = 0) {pl : Nat} (hp : pl < 60) : rdOk (pbT T pl 10) (i + 1) := by
  obtain ⟨o1, o2, o3, o4, o5, o6, o7, o8, o9, o10, o11, o12⟩ := h
  have o2p : 3 * T 0 3 + 0 ≤ i := by rw [hx] at o2; simpa using o2
  refine ok_mk (show _ = T 0 1 + 1 from by simp [pbT, apT, phT, tU] <;> (repeat' split) <;> (intros; omega)) (show _ = T 0 3 from by simp [pbT, apT, phT, tU] <;> (repeat' split) <;> (intros; omega)) (show _ = 0 from by simp [pbT, apT, phT, tU] <;> (repeat' split) <;> (intros; omega)) (show _ = T 200 1 from by simp [pbT, apT, phT, tU] <;> (repeat' split) <;> (intros; omega)) (show _ = T 200 2 from by simp [pbT, apT, phT, tU] <;> (repeat' split) <;> (intros; omega)) (show _ = T 200 5 - 1 from by simp [pbT, apT, phT, tU] <;> (repeat' split) <;> (intros; omega)) (show _ = T 0 6 from by simp [pbT, apT, phT, tU] <;> (repeat' split) <;> (intros; omega)) (show _ = T 0 7 from by simp [pbT, apT, phT, tU] <;> (repeat' split) <;> (intros; omega)) (show _ = T 0 8 from by simp [pbT, apT, phT, tU] <;> (repeat' split) <;> (intros; omega)) (show _ = T 0 9 from by simp [pbT, apT, phT, tU] <;> (repeat' split) <;> (intros; omega)) (by omega) (by simp only [pnd]; (repeat' split) <;> omega) (by omega) (by omega) (by omega) (by omega) (by omega) (by omega) (by omega) (fun j hj => ?_) (fun j hj => ?_) (fun q1 q2 => (by omega))
  · by_cases q : j < T 200 5
    · have a := o10 j q
      simp [pbT, apT, phT, tU] <;> (repeat' split) <;> (intros; omega)
    · simp [pbT, apT, phT, tU] <;> (repeat' split) <;> (intros; omega)
  · have a := o11 j hj
    simp [pbT, apT, phT, tU] <;> (repeat' split) <;> (intros; omega)
theorem ok_pb9 {T : RT} {i : Nat} (h : rdOk T i) (hi : i < 60) (hx : T 200 0 = 0) {pl : Nat} (hp : pl < 60) (h1 : 1 ≤ T 200 5) : rdOk (pbT T pl 9) (i + 1) := by
  obtain ⟨o1, o2, o3, o4, o5, o6, o7, o8, o9, o10, o11, o12⟩ := h
  have o2p : 3 * T 0 3 + 0 ≤ i := by rw [hx] at o2; simpa using o2
  refine ok_mk (show _ = T 0 1 + 1 from by simp [pbT, apT, phT, tU] <;> (repeat' split) <;> (intros; omega)) (show _ = T 0 3 from by simp [pbT, apT, phT, tU] <;> (repeat' split) <;> (intros; omega)) (show _ = 0 from by simp [pbT, apT, phT, tU] <;> (repeat' split) <;> (intros; omega)) (show _ = T 200 1 from by simp [pbT, apT, phT, tU] <;> (repeat' split) <;> (intros; omega)) (show _ = T 200 2 from by simp [pbT, apT, phT, tU] <;> (repeat' split) <;> (intros; omega)) (show _ = T 200 5 from by simp [pbT, apT, phT, tU] <;> (repeat' split) <;> (intros; omega)) (show _ = T 0 6 from by simp [pbT, apT, phT, tU] <;> (repeat' split) <;> (intros; omega)) (show _ = T 0 7 from by simp [pbT, apT, phT, tU] <;> (repeat' split) <;> (intros; omega)) (show _ = T 0 8 from by simp [pbT, apT, phT, tU] <;> (repeat' split) <;> (intros; omega)) (show _ = T 0 9 from by simp [pbT, apT, phT, tU] <;> (repeat' split) <;> (intros; omega)) (by omega) (by simp only [pnd]; (repeat' split) <;> omega) (by omega) (by omega) (by omega) (by omega) (by omega) (by omega) (by omega) (fun j hj => ?_) (fun j hj => ?_) (fun q1 q2 => (by omega))
  · by_cases q : j < T 200 5
    · have a := o10 j q
      simp [pbT, apT, phT, tU] <;> (repeat' split) <;> (intros; omega)
    · simp [pbT, apT, phT, tU] <;> (repeat' split) <;> (intros; omega)
  · have a := o11 j hj
    simp [pbT, apT, phT, tU] <;> (repeat' split) <;> (intros; omega)
theorem ok_oc {T : RT} {i : Nat} (h : rdOk T i) (hi : i < 60) (hx : T 200 0 = 0) (h3 : T 0 9 < 3) : rdOk (ocT T) (i + 1) := by
  obtain ⟨o1, o2, o3, o4, o5, o6, o7, o8, o9, o10, o11, o12⟩ := h
  have o2p : 3 * T 0 3 + 0 ≤ i := by rw [hx] at o2; simpa using o2
  refine ok_mk (show _ = T 0 1 + 1 from by simp [ocT, apT, phT, tU] <;> (repeat' split) <;> (intros; omega)) (show _ = T 0 3 from by simp [ocT, apT, phT, tU] <;> (repeat' split) <;> (intros; omega)) (show _ = 0 from by simp [ocT, apT, phT, tU] <;> (repeat' split) <;> (intros; omega)) (show _ = T 200 1 from by simp [ocT, apT, phT, tU] <;> (repeat' split) <;> (intros; omega)) (show _ = T 200 2 from by simp [ocT, apT, phT, tU] <;> (repeat' split) <;> (intros; omega)) (show _ = T 200 5 + 1 from by simp [ocT, apT, phT, tU] <;> (repeat' split) <;> (intros; omega)) (show _ = T 0 6 from by simp [ocT, apT, phT, tU] <;> (repeat' split) <;> (intros; omega)) (show _ = T 0 7 from by simp [ocT, apT, phT, tU] <;> (repeat' split) <;> (intros; omega)) (show _ = T 0 8 from by simp [ocT, apT, phT, tU] <;> (repeat' split) <;> (intros; omega)) (show _ = T 0 9 + 1 from by simp [ocT, apT, phT, tU] <;> (repeat' split) <;> (intros; omega)) (by omega) (by simp only [pnd]; (repeat' split) <;> omega) (by omega) (by omega) (by omega) (by omega) (by omega) (by omega) (by omega) (fun j hj => ?_) (fun j hj => ?_) (fun q1 q2 => (by omega))
  · by_cases q : j < T 200 5
    · have a := o10 j q
      simp [ocT, apT, phT, tU] <;> (repeat' split) <;> (intros; omega)
    · simp [ocT, apT, phT, tU] <;> (repeat' split) <;> (intros; omega)
  · have a := o11 j hj
    simp [ocT, apT, phT, tU] <;> (repeat' split) <;> (intros; omega)
theorem ok_op {T : RT} {i : Nat} (h : rdOk T i) (hi : i < 60) (hx : T 200 0 = 1)  : rdOk (tU T 200 0 2) (i + 1) := by
  obtain ⟨o1, o2, o3, o4, o5, o6, o7, o8, o9, o10, o11, o12⟩ := h
  have o2p : 3 * T 0 3 + 1 ≤ i := by rw [hx] at o2; simpa using o2
  refine ok_mk (show _ = T 0 1 from by simp [tU] <;> (repeat' split) <;> (intros; omega)) (show _ = T 0 3 from by simp [tU] <;> (repeat' split) <;> (intros; omega)) (show _ = 2 from by simp [tU] <;> (repeat' split) <;> (intros; omega)) (show _ = T 200 1 from by simp [tU] <;> (repeat' split) <;> (intros; omega)) (show _ = T 200 2 from by simp [tU] <;> (repeat' split) <;> (intros; omega)) (show _ = T 200 5 from by simp [tU] <;> (repeat' split) <;> (intros; omega)) (show _ = T 0 6 from by simp [tU] <;> (repeat' split) <;> (intros; omega)) (show _ = T 0 7 from by simp [tU] <;> (repeat' split) <;> (intros; omega)) (show _ = T 0 8 from by simp [tU] <;> (repeat' split) <;> (intros; omega)) (show _ = T 0 9 from by simp [tU] <;> (repeat' split) <;> (intros; omega)) (by omega) (by simp only [pnd]; (repeat' split) <;> omega) (by omega) (by omega) (by omega) (by omega) (by omega) (by omega) (by omega) (fun j hj => ?_) (fun j hj => ?_) (fun q1 q2 => (by omega))
  · by_cases q : j < T 200 5
    · have a := o10 j q
      simp [tU] <;> (repeat' split) <;> (intros; omega)
    · simp [tU] <;> (repeat' split) <;> (intros; omega)
  · have a := o11 j hj
    simp [tU] <;> (repeat' split) <;> (intros; omega)
theorem ok_ch {T : RT} {i : Nat} (h : rdOk T i) (hi : i < 60) (hx : T 200 0 = 1) {k : Nat} (hk : k ≤ 10) : rdOk (chT T k) (i + 1) := by
  obtain ⟨o1, o2, o3, o4, o5, o6, o7, o8, o9, o10, o11, o12⟩ := h
  have o2p : 3 * T 0 3 + 1 ≤ i := by rw [hx] at o2; simpa using o2
  refine ok_mk (show _ = T 0 1 + 1 from by simp [chT, apT, tU] <;> (repeat' split) <;> (intros; omega)) (show _ = T 0 3 from by simp [chT, apT, tU] <;> (repeat' split) <;> (intros; omega)) (show _ = 0 from by simp [chT, apT, tU] <;> (repeat' split) <;> (intros; omega)) (show _ = T 200 1 from by simp [chT, apT, tU] <;> (repeat' split) <;> (intros; omega)) (show _ = T 200 2 from by simp [chT, apT, tU] <;> (repeat' split) <;> (intros; omega)) (show _ = T 200 5 from by simp [chT, apT, tU] <;> (repeat' split) <;> (intros; omega)) (show _ = T 0 6 from by simp [chT, apT, tU] <;> (repeat' split) <;> (intros; omega)) (show _ = T 0 7 from by simp [chT, apT, tU] <;> (repeat' split) <;> (intros; omega)) (show _ = T 0 8 from by simp [chT, apT, tU] <;> (repeat' split) <;> (intros; omega)) (show _ = T 0 9 from by simp [chT, apT, tU] <;> (repeat' split) <;> (intros; omega)) (by omega) (by simp only [pnd]; (repeat' split) <;> omega) (by omega) (by omega) (by omega) (by omega) (by omega) (by omega) (by omega) (fun j hj => ?_) (fun j hj => ?_) (fun q1 q2 => (by omega))
  · by_cases q : j < T 200 5
    · have a := o10 j q
      simp [chT, apT, tU] <;> (repeat' split) <;> (intros; omega)
    · simp [chT, apT, tU] <;> (repeat' split) <;> (intros; omega)
  · have a := o11 j hj
    simp [chT, apT, tU] <;> (repeat' split) <;> (intros; omega)
theorem ok_nv {T : RT} {i : Nat} (h : rdOk T i) (hi : i < 60) (hx : T 200 0 = 2) {t : Nat} : rdOk (nvT T t) (i + 1) := by
  obtain ⟨o1, o2, o3, o4, o5, o6, o7, o8, o9, o10, o11, o12⟩ := h
  have o2p : 3 * T 0 3 + 2 ≤ i := by rw [hx] at o2; simpa using o2
  refine ok_mk (show _ = T 0 1 + 1 from by simp [nvT, ncT, apT, tU] <;> (repeat' split) <;> (intros; omega)) (show _ = T 0 3 + 1 from by simp [nvT, ncT, apT, tU] <;> (repeat' split) <;> (intros; omega)) (show _ = 0 from by simp [nvT, ncT, apT, tU] <;> (repeat' split) <;> (intros; omega)) (show _ = T 200 1 from by simp [nvT, ncT, apT, tU] <;> (repeat' split) <;> (intros; omega)) (show _ = T 200 2 from by simp [nvT, ncT, apT, tU] <;> (repeat' split) <;> (intros; omega)) (show _ = T 200 5 from by simp [nvT, ncT, apT, tU] <;> (repeat' split) <;> (intros; omega)) (show _ = T 0 6 from by simp [nvT, ncT, apT, tU] <;> (repeat' split) <;> (intros; omega)) (show _ = T 0 7 from by simp [nvT, ncT, apT, tU] <;> (repeat' split) <;> (intros; omega)) (show _ = T 0 8 from by simp [nvT, ncT, apT, tU] <;> (repeat' split) <;> (intros; omega)) (show _ = T 0 9 from by simp [nvT, ncT, apT, tU] <;> (repeat' split) <;> (intros; omega)) (by omega) (by simp only [pnd]; (repeat' split) <;> omega) (by omega) (by omega) (by omega) (by omega) (by omega) (by omega) (by omega) (fun j hj => ?_) (fun j hj => ?_) (fun q1 q2 => (by omega))
  · by_cases q : j < T 200 5
    · have a := o10 j q
      simp [nvT, ncT, apT, tU] <;> (repeat' split) <;> (intros; omega)
    · simp [nvT, ncT, apT, tU] <;> (repeat' split) <;> (intros; omega)
  · have a := o11 j hj
    simp [nvT, ncT, apT, tU] <;> (repeat' split) <;> (intros; omega)
theorem ok_lf {T : RT} {i : Nat} (h : rdOk T i) (hi : i < 60) (hx : T 200 0 = 3) {v : Nat} (hv : v < 3) : rdOk (tU (tU T 200 2 v) 200 0 4) (i + 1) := by
  obtain ⟨o1, o2, o3, o4, o5, o6, o7, o8, o9, o10, o11, o12⟩ := h
  have o2p : 3 * T 0 3 + 1 ≤ i := by rw [hx] at o2; simpa using o2
  refine ok_mk (show _ = T 0 1 from by simp [tU] <;> (repeat' split) <;> (intros; omega)) (show _ = T 0 3 from by simp [tU] <;> (repeat' split) <;> (intros; omega)) (show _ = 4 from by simp [tU] <;> (repeat' split) <;> (intros; omega)) (show _ = T 200 1 from by simp [tU] <;> (repeat' split) <;> (intros; omega)) (show _ = v from by simp [tU] <;> (repeat' split) <;> (intros; omega)) (show _ = T 200 5 from by simp [tU] <;> (repeat' split) <;> (intros; omega)) (show _ = T 0 6 from by simp [tU] <;> (repeat' split) <;> (intros; omega)) (show _ = T 0 7 from by simp [tU] <;> (repeat' split) <;> (intros; omega)) (show _ = T 0 8 from by simp [tU] <;> (repeat' split) <;> (intros; omega)) (show _ = T 0 9 from by simp [tU] <;> (repeat' split) <;> (intros; omega)) (by omega) (by simp only [pnd]; (repeat' split) <;> omega) (by omega) (by omega) (by omega) (by omega) (by omega) (by omega) (by omega) (fun j hj => ?_) (fun j hj => ?_) (fun q1 q2 => o12 (by omega) (by omega))
  · by_cases q : j < T 200 5
    · have a := o10 j q
      simp [tU] <;> (repeat' split) <;> (intros; omega)
    · simp [tU] <;> (repeat' split) <;> (intros; omega)
  · have a := o11 j hj
    simp [tU] <;> (repeat' split) <;> (intros; omega)
theorem ok_sg {T : RT} {i : Nat} (h : rdOk T i) (hi : i < 60) (hx : T 200 0 = 4) {w : Nat} : rdOk (tU (tU T 200 3 w) 200 0 5) (i + 1) := by
  obtain ⟨o1, o2, o3, o4, o5, o6, o7, o8, o9, o10, o11, o12⟩ := h
  have o2p : 3 * T 0 3 + 2 ≤ i := by rw [hx] at o2; simpa using o2
  refine ok_mk (show _ = T 0 1 from by simp [tU] <;> (repeat' split) <;> (intros; omega)) (show _ = T 0 3 from by simp [tU] <;> (repeat' split) <;> (intros; omega)) (show _ = 5 from by simp [tU] <;> (repeat' split) <;> (intros; omega)) (show _ = T 200 1 from by simp [tU] <;> (repeat' split) <;> (intros; omega)) (show _ = T 200 2 from by simp [tU] <;> (repeat' split) <;> (intros; omega)) (show _ = T 200 5 from by simp [tU] <;> (repeat' split) <;> (intros; omega)) (show _ = T 0 6 from by simp [tU] <;> (repeat' split) <;> (intros; omega)) (show _ = T 0 7 from by simp [tU] <;> (repeat' split) <;> (intros; omega)) (show _ = T 0 8 from by simp [tU] <;> (repeat' split) <;> (intros; omega)) (show _ = T 0 9 from by simp [tU] <;> (repeat' split) <;> (intros; omega)) (by omega) (by simp only [pnd]; (repeat' split) <;> omega) (by omega) (by omega) (by omega) (by omega) (by omega) (by omega) (by omega) (fun j hj => ?_) (fun j hj => ?_) (fun q1 q2 => o12 (by omega) (by omega))
  · by_cases q : j < T 200 5
    · have a := o10 j q
      simp [tU] <;> (repeat' split) <;> (intros; omega)
    · simp [tU] <;> (repeat' split) <;> (intros; omega)
  · have a := o11 j hj
    simp [tU] <;> (repeat' split) <;> (intros; omega)
theorem ok_tr4 {T : RT} {i : Nat} (h : rdOk T i) (hi : i < 60) (hx : T 200 0 = 5) {t : Nat} (hw : T 200 1 = 4) : rdOk (trT T t) (i + 1) := by
  obtain ⟨o1, o2, o3, o4, o5, o6, o7, o8, o9, o10, o11, o12⟩ := h
  have o2p : 3 * T 0 3 + 3 ≤ i := by rw [hx] at o2; simpa using o2
  refine ok_mk (show _ = T 0 1 + 1 from by simp [trT, ncT, apT, tU, hw] <;> (repeat' split) <;> (intros; omega)) (show _ = T 0 3 + 1 from by simp [trT, ncT, apT, tU, hw] <;> (repeat' split) <;> (intros; omega)) (show _ = 0 from by simp [trT, ncT, apT, tU, hw] <;> (repeat' split) <;> (intros; omega)) (show _ = T 200 1 from by simp [trT, ncT, apT, tU, hw] <;> (repeat' split) <;> (intros; omega)) (show _ = T 200 2 from by simp [trT, ncT, apT, tU, hw] <;> (repeat' split) <;> (intros; omega)) (show _ = T 200 5 from by simp [trT, ncT, apT, tU, hw] <;> (repeat' split) <;> (intros; omega)) (show _ = T 0 6 from by simp [trT, ncT, apT, tU, hw] <;> (repeat' split) <;> (intros; omega)) (show _ = T 0 7 from by simp [trT, ncT, apT, tU, hw] <;> (repeat' split) <;> (intros; omega)) (show _ = T 0 8 from by simp [trT, ncT, apT, tU, hw] <;> (repeat' split) <;> (intros; omega)) (show _ = T 0 9 from by simp [trT, ncT, apT, tU, hw] <;> (repeat' split) <;> (intros; omega)) (by omega) (by simp only [pnd]; (repeat' split) <;> omega) (by omega) (by omega) (by omega) (by omega) (by omega) (by omega) (by omega) (fun j hj => ?_) (fun j hj => ?_) (fun q1 q2 => (by omega))
  · by_cases q : j < T 200 5
    · have a := o10 j q
      simp [trT, ncT, apT, tU, hw] <;> (repeat' split) <;> (intros; omega)
    · simp [trT, ncT, apT, tU, hw] <;> (repeat' split) <;> (intros; omega)
  · have a := o11 j hj
    simp [trT, ncT, apT, tU, hw] <;> (repeat' split) <;> (intros; omega)
theorem ok_tr5 {T : RT} {i : Nat} (h : rdOk T i) (hi : i < 60) (hx : T 200 0 = 5) {t : Nat} (hw : T 200 1 = 5) (h4 : T 0 7 < 4) : rdOk (trT T t) (i + 1) := by
  obtain ⟨o1, o2, o3, o4, o5, o6, o7, o8, o9, o10, o11, o12⟩ := h
  have o2p : 3 * T 0 3 + 3 ≤ i := by rw [hx] at o2; simpa using o2
  refine ok_mk (show _ = T 0 1 + 1 from by simp [trT, ncT, acT, apT, tU, hw] <;> (repeat' split) <;> (intros; omega)) (show _ = T 0 3 + 1 from by simp [trT, ncT, acT, apT, tU, hw] <;> (repeat' split) <;> (intros; omega)) (show _ = 0 from by simp [trT, ncT, acT, apT, tU, hw] <;> (repeat' split) <;> (intros; omega)) (show _ = T 200 1 from by simp [trT, ncT, acT, apT, tU, hw] <;> (repeat' split) <;> (intros; omega)) (show _ = T 200 2 from by simp [trT, ncT, acT, apT, tU, hw] <;> (repeat' split) <;> (intros; omega)) (show _ = T 200 5 from by simp [trT, ncT, acT, apT, tU, hw] <;> (repeat' split) <;> (intros; omega)) (show _ = T 0 6 from by simp [trT, ncT, acT, apT, tU, hw] <;> (repeat' split) <;> (intros; omega)) (show _ = T 0 7 + 1 from by simp [trT, ncT, acT, apT, tU, hw] <;> (repeat' split) <;> (intros; omega)) (show _ = T 0 8 from by simp [trT, ncT, acT, apT, tU, hw] <;> (repeat' split) <;> (intros; omega)) (show _ = T 0 9 from by simp [trT, ncT, acT, apT, tU, hw] <;> (repeat' split) <;> (intros; omega)) (by omega) (by simp only [pnd]; (repeat' split) <;> omega) (by omega) (by omega) (by omega) (by omega) (by omega) (by omega) (by omega) (fun j hj => ?_) (fun j hj => ?_) (fun q1 q2 => (by omega))
  · by_cases q : j < T 200 5
    · have a := o10 j q
      simp [trT, ncT, acT, apT, tU, hw] <;> (repeat' split) <;> (intros; omega)
    · simp [trT, ncT, acT, apT, tU, hw] <;> (repeat' split) <;> (intros; omega)
  · have a := o11 j hj
    simp [trT, ncT, acT, apT, tU, hw] <;> (repeat' split) <;> (intros; omega)
theorem ok_tr6 {T : RT} {i : Nat} (h : rdOk T i) (hi : i < 60) (hx : T 200 0 = 5) {t : Nat} (hw : T 200 1 = 6) (h4 : T 0 8 < 3) : rdOk (trT T t) (i + 1) := by
  obtain ⟨o1, o2, o3, o4, o5, o6, o7, o8, o9, o10, o11, o12⟩ := h
  have o2p : 3 * T 0 3 + 3 ≤ i := by rw [hx] at o2; simpa using o2
  refine ok_mk (show _ = T 0 1 + 1 from by simp [trT, ncT, olT, apT, phT, tU, hw] <;> (repeat' split) <;> (intros; omega)) (show _ = T 0 3 + 1 from by simp [trT, ncT, olT, apT, phT, tU, hw] <;> (repeat' split) <;> (intros; omega)) (show _ = 0 from by simp [trT, ncT, olT, apT, phT, tU, hw] <;> (repeat' split) <;> (intros; omega)) (show _ = T 200 1 from by simp [trT, ncT, olT, apT, phT, tU, hw] <;> (repeat' split) <;> (intros; omega)) (show _ = T 200 2 from by simp [trT, ncT, olT, apT, phT, tU, hw] <;> (repeat' split) <;> (intros; omega)) (show _ = T 200 5 + 1 from by simp [trT, ncT, olT, apT, phT, tU, hw] <;> (repeat' split) <;> (intros; omega)) (show _ = T 0 6 from by simp [trT, ncT, olT, apT, phT, tU, hw] <;> (repeat' split) <;> (intros; omega)) (show _ = T 0 7 from by simp [trT, ncT, olT, apT, phT, tU, hw] <;> (repeat' split) <;> (intros; omega)) (show _ = T 0 8 + 1 from by simp [trT, ncT, olT, apT, phT, tU, hw] <;> (repeat' split) <;> (intros; omega)) (show _ = T 0 9 from by simp [trT, ncT, olT, apT, phT, tU, hw] <;> (repeat' split) <;> (intros; omega)) (by omega) (by simp only [pnd]; (repeat' split) <;> omega) (by omega) (by omega) (by omega) (by omega) (by omega) (by omega) (by omega) (fun j hj => ?_) (fun j hj => ?_) (fun q1 q2 => (by omega))
  · by_cases q : j < T 200 5
    · have a := o10 j q
      simp [trT, ncT, olT, apT, phT, tU, hw] <;> (repeat' split) <;> (intros; omega)
    · simp [trT, ncT, olT, apT, phT, tU, hw] <;> (repeat' split) <;> (intros; omega)
  · have a := o11 j hj
    simp [trT, ncT, olT, apT, phT, tU, hw] <;> (repeat' split) <;> (intros; omega)
theorem ok_tr7 {T : RT} {i : Nat} (h : rdOk T i) (hi : i < 60) (hx : T 200 0 = 5) {t : Nat} (hw : T 200 1 = 4294967295) (h4 : T 0 6 < 5) : rdOk (trT T t) (i + 1) := by
  obtain ⟨o1, o2, o3, o4, o5, o6, o7, o8, o9, o10, o11, o12⟩ := h
  have o2p : 3 * T 0 3 + 3 ≤ i := by rw [hx] at o2; simpa using o2
  refine ok_mk (show _ = T 0 1 from by simp [trT, ncT, agT, tU, hw] <;> (repeat' split) <;> (intros; omega)) (show _ = T 0 3 + 1 from by simp [trT, ncT, agT, tU, hw] <;> (repeat' split) <;> (intros; omega)) (show _ = 6 from by simp [trT, ncT, agT, tU, hw] <;> (repeat' split) <;> (intros; omega)) (show _ = T 200 1 from by simp [trT, ncT, agT, tU, hw] <;> (repeat' split) <;> (intros; omega)) (show _ = T 200 2 from by simp [trT, ncT, agT, tU, hw] <;> (repeat' split) <;> (intros; omega)) (show _ = T 200 5 from by simp [trT, ncT, agT, tU, hw] <;> (repeat' split) <;> (intros; omega)) (show _ = T 0 6 + 1 from by simp [trT, ncT, agT, tU, hw] <;> (repeat' split) <;> (intros; omega)) (show _ = T 0 7 from by simp [trT, ncT, agT, tU, hw] <;> (repeat' split) <;> (intros; omega)) (show _ = T 0 8 from by simp [trT, ncT, agT, tU, hw] <;> (repeat' split) <;> (intros; omega)) (show _ = T 0 9 from by simp [trT, ncT, agT, tU, hw] <;> (repeat' split) <;> (intros; omega)) (by omega) (by simp only [pnd]; (repeat' split) <;> omega) (by omega) (by omega) (by omega) (by omega) (by omega) (by omega) (by omega) (fun j hj => ?_) (fun j hj => ?_) (fun q1 q2 => (by omega))
  · by_cases q : j < T 200 5
    · have a := o10 j q
      simp [trT, ncT, agT, tU, hw] <;> (repeat' split) <;> (intros; omega)
    · simp [trT, ncT, agT, tU, hw] <;> (repeat' split) <;> (intros; omega)
  · have a := o11 j hj
    simp [trT, ncT, agT, tU, hw] <;> (repeat' split) <;> (intros; omega)
