/-! ===== the cells of a flow behind a node of a pass ===== -/
def jnV (A : AP) (f ia k : Nat) (σ : SG) (s : Nat) : Bool := if ia = f + 3 then (σ (f + 3 + 1 + 2 * mA A k) s || σ (f + 1) s) else σ (f + 10 + 1 + 2 * mA A k) s
def nwV (A : AP) (f ia k : Nat) (σ : SG) (s : Nat) : Bool :=
  if kA A k ≤ 5 then fwS A k (σ (f + 1)) s
  else if kA A k = 6 then jnV A f ia k σ s && tA A k s
  else if kA A k = 7 then jnV A f ia k σ s && !tA A k s
  else if kA A k = 8 then σ (f + 1) s
  else if kA A k = 9 then σ (f + 26 + 1 + 2 * mA A k) s
  else (σ (f + 1) s || σ (f + 33 + 1 + 2 * mA A k) s)
/-- the cell that a node writes besides the present set: a loop's come, a choice's, a bar's, a check's -/
def wrC (A : AP) (f k : Nat) : Nat := if kA A k = 5 then f + 17 + 1 + 2 * mA A k else if kA A k = 6 ∨ kA A k = 7 then f + 3 + 1 + 2 * mA A k else if kA A k = 8 then f + 26 + 1 + 2 * mA A k else if kA A k = 9 then f + 33 + 1 + 2 * mA A k else f + 1
theorem cel {A : AP} {f ia t k : Nat} {σ : SG} (k10 : kA A k ≤ 10) (m5 : kA A k = 5 → mA A k < 4) (m6 : 6 ≤ kA A k → mA A k < 3) (hia : ia = f + 3 ∨ ia = f + 10) (ht : t < f ∨ f + 40 ≤ t) (hs : usC A k → ∀ s, s < 216 → σ t s = tA A k s) :
    (∀ s, s < 216 → stpσ f ia (kA A k) (vA A k) (mA A k) t σ (f + 1) s = nwV A f ia k σ s) ∧
    (∀ b, b ≠ f + 1 → b ≠ wrC A f k → stpσ f ia (kA A k) (vA A k) (mA A k) t σ b = σ b) ∧
    (kA A k = 5 ∨ kA A k = 8 ∨ kA A k = 9 → stpσ f ia (kA A k) (vA A k) (mA A k) t σ (wrC A f k) = σ (f + 1)) ∧
    (kA A k = 6 ∨ kA A k = 7 → stpσ f ia (kA A k) (vA A k) (mA A k) t σ (wrC A f k) = fun s => (σ (wrC A f k) s || σ (f + 1) s)) := by
  have t1 : ¬ t = f + 1 := by omega
  rcases Nat.lt_or_ge (kA A k) 6 with q | q
  · have e : stpσ f ia (kA A k) (vA A k) (mA A k) t σ = simσ f (kA A k) (vA A k) (mA A k) t σ := by
      unfold stpσ
      rw [if_neg (by omega), if_neg (by omega)]
    obtain ⟨s1, s2⟩ := sim_now (f := f) (t := t) (σ := σ) (k := k) (A := A) (by omega) m5 ht hs
    rw [e]
    refine ⟨fun s h => ?_, fun b b1 b2 => ?_, fun h => ?_, fun h => absurd h (by omega)⟩
    · rw [s1 s h, nwV, if_pos (by omega)]
    · by_cases c5 : kA A k = 5
      · have w : wrC A f k = f + 17 + 1 + 2 * mA A k := if_pos c5
        rw [w] at b2
        simp [simσ, c5, metσ, copσ, upσ, b1, b2]
      · rcases (show kA A k = 0 ∨ kA A k = 1 ∨ kA A k = 2 ∨ kA A k = 3 ∨ kA A k = 4 by omega) with c | c | c | c | c <;> simp [simσ, c, metσ, upσ, b1]
    · have c5 : kA A k = 5 := by omega
      have w : wrC A f k = f + 17 + 1 + 2 * mA A k := if_pos c5
      have n1 : ¬ f + 17 + 1 + 2 * mA A k = f + 1 := by omega
      rw [w]
      simp [simσ, c5, metσ, copσ, upσ, n1]
  · have mk := m6 q
    rcases (show kA A k = 6 ∨ kA A k = 7 ∨ kA A k = 8 ∨ kA A k = 9 ∨ kA A k = 10 by omega) with c | c | c | c | c
    · have w : wrC A f k = f + 3 + 1 + 2 * mA A k := by unfold wrC; rw [if_neg (by omega), if_pos (Or.inl c)]
      have n1 : ¬ f + 3 + 1 + 2 * mA A k = f + 1 := by omega
      have n3 : ¬ t = f + 3 + 1 + 2 * mA A k := by omega
      have e : stpσ f ia (kA A k) (vA A k) (mA A k) t σ = metσ (copσ (uniσ σ (f + 3 + 1 + 2 * mA A k) (f + 1)) (f + 1) (ia + 1 + 2 * mA A k)) (f + 1) t := by simp [stpσ, lopσ, c]
      rw [e, w]
      refine ⟨fun s h => ?_, fun b b1 b2 => ?_, fun h => absurd h (by omega), fun _ => ?_⟩
      · rw [nwV, if_neg (by omega), if_pos c, jnV]
        rcases hia with rfl | rfl
        · simp [metσ, copσ, uniσ, upσ, t1, n3, hs (Or.inr ⟨by omega, by omega⟩) s h]
        · have n4 : ¬ f + 10 + 1 + 2 * mA A k = f + 3 + 1 + 2 * mA A k := by omega
          have n5 : ¬ f + 10 = f + 3 := by omega
          simp [metσ, copσ, uniσ, upσ, t1, n3, hs (Or.inr ⟨by omega, by omega⟩) s h, n4, n5]
      · simp [metσ, copσ, uniσ, upσ, b1, b2]
      · simp [metσ, copσ, uniσ, upσ, n1]
    · have w : wrC A f k = f + 3 + 1 + 2 * mA A k := by unfold wrC; rw [if_neg (by omega), if_pos (Or.inr c)]
      have n1 : ¬ f + 3 + 1 + 2 * mA A k = f + 1 := by omega
      have n3 : ¬ t = f + 3 + 1 + 2 * mA A k := by omega
      have e : stpσ f ia (kA A k) (vA A k) (mA A k) t σ = remσ (copσ (uniσ σ (f + 3 + 1 + 2 * mA A k) (f + 1)) (f + 1) (ia + 1 + 2 * mA A k)) (f + 1) t := by simp [stpσ, lopσ, c]
      rw [e, w]
      refine ⟨fun s h => ?_, fun b b1 b2 => ?_, fun h => absurd h (by omega), fun _ => ?_⟩
      · rw [nwV, if_neg (by omega), if_neg (by omega), if_pos c, jnV]
        rcases hia with rfl | rfl
        · simp [remσ, copσ, uniσ, upσ, t1, n3, hs (Or.inr ⟨by omega, by omega⟩) s h]
        · have n4 : ¬ f + 10 + 1 + 2 * mA A k = f + 3 + 1 + 2 * mA A k := by omega
          have n5 : ¬ f + 10 = f + 3 := by omega
          simp [remσ, copσ, uniσ, upσ, t1, n3, hs (Or.inr ⟨by omega, by omega⟩) s h, n4, n5]
      · simp [remσ, copσ, uniσ, upσ, b1, b2]
      · simp [remσ, copσ, uniσ, upσ, n1]
    · have w : wrC A f k = f + 26 + 1 + 2 * mA A k := by unfold wrC; rw [if_neg (by omega), if_neg (by omega), if_pos c]
      have n1 : ¬ f + 1 = f + 26 + 1 + 2 * mA A k := by omega
      have e : stpσ f ia (kA A k) (vA A k) (mA A k) t σ = copσ σ (f + 26 + 1 + 2 * mA A k) (f + 1) := by simp [stpσ, choσ, c]
      rw [e, w]
      refine ⟨fun s h => ?_, fun b b1 b2 => ?_, fun _ => ?_, fun h => absurd h (by omega)⟩
      · rw [nwV, if_neg (by omega), if_neg (by omega), if_neg (by omega), if_pos c]
        simp [copσ, upσ, n1]
      · simp [copσ, upσ, b2]
      · simp [copσ, upσ]
    · have w : wrC A f k = f + 33 + 1 + 2 * mA A k := by unfold wrC; rw [if_neg (by omega), if_neg (by omega), if_neg (by omega), if_pos c]
      have n1 : ¬ f + 33 + 1 + 2 * mA A k = f + 1 := by omega
      have n2 : ¬ f + 26 + 1 + 2 * mA A k = f + 33 + 1 + 2 * mA A k := by omega
      have e : stpσ f ia (kA A k) (vA A k) (mA A k) t σ = copσ (copσ σ (f + 33 + 1 + 2 * mA A k) (f + 1)) (f + 1) (f + 26 + 1 + 2 * mA A k) := by simp [stpσ, choσ, c]
      rw [e, w]
      refine ⟨fun s h => ?_, fun b b1 b2 => ?_, fun _ => ?_, fun h => absurd h (by omega)⟩
      · rw [nwV, if_neg (by omega), if_neg (by omega), if_neg (by omega), if_neg (by omega), if_pos c]
        simp [copσ, upσ, n2]
      · simp [copσ, upσ, b1, b2]
      · simp [copσ, upσ, n1]
    · have w : wrC A f k = f + 1 := by unfold wrC; rw [if_neg (by omega), if_neg (by omega), if_neg (by omega), if_neg (by omega)]
      have e : stpσ f ia (kA A k) (vA A k) (mA A k) t σ = uniσ σ (f + 1) (f + 33 + 1 + 2 * mA A k) := by simp [stpσ, choσ, c]
      rw [e, w]
      refine ⟨fun s h => ?_, fun b b1 b2 => ?_, fun h => absurd h (by omega), fun h => absurd h (by omega)⟩
      · rw [nwV, if_neg (by omega), if_neg (by omega), if_neg (by omega), if_neg (by omega), if_neg (by omega)]
        simp [uniσ, upσ]
      · simp [uniσ, upσ, b1]
def pvA (A : AP) (t : Nat → Nat) : PV := (nA A, fun i => kA A i, fun i => vA A i, fun i => mA A i, t)
theorem wr_in {A : AP} {f k : Nat} (m5 : kA A k = 5 → mA A k < 4) (m6 : 6 ≤ kA A k → mA A k < 3) : f + 1 ≤ wrC A f k ∧ wrC A f k < f + 40 := by
  unfold wrC
  split
  · have := m5 (by omega); omega
  · split
    · have := m6 (by omega); omega
    · split
      · have := m6 (by omega); omega
      · split
        · have := m6 (by omega); omega
        · omega
theorem trW_step {A : AP} {f ia : Nat} {t : Nat → Nat} {σ : SG} {k : Nat} (hw : wfA A) (hia : ia = f + 3 ∨ ia = f + 10) (hT : trW A f t σ) (hk : k < nA A) : trW A f t (stpσ f ia (kA A k) (vA A k) (mA A k) (t k) σ) := by
  obtain ⟨k10, kv, m5, m6⟩ := hw.1 k hk
  have c := cel k10 m5 m6 hia (hT k hk).1 (hT k hk).2
  exact fun j hj => ⟨(hT j hj).1, fun hu s hs => by
    have a := (hT j hj).1
    have b := wr_in (f := f) m5 m6
    rw [c.2.1 (t j) (by omega) (by omega)]
    exact (hT j hj).2 hu s hs⟩
theorem pas_tr {A : AP} {f ia : Nat} {t : Nat → Nat} {σ : SG} (hw : wfA A) (hia : ia = f + 3 ∨ ia = f + 10) (hT : trW A f t σ) : ∀ k, k ≤ nA A → trW A f t (pasN f ia (pvA A t) k σ) ∧ ∀ b, b < f + 1 ∨ f + 40 ≤ b → pasN f ia (pvA A t) k σ b = σ b
  | 0, _ => ⟨hT, fun _ _ => rfl⟩
  | k + 1, hk => by
    obtain ⟨ih1, ih2⟩ := pas_tr hw hia hT k (by omega)
    obtain ⟨k10, kv, m5, m6⟩ := hw.1 k (by omega)
    have c := cel (ia := ia) k10 m5 m6 hia (ih1 k (by omega)).1 (ih1 k (by omega)).2
    have w := wr_in (f := f) m5 m6
    exact ⟨trW_step hw hia ih1 (by omega), fun b hb => (c.2.1 b (by omega) (by omega)).trans (ih2 b hb)⟩
theorem snd_pass {A : AP} {B : ST} {f : Nat} {t : Nat → Nat} {σ : SG} (hw : wfA A) (hT : trW A f t σ) (h : invF A B f σ 0) : ∀ k, k ≤ nA A → invF A B f (pasN f (f + 3) (pvA A t) k σ) k
  | 0, _ => h
  | k + 1, hk => (snd_step hw (pas_tr hw (Or.inl rfl) hT k (by omega)).1 (snd_pass hw hT h k (by omega)) (by omega)).1
