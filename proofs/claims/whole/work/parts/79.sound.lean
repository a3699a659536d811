/-! ===== the class's passes: all that they find is reached ===== -/
def wfA (A : AP) : Prop := (∀ k, k < nA A → kA A k ≤ 10 ∧ (kA A k ≤ 3 → vA A k < 3) ∧ (kA A k = 5 → mA A k < 4) ∧ (6 ≤ kA A k → mA A k < 3)) ∧
  (∀ k, k < nA A → kA A k = 6 → k < lA A k ∧ lA A k < nA A ∧ kA A (lA A k) = 7 ∧ lA A (lA A k) = k) ∧
  (∀ k, k < nA A → kA A k = 7 → lA A k < k ∧ kA A (lA A k) = 6 ∧ lA A (lA A k) = k ∧ mA A (lA A k) = mA A k ∧ cA A (lA A k) = cA A k) ∧
  (∀ k, k < nA A → kA A k = 8 → k < lA A k ∧ lA A k < nA A ∧ kA A (lA A k) = 9 ∧ mA A (lA A k) = mA A k) ∧
  (∀ k, k < nA A → kA A k = 9 → (∃ i, i < k ∧ kA A i = 8 ∧ lA A i = k ∧ mA A i = mA A k) ∧ k < lA A k ∧ lA A k < nA A ∧ kA A (lA A k) = 10 ∧ mA A (lA A k) = mA A k) ∧
  (∀ k, k < nA A → kA A k = 10 → ∃ i, i < k ∧ kA A i = 9 ∧ lA A i = k ∧ mA A i = mA A k) ∧
  (∀ i j, i < nA A → j < nA A → kA A i = kA A j → (kA A i = 5 ∨ kA A i = 6 ∨ kA A i = 8) → mA A i = mA A j → i = j)
theorem wf_9 {A : AP} (h : wfA A) {i j : Nat} (hi : i < nA A) (hj : j < nA A) (ki : kA A i = 9) (kj : kA A j = 9) (e : mA A i = mA A j) : i = j := by
  obtain ⟨a, a1, a2, a3, a4⟩ := (h.2.2.2.2.1 i hi ki).1
  obtain ⟨b, b1, b2, b3, b4⟩ := (h.2.2.2.2.1 j hj kj).1
  have := h.2.2.2.2.2.2 a b (by omega) (by omega) (by omega) (by omega) (by omega)
  rw [← a3, ← b3, this]

/-- a node whose condition counts -/
def usC (A : AP) (k : Nat) : Prop := kA A k = 0 ∨ (4 ≤ kA A k ∧ kA A k ≤ 7)
def trW (A : AP) (f : Nat) (t : Nat → Nat) (σ : SG) : Prop := ∀ j, j < nA A → (t j < f ∨ f + 40 ≤ t j) ∧ (usC A j → ∀ s, s < 216 → σ (t j) s = tA A j s)
def invF (A : AP) (B : ST) (f : Nat) (σ : SG) (k : Nat) : Prop :=
  (∀ s, s < 216 → σ (f + 1) s = true → Rch (edC A) (nA A) B k s) ∧
  (∀ j s, j < nA A → kA A j = 6 → s < 216 → σ (f + 3 + 1 + 2 * mA A j) s = true → Rch (edC A) (nA A) B j s) ∧
  (∀ j s, j < k → j < nA A → kA A j = 8 → s < 216 → σ (f + 26 + 1 + 2 * mA A j) s = true → Rch (edC A) (nA A) B j s) ∧
  (∀ j s, j < k → j < nA A → kA A j = 9 → s < 216 → σ (f + 33 + 1 + 2 * mA A j) s = true → Rch (edC A) (nA A) B j s)
theorem sim_now {A : AP} {f k : Nat} {t : Nat} {σ : SG} (h5 : kA A k ≤ 5) (hm : kA A k = 5 → mA A k < 4) (ht : t < f ∨ f + 40 ≤ t) (hs : usC A k → ∀ s, s < 216 → σ t s = tA A k s) : (∀ s, s < 216 → simσ f (kA A k) (vA A k) (mA A k) t σ (f + 1) s = fwS A k (σ (f + 1)) s) ∧ ∀ b, b ≠ f + 1 → (b < f + 17 ∨ f + 26 ≤ b) → simσ f (kA A k) (vA A k) (mA A k) t σ b = σ b := by
  have t1 : ¬ t = f + 1 := by omega
  rcases (show kA A k = 0 ∨ kA A k = 1 ∨ kA A k = 2 ∨ kA A k = 3 ∨ kA A k = 4 ∨ kA A k = 5 by omega) with q | q | q | q | q | q
  · refine ⟨fun s h => ?_, fun b b1 b2 => ?_⟩
    · simp only [simσ, fwS, q, metσ, upσ, if_true, if_neg t1, hs (Or.inl q) s h]
    · simp only [simσ, q, metσ, upσ, if_true, if_neg b1]
  · refine ⟨fun s h => ?_, fun b b1 b2 => ?_⟩
    · simp [simσ, fwS, q, upσ]
    · simp [simσ, q, upσ, b1]
  · refine ⟨fun s h => ?_, fun b b1 b2 => ?_⟩
    · simp [simσ, fwS, q, upσ]
    · simp [simσ, q, upσ, b1]
  · refine ⟨fun s h => ?_, fun b b1 b2 => ?_⟩
    · simp [simσ, fwS, q, upσ]
    · simp [simσ, q, upσ, b1]
  · refine ⟨fun s h => ?_, fun b b1 b2 => ?_⟩
    · simp [simσ, fwS, q, metσ, upσ, hs (Or.inr ⟨by omega, by omega⟩) s h]
    · simp [simσ, q, metσ, upσ, b1]
  · have m4 := hm q
    have t2 : ¬ t = f + 17 + 1 + 2 * mA A k := by omega
    have f2 : ¬ f + 1 = f + 17 + 1 + 2 * mA A k := by omega
    refine ⟨fun s h => ?_, fun b b1 b2 => ?_⟩
    · simp [simσ, fwS, q, metσ, copσ, upσ, t2, f2, hs (Or.inr ⟨by omega, by omega⟩) s h]
    · have b3 : ¬ b = f + 17 + 1 + 2 * mA A k := by omega
      simp [simσ, q, metσ, copσ, upσ, b1, b3]
theorem snd_step {A : AP} {B : ST} {f : Nat} {t : Nat → Nat} {σ : SG} {k : Nat} (hw : wfA A) (hT : trW A f t σ) (h : invF A B f σ k) (hk : k < nA A) : invF A B f (stpσ f (f + 3) (kA A k) (vA A k) (mA A k) (t k) σ) (k + 1) ∧ trW A f t (stpσ f (f + 3) (kA A k) (vA A k) (mA A k) (t k) σ) := by
  obtain ⟨i1, i2, i3, i4⟩ := h
  obtain ⟨w0, w6, w7, w8, w9, w10, wu⟩ := hw
  obtain ⟨k10, kv, km5, km⟩ := w0 k hk
  obtain ⟨tk1, tk2⟩ := hT k hk
  have m3 : ∀ j, j < nA A → 6 ≤ kA A j → mA A j < 3 := fun j hj => (w0 j hj).2.2.2
  rcases Nat.lt_or_ge (kA A k) 6 with q | q
  · have e : stpσ f (f + 3) (kA A k) (vA A k) (mA A k) (t k) σ = simσ f (kA A k) (vA A k) (mA A k) (t k) σ := by
      unfold stpσ
      rw [if_neg (by omega), if_neg (by omega)]
    rw [e]
    obtain ⟨s1, s2⟩ := sim_now (f := f) (t := t k) (σ := σ) (k := k) (A := A) (by omega) km5 tk1 tk2
    refine ⟨⟨fun s hs hx => ?_, fun j s hj kj hs hx => ?_, fun j s hjk hj kj hs hx => ?_, fun j s hjk hj kj hs hx => ?_⟩, fun j hj => ⟨(hT j hj).1, fun hu s hs => ?_⟩⟩
    · rw [s1 s hs] at hx
      obtain ⟨s0, h0, h1, h2⟩ := (fw_iff hs kv).mp hx
      exact rch_step (i1 s0 h0 h1) hk h0 (by unfold edC; rw [if_pos (by omega)]; exact ⟨rfl, h2⟩)
    · have := m3 j hj (by omega)
      rw [s2 _ (by omega) (by omega)] at hx
      exact i2 j s hj kj hs hx
    · have := m3 j hj (by omega)
      rw [s2 _ (by omega) (by omega)] at hx
      exact i3 j s (by have : j ≠ k := fun e => by rw [e] at kj; omega
                       omega) hj kj hs hx
    · have := m3 j hj (by omega)
      rw [s2 _ (by omega) (by omega)] at hx
      exact i4 j s (by have : j ≠ k := fun e => by rw [e] at kj; omega
                       omega) hj kj hs hx
    · have a := (hT j hj).1
      rw [s2 _ (by omega) (by omega)]
      exact (hT j hj).2 hu s hs
  · have hcell : ∀ j, j < nA A → 6 ≤ kA A j → mA A j < 3 := m3
    have mk3 := m3 k hk q
    have tkA : kA A k ≤ 7 → ∀ s, s < 216 → σ (t k) s = tA A k s := fun q7 => tk2 (Or.inr ⟨by omega, q7⟩)
    rcases (show kA A k = 6 ∨ kA A k = 7 ∨ kA A k = 8 ∨ kA A k = 9 ∨ kA A k = 10 by omega) with c | c | c | c | c
    · have e : stpσ f (f + 3) (kA A k) (vA A k) (mA A k) (t k) σ = metσ (copσ (uniσ σ (f + 3 + 1 + 2 * mA A k) (f + 1)) (f + 1) (f + 3 + 1 + 2 * mA A k)) (f + 1) (t k) := by
        simp [stpσ, lopσ, c]
      have n1 : ¬ f + 3 + 1 + 2 * mA A k = f + 1 := by omega
      have n2 : ¬ t k = f + 1 := by omega
      have n3 : ¬ t k = f + 3 + 1 + 2 * mA A k := by omega
      have v1 : ∀ s, s < 216 → (stpσ f (f + 3) (kA A k) (vA A k) (mA A k) (t k) σ) (f + 1) s = ((σ (f + 3 + 1 + 2 * mA A k) s || σ (f + 1) s) && tA A k s) := fun s hs => by
        rw [e]; simp [metσ, copσ, uniσ, upσ, n2, n3, tkA (by omega) s hs]
      have v2 : (stpσ f (f + 3) (kA A k) (vA A k) (mA A k) (t k) σ) (f + 3 + 1 + 2 * mA A k) = fun s => (σ (f + 3 + 1 + 2 * mA A k) s || σ (f + 1) s) := by
        rw [e]; simp [metσ, copσ, uniσ, upσ, n1]
      have v3 : ∀ b, b ≠ f + 1 → b ≠ f + 3 + 1 + 2 * mA A k → (stpσ f (f + 3) (kA A k) (vA A k) (mA A k) (t k) σ) b = σ b := fun b b1 b2 => by
        rw [e]; simp [metσ, copσ, uniσ, upσ, b1, b2]
      generalize stpσ f (f + 3) (kA A k) (vA A k) (mA A k) (t k) σ = τ at v1 v2 v3
      have hR : ∀ s, s < 216 → (σ (f + 3 + 1 + 2 * mA A k) s || σ (f + 1) s) = true → Rch (edC A) (nA A) B k s := fun s hs hx => by
        rw [Bool.or_eq_true] at hx
        rcases hx with hx | hx
        · exact i2 k s hk c hs hx
        · exact i1 s hs hx
      refine ⟨⟨fun s hs hx => ?_, fun j s hj kj hs hx => ?_, fun j s hjk hj kj hs hx => ?_, fun j s hjk hj kj hs hx => ?_⟩, fun j hj => ⟨(hT j hj).1, fun hu s hs => ?_⟩⟩
      · rw [v1 s hs, Bool.and_eq_true] at hx
        exact rch_step (hR s hs hx.1) hk hs (by unfold edC; rw [if_neg (by omega), if_pos c, if_pos hx.2]; exact ⟨rfl, rfl⟩)
      · by_cases mj : mA A j = mA A k
        · have ej := wu j k hj hk (by omega) (by omega) mj
          rw [mj, v2] at hx
          rw [ej]
          exact hR s hs hx
        · rw [v3 _ (by omega) (by omega)] at hx
          exact i2 j s hj kj hs hx
      · have := hcell j hj (by omega)
        rw [v3 _ (by omega) (by omega)] at hx
        exact i3 j s (by have : j ≠ k := fun e => by rw [e] at kj; omega
                         omega) hj kj hs hx
      · have := hcell j hj (by omega)
        rw [v3 _ (by omega) (by omega)] at hx
        exact i4 j s (by have : j ≠ k := fun e => by rw [e] at kj; omega
                         omega) hj kj hs hx
      · have a := (hT j hj).1
        rw [v3 _ (by omega) (by omega)]
        exact (hT j hj).2 hu s hs
    · have e : stpσ f (f + 3) (kA A k) (vA A k) (mA A k) (t k) σ = remσ (copσ (uniσ σ (f + 3 + 1 + 2 * mA A k) (f + 1)) (f + 1) (f + 3 + 1 + 2 * mA A k)) (f + 1) (t k) := by
        simp [stpσ, lopσ, c]
      have n1 : ¬ f + 3 + 1 + 2 * mA A k = f + 1 := by omega
      have n2 : ¬ t k = f + 1 := by omega
      have n3 : ¬ t k = f + 3 + 1 + 2 * mA A k := by omega
      have v1 : ∀ s, s < 216 → (stpσ f (f + 3) (kA A k) (vA A k) (mA A k) (t k) σ) (f + 1) s = ((σ (f + 3 + 1 + 2 * mA A k) s || σ (f + 1) s) && !tA A k s) := fun s hs => by
        rw [e]; simp [remσ, copσ, uniσ, upσ, n2, n3, tkA (by omega) s hs]
      have v2 : (stpσ f (f + 3) (kA A k) (vA A k) (mA A k) (t k) σ) (f + 3 + 1 + 2 * mA A k) = fun s => (σ (f + 3 + 1 + 2 * mA A k) s || σ (f + 1) s) := by
        rw [e]; simp [remσ, copσ, uniσ, upσ, n1]
      have v3 : ∀ b, b ≠ f + 1 → b ≠ f + 3 + 1 + 2 * mA A k → (stpσ f (f + 3) (kA A k) (vA A k) (mA A k) (t k) σ) b = σ b := fun b b1 b2 => by
        rw [e]; simp [remσ, copσ, uniσ, upσ, b1, b2]
      generalize stpσ f (f + 3) (kA A k) (vA A k) (mA A k) (t k) σ = τ at v1 v2 v3
      obtain ⟨p1, p2, p3, p4, p5⟩ := w7 k hk c
      have pn : lA A k < nA A := by omega
      have hR : ∀ s, s < 216 → (σ (f + 3 + 1 + 2 * mA A k) s || σ (f + 1) s) = true → Rch (edC A) (nA A) B (lA A k) s := fun s hs hx => by
        rw [Bool.or_eq_true] at hx
        rcases hx with hx | hx
        · exact i2 (lA A k) s pn p2 hs (by rw [p4]; exact hx)
        · exact rch_step (i1 s hs hx) hk hs (by unfold edC; rw [if_neg (by omega), if_neg (by omega), if_pos c]; exact ⟨rfl, rfl⟩)
      refine ⟨⟨fun s hs hx => ?_, fun j s hj kj hs hx => ?_, fun j s hjk hj kj hs hx => ?_, fun j s hjk hj kj hs hx => ?_⟩, fun j hj => ⟨(hT j hj).1, fun hu s hs => ?_⟩⟩
      · rw [v1 s hs, Bool.and_eq_true] at hx
        have ht : tA A (lA A k) s = false := by
          have : tA A (lA A k) = tA A k := by unfold tA; rw [p5]
          rw [this]
          have := hx.2
          cases hz : tA A k s with
          | false => rfl
          | true => rw [hz] at this; cases this
        exact rch_step (hR s hs hx.1) pn hs (by unfold edC; rw [if_neg (by omega), if_pos p2, ht, p3]; exact ⟨rfl, rfl⟩)
      · by_cases mj : mA A j = mA A k
        · have ej := wu j (lA A k) hj pn (by omega) (by omega) (by omega)
          rw [mj, v2] at hx
          rw [ej]
          exact hR s hs hx
        · rw [v3 _ (by omega) (by omega)] at hx
          exact i2 j s hj kj hs hx
      · have := hcell j hj (by omega)
        rw [v3 _ (by omega) (by omega)] at hx
        exact i3 j s (by have : j ≠ k := fun e => by rw [e] at kj; omega
                         omega) hj kj hs hx
      · have := hcell j hj (by omega)
        rw [v3 _ (by omega) (by omega)] at hx
        exact i4 j s (by have : j ≠ k := fun e => by rw [e] at kj; omega
                         omega) hj kj hs hx
      · have a := (hT j hj).1
        rw [v3 _ (by omega) (by omega)]
        exact (hT j hj).2 hu s hs
    · have e : stpσ f (f + 3) (kA A k) (vA A k) (mA A k) (t k) σ = copσ σ (f + 26 + 1 + 2 * mA A k) (f + 1) := by
        simp [stpσ, choσ, c]
      have v2 : (stpσ f (f + 3) (kA A k) (vA A k) (mA A k) (t k) σ) (f + 26 + 1 + 2 * mA A k) = σ (f + 1) := by
        rw [e]; simp [copσ, upσ]
      have v3 : ∀ b, b ≠ f + 26 + 1 + 2 * mA A k → (stpσ f (f + 3) (kA A k) (vA A k) (mA A k) (t k) σ) b = σ b := fun b b1 => by
        rw [e]; simp [copσ, upσ, b1]
      generalize stpσ f (f + 3) (kA A k) (vA A k) (mA A k) (t k) σ = τ at v2 v3
      refine ⟨⟨fun s hs hx => ?_, fun j s hj kj hs hx => ?_, fun j s hjk hj kj hs hx => ?_, fun j s hjk hj kj hs hx => ?_⟩, fun j hj => ⟨(hT j hj).1, fun hu s hs => ?_⟩⟩
      · rw [v3 _ (by omega)] at hx
        exact rch_step (i1 s hs hx) hk hs (by unfold edC; rw [if_neg (by omega), if_neg (by omega), if_neg (by omega), if_pos c]; exact ⟨Or.inl rfl, rfl⟩)
      · have := hcell j hj (by omega)
        rw [v3 _ (by omega)] at hx
        exact i2 j s hj kj hs hx
      · by_cases mj : mA A j = mA A k
        · have ej := wu j k hj hk (by omega) (by omega) mj
          rw [mj, v2] at hx
          rw [ej]
          exact i1 s hs hx
        · rw [v3 _ (by omega)] at hx
          exact i3 j s (by have : j ≠ k := fun e => mj (by rw [e])
                           omega) hj kj hs hx
      · have := hcell j hj (by omega)
        rw [v3 _ (by omega)] at hx
        exact i4 j s (by have : j ≠ k := fun e => by rw [e] at kj; omega
                         omega) hj kj hs hx
      · have a := (hT j hj).1
        rw [v3 _ (by omega)]
        exact (hT j hj).2 hu s hs
    · have e : stpσ f (f + 3) (kA A k) (vA A k) (mA A k) (t k) σ = copσ (copσ σ (f + 33 + 1 + 2 * mA A k) (f + 1)) (f + 1) (f + 26 + 1 + 2 * mA A k) := by
        simp [stpσ, choσ, c]
      have n1 : ¬ f + 26 + 1 + 2 * mA A k = f + 33 + 1 + 2 * mA A k := by omega
      have n2 : ¬ f + 33 + 1 + 2 * mA A k = f + 1 := by omega
      have v1 : (stpσ f (f + 3) (kA A k) (vA A k) (mA A k) (t k) σ) (f + 1) = σ (f + 26 + 1 + 2 * mA A k) := by
        rw [e]; simp [copσ, upσ, n1]
      have v2 : (stpσ f (f + 3) (kA A k) (vA A k) (mA A k) (t k) σ) (f + 33 + 1 + 2 * mA A k) = σ (f + 1) := by
        rw [e]; simp [copσ, upσ, n2]
      have v3 : ∀ b, b ≠ f + 1 → b ≠ f + 33 + 1 + 2 * mA A k → (stpσ f (f + 3) (kA A k) (vA A k) (mA A k) (t k) σ) b = σ b := fun b b1 b2 => by
        rw [e]; simp [copσ, upσ, b1, b2]
      generalize stpσ f (f + 3) (kA A k) (vA A k) (mA A k) (t k) σ = τ at v1 v2 v3
      obtain ⟨⟨i, p1, p2, p3, p4⟩, p5⟩ := w9 k hk c
      refine ⟨⟨fun s hs hx => ?_, fun j s hj kj hs hx => ?_, fun j s hjk hj kj hs hx => ?_, fun j s hjk hj kj hs hx => ?_⟩, fun j hj => ⟨(hT j hj).1, fun hu s hs => ?_⟩⟩
      · rw [v1, ← p4] at hx
        have hi := i3 i s p1 (by omega) p2 hs hx
        exact rch_step hi (by omega) hs (by unfold edC; rw [if_neg (by omega), if_neg (by omega), if_neg (by omega), if_pos p2, p3]; exact ⟨Or.inr rfl, rfl⟩)
      · have := hcell j hj (by omega)
        rw [v3 _ (by omega) (by omega)] at hx
        exact i2 j s hj kj hs hx
      · have := hcell j hj (by omega)
        rw [v3 _ (by omega) (by omega)] at hx
        exact i3 j s (by have : j ≠ k := fun e => by rw [e] at kj; omega
                         omega) hj kj hs hx
      · by_cases mj : mA A j = mA A k
        · have ej := wf_9 ⟨w0, w6, w7, w8, w9, w10, wu⟩ hj hk kj c mj
          rw [mj, v2] at hx
          rw [ej]
          exact i1 s hs hx
        · rw [v3 _ (by omega) (by omega)] at hx
          exact i4 j s (by have : j ≠ k := fun e => mj (by rw [e])
                           omega) hj kj hs hx
      · have a := (hT j hj).1
        rw [v3 _ (by omega) (by omega)]
        exact (hT j hj).2 hu s hs
    · have e : stpσ f (f + 3) (kA A k) (vA A k) (mA A k) (t k) σ = uniσ σ (f + 1) (f + 33 + 1 + 2 * mA A k) := by
        simp [stpσ, choσ, c]
      have v1 : (stpσ f (f + 3) (kA A k) (vA A k) (mA A k) (t k) σ) (f + 1) = fun s => (σ (f + 1) s || σ (f + 33 + 1 + 2 * mA A k) s) := by
        rw [e]; simp [uniσ, upσ]
      have v3 : ∀ b, b ≠ f + 1 → (stpσ f (f + 3) (kA A k) (vA A k) (mA A k) (t k) σ) b = σ b := fun b b1 => by
        rw [e]; simp [uniσ, upσ, b1]
      generalize stpσ f (f + 3) (kA A k) (vA A k) (mA A k) (t k) σ = τ at v1 v3
      obtain ⟨i, p1, p2, p3, p4⟩ := w10 k hk c
      refine ⟨⟨fun s hs hx => ?_, fun j s hj kj hs hx => ?_, fun j s hjk hj kj hs hx => ?_, fun j s hjk hj kj hs hx => ?_⟩, fun j hj => ⟨(hT j hj).1, fun hu s hs => ?_⟩⟩
      · have hRk : Rch (edC A) (nA A) B k s := by
          rw [v1] at hx
          rcases (Bool.or_eq_true _ _).mp hx with hx | hx
          · exact i1 s hs hx
          · rw [← p4] at hx
            have hi := i4 i s p1 (by omega) p2 hs hx
            exact rch_step hi (by omega) hs (by unfold edC; rw [if_neg (by omega), if_neg (by omega), if_neg (by omega), if_neg (by omega), if_pos p2, p3]; exact ⟨rfl, rfl⟩)
        exact rch_step hRk hk hs (by unfold edC; rw [if_neg (by omega), if_neg (by omega), if_neg (by omega), if_neg (by omega), if_neg (by omega)]; exact ⟨rfl, rfl⟩)
      · rw [v3 _ (by omega)] at hx
        exact i2 j s hj kj hs hx
      · rw [v3 _ (by omega)] at hx
        exact i3 j s (by have : j ≠ k := fun e => by rw [e] at kj; omega
                         omega) hj kj hs hx
      · rw [v3 _ (by omega)] at hx
        exact i4 j s (by have : j ≠ k := fun e => by rw [e] at kj; omega
                         omega) hj kj hs hx
      · have a := (hT j hj).1
        rw [v3 _ (by omega)]
        exact (hT j hj).2 hu s hs
