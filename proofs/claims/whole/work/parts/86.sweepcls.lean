/-! ===== the class's pass with given sets in the loops is a sweep ===== -/
section SC
variable {A : AP} {f : Nat} {t : Nat → Nat} {σ : SG} {B : ST}
theorem pas_ins (hw : wfA A) (hT : trW A f t σ) {l : Nat} (hl : l < 3) : ∀ k, k ≤ nA A → pasN f (f + 10) (pvA A t) k σ (f + 10 + 1 + 2 * l) = σ (f + 10 + 1 + 2 * l)
  | 0, _ => rfl
  | k + 1, hk => by
    obtain ⟨k10, kv, m5, m6⟩ := hw.1 k (by omega)
    have n : f + 10 + 1 + 2 * l ≠ wrC A f k := by
      unfold wrC
      split
      · omega
      · split
        · have := m6 (by omega); omega
        · split
          · omega
          · split <;> omega
    rw [pas_cell hw (Or.inr rfl) hT (k := k) (by omega) (by omega) n]
    exact pas_ins hw hT hl k (by omega)
theorem sw_cls (hw : wfA A) (hT : trW A f t σ) (hB : ∀ s, s < 216 → σ (f + 1) s = B s) : swE A (fun l => σ (f + 10 + 1 + 2 * l)) B (fun k => pasN f (f + 10) (pvA A t) k σ (f + 1)) := by
  have n5 : ¬ f + 10 = f + 3 := by omega
  refine ⟨hB, fun k hk u hu => ?_⟩
  obtain ⟨k10, kv, m5, m6⟩ := hw.1 k hk
  have e := pas_now hw (Or.inr rfl) hT hk hu (k := k) (ia := f + 10)
  have ej : 6 ≤ kA A k → jnV A f (f + 10) k (pasN f (f + 10) (pvA A t) k σ) u = σ (f + 10 + 1 + 2 * mA A k) u := fun q => by
    rw [jnV, if_neg n5, pas_ins hw hT (m6 q) k (by omega)]
  refine ⟨fun c => ?_, fun c => ?_, fun c => ?_, fun c => ?_, fun i hi ci ei => ?_, fun i hi c ci ei => ?_⟩
  · show pasN f (f + 10) (pvA A t) (k + 1) σ (f + 1) u = _
    rw [e, nwV, if_pos c]
  · show pasN f (f + 10) (pvA A t) (k + 1) σ (f + 1) u = _
    rw [e, nwV, if_neg (by omega), if_pos c, ej (by omega)]
  · show pasN f (f + 10) (pvA A t) (k + 1) σ (f + 1) u = _
    rw [e, nwV, if_neg (by omega), if_neg (by omega), if_pos c, ej (by omega)]
  · show pasN f (f + 10) (pvA A t) (k + 1) σ (f + 1) u = _
    rw [e, nwV, if_neg (by omega), if_neg (by omega), if_neg (by omega), if_pos c]
  · show pasN f (f + 10) (pvA A t) (k + 1) σ (f + 1) u = pasN f (f + 10) (pvA A t) i σ (f + 1) u
    obtain ⟨p1, p2, p3, p4⟩ := hw.2.2.2.1 i (by omega) ci
    rw [ei] at p3 p4
    rw [e, nwV, if_neg (by omega), if_neg (by omega), if_neg (by omega), if_neg (by omega), if_pos p3, p4]
    have w : wrC A f i = f + 26 + 1 + 2 * mA A i := by unfold wrC; rw [if_neg (by omega), if_neg (by omega), if_pos ci]
    have g := pas_keep hw (Or.inr rfl) hT (j := i) (by omega) (Or.inr (Or.inl ci)) (k - (i + 1)) (by omega) (ia := f + 10)
    rw [show i + 1 + (k - (i + 1)) = k by omega, w] at g
    rw [g]
  · show pasN f (f + 10) (pvA A t) (k + 1) σ (f + 1) u = (pasN f (f + 10) (pvA A t) k σ (f + 1) u || pasN f (f + 10) (pvA A t) i σ (f + 1) u)
    obtain ⟨-, p1, p2, p3, p4⟩ := hw.2.2.2.2.1 i (by omega) ci
    rw [ei] at p4
    rw [e, nwV, if_neg (by omega), if_neg (by omega), if_neg (by omega), if_neg (by omega), if_neg (by omega), p4]
    have w : wrC A f i = f + 33 + 1 + 2 * mA A i := by unfold wrC; rw [if_neg (by omega), if_neg (by omega), if_neg (by omega), if_pos ci]
    have g := pas_keep hw (Or.inr rfl) hT (j := i) (by omega) (Or.inr (Or.inr ci)) (k - (i + 1)) (by omega) (ia := f + 10)
    rw [show i + 1 + (k - (i + 1)) = k by omega, w] at g
    rw [g]
/-- what has come to the loops behind a pass -/
theorem pas_come {ia : Nat} (hw : wfA A) (hia : ia = f + 3 ∨ ia = f + 10) (hT : trW A f t σ) {l : Nat} (hl : l < 3) (s : Nat) : ∀ k, k ≤ nA A → (pasN f ia (pvA A t) k σ (f + 3 + 1 + 2 * l) s = true ↔ σ (f + 3 + 1 + 2 * l) s = true ∨ ∃ j, j < k ∧ (kA A j = 6 ∨ kA A j = 7) ∧ mA A j = l ∧ pasN f ia (pvA A t) j σ (f + 1) s = true)
  | 0, _ => ⟨Or.inl, fun h => h.elim (fun q => q) (fun ⟨j, q, _⟩ => absurd q (Nat.not_lt_zero _))⟩
  | k + 1, hk => by
    have ih := pas_come hw hia hT hl s k (by omega)
    by_cases c : (kA A k = 6 ∨ kA A k = 7) ∧ mA A k = l
    · have e := congrFun (pas_cm hw hia hT (k := k) (by omega) c.1) s
      rw [c.2] at e
      rw [e, Bool.or_eq_true, ih]
      constructor
      · rintro ((h | ⟨j, a, b⟩) | h)
        · exact Or.inl h
        · exact Or.inr ⟨j, by omega, b⟩
        · exact Or.inr ⟨k, by omega, c.1, c.2, h⟩
      · rintro (h | ⟨j, a, b⟩)
        · exact Or.inl (Or.inl h)
        · rcases Nat.lt_or_ge j k with q | q
          · exact Or.inl (Or.inr ⟨j, q, b⟩)
          · obtain rfl : j = k := by omega
            exact Or.inr b.2.2
    · rw [pas_cell hw hia hT (k := k) (by omega) (by omega) (wr_cm hw (by omega) hl c), ih]
      constructor
      · rintro (h | ⟨j, a, b⟩)
        · exact Or.inl h
        · exact Or.inr ⟨j, by omega, b⟩
      · rintro (h | ⟨j, a, b⟩)
        · exact Or.inl h
        · rcases Nat.lt_or_ge j k with q | q
          · exact Or.inr ⟨j, q, b⟩
          · obtain rfl : j = k := by omega
            exact absurd ⟨b.1, b.2.1⟩ c
end SC
