/-! ===== one sweep: the sets of the class and of the reference ===== -/
/-- what a sweep has at the nodes, if loops have the sets I -/
def swE (A : AP) (I : Nat → ST) (B : ST) (W : Nat → ST) : Prop := (∀ u, u < 216 → W 0 u = B u) ∧ ∀ k, k < nA A → ∀ u, u < 216 →
  (kA A k ≤ 5 → W (k + 1) u = fwS A k (W k) u) ∧ (kA A k = 6 → W (k + 1) u = (I (mA A k) u && tA A k u)) ∧ (kA A k = 7 → W (k + 1) u = (I (mA A k) u && !tA A k u)) ∧ (kA A k = 8 → W (k + 1) u = W k u) ∧
  (∀ i, i < k → kA A i = 8 → lA A i = k → W (k + 1) u = W i u) ∧ (∀ i, i < k → kA A k = 10 → kA A i = 9 → lA A i = k → W (k + 1) u = (W k u || W i u))
def srX (A : AP) (I : Nat → ST) (X : Nat → Nat → Nat → Prop) (i s : Nat) : Prop := if kA A i = 6 then I (mA A i) s = true else X i i s
theorem sw_eq {A : AP} {I : Nat → ST} {B : ST} {W : Nat → ST} {X : Nat → Nat → Nat → Prop} (hw : wfA A) (hW : swE A I B W) (hX : ∀ k, k ≤ nA A → ∀ j u, u < 216 → (X k j u ↔ (j = 0 ∧ B u = true) ∨ ∃ i s, i < k ∧ s < 216 ∧ srX A I X i s ∧ edC A i s j u)) : ∀ k, k ≤ nA A → ∀ u, u < 216 → (X k k u ↔ W k u = true ∨ (k < nA A ∧ kA A k = 10 ∧ ∃ i, i < k ∧ kA A i = 9 ∧ lA A i = k ∧ W i u = true)) := by
  intro k
  induction k using Nat.strongRecOn with
  | ind k ih =>
  intro hk u hu
  have plain : ∀ i, i < k → kA A i ≠ 6 → kA A i ≠ 10 → ∀ s, s < 216 → (srX A I X i s ↔ W i s = true) := fun i hi h6 h10 s hs => by
    unfold srX
    rw [if_neg h6, ih i hi (by omega) s hs]
    exact ⟨fun h => h.elim (fun q => q) (fun q => absurd q.2.1 h10), Or.inl⟩
  obtain ⟨w0, w6, w7, w8, w9, w10, wu⟩ := hw
  rw [hX k hk k u hu]
  rcases Nat.eq_zero_or_pos k with z | z
  · subst z
    constructor
    · rintro (h | ⟨i, s, h, _⟩)
      · exact Or.inl (by rw [hW.1 u hu]; exact h.2)
      · exact absurd h (Nat.not_lt_zero _)
    · rintro (h | ⟨_, _, i, h, _⟩)
      · exact Or.inl ⟨rfl, by rw [← hW.1 u hu]; exact h⟩
      · exact absurd h (Nat.not_lt_zero _)
  · obtain ⟨m, rfl⟩ : ∃ m, k = m + 1 := ⟨k - 1, by omega⟩
    obtain ⟨e5, e6, e7, e8, e9, e10⟩ := hW.2 m (by omega) u hu
    have hm : m < nA A := by omega
    obtain ⟨m10, mv, -, -⟩ := w0 m hm
    constructor
    · rintro (h | ⟨i, s, hi, hs, hsr, he⟩)
      · exact absurd h.1 (by omega)
      · have hin : i < nA A := by omega
        obtain ⟨i10, iv, -, -⟩ := w0 i hin
        unfold edC at he
        split at he
        · rename_i q
          obtain ⟨q1, q2⟩ := he
          obtain rfl : i = m := by omega
          refine Or.inl ?_
          rw [e5 q]
          exact (fw_iff hu mv).mpr ⟨s, hs, (plain i (by omega) (by omega) (by omega) s hs).mp hsr, q2⟩
        split at he
        · rename_i q c
          obtain ⟨q1, rfl⟩ := he
          unfold srX at hsr
          rw [if_pos c] at hsr
          cases ht : tA A i u with
          | true =>
            rw [ht, if_pos rfl] at q1
            obtain rfl : i = m := by omega
            exact Or.inl (by rw [e6 c, hsr, ht]; rfl)
          | false =>
            rw [ht, if_neg (by decide)] at q1
            obtain ⟨p1, p2, p3, p4⟩ := w6 i hin c
            have em : lA A i = m := by omega
            rw [em] at p3 p4
            obtain ⟨r1, r2, r3, r4, r5⟩ := w7 m hm p3
            rw [p4] at r4 r5
            refine Or.inl ?_
            have et : tA A m u = false := by unfold tA; rw [← r5]; exact ht
            rw [e7 p3, ← r4, hsr, et]
            rfl
        split at he
        · rename_i q c1 c
          have := (w7 i hin c).1
          omega
        split at he
        · rename_i q c1 c2 c
          obtain ⟨q1, rfl⟩ := he
          have wi := (plain i (by omega) (by omega) (by omega) u hu).mp hsr
          rcases q1 with q1 | q1
          · obtain rfl : i = m := by omega
            exact Or.inl (by rw [e8 c]; exact wi)
          · have em : lA A i = m := by omega
            have := (w8 i hin c).1
            exact Or.inl (by rw [e9 i (by omega) c em]; exact wi)
        split at he
        · rename_i q c1 c2 c3 c
          obtain ⟨q1, rfl⟩ := he
          have wi := (plain i (by omega) (by omega) (by omega) u hu).mp hsr
          obtain ⟨-, p1, p2, p3, p4⟩ := w9 i hin c
          exact Or.inr ⟨by omega, by rw [q1]; exact p3, i, by omega, c, q1.symm, wi⟩
        · rename_i q c1 c2 c3 c4
          obtain ⟨q1, rfl⟩ := he
          obtain rfl : i = m := by omega
          have c : kA A i = 10 := by omega
          unfold srX at hsr
          rw [if_neg (by omega), ih i (by omega) (by omega) u hu] at hsr
          refine Or.inl ?_
          rcases hsr with h | ⟨_, _, b, b1, b2, b3, b4⟩
          · obtain ⟨b, b1, b2, b3, b4⟩ := w10 i hin c
            rw [e10 b b1 c b2 b3, h]
            rfl
          · rw [e10 b b1 c b2 b3, b4, Bool.or_true]
    · rintro (h | ⟨hn, c, i, i1, i2, i3, i4⟩)
      · refine Or.inr ?_
        rcases Nat.lt_or_ge (kA A m) 6 with q | q
        · rw [e5 (by omega)] at h
          obtain ⟨s, s1, s2, s3⟩ := (fw_iff hu mv).mp h
          exact ⟨m, s, by omega, s1, (plain m (by omega) (by omega) (by omega) s s1).mpr s2, by unfold edC; rw [if_pos (by omega)]; exact ⟨rfl, s3⟩⟩
        · rcases (show kA A m = 6 ∨ kA A m = 7 ∨ kA A m = 8 ∨ kA A m = 9 ∨ kA A m = 10 by omega) with c | c | c | c | c
          · rw [e6 c, Bool.and_eq_true] at h
            exact ⟨m, u, by omega, hu, by unfold srX; rw [if_pos c]; exact h.1, by unfold edC; rw [if_neg (by omega), if_pos c, if_pos h.2]; exact ⟨rfl, rfl⟩⟩
          · rw [e7 c, Bool.and_eq_true] at h
            obtain ⟨r1, r2, r3, r4, r5⟩ := w7 m hm c
            have et : tA A (lA A m) u = false := by
              have : tA A (lA A m) = tA A m := by unfold tA; rw [r5]
              rw [this]
              cases hz : tA A m u with
              | false => rfl
              | true => rw [hz] at h; exact absurd h.2 (by decide)
            exact ⟨lA A m, u, by omega, hu, by unfold srX; rw [if_pos r2, r4]; exact h.1, by unfold edC; rw [if_neg (by omega), if_pos r2, et, r3]; exact ⟨rfl, rfl⟩⟩
          · rw [e8 c] at h
            exact ⟨m, u, by omega, hu, (plain m (by omega) (by omega) (by omega) u hu).mpr h, by unfold edC; rw [if_neg (by omega), if_neg (by omega), if_neg (by omega), if_pos c]; exact ⟨Or.inl rfl, rfl⟩⟩
          · obtain ⟨⟨i, i1, i2, i3, i4⟩, -⟩ := w9 m hm c
            rw [e9 i i1 i2 i3] at h
            exact ⟨i, u, by omega, hu, (plain i (by omega) (by omega) (by omega) u hu).mpr h, by unfold edC; rw [if_neg (by omega), if_neg (by omega), if_neg (by omega), if_pos i2, i3]; exact ⟨Or.inr rfl, rfl⟩⟩
          · obtain ⟨i, i1, i2, i3, i4⟩ := w10 m hm c
            rw [e10 i i1 c i2 i3, Bool.or_eq_true] at h
            refine ⟨m, u, by omega, hu, ?_, by unfold edC; rw [if_neg (by omega), if_neg (by omega), if_neg (by omega), if_neg (by omega), if_neg (by omega)]; exact ⟨rfl, rfl⟩⟩
            unfold srX
            rw [if_neg (by omega), ih m (by omega) (by omega) u hu]
            rcases h with h | h
            · exact Or.inl h
            · exact Or.inr ⟨hm, c, i, i1, i2, i3, h⟩
      · exact Or.inr ⟨i, u, i1, hu, (plain i i1 (by omega) (by omega) u hu).mpr i4, by unfold edC; rw [if_neg (by omega), if_neg (by omega), if_neg (by omega), if_neg (by omega), if_pos i2, i3]; exact ⟨rfl, rfl⟩⟩
