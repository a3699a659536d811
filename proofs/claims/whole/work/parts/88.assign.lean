/-! ===== the sets that guesses give to the loops ===== -/
theorem asgG_ok {a m : Nat} {gt : Nat → Nat} {τ : SG} : ∀ n, (∀ g, g < n → m.testBit g = true → gt g ≠ a) → (∀ s, asgG a m gt n τ a s = (τ a s && allN (fun g => !m.testBit g || τ (gt g) s) n)) ∧ ∀ b, b ≠ a → asgG a m gt n τ b = τ b
  | 0, _ => ⟨fun s => by simp [asgG, allN], fun b _ => rfl⟩
  | n + 1, h => by
    obtain ⟨i1, i2⟩ := asgG_ok (a := a) (m := m) (gt := gt) (τ := τ) n (fun g hg => h g (by omega))
    unfold asgG
    cases hb : m.testBit n with
    | true =>
      rw [if_pos rfl]
      have hn := h n (by omega) hb
      refine ⟨fun s => ?_, fun b hb2 => ?_⟩
      · simp only [metσ, upσ, if_true]
        rw [i1 s, i2 _ hn]
        simp [allN, hb, Bool.and_assoc]
      · simp only [metσ, upσ, if_neg hb2]
        exact i2 b hb2
    | false =>
      rw [if_neg (by decide)]
      refine ⟨fun s => ?_, i2⟩
      rw [i1 s]
      simp [allN, hb]
theorem asgN_ok {f : Nat} {gn gt : Nat → Nat} {σ : SG} (hg : ∀ i g, (gn i).testBit g = true → gt g < f ∨ f + 40 ≤ gt g) : ∀ n, n ≤ 3 → (∀ i, i < n → (∀ s, asgN f gn gt n σ (f + 10 + 1 + 2 * i) s = allN (fun g => !(gn i).testBit g || σ (gt g) s) 5) ∧ ∀ s, asgN f gn gt n σ (f + 3 + 1 + 2 * i) s = false) ∧ ∀ b, (∀ i, i < n → b ≠ f + 10 + 1 + 2 * i ∧ b ≠ f + 3 + 1 + 2 * i) → asgN f gn gt n σ b = σ b
  | 0, _ => ⟨fun i hi => absurd hi (Nat.not_lt_zero _), fun b _ => rfl⟩
  | n + 1, hn => by
    obtain ⟨i1, i2⟩ := asgN_ok (σ := σ) hg n (by omega)
    have ne : ∀ g, g < 5 → (gn n).testBit g = true → gt g ≠ f + 10 + 1 + 2 * n := fun g _ h => by
      have := hg n g h
      omega
    obtain ⟨a1, a2⟩ := asgG_ok (a := f + 10 + 1 + 2 * n) (m := gn n) (gt := gt) (τ := upσ (upσ (asgN f gn gt n σ) (f + 3 + 1 + 2 * n) (fun _ => false)) (f + 10 + 1 + 2 * n) (fun _ => true)) 5 ne
    have e : asgN f gn gt (n + 1) σ = asgG (f + 10 + 1 + 2 * n) (gn n) gt 5 (upσ (upσ (asgN f gn gt n σ) (f + 3 + 1 + 2 * n) (fun _ => false)) (f + 10 + 1 + 2 * n) (fun _ => true)) := rfl
    have out : ∀ b, b ≠ f + 10 + 1 + 2 * n → b ≠ f + 3 + 1 + 2 * n → asgN f gn gt (n + 1) σ b = asgN f gn gt n σ b := fun b b1 b2 => by
      rw [e, a2 b b1, upσ_ne _ _ b1, upσ_ne _ _ b2]
    refine ⟨fun i hi => ?_, fun b hb => ?_⟩
    · rcases Nat.lt_or_ge i n with q | q
      · refine ⟨fun s => ?_, fun s => ?_⟩
        · rw [out _ (by omega) (by omega)]; exact (i1 i q).1 s
        · rw [out _ (by omega) (by omega)]; exact (i1 i q).2 s
      · obtain rfl : i = n := by omega
        refine ⟨fun s => ?_, fun s => ?_⟩
        · rw [e, a1 s, upσ_self, Bool.true_and]
          have cg : ∀ k, k ≤ 5 → allN (fun g => !(gn i).testBit g || upσ (upσ (asgN f gn gt i σ) (f + 3 + 1 + 2 * i) (fun _ => false)) (f + 10 + 1 + 2 * i) (fun _ => true) (gt g) s) k = allN (fun g => !(gn i).testBit g || σ (gt g) s) k := by
            intro k
            induction k with
            | zero => intro _; rfl
            | succ k ihk =>
              intro hk
              show (allN _ k && _) = (allN _ k && _)
              rw [ihk (by omega)]
              cases hb : (gn i).testBit k with
              | false =>
                show (_ && (!(gn i).testBit k || _)) = (_ && (!(gn i).testBit k || _))
                rw [hb]
                rfl
              | true =>
                have o := hg i k hb
                show (_ && (!(gn i).testBit k || upσ (upσ (asgN f gn gt i σ) (f + 3 + 1 + 2 * i) (fun _ => false)) (f + 10 + 1 + 2 * i) (fun _ => true) (gt k) s)) = _
                rw [upσ_ne _ _ (by omega), upσ_ne _ _ (by omega), i2 (gt k) (fun x hx => by omega)]
          exact cg 5 (Nat.le_refl _)
        · rw [e, a2 _ (by omega), upσ_ne _ _ (by omega), upσ_self]
    · have hn2 := hb n (by omega)
      rw [out b hn2.1 hn2.2]
      exact i2 b (fun i hi => hb i (by omega))
theorem allN_low {p : Nat → Bool} : ∀ m n, n ≤ m → (∀ g, n ≤ g → g < m → p g = true) → allN p m = allN p n
  | 0, n, h, _ => by rw [show n = 0 by omega]
  | m + 1, n, h, hp => by
    rcases Nat.lt_or_ge n (m + 1) with q | q
    · show (allN p m && p m) = _
      rw [hp m (by omega) (by omega), Bool.and_true]
      exact allN_low m n (by omega) (fun g h1 h2 => hp g h1 (by omega))
    · rw [show n = m + 1 by omega]
