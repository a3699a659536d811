/-! ===== guesses given up ===== -/
theorem tb31 : ∀ g, g < 5 → (31 : Nat).testBit g = true := by decide
theorem difG_tb {a : Nat} (w g : Nat) (ha : a < 32) : (difG a w).testBit g = (a.testBit g && !w.testBit g) := by
  unfold difG
  rw [Nat.testBit_and, Nat.testBit_xor]
  cases q : a.testBit g with
  | false => rfl
  | true =>
    rw [tb31 g (tb_lt (n := 5) ha q)]
    cases w.testBit g <;> rfl
theorem guA_tb {Q : AP} {V : GC} {C : NS} {k gi : Nat} {y : (Nat → Nat) × Nat} (hy : ∀ l, y.1 l < 32) (l g : Nat) : ((guA Q V C k gi y).1 l).testBit g = ((y.1 l).testBit g && (!decide (l = mA Q k) || !decide (g = gi) || soA V C g k)) := by
  by_cases c : l = mA Q k
  · subst c
    rw [decide_eq_true rfl]
    cases h1 : (y.1 (mA Q k)).testBit gi with
    | false =>
      rw [guA_no1 h1]
      by_cases e : g = gi
      · subst e; rw [h1]; rfl
      · rw [decide_eq_false e]; simp
    | true =>
      cases h2 : soA V C gi k with
      | true =>
        rw [guA_no2 h2]
        by_cases e : g = gi
        · subst e; rw [h2]; simp
        · rw [decide_eq_false e]; simp
      | false =>
        rw [guA_yes h1 h2]
        show (upN y.1 (mA Q k) (difG (y.1 (mA Q k)) (2 ^ gi)) (mA Q k)).testBit g = _
        rw [upN, if_pos rfl, difG_tb _ _ (hy _), Nat.testBit_two_pow]
        by_cases e : g = gi
        · subst e; rw [h2]; simp
        · rw [decide_eq_false e, decide_eq_false (fun q => e q.symm)]; simp
  · rw [decide_eq_false c]
    have e : (guA Q V C k gi y).1 l = y.1 l := by
      unfold guA
      split
      · exact if_neg c
      · rfl
    rw [e]; simp
theorem guF_tb {Q : AP} {V : GC} {C : NS} {k : Nat} {y : (Nat → Nat) × Nat} (hy : ∀ l, y.1 l < 32) (l g : Nat) : ∀ n, ((foN (guA Q V C k) n y).1 l).testBit g = ((y.1 l).testBit g && (!decide (l = mA Q k) || !decide (g < n) || soA V C g k))
  | 0 => by simp [foN]
  | n + 1 => by
    show ((guA Q V C k n (foN (guA Q V C k) n y)).1 l).testBit g = _
    rw [guA_tb (foN_inv (P := fun (y : (Nat → Nat) × Nat) => ∀ l, y.1 l < 32) (fun _ _ q => guA_inv q) n y hy), guF_tb hy l g n]
    by_cases c : l = mA Q k
    · rw [decide_eq_true c]
      rcases Nat.lt_trichotomy g n with e | e | e
      · rw [decide_eq_true e, decide_eq_false (show ¬ g = n by omega), decide_eq_true (show g < n + 1 by omega)]; simp
      · subst e; rw [decide_eq_false (Nat.lt_irrefl _), decide_eq_true (show g < g + 1 by omega), decide_eq_true rfl]; simp
      · rw [decide_eq_false (show ¬ g < n by omega), decide_eq_false (show ¬ g = n by omega), decide_eq_false (show ¬ g < n + 1 by omega)]; simp
    · rw [decide_eq_false c]; simp
theorem guS_tb {Q : AP} {V : GC} {C : NS} {k : Nat} {y : (Nat → Nat) × Nat} (hy : ∀ l, y.1 l < 32) (l g : Nat) : ((guS Q V C k y).1 l).testBit g = ((y.1 l).testBit g && (!decide (kA Q k = 6) || !decide (l = mA Q k) || !decide (g < V.1) || soA V C g k)) := by
  unfold guS
  by_cases c : kA Q k = 6
  · rw [if_pos c, guF_tb hy, decide_eq_true c]; simp
  · rw [if_neg c, decide_eq_false c]; simp
theorem guP_tb {Q : AP} {V : GC} {C : NS} {y : (Nat → Nat) × Nat} (hy : ∀ l, y.1 l < 32) (l g : Nat) : ∀ n, ((foN (guS Q V C) n y).1 l).testBit g = ((y.1 l).testBit g && allN (fun k => !decide (kA Q k = 6) || !decide (l = mA Q k) || !decide (g < V.1) || soA V C g k) n)
  | 0 => by simp [foN, allN]
  | n + 1 => by
    show ((guS Q V C n (foN (guS Q V C) n y)).1 l).testBit g = _
    rw [guS_tb (foN_inv (P := fun (y : (Nat → Nat) × Nat) => ∀ l, y.1 l < 32) (fun _ _ q => guS_inv q) n y hy), guP_tb hy l g n, Bool.and_assoc]
    rfl
theorem allN_iff {p : Nat → Bool} : ∀ n, allN p n = true ↔ ∀ g, g < n → p g = true
  | 0 => ⟨fun _ g h => absurd h (Nat.not_lt_zero _), fun _ => rfl⟩
  | n + 1 => by
    show (allN p n && p n) = true ↔ _
    rw [Bool.and_eq_true, allN_iff n]
    exact ⟨fun h g hg => by
      rcases Nat.lt_or_ge g n with q | q
      · exact h.1 g q
      · obtain rfl : g = n := by omega
        exact h.2, fun h => ⟨fun g hg => h g (by omega), h n (by omega)⟩⟩
/-- a loop that stands at node j -/
theorem guP_at {Q : AP} {V : GC} {C : NS} {hs : Nat → Nat} (hh : ∀ l, hs l < 32) {l j : Nat} (hj : j < nA Q) (k6 : kA Q j = 6) (m6 : mA Q j = l) (hun : ∀ i, i < nA Q → kA Q i = 6 → mA Q i = l → i = j) (g : Nat) : ((guP Q V C hs).1 l).testBit g = ((hs l).testBit g && (!decide (g < V.1) || soA V C g j)) := by
  unfold guP
  rw [guP_tb (y := (hs, 0)) hh l g (nA Q)]
  congr 1
  rw [Bool.eq_iff_iff, allN_iff]
  constructor
  · intro h
    have := h j hj
    rw [k6, m6] at this
    simpa using this
  · intro h i hi
    by_cases c : kA Q i = 6
    · by_cases d : mA Q i = l
      · obtain rfl := hun i hi c d
        rw [c, d]
        simpa using h
      · rw [decide_eq_false (show ¬ l = mA Q i from fun q => d q.symm)]; simp
    · rw [decide_eq_false c]; simp
theorem guP_no {Q : AP} {V : GC} {C : NS} {hs : Nat → Nat} (hh : ∀ l, hs l < 32) {l : Nat} (hun : ∀ i, i < nA Q → kA Q i = 6 → mA Q i ≠ l) (g : Nat) : ((guP Q V C hs).1 l).testBit g = (hs l).testBit g := by
  unfold guP
  rw [guP_tb (y := (hs, 0)) hh l g (nA Q)]
  have : allN (fun k => !decide (kA Q k = 6) || !decide (l = mA Q k) || !decide (g < V.1) || soA V C g k) (nA Q) = true := by
    rw [allN_iff]
    intro i hi
    by_cases c : kA Q i = 6
    · rw [decide_eq_false (show ¬ l = mA Q i from fun q => hun i hi c q.symm)]; simp
    · rw [decide_eq_false c]; simp
  rw [this, Bool.and_true]
