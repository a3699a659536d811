/-! ===== the reference's sweep, said by the class's sets ===== -/
theorem lc_W {S V : RT} (ht : tabOk S) (hrel : rel S V) {G : GC} {hs t : Nat → Nat} {W : Nat → ST} (hW : swE (aT S) (fun l => agS G (hs l)) (begS t) W) : (∀ u, u < 216 → ((lcP (pgV V).1 G hs t).1 (S 0 1) u = true ↔ W (S 0 1) u = true)) ∧ (∀ j u, j < S 0 1 → S (65 + j) 0 = 5 → u < 216 → ((lcP (pgV V).1 G hs t).1 j u = true ↔ W j u = true)) ∧ (∀ j u, j < S 0 1 → S (65 + j) 0 = 6 → u < 216 → ((lcP (pgV V).1 G hs t).1 j u = true ↔ W j u = true ∨ W (S (65 + j) 3) u = true)) := by
  have hw := wf_of ht
  have hO := (okV hrel ht).1
  have h60 : nA (pgV V).1 ≤ 60 := (okV hrel ht).2.2.1
  have en : nA (pgV V).1 = S 0 1 := (hrel.2.2.1.1 ht.1.2).1
  have eA : nA (aT S) = S 0 1 := rfl
  have hN : ∀ j, j < S 0 1 → ndR 0 S V j := fun j hj => by
    have a := hrel.2.2.2.2.1 j hj
    rw [ht.1.1] at a
    exact a
  have ek6 : ∀ i, i < S 0 1 → (kA (pgV V).1 i = 6 ↔ kA (aT S) i = 6) := fun i hi => by
    show V 11 i = 6 ↔ S (65 + i) 0 = 6
    rcases (hN i hi).1 with u | u
    · rw [u]
    · rw [u.1, u.2.1]; decide
  have em6 : ∀ i, i < S 0 1 → kA (aT S) i = 6 → mA (pgV V).1 i = mA (aT S) i := fun i hi c => (hN i hi).2.2.2.2.1 (by have c' : S (65 + i) 0 = 6 := c; omega) (by have c' : S (65 + i) 0 = 6 := c; omega)
  obtain ⟨w0, w6, w7, w8, w9, w10, wu⟩ := hw
  have noback : ∀ i s j u, i < S 0 1 → edC (aT S) i s j u → i < j ∨ (kA (aT S) i = 7 ∧ lA (aT S) i = j ∧ u = s) := fun i s j u hi he => by
    unfold edC at he
    split at he
    · exact Or.inl (by omega)
    split at he
    · rename_i q c
      have := (w6 i hi c).1
      refine Or.inl ?_
      rw [he.1]
      split <;> omega
    split at he
    · rename_i q c1 c
      exact Or.inr ⟨c, he.1.symm, he.2⟩
    split at he
    · rename_i q c1 c2 c
      have := (w8 i hi c).1
      refine Or.inl ?_
      rcases he.1 with r | r <;> omega
    split at he
    · rename_i q c1 c2 c3 c
      have := (w9 i hi c).2.1
      exact Or.inl (by omega)
    · exact Or.inl (by omega)
  have hself : ∀ k s u, k < nA (pgV V).1 → s < 216 → ¬ edM (pgV V).1 k s k u := fun k s u hk hs he => by
    have hk' : k < S 0 1 := by omega
    have he2 := (ed_eq ht hrel hk' hs (ed_lt hO hk hs he).2).mp he
    rcases noback k s k u hk' he2 with q | q
    · exact absurd q (Nat.lt_irrefl _)
    · have := (w7 k hk' q.1).1
      omega
  have hlc := lc_iff (N := 13392) (Nat.le_refl _) hO h60 (V := G) (hs := hs) hself (bgN t 216, bgN t 216)
  have hbg : ∀ j u, u < 216 → (bgN t 216 j u = true ↔ j = 0 ∧ begS t u = true) := fun j u hu => by
    unfold bgN
    rw [Bool.and_eq_true, Bool.and_eq_true, decide_eq_true_iff, decide_eq_true_iff]
    exact ⟨fun h => ⟨h.1.1, h.2⟩, fun h => ⟨⟨h.1, hu⟩, h.2⟩⟩
  have hX : ∀ k, k ≤ nA (aT S) → ∀ j u, u < 216 → ((foN (lcS (pgV V).1 G hs) k (bgN t 216, bgN t 216)).1 j u = true ↔ (j = 0 ∧ begS t u = true) ∨ ∃ i s, i < k ∧ s < 216 ∧ srX (aT S) (fun l => agS G (hs l)) (fun k j u => (foN (lcS (pgV V).1 G hs) k (bgN t 216, bgN t 216)).1 j u = true) i s ∧ edC (aT S) i s j u) := fun k hk j u hu => by
    rw [hlc k (by omega) j u, show ((bgN t 216, bgN t 216) : NS × NS).1 j u = bgN t 216 j u from rfl, hbg j u hu]
    have sr : ∀ i s, i < k → (srP (pgV V).1 G hs (foN (lcS (pgV V).1 G hs) i (bgN t 216, bgN t 216)) i s ↔ srX (aT S) (fun l => agS G (hs l)) (fun k j u => (foN (lcS (pgV V).1 G hs) k (bgN t 216, bgN t 216)).1 j u = true) i s) := fun i s hi => by
      have hi' : i < S 0 1 := by omega
      unfold srP srX
      by_cases c : kA (aT S) i = 6
      · rw [if_pos c, if_pos ((ek6 i hi').mpr c), em6 i hi' c]
      · rw [if_neg c, if_neg (fun q => c ((ek6 i hi').mp q))]
    constructor
    · rintro (h | ⟨i, s, a, b, c, d⟩)
      · exact Or.inl h
      · exact Or.inr ⟨i, s, a, b, (sr i s a).mp c, (ed_eq ht hrel (by omega) b hu).mp d⟩
    · rintro (h | ⟨i, s, a, b, c, d⟩)
      · exact Or.inl h
      · exact Or.inr ⟨i, s, a, b, (sr i s a).mpr c, (ed_eq ht hrel (by omega) b hu).mpr d⟩
  have sw := sw_eq ⟨w0, w6, w7, w8, w9, w10, wu⟩ hW hX
  have eP : (lcP (pgV V).1 G hs t).1 = (foN (lcS (pgV V).1 G hs) (S 0 1) (bgN t 216, bgN t 216)).1 := by
    unfold lcP
    rw [en]
  have fin : ∀ j u, j < S 0 1 → u < 216 → ((foN (lcS (pgV V).1 G hs) (S 0 1) (bgN t 216, bgN t 216)).1 j u = true ↔ (foN (lcS (pgV V).1 G hs) j (bgN t 216, bgN t 216)).1 j u = true ∨ ∃ i, j ≤ i ∧ i < S 0 1 ∧ kA (aT S) i = 7 ∧ lA (aT S) i = j ∧ W i u = true) := fun j u hj hu => by
    rw [hX (S 0 1) (Nat.le_refl _) j u hu, hX j (Nat.le_of_lt hj) j u hu]
    have sw7 : ∀ i, i < S 0 1 → kA (aT S) i = 7 → (srX (aT S) (fun l => agS G (hs l)) (fun k j u => (foN (lcS (pgV V).1 G hs) k (bgN t 216, bgN t 216)).1 j u = true) i u ↔ W i u = true) := fun i hi c => by
      unfold srX
      rw [if_neg (by omega)]
      exact (sw i (Nat.le_of_lt hi) u hu).trans ⟨fun h => h.elim (fun q => q) (fun q => absurd q.2.1 (by omega)), Or.inl⟩
    constructor
    · rintro (h | ⟨i, s, a, b, c, d⟩)
      · exact Or.inl (Or.inl h)
      · rcases Nat.lt_or_ge i j with q | q
        · exact Or.inl (Or.inr ⟨i, s, q, b, c, d⟩)
        · rcases noback i s j u a d with r | ⟨r1, r2, r3⟩
          · omega
          · subst r3
            exact Or.inr ⟨i, q, a, r1, r2, (sw7 i a r1).mp c⟩
    · rintro ((h | ⟨i, s, a, b, c, d⟩) | ⟨i, a, b, c, d, e⟩)
      · exact Or.inl h
      · exact Or.inr ⟨i, s, by omega, b, c, d⟩
      · exact Or.inr ⟨i, u, b, hu, (sw7 i b c).mpr e, by unfold edC; rw [if_neg (by omega), if_neg (by omega), if_pos c]; exact ⟨d.symm, rfl⟩⟩
  refine ⟨fun u hu => ?_, fun j u hj c hu => ?_, fun j u hj c hu => ?_⟩
  · rw [eP, sw (S 0 1) (Nat.le_refl _) u hu]
    exact ⟨fun h => h.elim (fun q => q) (fun q => absurd q.1 (Nat.lt_irrefl _)), Or.inl⟩
  · have c' : kA (aT S) j = 5 := c
    rw [eP, fin j u hj hu, sw j (Nat.le_of_lt hj) u hu]
    constructor
    · rintro ((h | h) | ⟨i, a, b, d, e, _⟩)
      · exact h
      · omega
      · have := (w7 i b d).2.1
        rw [e] at this
        omega
    · exact fun h => Or.inl (Or.inl h)
  · have c' : kA (aT S) j = 6 := c
    obtain ⟨p1, p2, p3, p4⟩ := w6 j hj c'
    rw [eP, fin j u hj hu, sw j (Nat.le_of_lt hj) u hu]
    constructor
    · rintro ((h | h) | ⟨i, a, b, d, e, g⟩)
      · exact Or.inl h
      · omega
      · have := (w7 i b d).2.2.1
        rw [e] at this
        have e2 : i = S (65 + j) 3 := this.symm
        rw [← e2]
        exact Or.inr g
    · rintro (h | h)
      · exact Or.inl (Or.inl h)
      · exact Or.inr ⟨lA (aT S) j, Nat.le_of_lt p1, p2, p3, p4, h⟩
