/-! ===== a pass that brings nothing new to a loop has found all that is reached ===== -/
section PS
variable {A : AP} {f ia : Nat} {t : Nat → Nat} {σ : SG}
theorem pas_succ (k : Nat) : pasN f ia (pvA A t) (k + 1) σ = stpσ f ia (kA A k) (vA A k) (mA A k) (t k) (pasN f ia (pvA A t) k σ) := rfl
theorem pas_now (hw : wfA A) (hia : ia = f + 3 ∨ ia = f + 10) (hT : trW A f t σ) {k : Nat} (hk : k < nA A) {s : Nat} (hs : s < 216) : pasN f ia (pvA A t) (k + 1) σ (f + 1) s = nwV A f ia k (pasN f ia (pvA A t) k σ) s := by
  obtain ⟨k10, kv, m5, m6⟩ := hw.1 k hk
  have hT2 := (pas_tr hw hia hT k (by omega)).1
  rw [pas_succ]
  exact (cel k10 m5 m6 hia (hT2 k hk).1 (hT2 k hk).2).1 s hs
theorem pas_cell (hw : wfA A) (hia : ia = f + 3 ∨ ia = f + 10) (hT : trW A f t σ) {k b : Nat} (hk : k < nA A) (h1 : b ≠ f + 1) (h2 : b ≠ wrC A f k) : pasN f ia (pvA A t) (k + 1) σ b = pasN f ia (pvA A t) k σ b := by
  obtain ⟨k10, kv, m5, m6⟩ := hw.1 k hk
  have hT2 := (pas_tr hw hia hT k (by omega)).1
  rw [pas_succ]
  exact (cel k10 m5 m6 hia (hT2 k hk).1 (hT2 k hk).2).2.1 b h1 h2
theorem pas_wr (hw : wfA A) (hia : ia = f + 3 ∨ ia = f + 10) (hT : trW A f t σ) {k : Nat} (hk : k < nA A) (h : kA A k = 5 ∨ kA A k = 8 ∨ kA A k = 9) : pasN f ia (pvA A t) (k + 1) σ (wrC A f k) = pasN f ia (pvA A t) k σ (f + 1) := by
  obtain ⟨k10, kv, m5, m6⟩ := hw.1 k hk
  have hT2 := (pas_tr hw hia hT k (by omega)).1
  rw [pas_succ]
  exact (cel k10 m5 m6 hia (hT2 k hk).1 (hT2 k hk).2).2.2.1 h
theorem pas_cm (hw : wfA A) (hia : ia = f + 3 ∨ ia = f + 10) (hT : trW A f t σ) {k : Nat} (hk : k < nA A) (h : kA A k = 6 ∨ kA A k = 7) : pasN f ia (pvA A t) (k + 1) σ (f + 3 + 1 + 2 * mA A k) = fun s => (pasN f ia (pvA A t) k σ (f + 3 + 1 + 2 * mA A k) s || pasN f ia (pvA A t) k σ (f + 1) s) := by
  obtain ⟨k10, kv, m5, m6⟩ := hw.1 k hk
  have hT2 := (pas_tr hw hia hT k (by omega)).1
  have w : wrC A f k = f + 3 + 1 + 2 * mA A k := by unfold wrC; rw [if_neg (by omega), if_pos h]
  have e := (cel k10 m5 m6 hia (hT2 k hk).1 (hT2 k hk).2).2.2.2 h
  rw [w] at e
  rw [pas_succ]
  exact e
/-- which cell a node writes, by kinds -/
theorem wr_eq (hw : wfA A) {k j : Nat} (hk : k < nA A) (hj : j < nA A) (hkj : k ≠ j) (h : kA A j = 5 ∨ kA A j = 8 ∨ kA A j = 9) : wrC A f k ≠ wrC A f j := by
  obtain ⟨k10, kv, m5, m6⟩ := hw.1 k hk
  obtain ⟨j10, jv, j5, j6⟩ := hw.1 j hj
  have u : kA A k = kA A j → mA A k ≠ mA A j := fun e e2 => hkj (by
    rcases h with c | c | c
    · exact hw.2.2.2.2.2.2 k j hk hj e (by omega) e2
    · exact hw.2.2.2.2.2.2 k j hk hj e (by omega) e2
    · exact wf_9 hw hk hj (by omega) c e2)
  unfold wrC
  rcases h with c | c | c
  · rw [if_pos c]
    split
    · have := u (by omega); omega
    · split
      · have := m6 (by omega); omega
      · split
        · have := m6 (by omega); have := j5 c; omega
        · split
          · have := m6 (by omega); have := j5 c; omega
          · omega
  · rw [if_neg (show ¬ kA A j = 5 by omega), if_neg (show ¬ (kA A j = 6 ∨ kA A j = 7) by omega), if_pos c]
    have := j6 (by omega)
    split
    · have := m5 (by omega); omega
    · split
      · have := m6 (by omega); omega
      · split
        · have := u (by omega); omega
        · split
          · have := m6 (by omega); omega
          · omega
  · rw [if_neg (show ¬ kA A j = 5 by omega), if_neg (show ¬ (kA A j = 6 ∨ kA A j = 7) by omega), if_neg (show ¬ kA A j = 8 by omega), if_pos c]
    have := j6 (by omega)
    split
    · have := m5 (by omega); omega
    · split
      · have := m6 (by omega); omega
      · split
        · have := m6 (by omega); omega
        · split
          · have := u (by omega); omega
          · omega
/-- what a check, a choice or a bar has kept stays -/
theorem pas_keep (hw : wfA A) (hia : ia = f + 3 ∨ ia = f + 10) (hT : trW A f t σ) {j : Nat} (hj : j < nA A) (h : kA A j = 5 ∨ kA A j = 8 ∨ kA A j = 9) : ∀ d, j + 1 + d ≤ nA A → pasN f ia (pvA A t) (j + 1 + d) σ (wrC A f j) = pasN f ia (pvA A t) j σ (f + 1)
  | 0, _ => pas_wr hw hia hT hj h
  | d + 1, hd => by
    have ih := pas_keep hw hia hT hj h d (by omega)
    have n1 : wrC A f j ≠ f + 1 := by
      obtain ⟨j10, jv, j5, j6⟩ := hw.1 j hj
      unfold wrC
      rcases h with c | c | c
      · rw [if_pos c]; omega
      · rw [if_neg (by omega), if_neg (by omega), if_pos c]; omega
      · rw [if_neg (by omega), if_neg (by omega), if_neg (by omega), if_pos c]; omega
    rw [← ih]
    exact pas_cell hw hia hT (k := j + 1 + d) (by omega) n1 (Ne.symm (wr_eq hw (k := j + 1 + d) (j := j) (by omega) hj (by omega) h))
theorem grw_not : ∀ (n : Nat), grwN f ia (pvA A t) n σ = false → ∀ k, k < n → (kA A k = 6 ∨ kA A k = 7) → ∀ s, s < 216 → pasN f ia (pvA A t) k σ (f + 1) s = true → pasN f ia (pvA A t) k σ (f + 3 + 1 + 2 * mA A k) s = true
  | 0, _, k, hk => absurd hk (Nat.not_lt_zero _)
  | n + 1, h, k, hk => by
    have h' : (grwN f ia (pvA A t) n σ || (if kA A n = 6 ∨ kA A n = 7 then newσ (pasN f ia (pvA A t) n σ) (f + 3 + 1 + 2 * mA A n) (f + 1) else false)) = false := h
    obtain ⟨a, b⟩ := Bool.or_eq_false_iff.mp h'
    rcases Nat.lt_or_ge k n with q | q
    · exact grw_not n a k q
    · obtain rfl : k = n := by omega
      intro c s hs hx
      rw [if_pos c] at b
      have e := anyS_not.mp b s hs
      rw [hx] at e
      cases hz : pasN f ia (pvA A t) k σ (f + 3 + 1 + 2 * mA A k) s with
      | true => rfl
      | false => rw [hz] at e; cases e
theorem wr_cm (hw : wfA A) {k l : Nat} (hk : k < nA A) (hl : l < 3) (h : ¬ ((kA A k = 6 ∨ kA A k = 7) ∧ mA A k = l)) : f + 3 + 1 + 2 * l ≠ wrC A f k := by
  obtain ⟨k10, kv, m5, m6⟩ := hw.1 k hk
  unfold wrC
  split
  · omega
  · split
    · omega
    · split
      · omega
      · split <;> omega
theorem cmc_con (hw : wfA A) (hT : trW A f t σ) (hg : grwN f (f + 3) (pvA A t) (nA A) σ = false) : ∀ k, k ≤ nA A → ∀ l, l < 3 → ∀ s, s < 216 → pasN f (f + 3) (pvA A t) k σ (f + 3 + 1 + 2 * l) s = σ (f + 3 + 1 + 2 * l) s
  | 0, _, _, _, _, _ => rfl
  | k + 1, hk, l, hl, s, hs => by
    have ih := cmc_con hw hT hg k (by omega) l hl s hs
    by_cases c : (kA A k = 6 ∨ kA A k = 7) ∧ mA A k = l
    · have e := congrFun (pas_cm hw (Or.inl rfl) hT (k := k) (by omega) c.1) s
      rw [c.2] at e
      rw [e]
      have g := grw_not (nA A) hg k (by omega) c.1 s hs
      rw [c.2] at g
      cases hz : pasN f (f + 3) (pvA A t) k σ (f + 1) s with
      | false => rw [Bool.or_false]; exact ih
      | true => rw [← ih, g hz]; rfl
    · rw [pas_cell hw (Or.inl rfl) hT (k := k) (by omega) (by omega) (wr_cm hw (by omega) hl c)]
      exact ih
/-- the sets at the nodes, once nothing grows -/
def Zk (A : AP) (f : Nat) (t : Nat → Nat) (σ : SG) (k s : Nat) : Prop := pasN f (f + 3) (pvA A t) k σ (f + 1) s = true ∨ (k < nA A ∧ kA A k = 10 ∧ ∃ i, i < k ∧ kA A i = 9 ∧ lA A i = k ∧ mA A i = mA A k ∧ pasN f (f + 3) (pvA A t) i σ (f + 1) s = true) ∨ (k < nA A ∧ kA A k = 6 ∧ σ (f + 3 + 1 + 2 * mA A k) s = true)
theorem cmp_reach {B : ST} (hw : wfA A) (hT : trW A f t σ) (hB : ∀ s, s < 216 → σ (f + 1) s = B s) (hg : grwN f (f + 3) (pvA A t) (nA A) σ = false) : ∀ k s, Rch (edC A) (nA A) B k s → s < 216 ∧ k ≤ nA A ∧ Zk A f t σ k s := by
  intro k s h
  obtain ⟨r, hr⟩ := h
  refine rch_least (P := fun k s => s < 216 ∧ k ≤ nA A ∧ Zk A f t σ k s) (fun s hs hb => ⟨hs, Nat.zero_le _, Or.inl (by rw [← hb]; exact hB s hs)⟩) (fun k s k' s' hk hs hP he => ?_) r k s hr
  obtain ⟨-, -, hz⟩ := hP
  obtain ⟨k10, kv, m5, m6⟩ := hw.1 k hk
  have now1 : ∀ x, x < 216 → pasN f (f + 3) (pvA A t) (k + 1) σ (f + 1) x = nwV A f (f + 3) k (pasN f (f + 3) (pvA A t) k σ) x := fun x hx => pas_now hw (Or.inl rfl) hT hk hx
  have cmk : ∀ x, x < 216 → 6 ≤ kA A k → pasN f (f + 3) (pvA A t) k σ (f + 3 + 1 + 2 * mA A k) x = σ (f + 3 + 1 + 2 * mA A k) x := fun x hx q => cmc_con hw hT hg k (by omega) (mA A k) (m6 q) x hx
  have grw := grw_not (nA A) hg k hk
  unfold edC at he
  split at he
  · rename_i q
    obtain ⟨rfl, hsu⟩ := he
    have wk : pasN f (f + 3) (pvA A t) k σ (f + 1) s = true := by
      rcases hz with u | u | u
      · exact u
      · omega
      · omega
    have s2 : s' < 216 := by
      unfold suS at hsu
      split at hsu
      · obtain ⟨⟨w, hw2, rfl⟩, -⟩ := hsu; exact wth_lt hs hw2
      split at hsu
      · rw [hsu]; exact wth_lt hs (by split <;> omega)
      split at hsu
      · rw [hsu]; have := val_lt (v := vA A k) hs; exact wth_lt hs (by split <;> omega)
      split at hsu
      · obtain ⟨w, hw2, rfl⟩ := hsu; exact wth_lt hs hw2
      · rw [hsu.1]; exact hs
    refine ⟨s2, hk, Or.inl ?_⟩
    rw [now1 s' s2, nwV, if_pos q]
    exact (fw_iff s2 kv).mpr ⟨s, hs, wk, hsu⟩
  split at he
  · rename_i q c
    obtain ⟨rfl, rfl⟩ := he
    have ck : σ (f + 3 + 1 + 2 * mA A k) s' = true := by
      rcases hz with u | u | u
      · rw [← cmk s' hs (by omega)]; exact grw (Or.inl c) s' hs u
      · omega
      · exact u.2.2
    cases ht : tA A k s' with
    | true =>
      rw [if_pos rfl]
      refine ⟨hs, hk, Or.inl ?_⟩
      rw [now1 s' hs, nwV, if_neg q, if_pos c, jnV, if_pos rfl, cmk s' hs (by omega), ck, ht]
      rfl
    | false =>
      rw [if_neg (by decide)]
      obtain ⟨p1, p2, p3, p4⟩ := hw.2.1 k hk c
      obtain ⟨q1, q2, q3, q4, q5⟩ := hw.2.2.1 (lA A k) p2 p3
      rw [p4] at q4 q5
      refine ⟨hs, p2, Or.inl ?_⟩
      rw [pas_now hw (Or.inl rfl) hT p2 hs, nwV, if_neg (by omega), if_neg (by omega), if_pos p3, jnV, if_pos rfl]
      have e1 : tA A (lA A k) s' = false := by unfold tA; rw [← q5]; exact ht
      have e2 : pasN f (f + 3) (pvA A t) (lA A k) σ (f + 3 + 1 + 2 * mA A (lA A k)) s' = true := by
        rw [cmc_con hw hT hg (lA A k) (by omega) _ ((hw.1 (lA A k) p2).2.2.2 (by omega)) s' hs, ← q4]
        exact ck
      rw [e1, e2]
      rfl
  split at he
  · rename_i q c1 c
    obtain ⟨rfl, rfl⟩ := he
    obtain ⟨p1, p2, p3, p4, p5⟩ := hw.2.2.1 k hk c
    have wk : pasN f (f + 3) (pvA A t) k σ (f + 1) s' = true := by
      rcases hz with u | u | u
      · exact u
      · omega
      · omega
    refine ⟨hs, by omega, Or.inr (Or.inr ⟨by omega, p2, ?_⟩)⟩
    rw [p4, ← cmk s' hs (by omega)]
    exact grw (Or.inr c) s' hs wk
  split at he
  · rename_i q c1 c2 c
    obtain ⟨hk', rfl⟩ := he
    have wk : pasN f (f + 3) (pvA A t) k σ (f + 1) s' = true := by
      rcases hz with u | u | u
      · exact u
      · omega
      · omega
    rcases hk' with rfl | rfl
    · refine ⟨hs, hk, Or.inl ?_⟩
      rw [now1 s' hs, nwV, if_neg q, if_neg c1, if_neg c2, if_pos c]
      exact wk
    · obtain ⟨p1, p2, p3, p4⟩ := hw.2.2.2.1 k hk c
      refine ⟨hs, p2, Or.inl ?_⟩
      rw [pas_now hw (Or.inl rfl) hT p2 hs, nwV, if_neg (by omega), if_neg (by omega), if_neg (by omega), if_neg (by omega), if_pos p3, p4]
      have w : wrC A f k = f + 26 + 1 + 2 * mA A k := by unfold wrC; rw [if_neg (by omega), if_neg (by omega), if_pos c]
      have e := pas_keep hw (Or.inl rfl) hT hk (Or.inr (Or.inl c)) (lA A k - (k + 1)) (by omega)
      rw [show k + 1 + (lA A k - (k + 1)) = lA A k by omega, w] at e
      rw [e]
      exact wk
  split at he
  · rename_i q c1 c2 c3 c
    obtain ⟨rfl, rfl⟩ := he
    obtain ⟨-, p1, p2, p3, p4⟩ := hw.2.2.2.2.1 k hk c
    have wk : pasN f (f + 3) (pvA A t) k σ (f + 1) s' = true := by
      rcases hz with u | u | u
      · exact u
      · omega
      · omega
    exact ⟨hs, by omega, Or.inr (Or.inl ⟨p2, p3, k, p1, c, rfl, p4.symm, wk⟩)⟩
  · rename_i q c1 c2 c3 c4
    obtain ⟨rfl, rfl⟩ := he
    have c : kA A k = 10 := by omega
    refine ⟨hs, hk, Or.inl ?_⟩
    rw [now1 s' hs, nwV, if_neg q, if_neg c1, if_neg c2, if_neg c3, if_neg c4, Bool.or_eq_true]
    rcases hz with u | ⟨u1, u2, i, i1, i2, i3, i4, i5⟩ | u
    · exact Or.inl u
    · refine Or.inr ?_
      have w : wrC A f i = f + 33 + 1 + 2 * mA A i := by unfold wrC; rw [if_neg (by omega), if_neg (by omega), if_neg (by omega), if_pos i2]
      have e := pas_keep hw (Or.inl rfl) hT (j := i) (by omega) (Or.inr (Or.inr i2)) (k - (i + 1)) (by omega)
      rw [show i + 1 + (k - (i + 1)) = k by omega, w, i4] at e
      rw [e]
      exact i5
    · omega
end PS
