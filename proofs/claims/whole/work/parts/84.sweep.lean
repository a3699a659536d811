/-! ===== the reference's sweep, node by node ===== -/
/-- the states that a node sends on -/
def srP (Q : AP) (V : GC) (hs : Nat → Nat) (x : NS × NS) (k s : Nat) : Prop := if kA Q k = 6 then agS V (hs (mA Q k)) s = true else x.1 k s = true
theorem lcS_iff {N : Nat} (hN : 13392 ≤ N) {Q : AP} (hO : okM Q) (h60 : nA Q ≤ 60) {V : GC} {hs : Nat → Nat} {k : Nat} (hk : k < nA Q) (hself : ∀ s u, s < 216 → ¬ edM Q k s k u) (x : NS × NS) : ∀ n, n ≤ 216 → ∀ j u, (foN (lcA Q V hs k) n x).1 j u = true ↔ x.1 j u = true ∨ ∃ s, s < n ∧ srP Q V hs x k s ∧ edM Q k s j u
  | 0, _, j, u => ⟨Or.inl, fun h => h.elim (fun q => q) (fun ⟨s, q, _⟩ => absurd q (Nat.not_lt_zero _))⟩
  | n + 1, hn, j, u => by
    have ih := lcS_iff hN hO h60 (V := V) (hs := hs) hk hself x n (by omega)
    have ek : ∀ s, (foN (lcA Q V hs k) n x).1 k s = true ↔ x.1 k s = true := fun s => (ih k s).trans ⟨fun h => h.elim (fun q => q) (fun ⟨s0, q1, _, q3⟩ => absurd q3 (hself s0 s (by omega))), Or.inl⟩
    have esr : (if kA Q k = 6 then agS V (hs (mA Q k)) n else (foN (lcA Q V hs k) n x).1 k n) = true ↔ srP Q V hs x k n := by
      unfold srP
      split
      · exact Iff.rfl
      · exact ek n
    show (lcA Q V hs k n (foN (lcA Q V hs k) n x)).1 j u = true ↔ _
    cases hz : (if kA Q k = 6 then agS V (hs (mA Q k)) n else (foN (lcA Q V hs k) n x).1 k n) with
    | true =>
      rw [lcA_yes hz, (go_spec hN hO h60 hk (s := n) (by omega) _).2, ih j u]
      constructor
      · rintro ((h | ⟨s, a, b, c⟩) | h)
        · exact Or.inl h
        · exact Or.inr ⟨s, by omega, b, c⟩
        · exact Or.inr ⟨n, by omega, esr.mp hz, h⟩
      · rintro (h | ⟨s, a, b, c⟩)
        · exact Or.inl (Or.inl h)
        · rcases Nat.lt_or_ge s n with q | q
          · exact Or.inl (Or.inr ⟨s, q, b, c⟩)
          · obtain rfl : s = n := by omega
            exact Or.inr c
    | false =>
      rw [lcA_no hz, ih j u]
      constructor
      · rintro (h | ⟨s, a, b, c⟩)
        · exact Or.inl h
        · exact Or.inr ⟨s, by omega, b, c⟩
      · rintro (h | ⟨s, a, b, c⟩)
        · exact Or.inl h
        · rcases Nat.lt_or_ge s n with q | q
          · exact Or.inr ⟨s, q, b, c⟩
          · obtain rfl : s = n := by omega
            exact absurd (esr.mpr b) (by rw [hz]; decide)
/-- behind k nodes of the sweep: what has been sent on -/
theorem lc_iff {N : Nat} (hN : 13392 ≤ N) {Q : AP} (hO : okM Q) (h60 : nA Q ≤ 60) {V : GC} {hs : Nat → Nat} (hself : ∀ k s u, k < nA Q → s < 216 → ¬ edM Q k s k u) (x : NS × NS) : ∀ n, n ≤ nA Q → ∀ j u, (foN (lcS Q V hs) n x).1 j u = true ↔ x.1 j u = true ∨ ∃ k s, k < n ∧ s < 216 ∧ srP Q V hs (foN (lcS Q V hs) k x) k s ∧ edM Q k s j u
  | 0, _, j, u => ⟨Or.inl, fun h => h.elim (fun q => q) (fun ⟨k, s, q, _⟩ => absurd q (Nat.not_lt_zero _))⟩
  | n + 1, hn, j, u => by
    have ih := lc_iff hN hO h60 (V := V) (hs := hs) hself x n (by omega)
    have e : (foN (lcS Q V hs) (n + 1) x).1 j u = true ↔ (foN (lcS Q V hs) n x).1 j u = true ∨ ∃ s, s < 216 ∧ srP Q V hs (foN (lcS Q V hs) n x) n s ∧ edM Q n s j u := by
      have := lcS_iff hN hO h60 (V := V) (hs := hs) (k := n) (by omega) (fun s u => hself n s u (by omega)) (foN (lcS Q V hs) n x) 216 (Nat.le_refl _) j u
      exact this
    rw [e, ih j u]
    constructor
    · rintro ((h | ⟨k, s, a, b, c, d⟩) | ⟨s, b, c, d⟩)
      · exact Or.inl h
      · exact Or.inr ⟨k, s, by omega, b, c, d⟩
      · exact Or.inr ⟨n, s, by omega, b, c, d⟩
    · rintro (h | ⟨k, s, a, b, c, d⟩)
      · exact Or.inl (Or.inl h)
      · rcases Nat.lt_or_ge k n with q | q
        · exact Or.inl (Or.inr ⟨k, s, q, b, c, d⟩)
        · obtain rfl : k = n := by omega
          exact Or.inr ⟨s, b, c, d⟩
