/-! ===== Blame: a pass backwards ===== -/
section BP
variable {A : AP} {f ck : Nat} {t : Nat → Nat} {σ : SG}
theorem b_step {k : Nat} (hk : k < nA A) : bpaN f (pvA A t) ck (nA A - k) σ = bstσ f (kA A k) (vA A k) (mA A k) (t k) ck (bpaN f (pvA A t) ck (nA A - (k + 1)) σ) := by
  rw [show nA A - k = nA A - (k + 1) + 1 by omega]
  show bstσ f (kA A (nA A - 1 - (nA A - (k + 1)))) (vA A (nA A - 1 - (nA A - (k + 1)))) (mA A (nA A - 1 - (nA A - (k + 1)))) (t (nA A - 1 - (nA A - (k + 1)))) ck (bpaN f (pvA A t) ck (nA A - (k + 1)) σ) = _
  rw [show nA A - 1 - (nA A - (k + 1)) = k by omega]
theorem wB_in {k b : Nat} (m6 : 6 ≤ kA A k → mA A k < 3) (h : wB A f k b) : f + 1 ≤ b ∧ b < f + 31 := by
  unfold wB at h
  rcases h with ⟨h1, h2 | h2⟩ | ⟨h1, h2⟩ | ⟨h1, h2⟩ | ⟨h1, h2⟩ <;> have := m6 (by omega) <;> omega
theorem b_tr (hw : wfA A) (hT : trW A f t σ) : ∀ d, d ≤ nA A → trW A f t (bpaN f (pvA A t) ck d σ) ∧ ∀ b, b < f + 1 ∨ f + 31 ≤ b → bpaN f (pvA A t) ck d σ b = σ b
  | 0, _ => ⟨hT, fun _ _ => rfl⟩
  | d + 1, hd => by
    obtain ⟨i1, i2⟩ := b_tr hw hT d (by omega)
    have hk : nA A - (d + 1) < nA A := by omega
    have e := b_step (f := f) (ck := ck) (t := t) (σ := σ) hk
    rw [show nA A - (nA A - (d + 1)) = d + 1 by omega, show nA A - (nA A - (d + 1) + 1) = d by omega] at e
    obtain ⟨k10, kv, m5, m6⟩ := hw.1 _ hk
    have c := bcel (ck := ck) k10 m6 (i1 _ hk).1 (i1 _ hk).2
    rw [e]
    have fr : ∀ b, b < f + 1 ∨ f + 31 ≤ b → bstσ f (kA A (nA A - (d + 1))) (vA A (nA A - (d + 1))) (mA A (nA A - (d + 1))) (t (nA A - (d + 1))) ck (bpaN f (pvA A t) ck d σ) b = σ b := fun b hb => by
      rw [c.2.1 b (by omega) (fun z => by have := wB_in m6 z; omega)]
      exact i2 b hb
    refine ⟨fun j hj => ⟨(hT j hj).1, fun hu s hs => ?_⟩, fr⟩
    have a := (hT j hj).1
    rw [fr _ (by omega)]
    exact (hT j hj).2 hu s hs
theorem b_all (hw : wfA A) (hT : trW A f t σ) {k : Nat} (hk : k < nA A) :
    (∀ s, s < 216 → bpaN f (pvA A t) ck (nA A - k) σ (f + 1) s = bnV A f ck k (bpaN f (pvA A t) ck (nA A - (k + 1)) σ) s) ∧
    (∀ b, b ≠ f + 1 → ¬ wB A f k b → bpaN f (pvA A t) ck (nA A - k) σ b = bpaN f (pvA A t) ck (nA A - (k + 1)) σ b) ∧
    (kA A k = 7 → bpaN f (pvA A t) ck (nA A - k) σ (f + 10 + 1 + 2 * mA A k) = bpaN f (pvA A t) ck (nA A - (k + 1)) σ (f + 1)) ∧
    (kA A k = 9 → bpaN f (pvA A t) ck (nA A - k) σ (f + 24 + 1 + 2 * mA A k) = bpaN f (pvA A t) ck (nA A - (k + 1)) σ (f + 1)) ∧
    (kA A k = 10 → bpaN f (pvA A t) ck (nA A - k) σ (f + 17 + 1 + 2 * mA A k) = bpaN f (pvA A t) ck (nA A - (k + 1)) σ (f + 1)) ∧
    (kA A k = 6 → ∀ s, s < 216 → bpaN f (pvA A t) ck (nA A - k) σ (f + 3 + 1 + 2 * mA A k) s = (bpaN f (pvA A t) ck (nA A - (k + 1)) σ (f + 3 + 1 + 2 * mA A k) s || bpaN f (pvA A t) ck (nA A - k) σ (f + 1) s)) ∧
    (kA A k = 6 → (bgr f (kA A k) (mA A k) (t k) (bpaN f (pvA A t) ck (nA A - (k + 1)) σ) = true ↔ ∃ s, s < 216 ∧ bpaN f (pvA A t) ck (nA A - k) σ (f + 1) s = true ∧ bpaN f (pvA A t) ck (nA A - (k + 1)) σ (f + 3 + 1 + 2 * mA A k) s = false)) := by
  obtain ⟨i1, i2⟩ := b_tr (ck := ck) hw hT (nA A - (k + 1)) (by omega)
  obtain ⟨k10, kv, m5, m6⟩ := hw.1 k hk
  obtain ⟨c1, c2, c3, c4, c5, c6, c7⟩ := bcel (ck := ck) k10 m6 (i1 k hk).1 (i1 k hk).2
  rw [b_step hk]
  refine ⟨c1, c2, c3, c4, c5, fun h s hs => ?_, fun h => ?_⟩
  · rw [c6 h s hs, c1 s hs]
  · rw [c7 h]
    constructor
    · rintro ⟨s, a, b, c⟩; exact ⟨s, a, by rw [c1 s a]; exact b, c⟩
    · rintro ⟨s, a, b, c⟩; exact ⟨s, a, by rw [← c1 s a]; exact b, c⟩
theorem wf_10 (h : wfA A) {i j : Nat} (hi : i < nA A) (hj : j < nA A) (ki : kA A i = 10) (kj : kA A j = 10) (e : mA A i = mA A j) : i = j := by
  obtain ⟨a, a1, a2, a3, a4⟩ := h.2.2.2.2.2.1 i hi ki
  obtain ⟨b, b1, b2, b3, b4⟩ := h.2.2.2.2.2.1 j hj kj
  have := wf_9 h (i := a) (j := b) (by omega) (by omega) a2 b2 (by omega)
  rw [← a3, ← b3, this]
theorem wf_7 (h : wfA A) {i j : Nat} (hi : i < nA A) (hj : j < nA A) (ki : kA A i = 7) (kj : kA A j = 7) (e : mA A i = mA A j) : i = j := by
  obtain ⟨a1, a2, a3, a4, a5⟩ := h.2.2.1 i hi ki
  obtain ⟨b1, b2, b3, b4, b5⟩ := h.2.2.1 j hj kj
  have := h.2.2.2.2.2.2 (lA A i) (lA A j) (by omega) (by omega) (by omega) (by omega) (by omega)
  rw [← a3, ← b3, this]
theorem keep10 (hw : wfA A) (hT : trW A f t σ) {e : Nat} (he : e < nA A) (c : kA A e = 10) : ∀ d, d ≤ e → bpaN f (pvA A t) ck (nA A - (e - d)) σ (f + 17 + 1 + 2 * mA A e) = bpaN f (pvA A t) ck (nA A - (e + 1)) σ (f + 1)
  | 0, _ => (b_all hw hT he).2.2.2.2.1 c
  | d + 1, hd => by
    have ih := keep10 hw hT he c d (by omega)
    have m3 := (hw.1 e he).2.2.2 (by omega)
    have k3 := (hw.1 (e - (d + 1)) (by omega)).2.2.2
    rw [(b_all hw hT (k := e - (d + 1)) (by omega)).2.1 _ (by omega) (fun z => ?_), show e - (d + 1) + 1 = e - d by omega]
    · exact ih
    · unfold wB at z
      rcases z with ⟨h1, h2 | h2⟩ | ⟨h1, h2⟩ | ⟨h1, h2⟩ | ⟨h1, h2⟩
      · have := k3 (by omega); omega
      · have := k3 (by omega); omega
      · have := k3 (by omega); omega
      · have := k3 (by omega); omega
      · have := wf_10 hw (i := e - (d + 1)) (j := e) (by omega) he h1 c (by omega)
        omega
theorem keep9 (hw : wfA A) (hT : trW A f t σ) {e : Nat} (he : e < nA A) (c : kA A e = 9) : ∀ d, d ≤ e → bpaN f (pvA A t) ck (nA A - (e - d)) σ (f + 24 + 1 + 2 * mA A e) = bpaN f (pvA A t) ck (nA A - (e + 1)) σ (f + 1)
  | 0, _ => (b_all hw hT he).2.2.2.1 c
  | d + 1, hd => by
    have ih := keep9 hw hT he c d (by omega)
    have m3 := (hw.1 e he).2.2.2 (by omega)
    have k3 := (hw.1 (e - (d + 1)) (by omega)).2.2.2
    rw [(b_all hw hT (k := e - (d + 1)) (by omega)).2.1 _ (by omega) (fun z => ?_), show e - (d + 1) + 1 = e - d by omega]
    · exact ih
    · unfold wB at z
      rcases z with ⟨h1, h2 | h2⟩ | ⟨h1, h2⟩ | ⟨h1, h2⟩ | ⟨h1, h2⟩
      · have := k3 (by omega); omega
      · have := k3 (by omega); omega
      · have := k3 (by omega); omega
      · have := wf_9 hw (i := e - (d + 1)) (j := e) (by omega) he h1 c (by omega)
        omega
      · have := k3 (by omega); omega
theorem keep7 (hw : wfA A) (hT : trW A f t σ) {e : Nat} (he : e < nA A) (c : kA A e = 7) : ∀ d, d + lA A e < e → bpaN f (pvA A t) ck (nA A - (e - d)) σ (f + 10 + 1 + 2 * mA A e) = bpaN f (pvA A t) ck (nA A - (e + 1)) σ (f + 1)
  | 0, _ => (b_all hw hT he).2.2.1 c
  | d + 1, hd => by
    have ih := keep7 hw hT he c d (by omega)
    have m3 := (hw.1 e he).2.2.2 (by omega)
    have k3 := (hw.1 (e - (d + 1)) (by omega)).2.2.2
    rw [(b_all hw hT (k := e - (d + 1)) (by omega)).2.1 _ (by omega) (fun z => ?_), show e - (d + 1) + 1 = e - d by omega]
    · exact ih
    · unfold wB at z
      obtain ⟨a1, a2, a3, a4, a5⟩ := hw.2.2.1 e he c
      rcases z with ⟨h1, h2 | h2⟩ | ⟨h1, h2⟩ | ⟨h1, h2⟩ | ⟨h1, h2⟩
      · have := k3 (by omega); omega
      · have := hw.2.2.2.2.2.2 (e - (d + 1)) (lA A e) (by omega) (by omega) (by omega) (by omega) (by omega)
        omega
      · have := wf_7 hw (i := e - (d + 1)) (j := e) (by omega) he h1 c (by omega)
        omega
      · have := k3 (by omega); omega
      · have := k3 (by omega); omega
theorem at_hi (hw : wfA A) (hT : trW A f t σ) {l : Nat} (hl : l < 3) : ∀ d, d ≤ nA A → (∀ j, nA A - d ≤ j → j < nA A → kA A j = 6 → mA A j ≠ l) → bpaN f (pvA A t) ck d σ (f + 3 + 1 + 2 * l) = σ (f + 3 + 1 + 2 * l)
  | 0, _, _ => rfl
  | d + 1, hd, h => by
    have ih := at_hi hw hT hl d (by omega) (fun j hj => h j (by omega))
    have k3 := (hw.1 (nA A - (d + 1)) (by omega)).2.2.2
    have b := (b_all (ck := ck) hw hT (k := nA A - (d + 1)) (by omega)).2.1 (f + 3 + 1 + 2 * l) (by omega) (fun z => by
      unfold wB at z
      rcases z with ⟨h1, h2 | h2⟩ | ⟨h1, h2⟩ | ⟨h1, h2⟩ | ⟨h1, h2⟩
      · exact h _ (Nat.le_refl _) (by omega) h1 (by omega)
      · have := k3 (by omega); omega
      · have := k3 (by omega); omega
      · have := k3 (by omega); omega
      · have := k3 (by omega); omega)
    rw [show nA A - (nA A - (d + 1)) = d + 1 by omega, show nA A - (nA A - (d + 1) + 1) = d by omega] at b
    rw [b]; exact ih
theorem at_lo (hw : wfA A) (hT : trW A f t σ) {j u : Nat} (hj : j < nA A) (c : kA A j = 6) (hu : u < 216) : ∀ d, d ≤ j → bpaN f (pvA A t) ck (nA A - (j - d)) σ (f + 3 + 1 + 2 * mA A j) u = (σ (f + 3 + 1 + 2 * mA A j) u || bpaN f (pvA A t) ck (nA A - j) σ (f + 1) u)
  | 0, _ => by
    have m3 := (hw.1 j hj).2.2.2 (by omega)
    have a := (b_all (ck := ck) hw hT hj).2.2.2.2.2.1 c u hu
    rw [at_hi hw hT m3 (nA A - (j + 1)) (by omega) (fun i h1 h2 h3 h4 => by
      have := hw.2.2.2.2.2.2 i j h2 hj (by omega) (by omega) h4
      omega)] at a
    exact a
  | d + 1, hd => by
    have ih := at_lo hw hT hj c hu d (by omega)
    have m3 := (hw.1 j hj).2.2.2 (by omega)
    have k3 := (hw.1 (j - (d + 1)) (by omega)).2.2.2
    rw [(b_all hw hT (k := j - (d + 1)) (by omega)).2.1 _ (by omega) (fun z => ?_), show j - (d + 1) + 1 = j - d by omega]
    · exact ih
    · unfold wB at z
      rcases z with ⟨h1, h2 | h2⟩ | ⟨h1, h2⟩ | ⟨h1, h2⟩ | ⟨h1, h2⟩
      · have := hw.2.2.2.2.2.2 (j - (d + 1)) j (by omega) hj (by omega) (by omega) (by omega)
        omega
      · have := k3 (by omega); omega
      · have := k3 (by omega); omega
      · have := k3 (by omega); omega
      · have := k3 (by omega); omega
/-- what a pass backwards has at the nodes, if loops have the sets L -/
def bwE (A : AP) (ck : Nat) (L : Nat → ST) (W : Nat → ST) : Prop := (∀ u, u < 216 → W (nA A) u = false) ∧ ∀ k, k < nA A → ∀ u, u < 216 →
  (kA A k ≤ 5 → W k u = (bwS A k (W (k + 1)) u || (decide (kA A k = 5 ∧ mA A k = ck) && !tA A k u))) ∧ (kA A k = 6 → W k u = ((W (k + 1) u && tA A k u) || (W (lA A k + 1) u && !tA A k u))) ∧ (kA A k = 7 → W k u = L (mA A k) u) ∧ (kA A k = 8 → W k u = (W (k + 1) u || W (lA A k + 1) u)) ∧ (kA A k = 9 → W k u = W (lA A k + 1) u) ∧ (kA A k = 10 → W k u = W (k + 1) u)
theorem b_eq (hw : wfA A) (hT : trW A f t σ) (h0 : ∀ u, u < 216 → σ (f + 1) u = false) : bwE A ck (fun l => σ (f + 3 + 1 + 2 * l)) (fun k => bpaN f (pvA A t) ck (nA A - k) σ (f + 1)) := by
  refine ⟨fun u hu => ?_, fun k hk u hu => ?_⟩
  · show bpaN f (pvA A t) ck (nA A - nA A) σ (f + 1) u = false
    rw [Nat.sub_self]; exact h0 u hu
  have e := (b_all (ck := ck) hw hT hk).1 u hu
  obtain ⟨k10, kv, m5, m6⟩ := hw.1 k hk
  refine ⟨fun c => ?_, fun c => ?_, fun c => ?_, fun c => ?_, fun c => ?_, fun c => ?_⟩
  · show bpaN f (pvA A t) ck (nA A - k) σ (f + 1) u = _
    rw [e, bnV, if_pos c]
  · show bpaN f (pvA A t) ck (nA A - k) σ (f + 1) u = _
    obtain ⟨p1, p2, p3, p4⟩ := hw.2.1 k hk c
    have q := (hw.2.2.1 _ p2 p3).2.2.2.1
    rw [p4] at q
    have g := keep7 (ck := ck) hw hT p2 p3 (lA A k - (k + 1)) (by omega)
    rw [show lA A k - (lA A k - (k + 1)) = k + 1 by omega, ← q] at g
    rw [e, bnV, if_neg (by omega), if_pos c, g]
  · show bpaN f (pvA A t) ck (nA A - k) σ (f + 1) u = _
    obtain ⟨a1, a2, a3, a4, a5⟩ := hw.2.2.1 k hk c
    have g := at_hi (ck := ck) hw hT (m6 (by omega)) (nA A - (k + 1)) (by omega) (fun i h1 h2 h3 h4 => by
      have := hw.2.2.2.2.2.2 i (lA A k) h2 (by omega) (by omega) (by omega) (by omega)
      omega)
    rw [e, bnV, if_neg (by omega), if_neg (by omega), if_pos c, g]
  · show bpaN f (pvA A t) ck (nA A - k) σ (f + 1) u = _
    obtain ⟨p1, p2, p3, p4⟩ := hw.2.2.2.1 k hk c
    have g := keep9 (ck := ck) hw hT p2 p3 (lA A k - (k + 1)) (by omega)
    rw [show lA A k - (lA A k - (k + 1)) = k + 1 by omega, p4] at g
    rw [e, bnV, if_neg (by omega), if_neg (by omega), if_neg (by omega), if_pos c, g]
  · show bpaN f (pvA A t) ck (nA A - k) σ (f + 1) u = _
    obtain ⟨-, p1, p2, p3, p4⟩ := hw.2.2.2.2.1 k hk c
    have g := keep10 (ck := ck) hw hT p2 p3 (lA A k - (k + 1)) (by omega)
    rw [show lA A k - (lA A k - (k + 1)) = k + 1 by omega, p4] at g
    rw [e, bnV, if_neg (by omega), if_neg (by omega), if_neg (by omega), if_neg (by omega), if_pos c, g]
  · show bpaN f (pvA A t) ck (nA A - k) σ (f + 1) u = _
    rw [e, bnV, if_neg (by omega), if_neg (by omega), if_neg (by omega), if_neg (by omega), if_neg (by omega)]
end BP
