/-! ===== Blame finds just the states that can fail ===== -/
def flC (A : AP) (ck k s : Nat) : Prop := kA A k = 5 ∧ tA A k s = false ∧ mA A k = ck
theorem can_ed {ed : Nat → Nat → Nat → Nat → Prop} {fl : Nat → Nat → Prop} {n k s k' s' : Nat} (hk : k < n) (hs : s < 216) (he : ed k s k' s') (h : Can ed fl n k' s') : Can ed fl n k s := by
  obtain ⟨r, hr⟩ := h
  exact ⟨r + 1, hk, hs, Or.inr ⟨k', s', he, hr⟩⟩
theorem can_fl {ed : Nat → Nat → Nat → Nat → Prop} {fl : Nat → Nat → Prop} {n k s : Nat} (hk : k < n) (hs : s < 216) (h : fl k s) : Can ed fl n k s := ⟨1, hk, hs, Or.inl h⟩
section BC
variable {A : AP} {f ck : Nat} {t : Nat → Nat} {L W : Nat → ST}
theorem bw_snd (hw : wfA A) (hE : bwE A ck L W) (hL : ∀ j u, j < nA A → kA A j = 6 → u < 216 → L (mA A j) u = true → Can (edC A) (flC A ck) (nA A) j u) : ∀ d k u, k + d = nA A → u < 216 → W k u = true → Can (edC A) (flC A ck) (nA A) k u := by
  intro d
  induction d using Nat.strongRecOn with
  | ind d ih =>
  intro k u hd hu h
  rcases Nat.eq_zero_or_pos d with z | z
  · obtain rfl : k = nA A := by omega
    rw [hE.1 u hu] at h; cases h
  have hk : k < nA A := by omega
  obtain ⟨k10, kv, m5, m6⟩ := hw.1 k hk
  obtain ⟨e5, e6, e7, e8, e9, e10⟩ := hE.2 k hk u hu
  have nx : ∀ j x, k < j → j ≤ nA A → x < 216 → W j x = true → Can (edC A) (flC A ck) (nA A) j x := fun j x h1 h2 hx hW => ih (nA A - j) (by omega) j x (by omega) hx hW
  rcases Nat.lt_or_ge (kA A k) 6 with q | q
  · rw [e5 (by omega), Bool.or_eq_true] at h
    rcases h with h | h
    · obtain ⟨s2, a, b, c⟩ := (bw_iff hu kv).mp h
      exact can_ed hk hu (k' := k + 1) (s' := s2) (by unfold edC; rw [if_pos (by omega)]; exact ⟨rfl, c⟩) (nx (k + 1) s2 (by omega) (by omega) a b)
    · rw [Bool.and_eq_true, decide_eq_true_iff] at h
      exact can_fl hk hu ⟨h.1.1, by simpa using h.2, h.1.2⟩
  · rcases (show kA A k = 6 ∨ kA A k = 7 ∨ kA A k = 8 ∨ kA A k = 9 ∨ kA A k = 10 by omega) with c | c | c | c | c
    · obtain ⟨p1, p2, p3, p4⟩ := hw.2.1 k hk c
      rw [e6 c, Bool.or_eq_true, Bool.and_eq_true, Bool.and_eq_true] at h
      rcases h with h | h
      · exact can_ed hk hu (k' := k + 1) (s' := u) (by unfold edC; rw [if_neg (by omega), if_pos c, if_pos h.2]; exact ⟨rfl, rfl⟩) (nx (k + 1) u (by omega) (by omega) hu h.1)
      · exact can_ed hk hu (k' := lA A k + 1) (s' := u) (by unfold edC; rw [if_neg (by omega), if_pos c, if_neg (by simpa using h.2)]; exact ⟨rfl, rfl⟩) (nx (lA A k + 1) u (by omega) (by omega) hu h.1)
    · obtain ⟨a1, a2, a3, a4, a5⟩ := hw.2.2.1 k hk c
      rw [e7 c, ← a4] at h
      exact can_ed hk hu (k' := lA A k) (s' := u) (by unfold edC; rw [if_neg (by omega), if_neg (by omega), if_pos c]; exact ⟨rfl, rfl⟩) (hL _ u (by omega) a2 hu h)
    · obtain ⟨p1, p2, p3, p4⟩ := hw.2.2.2.1 k hk c
      rw [e8 c, Bool.or_eq_true] at h
      rcases h with h | h
      · exact can_ed hk hu (k' := k + 1) (s' := u) (by unfold edC; rw [if_neg (by omega), if_neg (by omega), if_neg (by omega), if_pos c]; exact ⟨Or.inl rfl, rfl⟩) (nx (k + 1) u (by omega) (by omega) hu h)
      · exact can_ed hk hu (k' := lA A k + 1) (s' := u) (by unfold edC; rw [if_neg (by omega), if_neg (by omega), if_neg (by omega), if_pos c]; exact ⟨Or.inr rfl, rfl⟩) (nx (lA A k + 1) u (by omega) (by omega) hu h)
    · obtain ⟨-, p1, p2, p3, p4⟩ := hw.2.2.2.2.1 k hk c
      rw [e9 c] at h
      have b := nx (lA A k + 1) u (by omega) (by omega) hu h
      have b2 := can_ed (k := lA A k) p2 hu (by unfold edC; rw [if_neg (by omega), if_neg (by omega), if_neg (by omega), if_neg (by omega), if_neg (by omega)]; exact ⟨rfl, rfl⟩) b
      exact can_ed hk hu (by unfold edC; rw [if_neg (by omega), if_neg (by omega), if_neg (by omega), if_neg (by omega), if_pos c]; exact ⟨rfl, rfl⟩) b2
    · rw [e10 c] at h
      exact can_ed hk hu (k' := k + 1) (s' := u) (by unfold edC; rw [if_neg (by omega), if_neg (by omega), if_neg (by omega), if_neg (by omega), if_neg (by omega)]; exact ⟨rfl, rfl⟩) (nx (k + 1) u (by omega) (by omega) hu h)
theorem bw_cmp (hw : wfA A) (hE : bwE A ck L W) (hc : ∀ j u, j < nA A → kA A j = 6 → u < 216 → W j u = true → L (mA A j) u = true) {k s : Nat} (h : Can (edC A) (flC A ck) (nA A) k s) : k < nA A ∧ s < 216 ∧ W k s = true := by
  obtain ⟨r, hr⟩ := h
  refine can_least (P := fun k s => k < nA A ∧ s < 216 ∧ W k s = true) (fun k s hk hs hf => ?_) (fun k s k' s' hk hs he hP => ?_) r k s hr
  · obtain ⟨e5, -⟩ := hE.2 k hk s hs
    refine ⟨hk, hs, ?_⟩
    rw [e5 (by have := hf.1; omega), decide_eq_true ⟨hf.1, hf.2.2⟩, hf.2.1]
    simp
  · refine ⟨hk, hs, ?_⟩
    obtain ⟨hk', hs', hW⟩ := hP
    obtain ⟨k10, kv, m5, m6⟩ := hw.1 k hk
    obtain ⟨e5, e6, e7, e8, e9, e10⟩ := hE.2 k hk s hs
    unfold edC at he
    split at he
    · rename_i q
      obtain ⟨rfl, h2⟩ := he
      rw [e5 q, (bw_iff hs kv).mpr ⟨s', hs', hW, h2⟩]; rfl
    split at he
    · rename_i q c
      obtain ⟨q1, rfl⟩ := he
      rw [e6 c]
      cases ht : tA A k s' with
      | true => rw [ht, if_pos rfl] at q1; rw [← q1, hW]; rfl
      | false => rw [ht, if_neg (by decide)] at q1; rw [← q1, hW]; simp
    split at he
    · rename_i q c1 c
      obtain ⟨rfl, rfl⟩ := he
      obtain ⟨a1, a2, a3, a4, a5⟩ := hw.2.2.1 k hk c
      rw [e7 c, ← a4]
      exact hc _ _ hk' a2 hs hW
    split at he
    · rename_i q c1 c2 c
      obtain ⟨q1, rfl⟩ := he
      rw [e8 c]
      rcases q1 with q1 | q1
      · rw [← q1, hW]; rfl
      · rw [← q1, hW]; simp
    split at he
    · rename_i q c1 c2 c3 c
      obtain ⟨rfl, rfl⟩ := he
      obtain ⟨-, p1, p2, p3, p4⟩ := hw.2.2.2.2.1 k hk c
      rw [e9 c, ← (hE.2 _ p2 _ hs).2.2.2.2.2 p3]
      exact hW
    · rename_i q c1 c2 c3 c4
      obtain ⟨rfl, rfl⟩ := he
      rw [e10 (by omega)]
      exact hW
end BC
section BR
variable {A : AP} {f ck : Nat} {t : Nat → Nat}
theorem bg_iff {σ : SG} : ∀ d, d ≤ nA A → (bgrN f (pvA A t) ck d σ = true ↔ ∃ k, nA A - d ≤ k ∧ k < nA A ∧ kA A k = 6 ∧ bgr f (kA A k) (mA A k) (t k) (bpaN f (pvA A t) ck (nA A - (k + 1)) σ) = true)
  | 0, _ => ⟨fun h => absurd h (by simp [bgrN]), fun ⟨k, h1, h2, _⟩ => absurd h1 (by omega)⟩
  | d + 1, hd => by
    have ih := bg_iff (σ := σ) d (by omega)
    have e : bgrN f (pvA A t) ck (d + 1) σ = (bgrN f (pvA A t) ck d σ || (if kA A (nA A - 1 - d) = 6 ∨ kA A (nA A - 1 - d) = 7 then bgr f (kA A (nA A - 1 - d)) (mA A (nA A - 1 - d)) (t (nA A - 1 - d)) (bpaN f (pvA A t) ck d σ) else false)) := rfl
    have ed : nA A - (nA A - 1 - d + 1) = d := by omega
    rw [e, Bool.or_eq_true, ih]
    constructor
    · rintro (⟨k, a, b, c⟩ | h)
      · exact ⟨k, by omega, b, c⟩
      · by_cases c : kA A (nA A - 1 - d) = 6
        · rw [if_pos (Or.inl c)] at h
          exact ⟨nA A - 1 - d, by omega, by omega, c, by rw [ed]; exact h⟩
        · by_cases c7 : kA A (nA A - 1 - d) = 7
          · rw [if_pos (Or.inr c7)] at h
            unfold bgr at h
            rw [if_pos c7] at h
            cases h
          · rw [if_neg (by omega)] at h; cases h
    · rintro ⟨k, a, b, c, g⟩
      rcases Nat.lt_or_ge k (nA A - d) with q | q
      · obtain rfl : k = nA A - 1 - d := by omega
        rw [ed] at g
        exact Or.inr (by rw [if_pos (Or.inl c)]; exact g)
      · exact Or.inl ⟨k, q, b, c, g⟩
/-- between two rounds -/
def bndI (A : AP) (f ck : Nat) (t : Nat → Nat) (σ0 σ : SG) : Prop := trW A f t σ ∧ (∀ j u, j < nA A → kA A j = 6 → u < 216 → σ (f + 3 + 1 + 2 * mA A j) u = true → Can (edC A) (flC A ck) (nA A) j u) ∧ ∀ b, b < f + 1 ∨ f + 31 ≤ b → σ b = σ0 b
theorem up_tr {σ : SG} {S : ST} (h : trW A f t σ) : trW A f t (upσ σ (f + 1) S) := fun j hj => ⟨(h j hj).1, fun hu s hs => by
  have a := (h j hj).1
  rw [upσ_ne _ _ (by omega)]
  exact (h j hj).2 hu s hs⟩
theorem bl_eq {σ : SG} (hw : wfA A) (hT : trW A f t σ) : bwE A ck (fun l => σ (f + 3 + 1 + 2 * l)) (fun k => bpaN f (pvA A t) ck (nA A - k) (upσ σ (f + 1) (fun _ => false)) (f + 1)) := by
  have h := b_eq (ck := ck) hw (up_tr (S := fun _ => false) hT) (fun u _ => by rw [upσ_self])
  have e : (fun l => (upσ σ (f + 1) (fun _ => false)) (f + 3 + 1 + 2 * l)) = fun l => σ (f + 3 + 1 + 2 * l) := funext fun l => upσ_ne _ _ (by omega)
  rw [e] at h
  exact h
theorem bl_at {σ : SG} (hw : wfA A) (hT : trW A f t σ) {j u : Nat} (hj : j < nA A) (c : kA A j = 6) (hu : u < 216) : blmS f ck (pvA A t) σ (f + 3 + 1 + 2 * mA A j) u = (σ (f + 3 + 1 + 2 * mA A j) u || bpaN f (pvA A t) ck (nA A - j) (upσ σ (f + 1) (fun _ => false)) (f + 1) u) := by
  have h := at_lo (ck := ck) hw (up_tr (S := fun _ => false) hT) hj c hu j (Nat.le_refl _)
  rw [Nat.sub_self, Nat.sub_zero, show (upσ σ (f + 1) (fun _ => false)) (f + 3 + 1 + 2 * mA A j) = σ (f + 3 + 1 + 2 * mA A j) from upσ_ne _ _ (by omega)] at h
  exact h
theorem bl_mono {σ : SG} (hw : wfA A) (hT : trW A f t σ) {l u : Nat} (hl : l < 3) (hu : u < 216) (h : σ (f + 3 + 1 + 2 * l) u = true) : blmS f ck (pvA A t) σ (f + 3 + 1 + 2 * l) u = true := by
  by_cases c : ∃ j, j < nA A ∧ kA A j = 6 ∧ mA A j = l
  · obtain ⟨j, j1, j2, rfl⟩ := c
    rw [bl_at hw hT j1 j2 hu, h]; rfl
  · have g := at_hi (ck := ck) hw (up_tr (S := fun _ => false) hT) hl (nA A) (Nat.le_refl _) (fun j _ j1 j2 j3 => c ⟨j, j1, j2, j3⟩)
    rw [upσ_ne _ _ (by omega)] at g
    show bpaN f (pvA A t) ck (nA A) (upσ σ (f + 1) (fun _ => false)) (f + 3 + 1 + 2 * l) u = true
    rw [g]; exact h
theorem bl_gr {σ : SG} (hw : wfA A) (hT : trW A f t σ) : blmG f ck (pvA A t) σ = true ↔ ∃ j u, j < nA A ∧ kA A j = 6 ∧ u < 216 ∧ bpaN f (pvA A t) ck (nA A - j) (upσ σ (f + 1) (fun _ => false)) (f + 1) u = true ∧ σ (f + 3 + 1 + 2 * mA A j) u = false := by
  have hT2 := up_tr (S := fun _ => false) hT
  have e : ∀ j, j < nA A → kA A j = 6 → bpaN f (pvA A t) ck (nA A - (j + 1)) (upσ σ (f + 1) (fun _ => false)) (f + 3 + 1 + 2 * mA A j) = σ (f + 3 + 1 + 2 * mA A j) := fun j hj c => by
    rw [at_hi hw hT2 ((hw.1 j hj).2.2.2 (by omega)) (nA A - (j + 1)) (by omega) (fun i h1 h2 h3 h4 => by
      have := hw.2.2.2.2.2.2 i j h2 hj (by omega) (by omega) h4
      omega), upσ_ne _ _ (by omega)]
  show bgrN f (pvA A t) ck (nA A) (upσ σ (f + 1) (fun _ => false)) = true ↔ _
  rw [bg_iff (nA A) (Nat.le_refl _)]
  constructor
  · rintro ⟨k, -, h1, h2, h3⟩
    obtain ⟨s, s1, s2, s3⟩ := ((b_all (ck := ck) hw hT2 h1).2.2.2.2.2.2 h2).mp h3
    rw [e k h1 h2] at s3
    exact ⟨k, s, h1, h2, s1, s2, s3⟩
  · rintro ⟨k, s, h1, h2, s1, s2, s3⟩
    exact ⟨k, by omega, h1, h2, ((b_all (ck := ck) hw hT2 h1).2.2.2.2.2.2 h2).mpr ⟨s, s1, s2, by rw [e k h1 h2]; exact s3⟩⟩
theorem bnd_step {σ0 σ : SG} (hw : wfA A) (h : bndI A f ck t σ0 σ) : bndI A f ck t σ0 (blmS f ck (pvA A t) σ) := by
  obtain ⟨h1, h2, h3⟩ := h
  have b := b_tr (ck := ck) hw (up_tr (S := fun _ => false) h1) (nA A) (Nat.le_refl _)
  refine ⟨b.1, fun j u hj c hu hx => ?_, fun x hx => ?_⟩
  · rw [bl_at hw h1 hj c hu, Bool.or_eq_true] at hx
    rcases hx with hx | hx
    · exact h2 j u hj c hu hx
    · exact bw_snd hw (bl_eq hw h1) h2 (nA A - j) j u (by omega) hu hx
  · show bpaN f (pvA A t) ck (nA A) (upσ σ (f + 1) (fun _ => false)) x = σ0 x
    rw [b.2 x hx, upσ_ne _ _ (by omega)]
    exact h3 x hx
theorem bl_cnt {σ : SG} {N : Nat} (hN : N = 648) (hw : wfA A) (hT : trW A f t σ) (h : blmG f ck (pvA A t) σ = true) : cntC f σ N + 1 ≤ cntC f (blmS f ck (pvA A t) σ) N := by
  obtain ⟨k, s, k1, k2, s1, s2, s3⟩ := (bl_gr hw hT).mp h
  have mk := (hw.1 k k1).2.2.2 (by omega)
  refine ct_lt (a := 216 * mA A k + s) N (fun i hi hx => bl_mono hw hT (by omega) (by omega) hx) (by omega) ?_ ?_
  · show σ (f + 3 + 1 + 2 * ((216 * mA A k + s) / 216)) ((216 * mA A k + s) % 216) = false
    rw [show (216 * mA A k + s) / 216 = mA A k by omega, show (216 * mA A k + s) % 216 = s by omega]
    exact s3
  · show blmS f ck (pvA A t) σ (f + 3 + 1 + 2 * ((216 * mA A k + s) / 216)) ((216 * mA A k + s) % 216) = true
    rw [show (216 * mA A k + s) / 216 = mA A k by omega, show (216 * mA A k + s) % 216 = s by omega, bl_at hw hT k1 k2 s1, s2]
    simp
theorem bnd_all {σ0 σ : SG} {N : Nat} (hN : N = 648) (hw : wfA A) (h : bndI A f ck t σ0 σ) : ∀ r, bndI A f ck t σ0 (rnds (blmS f ck (pvA A t)) (blmG f ck (pvA A t)) σ r).1 ∧ ((rnds (blmS f ck (pvA A t)) (blmG f ck (pvA A t)) σ r).2 = true → r ≤ cntC f (rnds (blmS f ck (pvA A t)) (blmG f ck (pvA A t)) σ r).1 N) ∧ ((rnds (blmS f ck (pvA A t)) (blmG f ck (pvA A t)) σ r).2 = false → ∃ τ, bndI A f ck t σ0 τ ∧ blmG f ck (pvA A t) τ = false ∧ (rnds (blmS f ck (pvA A t)) (blmG f ck (pvA A t)) σ r).1 = blmS f ck (pvA A t) τ)
  | 0 => ⟨h, fun _ => Nat.zero_le _, fun q => by cases q⟩
  | r + 1 => by
    obtain ⟨i1, i2, i3⟩ := bnd_all hN hw h r
    rw [rnds]
    cases hf : (rnds (blmS f ck (pvA A t)) (blmG f ck (pvA A t)) σ r).2 with
    | false =>
      rw [if_neg (by decide)]
      exact ⟨i1, (fun q => absurd (hf.symm.trans q) (by decide)), fun _ => i3 hf⟩
    | true =>
      rw [if_pos rfl]
      refine ⟨bnd_step hw i1, fun q => ?_, fun q => ⟨_, i1, q, rfl⟩⟩
      have a := i2 hf
      have b := bl_cnt hN hw i1.1 q
      show r + 1 ≤ cntC f (blmS f ck (pvA A t) _) N
      omega
theorem blm_ok {σ : SG} (hw : wfA A) (hT : trW A f t σ) {R : Nat} (hR : 649 ≤ R) {σ2 : SG} (h2 : σ2 = (rnds (blmS f ck (pvA A t)) (blmG f ck (pvA A t)) (clrN (f + 3) 3 σ) R).1) : (∀ s, s < 216 → (σ2 (f + 1) s = true ↔ Can (edC A) (flC A ck) (nA A) 0 s)) ∧ ∀ b, b < f + 1 ∨ f + 31 ≤ b → σ2 b = σ b := by
  have clr : ∀ b, b ≠ f + 3 + 1 + 2 * 0 → b ≠ f + 3 + 1 + 2 * 1 → b ≠ f + 3 + 1 + 2 * 2 → clrN (f + 3) 3 σ b = σ b := fun b b0 b1 b2 => by
    simp [clrN, upσ, b0, b1, b2]
  have clr2 : ∀ l s, l < 3 → clrN (f + 3) 3 σ (f + 3 + 1 + 2 * l) s = false := fun l s hl => by
    rcases (show l = 0 ∨ l = 1 ∨ l = 2 by omega) with rfl | rfl | rfl <;> simp [clrN, upσ]
  have h0 : bndI A f ck t σ (clrN (f + 3) 3 σ) := by
    refine ⟨fun j hj => ⟨(hT j hj).1, fun hu s hs => ?_⟩, fun j s hj kj hs hx => ?_, fun b hb => clr b (by omega) (by omega) (by omega)⟩
    · have a := (hT j hj).1
      rw [clr _ (by omega) (by omega) (by omega)]
      exact (hT j hj).2 hu s hs
    · rw [clr2 _ s ((hw.1 j hj).2.2.2 (by omega))] at hx; cases hx
  obtain ⟨i1, i2, i3⟩ := bnd_all (N := 648) rfl hw h0 R
  rw [← h2] at i1 i2 i3
  have hf : (rnds (blmS f ck (pvA A t)) (blmG f ck (pvA A t)) (clrN (f + 3) 3 σ) R).2 = false := by
    cases hz : (rnds (blmS f ck (pvA A t)) (blmG f ck (pvA A t)) (clrN (f + 3) 3 σ) R).2 with
    | false => rfl
    | true =>
      have a := i2 hz
      have b := fb_ct_le (fun i => σ2 (f + 3 + 1 + 2 * (i / 216)) (i % 216)) 648
      unfold cntC at a
      omega
  obtain ⟨τ, t1, t2, t3⟩ := i3 hf
  have hE := bl_eq (ck := ck) hw t1.1
  refine ⟨fun s hs => ?_, i1.2.2⟩
  have e2 : σ2 (f + 1) s = bpaN f (pvA A t) ck (nA A - 0) (upσ τ (f + 1) (fun _ => false)) (f + 1) s := by
    rw [t3]; rfl
  rw [e2]
  constructor
  · exact fun h => bw_snd hw hE t1.2.1 (nA A) 0 s (by omega) hs h
  · intro h
    exact (bw_cmp hw hE (fun j u hj c hu hx => by
      cases hz : τ (f + 3 + 1 + 2 * mA A j) u with
      | true => rfl
      | false =>
        have := (bl_gr (ck := ck) hw t1.1).mpr ⟨j, u, hj, c, hu, hx, hz⟩
        rw [t2] at this; cases this) h).2.2
end BR
