/-! ===== the rounds of reaching ===== -/
section RN
variable {A : AP} {f bg : Nat} {t : Nat → Nat} {B : ST}
/-- the state between two rounds -/
def rndI (A : AP) (f bg : Nat) (t : Nat → Nat) (B : ST) (σ0 σ : SG) : Prop := trW A f t σ ∧ (∀ s, s < 216 → σ bg s = B s) ∧ (∀ j s, j < nA A → kA A j = 6 → s < 216 → σ (f + 3 + 1 + 2 * mA A j) s = true → Rch (edC A) (nA A) B j s) ∧ ∀ b, b < f + 1 ∨ f + 40 ≤ b → σ b = σ0 b
theorem cop_tr {σ : SG} (hbg : bg < f ∨ f + 40 ≤ bg) (h : trW A f t σ) : trW A f t (copσ σ (f + 1) bg) := fun j hj => ⟨(h j hj).1, fun hu s hs => by
  have a := (h j hj).1
  rw [copσ, upσ_ne _ _ (by omega)]
  exact (h j hj).2 hu s hs⟩
theorem cop_inv {σ0 σ : SG} (hw : wfA A) (hbg : bg < f ∨ f + 40 ≤ bg) (h : rndI A f bg t B σ0 σ) : invF A B f (copσ σ (f + 1) bg) 0 := by
  obtain ⟨h1, h2, h3, h4⟩ := h
  refine ⟨fun s hs hx => ?_, fun j s hj kj hs hx => ?_, fun j s hj => absurd hj (Nat.not_lt_zero _), fun j s hj => absurd hj (Nat.not_lt_zero _)⟩
  · rw [copσ, upσ_self, h2 s hs] at hx
    exact ⟨0, rfl, hs, hx⟩
  · rw [copσ, upσ_ne _ _ (by omega)] at hx
    exact h3 j s hj kj hs hx
theorem rnd_step {σ0 σ : SG} (hw : wfA A) (hbg : bg < f ∨ f + 40 ≤ bg) (h : rndI A f bg t B σ0 σ) : rndI A f bg t B σ0 (rchS f bg (pvA A t) σ) := by
  have hi := cop_inv hw hbg h
  obtain ⟨h1, h2, h3, h4⟩ := h
  have hT := cop_tr hbg h1
  have p := pas_tr hw (Or.inl rfl) hT (nA A) (Nat.le_refl _)
  have q := snd_pass hw hT hi (nA A) (Nat.le_refl _)
  refine ⟨p.1, fun s hs => ?_, fun j s hj kj hs hx => q.2.1 j s hj kj hs hx, fun b hb => ?_⟩
  · show pasN f (f + 3) (pvA A t) (nA A) (copσ σ (f + 1) bg) bg s = B s
    rw [p.2 bg (by omega), copσ, upσ_ne _ _ (by omega)]
    exact h2 s hs
  · show pasN f (f + 3) (pvA A t) (nA A) (copσ σ (f + 1) bg) b = σ0 b
    rw [p.2 b hb, copσ, upσ_ne _ _ (by omega)]
    exact h4 b hb
def cntC (f : Nat) (σ : SG) (N : Nat) : Nat := fb_ct (fun i => σ (f + 3 + 1 + 2 * (i / 216)) (i % 216)) N
theorem cm_mono {σ : SG} (hw : wfA A) (hT : trW A f t σ) {l s : Nat} (hl : l < 3) : ∀ d k, k + d ≤ nA A → pasN f (f + 3) (pvA A t) k σ (f + 3 + 1 + 2 * l) s = true → pasN f (f + 3) (pvA A t) (k + d) σ (f + 3 + 1 + 2 * l) s = true
  | 0, _, _, h => h
  | d + 1, k, hd, h => by
    have ih := cm_mono hw hT hl d k (by omega) h
    show pasN f (f + 3) (pvA A t) (k + d + 1) σ (f + 3 + 1 + 2 * l) s = true
    by_cases c : (kA A (k + d) = 6 ∨ kA A (k + d) = 7) ∧ mA A (k + d) = l
    · have e := congrFun (pas_cm hw (Or.inl rfl) hT (k := k + d) (by omega) c.1) s
      rw [c.2] at e
      rw [e, ih]; rfl
    · rw [pas_cell hw (Or.inl rfl) hT (k := k + d) (by omega) (by omega) (wr_cm hw (by omega) hl c)]
      exact ih
theorem grw_some {σ : SG} {ia : Nat} : ∀ n, grwN f ia (pvA A t) n σ = true → ∃ k, k < n ∧ (kA A k = 6 ∨ kA A k = 7) ∧ ∃ s, s < 216 ∧ pasN f ia (pvA A t) k σ (f + 1) s = true ∧ pasN f ia (pvA A t) k σ (f + 3 + 1 + 2 * mA A k) s = false
  | 0, h => by cases h
  | n + 1, h => by
    have h' : (grwN f ia (pvA A t) n σ || (if kA A n = 6 ∨ kA A n = 7 then newσ (pasN f ia (pvA A t) n σ) (f + 3 + 1 + 2 * mA A n) (f + 1) else false)) = true := h
    rcases (Bool.or_eq_true _ _).mp h' with a | a
    · obtain ⟨k, k1, k2⟩ := grw_some n a
      exact ⟨k, by omega, k2⟩
    · by_cases c : kA A n = 6 ∨ kA A n = 7
      · rw [if_pos c] at a
        obtain ⟨s, s1, s2⟩ := anyS_iff.mp a
        rw [Bool.and_eq_true] at s2
        refine ⟨n, by omega, c, s, s1, s2.1, ?_⟩
        cases hz : pasN f ia (pvA A t) n σ (f + 3 + 1 + 2 * mA A n) s with
        | false => rfl
        | true => rw [hz] at s2; exact absurd s2.2 (by decide)
      · rw [if_neg c] at a; cases a
theorem grw_cnt {σ : SG} {N : Nat} (hN : N = 648) (hw : wfA A) (hbg : bg < f ∨ f + 40 ≤ bg) (hT : trW A f t σ) (h : rchG f bg (pvA A t) σ = true) : cntC f σ N + 1 ≤ cntC f (rchS f bg (pvA A t) σ) N := by
  have hT2 := cop_tr hbg hT
  obtain ⟨k, k1, k2, s, s1, s2, s3⟩ := grw_some (nA A) h
  have mk := (hw.1 k k1).2.2.2 (by omega)
  have old : ∀ l x, l < 3 → σ (f + 3 + 1 + 2 * l) x = pasN f (f + 3) (pvA A t) 0 (copσ σ (f + 1) bg) (f + 3 + 1 + 2 * l) x := fun l x hl => by
    show _ = copσ σ (f + 1) bg (f + 3 + 1 + 2 * l) x
    rw [copσ, upσ_ne _ _ (by omega)]
  refine ct_lt (a := 216 * mA A k + s) N (fun i hi hx => ?_) (by omega) ?_ ?_
  · have hx' : σ (f + 3 + 1 + 2 * (i / 216)) (i % 216) = true := hx
    rw [old _ _ (by omega)] at hx'
    have := cm_mono hw hT2 (l := i / 216) (by omega) (nA A) 0 (by omega) hx'
    rw [Nat.zero_add] at this
    exact this
  · show σ (f + 3 + 1 + 2 * ((216 * mA A k + s) / 216)) ((216 * mA A k + s) % 216) = false
    rw [show (216 * mA A k + s) / 216 = mA A k by omega, show (216 * mA A k + s) % 216 = s by omega]
    cases hz : σ (f + 3 + 1 + 2 * mA A k) s with
    | false => rfl
    | true =>
      rw [old _ _ mk] at hz
      have := cm_mono hw hT2 (l := mA A k) mk k 0 (by omega) hz
      rw [Nat.zero_add] at this
      rw [this] at s3; cases s3
  · show rchS f bg (pvA A t) σ (f + 3 + 1 + 2 * ((216 * mA A k + s) / 216)) ((216 * mA A k + s) % 216) = true
    rw [show (216 * mA A k + s) / 216 = mA A k by omega, show (216 * mA A k + s) % 216 = s by omega]
    have e := congrFun (pas_cm hw (Or.inl rfl) hT2 (k := k) k1 k2) s
    rw [s2, Bool.or_true] at e
    have := cm_mono hw hT2 (l := mA A k) mk (nA A - (k + 1)) (k + 1) (by omega) e
    rw [show k + 1 + (nA A - (k + 1)) = nA A by omega] at this
    exact this
theorem rnd_all {σ0 σ : SG} {N : Nat} (hN : N = 648) (hw : wfA A) (hbg : bg < f ∨ f + 40 ≤ bg) (h : rndI A f bg t B σ0 σ) : ∀ r, rndI A f bg t B σ0 (rnds (rchS f bg (pvA A t)) (rchG f bg (pvA A t)) σ r).1 ∧ ((rnds (rchS f bg (pvA A t)) (rchG f bg (pvA A t)) σ r).2 = true → r ≤ cntC f (rnds (rchS f bg (pvA A t)) (rchG f bg (pvA A t)) σ r).1 N) ∧ ((rnds (rchS f bg (pvA A t)) (rchG f bg (pvA A t)) σ r).2 = false → ∃ τ, rndI A f bg t B σ0 τ ∧ rchG f bg (pvA A t) τ = false ∧ (rnds (rchS f bg (pvA A t)) (rchG f bg (pvA A t)) σ r).1 = rchS f bg (pvA A t) τ)
  | 0 => ⟨h, fun _ => Nat.zero_le _, fun q => by cases q⟩
  | r + 1 => by
    obtain ⟨i1, i2, i3⟩ := rnd_all hN hw hbg h r
    rw [rnds]
    cases hf : (rnds (rchS f bg (pvA A t)) (rchG f bg (pvA A t)) σ r).2 with
    | false =>
      rw [if_neg (by decide)]
      exact ⟨i1, (fun q => absurd (hf.symm.trans q) (by decide)), fun _ => i3 hf⟩
    | true =>
      rw [if_pos rfl]
      refine ⟨rnd_step hw hbg i1, fun q => ?_, fun q => ⟨_, i1, q, rfl⟩⟩
      have a := i2 hf
      have b := grw_cnt hN hw hbg i1.1 q
      show r + 1 ≤ cntC f (rchS f bg (pvA A t) _) N
      omega
/-- reaching finds just what is reached -/
theorem rch_ok {σ : SG} (hw : wfA A) (hbg : bg < f ∨ f + 40 ≤ bg) (hT : trW A f t σ) (hB : ∀ s, s < 216 → σ bg s = B s) {R : Nat} (hR : 649 ≤ R) {σ2 : SG} (h2 : σ2 = (rnds (rchS f bg (pvA A t)) (rchG f bg (pvA A t)) (clrN (f + 3) 3 σ) R).1) : (∀ s, s < 216 → (σ2 (f + 1) s = true ↔ Rch (edC A) (nA A) B (nA A) s)) ∧ (∀ j s, j < nA A → kA A j = 6 → s < 216 → (σ2 (f + 3 + 1 + 2 * mA A j) s = true ↔ Rch (edC A) (nA A) B j s)) ∧ (∀ j s, j < nA A → kA A j = 5 → s < 216 → (σ2 (f + 17 + 1 + 2 * mA A j) s = true ↔ Rch (edC A) (nA A) B j s)) ∧ ∀ b, b < f + 1 ∨ f + 40 ≤ b → σ2 b = σ b := by
  have clr : ∀ b, b ≠ f + 3 + 1 + 2 * 0 → b ≠ f + 3 + 1 + 2 * 1 → b ≠ f + 3 + 1 + 2 * 2 → clrN (f + 3) 3 σ b = σ b := fun b b0 b1 b2 => by
    simp [clrN, upσ, b0, b1, b2]
  have clr2 : ∀ l s, l < 3 → clrN (f + 3) 3 σ (f + 3 + 1 + 2 * l) s = false := fun l s hl => by
    rcases (show l = 0 ∨ l = 1 ∨ l = 2 by omega) with rfl | rfl | rfl <;> simp [clrN, upσ]
  have h0 : rndI A f bg t B σ (clrN (f + 3) 3 σ) := by
    refine ⟨fun j hj => ⟨(hT j hj).1, fun hu s hs => ?_⟩, fun s hs => ?_, fun j s hj kj hs hx => ?_, fun b hb => clr b (by omega) (by omega) (by omega)⟩
    · have a := (hT j hj).1
      rw [clr _ (by omega) (by omega) (by omega)]
      exact (hT j hj).2 hu s hs
    · rw [clr _ (by omega) (by omega) (by omega)]
      exact hB s hs
    · rw [clr2 _ s ((hw.1 j hj).2.2.2 (by omega))] at hx; cases hx
  obtain ⟨i1, i2, i3⟩ := rnd_all (N := 648) rfl hw hbg h0 R
  rw [← h2] at i1 i2 i3
  have hf : (rnds (rchS f bg (pvA A t)) (rchG f bg (pvA A t)) (clrN (f + 3) 3 σ) R).2 = false := by
    cases hz : (rnds (rchS f bg (pvA A t)) (rchG f bg (pvA A t)) (clrN (f + 3) 3 σ) R).2 with
    | false => rfl
    | true =>
      have a := i2 hz
      have b := fb_ct_le (fun i => σ2 (f + 3 + 1 + 2 * (i / 216)) (i % 216)) 648
      unfold cntC at a
      omega
  obtain ⟨τ, t1, t2, t3⟩ := i3 hf
  have hTc := cop_tr hbg t1.1
  have hBc : ∀ s, s < 216 → copσ τ (f + 1) bg (f + 1) s = B s := fun s hs => by
    rw [copσ, upσ_self]; exact t1.2.1 s hs
  have cmp := cmp_reach (B := B) hw hTc hBc t2
  have snd := snd_pass hw hTc (cop_inv hw hbg t1)
  have e2 : σ2 = pasN f (f + 3) (pvA A t) (nA A) (copσ τ (f + 1) bg) := t3
  refine ⟨fun s hs => ⟨fun q => ?_, fun q => ?_⟩, fun j s hj kj hs => ⟨fun q => ?_, fun q => ?_⟩, fun j s hj kj hs => ⟨fun q => ?_, fun q => ?_⟩, fun b hb => i1.2.2.2 b hb⟩
  · rw [e2] at q
    exact (snd (nA A) (Nat.le_refl _)).1 s hs q
  · rcases (cmp _ s q).2.2 with u | u | u
    · rw [e2]; exact u
    · exact absurd u.1 (Nat.lt_irrefl _)
    · exact absurd u.1 (Nat.lt_irrefl _)
  · exact i1.2.2.1 j s hj kj hs q
  · have m3 := (hw.1 j hj).2.2.2 (by omega)
    have cc := cmc_con hw hTc t2 (nA A) (Nat.le_refl _) (mA A j) m3 s hs
    rw [e2, cc]
    rcases (cmp _ s q).2.2 with u | u | u
    · have g := grw_not (nA A) t2 j hj (Or.inl kj) s hs u
      rw [cmc_con hw hTc t2 j (by omega) (mA A j) m3 s hs] at g
      exact g
    · omega
    · exact u.2.2
  · have w : wrC A f j = f + 17 + 1 + 2 * mA A j := if_pos kj
    have e := pas_keep hw (Or.inl rfl) hTc hj (Or.inl kj) (nA A - (j + 1)) (by omega)
    rw [show j + 1 + (nA A - (j + 1)) = nA A by omega, w] at e
    rw [e2, e] at q
    exact (snd j (by omega)).1 s hs q
  · have w : wrC A f j = f + 17 + 1 + 2 * mA A j := if_pos kj
    have e := pas_keep hw (Or.inl rfl) hTc hj (Or.inl kj) (nA A - (j + 1)) (by omega)
    rw [show j + 1 + (nA A - (j + 1)) = nA A by omega, w] at e
    rw [e2, e]
    rcases (cmp _ s q).2.2 with u | u | u
    · exact u
    · omega
    · omega
end RN
