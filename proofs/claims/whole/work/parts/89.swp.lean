/-! ===== a sweep of the class with the sets of given guesses ===== -/
theorem swE_cg {A : AP} {I I' : Nat → ST} {B : ST} {W : Nat → ST} (hw : wfA A) (h : ∀ l, l < 3 → ∀ u, u < 216 → I l u = I' l u) (hE : swE A I B W) : swE A I' B W :=
  ⟨hE.1, fun k hk u hu => by
    obtain ⟨a, b, c, d⟩ := hE.2 k hk u hu
    obtain ⟨-, -, -, m6⟩ := hw.1 k hk
    exact ⟨a, fun q => by rw [b q, h _ (m6 (by omega)) u hu], fun q => by rw [c q, h _ (m6 (by omega)) u hu], d⟩⟩
theorem allN_cg {p q : Nat → Bool} : ∀ n, (∀ g, g < n → p g = q g) → allN p n = allN q n
  | 0, _ => rfl
  | n + 1, h => by
    show (allN p n && p n) = (allN q n && q n)
    rw [allN_cg n (fun g hg => h g (by omega)), h n (by omega)]
/-- what a search for invariants finds in the sets -/
def invE (A : AP) (Gc : GC) (f bg : Nat) (t gt : Nat → Nat) (B : ST) (σ : SG) : Prop := trW A f t σ ∧ (∀ g, g < Gc.1 → (gt g < f ∨ f + 40 ≤ gt g) ∧ ∀ s, s < 216 → σ (gt g) s = cndT (Gc.2 g) s) ∧ ∀ s, s < 216 → σ bg s = B s
theorem invE_fr {A : AP} {Gc : GC} {f bg : Nat} {t gt : Nat → Nat} {B : ST} {σ τ : SG} (hbg : bg < f ∨ f + 40 ≤ bg) (h : invE A Gc f bg t gt B σ) (hf : ∀ b, b < f + 1 ∨ f + 40 ≤ b → τ b = σ b) : invE A Gc f bg t gt B τ := by
  obtain ⟨h1, h2, h3⟩ := h
  refine ⟨fun j hj => ⟨(h1 j hj).1, fun hu s hs => ?_⟩, fun g hg => ⟨(h2 g hg).1, fun s hs => ?_⟩, fun s hs => ?_⟩
  · have a := (h1 j hj).1
    rw [hf _ (by omega)]
    exact (h1 j hj).2 hu s hs
  · have a := (h2 g hg).1
    rw [hf _ (by omega)]
    exact (h2 g hg).2 s hs
  · rw [hf _ (by omega)]
    exact h3 s hs
/-- what a sweep leaves in the sets -/
def invO (A : AP) (Gc : GC) (f : Nat) (gn : Nat → Nat) (B : ST) (σ τ : SG) (W : Nat → ST) : Prop := swE A (fun l => agS Gc (gn l)) B W ∧ (∀ u, u < 216 → τ (f + 1) u = W (nA A) u) ∧ (∀ j u, j < nA A → kA A j = 5 → τ (f + 17 + 1 + 2 * mA A j) u = W j u) ∧ (∀ l u, l < 3 → (τ (f + 3 + 1 + 2 * l) u = true ↔ ∃ j, j < nA A ∧ (kA A j = 6 ∨ kA A j = 7) ∧ mA A j = l ∧ W j u = true)) ∧ (∀ l u, l < 3 → u < 216 → τ (f + 10 + 1 + 2 * l) u = agS Gc (gn l) u) ∧ ∀ b, b < f + 1 ∨ f + 40 ≤ b → τ b = σ b
theorem inv_pass {A : AP} {Gc : GC} {f bg : Nat} {t gt : Nat → Nat} {B : ST} {σ : SG} {gn : Nat → Nat} (hw : wfA A) (hbg : bg < f ∨ f + 40 ≤ bg) (h : invE A Gc f bg t gt B σ) (h5 : Gc.1 ≤ 5) (hgn : ∀ l, gn l < 2 ^ Gc.1) : ∃ W, invO A Gc f gn B σ (invP f bg (pvA A t) (Gc.1, gt) (σ, gn)) W := by
  have hlt : ∀ i g, (gn i).testBit g = true → g < Gc.1 := fun i g q => tb_lt (hgn i) q
  obtain ⟨a1, a2⟩ := asgN_ok (f := f) (gn := gn) (gt := gt) (σ := σ) (fun i g q => (h.2.1 g (hlt i g q)).1) 3 (Nat.le_refl _)
  have fr : ∀ b, b < f + 1 ∨ f + 40 ≤ b → asgN f gn gt 3 σ b = σ b := fun b hb => a2 b (fun i hi => by omega)
  have hE := invE_fr hbg h fr
  have hT := cop_tr hbg hE.1
  have hI : ∀ l, l < 3 → ∀ u, u < 216 → (copσ (asgN f gn gt 3 σ) (f + 1) bg) (f + 10 + 1 + 2 * l) u = agS Gc (gn l) u := fun l hl u hu => by
    rw [copσ, upσ_ne _ _ (by omega), (a1 l hl).1 u]
    unfold agS
    rw [allN_low 5 Gc.1 h5 (fun g g1 g2 => by
      cases q : (gn l).testBit g with
      | false => rfl
      | true => exact absurd (hlt l g q) (by omega))]
    exact allN_cg _ (fun g hg => by rw [(h.2.1 g hg).2 u hu])
  have hB : ∀ s, s < 216 → (copσ (asgN f gn gt 3 σ) (f + 1) bg) (f + 1) s = B s := fun s hs => by
    rw [copσ, upσ_self]
    exact hE.2.2 s hs
  have sw := swE_cg hw hI (sw_cls hw hT hB)
  have e : invP f bg (pvA A t) (Gc.1, gt) (σ, gn) = pasN f (f + 10) (pvA A t) (nA A) (copσ (asgN f gn gt 3 σ) (f + 1) bg) := rfl
  refine ⟨_, sw, fun u hu => by rw [e], fun j u hj c => ?_, fun l u hl => ?_, fun l u hl hu => ?_, fun b hb => ?_⟩
  · rw [e]
    have g := pas_keep hw (Or.inr rfl) hT (j := j) hj (Or.inl c) (nA A - (j + 1)) (by omega) (ia := f + 10)
    have w : wrC A f j = f + 17 + 1 + 2 * mA A j := by unfold wrC; rw [if_pos c]
    rw [show j + 1 + (nA A - (j + 1)) = nA A by omega, w] at g
    rw [g]
  · rw [e, pas_come hw (Or.inr rfl) hT hl u (nA A) (Nat.le_refl _)]
    have z : (copσ (asgN f gn gt 3 σ) (f + 1) bg) (f + 3 + 1 + 2 * l) u = false := by
      rw [copσ, upσ_ne _ _ (by omega)]
      exact (a1 l hl).2 u
    rw [z]
    exact ⟨fun q => q.elim (fun q => absurd q (by decide)) (fun q => q), Or.inr⟩
  · rw [e, pas_ins hw hT hl (nA A) (Nat.le_refl _)]
    exact hI l hl u hu
  · rw [e, (pas_tr hw (Or.inr rfl) hT (nA A) (Nat.le_refl _)).2 b hb, copσ, upσ_ne _ _ (by omega)]
    exact fr b hb
