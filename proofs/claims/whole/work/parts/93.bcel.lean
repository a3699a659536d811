/-! ===== Blame: a node backwards ===== -/
theorem fr_cg {S T : ST} {v s : Nat} (h : ∀ x, x < 216 → S x = T x) (hs : s < 216) : frS v S s = frS v T s := by
  have e : ∀ w, w < 6 → S (s - valS s v * sgS v + w * sgS v) = T (s - valS s v * sgS v + w * sgS v) := fun w hw => h _ (wth_lt (v := v) hs hw)
  unfold frS any6
  dsimp only
  rw [e 0 (by omega), e 1 (by omega), e 2 (by omega), e 3 (by omega), e 4 (by omega), e 5 (by omega)]
/-- the set behind a node, backwards -/
def bnV (A : AP) (f ck k : Nat) (σ : SG) (s : Nat) : Bool :=
  if kA A k ≤ 5 then bwS A k (σ (f + 1)) s || (decide (kA A k = 5 ∧ mA A k = ck) && !tA A k s)
  else if kA A k = 6 then (σ (f + 1) s && tA A k s) || (σ (f + 10 + 1 + 2 * mA A k) s && !tA A k s)
  else if kA A k = 7 then σ (f + 3 + 1 + 2 * mA A k) s
  else if kA A k = 8 then σ (f + 1) s || σ (f + 24 + 1 + 2 * mA A k) s
  else if kA A k = 9 then σ (f + 17 + 1 + 2 * mA A k) s
  else σ (f + 1) s
/-- the places that a node writes, backwards -/
def wB (A : AP) (f k b : Nat) : Prop := (kA A k = 6 ∧ (b = f + 3 + 1 + 2 * mA A k ∨ b = f + 10 + 1 + 2 * mA A k)) ∨ (kA A k = 7 ∧ b = f + 10 + 1 + 2 * mA A k) ∨ (kA A k = 9 ∧ b = f + 24 + 1 + 2 * mA A k) ∨ (kA A k = 10 ∧ b = f + 17 + 1 + 2 * mA A k)
theorem bcel {A : AP} {f t k ck : Nat} {σ : SG} (k10 : kA A k ≤ 10) (m6 : 6 ≤ kA A k → mA A k < 3) (ht : t < f ∨ f + 40 ≤ t) (hs : usC A k → ∀ s, s < 216 → σ t s = tA A k s) :
    (∀ s, s < 216 → bstσ f (kA A k) (vA A k) (mA A k) t ck σ (f + 1) s = bnV A f ck k σ s) ∧
    (∀ b, b ≠ f + 1 → ¬ wB A f k b → bstσ f (kA A k) (vA A k) (mA A k) t ck σ b = σ b) ∧
    (kA A k = 7 → bstσ f (kA A k) (vA A k) (mA A k) t ck σ (f + 10 + 1 + 2 * mA A k) = σ (f + 1)) ∧
    (kA A k = 9 → bstσ f (kA A k) (vA A k) (mA A k) t ck σ (f + 24 + 1 + 2 * mA A k) = σ (f + 1)) ∧
    (kA A k = 10 → bstσ f (kA A k) (vA A k) (mA A k) t ck σ (f + 17 + 1 + 2 * mA A k) = σ (f + 1)) ∧
    (kA A k = 6 → ∀ s, s < 216 → bstσ f (kA A k) (vA A k) (mA A k) t ck σ (f + 3 + 1 + 2 * mA A k) s = (σ (f + 3 + 1 + 2 * mA A k) s || bnV A f ck k σ s)) ∧
    (kA A k = 6 → (bgr f (kA A k) (mA A k) t σ = true ↔ ∃ s, s < 216 ∧ bnV A f ck k σ s = true ∧ σ (f + 3 + 1 + 2 * mA A k) s = false)) := by
  have t1 : ¬ t = f + 1 := by omega
  rcases Nat.lt_or_ge (kA A k) 6 with q | q
  · have e : bstσ f (kA A k) (vA A k) (mA A k) t ck σ = bsiσ f (kA A k) (vA A k) (mA A k) t ck σ := by
      unfold bstσ
      rw [if_neg (by omega), if_neg (by omega)]
    rw [e]
    refine ⟨fun s h => ?_, fun b b1 b2 => ?_, fun h => absurd h (by omega), fun h => absurd h (by omega), fun h => absurd h (by omega), fun h => absurd h (by omega), fun h => absurd h (by omega)⟩
    · rw [bnV, if_pos (by omega)]
      rcases (show kA A k = 0 ∨ kA A k = 1 ∨ kA A k = 2 ∨ kA A k = 3 ∨ kA A k = 4 ∨ kA A k = 5 by omega) with q | q | q | q | q | q
      · have g := fr_cg (S := fun s => σ (f + 1) s && σ t s) (T := fun s => σ (f + 1) s && tA A k s) (v := vA A k) (fun x hx => by rw [hs (Or.inl q) x hx]) h
        simp only [bsiσ, bwS, q, metσ, upσ, if_true]
        rw [g]
        simp
      · simp [bsiσ, bwS, q, upσ]
      · simp [bsiσ, bwS, q, upσ]
      · simp [bsiσ, bwS, q, upσ]
      · simp [bsiσ, bwS, q, metσ, upσ, hs (Or.inr ⟨by omega, by omega⟩) s h]
      · by_cases c : mA A k = ck
        · have e1 : bsiσ f (kA A k) (vA A k) (mA A k) t ck σ = misσ σ (f + 1) t := by simp [bsiσ, q, c]
          rw [e1, misσ, upσ_self, decide_eq_true ⟨q, c⟩, hs (Or.inr ⟨by omega, by omega⟩) s h]
          have e2 : bwS A k (σ (f + 1)) s = (σ (f + 1) s && tA A k s) := by simp [bwS, q]
          rw [e2]
          cases σ (f + 1) s <;> cases tA A k s <;> rfl
        · have e1 : bsiσ f (kA A k) (vA A k) (mA A k) t ck σ = metσ σ (f + 1) t := by simp [bsiσ, q, c]
          rw [e1, metσ, upσ_self, decide_eq_false (fun z => c z.2), hs (Or.inr ⟨by omega, by omega⟩) s h]
          simp [bwS, q]
    · unfold bsiσ
      split
      · simp [metσ, upσ, b1]
      split
      · simp [upσ, b1]
      split
      · simp [upσ, b1]
      split
      · simp [upσ, b1]
      split
      · simp [misσ, upσ, b1]
      · simp [metσ, upσ, b1]
  · have m3 := m6 q
    rcases (show kA A k = 6 ∨ kA A k = 7 ∨ kA A k = 8 ∨ kA A k = 9 ∨ kA A k = 10 by omega) with c | c | c | c | c
    · have n1 : ¬ f + 1 = f + 3 + 1 + 2 * mA A k := by omega
      have n2 : ¬ f + 10 + 1 + 2 * mA A k = f + 1 := by omega
      have n3 : ¬ f + 1 = f + 10 + 1 + 2 * mA A k := by omega
      have n4 : ¬ t = f + 10 + 1 + 2 * mA A k := by omega
      have n5 : ¬ f + 3 + 1 + 2 * mA A k = f + 1 := by omega
      have n6 : ¬ f + 3 + 1 + 2 * mA A k = f + 10 + 1 + 2 * mA A k := by omega
      have e : bstσ f (kA A k) (vA A k) (mA A k) t ck σ = uniσ (blo6 f (mA A k) t σ) (f + 3 + 1 + 2 * mA A k) (f + 1) := by simp [bstσ, bloσ, c]
      have u1 : ∀ s, s < 216 → blo6 f (mA A k) t σ (f + 1) s = bnV A f ck k σ s := fun s h => by
        rw [bnV, if_neg (by omega), if_pos c]
        simp [blo6, uniσ, remσ, metσ, upσ, n3, n2, t1, n4, hs (Or.inr ⟨by omega, by omega⟩) s h]
      have u3 : blo6 f (mA A k) t σ (f + 3 + 1 + 2 * mA A k) = σ (f + 3 + 1 + 2 * mA A k) := by
        simp [blo6, uniσ, remσ, metσ, upσ, n5, n6]
      rw [e]
      refine ⟨fun s h => ?_, fun b b1 b2 => ?_, fun h => absurd h (by omega), fun h => absurd h (by omega), fun h => absurd h (by omega), fun _ s h => ?_, fun _ => ?_⟩
      · rw [uniσ, upσ_ne _ _ n1]; exact u1 s h
      · have b3 : ¬ b = f + 3 + 1 + 2 * mA A k := fun z => b2 (Or.inl ⟨c, Or.inl z⟩)
        have b4 : ¬ b = f + 10 + 1 + 2 * mA A k := fun z => b2 (Or.inl ⟨c, Or.inr z⟩)
        simp [uniσ, blo6, remσ, metσ, upσ, b1, b3, b4]
      · rw [uniσ, upσ_self, u3, u1 s h]
      · have e2 : bgr f (kA A k) (mA A k) t σ = newσ (blo6 f (mA A k) t σ) (f + 3 + 1 + 2 * mA A k) (f + 1) := by
          unfold bgr; rw [if_neg (by omega)]
        rw [e2, newσ, anyS_iff]
        constructor
        · rintro ⟨s, s1, s2⟩
          rw [u1 s s1, u3, Bool.and_eq_true] at s2
          exact ⟨s, s1, s2.1, by simpa using s2.2⟩
        · rintro ⟨s, s1, s2, s3⟩
          exact ⟨s, s1, by rw [u1 s s1, u3, s2, s3]; rfl⟩
    · have n1 : ¬ f + 3 + 1 + 2 * mA A k = f + 10 + 1 + 2 * mA A k := by omega
      have n2 : ¬ f + 10 + 1 + 2 * mA A k = f + 1 := by omega
      have e : bstσ f (kA A k) (vA A k) (mA A k) t ck σ = copσ (copσ σ (f + 10 + 1 + 2 * mA A k) (f + 1)) (f + 1) (f + 3 + 1 + 2 * mA A k) := by simp [bstσ, bloσ, c]
      rw [e]
      refine ⟨fun s h => ?_, fun b b1 b2 => ?_, fun _ => ?_, fun h => absurd h (by omega), fun h => absurd h (by omega), fun h => absurd h (by omega), fun h => absurd h (by omega)⟩
      · rw [bnV, if_neg (by omega), if_neg (by omega), if_pos c]
        simp [copσ, upσ, n1]
      · have b4 : ¬ b = f + 10 + 1 + 2 * mA A k := fun z => b2 (Or.inr (Or.inl ⟨c, z⟩))
        simp [copσ, upσ, b1, b4]
      · simp [copσ, upσ, n2]
    · have e : bstσ f (kA A k) (vA A k) (mA A k) t ck σ = uniσ σ (f + 1) (f + 24 + 1 + 2 * mA A k) := by simp [bstσ, bchσ, c]
      rw [e]
      refine ⟨fun s h => ?_, fun b b1 b2 => ?_, fun h => absurd h (by omega), fun h => absurd h (by omega), fun h => absurd h (by omega), fun h => absurd h (by omega), fun h => absurd h (by omega)⟩
      · rw [bnV, if_neg (by omega), if_neg (by omega), if_neg (by omega), if_pos c]
        simp [uniσ, upσ]
      · simp [uniσ, upσ, b1]
    · have n1 : ¬ f + 17 + 1 + 2 * mA A k = f + 24 + 1 + 2 * mA A k := by omega
      have n2 : ¬ f + 24 + 1 + 2 * mA A k = f + 1 := by omega
      have e : bstσ f (kA A k) (vA A k) (mA A k) t ck σ = copσ (copσ σ (f + 24 + 1 + 2 * mA A k) (f + 1)) (f + 1) (f + 17 + 1 + 2 * mA A k) := by simp [bstσ, bchσ, c]
      rw [e]
      refine ⟨fun s h => ?_, fun b b1 b2 => ?_, fun h => absurd h (by omega), fun _ => ?_, fun h => absurd h (by omega), fun h => absurd h (by omega), fun h => absurd h (by omega)⟩
      · rw [bnV, if_neg (by omega), if_neg (by omega), if_neg (by omega), if_neg (by omega), if_pos c]
        simp [copσ, upσ, n1]
      · have b4 : ¬ b = f + 24 + 1 + 2 * mA A k := fun z => b2 (Or.inr (Or.inr (Or.inl ⟨c, z⟩)))
        simp [copσ, upσ, b1, b4]
      · simp [copσ, upσ, n2]
    · have n2 : ¬ f + 17 + 1 + 2 * mA A k = f + 1 := by omega
      have n3 : ¬ f + 1 = f + 17 + 1 + 2 * mA A k := by omega
      have e : bstσ f (kA A k) (vA A k) (mA A k) t ck σ = copσ σ (f + 17 + 1 + 2 * mA A k) (f + 1) := by simp [bstσ, bchσ, c]
      rw [e]
      refine ⟨fun s h => ?_, fun b b1 b2 => ?_, fun h => absurd h (by omega), fun h => absurd h (by omega), fun _ => ?_, fun h => absurd h (by omega), fun h => absurd h (by omega)⟩
      · rw [bnV, if_neg (by omega), if_neg (by omega), if_neg (by omega), if_neg (by omega), if_neg (by omega)]
        simp [copσ, upσ, n3]
      · have b4 : ¬ b = f + 17 + 1 + 2 * mA A k := fun z => b2 (Or.inr (Or.inr (Or.inr ⟨c, z⟩)))
        simp [copσ, upσ, b4]
      · simp [copσ, upσ, n2]
