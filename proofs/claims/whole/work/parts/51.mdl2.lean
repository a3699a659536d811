/-! ===== the reference: its cells, its sets, its reading methods ===== -/
def mdF (G : GG) (R : Nat → Nat → Value) (m : Nat) : Prop := G m = some (.inl 12) ∧ (R m 0 = .ref (m + 1) ∧ G (m + 1) = some (.inr (.int, 60))) ∧ (R m 2 = .ref (m + 2) ∧ G (m + 2) = some (.inr (.int, 62))) ∧ (R m 3 = .ref (m + 3) ∧ G (m + 3) = some (.inr (.int, 62))) ∧ (R m 4 = .ref (m + 4) ∧ G (m + 4) = some (.inr (.int, 62))) ∧ (R m 5 = .ref (m + 5) ∧ G (m + 5) = some (.inr (.int, 62))) ∧ (R m 6 = .ref (m + 6) ∧ G (m + 6) = some (.inr (.int, 62))) ∧ (R m 7 = .ref (m + 7) ∧ G (m + 7) = some (.inr (.int, 62))) ∧ (R m 13 = .ref (m + 8) ∧ G (m + 8) = some (.inr (.int, 5))) ∧ (R m 14 = .ref (m + 9) ∧ G (m + 9) = some (.inr (.int, 5))) ∧ (R m 15 = .ref (m + 10) ∧ G (m + 10) = some (.inr (.int, 5))) ∧ (R m 16 = .ref (m + 11) ∧ G (m + 11) = some (.inr (.int, 62))) ∧ (R m 17 = .ref (m + 12) ∧ G (m + 12) = some (.inr (.int, 62))) ∧ (R m 18 = .ref (m + 13) ∧ G (m + 13) = some (.inr (.int, 62))) ∧ (R m 19 = .ref (m + 14) ∧ G (m + 14) = some (.inr (.int, 62))) ∧ (R m 20 = .ref (m + 15) ∧ G (m + 15) = some (.inr (.int, 62))) ∧ (R m 21 = .ref (m + 16) ∧ G (m + 16) = some (.inr (.int, 62))) ∧ (R m 27 = .ref (m + 17) ∧ G (m + 17) = some (.inr (.int, 5))) ∧ (R m 28 = .ref (m + 18) ∧ G (m + 18) = some (.inr (.int, 5))) ∧ (R m 29 = .ref (m + 19) ∧ G (m + 19) = some (.inr (.int, 5))) ∧ (R m 30 = .ref (m + 20) ∧ G (m + 20) = some (.inr (.int, 8))) ∧ (R m 33 = .ref (m + 21) ∧ G (m + 21) = some (.inr (.int, 4))) ∧ (R m 34 = .ref (m + 22) ∧ G (m + 22) = some (.inr (.int, 4))) ∧ (R m 35 = .ref (m + 23) ∧ G (m + 23) = some (.inr (.int, 56))) ∧ (R m 38 = .ref (m + 24) ∧ G (m + 24) = some (.inr (.int, 8))) ∧ (R m 39 = .ref (m + 25) ∧ G (m + 25) = some (.inr (.boolean, 2))) ∧ (R m 40 = .ref (m + 26) ∧ G (m + 26) = some (.inr (.int, 6))) ∧ (R m 41 = .ref (m + 27) ∧ G (m + 27) = some (.inr (.int, 6))) ∧ (R m 44 = .ref (m + 28) ∧ G (m + 28) = some (.inr (.long, 248))) ∧ (R m 45 = .ref (m + 29) ∧ G (m + 29) = some (.inr (.long, 248))) ∧ (R m 46 = .ref (m + 30) ∧ G (m + 30) = some (.inr (.int, 3))) ∧ (R m 47 = .ref (m + 31) ∧ G (m + 31) = some (.inr (.long, 4))) ∧ (R m 48 = .ref (m + 32) ∧ G (m + 32) = some (.inr (.int, 32)))
theorem md_text {G : GG} {R : Nat → Nat → Value} {m : Nat} (h : mdF G R m) : R m 0 = .ref (m + 1) ∧ G (m + 1) = some (.inr (.int, 60)) := h.2.1
theorem md_kind {G : GG} {R : Nat → Nat → Value} {m : Nat} (h : mdF G R m) : R m 2 = .ref (m + 2) ∧ G (m + 2) = some (.inr (.int, 62)) := h.2.2.1
theorem md_variable {G : GG} {R : Nat → Nat → Value} {m : Nat} (h : mdF G R m) : R m 3 = .ref (m + 3) ∧ G (m + 3) = some (.inr (.int, 62)) := h.2.2.2.1
theorem md_sign {G : GG} {R : Nat → Nat → Value} {m : Nat} (h : mdF G R m) : R m 4 = .ref (m + 4) ∧ G (m + 4) = some (.inr (.int, 62)) := h.2.2.2.2.1
theorem md_term {G : GG} {R : Nat → Nat → Value} {m : Nat} (h : mdF G R m) : R m 5 = .ref (m + 5) ∧ G (m + 5) = some (.inr (.int, 62)) := h.2.2.2.2.2.1
theorem md_number {G : GG} {R : Nat → Nat → Value} {m : Nat} (h : mdF G R m) : R m 6 = .ref (m + 6) ∧ G (m + 6) = some (.inr (.int, 62)) := h.2.2.2.2.2.2.1
theorem md_leads {G : GG} {R : Nat → Nat → Value} {m : Nat} (h : mdF G R m) : R m 7 = .ref (m + 7) ∧ G (m + 7) = some (.inr (.int, 62)) := h.2.2.2.2.2.2.2.1
theorem md_guessVariable {G : GG} {R : Nat → Nat → Value} {m : Nat} (h : mdF G R m) : R m 13 = .ref (m + 8) ∧ G (m + 8) = some (.inr (.int, 5)) := h.2.2.2.2.2.2.2.2.1
theorem md_guessSign {G : GG} {R : Nat → Nat → Value} {m : Nat} (h : mdF G R m) : R m 14 = .ref (m + 9) ∧ G (m + 9) = some (.inr (.int, 5)) := h.2.2.2.2.2.2.2.2.2.1
theorem md_guessTerm {G : GG} {R : Nat → Nat → Value} {m : Nat} (h : mdF G R m) : R m 15 = .ref (m + 10) ∧ G (m + 10) = some (.inr (.int, 5)) := h.2.2.2.2.2.2.2.2.2.2.1
theorem md_readKind {G : GG} {R : Nat → Nat → Value} {m : Nat} (h : mdF G R m) : R m 16 = .ref (m + 11) ∧ G (m + 11) = some (.inr (.int, 62)) := h.2.2.2.2.2.2.2.2.2.2.2.1
theorem md_readVariable {G : GG} {R : Nat → Nat → Value} {m : Nat} (h : mdF G R m) : R m 17 = .ref (m + 12) ∧ G (m + 12) = some (.inr (.int, 62)) := h.2.2.2.2.2.2.2.2.2.2.2.2.1
theorem md_readSign {G : GG} {R : Nat → Nat → Value} {m : Nat} (h : mdF G R m) : R m 18 = .ref (m + 13) ∧ G (m + 13) = some (.inr (.int, 62)) := h.2.2.2.2.2.2.2.2.2.2.2.2.2.1
theorem md_readTerm {G : GG} {R : Nat → Nat → Value} {m : Nat} (h : mdF G R m) : R m 19 = .ref (m + 14) ∧ G (m + 14) = some (.inr (.int, 62)) := h.2.2.2.2.2.2.2.2.2.2.2.2.2.2.1
theorem md_readNumber {G : GG} {R : Nat → Nat → Value} {m : Nat} (h : mdF G R m) : R m 20 = .ref (m + 15) ∧ G (m + 15) = some (.inr (.int, 62)) := h.2.2.2.2.2.2.2.2.2.2.2.2.2.2.2.1
theorem md_readLeads {G : GG} {R : Nat → Nat → Value} {m : Nat} (h : mdF G R m) : R m 21 = .ref (m + 16) ∧ G (m + 16) = some (.inr (.int, 62)) := h.2.2.2.2.2.2.2.2.2.2.2.2.2.2.2.2.1
theorem md_readGuessVariable {G : GG} {R : Nat → Nat → Value} {m : Nat} (h : mdF G R m) : R m 27 = .ref (m + 17) ∧ G (m + 17) = some (.inr (.int, 5)) := h.2.2.2.2.2.2.2.2.2.2.2.2.2.2.2.2.2.1
theorem md_readGuessSign {G : GG} {R : Nat → Nat → Value} {m : Nat} (h : mdF G R m) : R m 28 = .ref (m + 18) ∧ G (m + 18) = some (.inr (.int, 5)) := h.2.2.2.2.2.2.2.2.2.2.2.2.2.2.2.2.2.2.1
theorem md_readGuessTerm {G : GG} {R : Nat → Nat → Value} {m : Nat} (h : mdF G R m) : R m 29 = .ref (m + 19) ∧ G (m + 19) = some (.inr (.int, 5)) := h.2.2.2.2.2.2.2.2.2.2.2.2.2.2.2.2.2.2.2.1
theorem md_open {G : GG} {R : Nat → Nat → Value} {m : Nat} (h : mdF G R m) : R m 30 = .ref (m + 20) ∧ G (m + 20) = some (.inr (.int, 8)) := h.2.2.2.2.2.2.2.2.2.2.2.2.2.2.2.2.2.2.2.2.1
theorem md_now {G : GG} {R : Nat → Nat → Value} {m : Nat} (h : mdF G R m) : R m 33 = .ref (m + 21) ∧ G (m + 21) = some (.inr (.int, 4)) := h.2.2.2.2.2.2.2.2.2.2.2.2.2.2.2.2.2.2.2.2.2.1
theorem md_trial {G : GG} {R : Nat → Nat → Value} {m : Nat} (h : mdF G R m) : R m 34 = .ref (m + 22) ∧ G (m + 22) = some (.inr (.int, 4)) := h.2.2.2.2.2.2.2.2.2.2.2.2.2.2.2.2.2.2.2.2.2.2.1
theorem md_diary {G : GG} {R : Nat → Nat → Value} {m : Nat} (h : mdF G R m) : R m 35 = .ref (m + 23) ∧ G (m + 23) = some (.inr (.int, 56)) := h.2.2.2.2.2.2.2.2.2.2.2.2.2.2.2.2.2.2.2.2.2.2.2.1
theorem md_kept {G : GG} {R : Nat → Nat → Value} {m : Nat} (h : mdF G R m) : R m 38 = .ref (m + 24) ∧ G (m + 24) = some (.inr (.int, 8)) := h.2.2.2.2.2.2.2.2.2.2.2.2.2.2.2.2.2.2.2.2.2.2.2.2.1
theorem md_isKept {G : GG} {R : Nat → Nat → Value} {m : Nat} (h : mdF G R m) : R m 39 = .ref (m + 25) ∧ G (m + 25) = some (.inr (.boolean, 2)) := h.2.2.2.2.2.2.2.2.2.2.2.2.2.2.2.2.2.2.2.2.2.2.2.2.2.1
theorem md_seenCheck {G : GG} {R : Nat → Nat → Value} {m : Nat} (h : mdF G R m) : R m 40 = .ref (m + 26) ∧ G (m + 26) = some (.inr (.int, 6)) := h.2.2.2.2.2.2.2.2.2.2.2.2.2.2.2.2.2.2.2.2.2.2.2.2.2.2.1
theorem md_seenWas {G : GG} {R : Nat → Nat → Value} {m : Nat} (h : mdF G R m) : R m 41 = .ref (m + 27) ∧ G (m + 27) = some (.inr (.int, 6)) := h.2.2.2.2.2.2.2.2.2.2.2.2.2.2.2.2.2.2.2.2.2.2.2.2.2.2.2.1
theorem md_comes {G : GG} {R : Nat → Nat → Value} {m : Nat} (h : mdF G R m) : R m 44 = .ref (m + 28) ∧ G (m + 28) = some (.inr (.long, 248)) := h.2.2.2.2.2.2.2.2.2.2.2.2.2.2.2.2.2.2.2.2.2.2.2.2.2.2.2.2.1
theorem md_fresh {G : GG} {R : Nat → Nat → Value} {m : Nat} (h : mdF G R m) : R m 45 = .ref (m + 29) ∧ G (m + 29) = some (.inr (.long, 248)) := h.2.2.2.2.2.2.2.2.2.2.2.2.2.2.2.2.2.2.2.2.2.2.2.2.2.2.2.2.2.1
theorem md_has {G : GG} {R : Nat → Nat → Value} {m : Nat} (h : mdF G R m) : R m 46 = .ref (m + 30) ∧ G (m + 30) = some (.inr (.int, 3)) := h.2.2.2.2.2.2.2.2.2.2.2.2.2.2.2.2.2.2.2.2.2.2.2.2.2.2.2.2.2.2.1
theorem md_mays {G : GG} {R : Nat → Nat → Value} {m : Nat} (h : mdF G R m) : R m 47 = .ref (m + 31) ∧ G (m + 31) = some (.inr (.long, 4)) := h.2.2.2.2.2.2.2.2.2.2.2.2.2.2.2.2.2.2.2.2.2.2.2.2.2.2.2.2.2.2.2.1
theorem md_worth {G : GG} {R : Nat → Nat → Value} {m : Nat} (h : mdF G R m) : R m 48 = .ref (m + 32) ∧ G (m + 32) = some (.inr (.int, 32)) := h.2.2.2.2.2.2.2.2.2.2.2.2.2.2.2.2.2.2.2.2.2.2.2.2.2.2.2.2.2.2.2.2
/-- a program by itself: length; kinds, variables, conditions, numbers, partners -/
abbrev AP : Type := Nat × (Nat → Nat) × (Nat → Nat) × (Nat → CND) × (Nat → Nat) × (Nat → Nat)
def nA (A : AP) : Nat := A.1
def kA (A : AP) (k : Nat) : Nat := A.2.1 k
def vA (A : AP) (k : Nat) : Nat := A.2.2.1 k
def cA (A : AP) (k : Nat) : CND := A.2.2.2.1 k
def mA (A : AP) (k : Nat) : Nat := A.2.2.2.2.1 k
def lA (A : AP) (k : Nat) : Nat := A.2.2.2.2.2 k
/-- the reference holds the program -/
def mpW (M : MM) (m : Nat) (Q : AP) : Prop := nA Q ≤ 60 ∧ M.1 m 8 = nI (nA Q) ∧ ∀ k, k < nA Q → M.1 (m + 2) k = nI (kA Q k) ∧ M.1 (m + 3) k = nI (vA Q k) ∧ M.1 (m + 4) k = nI (cA Q k).2.1 ∧ M.1 (m + 5) k = nI (cA Q k).2.2 ∧ M.1 (m + 6) k = nI (mA Q k) ∧ M.1 (m + 7) k = nI (lA Q k)
def okM (Q : AP) : Prop := ∀ k, k < nA Q → kA Q k ≤ 10 ∧ (kA Q k ≤ 6 → vA Q k < 3 ∧ (cA Q k).1 = vA Q k) ∧ (kA Q k = 0 → (cA Q k).2.2 < 9) ∧ (4 ≤ kA Q k → kA Q k ≤ 6 → cndOk (cA Q k)) ∧ (6 ≤ kA Q k → kA Q k ≤ 9 → lA Q k ≤ nA Q) ∧ (kA Q k = 5 → mA Q k < 4) ∧ (kA Q k = 6 → mA Q k < 3)
/-- the guesses: how many, which -/
abbrev GC : Type := Nat × (Nat → CND)
def mgW (M : MM) (m : Nat) (V : GC) : Prop := V.1 ≤ 5 ∧ M.1 m 12 = nI V.1 ∧ ∀ g, g < V.1 → M.1 (m + 8) g = nI (V.2 g).1 ∧ M.1 (m + 9) g = nI (V.2 g).2.1 ∧ M.1 (m + 10) g = nI (V.2 g).2.2 ∧ cndOk (V.2 g)
/-- a word of 54 states -/
def encW (S : ST) (w : Nat) : Int64 := lN (enN S (54 * w) 54)
def addS (S : ST) (s : Nat) : ST := fun x => S x || decide (x = s)
/-- sets of states at the nodes -/
abbrev NS : Type := Nat → ST
def adC (C : NS) (k s : Nat) : NS := fun j => if j = k then addS (C k) s else C j
/-- the memory with the sets C that have come and the fresh ones F -/
def wCF (M : MM) (m : Nat) (C F : NS) : MM := (M.1, (fun b j => if b = m + 28 ∧ j < 248 then encW (C (j / 4)) (j % 4) else if b = m + 29 ∧ j < 248 then encW (F (j / 4)) (j % 4) else M.2.1 b j), M.2.2)
theorem wCF_c {M : MM} {m : Nat} {C F : NS} {k w : Nat} (hk : k < 62) (hw : w < 4) : (wCF M m C F).2.1 (m + 28) (4 * k + w) = encW (C k) w := by
  show (if m + 28 = m + 28 ∧ 4 * k + w < 248 then _ else _) = _
  rw [if_pos ⟨rfl, by omega⟩, show (4 * k + w) / 4 = k by omega, show (4 * k + w) % 4 = w by omega]
theorem wCF_f {M : MM} {m : Nat} {C F : NS} {k w : Nat} (hk : k < 62) (hw : w < 4) : (wCF M m C F).2.1 (m + 29) (4 * k + w) = encW (F k) w := by
  show (if m + 29 = m + 28 ∧ 4 * k + w < 248 then _ else if m + 29 = m + 29 ∧ 4 * k + w < 248 then _ else _) = _
  rw [if_neg (by omega), if_pos ⟨rfl, by omega⟩, show (4 * k + w) / 4 = k by omega, show (4 * k + w) % 4 = w by omega]
theorem encW_congr {S T : ST} {w : Nat} (h : ∀ s, s / 54 = w → S s = T s) : encW S w = encW T w := by
  unfold encW
  congr 1
  exact enN_congr (fun i hi => h _ (by omega))
theorem encW_lt (S : ST) (w : Nat) : enN S (54 * w) 54 < 2 ^ 54 := enN_lt _ _ _
theorem encW_add (S : ST) (s : Nat) : encW S (s / 54) ||| lN (2 ^ (s % 54)) = encW (addS S s) (s / 54) := by
  unfold encW
  rw [fb_orL]
  congr 1
  refine enN_eq (fun i => ?_)
  rw [Nat.testBit_or, enN_bit, Nat.testBit_two_pow]
  unfold addS
  by_cases hi : i < 54
  · have e : decide (s % 54 = i) = decide (54 * (s / 54) + i = s) := decide_eq_decide.mpr ⟨fun q => by omega, fun q => by omega⟩
    simp [hi, e]
  · have e : ¬ s % 54 = i := by omega
    simp [hi, e]
theorem wCF_setC {M : MM} {m : Nat} {C F : NS} {k s : Nat} (hs : s < 216) (hk : k < 62) {x : Int64} (hx : x = encW (addS (C k) s) (s / 54)) : sL (wCF M m C F) (m + 28) (4 * k + s / 54) x = wCF M m (adC C k s) F := by
  subst hx
  show (M.1, _, M.2.2) = (M.1, _, M.2.2)
  congr 2
  funext b j
  unfold up2
  by_cases h : b = m + 28 ∧ j = 4 * k + s / 54
  · obtain ⟨rfl, rfl⟩ := h
    rw [if_pos ⟨rfl, rfl⟩]
    have h2 : 4 * k + s / 54 < 248 := by omega
    rw [if_pos ⟨rfl, h2⟩, show (4 * k + s / 54) / 4 = k by omega, show (4 * k + s / 54) % 4 = s / 54 by omega]
    unfold adC
    rw [if_pos rfl]
  · rw [if_neg h]
    show (wCF M m C F).2.1 b j = _
    by_cases h2 : b = m + 28 ∧ j < 248
    · simp only [wCF, if_pos h2]
      refine encW_congr (fun t ht => ?_)
      unfold adC
      split
      · rename_i e
        rw [e]
        unfold addS
        have : ¬ t = s := fun q => h ⟨h2.1, by omega⟩
        simp [this]
      · rfl
    · simp only [wCF, if_neg h2]
theorem wCF_setF {M : MM} {m : Nat} {C F : NS} {k s : Nat} (hs : s < 216) (hk : k < 62) {x : Int64} (hx : x = encW (addS (F k) s) (s / 54)) : sL (wCF M m C F) (m + 29) (4 * k + s / 54) x = wCF M m C (adC F k s) := by
  subst hx
  show (M.1, _, M.2.2) = (M.1, _, M.2.2)
  congr 2
  funext b j
  unfold up2
  by_cases h : b = m + 29 ∧ j = 4 * k + s / 54
  · obtain ⟨rfl, rfl⟩ := h
    have h2 : 4 * k + s / 54 < 248 := by omega
    rw [if_pos ⟨rfl, rfl⟩, if_neg (by omega), if_pos ⟨rfl, h2⟩, show (4 * k + s / 54) / 4 = k by omega, show (4 * k + s / 54) % 4 = s / 54 by omega]
    unfold adC
    rw [if_pos rfl]
  · rw [if_neg h]
    show (wCF M m C F).2.1 b j = _
    by_cases h1 : b = m + 28 ∧ j < 248
    · simp only [wCF, if_pos h1]
    · by_cases h2 : b = m + 29 ∧ j < 248
      · simp only [wCF, if_neg h1, if_pos h2]
        refine encW_congr (fun t ht => ?_)
        unfold adC
        split
        · rename_i e
          rw [e]
          unfold addS
          have : ¬ t = s := fun q => h ⟨h2.1, by omega⟩
          simp [this]
        · rfl
      · simp only [wCF, if_neg h1, if_neg h2]
theorem sL_same (M : MM) (a k : Nat) {x : Int64} (h : M.2.1 a k = x) : sL M a k x = M := by
  show (M.1, _, M.2.2) = (M.1, M.2.1, M.2.2)
  congr 2
  funext b j
  unfold up2
  split
  · rename_i e; rw [e.1, e.2]; exact h.symm
  · rfl
theorem smod54 : ∀ k, k < 64 → (((nI k).toInt64 &&& 63).toBitVec.smod 64).toNat = k := by decide +kernel
theorem encW_bit (S : ST) {s : Nat} (hs : s < 216) : (encW S (s / 54) >>> ((nI (s % 54)).toInt64 &&& 63)) &&& 1 = lN (if S s then 1 else 0) := by
  unfold encW
  rw [pf_shr (smod54 (s % 54) (by omega)) (Nat.lt_trans (enN_lt _ _ _) (by decide)), wb_a1 (Nat.lt_of_le_of_lt (Nat.div_le_self _ _) (Nat.lt_trans (enN_lt _ _ _) (by decide)))]
  congr 1
  have e : (enN S (54 * (s / 54)) 54).testBit (s % 54) = S s := by
    rw [enN_bit, show 54 * (s / 54) + s % 54 = s by omega]
    simp [show s % 54 < 54 by omega]
  rw [← e, Nat.testBit_eq_decide_div_mod_eq]
  rcases Nat.mod_two_eq_zero_or_one (enN S (54 * (s / 54)) 54 / 2 ^ (s % 54)) with q | q <;> simp [q]
theorem sh54 : ∀ k, k < 54 → (1 : Int64) <<< ((nI k).toInt64 &&& 63) = lN (2 ^ k) := by decide +kernel
theorem c_X12_isThere {Γ : GT} {G : GG} {M : MM} {m : Nat} {C F : NS} (hF : mdF G M.2.2 m) {k s : Nat} (hk : k < 62) (hs : s < 216) : Calls Γ q_X12_isThere [.ref m, .int (nI k), .int (nI s)] G (wCF M m C F) (rI (fun y M' => y = b2i (C k s) ∧ M' = wCF M m C F)) := by
  refine Calls.intro (by decide +kernel) (Nat.le_of_ble_eq_true rfl) (fun z E h hQ => ?_)
  refine x_loc (L' := [some (.ref m), some (.int (nI k)), some (.int (nI s))]) rfl ?_
  refine x_aload_n h dX12_isThere_0 rfl ?_
  refine x_getR h hF.1 f_X12_92 rfl (md_comes hF).1 dX12_isThere_1 ?_
  refine x_in4 h dX12_isThere_4 ?_
  refine x_iload_n h dX12_isThere_5 rfl ?_
  refine x_imuln h  dX12_isThere_6 ?_
  refine x_iload_n h dX12_isThere_7 rfl ?_
  refine x_bipush h (nI 54) (by decide) dX12_isThere_8 ?_
  refine x_idivn h ⟨by omega, by decide, by decide⟩ dX12_isThere_10 ?_
  refine x_iaddn h  dX12_isThere_11 ?_
  refine x_laldv h (4 * k + s / 54) (md_comes hF).2 (ix.ni (j := 4 * k + s / 54) (by omega) (by decide)) (wCF_c hk (by omega)) dX12_isThere_12 ?_
  refine x_iload_n h dX12_isThere_13 rfl ?_
  refine x_bipush h (nI 54) (by decide) dX12_isThere_14 ?_
  refine x_iremn h ⟨by omega, by decide, by decide⟩ dX12_isThere_16 ?_
  refine x_lshr h dX12_isThere_17 ?_
  refine x_lc1 h dX12_isThere_18 ?_
  refine x_land h dX12_isThere_19 ?_
  refine x_topl (encW_bit (C k) hs) ?_
  refine x_lc1 h dX12_isThere_20 ?_
  refine x_lcmp h dX12_isThere_21 ?_
  refine x_if_ne h 29 dX12_isThere_22 (by decide) (fun c22 => ?_) (fun c22 => ?_)
  · have e : C k s = false := by
      cases hx : C k s with
      | false => rfl
      | true => rw [hx] at c22; exact absurd ((lg_cmp_eq _ _).mpr rfl) c22
    refine x_ic0 h dX12_isThere_29 ?_
    exact x_zret h hQ rfl (by decide) dX12_isThere_30 ⟨rfl, rfl, _, rfl, b2i_f e, rfl⟩
  · have e : C k s = true := by
      cases hx : C k s with
      | true => rfl
      | false => rw [hx] at c22; exact absurd ((lg_cmp_eq _ _).mp c22) (by decide)
    refine x_ic1 h dX12_isThere_25 ?_
    refine x_goto h 30 dX12_isThere_26 (by decide) ?_
    exact x_zret h hQ rfl (by decide) dX12_isThere_30 ⟨rfl, rfl, _, rfl, b2i_t e, rfl⟩
theorem lor0 (x : Int64) : x ||| 0 = x := Int64.or_zero
def putP (k s : Nat) (x : NS × NS) : NS × NS := (adC x.1 k s, if x.1 k s then x.2 else adC x.2 k s)
theorem c_X12_put {Γ : GT} {G : GG} {M : MM} {m : Nat} {C F : NS} (hF : mdF G M.2.2 m) {k s : Nat} (hk : k < 62) (hs : s < 216) : Calls Γ q_X12_put [.ref m, .int (nI k), .int (nI s)] G (wCF M m C F) (rI (fun y M' => y = b2i (!C k s) ∧ M' = wCF M m (putP k s (C, F)).1 (putP k s (C, F)).2)) := by
  refine Calls.intro (by decide +kernel) (Nat.le_of_ble_eq_true rfl) (fun z E h hQ => ?_)
  refine x_loc (L' := [some (.ref m), some (.int (nI k)), some (.int (nI s)), none]) rfl ?_
  refine x_aload_n h dX12_put_0 rfl ?_
  refine x_iload_n h dX12_put_1 rfl ?_
  refine x_iload_n h dX12_put_2 rfl ?_
  refine x_cVi h ci_X12_isThere im_X12_isThere l_X12_246 ⟨Nat.le_of_ble_eq_true rfl, Nat.le_of_ble_eq_true rfl⟩ ⟨rfl, rfl⟩ ⟨Nat.zero_le _, Nat.zero_le _⟩ (c_X12_isThere hF hk hs) rfl rfl rfl rfl hF.1 (by decide) rfl dX12_put_3 (fun v3 M3 hp3 => ?_)
  obtain ⟨rfl, hM⟩ := hp3
  obtain rfl := hM.symm
  clear hM
  refine x_if_ne h 13 dX12_put_6 (by decide) (fun c6 => ?_) (fun c6 => ?_)
  · have e := bool_nf (fun q => c6 (b2i_0.mpr q))
    refine x_ic0 h dX12_put_13 ?_
    refine x_istore_n h dX12_put_14 rfl rfl ?_
    dsimp only [List.set]
    refine x_aload_n h dX12_put_15 rfl ?_
    refine x_getR h hF.1 f_X12_92 rfl (md_comes hF).1 dX12_put_16 ?_
    refine x_in4 h dX12_put_19 ?_
    refine x_iload_n h dX12_put_20 rfl ?_
    refine x_imuln h  dX12_put_21 ?_
    refine x_iload_n h dX12_put_22 rfl ?_
    refine x_bipush h (nI 54) (by decide) dX12_put_23 ?_
    refine x_idivn h ⟨by omega, by decide, by decide⟩ dX12_put_25 ?_
    refine x_iaddn h  dX12_put_26 ?_
    refine x_dup2 h rfl rfl dX12_put_27 ?_
    refine x_laldv h (4 * k + s / 54) (md_comes hF).2 (ix.ni (j := 4 * k + s / 54) (by omega) (by decide)) (wCF_c hk (by omega)) dX12_put_28 ?_
    refine x_lc1 h dX12_put_29 ?_
    refine x_iload_n h dX12_put_30 rfl ?_
    refine x_bipush h (nI 54) (by decide) dX12_put_31 ?_
    refine x_iremn h ⟨by omega, by decide, by decide⟩ dX12_put_33 ?_
    refine x_lshl h dX12_put_34 ?_
    refine x_topl (sh54 (s % 54) (by omega)) ?_
    refine x_lor h dX12_put_35 ?_
    refine x_last h (4 * k + s / 54) (md_comes hF).2 (ix.ni (j := 4 * k + s / 54) (by omega) (by decide)) dX12_put_36 ?_
    refine x_mem (wCF_setC hs hk (encW_add (C k) s)) ?_
    refine x_aload_n h dX12_put_37 rfl ?_
    refine x_getR h hF.1 f_X12_96 rfl (md_fresh hF).1 dX12_put_38 ?_
    refine x_in4 h dX12_put_41 ?_
    refine x_iload_n h dX12_put_42 rfl ?_
    refine x_imuln h  dX12_put_43 ?_
    refine x_iload_n h dX12_put_44 rfl ?_
    refine x_bipush h (nI 54) (by decide) dX12_put_45 ?_
    refine x_idivn h ⟨by omega, by decide, by decide⟩ dX12_put_47 ?_
    refine x_iaddn h  dX12_put_48 ?_
    refine x_dup2 h rfl rfl dX12_put_49 ?_
    refine x_laldv h (4 * k + s / 54) (md_fresh hF).2 (ix.ni (j := 4 * k + s / 54) (by omega) (by decide)) (wCF_f hk (by omega)) dX12_put_50 ?_
    refine x_iload_n h dX12_put_51 rfl ?_
    refine x_if_eq h 64 dX12_put_52 (by decide) (fun c52 => ?_) (fun c52 => ?_)
    · refine x_lc0 h dX12_put_64 ?_
      refine x_lor h dX12_put_65 ?_
      refine x_last h (4 * k + s / 54) (md_fresh hF).2 (ix.ni (j := 4 * k + s / 54) (by omega) (by decide)) dX12_put_66 ?_
      refine x_mem (sL_same _ _ _ (by rw [lor0]; exact wCF_f hk (by omega))) ?_
      refine x_iload_n h dX12_put_67 rfl ?_
      exact x_zret h hQ rfl (by decide) dX12_put_68 ⟨rfl, rfl, _, rfl, by rw [e]; rfl, by simp only [putP, e]; rfl⟩
    · exact absurd c52 (by decide)
  · have e := b2i_0.mp c6
    refine x_ic1 h dX12_put_9 ?_
    refine x_goto h 14 dX12_put_10 (by decide) ?_
    refine x_istore_n h dX12_put_14 rfl rfl ?_
    dsimp only [List.set]
    refine x_aload_n h dX12_put_15 rfl ?_
    refine x_getR h hF.1 f_X12_92 rfl (md_comes hF).1 dX12_put_16 ?_
    refine x_in4 h dX12_put_19 ?_
    refine x_iload_n h dX12_put_20 rfl ?_
    refine x_imuln h  dX12_put_21 ?_
    refine x_iload_n h dX12_put_22 rfl ?_
    refine x_bipush h (nI 54) (by decide) dX12_put_23 ?_
    refine x_idivn h ⟨by omega, by decide, by decide⟩ dX12_put_25 ?_
    refine x_iaddn h  dX12_put_26 ?_
    refine x_dup2 h rfl rfl dX12_put_27 ?_
    refine x_laldv h (4 * k + s / 54) (md_comes hF).2 (ix.ni (j := 4 * k + s / 54) (by omega) (by decide)) (wCF_c hk (by omega)) dX12_put_28 ?_
    refine x_lc1 h dX12_put_29 ?_
    refine x_iload_n h dX12_put_30 rfl ?_
    refine x_bipush h (nI 54) (by decide) dX12_put_31 ?_
    refine x_iremn h ⟨by omega, by decide, by decide⟩ dX12_put_33 ?_
    refine x_lshl h dX12_put_34 ?_
    refine x_topl (sh54 (s % 54) (by omega)) ?_
    refine x_lor h dX12_put_35 ?_
    refine x_last h (4 * k + s / 54) (md_comes hF).2 (ix.ni (j := 4 * k + s / 54) (by omega) (by decide)) dX12_put_36 ?_
    refine x_mem (wCF_setC hs hk (encW_add (C k) s)) ?_
    refine x_aload_n h dX12_put_37 rfl ?_
    refine x_getR h hF.1 f_X12_96 rfl (md_fresh hF).1 dX12_put_38 ?_
    refine x_in4 h dX12_put_41 ?_
    refine x_iload_n h dX12_put_42 rfl ?_
    refine x_imuln h  dX12_put_43 ?_
    refine x_iload_n h dX12_put_44 rfl ?_
    refine x_bipush h (nI 54) (by decide) dX12_put_45 ?_
    refine x_idivn h ⟨by omega, by decide, by decide⟩ dX12_put_47 ?_
    refine x_iaddn h  dX12_put_48 ?_
    refine x_dup2 h rfl rfl dX12_put_49 ?_
    refine x_laldv h (4 * k + s / 54) (md_fresh hF).2 (ix.ni (j := 4 * k + s / 54) (by omega) (by decide)) (wCF_f hk (by omega)) dX12_put_50 ?_
    refine x_iload_n h dX12_put_51 rfl ?_
    refine x_if_eq h 64 dX12_put_52 (by decide) (fun c52 => ?_) (fun c52 => ?_)
    · exact absurd c52 (by decide)
    · refine x_lc1 h dX12_put_55 ?_
      refine x_iload_n h dX12_put_56 rfl ?_
      refine x_bipush h (nI 54) (by decide) dX12_put_57 ?_
      refine x_iremn h ⟨by omega, by decide, by decide⟩ dX12_put_59 ?_
      refine x_lshl h dX12_put_60 ?_
      refine x_topl (sh54 (s % 54) (by omega)) ?_
      refine x_goto h 65 dX12_put_61 (by decide) ?_
      refine x_lor h dX12_put_65 ?_
      refine x_last h (4 * k + s / 54) (md_fresh hF).2 (ix.ni (j := 4 * k + s / 54) (by omega) (by decide)) dX12_put_66 ?_
      refine x_mem (wCF_setF hs hk (encW_add (F k) s)) ?_
      refine x_iload_n h dX12_put_67 rfl ?_
      exact x_zret h hQ rfl (by decide) dX12_put_68 ⟨rfl, rfl, _, rfl, by rw [e]; rfl, by simp only [putP, e]; rfl⟩
theorem c_X12_manyAt {Γ : GT} {G : GG} {M : MM} {m : Nat} {C F : NS} (hF : mdF G M.2.2 m) {k : Nat} (hk : k < 62) : Calls Γ q_X12_manyAt [.ref m, .int (nI k)] G (wCF M m C F) (rI (fun y M' => y = nI (fb_ct (C k) 216) ∧ M' = wCF M m C F)) := by
  refine Calls.intro (by decide +kernel) (Nat.le_of_ble_eq_true rfl) (fun z E h hQ => ?_)
  refine x_loc (L' := [some (.ref m), some (.int (nI k)), none, none]) rfl ?_
  have loop : ∀ i, i ≤ 216 → X Γ E 0 0 G z (wCF M m C F) 4 [some (.ref m), some (.int (nI k)), some (.int (nI (fb_ct (C k) i))), some (.int (nI i))] [] := by
    refine upto 216 (fun i hi ih => ?_)
    refine x_iload_n h dX12_manyAt_4 rfl ?_
    refine x_sipush h (nI 216) (by decide) dX12_manyAt_5 ?_
    refine x_icmp_ge h 34 dX12_manyAt_8 (by decide) (fun c8 => ?_) (fun c8 => ?_)
    · obtain rfl : i = 216 := up_ge (by decide) hi c8
      refine x_iload_n h dX12_manyAt_34 rfl ?_
      exact x_iret h hQ rfl dX12_manyAt_35 ⟨rfl, rfl, _, rfl, rfl, rfl⟩
    · have hlt : i < 216 := up_lt (by decide) hi c8
      refine x_iload_n h dX12_manyAt_11 rfl ?_
      refine x_aload_n h dX12_manyAt_12 rfl ?_
      refine x_iload_n h dX12_manyAt_13 rfl ?_
      refine x_iload_n h dX12_manyAt_14 rfl ?_
      refine x_cVi h ci_X12_isThere im_X12_isThere l_X12_246 ⟨Nat.le_of_ble_eq_true rfl, Nat.le_of_ble_eq_true rfl⟩ ⟨rfl, rfl⟩ ⟨Nat.zero_le _, Nat.zero_le _⟩ (c_X12_isThere hF hk hlt) rfl rfl rfl rfl hF.1 (by decide) rfl dX12_manyAt_15 (fun v15 M15 hp15 => ?_)
      obtain ⟨rfl, hM⟩ := hp15
      obtain rfl := hM.symm
      clear hM
      refine x_if_eq h 25 dX12_manyAt_18 (by decide) (fun c18 => ?_) (fun c18 => ?_)
      · have e := b2i_0.mp c18
        refine x_in0 h dX12_manyAt_25 ?_
        refine x_iaddn h  dX12_manyAt_26 ?_
        refine x_topi (y := nI (fb_ct (C k) (i + 1))) (by rw [fb_ct_succ, e]; rfl) ?_
        refine x_istore_n h dX12_manyAt_27 rfl rfl ?_
        dsimp only [List.set]
        refine x_incn h dX12_manyAt_28 rfl rfl rfl ?_
        dsimp only [List.set]
        refine x_goto h 4 dX12_manyAt_31 (by decide) ?_
        exact ih hlt
      · have e := bool_nf (fun q => c18 (b2i_0.mpr q))
        refine x_in1 h dX12_manyAt_21 ?_
        refine x_goto h 26 dX12_manyAt_22 (by decide) ?_
        refine x_iaddn h  dX12_manyAt_26 ?_
        refine x_topi (y := nI (fb_ct (C k) (i + 1))) (by rw [fb_ct_succ, e]; rfl) ?_
        refine x_istore_n h dX12_manyAt_27 rfl rfl ?_
        dsimp only [List.set]
        refine x_incn h dX12_manyAt_28 rfl rfl rfl ?_
        dsimp only [List.set]
        refine x_goto h 4 dX12_manyAt_31 (by decide) ?_
        exact ih hlt
  refine x_in0 h dX12_manyAt_0 ?_
  refine x_istore_n h dX12_manyAt_1 rfl rfl ?_
  dsimp only [List.set]
  refine x_in0 h dX12_manyAt_2 ?_
  refine x_istore_n h dX12_manyAt_3 rfl rfl ?_
  dsimp only [List.set]
  exact loop 0 (Nat.zero_le _)
theorem c_X12_isSo {Γ : GT} {G : GG} {M : MM} {m : Nat} (hF : mdF G M.2.2 m) {Q : AP} (hP : mpW M m Q) (hO : okM Q) {k s : Nat} (hk : k < nA Q) (hs : s < 216) (h4 : 4 ≤ kA Q k) (h6 : kA Q k ≤ 6) : Calls Γ q_X12_isSo [.ref m, .int (nI k), .int (nI s)] G M (rI (fun y M' => y = b2i (cndT (cA Q k) s) ∧ M' = M)) := by
  obtain ⟨q60, qn, qk⟩ := hP
  obtain ⟨q1, q2, q3, q4, q5, q6⟩ := qk k hk
  obtain ⟨o1, o2, o3, o4, o5, o6, o7⟩ := hO k hk
  rw [← (o2 h6).2] at q2
  refine Calls.intro (by decide +kernel) (Nat.le_of_ble_eq_true rfl) (fun z E h hQ => ?_)
  refine x_loc (L' := [some (.ref m), some (.int (nI k)), some (.int (nI s))]) rfl ?_
  refine x_iload_n h dX12_isSo_0 rfl ?_
  refine x_aload_n h dX12_isSo_1 rfl ?_
  refine x_getR h hF.1 f_X12_16 rfl (md_variable hF).1 dX12_isSo_2 ?_
  refine x_iload_n h dX12_isSo_5 rfl ?_
  refine x_ialdv h k (md_variable hF).2 (ix.ni (j := k) (by omega) (by decide)) q2 dX12_isSo_6 ?_
  refine x_aload_n h dX12_isSo_7 rfl ?_
  refine x_getR h hF.1 f_X12_19 rfl (md_sign hF).1 dX12_isSo_8 ?_
  refine x_iload_n h dX12_isSo_11 rfl ?_
  refine x_ialdv h k (md_sign hF).2 (ix.ni (j := k) (by omega) (by decide)) q3 dX12_isSo_12 ?_
  refine x_aload_n h dX12_isSo_13 rfl ?_
  refine x_getR h hF.1 f_X12_22 rfl (md_term hF).1 dX12_isSo_14 ?_
  refine x_iload_n h dX12_isSo_17 rfl ?_
  refine x_ialdv h k (md_term hF).2 (ix.ni (j := k) (by omega) (by decide)) q4 dX12_isSo_18 ?_
  refine x_cSi h ci_X12_compares sm_X12_compares l_X12_232 ⟨Nat.le_of_ble_eq_true rfl, Nat.le_of_ble_eq_true rfl⟩ ⟨rfl, rfl⟩ ⟨Nat.zero_le _, Nat.zero_le _⟩ (c_X12_compares hs (o4 h4 h6)) rfl rfl rfl rfl dX12_isSo_19 (fun v19 M19 hp19 => ?_)
  obtain ⟨rfl, hM⟩ := hp19
  obtain rfl := hM.symm
  clear hM
  exact x_zret h hQ rfl (b2i_01 _) dX12_isSo_22 ⟨rfl, rfl, _, rfl, rfl, rfl⟩
theorem c_X12_isGuessed {Γ : GT} {G : GG} {M : MM} {m : Nat} (hF : mdF G M.2.2 m) {V : GC} (hV : mgW M m V) {k s : Nat} (hk : k < V.1) (hs : s < 216) : Calls Γ q_X12_isGuessed [.ref m, .int (nI k), .int (nI s)] G M (rI (fun y M' => y = b2i (cndT (V.2 k) s) ∧ M' = M)) := by
  obtain ⟨v5, vn, vk⟩ := hV
  obtain ⟨q2, q3, q4, ok⟩ := vk k hk
  refine Calls.intro (by decide +kernel) (Nat.le_of_ble_eq_true rfl) (fun z E h hQ => ?_)
  refine x_loc (L' := [some (.ref m), some (.int (nI k)), some (.int (nI s))]) rfl ?_
  refine x_iload_n h dX12_isGuessed_0 rfl ?_
  refine x_aload_n h dX12_isGuessed_1 rfl ?_
  refine x_getR h hF.1 f_X12_31 rfl (md_guessVariable hF).1 dX12_isGuessed_2 ?_
  refine x_iload_n h dX12_isGuessed_5 rfl ?_
  refine x_ialdv h k (md_guessVariable hF).2 (ix.ni (j := k) (by omega) (by decide)) q2 dX12_isGuessed_6 ?_
  refine x_aload_n h dX12_isGuessed_7 rfl ?_
  refine x_getR h hF.1 f_X12_34 rfl (md_guessSign hF).1 dX12_isGuessed_8 ?_
  refine x_iload_n h dX12_isGuessed_11 rfl ?_
  refine x_ialdv h k (md_guessSign hF).2 (ix.ni (j := k) (by omega) (by decide)) q3 dX12_isGuessed_12 ?_
  refine x_aload_n h dX12_isGuessed_13 rfl ?_
  refine x_getR h hF.1 f_X12_37 rfl (md_guessTerm hF).1 dX12_isGuessed_14 ?_
  refine x_iload_n h dX12_isGuessed_17 rfl ?_
  refine x_ialdv h k (md_guessTerm hF).2 (ix.ni (j := k) (by omega) (by decide)) q4 dX12_isGuessed_18 ?_
  refine x_cSi h ci_X12_compares sm_X12_compares l_X12_232 ⟨Nat.le_of_ble_eq_true rfl, Nat.le_of_ble_eq_true rfl⟩ ⟨rfl, rfl⟩ ⟨Nat.zero_le _, Nat.zero_le _⟩ (c_X12_compares hs ok) rfl rfl rfl rfl dX12_isGuessed_19 (fun v19 M19 hp19 => ?_)
  obtain ⟨rfl, hM⟩ := hp19
  obtain rfl := hM.symm
  clear hM
  exact x_zret h hQ rfl (b2i_01 _) dX12_isGuessed_22 ⟨rfl, rfl, _, rfl, rfl, rfl⟩
def allN (p : Nat → Bool) : Nat → Bool
  | 0 => true
  | n + 1 => allN p n && p n
/-- the guesses of a set are true in a state -/
def agS (V : GC) (hs : Nat) : ST := fun s => allN (fun g => !hs.testBit g || cndT (V.2 g) s) V.1
theorem c_X12_areGuessed {Γ : GT} {G : GG} {M : MM} {m : Nat} (hF : mdF G M.2.2 m) {V : GC} (hV : mgW M m V) {hs s : Nat} (hh : hs < 32) (h216 : s < 216) : Calls Γ q_X12_areGuessed [.ref m, .int (nI hs), .int (nI s)] G M (rI (fun y M' => y = b2i (agS V hs s) ∧ M' = M)) := by
  have hV0 := hV
  obtain ⟨v5, vn, vk⟩ := hV
  refine Calls.intro (by decide +kernel) (Nat.le_of_ble_eq_true rfl) (fun z E h hQ => ?_)
  refine x_loc (L' := [some (.ref m), some (.int (nI hs)), some (.int (nI s)), none, none]) rfl ?_
  have loop : ∀ i, i ≤ V.1 → X Γ E 0 0 G z M 5 [some (.ref m), some (.int (nI hs)), some (.int (nI s)), some (.int (b2i (allN (fun g => !hs.testBit g || cndT (V.2 g) s) i))), some (.int (nI i))] [] := by
    refine upto V.1 (fun i hi ih => ?_)
    refine x_iload h dX12_areGuessed_5 rfl ?_
    refine x_aload_n h dX12_areGuessed_7 rfl ?_
    refine x_getIv h hF.1 f_X12_217 rfl vn dX12_areGuessed_8 ?_
    refine x_icmp_ge h 49 dX12_areGuessed_11 (by decide) (fun c11 => ?_) (fun c11 => ?_)
    · obtain rfl : i = V.1 := by
        have := (nI_le_iff (by omega) (by omega)).mp c11
        omega
      refine x_iload_n h dX12_areGuessed_49 rfl ?_
      exact x_zret h hQ rfl (b2i_01 _) dX12_areGuessed_50 ⟨rfl, rfl, _, rfl, rfl, rfl⟩
    · have hlt : i < V.1 := by
        have := mt (nI_le_iff (a := V.1) (b := i) (by omega) (by omega)).mpr c11
        omega
      refine x_iload_n h dX12_areGuessed_14 rfl ?_
      refine x_if_eq h 41 dX12_areGuessed_15 (by decide) (fun c15 => ?_) (fun c15 => ?_)
      · have e0 := b2i_0.mp c15
        refine x_ic0 h dX12_areGuessed_41 ?_
        refine x_topi (y := b2i (allN (fun g => !hs.testBit g || cndT (V.2 g) s) (i + 1))) (b2i_f (by simp [allN, e0])) ?_
        refine x_istore_n h dX12_areGuessed_42 rfl rfl ?_
        dsimp only [List.set]
        refine x_incn h dX12_areGuessed_43 rfl rfl rfl ?_
        dsimp only [List.set]
        refine x_goto h 5 dX12_areGuessed_46 (by decide) ?_
        exact ih hlt
      · have e0 := bool_nf (fun q => c15 (b2i_0.mpr q))
        refine x_iload_n h dX12_areGuessed_18 rfl ?_
        refine x_iload h dX12_areGuessed_19 rfl ?_
        refine x_cSi h ci_X12_isIn sm_X12_isIn l_X12_236 ⟨Nat.le_of_ble_eq_true rfl, Nat.le_of_ble_eq_true rfl⟩ ⟨rfl, rfl⟩ ⟨Nat.zero_le _, Nat.zero_le _⟩ (c_X12_isIn hh (by omega)) rfl rfl rfl rfl dX12_areGuessed_21 (fun v21 M21 hp21 => ?_)
        obtain ⟨rfl, hM⟩ := hp21
        obtain rfl := hM.symm
        clear hM
        refine x_if_eq h 37 dX12_areGuessed_24 (by decide) (fun c24 => ?_) (fun c24 => ?_)
        · have e1 := b2i_0.mp c24
          refine x_ic1 h dX12_areGuessed_37 ?_
          refine x_goto h 42 dX12_areGuessed_38 (by decide) ?_
          refine x_topi (y := b2i (allN (fun g => !hs.testBit g || cndT (V.2 g) s) (i + 1))) (b2i_t (by simp [allN, e0, e1])) ?_
          refine x_istore_n h dX12_areGuessed_42 rfl rfl ?_
          dsimp only [List.set]
          refine x_incn h dX12_areGuessed_43 rfl rfl rfl ?_
          dsimp only [List.set]
          refine x_goto h 5 dX12_areGuessed_46 (by decide) ?_
          exact ih hlt
        · have e1 := bool_nf (fun q => c24 (b2i_0.mpr q))
          refine x_aload_n h dX12_areGuessed_27 rfl ?_
          refine x_iload h dX12_areGuessed_28 rfl ?_
          refine x_iload_n h dX12_areGuessed_30 rfl ?_
          refine x_cVi h ci_X12_isGuessed im_X12_isGuessed l_X12_239 ⟨Nat.le_of_ble_eq_true rfl, Nat.le_of_ble_eq_true rfl⟩ ⟨rfl, rfl⟩ ⟨Nat.zero_le _, Nat.zero_le _⟩ (c_X12_isGuessed hF hV0 hlt h216) rfl rfl rfl rfl hF.1 (by decide) rfl dX12_areGuessed_31 (fun v31 M31 hp31 => ?_)
          obtain ⟨rfl, hM⟩ := hp31
          obtain rfl := hM.symm
          clear hM
          refine x_if_eq h 41 dX12_areGuessed_34 (by decide) (fun c34 => ?_) (fun c34 => ?_)
          · have e2 := b2i_0.mp c34
            refine x_ic0 h dX12_areGuessed_41 ?_
            refine x_topi (y := b2i (allN (fun g => !hs.testBit g || cndT (V.2 g) s) (i + 1))) (b2i_f (by simp [allN, e0, e1, e2])) ?_
            refine x_istore_n h dX12_areGuessed_42 rfl rfl ?_
            dsimp only [List.set]
            refine x_incn h dX12_areGuessed_43 rfl rfl rfl ?_
            dsimp only [List.set]
            refine x_goto h 5 dX12_areGuessed_46 (by decide) ?_
            exact ih hlt
          · have e2 := bool_nf (fun q => c34 (b2i_0.mpr q))
            refine x_ic1 h dX12_areGuessed_37 ?_
            refine x_goto h 42 dX12_areGuessed_38 (by decide) ?_
            refine x_topi (y := b2i (allN (fun g => !hs.testBit g || cndT (V.2 g) s) (i + 1))) (b2i_t (by simp [allN, e0, e1, e2])) ?_
            refine x_istore_n h dX12_areGuessed_42 rfl rfl ?_
            dsimp only [List.set]
            refine x_incn h dX12_areGuessed_43 rfl rfl rfl ?_
            dsimp only [List.set]
            refine x_goto h 5 dX12_areGuessed_46 (by decide) ?_
            exact ih hlt
  refine x_ic1 h dX12_areGuessed_0 ?_
  refine x_istore_n h dX12_areGuessed_1 rfl rfl ?_
  dsimp only [List.set]
  refine x_in0 h dX12_areGuessed_2 ?_
  refine x_istore h dX12_areGuessed_3 rfl rfl ?_
  dsimp only [List.set]
  exact loop 0 (Nat.zero_le _)
def rowI (M : MM) (a : Nat) (t : Nat → Nat) : Prop := ∀ i, i < 3 → M.1 a i = nI (t i) ∧ t i ≤ 6
theorem beg_all (t : Nat → Nat) (s : Nat) : allN (fun v => decide (t v = 6) || decide (t v = valS s v)) 3 = begS t s := by
  simp only [allN, begS, Bool.true_and]
  rw [decide_eq_decide.mpr (show t 0 = valS s 0 ↔ valS s 0 = t 0 from eq_comm), decide_eq_decide.mpr (show t 1 = valS s 1 ↔ valS s 1 = t 1 from eq_comm), decide_eq_decide.mpr (show t 2 = valS s 2 ↔ valS s 2 = t 2 from eq_comm)]
theorem c_X12_mayBegin {Γ : GT} {G : GG} {M : MM} {a : Nat} {t : Nat → Nat} (ga : G a = some (.inr (.int, 4))) (ht : rowI M a t) {s : Nat} (hs : s < 216) : Calls Γ q_X12_mayBegin [.ref a, .int (nI s)] G M (rI (fun y M' => y = b2i (begS t s) ∧ M' = M)) := by
  refine Calls.intro (by decide +kernel) (Nat.le_of_ble_eq_true rfl) (fun z E h hQ => ?_)
  refine x_loc (L' := [some (.ref a), some (.int (nI s)), none, none]) rfl ?_
  have loop : ∀ i, i ≤ 3 → X Γ E 0 0 G z M 4 [some (.ref a), some (.int (nI s)), some (.int (b2i (allN (fun v => decide (t v = 6) || decide (t v = valS s v)) i))), some (.int (nI i))] [] := by
    refine upto 3 (fun i hi ih => ?_)
    refine x_iload_n h dX12_mayBegin_4 rfl ?_
    refine x_in3 h dX12_mayBegin_5 ?_
    refine x_icmp_ge h 44 dX12_mayBegin_6 (by decide) (fun c6 => ?_) (fun c6 => ?_)
    · obtain rfl : i = 3 := up_ge (by decide) hi c6
      refine x_iload_n h dX12_mayBegin_44 rfl ?_
      exact x_zret h hQ rfl (b2i_01 _) dX12_mayBegin_45 ⟨rfl, rfl, _, rfl, by rw [beg_all], rfl⟩
    · have hlt : i < 3 := up_lt (by decide) hi c6
      have ht1 := (ht i hlt).2
      have hv6 := val_lt (v := i) hs
      refine x_iload_n h dX12_mayBegin_9 rfl ?_
      refine x_if_eq h 36 dX12_mayBegin_10 (by decide) (fun c10 => ?_) (fun c10 => ?_)
      · have e0 := b2i_0.mp c10
        refine x_ic0 h dX12_mayBegin_36 ?_
        refine x_topi (y := b2i (allN (fun v => decide (t v = 6) || decide (t v = valS s v)) (i + 1))) (b2i_f (by simp [allN, e0])) ?_
        refine x_istore_n h dX12_mayBegin_37 rfl rfl ?_
        dsimp only [List.set]
        refine x_incn h dX12_mayBegin_38 rfl rfl rfl ?_
        dsimp only [List.set]
        refine x_goto h 4 dX12_mayBegin_41 (by decide) ?_
        exact ih hlt
      · have e0 := bool_nf (fun q => c10 (b2i_0.mpr q))
        refine x_aload_n h dX12_mayBegin_13 rfl ?_
        refine x_iload_n h dX12_mayBegin_14 rfl ?_
        refine x_ialdv h i ga (ix.ni (j := i) (by omega) (by decide)) (ht i hlt).1 dX12_mayBegin_15 ?_
        refine x_bipush h (nI 6) (by decide) dX12_mayBegin_16 ?_
        refine x_icmp_eq h 32 dX12_mayBegin_18 (by decide) (fun c18 => ?_) (fun c18 => ?_)
        · have e1 : t i = 6 := nI_small 6 (by omega) (by decide) c18
          refine x_ic1 h dX12_mayBegin_32 ?_
          refine x_goto h 37 dX12_mayBegin_33 (by decide) ?_
          refine x_topi (y := b2i (allN (fun v => decide (t v = 6) || decide (t v = valS s v)) (i + 1))) (b2i_t (by simp [allN, e0, e1])) ?_
          refine x_istore_n h dX12_mayBegin_37 rfl rfl ?_
          dsimp only [List.set]
          refine x_incn h dX12_mayBegin_38 rfl rfl rfl ?_
          dsimp only [List.set]
          refine x_goto h 4 dX12_mayBegin_41 (by decide) ?_
          exact ih hlt
        · have e1 : ¬ t i = 6 := fun q => c18 (by rw [q])
          refine x_aload_n h dX12_mayBegin_21 rfl ?_
          refine x_iload_n h dX12_mayBegin_22 rfl ?_
          refine x_ialdv h i ga (ix.ni (j := i) (by omega) (by decide)) (ht i hlt).1 dX12_mayBegin_23 ?_
          refine x_iload_n h dX12_mayBegin_24 rfl ?_
          refine x_iload_n h dX12_mayBegin_25 rfl ?_
          refine x_cSi h ci_X12_valueOf sm_X12_valueOf l_X12_226 ⟨Nat.le_of_ble_eq_true rfl, Nat.le_of_ble_eq_true rfl⟩ ⟨rfl, rfl⟩ ⟨Nat.zero_le _, Nat.zero_le _⟩ (c_X12_valueOf (by omega) hlt) rfl rfl rfl rfl dX12_mayBegin_26 (fun v26 M26 hp26 => ?_)
          obtain ⟨rfl, hM⟩ := hp26
          obtain rfl := hM.symm
          clear hM
          refine x_icmp_ne h 36 dX12_mayBegin_29 (by decide) (fun c29 => ?_) (fun c29 => ?_)
          · have e2 : ¬ t i = valS s i := fun q => c29 (by rw [q])
            refine x_ic0 h dX12_mayBegin_36 ?_
            refine x_topi (y := b2i (allN (fun v => decide (t v = 6) || decide (t v = valS s v)) (i + 1))) (b2i_f (by simp [allN, e0, e1, e2])) ?_
            refine x_istore_n h dX12_mayBegin_37 rfl rfl ?_
            dsimp only [List.set]
            refine x_incn h dX12_mayBegin_38 rfl rfl rfl ?_
            dsimp only [List.set]
            refine x_goto h 4 dX12_mayBegin_41 (by decide) ?_
            exact ih hlt
          · have e2 : t i = valS s i := nI_small _ (by omega) (by omega) c29
            refine x_ic1 h dX12_mayBegin_32 ?_
            refine x_goto h 37 dX12_mayBegin_33 (by decide) ?_
            refine x_topi (y := b2i (allN (fun v => decide (t v = 6) || decide (t v = valS s v)) (i + 1))) (b2i_t (by simp [allN, e0, e2])) ?_
            refine x_istore_n h dX12_mayBegin_37 rfl rfl ?_
            dsimp only [List.set]
            refine x_incn h dX12_mayBegin_38 rfl rfl rfl ?_
            dsimp only [List.set]
            refine x_goto h 4 dX12_mayBegin_41 (by decide) ?_
            exact ih hlt
  refine x_ic1 h dX12_mayBegin_0 ?_
  refine x_istore_n h dX12_mayBegin_1 rfl rfl ?_
  dsimp only [List.set]
  refine x_in0 h dX12_mayBegin_2 ?_
  refine x_istore_n h dX12_mayBegin_3 rfl rfl ?_
  dsimp only [List.set]
  exact loop 0 (Nat.zero_le _)
/-- what a deed makes of a state -/
def dnM (Q : AP) (k s w : Nat) : Nat := wth s (vA Q k) (if kA Q k = 0 then trmV (cA Q k).2.2 (s / 36) (s / 6 % 6) (s % 6) else if kA Q k = 1 then (if valS s (vA Q k) < 5 then valS s (vA Q k) + 1 else 5) else if kA Q k = 2 then (if 0 < valS s (vA Q k) then valS s (vA Q k) - 1 else 0) else w)
theorem dn_lt {Q : AP} (hO : okM Q) {k s w : Nat} (hk : k < nA Q) (hs : s < 216) (hw : w < 6) : dnM Q k s w < 216 := by
  obtain ⟨o1, o2, o3, o4, o5, o6, o7⟩ := hO k hk
  have hv := val_lt (v := vA Q k) hs
  unfold dnM
  refine wth_lt hs ?_
  split
  · rename_i e; exact trm_lt (o3 e) (by omega) (by omega) (by omega)
  · split
    · split <;> omega
    · split
      · split <;> omega
      · exact hw
theorem c_X12_done {Γ : GT} {G : GG} {M : MM} {m : Nat} (hF : mdF G M.2.2 m) {Q : AP} (hP : mpW M m Q) (hO : okM Q) {k s w : Nat} (hk : k < nA Q) (hs : s < 216) (h3 : kA Q k ≤ 3) : Calls Γ q_X12_done [.ref m, .int (nI k), .int (nI s), .int (nI w)] G M (rI (fun y M' => y = nI (dnM Q k s w) ∧ M' = M)) := by
  obtain ⟨q60, qn, qk⟩ := hP
  obtain ⟨q1, q2, q3, q4, q5, q6⟩ := qk k hk
  obtain ⟨o1, o2, o3, o4, o5, o6, o7⟩ := hO k hk
  have hv3 := (o2 (by omega)).1
  have hv6 := val_lt (v := vA Q k) hs
  refine Calls.intro (by decide +kernel) (Nat.le_of_ble_eq_true rfl) (fun z E h hQ => ?_)
  refine x_loc (L' := [some (.ref m), some (.int (nI k)), some (.int (nI s)), some (.int (nI w)), none, none]) rfl ?_
  refine x_aload_n h dX12_done_0 rfl ?_
  refine x_getR h hF.1 f_X12_16 rfl (md_variable hF).1 dX12_done_1 ?_
  refine x_iload_n h dX12_done_4 rfl ?_
  refine x_ialdv h k (md_variable hF).2 (ix.ni (j := k) (by omega) (by decide)) q2 dX12_done_5 ?_
  refine x_istore h dX12_done_6 rfl rfl ?_
  dsimp only [List.set]
  refine x_iload_n h dX12_done_8 rfl ?_
  refine x_iload h dX12_done_9 rfl ?_
  refine x_cSi h ci_X12_valueOf sm_X12_valueOf l_X12_226 ⟨Nat.le_of_ble_eq_true rfl, Nat.le_of_ble_eq_true rfl⟩ ⟨rfl, rfl⟩ ⟨Nat.zero_le _, Nat.zero_le _⟩ (c_X12_valueOf (by omega) hv3) rfl rfl rfl rfl dX12_done_11 (fun v11 M11 hp11 => ?_)
  obtain ⟨rfl, hM⟩ := hp11
  obtain rfl := hM.symm
  clear hM
  refine x_istore h dX12_done_14 rfl rfl ?_
  dsimp only [List.set]
  refine x_aload_n h dX12_done_16 rfl ?_
  refine x_getR h hF.1 f_X12_13 rfl (md_kind hF).1 dX12_done_17 ?_
  refine x_iload_n h dX12_done_20 rfl ?_
  refine x_ialdv h k (md_kind hF).2 (ix.ni (j := k) (by omega) (by decide)) q1 dX12_done_21 ?_
  rcases (show kA Q k = 0 ∨ kA Q k = 1 ∨ kA Q k = 2 ∨ kA Q k = 3 by omega) with hk0 | hk0 | hk0 | hk0 <;> rw [hk0]
  · refine x_tin h 48 dX12_done_22 (by decide) (by decide) (off := 26) (by decide) (by decide) ?_
    refine x_iload_n h dX12_done_48 rfl ?_
    refine x_iload h dX12_done_49 rfl ?_
    refine x_iload_n h dX12_done_51 rfl ?_
    refine x_aload_n h dX12_done_52 rfl ?_
    refine x_getR h hF.1 f_X12_22 rfl (md_term hF).1 dX12_done_53 ?_
    refine x_iload_n h dX12_done_56 rfl ?_
    refine x_ialdv h k (md_term hF).2 (ix.ni (j := k) (by omega) (by decide)) q4 dX12_done_57 ?_
    refine x_cSi h ci_X12_termBy sm_X12_termBy l_X12_229 ⟨Nat.le_of_ble_eq_true rfl, Nat.le_of_ble_eq_true rfl⟩ ⟨rfl, rfl⟩ ⟨Nat.zero_le _, Nat.zero_le _⟩ (c_X12_termBy hs (o3 hk0)) rfl rfl rfl rfl dX12_done_58 (fun v58 M58 hp58 => ?_)
    obtain ⟨rfl, hM⟩ := hp58
    obtain rfl := hM.symm
    clear hM
    refine x_cSi h ci_X12_with sm_X12_with l_X12_242 ⟨Nat.le_of_ble_eq_true rfl, Nat.le_of_ble_eq_true rfl⟩ ⟨rfl, rfl⟩ ⟨Nat.zero_le _, Nat.zero_le _⟩ (c_X12_with hs hv3) rfl rfl rfl rfl dX12_done_61 (fun v61 M61 hp61 => ?_)
    obtain ⟨rfl, hM⟩ := hp61
    obtain rfl := hM.symm
    clear hM
    exact x_iret h hQ rfl dX12_done_64 ⟨rfl, rfl, _, rfl, by simp [dnM, hk0], rfl⟩
  · refine x_tin h 65 dX12_done_22 (by decide) (by decide) (off := 43) (by decide) (by decide) ?_
    refine x_iload_n h dX12_done_65 rfl ?_
    refine x_iload h dX12_done_66 rfl ?_
    refine x_iload h dX12_done_68 rfl ?_
    refine x_in5 h dX12_done_70 ?_
    refine x_icmp_ge h 81 dX12_done_71 (by decide) (fun c71 => ?_) (fun c71 => ?_)
    · have e := (nI_le_iff (by decide) (by omega)).mp c71
      refine x_in5 h dX12_done_81 ?_
      refine x_cSi h ci_X12_with sm_X12_with l_X12_242 ⟨Nat.le_of_ble_eq_true rfl, Nat.le_of_ble_eq_true rfl⟩ ⟨rfl, rfl⟩ ⟨Nat.zero_le _, Nat.zero_le _⟩ (c_X12_with hs hv3) rfl rfl rfl rfl dX12_done_82 (fun v82 M82 hp82 => ?_)
      obtain ⟨rfl, hM⟩ := hp82
      obtain rfl := hM.symm
      clear hM
      exact x_iret h hQ rfl dX12_done_85 ⟨rfl, rfl, _, rfl, by simp [dnM, hk0, show ¬ valS s (vA Q k) < 5 by omega], rfl⟩
    · have e := mt (nI_le_iff (a := 5) (b := valS s (vA Q k)) (by decide) (by omega)).mpr c71
      refine x_iload h dX12_done_74 rfl ?_
      refine x_in1 h dX12_done_76 ?_
      refine x_iaddn h  dX12_done_77 ?_
      refine x_goto h 82 dX12_done_78 (by decide) ?_
      refine x_cSi h ci_X12_with sm_X12_with l_X12_242 ⟨Nat.le_of_ble_eq_true rfl, Nat.le_of_ble_eq_true rfl⟩ ⟨rfl, rfl⟩ ⟨Nat.zero_le _, Nat.zero_le _⟩ (c_X12_with hs hv3) rfl rfl rfl rfl dX12_done_82 (fun v82 M82 hp82 => ?_)
      obtain ⟨rfl, hM⟩ := hp82
      obtain rfl := hM.symm
      clear hM
      exact x_iret h hQ rfl dX12_done_85 ⟨rfl, rfl, _, rfl, by simp [dnM, hk0, show valS s (vA Q k) < 5 by omega], rfl⟩
  · refine x_tin h 86 dX12_done_22 (by decide) (by decide) (off := 64) (by decide) (by decide) ?_
    refine x_iload_n h dX12_done_86 rfl ?_
    refine x_iload h dX12_done_87 rfl ?_
    refine x_iload h dX12_done_89 rfl ?_
    refine x_if_le h 101 dX12_done_91 (by decide) (fun c91 => ?_) (fun c91 => ?_)
    · have e : valS s (vA Q k) = 0 := by
        have := (nI_le_iff (a := valS s (vA Q k)) (b := 0) (by omega) (by decide)).mp c91
        omega
      refine x_in0 h dX12_done_101 ?_
      refine x_cSi h ci_X12_with sm_X12_with l_X12_242 ⟨Nat.le_of_ble_eq_true rfl, Nat.le_of_ble_eq_true rfl⟩ ⟨rfl, rfl⟩ ⟨Nat.zero_le _, Nat.zero_le _⟩ (c_X12_with hs hv3) rfl rfl rfl rfl dX12_done_102 (fun v102 M102 hp102 => ?_)
      obtain ⟨rfl, hM⟩ := hp102
      obtain rfl := hM.symm
      clear hM
      exact x_iret h hQ rfl dX12_done_105 ⟨rfl, rfl, _, rfl, by simp [dnM, hk0, e], rfl⟩
    · have e : 0 < valS s (vA Q k) := by
        have := mt (nI_le_iff (a := valS s (vA Q k)) (b := 0) (by omega) (by decide)).mpr c91
        omega
      refine x_iload h dX12_done_94 rfl ?_
      refine x_in1 h dX12_done_96 ?_
      refine x_isubn h e dX12_done_97 ?_
      refine x_goto h 102 dX12_done_98 (by decide) ?_
      refine x_cSi h ci_X12_with sm_X12_with l_X12_242 ⟨Nat.le_of_ble_eq_true rfl, Nat.le_of_ble_eq_true rfl⟩ ⟨rfl, rfl⟩ ⟨Nat.zero_le _, Nat.zero_le _⟩ (c_X12_with hs hv3) rfl rfl rfl rfl dX12_done_102 (fun v102 M102 hp102 => ?_)
      obtain ⟨rfl, hM⟩ := hp102
      obtain rfl := hM.symm
      clear hM
      exact x_iret h hQ rfl dX12_done_105 ⟨rfl, rfl, _, rfl, by simp [dnM, hk0, e], rfl⟩
  · refine x_tout h 106 dX12_done_22 (by decide) (by decide) ?_
    refine x_iload_n h dX12_done_106 rfl ?_
    refine x_iload h dX12_done_107 rfl ?_
    refine x_iload_n h dX12_done_109 rfl ?_
    refine x_cSi h ci_X12_with sm_X12_with l_X12_242 ⟨Nat.le_of_ble_eq_true rfl, Nat.le_of_ble_eq_true rfl⟩ ⟨rfl, rfl⟩ ⟨Nat.zero_le _, Nat.zero_le _⟩ (c_X12_with hs hv3) rfl rfl rfl rfl dX12_done_110 (fun v110 M110 hp110 => ?_)
    obtain ⟨rfl, hM⟩ := hp110
    obtain rfl := hM.symm
    clear hM
    exact x_iret h hQ rfl dX12_done_113 ⟨rfl, rfl, _, rfl, by simp [dnM, hk0], rfl⟩
