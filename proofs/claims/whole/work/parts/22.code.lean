/-! ===== any variable; Code: a program that is read ===== -/
theorem c_X9_free {Γ : GT} {G : GG} {M : MM} {a v : Nat} {S : ST} (hv : v < 3) (hS : isS G M.2.2 a) (eS : hasS M a S) : Calls Γ q_X9_free [.ref a, .int (nI v)] G M (rV (fun M' => M' = setS M a (frS v S))) := by
  rcases (show v = 0 ∨ v = 1 ∨ v = 2 by omega) with rfl | rfl | rfl
  · exact c_X9_free_0 hS eS
  · exact c_X9_free_1 hS eS
  · exact c_X9_free_2 hS eS
theorem c_X9_shift {Γ : GT} {G : GG} {M : MM} {a v up st : Nat} {S : ST} (hv : v < 3) (hu : up < 2) (ht : st < 2) (hS : isS G M.2.2 a) (eS : hasS M a S) : Calls Γ q_X9_shift [.ref a, .int (nI v), .int (nI up), .int (nI st)] G M (rV (fun M' => M' = setS M a (shS v (decide (up = 1)) (decide (st = 1)) S))) := by
  rcases (show v = 0 ∨ v = 1 ∨ v = 2 by omega) with rfl | rfl | rfl <;> rcases (show up = 0 ∨ up = 1 by omega) with rfl | rfl <;> rcases (show st = 0 ∨ st = 1 by omega) with rfl | rfl
  · exact c_X9_shift_000 hS eS
  · exact c_X9_shift_001 hS eS
  · exact c_X9_shift_010 hS eS
  · exact c_X9_shift_011 hS eS
  · exact c_X9_shift_100 hS eS
  · exact c_X9_shift_101 hS eS
  · exact c_X9_shift_110 hS eS
  · exact c_X9_shift_111 hS eS
  · exact c_X9_shift_200 hS eS
  · exact c_X9_shift_201 hS eS
  · exact c_X9_shift_210 hS eS
  · exact c_X9_shift_211 hS eS
/-- the cells of a Code at c that never move -/
def codeF (G : GG) (R : Nat → Nat → Value) (c : Nat) : Prop := G c = some (.inl 2) ∧ R c 0 = .ref (c + 1) ∧ G (c + 1) = some (.inr (.object "LoopGuesses$Step", 60)) ∧ (∀ i, i < 60 → R (c + 1) i = .ref (c + 65 + i) ∧ G (c + 65 + i) = some (.inl 10)) ∧ R c 2 = .ref (c + 2) ∧ G (c + 2) = some (.inr (.object "LoopGuesses$Condition", 20)) ∧ (∀ i, i < 20 → R (c + 2) i = .ref (c + 5 + 3 * i) ∧ G (c + 5 + 3 * i) = some (.inl 3) ∧ R (c + 5 + 3 * i) 3 = .ref (c + 5 + 3 * i + 1) ∧ isS G R (c + 5 + 3 * i + 1)) ∧ R c 4 = .ref (c + 3) ∧ G (c + 3) = some (.inr (.object "LoopGuesses$Condition", 5)) ∧ R c 5 = .ref (c + 4) ∧ G (c + 4) = some (.inr (.object "LoopGuesses$Condition", 4))
