/-! ===== all sets of states at once: a set for each address of a States object ===== -/
abbrev SG : Type := Nat → ST
abbrev DS : Type := Nat → Bool
/-- the memory M with the sets of σ in the States objects that D names -/
def wS (D : DS) (M : MM) (σ : SG) : MM := (M.1, (fun b j => if (1 ≤ b ∧ D (b - 1) = true) ∧ j < 6 then encF (σ (b - 1)) j else M.2.1 b j), M.2.2)
def isD (G : GG) (R : Nat → Nat → Value) (D : DS) (a : Nat) : Prop := isS G R a ∧ D a = true
def upσ (σ : SG) (a : Nat) (S : ST) : SG := fun b => if b = a then S else σ b
theorem upσ_self (σ : SG) (a : Nat) (S : ST) : upσ σ a S a = S := by simp [upσ]
theorem upσ_ne (σ : SG) {a b : Nat} (S : ST) (h : b ≠ a) : upσ σ a S b = σ b := by simp [upσ, h]
theorem upσ_up (σ : SG) (a : Nat) (S T : ST) : upσ (upσ σ a S) a T = upσ σ a T := by
  funext b
  by_cases h : b = a <;> simp [upσ, h]
theorem hasS_wS {D : DS} {M : MM} {σ : SG} {a : Nat} (h : D a = true) : hasS (wS D M σ) a (σ a) := fun k hk => by
  simp [wS, hk, h]
theorem setS_wS {D : DS} {M : MM} {σ : SG} {a : Nat} (h : D a = true) (S : ST) : setS (wS D M σ) a S = wS D M (upσ σ a S) := by
  show (M.1, _, M.2.2) = (M.1, _, M.2.2)
  congr 2
  funext b j
  by_cases hb : b = a + 1 ∧ j < 6
  · obtain ⟨rfl, hj⟩ := hb
    simp [h, hj, upσ]
  · rw [if_neg hb]
    by_cases h2 : (1 ≤ b ∧ D (b - 1) = true) ∧ j < 6
    · have h3 : b - 1 ≠ a := fun q => hb ⟨by omega, h2.2⟩
      simp only [wS, if_pos h2, upσ, if_neg h3]
    · simp only [wS, if_neg h2]
/-- a memory that holds σ is the memory with σ in it -/
theorem wS_of {D : DS} {M : MM} {σ : SG} (h : ∀ a, D a = true → hasS M a (σ a)) : M = wS D M σ := by
  show (M.1, M.2.1, M.2.2) = (M.1, _, M.2.2)
  congr 2
  funext b j
  by_cases h2 : (1 ≤ b ∧ D (b - 1) = true) ∧ j < 6
  · simp only [if_pos h2]
    have := h (b - 1) h2.1.2 j h2.2
    rw [show b - 1 + 1 = b by omega] at this
    exact this
  · simp only [if_neg h2]
def metσ (σ : SG) (a b : Nat) : SG := upσ σ a (fun s => σ a s && σ b s)
def remσ (σ : SG) (a b : Nat) : SG := upσ σ a (fun s => σ a s && !σ b s)
def misσ (σ : SG) (a b : Nat) : SG := upσ σ a (fun s => σ a s || !σ b s)
def copσ (σ : SG) (a b : Nat) : SG := upσ σ a (σ b)
def uniσ (σ : SG) (a b : Nat) : SG := upσ σ a (fun s => σ a s || σ b s)
/-- does b have a state that a hasn't? -/
def newσ (σ : SG) (a b : Nat) : Bool := anyS (fun s => σ b s && !σ a s)
theorem Calls.imp {Γ : GT} {q : MD} {as : List Value} {G : GG} {M : MM} {P Q : Option Value → MM → Prop} (h : Calls Γ q as G M P) (hPQ : ∀ r M', P r M' → Q r M') : Calls Γ q as G M Q := by
  intro z p e ha hc hk s m args below hf h1 h2 h3
  obtain ⟨n, o, h4, h5, h6, ⟨r, G', z', M', e1, ⟨e2, e3, e4⟩, e5⟩, h8⟩ := h z p e ha hc hk s m args below hf h1 h2 h3
  exact ⟨n, o, h4, h5, h6, ⟨r, G', z', M', e1, ⟨e2, e3, hPQ _ _ e4⟩, e5⟩, h8⟩
section LIFT
variable {Γ : GT} {G : GG} {M : MM} {D : DS} {σ : SG} {a b v : Nat}
theorem s_clear (ha : isD G M.2.2 D a) : Calls Γ q_X9_clear [.ref a] G (wS D M σ) (rV (fun M' => M' = wS D M (upσ σ a (fun _ => false)))) := by
  rw [← setS_wS ha.2]; exact c_X9_clear ha.1
theorem s_fill (ha : isD G M.2.2 D a) : Calls Γ q_X9_fill [.ref a] G (wS D M σ) (rV (fun M' => M' = wS D M (upσ σ a (fun _ => true)))) := by
  rw [← setS_wS ha.2]; exact c_X9_fill ha.1
theorem s_copy (ha : isD G M.2.2 D a) (hb : isD G M.2.2 D b) : Calls Γ q_X9_copy [.ref a, .ref b] G (wS D M σ) (rV (fun M' => M' = wS D M (copσ σ a b))) := by
  unfold copσ; rw [← setS_wS ha.2]; exact c_X9_copy ha.1 hb.1 (hasS_wS hb.2)
theorem s_meet (ha : isD G M.2.2 D a) (hb : isD G M.2.2 D b) : Calls Γ q_X9_meet [.ref a, .ref b] G (wS D M σ) (rV (fun M' => M' = wS D M (metσ σ a b))) := by
  unfold metσ; rw [← setS_wS ha.2]; exact c_X9_meet ha.1 (hasS_wS ha.2) hb.1 (hasS_wS hb.2)
theorem s_remove (ha : isD G M.2.2 D a) (hb : isD G M.2.2 D b) : Calls Γ q_X9_remove [.ref a, .ref b] G (wS D M σ) (rV (fun M' => M' = wS D M (remσ σ a b))) := by
  unfold remσ; rw [← setS_wS ha.2]; exact c_X9_remove ha.1 (hasS_wS ha.2) hb.1 (hasS_wS hb.2)
theorem s_addMissing (ha : isD G M.2.2 D a) (hb : isD G M.2.2 D b) : Calls Γ q_X9_addMissing [.ref a, .ref b] G (wS D M σ) (rV (fun M' => M' = wS D M (misσ σ a b))) := by
  unfold misσ; rw [← setS_wS ha.2]; exact c_X9_addMissing ha.1 (hasS_wS ha.2) hb.1 (hasS_wS hb.2)
theorem s_unite (ha : isD G M.2.2 D a) (hb : isD G M.2.2 D b) : Calls Γ q_X9_unite [.ref a, .ref b] G (wS D M σ) (rI (fun w M' => w = b2i (newσ σ a b) ∧ M' = wS D M (uniσ σ a b))) := by
  unfold uniσ newσ; rw [← setS_wS ha.2]; exact c_X9_unite ha.1 (hasS_wS ha.2) hb.1 (hasS_wS hb.2)
theorem s_free (hv : v < 3) (ha : isD G M.2.2 D a) : Calls Γ q_X9_free [.ref a, .int (nI v)] G (wS D M σ) (rV (fun M' => M' = wS D M (upσ σ a (frS v (σ a))))) := by
  rw [← setS_wS ha.2]; exact c_X9_free hv ha.1 (hasS_wS ha.2)
theorem s_shift {up st : Nat} (hv : v < 3) (hu : up < 2) (ht : st < 2) (ha : isD G M.2.2 D a) : Calls Γ q_X9_shift [.ref a, .int (nI v), .int (nI up), .int (nI st)] G (wS D M σ) (rV (fun M' => M' = wS D M (upσ σ a (shS v (decide (up = 1)) (decide (st = 1)) (σ a))))) := by
  rw [← setS_wS ha.2]; exact c_X9_shift hv hu ht ha.1 (hasS_wS ha.2)
theorem s_isWithin (ha : isD G M.2.2 D a) (hb : isD G M.2.2 D b) : Calls Γ q_X9_isWithin [.ref a, .ref b] G (wS D M σ) (rI (fun w M' => w = b2i (!anyS (fun s => σ a s && !σ b s)) ∧ M' = wS D M σ)) := c_X9_isWithin ha.1 (hasS_wS ha.2) hb.1 (hasS_wS hb.2)
theorem s_count (ha : isD G M.2.2 D a) : Calls Γ q_X9_count [.ref a] G (wS D M σ) (rI (fun w M' => w = nI (fb_ct (σ a) 216) ∧ M' = wS D M σ)) := c_X9_count ha.1 (hasS_wS ha.2)
theorem s_smallest (ha : isD G M.2.2 D a) : Calls Γ q_X9_smallest [.ref a] G (wS D M σ) (rI (fun w M' => w = fstV (σ a) ∧ M' = wS D M σ)) := c_X9_smallest ha.1 (hasS_wS ha.2)
theorem s_smallestOutside (ha : isD G M.2.2 D a) (hb : isD G M.2.2 D b) : Calls Γ q_X9_smallestOutside [.ref a, .ref b] G (wS D M σ) (rI (fun w M' => w = fstV (fun s => σ a s && !σ b s) ∧ M' = wS D M σ)) := c_X9_smallestOutside ha.1 (hasS_wS ha.2) hb.1 (hasS_wS hb.2)
theorem s_has {x y w : Nat} (ha : isD G M.2.2 D a) (hx : x < 2 ^ 31) (hy : y < 2 ^ 31) (hw : w < 2 ^ 31) : Calls Γ q_X9_has [.ref a, .int (nI x), .int (nI y), .int (nI w)] G (wS D M σ) (rI (fun r M' => r = b2i (isSt x y w && σ a (36 * x + 6 * y + w)) ∧ M' = wS D M σ)) := c_X9_has ha.1 (hasS_wS ha.2) hx hy hw
theorem s_fillIn {u : Nat} {t : Nat → Nat} {off : Nat} (hW : suW G M.2.2 u) (hT : suIs M u t off) (hb : isD G M.2.2 D b) (h6 : t 0 ≤ 6 ∧ t 1 ≤ 6 ∧ t 2 ≤ 6) : Calls Γ q_X8_fillIn [.ref u, .ref b] G (wS D M σ) (rV (fun M' => M' = wS D M (upσ σ b (begS t)))) := by
  rw [← setS_wS hb.2]; exact c_X8_fillIn (M := wS D M σ) hW hT hb.1 h6
theorem s_findTruths {q t : Nat} {k : CND} (g0 : G q = some (.inl 3)) (hk : cnIs M q k) (ok : cndOk k) (r0 : M.2.2 q 3 = .ref t) (ht : isD G M.2.2 D t) : Calls Γ q_X3_findTruths [.ref q] G (wS D M σ) (rV (fun M' => M' = wS D M (upσ σ t (cndT k)))) := by
  rw [← setS_wS ht.2]; exact c_X3_findTruths (M := wS D M σ) g0 hk ok r0 ht.1
end LIFT
