/-! ===== more rows; rows of memory; sets of states ===== -/
section IN
variable {Γ : GT} {E : CT} {q : MD} {k n : Nat} {G : GG} {z : Nat} {M : MM} {pc : Nat} {L : List (Option Value)} {st : List Value}
theorem x_in0 (h : Ok Γ E q) (d : decode q.2.1 pc = .ok (.iconst (0), 1)) (kk : X Γ E k n G z M (pc + 1) L (.int (nI 0) :: st)) : X Γ E k n G z M pc L st := x_ic0 h d kk
theorem x_in1 (h : Ok Γ E q) (d : decode q.2.1 pc = .ok (.iconst (1), 1)) (kk : X Γ E k n G z M (pc + 1) L (.int (nI 1) :: st)) : X Γ E k n G z M pc L st := x_ic1 h d kk
theorem x_in2 (h : Ok Γ E q) (d : decode q.2.1 pc = .ok (.iconst (2), 1)) (kk : X Γ E k n G z M (pc + 1) L (.int (nI 2) :: st)) : X Γ E k n G z M pc L st := x_ic2 h d kk
theorem x_in3 (h : Ok Γ E q) (d : decode q.2.1 pc = .ok (.iconst (3), 1)) (kk : X Γ E k n G z M (pc + 1) L (.int (nI 3) :: st)) : X Γ E k n G z M pc L st := x_ic3 h d kk
theorem x_in4 (h : Ok Γ E q) (d : decode q.2.1 pc = .ok (.iconst (4), 1)) (kk : X Γ E k n G z M (pc + 1) L (.int (nI 4) :: st)) : X Γ E k n G z M pc L st := x_ic4 h d kk
theorem x_in5 (h : Ok Γ E q) (d : decode q.2.1 pc = .ok (.iconst (5), 1)) (kk : X Γ E k n G z M (pc + 1) L (.int (nI 5) :: st)) : X Γ E k n G z M pc L st := x_ic5 h d kk
theorem x_incn (h : Ok Γ E q) {i j : Nat} (d : decode q.2.1 pc = .ok (.iinc i 1, 3)) (hx : L[i]? = some (some (.int (nI j)))) (hi : Nat.blt i L.length = true) (hc : chk1 L i = true) (kk : X Γ E k n G z M (pc + 3) (L.set i (some (.int (nI (j + 1))))) st) : X Γ E k n G z M pc L st :=
  x_iinc h 1 (by decide) d hx hi hc (by rw [← nI_succ]; exact kk)
end IN
theorem nI_lt_iff {a b : Nat} (ha : a < 2 ^ 31) (hb : b < 2 ^ 31) : nI a < nI b ↔ a < b := by
  rw [Int32.lt_iff_toInt_lt, nI_toInt ha, nI_toInt hb]; omega
theorem nI_le_iff {a b : Nat} (ha : a < 2 ^ 31) (hb : b < 2 ^ 31) : nI a ≤ nI b ↔ a ≤ b := by
  rw [Int32.le_iff_toInt_le, nI_toInt ha, nI_toInt hb]; omega
theorem nI_eq_iff {a b : Nat} (ha : a < 2 ^ 31) (hb : b < 2 ^ 31) : nI a = nI b ↔ a = b := by
  constructor
  · intro h
    have := congrArg Int32.toInt h
    rw [nI_toInt ha, nI_toInt hb] at this
    omega
  · rintro rfl; rfl
/-- longs of a row of cells, from place 0 to n -/
def wL (M : MM) (p n : Nat) (f : Nat → Int64) : MM := (M.1, (fun b j => if b = p ∧ j < n then f j else M.2.1 b j), M.2.2)
theorem wL_0 (M : MM) (p : Nat) (f : Nat → Int64) : wL M p 0 f = M := by
  show (M.1, _, M.2.2) = (M.1, M.2.1, M.2.2)
  congr 2
  funext b j
  simp
theorem wL_succ (M : MM) (p i : Nat) (f : Nat → Int64) {v : Int64} (hv : v = f i) : sL (wL M p i f) p i v = wL M p (i + 1) f := by
  subst hv
  show (M.1, _, M.2.2) = (M.1, _, M.2.2)
  congr 2
  funext b j
  simp only [up2, wL]
  by_cases hb : b = p
  · subst hb
    by_cases hj : j = i
    · subst hj; simp
    · by_cases h2 : j < i
      · simp [hj, h2, Nat.lt_succ_of_lt h2]
      · simp [hj, h2, show ¬ j < i + 1 by omega]
  · simp [hb]
theorem wL_at (M : MM) (p n : Nat) (f : Nat → Int64) (j : Nat) : (wL M p n f).2.1 p j = if j < n then f j else M.2.1 p j := by simp [wL]
theorem wL_ge (M : MM) (p n : Nat) (f : Nat → Int64) (b : Nat) {j : Nat} (h : n ≤ j) : (wL M p n f).2.1 b j = M.2.1 b j := by simp [wL, Nat.not_lt.mpr h]
theorem wL_ne (M : MM) {p b : Nat} (n : Nat) (f : Nat → Int64) (j : Nat) (h : b ≠ p) : (wL M p n f).2.1 b j = M.2.1 b j := by simp [wL, h]
theorem wL_congr (M : MM) (p n : Nat) {f g : Nat → Int64} (h : ∀ j, j < n → f j = g j) : wL M p n f = wL M p n g := by
  show (M.1, _, M.2.2) = (M.1, _, M.2.2)
  congr 2
  funext b j
  by_cases hb : b = p ∧ j < n
  · simp only [wL, if_pos hb, h j hb.2]
  · simp only [wL, if_neg hb]
/-- the same of ints -/
def wI (M : MM) (p n : Nat) (f : Nat → Int32) : MM := ((fun b j => if b = p ∧ j < n then f j else M.1 b j), M.2.1, M.2.2)
theorem wI_0 (M : MM) (p : Nat) (f : Nat → Int32) : wI M p 0 f = M := by
  show (_, M.2.1, M.2.2) = (M.1, M.2.1, M.2.2)
  congr 1
  funext b j
  simp
theorem wI_succ (M : MM) (p i : Nat) (f : Nat → Int32) {v : Int32} (hv : v = f i) : sI (wI M p i f) p i v = wI M p (i + 1) f := by
  subst hv
  show (_, M.2.1, M.2.2) = (_, M.2.1, M.2.2)
  congr 1
  funext b j
  simp only [up2, wI]
  by_cases hb : b = p
  · subst hb
    by_cases hj : j = i
    · subst hj; simp
    · by_cases h2 : j < i
      · simp [hj, h2, Nat.lt_succ_of_lt h2]
      · simp [hj, h2, show ¬ j < i + 1 by omega]
  · simp [hb]
theorem wI_at (M : MM) (p n : Nat) (f : Nat → Int32) (j : Nat) : (wI M p n f).1 p j = if j < n then f j else M.1 p j := by simp [wI]
theorem wI_ge (M : MM) (p n : Nat) (f : Nat → Int32) (b : Nat) {j : Nat} (h : n ≤ j) : (wI M p n f).1 b j = M.1 b j := by simp [wI, Nat.not_lt.mpr h]
theorem wI_ne (M : MM) {p b : Nat} (n : Nat) (f : Nat → Int32) (j : Nat) (h : b ≠ p) : (wI M p n f).1 b j = M.1 b j := by simp [wI, h]
/-! sets of states, as bits of a number -/
abbrev ST : Type := Nat → Bool
def enN (S : ST) (o : Nat) : Nat → Nat
  | 0 => 0
  | n + 1 => enN S o n + (if S (o + n) then 2 ^ n else 0)
theorem enN_lt (S : ST) (o : Nat) : ∀ n, enN S o n < 2 ^ n
  | 0 => by simp [enN]
  | n + 1 => by
    have := enN_lt S o n
    rw [enN, Nat.pow_succ]
    split <;> omega
theorem enN_bit (S : ST) (o : Nat) : ∀ n i, (enN S o n).testBit i = (decide (i < n) && S (o + i))
  | 0, i => by simp [enN]
  | n + 1, i => by
    have hlt := enN_lt S o n
    have ih := enN_bit S o n i
    rw [enN]
    by_cases hs : S (o + n) = true
    · rw [if_pos hs, Nat.add_comm, show 2 ^ n + enN S o n = 2 ^ n * 1 + enN S o n by rw [Nat.mul_one], Nat.testBit_two_pow_mul_add 1 hlt i]
      by_cases hi : i < n
      · rw [if_pos hi, ih]
        simp [hi, Nat.lt_succ_of_lt hi]
      · rw [if_neg hi]
        by_cases he : i = n
        · subst he; simp [hs]
        · have h1 : (1 : Nat).testBit (i - n) = false := by
            obtain ⟨m, hm⟩ : ∃ m, i - n = m + 1 := ⟨i - n - 1, by omega⟩
            rw [hm]; simp [Nat.testBit_succ]
          rw [h1]
          simp [show ¬ i < n + 1 by omega]
    · rw [if_neg hs, Nat.add_zero, ih]
      by_cases hi : i = n
      · subst hi; simp [hs]
      · have : (decide (i < n + 1)) = decide (i < n) := by
          congr 1
          exact propext ⟨fun h => by omega, fun h => by omega⟩
        rw [this]
theorem enN_eq {S : ST} {o n x : Nat} (h : ∀ i, x.testBit i = (decide (i < n) && S (o + i))) : x = enN S o n := Nat.eq_of_testBit_eq (fun i => by rw [h, enN_bit])
theorem enN_congr {S T : ST} {o n : Nat} (h : ∀ i, i < n → S (o + i) = T (o + i)) : enN S o n = enN T o n := enN_eq (fun i => by
  rw [enN_bit]
  by_cases hi : i < n
  · rw [h i hi]
  · simp [hi])
/-- a plane of 36 states -/
def encF (S : ST) (k : Nat) : Int64 := lN (enN S (36 * k) 36)
theorem encF_and (S T : ST) (k : Nat) : encF S k &&& encF T k = encF (fun s => S s && T s) k := by
  unfold encF
  rw [fb_andL]
  congr 1
  refine enN_eq (fun i => ?_)
  rw [Nat.testBit_and, enN_bit, enN_bit]
  cases decide (i < 36) <;> cases S (36 * k + i) <;> cases T (36 * k + i) <;> rfl
theorem encF_or (S T : ST) (k : Nat) : encF S k ||| encF T k = encF (fun s => S s || T s) k := by
  unfold encF
  rw [fb_orL]
  congr 1
  refine enN_eq (fun i => ?_)
  rw [Nat.testBit_or, enN_bit, enN_bit]
  cases decide (i < 36) <;> cases S (36 * k + i) <;> cases T (36 * k + i) <;> rfl
theorem lN_m1 : (-1 : Int64) = lN (2 ^ 64 - 1) := by decide +kernel
theorem encF_diff (S T : ST) (k : Nat) : encF S k &&& (encF T k ^^^ (-1)) = encF (fun s => S s && !T s) k := by
  unfold encF
  rw [lN_m1, fb_xorL, fb_andL]
  congr 1
  refine enN_eq (fun i => ?_)
  rw [Nat.testBit_and, Nat.testBit_xor, enN_bit, enN_bit, Nat.testBit_two_pow_sub_one]
  by_cases hi : i < 36
  · simp [hi, show i < 64 by omega]
  · simp [hi]
theorem encF_all (k : Nat) : (68719476735 : Int64) = encF (fun _ => true) k := by
  rw [fa_litL]
  refine congrArg lN (enN_eq (fun i => ?_))
  have e : Nat.testBit 68719476735 i = decide (i < 36) := Nat.testBit_two_pow_sub_one 36 i
  exact e.trans (by simp)
theorem encF_none (k : Nat) : (0 : Int64) = encF (fun _ => false) k := by
  unfold encF
  rw [show enN (fun _ => false) (36 * k) 36 = 0 from (enN_eq (fun i => by simp)).symm]
  rfl
theorem encF_congr {S T : ST} {k : Nat} (h : ∀ s, s / 36 = k → S s = T s) : encF S k = encF T k := by
  unfold encF
  congr 1
  exact enN_congr (fun i hi => h _ (by omega))
theorem encF_inj {S T : ST} {k : Nat} (h : encF S k = encF T k) {s : Nat} (hs : s / 36 = k) : S s = T s := by
  unfold encF at h
  have h1 := (fb_lN_inj (Nat.lt_trans (enN_lt S (36 * k) 36) (by decide)) (Nat.lt_trans (enN_lt T (36 * k) 36) (by decide))).mp h
  have h2 := congrArg (fun x => x.testBit (s % 36)) h1
  simp only [enN_bit] at h2
  have h3 : s % 36 < 36 := Nat.mod_lt _ (by decide)
  have h4 : 36 * k + s % 36 = s := by omega
  simpa [h3, h4] using h2
theorem encF_zero {S : ST} {k : Nat} : encF S k = 0 ↔ ∀ s, s / 36 = k → S s = false := by
  constructor
  · intro h s hs
    rw [encF_none k] at h
    exact encF_inj h hs
  · intro h
    rw [encF_none k]
    exact encF_congr h
/-- a set of states in the cell a (a row of six planes in the cell behind it) -/
def isS (G : GG) (R : Nat → Nat → Value) (a : Nat) : Prop := G a = some (.inl 9) ∧ R a 0 = .ref (a + 1) ∧ G (a + 1) = some (.inr (.long, 6))
def hasS (M : MM) (a : Nat) (S : ST) : Prop := ∀ k, k < 6 → M.2.1 (a + 1) k = encF S k
def setS (M : MM) (a : Nat) (S : ST) : MM := wL M (a + 1) 6 (encF S)
theorem hasS_set (M : MM) (a : Nat) (S : ST) : hasS (setS M a S) a S := fun k hk => by rw [setS, wL_at, if_pos hk]
theorem hasS_ne {M : MM} {a b : Nat} {T : ST} (S : ST) (h : hasS M b T) (hab : b ≠ a) : hasS (setS M a S) b T := fun k hk => by rw [setS, wL_ne _ _ _ _ (by omega)]; exact h k hk
theorem hasS_congr {M : MM} {a : Nat} {S T : ST} (h : hasS M a S) (hST : ∀ s, s < 216 → S s = T s) : hasS M a T := fun k hk => by rw [h k hk]; exact encF_congr (fun s hs => hST s (by omega))
theorem setS_congr (M : MM) (a : Nat) {S T : ST} (hST : ∀ s, s < 216 → S s = T s) : setS M a S = setS M a T := wL_congr _ _ _ (fun k hk => encF_congr (fun s hs => hST s (by omega)))
/-- is there a state of the set? -/
def anyS (S : ST) : Bool := (List.range 216).any S
theorem anyS_iff {S : ST} : anyS S = true ↔ ∃ s, s < 216 ∧ S s = true := by simp [anyS, List.any_eq_true]
theorem anyS_not {S : ST} : anyS S = false ↔ ∀ s, s < 216 → S s = false := by
  simp [anyS, List.any_eq_false]
def b2i (b : Bool) : Int32 := if b then 1 else 0
theorem b2i_01 (b : Bool) : b2i b = 0 ∨ b2i b = 1 := by cases b <;> simp [b2i]
theorem b2i_0 {b : Bool} : b2i b = 0 ↔ b = false := by cases b <;> decide
theorem b2i_1 {b : Bool} : b2i b = 1 ↔ b = true := by cases b <;> decide
/-- a loop that counts up to N -/
theorem upto {P : Nat → Prop} (N : Nat) (h : ∀ i, i ≤ N → (i < N → P (i + 1)) → P i) : ∀ i, i ≤ N → P i := by
  have : ∀ n i, i + n = N → P i := by
    intro n
    induction n with
    | zero => intro i hi; exact h i (by omega) (fun q => absurd q (by omega))
    | succ n ih => intro i hi; exact h i (by omega) (fun _ => ih (i + 1) (by omega))
  exact fun i hi => this (N - i) i (by omega)
theorem up_ge {i N : Nat} (hN : N < 2 ^ 31) (hi : i ≤ N) (c : nI N ≤ nI i) : i = N := by
  have := (nI_le_iff hN (by omega)).mp c
  omega
theorem up_lt {i N : Nat} (hN : N < 2 ^ 31) (hi : i ≤ N) (c : ¬ nI N ≤ nI i) : i < N := by
  rcases Nat.lt_or_ge i N with q | q
  · exact q
  · exact absurd ((nI_le_iff hN (by omega)).mpr q) c
section VR
variable {Γ : GT} {E : CT} {q : MD} {k n : Nat} {G : GG} {z : Nat} {M : MM} {pc : Nat} {L : List (Option Value)} {st : List Value}
theorem x_lastw (h : Ok Γ E q) {p m : Nat} {i : Int32} {x : Int64} (j : Nat) {f : Nat → Int64} (hG : G p = some (.inr (.long, m))) (hi : ix i j m) (hv : x = f j) (d : decode q.2.1 pc = .ok (.lastore, 1)) (kk : X Γ E k n G z (wL M p (j + 1) f) (pc + 1) L st) : X Γ E k n G z (wL M p j f) pc L (.long x :: .int i :: .ref p :: st) :=
  x_last h j hG hi d (by rw [wL_succ _ _ _ _ hv]; exact kk)
theorem x_iastw (h : Ok Γ E q) {p m : Nat} {i : Int32} {x : Int32} (j : Nat) {f : Nat → Int32} (hG : G p = some (.inr (.int, m))) (hi : ix i j m) (hv : x = f j) (d : decode q.2.1 pc = .ok (.iastore, 1)) (kk : X Γ E k n G z (wI M p (j + 1) f) (pc + 1) L st) : X Γ E k n G z (wI M p j f) pc L (.int x :: .int i :: .ref p :: st) :=
  x_iast h j hG hi d (by rw [wI_succ _ _ _ _ hv]; exact kk)
theorem x_laldv (h : Ok Γ E q) {a m : Nat} {i : Int32} (j : Nat) (hG : G a = some (.inr (.long, m))) (hi : ix i j m) {v : Int64} (hv : M.2.1 a j = v) (d : decode q.2.1 pc = .ok (.laload, 1)) (kk : X Γ E k n G z M (pc + 1) L (.long v :: st)) : X Γ E k n G z M pc L (.int i :: .ref a :: st) := x_lald h j hG hi d (by rw [hv]; exact kk)
theorem x_ialdv (h : Ok Γ E q) {a m : Nat} {i : Int32} (j : Nat) (hG : G a = some (.inr (.int, m))) (hi : ix i j m) {v : Int32} (hv : M.1 a j = v) (d : decode q.2.1 pc = .ok (.iaload, 1)) (kk : X Γ E k n G z M (pc + 1) L (.int v :: st)) : X Γ E k n G z M pc L (.int i :: .ref a :: st) := x_iald h j hG hi d (by rw [hv]; exact kk)
theorem x_caldv (h : Ok Γ E q) {a m : Nat} {i : Int32} (j : Nat) (hG : G a = some (.inr (.char, m))) (hi : ix i j m) {v : Int32} (hv : M.1 a j = v) (d : decode q.2.1 pc = .ok (.caload, 1)) (kk : X Γ E k n G z M (pc + 1) L (.int v :: st)) : X Γ E k n G z M pc L (.int i :: .ref a :: st) := x_cald h j hG hi d (by rw [hv]; exact kk)
theorem x_getIv (h : Ok Γ E q) {a ci fi idx : Nat} (hG : G a = some (.inl ci)) (hf : FL q.1.cls idx ci fi) (ht : tk (cY ci fi) = 0) {v : Int32} (hv : M.1 a fi = v) (d : decode q.2.1 pc = .ok (.getfield idx, 3)) (kk : X Γ E k n G z M (pc + 3) L (.int v :: st)) : X Γ E k n G z M pc L (.ref a :: st) := x_getI h hG hf ht d (by rw [hv]; exact kk)
theorem x_iincv (h : Ok Γ E q) {i : Nat} {c : Int} {x : Int32} (y : Int32) {v : Int32} (hv : Int32.ofInt c = v) (d : decode q.2.1 pc = .ok (.iinc i c, 3)) (hx : L[i]? = some (some (.int x))) (hy : x + v = y) (hi : Nat.blt i L.length = true) (hc : chk1 L i = true) (kk : X Γ E k n G z M (pc + 3) (L.set i (some (.int y))) st) : X Γ E k n G z M pc L st := x_iinc h v hv d hx hi hc (by rw [hy]; exact kk)
/-- another memory, the same one -/
theorem x_mem {M' : MM} (e : M = M') (kk : X Γ E k n G z M' pc L st) : X Γ E k n G z M pc L st := by rw [e]; exact kk
/-- the same locals, written otherwise -/
theorem x_loc {L' : List (Option Value)} (e : L = L') (kk : X Γ E k n G z M pc L' st) : X Γ E k n G z M pc L st := by rw [e]; exact kk
/-- the top of the stack by another name -/
theorem x_topi {x y : Int32} (e : x = y) (kk : X Γ E k n G z M pc L (.int y :: st)) : X Γ E k n G z M pc L (.int x :: st) := by rw [e]; exact kk
theorem x_topl {x y : Int64} (e : x = y) (kk : X Γ E k n G z M pc L (.long y :: st)) : X Γ E k n G z M pc L (.long x :: st) := by rw [e]; exact kk
end VR
