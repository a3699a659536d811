/-! ===== what the reader has read, as a table of numbers: rows 0..124 the code, rows 200, 201 the reader ===== -/
abbrev RT : Type := Nat → Nat → Nat
def tU (T : RT) (a f x : Nat) : RT := fun b g => if b = a ∧ g = f then x else T b g
theorem tU_same (T : RT) (a f x : Nat) : tU T a f x a f = x := by simp [tU]
theorem tU_ne {T : RT} {a f x b g : Nat} (h : ¬ (b = a ∧ g = f)) : tU T a f x b g = T b g := by simp only [tU, if_neg h]
def refS (a f : Nat) : Prop := a = 3 ∧ f < 5 ∨ a = 4 ∧ f < 4 ∨ 65 ≤ a ∧ a < 125 ∧ f = 4
def rdW (M : MM) (u c : Nat) (T : RT) : Prop := (∀ a f, a < 125 → ¬ refS a f → M.1 (c + a) f = nI (T a f)) ∧ (∀ a f, a < 2 → M.1 (u + a) f = nI (T (200 + a) f)) ∧ (∀ a f, refS a f → M.2.2 (c + a) f = .ref (c + 5 + 3 * T a f) ∧ T a f < 20)
def frm (u c : Nat) (M N : MM) : Prop := N.2.1 = M.2.1 ∧ (∀ b j, ¬ (c ≤ b ∧ b < c + 125) → ¬ (u ≤ b ∧ b < u + 2) → N.1 b j = M.1 b j) ∧ (∀ b j, ¬ (c ≤ b ∧ refS (b - c) j) → N.2.2 b j = M.2.2 b j)
/-- the memory N holds the table T, and is M elsewhere -/
def rdS (u c : Nat) (M N : MM) (T : RT) : Prop := rdW N u c T ∧ frm u c M N
theorem rdS_0 {M : MM} {u c : Nat} {T : RT} (h : rdW M u c T) : rdS u c M M T := ⟨h, rfl, fun _ _ _ _ => rfl, fun _ _ _ => rfl⟩
theorem rdS_c {u c : Nat} {M N : MM} {T : RT} (hd : u + 2 ≤ c ∨ c + 125 ≤ u) (h : rdS u c M N T) {a f x : Nat} (ha : a < 125) (hr : ¬ refS a f) : rdS u c M (sI N (c + a) f (nI x)) (tU T a f x) := by
  obtain ⟨⟨h1, h2, h3⟩, f1, f2, f3⟩ := h
  refine ⟨⟨fun b g hb hg => ?_, fun b g hb => ?_, fun b g hg => ?_⟩, f1, fun b j q1 q2 => ?_, f3⟩
  · by_cases e : b = a ∧ g = f
    · obtain ⟨rfl, rfl⟩ := e
      rw [tU_same]; exact up2_self _ _ _ _
    · rw [tU_ne e]
      exact (up2_ne _ _ (by omega)).trans (h1 b g hb hg)
  · rw [tU_ne (by omega)]
    exact (up2_ne _ _ (by omega)).trans (h2 b g hb)
  · rw [tU_ne (a := a) (f := f) (b := b) (g := g) (fun e => hr (by rw [← e.1, ← e.2]; exact hg))]
    exact h3 b g hg
  · exact (up2_ne _ _ (by omega)).trans (f2 b j q1 q2)
theorem rdS_u {u c : Nat} {M N : MM} {T : RT} (hd : u + 2 ≤ c ∨ c + 125 ≤ u) (h : rdS u c M N T) {a f x : Nat} (ha : a < 2) : rdS u c M (sI N (u + a) f (nI x)) (tU T (200 + a) f x) := by
  obtain ⟨⟨h1, h2, h3⟩, f1, f2, f3⟩ := h
  refine ⟨⟨fun b g hb hg => ?_, fun b g hb => ?_, fun b g hg => ?_⟩, f1, fun b j q1 q2 => ?_, f3⟩
  · rw [tU_ne (by omega)]
    exact (up2_ne _ _ (by omega)).trans (h1 b g hb hg)
  · by_cases e : b = a ∧ g = f
    · obtain ⟨rfl, rfl⟩ := e
      rw [tU_same]; exact up2_self _ _ _ _
    · rw [tU_ne (by omega)]
      exact (up2_ne _ _ (by omega)).trans (h2 b g hb)
  · rw [tU_ne (by unfold refS at hg; omega)]
    exact h3 b g hg
  · exact (up2_ne _ _ (by omega)).trans (f2 b j q1 q2)
theorem rdS_r {u c : Nat} {M N : MM} {T : RT} (h : rdS u c M N T) {a f x : Nat} (hr : refS a f) (hx : x < 20) : rdS u c M (sR N (c + a) f (.ref (c + 5 + 3 * x))) (tU T a f x) := by
  obtain ⟨⟨h1, h2, h3⟩, f1, f2, f3⟩ := h
  refine ⟨⟨fun b g hb hg => ?_, fun b g hb => ?_, fun b g hg => ?_⟩, f1, f2, fun b j q => ?_⟩
  · rw [tU_ne (fun e => hg (by rw [e.1, e.2]; exact hr))]
    exact h1 b g hb hg
  · rw [tU_ne (by unfold refS at hr; omega)]
    exact h2 b g hb
  · by_cases e : b = a ∧ g = f
    · obtain ⟨rfl, rfl⟩ := e
      rw [tU_same]; exact ⟨up2_self _ _ _ _, hx⟩
    · rw [tU_ne e]
      exact ⟨(up2_ne _ _ (by omega)).trans (h3 b g hg).1, (h3 b g hg).2⟩
  · refine (up2_ne _ _ ?_).trans (f3 b j q)
    rintro ⟨rfl, rfl⟩
    exact q ⟨by omega, by rw [show c + a - c = a by omega]; exact hr⟩
/-- what the small methods do to the table -/
def apT (T : RT) (k : Nat) : RT := tU (tU (tU (tU T 0 1 (T 0 1 + 1)) (65 + T 0 1) 0 k) (65 + T 0 1) 4 0) 0 10 (if isStm k then T 0 10 + 1 else T 0 10)
def ncT (T : RT) (x y w : Nat) : RT := tU (tU (tU (tU T 0 3 (T 0 3 + 1)) (5 + 3 * T 0 3) 0 x) (5 + 3 * T 0 3) 1 y) (5 + 3 * T 0 3) 2 w
def phT (T : RT) (pl : Nat) : RT := tU (tU T 201 (T 200 5) pl) 200 5 (T 200 5 + 1)
theorem rdS_ap {u c : Nat} {M N : MM} {T : RT} (hd : u + 2 ≤ c ∨ c + 125 ≤ u) (h : rdS u c M N T) {n k st : Nat} (hn : T 0 1 = n) (hst : T 0 10 = st) (h60 : n < 60) : rdS u c M (apM N c n k st) (apT T k) := by
  subst hn hst
  have a1 := rdS_c hd h (a := 0) (f := 1) (x := T 0 1 + 1) (by decide) (by unfold refS; omega)
  have a2 := rdS_c hd a1 (a := 65 + T 0 1) (f := 0) (x := k) (by omega) (by unfold refS; omega)
  have a3 := rdS_r a2 (a := 65 + T 0 1) (f := 4) (x := 0) (by unfold refS; omega) (by decide)
  have a4 := rdS_c hd a3 (a := 0) (f := 10) (x := if isStm k then T 0 10 + 1 else T 0 10) (by decide) (by unfold refS; omega)
  rw [← Nat.add_assoc c 65 (T 0 1)] at a4
  exact a4
theorem rdS_nc {u c : Nat} {M N : MM} {T : RT} (hd : u + 2 ≤ c ∨ c + 125 ≤ u) (h : rdS u c M N T) {j x y w : Nat} (hj : T 0 3 = j) (h20 : j < 20) : rdS u c M (ncM N c j (nI x) (nI y) (nI w)) (ncT T x y w) := by
  subst hj
  have a1 := rdS_c hd h (a := 0) (f := 3) (x := T 0 3 + 1) (by decide) (by unfold refS; omega)
  have a2 := rdS_c hd a1 (a := 5 + 3 * T 0 3) (f := 0) (x := x) (by omega) (by unfold refS; omega)
  have a3 := rdS_c hd a2 (a := 5 + 3 * T 0 3) (f := 1) (x := y) (by omega) (by unfold refS; omega)
  have a4 := rdS_c hd a3 (a := 5 + 3 * T 0 3) (f := 2) (x := w) (by omega) (by unfold refS; omega)
  rw [← Nat.add_assoc c 5 (3 * T 0 3)] at a4
  exact a4
theorem rdS_ph {u c : Nat} {M N : MM} {T : RT} (hd : u + 2 ≤ c ∨ c + 125 ≤ u) (h : rdS u c M N T) {dp pl : Nat} (hdp : T 200 5 = dp) : rdS u c M (phM N u dp pl) (phT T pl) := by
  subst hdp
  exact rdS_u hd (a := 0) (rdS_u hd h (a := 1) (f := T 200 5) (x := pl) (by decide)) (f := 5) (x := T 200 5 + 1) (by decide)
theorem rdS_codeF {u c : Nat} {G : GG} {M N : MM} {T : RT} (h : rdS u c M N T) (hW : codeF G M.2.2 c) : codeF G N.2.2 c := codeF_r hW (fun b j q1 q2 q3 q4 q5 => h.2.2.2 b j (fun ⟨_, e⟩ => by have q2' : b ≠ c + 3 := q2; have q3' : b ≠ c + 4 := q3; unfold refS at e; omega))
theorem rdS_rdF {u c : Nat} {G : GG} {M N : MM} {T : RT} (hd : u + 2 ≤ c ∨ c + 125 ≤ u) (h : rdS u c M N T) (hR : rdF G M.2.2 u) : rdF G N.2.2 u := ⟨hR.1, (h.2.2.2 u 4 (fun ⟨_, e⟩ => by unfold refS at e; omega)).trans hR.2.1, hR.2.2⟩
