/-! ===== brackets: each has its other end ===== -/
/-- rows R of n nodes (0 kind, 2 number, 3 partner, 4 condition); O: still open -/
def brkF (n : Nat) (R : Nat → Nat → Nat) (O : Nat → Prop) : Prop := ∀ j, j < n →
  (R j 0 = 6 → O j ∨ (j < R j 3 ∧ R j 3 < n ∧ R (R j 3) 0 = 7 ∧ R (R j 3) 3 = j)) ∧
  (R j 0 = 7 → R j 3 < j ∧ R (R j 3) 0 = 6 ∧ R (R j 3) 3 = j ∧ R (R j 3) 2 = R j 2 ∧ R (R j 3) 4 = R j 4 ∧ ¬ O (R j 3)) ∧
  (R j 0 = 8 → O j ∨ (j < R j 3 ∧ R j 3 < n ∧ R (R j 3) 0 = 9 ∧ R (R j 3) 2 = R j 2)) ∧
  (R j 0 = 9 → (∃ i, i < j ∧ R i 0 = 8 ∧ R i 3 = j ∧ R i 2 = R j 2 ∧ ¬ O i) ∧ (O j ∨ (j < R j 3 ∧ R j 3 < n ∧ R (R j 3) 0 = 10 ∧ R (R j 3) 2 = R j 2))) ∧
  (R j 0 = 10 → ∃ i, i < j ∧ R i 0 = 9 ∧ R i 3 = j ∧ R i 2 = R j 2 ∧ ¬ O i)
/-- a node added that is no bracket, or one that opens -/
theorem brk_app {n : Nat} {R R' : Nat → Nat → Nat} {O O' : Nat → Prop} (h : brkF n R O) (e : ∀ j i, j < n → i < 5 → R' j i = R j i) (eO : ∀ j, j < n → (O' j ↔ O j)) (hn : R' n 0 < 6 ∨ ((R' n 0 = 6 ∨ R' n 0 = 8) ∧ O' n)) : brkF (n + 1) R' O' := by
  intro j hj
  rcases Nat.lt_or_ge j n with q | q
  · obtain ⟨a, b, c, d, f⟩ := h j q
    rw [e j 0 q (by omega), e j 2 q (by omega), e j 3 q (by omega), e j 4 q (by omega)]
    refine ⟨fun k => ?_, fun k => ?_, fun k => ?_, fun k => ?_, fun k => ?_⟩
    · rcases a k with u | ⟨u1, u2, u3, u4⟩
      · exact Or.inl ((eO j q).mpr u)
      · exact Or.inr ⟨u1, by omega, by rw [e _ 0 u2 (by omega)]; exact u3, by rw [e _ 3 u2 (by omega)]; exact u4⟩
    · obtain ⟨u1, u2, u3, u4, u5, u6⟩ := b k
      have u0 : R j 3 < n := by omega
      exact ⟨u1, by rw [e _ 0 u0 (by omega)]; exact u2, by rw [e _ 3 u0 (by omega)]; exact u3, by rw [e _ 2 u0 (by omega)]; exact u4, by rw [e _ 4 u0 (by omega)]; exact u5, fun x => u6 ((eO _ u0).mp x)⟩
    · rcases c k with u | ⟨u1, u2, u3, u4⟩
      · exact Or.inl ((eO j q).mpr u)
      · exact Or.inr ⟨u1, by omega, by rw [e _ 0 u2 (by omega)]; exact u3, by rw [e _ 2 u2 (by omega)]; exact u4⟩
    · obtain ⟨⟨i, i1, i2, i3, i4, i5⟩, u⟩ := d k
      have i0 : i < n := by omega
      refine ⟨⟨i, i1, by rw [e i 0 i0 (by omega)]; exact i2, by rw [e i 3 i0 (by omega)]; exact i3, by rw [e i 2 i0 (by omega)]; exact i4, fun x => i5 ((eO i i0).mp x)⟩, ?_⟩
      rcases u with u | ⟨u1, u2, u3, u4⟩
      · exact Or.inl ((eO j q).mpr u)
      · exact Or.inr ⟨u1, by omega, by rw [e _ 0 u2 (by omega)]; exact u3, by rw [e _ 2 u2 (by omega)]; exact u4⟩
    · obtain ⟨i, i1, i2, i3, i4, i5⟩ := f k
      have i0 : i < n := by omega
      exact ⟨i, i1, by rw [e i 0 i0 (by omega)]; exact i2, by rw [e i 3 i0 (by omega)]; exact i3, by rw [e i 2 i0 (by omega)]; exact i4, fun x => i5 ((eO i i0).mp x)⟩
  · obtain rfl : j = n := by omega
    refine ⟨fun k => ?_, fun k => ?_, fun k => ?_, fun k => ?_, fun k => ?_⟩
    · rcases hn with u | u
      · omega
      · exact Or.inl u.2
    · omega
    · rcases hn with u | u
      · omega
      · exact Or.inl u.2
    · omega
    · omega
/-- the innermost bracket pl gets its other end, the new node -/
theorem brk_end {n pl : Nat} {R R' : Nat → Nat → Nat} {O O' : Nat → Prop} (h : brkF n R O) (hp : pl < n) (hop : O pl) (e : ∀ j i, j < n → i < 5 → (j ≠ pl ∨ i ≠ 3) → R' j i = R j i) (e3 : R' pl 3 = n) (eO : ∀ j, j < n → (O' j ↔ O j ∧ j ≠ pl)) (e2 : R' n 2 = R pl 2) (hk : (R pl 0 = 6 ∧ R' n 0 = 7 ∧ R' n 3 = pl ∧ R' n 4 = R pl 4) ∨ (R pl 0 = 8 ∧ R' n 0 = 9 ∧ O' n) ∨ (R pl 0 = 9 ∧ R' n 0 = 10)) : brkF (n + 1) R' O' := by
  have eP : ∀ i, i < 5 → i ≠ 3 → R' pl i = R pl i := fun i hi h3 => e pl i hp hi (Or.inr h3)
  intro j hj
  rcases Nat.lt_or_ge j n with q | q
  · obtain ⟨a, b, c, d, f⟩ := h j q
    by_cases jp : j = pl
    · subst jp
      rw [eP 0 (by omega) (by omega), eP 2 (by omega) (by omega), e3]
      refine ⟨fun k => ?_, fun k => ?_, fun k => ?_, fun k => ?_, fun k => ?_⟩
      · rcases hk with u | u | u
        · exact Or.inr ⟨q, by omega, u.2.1, u.2.2.1⟩
        · omega
        · omega
      · omega
      · rcases hk with u | u | u
        · omega
        · exact Or.inr ⟨q, by omega, u.2.1, e2⟩
        · omega
      · rcases hk with u | u | u
        · omega
        · omega
        · obtain ⟨⟨i, i1, i2, i3, i4, i5⟩, -⟩ := d k
          have i0 : i < n := by omega
          have ip : i ≠ j := by omega
          exact ⟨⟨i, i1, by rw [e i 0 i0 (by omega) (Or.inl ip)]; exact i2, by rw [e i 3 i0 (by omega) (Or.inl ip)]; exact i3, by rw [e i 2 i0 (by omega) (Or.inl ip)]; exact i4, fun x => i5 ((eO i i0).mp x).1⟩, Or.inr ⟨q, by omega, u.2, e2⟩⟩
      · omega
    · have eJ : ∀ i, i < 5 → R' j i = R j i := fun i hi => e j i q hi (Or.inl jp)
      rw [eJ 0 (by omega), eJ 2 (by omega), eJ 3 (by omega), eJ 4 (by omega)]
      have oJ : O j → O' j := fun u => (eO j q).mpr ⟨u, jp⟩
      refine ⟨fun k => ?_, fun k => ?_, fun k => ?_, fun k => ?_, fun k => ?_⟩
      · rcases a k with u | ⟨u1, u2, u3, u4⟩
        · exact Or.inl (oJ u)
        · have : R j 3 ≠ pl := fun x => by rw [x] at u3; rcases hk with y | y | y <;> omega
          exact Or.inr ⟨u1, by omega, by rw [e _ 0 u2 (by omega) (Or.inl this)]; exact u3, by rw [e _ 3 u2 (by omega) (Or.inl this)]; exact u4⟩
      · obtain ⟨u1, u2, u3, u4, u5, u6⟩ := b k
        have u0 : R j 3 < n := by omega
        have : R j 3 ≠ pl := fun x => u6 (by rw [x]; exact hop)
        exact ⟨u1, by rw [e _ 0 u0 (by omega) (Or.inl this)]; exact u2, by rw [e _ 3 u0 (by omega) (Or.inl this)]; exact u3, by rw [e _ 2 u0 (by omega) (Or.inl this)]; exact u4, by rw [e _ 4 u0 (by omega) (Or.inl this)]; exact u5, fun x => u6 ((eO _ u0).mp x).1⟩
      · rcases c k with u | ⟨u1, u2, u3, u4⟩
        · exact Or.inl (oJ u)
        · exact Or.inr ⟨u1, by omega, by rw [e _ 0 u2 (by omega) (Or.inr (by omega))]; exact u3, by rw [e _ 2 u2 (by omega) (Or.inr (by omega))]; exact u4⟩
      · obtain ⟨⟨i, i1, i2, i3, i4, i5⟩, u⟩ := d k
        have i0 : i < n := by omega
        have ip : i ≠ pl := fun x => i5 (by rw [x]; exact hop)
        refine ⟨⟨i, i1, by rw [e i 0 i0 (by omega) (Or.inl ip)]; exact i2, by rw [e i 3 i0 (by omega) (Or.inl ip)]; exact i3, by rw [e i 2 i0 (by omega) (Or.inl ip)]; exact i4, fun x => i5 ((eO i i0).mp x).1⟩, ?_⟩
        rcases u with u | ⟨u1, u2, u3, u4⟩
        · exact Or.inl (oJ u)
        · exact Or.inr ⟨u1, by omega, by rw [e _ 0 u2 (by omega) (Or.inr (by omega))]; exact u3, by rw [e _ 2 u2 (by omega) (Or.inr (by omega))]; exact u4⟩
      · obtain ⟨i, i1, i2, i3, i4, i5⟩ := f k
        have i0 : i < n := by omega
        have ip : i ≠ pl := fun x => i5 (by rw [x]; exact hop)
        exact ⟨i, i1, by rw [e i 0 i0 (by omega) (Or.inl ip)]; exact i2, by rw [e i 3 i0 (by omega) (Or.inl ip)]; exact i3, by rw [e i 2 i0 (by omega) (Or.inl ip)]; exact i4, fun x => i5 ((eO i i0).mp x).1⟩
  · obtain rfl : j = n := by omega
    have np : ¬ O' pl := fun x => ((eO pl hp).mp x).2 rfl
    refine ⟨fun k => ?_, fun k => ?_, fun k => ?_, fun k => ?_, fun k => ?_⟩
    · omega
    · rcases hk with u | u | u
      · obtain ⟨u1, u2, u3, u4⟩ := u
        rw [u3]
        exact ⟨hp, by rw [eP 0 (by omega) (by omega)]; exact u1, e3, by rw [eP 2 (by omega) (by omega), e2], by rw [eP 4 (by omega) (by omega), u4], np⟩
      · omega
      · omega
    · omega
    · rcases hk with u | u | u
      · omega
      · exact ⟨⟨pl, hp, by rw [eP 0 (by omega) (by omega)]; exact u.1, e3, by rw [eP 2 (by omega) (by omega), e2], np⟩, Or.inl u.2.2⟩
      · omega
    · rcases hk with u | u | u
      · omega
      · omega
      · exact ⟨pl, hp, by rw [eP 0 (by omega) (by omega)]; exact u.1, e3, by rw [eP 2 (by omega) (by omega), e2], np⟩
theorem brk_same {n : Nat} {R R' : Nat → Nat → Nat} {O O' : Nat → Prop} (h : brkF n R O) (e : ∀ j i, j < n → i < 5 → R' j i = R j i) (eO : ∀ j, j < n → (O' j ↔ O j)) : brkF n R' O' := by
  intro j q
  obtain ⟨a, b, c, d, f⟩ := h j q
  rw [e j 0 q (by omega), e j 2 q (by omega), e j 3 q (by omega), e j 4 q (by omega)]
  refine ⟨fun k => ?_, fun k => ?_, fun k => ?_, fun k => ?_, fun k => ?_⟩
  · rcases a k with u | ⟨u1, u2, u3, u4⟩
    · exact Or.inl ((eO j q).mpr u)
    · exact Or.inr ⟨u1, u2, by rw [e _ 0 u2 (by omega)]; exact u3, by rw [e _ 3 u2 (by omega)]; exact u4⟩
  · obtain ⟨u1, u2, u3, u4, u5, u6⟩ := b k
    have u0 : R j 3 < n := by omega
    exact ⟨u1, by rw [e _ 0 u0 (by omega)]; exact u2, by rw [e _ 3 u0 (by omega)]; exact u3, by rw [e _ 2 u0 (by omega)]; exact u4, by rw [e _ 4 u0 (by omega)]; exact u5, fun x => u6 ((eO _ u0).mp x)⟩
  · rcases c k with u | ⟨u1, u2, u3, u4⟩
    · exact Or.inl ((eO j q).mpr u)
    · exact Or.inr ⟨u1, u2, by rw [e _ 0 u2 (by omega)]; exact u3, by rw [e _ 2 u2 (by omega)]; exact u4⟩
  · obtain ⟨⟨i, i1, i2, i3, i4, i5⟩, u⟩ := d k
    have i0 : i < n := by omega
    refine ⟨⟨i, i1, by rw [e i 0 i0 (by omega)]; exact i2, by rw [e i 3 i0 (by omega)]; exact i3, by rw [e i 2 i0 (by omega)]; exact i4, fun x => i5 ((eO i i0).mp x)⟩, ?_⟩
    rcases u with u | ⟨u1, u2, u3, u4⟩
    · exact Or.inl ((eO j q).mpr u)
    · exact Or.inr ⟨u1, u2, by rw [e _ 0 u2 (by omega)]; exact u3, by rw [e _ 2 u2 (by omega)]; exact u4⟩
  · obtain ⟨i, i1, i2, i3, i4, i5⟩ := f k
    have i0 : i < n := by omega
    exact ⟨i, i1, by rw [e i 0 i0 (by omega)]; exact i2, by rw [e i 3 i0 (by omega)]; exact i3, by rw [e i 2 i0 (by omega)]; exact i4, fun x => i5 ((eO i i0).mp x)⟩
def isO (T : RT) (j : Nat) : Prop := ∃ d, d < T 200 5 ∧ T 201 d = j
def brk (T : RT) : Prop := (∀ d e, d < e → e < T 200 5 → T 201 d < T 201 e) ∧ brkF (T 0 1) (fun j i => T (65 + j) i) (isO T)
theorem br_same {T T' : RT} (h : brk T) (v1 : T' 0 1 = T 0 1) (v5 : T' 200 5 = T 200 5) (e : ∀ j i, j < T 0 1 → i < 5 → T' (65 + j) i = T (65 + j) i) (o : ∀ d, d < T 200 5 → T' 201 d = T 201 d) : brk T' := by
  have eO : ∀ j, isO T' j ↔ isO T j := fun j => ⟨fun ⟨d, a, b⟩ => ⟨d, by omega, by rw [← o d (by omega)]; exact b⟩, fun ⟨d, a, b⟩ => ⟨d, by omega, by rw [o d a]; exact b⟩⟩
  refine ⟨fun d e2 a b => ?_, ?_⟩
  · rw [o d (by omega), o e2 (by omega)]; exact h.1 d e2 a (by omega)
  · rw [v1]; exact brk_same h.2 e (fun j _ => eO j)
theorem br_app {T T' : RT} (h : brk T) (v1 : T' 0 1 = T 0 1 + 1) (v5 : T' 200 5 = T 200 5) (e : ∀ j i, j < T 0 1 → i < 5 → T' (65 + j) i = T (65 + j) i) (o : ∀ d, d < T 200 5 → T' 201 d = T 201 d) (k : T' (65 + T 0 1) 0 < 6) : brk T' := by
  have eO : ∀ j, isO T' j ↔ isO T j := fun j => ⟨fun ⟨d, a, b⟩ => ⟨d, by omega, by rw [← o d (by omega)]; exact b⟩, fun ⟨d, a, b⟩ => ⟨d, by omega, by rw [o d a]; exact b⟩⟩
  refine ⟨fun d e2 a b => ?_, ?_⟩
  · rw [o d (by omega), o e2 (by omega)]; exact h.1 d e2 a (by omega)
  · rw [v1]; exact brk_app h.2 e (fun j _ => eO j) (Or.inl k)
theorem br_opn {T T' : RT} (h : brk T) (hb : ∀ d, d < T 200 5 → T 201 d < T 0 1) (v1 : T' 0 1 = T 0 1 + 1) (v5 : T' 200 5 = T 200 5 + 1) (e : ∀ j i, j < T 0 1 → i < 5 → T' (65 + j) i = T (65 + j) i) (o : ∀ d, d < T 200 5 → T' 201 d = T 201 d) (o2 : T' 201 (T 200 5) = T 0 1) (k : T' (65 + T 0 1) 0 = 6 ∨ T' (65 + T 0 1) 0 = 8) : brk T' := by
  have eO : ∀ j, j < T 0 1 → (isO T' j ↔ isO T j) := fun j hj => ⟨fun ⟨d, a, b⟩ => by
    rcases Nat.lt_or_ge d (T 200 5) with q | q
    · exact ⟨d, q, by rw [← o d q]; exact b⟩
    · rw [show d = T 200 5 by omega, o2] at b; omega, fun ⟨d, a, b⟩ => ⟨d, by omega, by rw [o d a]; exact b⟩⟩
  refine ⟨fun d e2 a b => ?_, ?_⟩
  · rcases Nat.lt_or_ge e2 (T 200 5) with q | q
    · rw [o d (by omega), o e2 q]; exact h.1 d e2 a q
    · rw [show e2 = T 200 5 by omega, o2, o d (by omega)]; exact hb d (by omega)
  · rw [v1]; exact brk_app h.2 e eO (Or.inr ⟨k, T 200 5, by omega, o2⟩)
theorem br_end {T T' : RT} {pl : Nat} (h : brk T) (hb : ∀ d, d < T 200 5 → T 201 d < T 0 1) (h1 : 1 ≤ T 200 5) (hp2 : T 201 (T 200 5 - 1) = pl) (hp : pl < T 0 1) (v1 : T' 0 1 = T 0 1 + 1) (e : ∀ j i, j < T 0 1 → i < 5 → (j ≠ pl ∨ i ≠ 3) → T' (65 + j) i = T (65 + j) i) (e3 : T' (65 + pl) 3 = T 0 1) (o : ∀ d, d < T 200 5 - 1 → T' 201 d = T 201 d) (e2 : T' (65 + T 0 1) 2 = T (65 + pl) 2) (hk : (T' 200 5 = T 200 5 - 1 ∧ T (65 + pl) 0 = 6 ∧ T' (65 + T 0 1) 0 = 7 ∧ T' (65 + T 0 1) 3 = pl ∧ T' (65 + T 0 1) 4 = T (65 + pl) 4) ∨ (T' 200 5 = T 200 5 ∧ T' 201 (T 200 5 - 1) = T 0 1 ∧ T (65 + pl) 0 = 8 ∧ T' (65 + T 0 1) 0 = 9) ∨ (T' 200 5 = T 200 5 - 1 ∧ T (65 + pl) 0 = 9 ∧ T' (65 + T 0 1) 0 = 10)) : brk T' := by
  have dis : ∀ d, d < T 200 5 → (T 201 d = pl ↔ d = T 200 5 - 1) := fun d hd => by
    constructor
    · intro q
      rcases Nat.lt_or_ge d (T 200 5 - 1) with u | u
      · have := h.1 d (T 200 5 - 1) u (by omega); omega
      · omega
    · intro q; rw [q]; exact hp2
  have eO : ∀ j, j < T 0 1 → (isO T' j ↔ isO T j ∧ j ≠ pl) := fun j hj => by
    constructor
    · rintro ⟨d, a, b⟩
      rcases Nat.lt_or_ge d (T 200 5 - 1) with u | u
      · rw [o d u] at b
        exact ⟨⟨d, by omega, b⟩, fun q => by have := (dis d (by omega)).mp (by omega); omega⟩
      · rcases hk with k | k | k
        · omega
        · rw [show d = T 200 5 - 1 by omega, k.2.1] at b; omega
        · omega
    · rintro ⟨⟨d, a, b⟩, c⟩
      have u : d < T 200 5 - 1 := by
        rcases Nat.lt_or_ge d (T 200 5 - 1) with u | u
        · exact u
        · exact absurd (by rw [← b]; exact (dis d a).mpr (by omega)) c
      exact ⟨d, by rcases hk with k | k | k <;> omega, by rw [o d u]; exact b⟩
  refine ⟨fun d e4 a b => ?_, ?_⟩
  · rcases Nat.lt_or_ge e4 (T 200 5 - 1) with u | u
    · rw [o d (by omega), o e4 u]; exact h.1 d e4 a (by omega)
    · rcases hk with k | k | k
      · omega
      · rw [show e4 = T 200 5 - 1 by omega, k.2.1, o d (by omega)]; exact hb d (by omega)
      · omega
  · rw [v1]
    refine brk_end h.2 hp ⟨T 200 5 - 1, by omega, hp2⟩ e e3 eO e2 ?_
    rcases hk with k | k | k
    · exact Or.inl ⟨k.2.1, k.2.2.1, k.2.2.2.1, k.2.2.2.2⟩
    · exact Or.inr (Or.inl ⟨k.2.2.1, k.2.2.2, T 200 5 - 1, by omega, k.2.1⟩)
    · exact Or.inr (Or.inr ⟨k.2.1, k.2.2⟩)
/-- the count of statements goes with the nodes -/
def sc10 (T T' : RT) : Prop := (T' 0 1 = T 0 1 ∧ T' 0 10 = T 0 10) ∨ (T' 0 1 = T 0 1 + 1 ∧ T' 0 10 = T 0 10 + (if isStm (T' (65 + T 0 1) 0) then 1 else 0))
theorem bt_nm {T : RT} (hn : T 0 1 < 60) (h : brk T) (hb : ∀ d, d < T 200 5 → T 201 d < T 0 1) {v : Nat} : brk (tU (tU T 200 2 v) 200 0 1) ∧ sc10 T (tU (tU T 200 2 v) 200 0 1) := by
  exact ⟨br_same h (by simp [tU] <;> (repeat' split) <;> (intros; omega)) (by simp [tU] <;> (repeat' split) <;> (intros; omega)) (fun j i hj hi => by have q2 : ¬ j = T 0 1 := (by omega); simp [tU, q2] <;> (repeat' split) <;> (intros; omega)) (fun d hd => by have q2 : ¬ d = T 200 5 := (by omega); simp [tU, q2] <;> (repeat' split) <;> (intros; omega)), Or.inl ⟨by simp [tU] <;> (repeat' split) <;> (intros; omega), by simp [tU] <;> (repeat' split) <;> (intros; omega)⟩⟩
theorem bt_ec {T : RT} (hn : T 0 1 < 60) (h : brk T) (hb : ∀ d, d < T 200 5 → T 201 d < T 0 1) {w : Nat} : brk (ecT T w) ∧ sc10 T (ecT T w) := by
  exact ⟨br_same h (by simp [ecT, tU] <;> (repeat' split) <;> (intros; omega)) (by simp [ecT, tU] <;> (repeat' split) <;> (intros; omega)) (fun j i hj hi => by have q2 : ¬ j = T 0 1 := (by omega); simp [ecT, tU, q2] <;> (repeat' split) <;> (intros; omega)) (fun d hd => by have q2 : ¬ d = T 200 5 := (by omega); simp [ecT, tU, q2] <;> (repeat' split) <;> (intros; omega)), Or.inl ⟨by simp [ecT, tU] <;> (repeat' split) <;> (intros; omega), by simp [ecT, tU] <;> (repeat' split) <;> (intros; omega)⟩⟩
theorem bt_op {T : RT} (hn : T 0 1 < 60) (h : brk T) (hb : ∀ d, d < T 200 5 → T 201 d < T 0 1)  : brk (tU T 200 0 2) ∧ sc10 T (tU T 200 0 2) := by
  exact ⟨br_same h (by simp [tU] <;> (repeat' split) <;> (intros; omega)) (by simp [tU] <;> (repeat' split) <;> (intros; omega)) (fun j i hj hi => by have q2 : ¬ j = T 0 1 := (by omega); simp [tU, q2] <;> (repeat' split) <;> (intros; omega)) (fun d hd => by have q2 : ¬ d = T 200 5 := (by omega); simp [tU, q2] <;> (repeat' split) <;> (intros; omega)), Or.inl ⟨by simp [tU] <;> (repeat' split) <;> (intros; omega), by simp [tU] <;> (repeat' split) <;> (intros; omega)⟩⟩
theorem bt_ch1 {T : RT} (hn : T 0 1 < 60) (h : brk T) (hb : ∀ d, d < T 200 5 → T 201 d < T 0 1)  : brk (chT T 1) ∧ sc10 T (chT T 1) := by
  exact ⟨br_app h (by simp [chT, apT, tU] <;> (repeat' split) <;> (intros; omega)) (by simp [chT, apT, tU] <;> (repeat' split) <;> (intros; omega)) (fun j i hj hi => by have q2 : ¬ j = T 0 1 := (by omega); simp [chT, apT, tU, q2] <;> (repeat' split) <;> (intros; omega)) (fun d hd => by have q2 : ¬ d = T 200 5 := (by omega); simp [chT, apT, tU, q2] <;> (repeat' split) <;> (intros; omega)) (by simp [chT, apT, tU] <;> (repeat' split) <;> (intros; omega)), Or.inr ⟨by simp [chT, apT, tU] <;> (repeat' split) <;> (intros; omega), by simp [chT, apT, isStm, tU] <;> (repeat' split) <;> (intros; omega)⟩⟩
theorem bt_ch2 {T : RT} (hn : T 0 1 < 60) (h : brk T) (hb : ∀ d, d < T 200 5 → T 201 d < T 0 1)  : brk (chT T 2) ∧ sc10 T (chT T 2) := by
  exact ⟨br_app h (by simp [chT, apT, tU] <;> (repeat' split) <;> (intros; omega)) (by simp [chT, apT, tU] <;> (repeat' split) <;> (intros; omega)) (fun j i hj hi => by have q2 : ¬ j = T 0 1 := (by omega); simp [chT, apT, tU, q2] <;> (repeat' split) <;> (intros; omega)) (fun d hd => by have q2 : ¬ d = T 200 5 := (by omega); simp [chT, apT, tU, q2] <;> (repeat' split) <;> (intros; omega)) (by simp [chT, apT, tU] <;> (repeat' split) <;> (intros; omega)), Or.inr ⟨by simp [chT, apT, tU] <;> (repeat' split) <;> (intros; omega), by simp [chT, apT, isStm, tU] <;> (repeat' split) <;> (intros; omega)⟩⟩
theorem bt_ch3 {T : RT} (hn : T 0 1 < 60) (h : brk T) (hb : ∀ d, d < T 200 5 → T 201 d < T 0 1)  : brk (chT T 3) ∧ sc10 T (chT T 3) := by
  exact ⟨br_app h (by simp [chT, apT, tU] <;> (repeat' split) <;> (intros; omega)) (by simp [chT, apT, tU] <;> (repeat' split) <;> (intros; omega)) (fun j i hj hi => by have q2 : ¬ j = T 0 1 := (by omega); simp [chT, apT, tU, q2] <;> (repeat' split) <;> (intros; omega)) (fun d hd => by have q2 : ¬ d = T 200 5 := (by omega); simp [chT, apT, tU, q2] <;> (repeat' split) <;> (intros; omega)) (by simp [chT, apT, tU] <;> (repeat' split) <;> (intros; omega)), Or.inr ⟨by simp [chT, apT, tU] <;> (repeat' split) <;> (intros; omega), by simp [chT, apT, isStm, tU] <;> (repeat' split) <;> (intros; omega)⟩⟩
theorem bt_nva {T : RT} (hn : T 0 1 < 60) (h : brk T) (hb : ∀ d, d < T 200 5 → T 201 d < T 0 1) (hu : T 0 3 < 20) {t : Nat} (e : t = 6 + T 200 2) : brk (nvT T t) ∧ sc10 T (nvT T t) := by
  exact ⟨br_app h (by simp [nvT, ncT, apT, tU, e] <;> (repeat' split) <;> (intros; omega)) (by simp [nvT, ncT, apT, tU, e] <;> (repeat' split) <;> (intros; omega)) (fun j i hj hi => by have q2 : ¬ j = T 0 1 := (by omega); simp [nvT, ncT, apT, tU, e, q2] <;> (repeat' split) <;> (intros; omega)) (fun d hd => by have q2 : ¬ d = T 200 5 := (by omega); simp [nvT, ncT, apT, tU, e, q2] <;> (repeat' split) <;> (intros; omega)) (by simp [nvT, ncT, apT, tU, e] <;> (repeat' split) <;> (intros; omega)), Or.inr ⟨by simp [nvT, ncT, apT, tU, e] <;> (repeat' split) <;> (intros; omega), by simp [nvT, ncT, apT, isStm, tU, e] <;> (repeat' split) <;> (intros; omega)⟩⟩
theorem bt_nvb {T : RT} (hn : T 0 1 < 60) (h : brk T) (hb : ∀ d, d < T 200 5 → T 201 d < T 0 1) (hu : T 0 3 < 20) {t : Nat} (e : ¬ t = 6 + T 200 2) : brk (nvT T t) ∧ sc10 T (nvT T t) := by
  exact ⟨br_app h (by simp [nvT, ncT, apT, tU, e] <;> (repeat' split) <;> (intros; omega)) (by simp [nvT, ncT, apT, tU, e] <;> (repeat' split) <;> (intros; omega)) (fun j i hj hi => by have q2 : ¬ j = T 0 1 := (by omega); simp [nvT, ncT, apT, tU, e, q2] <;> (repeat' split) <;> (intros; omega)) (fun d hd => by have q2 : ¬ d = T 200 5 := (by omega); simp [nvT, ncT, apT, tU, e, q2] <;> (repeat' split) <;> (intros; omega)) (by simp [nvT, ncT, apT, tU, e] <;> (repeat' split) <;> (intros; omega)), Or.inr ⟨by simp [nvT, ncT, apT, tU, e] <;> (repeat' split) <;> (intros; omega), by simp [nvT, ncT, apT, isStm, tU, e] <;> (repeat' split) <;> (intros; omega)⟩⟩
theorem bt_lf {T : RT} (hn : T 0 1 < 60) (h : brk T) (hb : ∀ d, d < T 200 5 → T 201 d < T 0 1) {v : Nat} : brk (tU (tU T 200 2 v) 200 0 4) ∧ sc10 T (tU (tU T 200 2 v) 200 0 4) := by
  exact ⟨br_same h (by simp [tU] <;> (repeat' split) <;> (intros; omega)) (by simp [tU] <;> (repeat' split) <;> (intros; omega)) (fun j i hj hi => by have q2 : ¬ j = T 0 1 := (by omega); simp [tU, q2] <;> (repeat' split) <;> (intros; omega)) (fun d hd => by have q2 : ¬ d = T 200 5 := (by omega); simp [tU, q2] <;> (repeat' split) <;> (intros; omega)), Or.inl ⟨by simp [tU] <;> (repeat' split) <;> (intros; omega), by simp [tU] <;> (repeat' split) <;> (intros; omega)⟩⟩
theorem bt_sg {T : RT} (hn : T 0 1 < 60) (h : brk T) (hb : ∀ d, d < T 200 5 → T 201 d < T 0 1) {v : Nat} : brk (tU (tU T 200 3 v) 200 0 5) ∧ sc10 T (tU (tU T 200 3 v) 200 0 5) := by
  exact ⟨br_same h (by simp [tU] <;> (repeat' split) <;> (intros; omega)) (by simp [tU] <;> (repeat' split) <;> (intros; omega)) (fun j i hj hi => by have q2 : ¬ j = T 0 1 := (by omega); simp [tU, q2] <;> (repeat' split) <;> (intros; omega)) (fun d hd => by have q2 : ¬ d = T 200 5 := (by omega); simp [tU, q2] <;> (repeat' split) <;> (intros; omega)), Or.inl ⟨by simp [tU] <;> (repeat' split) <;> (intros; omega), by simp [tU] <;> (repeat' split) <;> (intros; omega)⟩⟩
theorem bt_tr4 {T : RT} (hn : T 0 1 < 60) (h : brk T) (hb : ∀ d, d < T 200 5 → T 201 d < T 0 1) (hu : T 0 3 < 20) {t : Nat} : brk (tU (apT (tU (ncT T (T 200 2) (T 200 3) t) 200 0 0) 4) (65 + T 0 1) 4 (T 0 3)) ∧ sc10 T (tU (apT (tU (ncT T (T 200 2) (T 200 3) t) 200 0 0) 4) (65 + T 0 1) 4 (T 0 3)) := by
  exact ⟨br_app h (by simp [ncT, apT, tU] <;> (repeat' split) <;> (intros; omega)) (by simp [ncT, apT, tU] <;> (repeat' split) <;> (intros; omega)) (fun j i hj hi => by have q2 : ¬ j = T 0 1 := (by omega); simp [ncT, apT, tU, q2] <;> (repeat' split) <;> (intros; omega)) (fun d hd => by have q2 : ¬ d = T 200 5 := (by omega); simp [ncT, apT, tU, q2] <;> (repeat' split) <;> (intros; omega)) (by simp [ncT, apT, tU] <;> (repeat' split) <;> (intros; omega)), Or.inr ⟨by simp [ncT, apT, tU] <;> (repeat' split) <;> (intros; omega), by simp [ncT, apT, isStm, tU] <;> (repeat' split) <;> (intros; omega)⟩⟩
theorem bt_tr5 {T : RT} (hn : T 0 1 < 60) (h : brk T) (hb : ∀ d, d < T 200 5 → T 201 d < T 0 1) (hu : T 0 3 < 20) {t : Nat} : brk (acT (tU (ncT T (T 200 2) (T 200 3) t) 200 0 0) (T 0 3)) ∧ sc10 T (acT (tU (ncT T (T 200 2) (T 200 3) t) 200 0 0) (T 0 3)) := by
  exact ⟨br_app h (by simp [ncT, acT, apT, tU] <;> (repeat' split) <;> (intros; omega)) (by simp [ncT, acT, apT, tU] <;> (repeat' split) <;> (intros; omega)) (fun j i hj hi => by have q2 : ¬ j = T 0 1 := (by omega); simp [ncT, acT, apT, tU, q2] <;> (repeat' split) <;> (intros; omega)) (fun d hd => by have q2 : ¬ d = T 200 5 := (by omega); simp [ncT, acT, apT, tU, q2] <;> (repeat' split) <;> (intros; omega)) (by simp [ncT, acT, apT, tU] <;> (repeat' split) <;> (intros; omega)), Or.inr ⟨by simp [ncT, acT, apT, tU] <;> (repeat' split) <;> (intros; omega), by simp [ncT, acT, apT, isStm, tU] <;> (repeat' split) <;> (intros; omega)⟩⟩
theorem bt_tr6 {T : RT} (hn : T 0 1 < 60) (h : brk T) (hb : ∀ d, d < T 200 5 → T 201 d < T 0 1) (hu : T 0 3 < 20) {t : Nat} : brk (olT (tU (ncT T (T 200 2) (T 200 3) t) 200 0 0) (T 0 3)) ∧ sc10 T (olT (tU (ncT T (T 200 2) (T 200 3) t) 200 0 0) (T 0 3)) := by
  exact ⟨br_opn h hb (by simp [ncT, olT, apT, phT, tU] <;> (repeat' split) <;> (intros; omega)) (by simp [ncT, olT, apT, phT, tU] <;> (repeat' split) <;> (intros; omega)) (fun j i hj hi => by have q2 : ¬ j = T 0 1 := (by omega); simp [ncT, olT, apT, phT, tU, q2] <;> (repeat' split) <;> (intros; omega)) (fun d hd => by have q2 : ¬ d = T 200 5 := (by omega); simp [ncT, olT, apT, phT, tU, q2] <;> (repeat' split) <;> (intros; omega)) (by simp [ncT, olT, apT, phT, tU] <;> (repeat' split) <;> (intros; omega)) (by simp [ncT, olT, apT, phT, tU] <;> (repeat' split) <;> (intros; omega)), Or.inr ⟨by simp [ncT, olT, apT, phT, tU] <;> (repeat' split) <;> (intros; omega), by simp [ncT, olT, apT, phT, isStm, tU] <;> (repeat' split) <;> (intros; omega)⟩⟩
theorem bt_tr7 {T : RT} (hn : T 0 1 < 60) (h : brk T) (hb : ∀ d, d < T 200 5 → T 201 d < T 0 1) (hu : T 0 3 < 20) {t : Nat} : brk (tU (agT (tU (ncT T (T 200 2) (T 200 3) t) 200 0 0) (T 0 3)) 200 0 6) ∧ sc10 T (tU (agT (tU (ncT T (T 200 2) (T 200 3) t) 200 0 0) (T 0 3)) 200 0 6) := by
  exact ⟨br_same h (by simp [ncT, agT, tU] <;> (repeat' split) <;> (intros; omega)) (by simp [ncT, agT, tU] <;> (repeat' split) <;> (intros; omega)) (fun j i hj hi => by have q2 : ¬ j = T 0 1 := (by omega); simp [ncT, agT, tU, q2] <;> (repeat' split) <;> (intros; omega)) (fun d hd => by have q2 : ¬ d = T 200 5 := (by omega); simp [ncT, agT, tU, q2] <;> (repeat' split) <;> (intros; omega)), Or.inl ⟨by simp [ncT, agT, tU] <;> (repeat' split) <;> (intros; omega), by simp [ncT, agT, tU] <;> (repeat' split) <;> (intros; omega)⟩⟩
theorem bt_oc {T : RT} (hn : T 0 1 < 60) (h : brk T) (hb : ∀ d, d < T 200 5 → T 201 d < T 0 1)  : brk (ocT T) ∧ sc10 T (ocT T) := by
  exact ⟨br_opn h hb (by simp [ocT, apT, phT, tU] <;> (repeat' split) <;> (intros; omega)) (by simp [ocT, apT, phT, tU] <;> (repeat' split) <;> (intros; omega)) (fun j i hj hi => by have q2 : ¬ j = T 0 1 := (by omega); simp [ocT, apT, phT, tU, q2] <;> (repeat' split) <;> (intros; omega)) (fun d hd => by have q2 : ¬ d = T 200 5 := (by omega); simp [ocT, apT, phT, tU, q2] <;> (repeat' split) <;> (intros; omega)) (by simp [ocT, apT, phT, tU] <;> (repeat' split) <;> (intros; omega)) (by simp [ocT, apT, phT, tU] <;> (repeat' split) <;> (intros; omega)), Or.inr ⟨by simp [ocT, apT, phT, tU] <;> (repeat' split) <;> (intros; omega), by simp [ocT, apT, phT, isStm, tU] <;> (repeat' split) <;> (intros; omega)⟩⟩
theorem bt_cl {T : RT} (hn : T 0 1 < 60) (h : brk T) (hb : ∀ d, d < T 200 5 → T 201 d < T 0 1) {pl : Nat} (h1 : 1 ≤ T 200 5) (hp2 : T 201 (T 200 5 - 1) = pl) (hp : pl < T 0 1) (hk : T (65 + pl) 0 = 6) : brk (clT T pl) ∧ sc10 T (clT T pl) := by
  have hpn : ¬ pl = T 0 1 := by omega
  have hpn2 : ¬ T 0 1 = pl := by omega
  exact ⟨br_end (pl := pl) h hb h1 hp2 hp (by simp [clT, apT, tU, hpn, hpn2] <;> (repeat' split) <;> (intros; omega)) (fun j i hj hi hjp => by have q2 : ¬ j = T 0 1 := (by omega); simp [clT, apT, tU, hpn, hpn2, q2] <;> (repeat' split) <;> (intros; omega)) (by simp [clT, apT, tU, hpn, hpn2] <;> (repeat' split) <;> (intros; omega)) (fun d hd => by have q2 : ¬ d = T 200 5 - 1 := (by omega); simp [clT, apT, tU, hpn, hpn2, q2] <;> (repeat' split) <;> (intros; omega)) (by simp [clT, apT, tU, hpn, hpn2] <;> (repeat' split) <;> (intros; omega)) (Or.inl ⟨by simp [clT, apT, tU, hpn, hpn2] <;> (repeat' split) <;> (intros; omega), hk, by simp [clT, apT, tU, hpn, hpn2] <;> (repeat' split) <;> (intros; omega), by simp [clT, apT, tU, hpn, hpn2] <;> (repeat' split) <;> (intros; omega), by simp [clT, apT, tU, hpn, hpn2] <;> (repeat' split) <;> (intros; omega)⟩), Or.inr ⟨by simp [clT, apT, tU, hpn, hpn2] <;> (repeat' split) <;> (intros; omega), by simp [clT, apT, isStm, tU, hpn, hpn2] <;> (repeat' split) <;> (intros; omega)⟩⟩
theorem bt_pb9 {T : RT} (hn : T 0 1 < 60) (h : brk T) (hb : ∀ d, d < T 200 5 → T 201 d < T 0 1) {pl : Nat} (h1 : 1 ≤ T 200 5) (hp2 : T 201 (T 200 5 - 1) = pl) (hp : pl < T 0 1) (hk : T (65 + pl) 0 = 8) : brk (pbT T pl 9) ∧ sc10 T (pbT T pl 9) := by
  have hpn : ¬ pl = T 0 1 := by omega
  have hpn2 : ¬ T 0 1 = pl := by omega
  exact ⟨br_end (pl := pl) h hb h1 hp2 hp (by simp [pbT, apT, phT, tU, hpn, hpn2] <;> (repeat' split) <;> (intros; omega)) (fun j i hj hi hjp => by have q2 : ¬ j = T 0 1 := (by omega); simp [pbT, apT, phT, tU, hpn, hpn2, q2] <;> (repeat' split) <;> (intros; omega)) (by simp [pbT, apT, phT, tU, hpn, hpn2] <;> (repeat' split) <;> (intros; omega)) (fun d hd => by have q2 : ¬ d = T 200 5 - 1 := (by omega); simp [pbT, apT, phT, tU, hpn, hpn2, q2] <;> (repeat' split) <;> (intros; omega)) (by simp [pbT, apT, phT, tU, hpn, hpn2] <;> (repeat' split) <;> (intros; omega)) (Or.inr (Or.inl ⟨by simp [pbT, apT, phT, tU, hpn, hpn2] <;> (repeat' split) <;> (intros; omega), by simp [pbT, apT, phT, tU, hpn, hpn2] <;> (repeat' split) <;> (intros; omega), hk, by simp [pbT, apT, phT, tU, hpn, hpn2] <;> (repeat' split) <;> (intros; omega)⟩)), Or.inr ⟨by simp [pbT, apT, phT, tU, hpn, hpn2] <;> (repeat' split) <;> (intros; omega), by simp [pbT, apT, phT, isStm, tU, hpn, hpn2] <;> (repeat' split) <;> (intros; omega)⟩⟩
theorem bt_pb10 {T : RT} (hn : T 0 1 < 60) (h : brk T) (hb : ∀ d, d < T 200 5 → T 201 d < T 0 1) {pl : Nat} (h1 : 1 ≤ T 200 5) (hp2 : T 201 (T 200 5 - 1) = pl) (hp : pl < T 0 1) (hk : T (65 + pl) 0 = 9) : brk (pbT T pl 10) ∧ sc10 T (pbT T pl 10) := by
  have hpn : ¬ pl = T 0 1 := by omega
  have hpn2 : ¬ T 0 1 = pl := by omega
  exact ⟨br_end (pl := pl) h hb h1 hp2 hp (by simp [pbT, apT, phT, tU, hpn, hpn2] <;> (repeat' split) <;> (intros; omega)) (fun j i hj hi hjp => by have q2 : ¬ j = T 0 1 := (by omega); simp [pbT, apT, phT, tU, hpn, hpn2, q2] <;> (repeat' split) <;> (intros; omega)) (by simp [pbT, apT, phT, tU, hpn, hpn2] <;> (repeat' split) <;> (intros; omega)) (fun d hd => by have q2 : ¬ d = T 200 5 - 1 := (by omega); simp [pbT, apT, phT, tU, hpn, hpn2, q2] <;> (repeat' split) <;> (intros; omega)) (by simp [pbT, apT, phT, tU, hpn, hpn2] <;> (repeat' split) <;> (intros; omega)) (Or.inr (Or.inr ⟨by simp [pbT, apT, phT, tU, hpn, hpn2] <;> (repeat' split) <;> (intros; omega), hk, by simp [pbT, apT, phT, tU, hpn, hpn2] <;> (repeat' split) <;> (intros; omega)⟩)), Or.inr ⟨by simp [pbT, apT, phT, tU, hpn, hpn2] <;> (repeat' split) <;> (intros; omega), by simp [pbT, apT, phT, isStm, tU, hpn, hpn2] <;> (repeat' split) <;> (intros; omega)⟩⟩
theorem st_br {T T' : RT} {i ch : Nat} (h : rdOk T i) (hi : i < 60) (hz : brk T) (hx : T 200 0 = 0) (e : stT T ch = some T') : brk T' ∧ sc10 T T' := by
  have hn : T 0 1 < 60 := Nat.lt_of_le_of_lt h.1 hi
  have hu : T 0 3 ≤ 20 := by have := h.2.1; omega
  have hu2 : T 0 3 < 20 := by have := h.2.1; omega
  have hv : T 200 2 < 3 := h.2.2.2.1
  have hb := h.2.2.2.2.2.2.2.2.2.1
  have hp2 : 1 ≤ T 200 5 → T 201 (T 200 5 - 1) = plT T := fun q => (if_pos q).symm
  have hpl : 1 ≤ T 200 5 → plT T < T 0 1 := fun q => by rw [show plT T = T 201 (T 200 5 - 1) from if_pos q]; exact h.2.2.2.2.2.2.2.2.2.1 _ (by omega)
  unfold stT at e
  split at e
  · rename_i q
    cases e
    have q2 : 97 ≤ ch ∧ ch ≤ 99 := of_decide_eq_true q
    exact bt_nm hn hz hb
  split at e
  · cases e; exact bt_ec hn hz hb
  split at e
  · split at e
    · rename_i q; cases e; exact bt_ec hn hz hb
    · cases e
  split at e
  · split at e
    · rename_i q; cases e; exact bt_ec hn hz hb
    · cases e
  split at e
  · split at e
    · rename_i q; cases e; exact bt_cl hn hz hb q.1 (hp2 q.1) (hpl q.1) q.2
    · cases e
  split at e
  · split at e
    · rename_i q; cases e; exact bt_oc hn hz hb
    · cases e
  split at e
  · split at e
    · rename_i q; cases e; exact bt_pb9 hn hz hb q.1 (hp2 q.1) (hpl q.1) q.2
    · cases e
  split at e
  · split at e
    · rename_i q; cases e; exact bt_pb10 hn hz hb q.1 (hp2 q.1) (hpl q.1) q.2
    · cases e
  split at e
  · split at e
    · rename_i q; cases e; exact bt_ec hn hz hb
    · cases e
  cases e
theorem op_br {T T' : RT} {i ch : Nat} (h : rdOk T i) (hi : i < 60) (hz : brk T) (hx : T 200 0 = 1) (e : opT T ch = some T') : brk T' ∧ sc10 T T' := by
  have hn : T 0 1 < 60 := Nat.lt_of_le_of_lt h.1 hi
  have hu : T 0 3 ≤ 20 := by have := h.2.1; omega
  have hu2 : T 0 3 < 20 := by have := h.2.1; omega
  have hv : T 200 2 < 3 := h.2.2.2.1
  have hb := h.2.2.2.2.2.2.2.2.2.1
  unfold opT at e
  split at e
  · cases e; exact bt_op hn hz hb
  split at e
  · cases e; exact bt_ch1 hn hz hb
  split at e
  · cases e; exact bt_ch2 hn hz hb
  split at e
  · cases e; exact bt_ch3 hn hz hb
  cases e
theorem tk_br {T T' : RT} {i ch : Nat} (h : rdOk T i) (hi : i < 60) (hz : brk T) (e : tkT T ch = some T') : brk T' ∧ sc10 T T' := by
  have hn : T 0 1 < 60 := Nat.lt_of_le_of_lt h.1 hi
  have hu : T 0 3 ≤ 20 := by have := h.2.1; omega
  have hu2 : T 0 3 < 20 := by have := h.2.1; omega
  have hv : T 200 2 < 3 := h.2.2.2.1
  have hb := h.2.2.2.2.2.2.2.2.2.1
  unfold tkT at e
  split at e
  · rename_i q; exact st_br h hi hz q e
  split at e
  · rename_i q; exact op_br h hi hz q e
  split at e
  · rename_i q
    split at e
    · rename_i ht; cases e
      by_cases e9 : trmN ch = 6 + T 200 2
      · exact bt_nva hn hz hb hu2 e9
      · exact bt_nvb hn hz hb hu2 e9
    · cases e
  split at e
  · rename_i q
    split at e
    · rename_i r
      cases e
      have r2 : 97 ≤ ch ∧ ch ≤ 99 := of_decide_eq_true r
      exact bt_lf hn hz hb
    · cases e
  split at e
  · rename_i q
    split at e
    · rename_i ht; cases e; exact bt_sg hn hz hb
    · cases e
  split at e
  · rename_i q
    split at e
    · rename_i ht
      cases e
      rcases h.2.2.2.2.2.2.2.2.2.2.2 (by omega) (by omega) with w | w | w | w
      · unfold trT; rw [if_pos w]; exact bt_tr4 hn hz hb hu2
      · unfold trT; rw [if_neg (by omega), if_pos w.1]; exact bt_tr5 hn hz hb hu2
      · unfold trT; rw [if_neg (by omega), if_neg (by omega), if_pos w.1]; exact bt_tr6 hn hz hb hu2
      · unfold trT; rw [if_neg (by omega), if_neg (by omega), if_neg (by omega)]; exact bt_tr7 hn hz hb hu2
    · cases e
  rename_i q0 q1 q2 q3 q4 q5
  have q6 : T 200 0 = 6 := by have := h.2.2.1; omega
  split at e
  · rename_i r; cases e; exact bt_ec hn hz hb
  · cases e
