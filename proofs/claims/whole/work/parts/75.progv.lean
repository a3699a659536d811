/-! ===== the reference's program, as it is read ===== -/
theorem brk_0 (T : RT) : brk (t0T T) := by
  have e1 : t0T T 0 1 = 0 := by simp [t0T, tU]
  have e5 : t0T T 200 5 = 0 := by simp [t0T, tU]
  exact ⟨fun d e _ h => absurd h (by omega), fun j hj => absurd hj (by omega)⟩
def st10 (T : RT) : Prop := T 0 10 = fb_ct (fun j => isStm (T (65 + j) 0)) (T 0 1)
theorem st10_sh {T T' : RT} (h : st10 T) (hs : shp T T') (hc : sc10 T T') : st10 T' := by
  unfold st10 at h ⊢
  have e : fb_ct (fun j => isStm (T' (65 + j) 0)) (T 0 1) = fb_ct (fun j => isStm (T (65 + j) 0)) (T 0 1) := ct_eq _ (fun j hj => by rw [(hs.2.1 j hj).1])
  rcases hc with ⟨a, b⟩ | ⟨a, b⟩
  · rw [a, b, e]; exact h
  · rw [a, b, fb_ct_succ, e, h]
theorem rdI_br {tx : Nat → Nat} {T : RT} (h : tbOk T) : ∀ (i : Nat) (S : RT), i ≤ 60 → rdI tx (t0T T) i = some S → brk S ∧ st10 S
  | 0, S, _, e => by
    cases e
    refine ⟨brk_0 T, ?_⟩
    unfold st10
    have e1 : t0T T 0 1 = 0 := by simp [t0T, tU]
    have e2 : t0T T 0 10 = 0 := by simp [t0T, tU]
    rw [e1, e2]; rfl
  | i + 1, S, hi, e => by
    rw [rdI] at e
    cases q : rdI tx (t0T T) i with
    | none => rw [q] at e; cases e
    | some R =>
      rw [q] at e
      have ih := rdI_br h i R (by omega) q
      have a := tk_br (rdI_okT h (by omega) q) (by omega) ih.1 e
      have b := tk_sh (rdI_okT h (by omega) q) (by omega) (rdI_nm h i R (by omega) q).1 e
      exact ⟨a.1, st10_sh ih.2 b.2 a.2⟩
/-- all that a table is when a text has been read whole -/
def tabOk (S : RT) : Prop := wholeT S ∧ rdOk S 60 ∧ stpOk S ∧ cnsOk S ∧ idxOk S ∧ nmOk S ∧ brk S ∧ st10 S
theorem rdOk_up {S : RT} {i : Nat} (h : rdOk S i) (hi : i ≤ 60) : rdOk S 60 := by
  obtain ⟨o1, o2, o⟩ := h
  exact ⟨by omega, by omega, o⟩
theorem rdI_tab {tx : Nat → Nat} {T : RT} (h : tbOk T) {i : Nat} {S : RT} (hi : i ≤ 60) (e : rdI tx (t0T T) i = some S) (hw : wholeT S) : tabOk S :=
  ⟨hw, rdOk_up (rdI_okT h hi e) hi, rdI_sp (t0_ok h.1 h.2) (by simp [t0T, tU]) i S hi e, (rdI_cs (t0_ok h.1 h.2) (by simp [t0T, tU]) (by simp [t0T, tU]) i S hi e).1, rdI_ixT h hi e, rdI_nm h i S hi e, (rdI_br h i S hi e).1, (rdI_br h i S hi e).2⟩
def ndF (V : RT) (kd c : Nat) : Nat := fa_first (fun k => decide (V 11 k = kd) && decide (V 15 k = c)) (V 0 22)
def pgV (V : RT) : PGM := ((V 0 22, fun k => V 11 k, fun k => V 12 k, fun k => (V 12 k, V 13 k, V 14 k), fun k => V 15 k, fun k => V 16 k), (V 0 26, fun g => (V 17 g, V 18 g, V 19 g)), (V 0 23, ndF V 5), (V 0 24, ndF V 6), V 0 25)
theorem ndF_ex {V : RT} {kd c j : Nat} (hj : j < V 0 22) (h1 : V 11 j = kd) (h2 : V 15 j = c) : ndF V kd c < V 0 22 ∧ V 11 (ndF V kd c) = kd ∧ V 15 (ndF V kd c) = c := by
  have a := fa_first_le (fun k => decide (V 11 k = kd) && decide (V 15 k = c)) (V 0 22)
  have b := fa_first_no (fun k => decide (V 11 k = kd) && decide (V 15 k = c)) (V 0 22)
  have d := fa_first_yes (fun k => decide (V 11 k = kd) && decide (V 15 k = c)) (V 0 22)
  have e : ndF V kd c < V 0 22 := by
    rcases Nat.lt_or_ge (ndF V kd c) (V 0 22) with q | q
    · exact q
    · have := b j (Nat.lt_of_lt_of_le hj q)
      rw [decide_eq_true h1, decide_eq_true h2] at this
      cases this
  have f := d e
  rw [Bool.and_eq_true, decide_eq_true_iff, decide_eq_true_iff] at f
  exact ⟨e, f⟩
/-- the nodes of a kind, found by their numbers -/
def ndP (V : RT) (kd cnt : Nat) : Prop := (∀ c, c < cnt → ndF V kd c < V 0 22 ∧ V 11 (ndF V kd c) = kd ∧ V 15 (ndF V kd c) = c) ∧ ∀ j, j < V 0 22 → V 11 j = kd → V 15 j < cnt ∧ j = ndF V kd (V 15 j)
theorem ndP_of {S V : RT} {kd f : Nat} (hN : ∀ j, j < S 0 1 → ndR 0 S V j) (e22 : V 0 22 = S 0 1) (hk : kd = 5 ∨ kd = 6) (h : nmb S kd f) : ndP V kd (S 0 f) := by
  obtain ⟨h1, h2, h3⟩ := h
  have ek : ∀ j, j < S 0 1 → (V 11 j = kd ↔ S (65 + j) 0 = kd) := fun j hj => by
    have a := (hN j hj).1
    constructor
    · intro e; omega
    · intro e; omega
  have en : ∀ j, j < S 0 1 → S (65 + j) 0 = kd → V 15 j = S (65 + j) 2 := fun j hj e => (hN j hj).2.2.2.2.1 (by omega) (by omega)
  have ex : ∀ c, c < S 0 f → ndF V kd c < V 0 22 ∧ V 11 (ndF V kd c) = kd ∧ V 15 (ndF V kd c) = c := fun c hc => by
    obtain ⟨j, j1, j2, j3⟩ := h3 c hc
    exact ndF_ex (j := j) (by omega) ((ek j j1).mpr j2) (by rw [en j j1 j2]; exact j3)
  refine ⟨ex, fun j hj e => ?_⟩
  have hj' : j < S 0 1 := by omega
  have ke := (ek j hj').mp e
  have ne := en j hj' ke
  have lt : V 15 j < S 0 f := by rw [ne]; exact h1 j hj' ke
  refine ⟨lt, ?_⟩
  obtain ⟨a, b, c⟩ := ex _ lt
  have a' : ndF V kd (V 15 j) < S 0 1 := by omega
  have kb := (ek _ a').mp b
  refine h2 _ _ hj' a' ke kb ?_
  rw [← ne, ← en _ a' kb]
  exact c.symm
theorem okV {S V : RT} (h : rel S V) (ht : tabOk S) : okM (pgV V).1 ∧ okR (pgV V).1 ∧ V 0 22 ≤ 60 ∧ V 0 23 ≤ 4 ∧ V 0 24 ≤ 3 ∧ V 0 25 ≤ 3 ∧ V 0 26 ≤ 5 ∧ (∀ g, g < V 0 26 → cndOk (V 17 g, V 18 g, V 19 g)) ∧ ndP V 5 (V 0 23) ∧ ndP V 6 (V 0 24) ∧ S 0 10 = fb_ct (fun k => isStm (V 11 k)) (V 0 22) := by
  obtain ⟨hw, hok, hst, hcn, hix, hnm, hbr, h10⟩ := ht
  obtain ⟨e32, e25, sc, hO, hN, hG, pd⟩ := h
  obtain ⟨o1, o2, o3, o4, o5, o6, o7, o8, o9, o10, o11, o12⟩ := hok
  have hd := hw.1
  obtain ⟨s22, s23, s24, s26, s31⟩ := sc.1 hw.2
  have noO : ∀ j, ¬ isO S j := fun j ⟨d, a, _⟩ => by omega
  rw [hd] at hN
  have hcon : ∀ j, j < S 0 1 → (S (65 + j) 0 = 0 ∨ (4 ≤ S (65 + j) 0 ∧ S (65 + j) 0 ≤ 7)) → S (5 + 3 * S (65 + j) 4) 0 < 3 ∧ (S (5 + 3 * S (65 + j) 4) 1 = 60 ∨ S (5 + 3 * S (65 + j) 4) 1 = 61 ∨ S (5 + 3 * S (65 + j) 4) 1 = 62 ∨ S (5 + 3 * S (65 + j) 4) 1 = 35) ∧ S (5 + 3 * S (65 + j) 4) 2 < 9 := fun j hj hk => hcn _ (hix.1 j hj hk)
  have hpt : ∀ j, j < S 0 1 → (S (65 + j) 0 = 6 → V 16 j ≤ S 0 1) ∧ (S (65 + j) 0 = 7 → V 16 j < j ∧ V 11 (V 16 j) = 6) ∧ (S (65 + j) 0 = 8 → V 16 j ≤ S 0 1) ∧ (S (65 + j) 0 = 9 → V 16 j < S 0 1 ∧ j < V 16 j) := fun j hj => by
    refine ⟨fun k => ?_, fun k => ?_, fun k => ?_, fun k => ?_⟩
    · rcases (hbr.2 j hj).1 k with u | u
      · exact absurd u (noO j)
      · have e := (hN j hj).2.2.2.2.2.2.1 (Or.inl k) (fun d hd2 => absurd hd2 (Nat.not_lt_zero _))
        have u2 : S (65 + j) 3 < S 0 1 := u.2.1
        rw [e]; exact u2
    · obtain ⟨u1, u2, -⟩ := (hbr.2 j hj).2.1 k
      have e := (hN j hj).2.2.2.2.2.1 k
      have u1' : S (65 + j) 3 < j := u1
      have u2' : S (65 + S (65 + j) 3) 0 = 6 := u2
      rw [e]
      refine ⟨u1', ?_⟩
      rcases (hN _ (Nat.lt_trans u1' hj)).1 with u | u
      · rw [u]; exact u2'
      · rw [u2'] at u; exact absurd u.2.1 (by decide)
    · rcases (hbr.2 j hj).2.2.1 k with u | u
      · exact absurd u (noO j)
      · have e := (hN j hj).2.2.2.2.2.2.1 (Or.inr k) (fun d hd2 => absurd hd2 (Nat.not_lt_zero _))
        have u2 : S (65 + j) 3 < S 0 1 := u.2.1
        rw [e]; exact u2
    · rcases ((hbr.2 j hj).2.2.2.1 k).2 with u | u
      · exact absurd u (noO j)
      · have e := (hN j hj).2.2.2.2.2.2.2 k (fun d hd2 => absurd hd2 (Nat.not_lt_zero _))
        have u1 : j < S (65 + j) 3 := u.1
        have u2 : S (65 + j) 3 < S 0 1 := u.2.1
        rw [e]; exact ⟨u2, u1⟩
  refine ⟨fun k hk => ?_, fun k hk => ?_, by omega, by omega, by omega, by omega, by omega, fun g hg => ?_, ?_, ?_, ?_⟩
  · have hk' : k < S 0 1 := by have : k < V 0 22 := hk; omega
    have n1 : V 11 k = S (65 + k) 0 ∨ (V 11 k = 0 ∧ S (65 + k) 0 = 4) := by
      rcases (hN k hk').1 with u | u
      · exact Or.inl u
      · exact Or.inr ⟨u.1, u.2.1⟩
    have t1 := (hst k hk').1
    show V 11 k ≤ 10 ∧ (V 11 k ≤ 6 → V 12 k < 3 ∧ V 12 k = V 12 k) ∧ (V 11 k = 0 → V 14 k < 9) ∧ (4 ≤ V 11 k → V 11 k ≤ 6 → cndOk (V 12 k, V 13 k, V 14 k)) ∧ (6 ≤ V 11 k → V 11 k ≤ 9 → V 16 k ≤ V 0 22) ∧ (V 11 k = 5 → V 15 k < 4) ∧ (V 11 k = 6 → V 15 k < 3)
    refine ⟨by omega, fun q => ⟨?_, rfl⟩, fun q => ?_, fun q q2 => ?_, fun q q2 => ?_, fun q => ?_, fun q => ?_⟩
    · rcases Nat.lt_or_ge (S (65 + k) 0) 4 with u | u
      · rw [(hN k hk').2.1 (by omega)]; exact (hst k hk').2.1 (by omega)
      · rw [((hN k hk').2.2.2.1 u (by omega)).1]; exact (hcon k hk' (by omega)).1
    · rcases n1 with u | u
      · rw [((hN k hk').2.2.1 (by omega)).1]; exact (hcon k hk' (by omega)).2.2
      · rw [((hN k hk').2.2.2.1 (by omega) (by omega)).2.1]; exact (hcon k hk' (by omega)).2.2
    · have a := (hN k hk').2.2.2.1 (by omega) (by omega)
      have b := hcon k hk' (by omega)
      have d := a.2.2 (by omega)
      refine ⟨?_, ?_, ?_⟩
      · show V 12 k < 3
        rw [a.1]; exact b.1
      · show V 13 k = 60 ∨ V 13 k = 61 ∨ V 13 k = 62 ∨ V 13 k = 35
        rw [d]; exact b.2.1
      · show V 14 k < 9
        rw [a.2.1]; exact b.2.2
    · have p := hpt k hk'
      rcases (show S (65 + k) 0 = 6 ∨ S (65 + k) 0 = 7 ∨ S (65 + k) 0 = 8 ∨ S (65 + k) 0 = 9 by clear p; omega) with u | u | u | u
      · have := p.1 u; clear p; omega
      · have := (p.2.1 u).1; clear p; omega
      · have := p.2.2.1 u; clear p; omega
      · have := (p.2.2.2 u).1; clear p; omega
    · rw [(hN k hk').2.2.2.2.1 (by omega) (by omega)]; exact (hst k hk').2.2.1 (by omega)
    · rw [(hN k hk').2.2.2.2.1 (by omega) (by omega)]; exact (hst k hk').2.2.2 (by omega)
  · have hk' : k < S 0 1 := by have : k < V 0 22 := hk; omega
    have n1 : V 11 k = S (65 + k) 0 ∨ (V 11 k = 0 ∧ S (65 + k) 0 = 4) := by
      rcases (hN k hk').1 with u | u
      · exact Or.inl u
      · exact Or.inr ⟨u.1, u.2.1⟩
    show (V 11 k = 7 → V 16 k < V 0 22 ∧ V 11 (V 16 k) = 6) ∧ (V 11 k = 9 → k < V 16 k)
    refine ⟨fun q => ?_, fun q => ?_⟩
    · have := (hpt k hk').2.1 (by omega)
      exact ⟨by omega, this.2⟩
    · exact ((hpt k hk').2.2.2 (by omega)).2
  · obtain ⟨g1, g2, g3⟩ := hG g (by omega)
    have c := hcn _ (hix.2.1 g (by omega))
    exact ⟨by show V 17 g < 3; omega, by show V 18 g = 60 ∨ V 18 g = 61 ∨ V 18 g = 62 ∨ V 18 g = 35; omega, by show V 19 g < 9; omega⟩
  · rw [s23]; exact ndP_of hN s22 (Or.inl rfl) hnm.2.1
  · rw [s24]; exact ndP_of hN s22 (Or.inr rfl) hnm.2.2.1
  · rw [s22, h10]
    refine ct_eq _ (fun j hj => ?_)
    rcases (hN j hj).1 with u | u
    · rw [u]
    · rw [u.1, u.2.1]; rfl
