/-! ===== the reference's finding of what can fail ===== -/
def flM (Q : AP) (cv : Int32) (k s : Nat) : Prop := kA Q k = 5 ∧ cndT (cA Q k) s = false ∧ nI (mA Q k) = cv
def canB (Q : AP) (cv : Int32) (C : NS) (k s : Nat) : Bool :=
  if kA Q k ≤ 2 then C (k + 1) (dnM Q k s 0)
  else if kA Q k = 3 then anyN (fun w => C (k + 1) (dnM Q k s w)) 6
  else if kA Q k = 4 then cndT (cA Q k) s && C (k + 1) s
  else if kA Q k = 5 then (if cndT (cA Q k) s then C (k + 1) s else decide (nI (mA Q k) = cv))
  else if kA Q k = 6 then C (if cndT (cA Q k) s then k + 1 else lA Q k) s
  else if kA Q k = 8 then C (k + 1) s || C (lA Q k) s
  else if kA Q k = 10 then C (k + 1) s
  else C (lA Q k) s
theorem can_iff {Q : AP} {cv : Int32} {C : NS} {k s : Nat} : canB Q cv C k s = true ↔ flM Q cv k s ∨ ∃ k' s', edM Q k s k' s' ∧ C k' s' = true := by
  unfold canB edM flM
  split
  · rename_i e
    exact ⟨fun h => Or.inr ⟨_, _, ⟨rfl, rfl⟩, h⟩, fun h => h.elim (fun q => absurd q.1 (by omega)) (fun ⟨a, b, ⟨q1, q2⟩, q3⟩ => by rw [← q1, ← q2]; exact q3)⟩
  split
  · rename_i e
    rw [anyN_iff]
    exact ⟨fun ⟨w, hw, h⟩ => Or.inr ⟨_, _, ⟨rfl, w, hw, rfl⟩, h⟩, fun h => h.elim (fun q => absurd q.1 (by omega)) (fun ⟨a, b, ⟨q1, w, hw, q2⟩, q3⟩ => ⟨w, hw, by rw [← q1, ← q2]; exact q3⟩)⟩
  split
  · rename_i e
    have e5 : kA Q k ≤ 5 := by omega
    simp only [e5, if_true]
    rw [Bool.and_eq_true]
    exact ⟨fun h => Or.inr ⟨_, _, ⟨h.1, rfl, rfl⟩, h.2⟩, fun h => h.elim (fun q => absurd q.1 (by omega)) (fun ⟨a, b, ⟨q0, q1, q2⟩, q3⟩ => ⟨q0, by rw [← q1, ← q2]; exact q3⟩)⟩
  split
  · rename_i e
    have e5 : kA Q k ≤ 5 := by omega
    simp only [e5, if_true]
    cases hc : cndT (cA Q k) s with
    | true => exact ⟨fun h => Or.inr ⟨_, _, ⟨rfl, rfl, rfl⟩, h⟩, fun h => h.elim (fun q => absurd q.2.1 (by decide)) (fun ⟨a, b, ⟨q0, q1, q2⟩, q3⟩ => by rw [← q1, ← q2]; exact q3)⟩
    | false => exact ⟨fun h => Or.inl ⟨e, rfl, of_decide_eq_true h⟩, fun h => h.elim (fun q => decide_eq_true q.2.2) (fun ⟨a, b, ⟨q0, _⟩, _⟩ => absurd q0 (by decide))⟩
  have e5 : ¬ kA Q k ≤ 5 := by omega
  simp only [e5, if_false]
  split
  · exact ⟨fun h => Or.inr ⟨_, _, ⟨rfl, rfl⟩, h⟩, fun h => h.elim (fun q => absurd q.1 (by omega)) (fun ⟨a, b, ⟨q1, q2⟩, q3⟩ => by rw [← q1, ← q2]; exact q3)⟩
  split
  · rw [Bool.or_eq_true]
    exact ⟨fun h => h.elim (fun h => Or.inr ⟨_, _, ⟨Or.inl rfl, rfl⟩, h⟩) (fun h => Or.inr ⟨_, _, ⟨Or.inr rfl, rfl⟩, h⟩), fun h => h.elim (fun q => absurd q.1 (by omega)) (fun ⟨a, b, ⟨q1, q2⟩, q3⟩ => q1.elim (fun q1 => Or.inl (by rw [← q1, ← q2]; exact q3)) (fun q1 => Or.inr (by rw [← q1, ← q2]; exact q3)))⟩
  split
  · exact ⟨fun h => Or.inr ⟨_, _, ⟨rfl, rfl⟩, h⟩, fun h => h.elim (fun q => absurd q.1 (by omega)) (fun ⟨a, b, ⟨q1, q2⟩, q3⟩ => by rw [← q1, ← q2]; exact q3)⟩
  · exact ⟨fun h => Or.inr ⟨_, _, ⟨rfl, rfl⟩, h⟩, fun h => h.elim (fun q => absurd q.1 (by omega)) (fun ⟨a, b, ⟨q1, q2⟩, q3⟩ => by rw [← q1, ← q2]; exact q3)⟩
/-- from here it can fail in r steps -/
def cnN (ed : Nat → Nat → Nat → Nat → Prop) (fl : Nat → Nat → Prop) (n : Nat) : Nat → Nat → Nat → Prop
  | 0, _, _ => False
  | r + 1, k, s => k < n ∧ s < 216 ∧ (fl k s ∨ ∃ k' s', ed k s k' s' ∧ cnN ed fl n r k' s')
def Can (ed : Nat → Nat → Nat → Nat → Prop) (fl : Nat → Nat → Prop) (n k s : Nat) : Prop := ∃ r, cnN ed fl n r k s
theorem can_least {ed : Nat → Nat → Nat → Nat → Prop} {fl : Nat → Nat → Prop} {n : Nat} {P : Nat → Nat → Prop} (h0 : ∀ k s, k < n → s < 216 → fl k s → P k s) (h1 : ∀ k s k' s', k < n → s < 216 → ed k s k' s' → P k' s' → P k s) : ∀ r k s, cnN ed fl n r k s → P k s
  | 0, _, _, h => h.elim
  | r + 1, k, s, h => by
    obtain ⟨a, b, c⟩ := h
    rcases c with c | ⟨k', s', c, d⟩
    · exact h0 k s a b c
    · exact h1 k s k' s' a b c (can_least h0 h1 r k' s' d)
def mc (N : Nat) (C : NS) : Nat := fb_ct (fun i => !C (i / 216) (i % 216)) N
theorem put_lt {N : Nat} (hN : 13392 ≤ N) (x : NS × NS) {k s : Nat} (hk : k < 62) (hs : s < 216) (hx : x.1 k s = false) : mc N (putP k s x).1 < mc N x.1 :=
  ct_lt (p := fun i => !(putP k s x).1 (i / 216) (i % 216)) (q := fun i => !x.1 (i / 216) (i % 216)) (a := 216 * k + s) N (fun i _ h => by
        cases hy : x.1 (i / 216) (i % 216) with
        | false => rfl
        | true =>
          have h' : (!(putP k s x).1 (i / 216) (i % 216)) = true := h
          rw [put_C.mpr (Or.inl hy)] at h'; cases h') (by omega) (by
          show (!(putP k s x).1 ((216 * k + s) / 216) ((216 * k + s) % 216)) = false
          rw [put_C.mpr (Or.inr ⟨by omega, by omega⟩)]; rfl) (by
          show (!x.1 ((216 * k + s) / 216) ((216 * k + s) % 216)) = true
          rw [show (216 * k + s) / 216 = k by omega, show (216 * k + s) % 216 = s by omega, hx]; rfl)
def caA (Q : AP) (cv : Int32) (k s : Nat) (y : (NS × NS) × Bool) : (NS × NS) × Bool := if !y.1.1 k s && canB Q cv y.1.1 k s then (putP k s y.1, true) else y
theorem caA_yes {Q : AP} {cv : Int32} {k s : Nat} {y : (NS × NS) × Bool} (h1 : y.1.1 k s = false) (h2 : canB Q cv y.1.1 k s = true) : caA Q cv k s y = (putP k s y.1, true) := if_pos (by rw [h1, h2]; rfl)
theorem caA_no1 {Q : AP} {cv : Int32} {k s : Nat} {y : (NS × NS) × Bool} (h1 : y.1.1 k s = true) : caA Q cv k s y = y := if_neg (by rw [h1]; simp)
theorem caA_no2 {Q : AP} {cv : Int32} {k s : Nat} {y : (NS × NS) × Bool} (h2 : canB Q cv y.1.1 k s = false) : caA Q cv k s y = y := if_neg (by rw [h2]; simp)
def caS (Q : AP) (cv : Int32) (j : Nat) (y : (NS × NS) × Bool) : (NS × NS) × Bool := foN (caA Q cv (nA Q - 1 - j)) 216 y
theorem foN_succ {α : Type} (f : Nat → α → α) (n : Nat) (x : α) : foN f (n + 1) x = f n (foN f n x) := rfl
/-- the state of the finding, against the round's beginning x -/
def cinv (N : Nat) (Q : AP) (cv : Int32) (x : NS × NS) (P : Nat → Nat → Prop) (y : (NS × NS) × Bool) : Prop := (∀ j t, y.1.1 j t = true → Can (edM Q) (flM Q cv) (nA Q) j t) ∧ mc N y.1.1 ≤ mc N x.1 ∧ (y.2 = true → mc N y.1.1 < mc N x.1) ∧ (y.2 = false → y.1 = x ∧ ∀ k s, P k s → canB Q cv x.1 k s = true → x.1 k s = true)
theorem ca_ok {N : Nat} (hN : 13392 ≤ N) {Q : AP} {cv : Int32} (h60 : nA Q ≤ 60) {x : NS × NS} {P P' : Nat → Nat → Prop} {k s : Nat} (hk : k < nA Q) (hs : s < 216) {y : (NS × NS) × Bool} (h : cinv N Q cv x P y) (hP : ∀ a b, P' a b → P a b ∨ (a = k ∧ b = s)) : cinv N Q cv x P' (caA Q cv k s y) := by
  obtain ⟨h1, h2, h3, h4⟩ := h
  cases hy : y.1.1 k s with
  | true =>
    rw [caA_no1 hy]
    refine ⟨h1, h2, h3, fun q => ⟨(h4 q).1, fun a b p c => ?_⟩⟩
    rcases hP a b p with u | u
    · exact (h4 q).2 a b u c
    · rw [u.1, u.2, ← (h4 q).1]; exact hy
  | false =>
    cases hc : canB Q cv y.1.1 k s with
    | false =>
      rw [caA_no2 hc]
      refine ⟨h1, h2, h3, fun q => ⟨(h4 q).1, fun a b p c => ?_⟩⟩
      rcases hP a b p with u | u
      · exact (h4 q).2 a b u c
      · rw [u.1, u.2, ← (h4 q).1, hc] at c; cases c
    | true =>
      rw [caA_yes hy hc]
      have hlt := put_lt hN y.1 (k := k) (s := s) (by omega) hs hy
      refine ⟨fun j t q => ?_, by show mc N (putP k s y.1).1 ≤ _; omega, fun _ => by show mc N (putP k s y.1).1 < _; omega, fun q => by cases q⟩
      rcases put_C.mp q with q | q
      · exact h1 j t q
      · rw [q.1, q.2]
        rcases can_iff.mp hc with c | ⟨k', s', c, d⟩
        · exact ⟨1, hk, hs, Or.inl c⟩
        · obtain ⟨r, hr⟩ := h1 k' s' d
          exact ⟨r + 1, hk, hs, Or.inr ⟨k', s', c, hr⟩⟩
theorem caS_ok {N : Nat} (hN : 13392 ≤ N) {Q : AP} {cv : Int32} (h60 : nA Q ≤ 60) {x : NS × NS} {k : Nat} (hk : k < nA Q) {y : (NS × NS) × Bool} {P : Nat → Nat → Prop} (h : cinv N Q cv x P y) : ∀ n, n ≤ 216 → cinv N Q cv x (fun a b => P a b ∨ (a = k ∧ b < n)) (foN (caA Q cv k) n y)
  | 0, _ => ⟨h.1, h.2.1, h.2.2.1, fun q => ⟨(h.2.2.2 q).1, fun a b p => (h.2.2.2 q).2 a b (p.elim (fun u => u) (fun u => absurd u.2 (Nat.not_lt_zero _)))⟩⟩
  | n + 1, hn => ca_ok hN h60 hk (by omega) (caS_ok hN h60 hk h n (by omega)) (fun a b p => p.elim (fun u => Or.inl (Or.inl u)) (fun u => by
      rcases Nat.lt_or_ge b n with q | q
      · exact Or.inl (Or.inr ⟨u.1, q⟩)
      · exact Or.inr ⟨u.1, by omega⟩))
theorem cr_ok {N : Nat} (hN : 13392 ≤ N) {Q : AP} {cv : Int32} (h60 : nA Q ≤ 60) {x : NS × NS} (h : ∀ j t, x.1 j t = true → Can (edM Q) (flM Q cv) (nA Q) j t) : ∀ n, n ≤ nA Q → cinv N Q cv x (fun a b => nA Q - n ≤ a ∧ a < nA Q ∧ b < 216) (foN (caS Q cv) n (x, false))
  | 0, _ => ⟨h, Nat.le_refl _, fun q => (by cases q), fun _ => ⟨rfl, fun a b p => absurd p (by omega)⟩⟩
  | n + 1, hn => by
    have this : cinv N Q cv x (fun a b => (nA Q - n ≤ a ∧ a < nA Q ∧ b < 216) ∨ (a = nA Q - 1 - n ∧ b < 216)) (caS Q cv n (foN (caS Q cv) n (x, false))) := caS_ok hN h60 (k := nA Q - 1 - n) (by omega) (cr_ok hN h60 h n (by omega)) 216 (Nat.le_refl _)
    rw [foN_succ]
    generalize caS Q cv n (foN (caS Q cv) n (x, false)) = y at this ⊢
    refine ⟨this.1, this.2.1, this.2.2.1, fun q => ⟨(this.2.2.2 q).1, fun a b p => (this.2.2.2 q).2 a b ?_⟩⟩
    rcases Nat.lt_or_ge a (nA Q - n) with u | u
    · exact Or.inr ⟨by omega, p.2.2⟩
    · exact Or.inl ⟨u, p.2⟩
theorem cr_end {N : Nat} {Q : AP} {cv : Int32} {x : NS × NS} {y : (NS × NS) × Bool} (h : cinv N Q cv x (fun a b => nA Q - nA Q ≤ a ∧ a < nA Q ∧ b < 216) y) (hb : y.2 = false) : ∀ j t, y.1.1 j t = true ↔ Can (edM Q) (flM Q cv) (nA Q) j t := by
  obtain ⟨h1, h2, h3, h4⟩ := h
  obtain ⟨e, hcl⟩ := h4 hb
  intro j t
  refine ⟨h1 j t, fun q => ?_⟩
  obtain ⟨r, hr⟩ := q
  rw [e]
  exact can_least (P := fun k s => x.1 k s = true) (fun k s a b c => hcl k s ⟨by omega, a, b⟩ (can_iff.mpr (Or.inl c))) (fun k s k' s' a b c d => hcl k s ⟨by omega, a, b⟩ (can_iff.mpr (Or.inr ⟨k', s', c, d⟩))) r j t hr
/-- what is reached, as the reference has found it -/
def rchC (Q : AP) (B : ST) (C : NS) : Prop := ∀ j t, C j t = true ↔ Rch (edM Q) (nA Q) B j t
theorem c_X12_layReached {Γ : GT} {G : GG} {M : MM} {m : Nat} (hF : mdF G M.2.2 m) {Q : AP} (hP : mpW M m Q) (hO : okM Q) {ra : Nat} {t : Nat → Nat} (gra : G ra = some (.inr (.int, 4))) (ht : rowI M ra t) {C F : NS} : Calls Γ q_X12_layReached [.ref m, .ref ra] G (wCF M m C F) (rV (fun M' => ∃ x : NS × NS, M' = wCF M m x.1 x.2 ∧ rchC Q (begS t) x.1)) := by
  have q60 := hP.1
  have qn := hP.2.1
  refine Calls.intro (by decide +kernel) (Nat.le_of_ble_eq_true rfl) (fun z E h hQ => ?_)
  refine x_loc (L' := [some (.ref m), some (.ref ra), none, none]) rfl ?_
  have loop : ∀ N, 13392 ≤ N → ∀ u, ∀ x : NS × NS, mu N x ≤ u → rinv Q (begS t) 0 (fun _ => false) x → ∀ b, (b = false → ∀ k s, k < nA Q → s < 216 → x.2 k s = false) → ∀ w, X Γ E 0 0 G z (wCF M m x.1 x.2) 7 [some (.ref m), some (.ref ra), some (.int (b2i b)), w] [] := by
    intro N hN u
    induction u using Nat.strongRecOn with
    | ind u ihu =>
    intro x hu hx b hb w
    have fin : ∀ y : NS × NS, rinv Q (begS t) 0 (fun _ => false) y → (∀ k s, k < nA Q → s < 216 → y.2 k s = false) → ∀ w, X Γ E 0 0 G z (wCF M m y.1 y.2) 7 [some (.ref m), some (.ref ra), some (.int (b2i false)), w] [] := by
      intro y hy hz w
      refine x_iload_n h dX12_layReached_7 rfl ?_
      refine x_if_eq h 50 dX12_layReached_8 (by decide) (fun c8 => ?_) (fun c8 => ?_)
      · exact x_vret h hQ rfl dX12_layReached_50 ⟨rfl, rfl, rfl, y, rfl, fr_end hy hz⟩
      · exact absurd rfl c8
    have inner : ∀ k, k ≤ nA Q → X Γ E 0 0 G z (wCF M m (foN (gfP Q) k x).1 (foN (gfP Q) k x).2) 15 [some (.ref m), some (.ref ra), some (.int (b2i (frB Q x k))), some (.int (nI k))] [] := by
      refine upto (nA Q) (fun k hk ih => ?_)
      refine x_iload_n h dX12_layReached_15 rfl ?_
      refine x_aload_n h dX12_layReached_16 rfl ?_
      refine x_getIv h hF.1 f_X12_205 rfl qn dX12_layReached_17 ?_
      refine x_icmp_ge h 47 dX12_layReached_20 (by decide) (fun c20 => ?_) (fun c20 => ?_)
      · obtain rfl : k = nA Q := by
          have := (nI_le_iff (by omega) (by omega)).mp c20
          omega
        refine x_goto h 7 dX12_layReached_47 (by decide) ?_
        have fo := fr_ok hN hO q60 hx (nA Q) (Nat.le_refl _)
        cases hfb : frB Q x (nA Q) with
        | true => exact ihu (mu N (foN (gfP Q) (nA Q) x)) (Nat.lt_of_lt_of_le (fo.2.2.1 hfb) hu) _ (Nat.le_refl _) fo.1 true (fun q => by cases q) _
        | false =>
          have hz := (fo.2.2.2 hfb)
          refine fin _ fo.1 (fun k s hk hs => ?_) _
          rw [hz.1]
          exact hz.2 k s hk hs
      · have hkl : k < nA Q := by
          have := mt (nI_le_iff (a := nA Q) (b := k) (by omega) (by omega)).mpr c20
          omega
        refine x_aload_n h dX12_layReached_23 rfl ?_
        refine x_iload_n h dX12_layReached_24 rfl ?_
        refine x_cVi h ci_X12_goOnFresh im_X12_goOnFresh l_X12_289 ⟨Nat.le_of_ble_eq_true rfl, Nat.le_of_ble_eq_true rfl⟩ ⟨rfl, rfl⟩ ⟨Nat.zero_le _, Nat.zero_le _⟩ (c_X12_goOnFresh hF hP hO hkl) rfl rfl rfl rfl hF.1 (by decide) rfl dX12_layReached_25 (fun v25 M25 hp25 => ?_)
        have hv := hp25.1
        have hM := hp25.2
        clear hp25
        rw [hv]
        clear hv v25
        subst hM
        refine x_if_ne h 35 dX12_layReached_28 (by decide) (fun c28 => ?_) (fun c28 => ?_)
        · have e1 := bool_nf (fun q => c28 (b2i_0.mpr q))
          refine x_ic1 h dX12_layReached_35 ?_
          refine x_goto h 40 dX12_layReached_36 (by decide) ?_
          refine x_topi (y := b2i (frB Q x (k + 1))) (b2i_t (by show (_ || _) = true; exact Bool.or_eq_true _ _ |>.mpr (Or.inr e1))) ?_
          refine x_istore_n h dX12_layReached_40 rfl rfl ?_
          dsimp only [List.set]
          refine x_incn h dX12_layReached_41 rfl rfl rfl ?_
          dsimp only [List.set]
          refine x_goto h 15 dX12_layReached_44 (by decide) ?_
          exact ih hkl
        · have e1 := b2i_0.mp c28
          refine x_iload_n h dX12_layReached_31 rfl ?_
          refine x_if_eq h 39 dX12_layReached_32 (by decide) (fun c32 => ?_) (fun c32 => ?_)
          · have e2 := b2i_0.mp c32
            refine x_ic0 h dX12_layReached_39 ?_
            refine x_topi (y := b2i (frB Q x (k + 1))) (b2i_f (by show (_ || _) = false; exact Bool.or_eq_false_iff.mpr ⟨e2, e1⟩)) ?_
            refine x_istore_n h dX12_layReached_40 rfl rfl ?_
            dsimp only [List.set]
            refine x_incn h dX12_layReached_41 rfl rfl rfl ?_
            dsimp only [List.set]
            refine x_goto h 15 dX12_layReached_44 (by decide) ?_
            exact ih hkl
          · have e2 := bool_nf (fun q => c32 (b2i_0.mpr q))
            refine x_ic1 h dX12_layReached_35 ?_
            refine x_goto h 40 dX12_layReached_36 (by decide) ?_
            refine x_topi (y := b2i (frB Q x (k + 1))) (b2i_t (by show (_ || _) = true; exact Bool.or_eq_true _ _ |>.mpr (Or.inl e2))) ?_
            refine x_istore_n h dX12_layReached_40 rfl rfl ?_
            dsimp only [List.set]
            refine x_incn h dX12_layReached_41 rfl rfl rfl ?_
            dsimp only [List.set]
            refine x_goto h 15 dX12_layReached_44 (by decide) ?_
            exact ih hkl
    refine x_iload_n h dX12_layReached_7 rfl ?_
    refine x_if_eq h 50 dX12_layReached_8 (by decide) (fun c8 => ?_) (fun c8 => ?_)
    · have e := b2i_0.mp c8
      exact x_vret h hQ rfl dX12_layReached_50 ⟨rfl, rfl, rfl, x, rfl, fr_end hx (hb e)⟩
    · refine x_ic0 h dX12_layReached_11 ?_
      refine x_istore_n h dX12_layReached_12 rfl rfl ?_
      dsimp only [List.set]
      refine x_in0 h dX12_layReached_13 ?_
      refine x_istore_n h dX12_layReached_14 rfl rfl ?_
      dsimp only [List.set]
      exact inner 0 (Nat.zero_le _)
  refine x_aload_n h dX12_layReached_0 rfl ?_
  refine x_aload_n h dX12_layReached_1 rfl ?_
  refine x_cVv h ci_X12_beginAt im_X12_beginAt l_X12_262 ⟨Nat.le_of_ble_eq_true rfl, Nat.le_of_ble_eq_true rfl⟩ ⟨rfl, rfl⟩ ⟨Nat.zero_le _, Nat.zero_le _⟩ (c_X12_beginAt hF gra ht) rfl rfl rfl rfl hF.1 (by decide) rfl dX12_layReached_2 (fun M2 hp2 => ?_)
  subst hp2
  refine x_ic1 h dX12_layReached_5 ?_
  refine x_istore_n h dX12_layReached_6 rfl rfl ?_
  dsimp only [List.set]
  exact loop 13392 (Nat.le_refl _) _ (bgN t 216, bgN t 216) (Nat.le_refl _) rinv_0 true (fun q => by cases q) _
theorem c_X12_can {Γ : GT} {G : GG} {M : MM} {m : Nat} (hF : mdF G M.2.2 m) {Q : AP} (hP : mpW M m Q) (hO : okM Q) {C F : NS} {cv : Int32} {k s : Nat} (hk : k < nA Q) (hs : s < 216) : Calls Γ q_X12_can [.ref m, .int (nI k), .int (nI s), .int cv] G (wCF M m C F) (rI (fun y M' => y = b2i (canB Q cv C k s) ∧ M' = wCF M m C F)) := by
  have hP0 := hP
  obtain ⟨q60, qn, qk⟩ := hP
  obtain ⟨q1, q2, q3, q4, q5, q6⟩ := qk k hk
  obtain ⟨o1, o2, o3, o4, o5, o6, o7⟩ := hO k hk
  refine Calls.intro (by decide +kernel) (Nat.le_of_ble_eq_true rfl) (fun z E h hQ => ?_)
  refine x_loc (L' := [some (.ref m), some (.int (nI k)), some (.int (nI s)), some (.int cv), none, none]) rfl ?_
  have loop : kA Q k = 3 → ∀ w, w ≤ 6 → X Γ E 0 0 G z (wCF M m C F) 86 [some (.ref m), some (.int (nI k)), some (.int (nI s)), some (.int cv), some (.int (b2i (anyN (fun w => C (k + 1) (dnM Q k s w)) w))), some (.int (nI w))] [] := by
    intro hk0
    refine upto 6 (fun w hw ih => ?_)
    refine x_iload h dX12_can_86 rfl ?_
    refine x_bipush h (nI 6) (by decide) dX12_can_88 ?_
    refine x_icmp_ge h 129 dX12_can_90 (by decide) (fun c90 => ?_) (fun c90 => ?_)
    · obtain rfl : w = 6 := up_ge (by decide) hw c90
      refine x_iload h dX12_can_129 rfl ?_
      exact x_zret h hQ rfl (b2i_01 _) dX12_can_131 ⟨rfl, rfl, _, rfl, by simp only [canB, hk0]; rfl, rfl⟩
    · have hlt : w < 6 := up_lt (by decide) hw c90
      refine x_iload h dX12_can_93 rfl ?_
      refine x_if_ne h 116 dX12_can_95 (by decide) (fun c95 => ?_) (fun c95 => ?_)
      · have e1 := bool_nf (fun q => c95 (b2i_0.mpr q))
        refine x_ic1 h dX12_can_116 ?_
        refine x_goto h 121 dX12_can_117 (by decide) ?_
        refine x_topi (y := b2i (anyN (fun w => C (k + 1) (dnM Q k s w)) (w + 1))) (b2i_t (by show (_ || _) = true; exact Bool.or_eq_true _ _ |>.mpr (Or.inl e1))) ?_
        refine x_istore h dX12_can_121 rfl rfl ?_
        dsimp only [List.set]
        refine x_incn h dX12_can_123 rfl rfl rfl ?_
        dsimp only [List.set]
        refine x_goto h 86 dX12_can_126 (by decide) ?_
        exact ih hlt
      · have e1 := b2i_0.mp c95
        refine x_aload_n h dX12_can_98 rfl ?_
        refine x_iload_n h dX12_can_99 rfl ?_
        refine x_in1 h dX12_can_100 ?_
        refine x_iaddn h  dX12_can_101 ?_
        refine x_aload_n h dX12_can_102 rfl ?_
        refine x_iload_n h dX12_can_103 rfl ?_
        refine x_iload_n h dX12_can_104 rfl ?_
        refine x_iload h dX12_can_105 rfl ?_
        refine x_cVi h ci_X12_done im_X12_done l_X12_249 ⟨Nat.le_of_ble_eq_true rfl, Nat.le_of_ble_eq_true rfl⟩ ⟨rfl, rfl⟩ ⟨Nat.zero_le _, Nat.zero_le _⟩ (c_X12_done (M := wCF M m _ _) hF hP0 hO (w := w) hk hs (by omega)) rfl rfl rfl rfl hF.1 (by decide) rfl dX12_can_107 (fun v107 M107 hp107 => ?_)
        obtain ⟨rfl, hM⟩ := hp107
        obtain rfl := hM.symm
        clear hM
        refine x_cVi h ci_X12_isThere im_X12_isThere l_X12_246 ⟨Nat.le_of_ble_eq_true rfl, Nat.le_of_ble_eq_true rfl⟩ ⟨rfl, rfl⟩ ⟨Nat.zero_le _, Nat.zero_le _⟩ (c_X12_isThere hF (by omega) (dn_lt hO hk hs hlt)) rfl rfl rfl rfl hF.1 (by decide) rfl dX12_can_110 (fun v110 M110 hp110 => ?_)
        have hv := hp110.1
        have hM := hp110.2
        clear hp110
        rw [hv]
        clear hv v110
        obtain rfl := hM.symm
        clear hM
        refine x_if_eq h 120 dX12_can_113 (by decide) (fun c113 => ?_) (fun c113 => ?_)
        · have e2 := b2i_0.mp c113
          refine x_ic0 h dX12_can_120 ?_
          refine x_topi (y := b2i (anyN (fun w => C (k + 1) (dnM Q k s w)) (w + 1))) (b2i_f (by show (_ || _) = false; exact Bool.or_eq_false_iff.mpr ⟨e1, e2⟩)) ?_
          refine x_istore h dX12_can_121 rfl rfl ?_
          dsimp only [List.set]
          refine x_incn h dX12_can_123 rfl rfl rfl ?_
          dsimp only [List.set]
          refine x_goto h 86 dX12_can_126 (by decide) ?_
          exact ih hlt
        · have e2 := bool_nf (fun q => c113 (b2i_0.mpr q))
          refine x_ic1 h dX12_can_116 ?_
          refine x_goto h 121 dX12_can_117 (by decide) ?_
          refine x_topi (y := b2i (anyN (fun w => C (k + 1) (dnM Q k s w)) (w + 1))) (b2i_t (by show (_ || _) = true; exact Bool.or_eq_true _ _ |>.mpr (Or.inr e2))) ?_
          refine x_istore h dX12_can_121 rfl rfl ?_
          dsimp only [List.set]
          refine x_incn h dX12_can_123 rfl rfl rfl ?_
          dsimp only [List.set]
          refine x_goto h 86 dX12_can_126 (by decide) ?_
          exact ih hlt
  refine x_ic0 h dX12_can_0 ?_
  refine x_istore h dX12_can_1 rfl rfl ?_
  dsimp only [List.set]
  refine x_aload_n h dX12_can_3 rfl ?_
  refine x_getR h hF.1 f_X12_13 rfl (md_kind hF).1 dX12_can_4 ?_
  refine x_iload_n h dX12_can_7 rfl ?_
  refine x_ialdv h k (md_kind hF).2 (ix.ni (j := k) (by omega) (by decide)) q1 dX12_can_8 ?_
  rcases (show kA Q k = 0 ∨ kA Q k = 1 ∨ kA Q k = 2 ∨ kA Q k = 3 ∨ kA Q k = 4 ∨ kA Q k = 5 ∨ kA Q k = 6 ∨ kA Q k = 7 ∨ kA Q k = 8 ∨ kA Q k = 9 ∨ kA Q k = 10 by omega) with hk0 | hk0 | hk0 | hk0 | hk0 | hk0 | hk0 | hk0 | hk0 | hk0 | hk0 <;> rw [hk0]
  · refine x_tin h 68 dX12_can_9 (by decide) (by decide) (off := 59) (by decide) (by decide) ?_
    refine x_aload_n h dX12_can_68 rfl ?_
    refine x_iload_n h dX12_can_69 rfl ?_
    refine x_in1 h dX12_can_70 ?_
    refine x_iaddn h  dX12_can_71 ?_
    refine x_aload_n h dX12_can_72 rfl ?_
    refine x_iload_n h dX12_can_73 rfl ?_
    refine x_iload_n h dX12_can_74 rfl ?_
    refine x_in0 h dX12_can_75 ?_
    refine x_cVi h ci_X12_done im_X12_done l_X12_249 ⟨Nat.le_of_ble_eq_true rfl, Nat.le_of_ble_eq_true rfl⟩ ⟨rfl, rfl⟩ ⟨Nat.zero_le _, Nat.zero_le _⟩ (c_X12_done (M := wCF M m _ _) hF hP0 hO (w := 0) hk hs (by omega)) rfl rfl rfl rfl hF.1 (by decide) rfl dX12_can_76 (fun v76 M76 hp76 => ?_)
    obtain ⟨rfl, hM⟩ := hp76
    obtain rfl := hM.symm
    clear hM
    refine x_cVi h ci_X12_isThere im_X12_isThere l_X12_246 ⟨Nat.le_of_ble_eq_true rfl, Nat.le_of_ble_eq_true rfl⟩ ⟨rfl, rfl⟩ ⟨Nat.zero_le _, Nat.zero_le _⟩ (c_X12_isThere hF (by omega) (dn_lt hO hk hs (by decide))) rfl rfl rfl rfl hF.1 (by decide) rfl dX12_can_79 (fun v79 M79 hp79 => ?_)
    have hv := hp79.1
    have hM := hp79.2
    clear hp79
    rw [hv]
    clear hv v79
    obtain rfl := hM.symm
    clear hM
    exact x_zret h hQ rfl (by first | exact b2i_01 _ | decide) dX12_can_82 ⟨rfl, rfl, _, rfl, by simp only [canB, hk0]; rfl, rfl⟩
  · refine x_tin h 68 dX12_can_9 (by decide) (by decide) (off := 59) (by decide) (by decide) ?_
    refine x_aload_n h dX12_can_68 rfl ?_
    refine x_iload_n h dX12_can_69 rfl ?_
    refine x_in1 h dX12_can_70 ?_
    refine x_iaddn h  dX12_can_71 ?_
    refine x_aload_n h dX12_can_72 rfl ?_
    refine x_iload_n h dX12_can_73 rfl ?_
    refine x_iload_n h dX12_can_74 rfl ?_
    refine x_in0 h dX12_can_75 ?_
    refine x_cVi h ci_X12_done im_X12_done l_X12_249 ⟨Nat.le_of_ble_eq_true rfl, Nat.le_of_ble_eq_true rfl⟩ ⟨rfl, rfl⟩ ⟨Nat.zero_le _, Nat.zero_le _⟩ (c_X12_done (M := wCF M m _ _) hF hP0 hO (w := 0) hk hs (by omega)) rfl rfl rfl rfl hF.1 (by decide) rfl dX12_can_76 (fun v76 M76 hp76 => ?_)
    obtain ⟨rfl, hM⟩ := hp76
    obtain rfl := hM.symm
    clear hM
    refine x_cVi h ci_X12_isThere im_X12_isThere l_X12_246 ⟨Nat.le_of_ble_eq_true rfl, Nat.le_of_ble_eq_true rfl⟩ ⟨rfl, rfl⟩ ⟨Nat.zero_le _, Nat.zero_le _⟩ (c_X12_isThere hF (by omega) (dn_lt hO hk hs (by decide))) rfl rfl rfl rfl hF.1 (by decide) rfl dX12_can_79 (fun v79 M79 hp79 => ?_)
    have hv := hp79.1
    have hM := hp79.2
    clear hp79
    rw [hv]
    clear hv v79
    obtain rfl := hM.symm
    clear hM
    exact x_zret h hQ rfl (by first | exact b2i_01 _ | decide) dX12_can_82 ⟨rfl, rfl, _, rfl, by simp only [canB, hk0]; rfl, rfl⟩
  · refine x_tin h 68 dX12_can_9 (by decide) (by decide) (off := 59) (by decide) (by decide) ?_
    refine x_aload_n h dX12_can_68 rfl ?_
    refine x_iload_n h dX12_can_69 rfl ?_
    refine x_in1 h dX12_can_70 ?_
    refine x_iaddn h  dX12_can_71 ?_
    refine x_aload_n h dX12_can_72 rfl ?_
    refine x_iload_n h dX12_can_73 rfl ?_
    refine x_iload_n h dX12_can_74 rfl ?_
    refine x_in0 h dX12_can_75 ?_
    refine x_cVi h ci_X12_done im_X12_done l_X12_249 ⟨Nat.le_of_ble_eq_true rfl, Nat.le_of_ble_eq_true rfl⟩ ⟨rfl, rfl⟩ ⟨Nat.zero_le _, Nat.zero_le _⟩ (c_X12_done (M := wCF M m _ _) hF hP0 hO (w := 0) hk hs (by omega)) rfl rfl rfl rfl hF.1 (by decide) rfl dX12_can_76 (fun v76 M76 hp76 => ?_)
    obtain ⟨rfl, hM⟩ := hp76
    obtain rfl := hM.symm
    clear hM
    refine x_cVi h ci_X12_isThere im_X12_isThere l_X12_246 ⟨Nat.le_of_ble_eq_true rfl, Nat.le_of_ble_eq_true rfl⟩ ⟨rfl, rfl⟩ ⟨Nat.zero_le _, Nat.zero_le _⟩ (c_X12_isThere hF (by omega) (dn_lt hO hk hs (by decide))) rfl rfl rfl rfl hF.1 (by decide) rfl dX12_can_79 (fun v79 M79 hp79 => ?_)
    have hv := hp79.1
    have hM := hp79.2
    clear hp79
    rw [hv]
    clear hv v79
    obtain rfl := hM.symm
    clear hM
    exact x_zret h hQ rfl (by first | exact b2i_01 _ | decide) dX12_can_82 ⟨rfl, rfl, _, rfl, by simp only [canB, hk0]; rfl, rfl⟩
  · refine x_tin h 83 dX12_can_9 (by decide) (by decide) (off := 74) (by decide) (by decide) ?_
    refine x_in0 h dX12_can_83 ?_
    refine x_istore h dX12_can_84 rfl rfl ?_
    dsimp only [List.set]
    exact loop hk0 0 (by decide)
  · refine x_tin h 132 dX12_can_9 (by decide) (by decide) (off := 123) (by decide) (by decide) ?_
    refine x_aload_n h dX12_can_132 rfl ?_
    refine x_iload_n h dX12_can_133 rfl ?_
    refine x_iload_n h dX12_can_134 rfl ?_
    refine x_cVi h ci_X12_isSo im_X12_isSo l_X12_255 ⟨Nat.le_of_ble_eq_true rfl, Nat.le_of_ble_eq_true rfl⟩ ⟨rfl, rfl⟩ ⟨Nat.zero_le _, Nat.zero_le _⟩ (c_X12_isSo (M := wCF M m _ _) hF hP0 hO hk hs (by omega) (by omega)) rfl rfl rfl rfl hF.1 (by decide) rfl dX12_can_135 (fun v135 M135 hp135 => ?_)
    obtain ⟨rfl, hM⟩ := hp135
    obtain rfl := hM.symm
    clear hM
    refine x_if_eq h 156 dX12_can_138 (by decide) (fun c138 => ?_) (fun c138 => ?_)
    · have e := b2i_0.mp c138
      refine x_ic0 h dX12_can_156 ?_
      exact x_zret h hQ rfl (by first | exact b2i_01 _ | decide) dX12_can_157 ⟨rfl, rfl, _, rfl, by simp only [canB, hk0, e]; rfl, rfl⟩
    · have e := bool_nf (fun q => c138 (b2i_0.mpr q))
      refine x_aload_n h dX12_can_141 rfl ?_
      refine x_iload_n h dX12_can_142 rfl ?_
      refine x_in1 h dX12_can_143 ?_
      refine x_iaddn h  dX12_can_144 ?_
      refine x_iload_n h dX12_can_145 rfl ?_
      refine x_cVi h ci_X12_isThere im_X12_isThere l_X12_246 ⟨Nat.le_of_ble_eq_true rfl, Nat.le_of_ble_eq_true rfl⟩ ⟨rfl, rfl⟩ ⟨Nat.zero_le _, Nat.zero_le _⟩ (c_X12_isThere hF (by omega) hs) rfl rfl rfl rfl hF.1 (by decide) rfl dX12_can_146 (fun v146 M146 hp146 => ?_)
      have hv := hp146.1
      have hM := hp146.2
      clear hp146
      rw [hv]
      clear hv v146
      obtain rfl := hM.symm
      clear hM
      refine x_if_eq h 156 dX12_can_149 (by decide) (fun c149 => ?_) (fun c149 => ?_)
      · have e2 := b2i_0.mp c149
        refine x_ic0 h dX12_can_156 ?_
        exact x_zret h hQ rfl (by first | exact b2i_01 _ | decide) dX12_can_157 ⟨rfl, rfl, _, rfl, by simp only [canB, hk0, e, e2]; rfl, rfl⟩
      · have e2 := bool_nf (fun q => c149 (b2i_0.mpr q))
        refine x_ic1 h dX12_can_152 ?_
        refine x_goto h 157 dX12_can_153 (by decide) ?_
        exact x_zret h hQ rfl (by first | exact b2i_01 _ | decide) dX12_can_157 ⟨rfl, rfl, _, rfl, by simp only [canB, hk0, e, e2]; rfl, rfl⟩
  · refine x_tin h 158 dX12_can_9 (by decide) (by decide) (off := 149) (by decide) (by decide) ?_
    refine x_aload_n h dX12_can_158 rfl ?_
    refine x_iload_n h dX12_can_159 rfl ?_
    refine x_iload_n h dX12_can_160 rfl ?_
    refine x_cVi h ci_X12_isSo im_X12_isSo l_X12_255 ⟨Nat.le_of_ble_eq_true rfl, Nat.le_of_ble_eq_true rfl⟩ ⟨rfl, rfl⟩ ⟨Nat.zero_le _, Nat.zero_le _⟩ (c_X12_isSo (M := wCF M m _ _) hF hP0 hO hk hs (by omega) (by omega)) rfl rfl rfl rfl hF.1 (by decide) rfl dX12_can_161 (fun v161 M161 hp161 => ?_)
    obtain ⟨rfl, hM⟩ := hp161
    obtain rfl := hM.symm
    clear hM
    refine x_if_eq h 178 dX12_can_164 (by decide) (fun c164 => ?_) (fun c164 => ?_)
    · have e := b2i_0.mp c164
      refine x_aload_n h dX12_can_178 rfl ?_
      refine x_getR h hF.1 f_X12_25 rfl (md_number hF).1 dX12_can_179 ?_
      refine x_iload_n h dX12_can_182 rfl ?_
      refine x_ialdv h k (md_number hF).2 (ix.ni (j := k) (by omega) (by decide)) q5 dX12_can_183 ?_
      refine x_iload_n h dX12_can_184 rfl ?_
      refine x_icmp_ne h 192 dX12_can_185 (by decide) (fun c185 => ?_) (fun c185 => ?_)
      · have e2 : ¬ nI (mA Q k) = cv := c185
        refine x_ic0 h dX12_can_192 ?_
        exact x_zret h hQ rfl (by decide) dX12_can_193 ⟨rfl, rfl, _, rfl, b2i_f (by simp only [canB, hk0, e]; exact decide_eq_false e2), rfl⟩
      · have e2 : nI (mA Q k) = cv := c185
        refine x_ic1 h dX12_can_188 ?_
        refine x_goto h 193 dX12_can_189 (by decide) ?_
        exact x_zret h hQ rfl (by decide) dX12_can_193 ⟨rfl, rfl, _, rfl, b2i_t (by simp only [canB, hk0, e]; exact decide_eq_true e2), rfl⟩
    · have e := bool_nf (fun q => c164 (b2i_0.mpr q))
      refine x_aload_n h dX12_can_167 rfl ?_
      refine x_iload_n h dX12_can_168 rfl ?_
      refine x_in1 h dX12_can_169 ?_
      refine x_iaddn h  dX12_can_170 ?_
      refine x_iload_n h dX12_can_171 rfl ?_
      refine x_cVi h ci_X12_isThere im_X12_isThere l_X12_246 ⟨Nat.le_of_ble_eq_true rfl, Nat.le_of_ble_eq_true rfl⟩ ⟨rfl, rfl⟩ ⟨Nat.zero_le _, Nat.zero_le _⟩ (c_X12_isThere hF (by omega) hs) rfl rfl rfl rfl hF.1 (by decide) rfl dX12_can_172 (fun v172 M172 hp172 => ?_)
      have hv := hp172.1
      have hM := hp172.2
      clear hp172
      rw [hv]
      clear hv v172
      obtain rfl := hM.symm
      clear hM
      refine x_goto h 193 dX12_can_175 (by decide) ?_
      exact x_zret h hQ rfl (by first | exact b2i_01 _ | decide) dX12_can_193 ⟨rfl, rfl, _, rfl, by simp only [canB, hk0, e]; rfl, rfl⟩
  · refine x_tin h 194 dX12_can_9 (by decide) (by decide) (off := 185) (by decide) (by decide) ?_
    refine x_aload_n h dX12_can_194 rfl ?_
    refine x_aload_n h dX12_can_195 rfl ?_
    refine x_iload_n h dX12_can_196 rfl ?_
    refine x_iload_n h dX12_can_197 rfl ?_
    refine x_cVi h ci_X12_isSo im_X12_isSo l_X12_255 ⟨Nat.le_of_ble_eq_true rfl, Nat.le_of_ble_eq_true rfl⟩ ⟨rfl, rfl⟩ ⟨Nat.zero_le _, Nat.zero_le _⟩ (c_X12_isSo (M := wCF M m _ _) hF hP0 hO hk hs (by omega) (by omega)) rfl rfl rfl rfl hF.1 (by decide) rfl dX12_can_198 (fun v198 M198 hp198 => ?_)
    obtain ⟨rfl, hM⟩ := hp198
    obtain rfl := hM.symm
    clear hM
    refine x_if_eq h 210 dX12_can_201 (by decide) (fun c201 => ?_) (fun c201 => ?_)
    · have e := b2i_0.mp c201
      refine x_aload_n h dX12_can_210 rfl ?_
      refine x_getR h hF.1 f_X12_28 rfl (md_leads hF).1 dX12_can_211 ?_
      refine x_iload_n h dX12_can_214 rfl ?_
      refine x_ialdv h k (md_leads hF).2 (ix.ni (j := k) (by omega) (by decide)) q6 dX12_can_215 ?_
      refine x_iload_n h dX12_can_216 rfl ?_
      refine x_cVi h ci_X12_isThere im_X12_isThere l_X12_246 ⟨Nat.le_of_ble_eq_true rfl, Nat.le_of_ble_eq_true rfl⟩ ⟨rfl, rfl⟩ ⟨Nat.zero_le _, Nat.zero_le _⟩ (c_X12_isThere hF (by have := o5 (by omega) (by omega); omega) hs) rfl rfl rfl rfl hF.1 (by decide) rfl dX12_can_217 (fun v217 M217 hp217 => ?_)
      have hv := hp217.1
      have hM := hp217.2
      clear hp217
      rw [hv]
      clear hv v217
      obtain rfl := hM.symm
      clear hM
      exact x_zret h hQ rfl (by first | exact b2i_01 _ | decide) dX12_can_220 ⟨rfl, rfl, _, rfl, by simp only [canB, hk0, e]; rfl, rfl⟩
    · have e := bool_nf (fun q => c201 (b2i_0.mpr q))
      refine x_iload_n h dX12_can_204 rfl ?_
      refine x_in1 h dX12_can_205 ?_
      refine x_iaddn h  dX12_can_206 ?_
      refine x_goto h 216 dX12_can_207 (by decide) ?_
      refine x_iload_n h dX12_can_216 rfl ?_
      refine x_cVi h ci_X12_isThere im_X12_isThere l_X12_246 ⟨Nat.le_of_ble_eq_true rfl, Nat.le_of_ble_eq_true rfl⟩ ⟨rfl, rfl⟩ ⟨Nat.zero_le _, Nat.zero_le _⟩ (c_X12_isThere hF (by have := o5 (by omega) (by omega); omega) hs) rfl rfl rfl rfl hF.1 (by decide) rfl dX12_can_217 (fun v217 M217 hp217 => ?_)
      have hv := hp217.1
      have hM := hp217.2
      clear hp217
      rw [hv]
      clear hv v217
      obtain rfl := hM.symm
      clear hM
      exact x_zret h hQ rfl (by first | exact b2i_01 _ | decide) dX12_can_220 ⟨rfl, rfl, _, rfl, by simp only [canB, hk0, e]; rfl, rfl⟩
  · refine x_tin h 261 dX12_can_9 (by decide) (by decide) (off := 252) (by decide) (by decide) ?_
    refine x_aload_n h dX12_can_261 rfl ?_
    refine x_aload_n h dX12_can_262 rfl ?_
    refine x_getR h hF.1 f_X12_28 rfl (md_leads hF).1 dX12_can_263 ?_
    refine x_iload_n h dX12_can_266 rfl ?_
    refine x_ialdv h k (md_leads hF).2 (ix.ni (j := k) (by omega) (by decide)) q6 dX12_can_267 ?_
    refine x_iload_n h dX12_can_268 rfl ?_
    refine x_cVi h ci_X12_isThere im_X12_isThere l_X12_246 ⟨Nat.le_of_ble_eq_true rfl, Nat.le_of_ble_eq_true rfl⟩ ⟨rfl, rfl⟩ ⟨Nat.zero_le _, Nat.zero_le _⟩ (c_X12_isThere hF (by have := o5 (by omega) (by omega); omega) hs) rfl rfl rfl rfl hF.1 (by decide) rfl dX12_can_269 (fun v269 M269 hp269 => ?_)
    have hv := hp269.1
    have hM := hp269.2
    clear hp269
    rw [hv]
    clear hv v269
    obtain rfl := hM.symm
    clear hM
    exact x_zret h hQ rfl (by first | exact b2i_01 _ | decide) dX12_can_272 ⟨rfl, rfl, _, rfl, by simp only [canB, hk0]; rfl, rfl⟩
  · refine x_tin h 221 dX12_can_9 (by decide) (by decide) (off := 212) (by decide) (by decide) ?_
    refine x_aload_n h dX12_can_221 rfl ?_
    refine x_iload_n h dX12_can_222 rfl ?_
    refine x_in1 h dX12_can_223 ?_
    refine x_iaddn h  dX12_can_224 ?_
    refine x_iload_n h dX12_can_225 rfl ?_
    refine x_cVi h ci_X12_isThere im_X12_isThere l_X12_246 ⟨Nat.le_of_ble_eq_true rfl, Nat.le_of_ble_eq_true rfl⟩ ⟨rfl, rfl⟩ ⟨Nat.zero_le _, Nat.zero_le _⟩ (c_X12_isThere hF (by omega) hs) rfl rfl rfl rfl hF.1 (by decide) rfl dX12_can_226 (fun v226 M226 hp226 => ?_)
    have hv := hp226.1
    have hM := hp226.2
    clear hp226
    rw [hv]
    clear hv v226
    obtain rfl := hM.symm
    clear hM
    refine x_if_ne h 246 dX12_can_229 (by decide) (fun c229 => ?_) (fun c229 => ?_)
    · have e := bool_nf (fun q => c229 (b2i_0.mpr q))
      refine x_ic1 h dX12_can_246 ?_
      refine x_goto h 251 dX12_can_247 (by decide) ?_
      exact x_zret h hQ rfl (by first | exact b2i_01 _ | decide) dX12_can_251 ⟨rfl, rfl, _, rfl, by simp only [canB, hk0, e]; rfl, rfl⟩
    · have e := b2i_0.mp c229
      refine x_aload_n h dX12_can_232 rfl ?_
      refine x_aload_n h dX12_can_233 rfl ?_
      refine x_getR h hF.1 f_X12_28 rfl (md_leads hF).1 dX12_can_234 ?_
      refine x_iload_n h dX12_can_237 rfl ?_
      refine x_ialdv h k (md_leads hF).2 (ix.ni (j := k) (by omega) (by decide)) q6 dX12_can_238 ?_
      refine x_iload_n h dX12_can_239 rfl ?_
      refine x_cVi h ci_X12_isThere im_X12_isThere l_X12_246 ⟨Nat.le_of_ble_eq_true rfl, Nat.le_of_ble_eq_true rfl⟩ ⟨rfl, rfl⟩ ⟨Nat.zero_le _, Nat.zero_le _⟩ (c_X12_isThere hF (by have := o5 (by omega) (by omega); omega) hs) rfl rfl rfl rfl hF.1 (by decide) rfl dX12_can_240 (fun v240 M240 hp240 => ?_)
      have hv := hp240.1
      have hM := hp240.2
      clear hp240
      rw [hv]
      clear hv v240
      obtain rfl := hM.symm
      clear hM
      refine x_if_eq h 250 dX12_can_243 (by decide) (fun c243 => ?_) (fun c243 => ?_)
      · have e2 := b2i_0.mp c243
        refine x_ic0 h dX12_can_250 ?_
        exact x_zret h hQ rfl (by first | exact b2i_01 _ | decide) dX12_can_251 ⟨rfl, rfl, _, rfl, by simp only [canB, hk0, e, e2]; rfl, rfl⟩
      · have e2 := bool_nf (fun q => c243 (b2i_0.mpr q))
        refine x_ic1 h dX12_can_246 ?_
        refine x_goto h 251 dX12_can_247 (by decide) ?_
        exact x_zret h hQ rfl (by first | exact b2i_01 _ | decide) dX12_can_251 ⟨rfl, rfl, _, rfl, by simp only [canB, hk0, e, e2]; rfl, rfl⟩
  · refine x_tin h 261 dX12_can_9 (by decide) (by decide) (off := 252) (by decide) (by decide) ?_
    refine x_aload_n h dX12_can_261 rfl ?_
    refine x_aload_n h dX12_can_262 rfl ?_
    refine x_getR h hF.1 f_X12_28 rfl (md_leads hF).1 dX12_can_263 ?_
    refine x_iload_n h dX12_can_266 rfl ?_
    refine x_ialdv h k (md_leads hF).2 (ix.ni (j := k) (by omega) (by decide)) q6 dX12_can_267 ?_
    refine x_iload_n h dX12_can_268 rfl ?_
    refine x_cVi h ci_X12_isThere im_X12_isThere l_X12_246 ⟨Nat.le_of_ble_eq_true rfl, Nat.le_of_ble_eq_true rfl⟩ ⟨rfl, rfl⟩ ⟨Nat.zero_le _, Nat.zero_le _⟩ (c_X12_isThere hF (by have := o5 (by omega) (by omega); omega) hs) rfl rfl rfl rfl hF.1 (by decide) rfl dX12_can_269 (fun v269 M269 hp269 => ?_)
    have hv := hp269.1
    have hM := hp269.2
    clear hp269
    rw [hv]
    clear hv v269
    obtain rfl := hM.symm
    clear hM
    exact x_zret h hQ rfl (by first | exact b2i_01 _ | decide) dX12_can_272 ⟨rfl, rfl, _, rfl, by simp only [canB, hk0]; rfl, rfl⟩
  · refine x_tin h 252 dX12_can_9 (by decide) (by decide) (off := 243) (by decide) (by decide) ?_
    refine x_aload_n h dX12_can_252 rfl ?_
    refine x_iload_n h dX12_can_253 rfl ?_
    refine x_in1 h dX12_can_254 ?_
    refine x_iaddn h  dX12_can_255 ?_
    refine x_iload_n h dX12_can_256 rfl ?_
    refine x_cVi h ci_X12_isThere im_X12_isThere l_X12_246 ⟨Nat.le_of_ble_eq_true rfl, Nat.le_of_ble_eq_true rfl⟩ ⟨rfl, rfl⟩ ⟨Nat.zero_le _, Nat.zero_le _⟩ (c_X12_isThere hF (by omega) hs) rfl rfl rfl rfl hF.1 (by decide) rfl dX12_can_257 (fun v257 M257 hp257 => ?_)
    have hv := hp257.1
    have hM := hp257.2
    clear hp257
    rw [hv]
    clear hv v257
    obtain rfl := hM.symm
    clear hM
    exact x_zret h hQ rfl (by first | exact b2i_01 _ | decide) dX12_can_260 ⟨rfl, rfl, _, rfl, by simp only [canB, hk0]; rfl, rfl⟩
def canC (Q : AP) (cv : Int32) (C : NS) : Prop := ∀ j t, C j t = true ↔ Can (edM Q) (flM Q cv) (nA Q) j t
theorem foN_zero {α : Type} (f : Nat → α → α) (x : α) : foN f 0 x = x := rfl
theorem caS_def (Q : AP) (cv : Int32) (j : Nat) (y : (NS × NS) × Bool) : caS Q cv j y = foN (caA Q cv (nA Q - 1 - j)) 216 y := rfl
theorem dec0 {n : Nat} : nI n - nI 1 = (if 0 < n then nI (n - 1 - 0) else -1) := by
  rcases Nat.eq_zero_or_pos n with q | q
  · subst q; decide
  · rw [if_pos q, pk_sub q]; rfl
theorem dec37 {n j : Nat} (h : j < n) : nI (n - 1 - j) + (-1) = (if j + 1 < n then nI (n - 1 - (j + 1)) else -1) := by
  have e : nI (n - 1 - j) + (-1) = nI (n - 1 - j) - nI 1 := by rw [Int32.sub_eq_add_neg]; rfl
  rw [e, dec0]
  by_cases q : j + 1 < n
  · rw [if_pos (by omega), if_pos q, show n - 1 - j - 1 - 0 = n - 1 - (j + 1) by omega]
  · rw [if_neg (by omega), if_neg q]
theorem c_X12_layCans {Γ : GT} {G : GG} {M : MM} {m : Nat} (hF : mdF G M.2.2 m) {Q : AP} (hP : mpW M m Q) (hO : okM Q) {C F : NS} {cv : Int32} : Calls Γ q_X12_layCans [.ref m, .int cv] G (wCF M m C F) (rV (fun M' => ∃ x : NS × NS, M' = wCF M m x.1 x.2 ∧ canC Q cv x.1)) := by
  have q60 := hP.1
  have qn := hP.2.1
  refine Calls.intro (by decide +kernel) (Nat.le_of_ble_eq_true rfl) (fun z E h hQ => ?_)
  refine x_loc (L' := [some (.ref m), some (.int cv), none, none, none]) rfl ?_
  have loop : ∀ N, 13392 ≤ N → ∀ u, ∀ x : NS × NS, mc N x.1 ≤ u → (∀ j t, x.1 j t = true → Can (edM Q) (flM Q cv) (nA Q) j t) → ∀ b, (b = false → canC Q cv x.1) → ∀ w1 w2, X Γ E 0 0 G z (wCF M m x.1 x.2) 24 [some (.ref m), some (.int cv), some (.int (b2i b)), w1, w2] [] := by
    intro N hN u
    induction u using Nat.strongRecOn with
    | ind u ihu =>
    intro x hu hx b hb w1 w2
    have fin : ∀ y : NS × NS, canC Q cv y.1 → ∀ w1 w2, X Γ E 0 0 G z (wCF M m y.1 y.2) 24 [some (.ref m), some (.int cv), some (.int (b2i false)), w1, w2] [] := by
      intro y hy w1 w2
      refine x_iload_n h dX12_layCans_24 rfl ?_
      refine x_if_eq h 108 dX12_layCans_25 (by decide) (fun c25 => ?_) (fun c25 => ?_)
      · exact x_vret h hQ rfl dX12_layCans_108 ⟨rfl, rfl, rfl, y, rfl, hy⟩
      · exact absurd rfl c25
    have inner : ∀ j, j ≤ nA Q → ∀ w2, X Γ E 0 0 G z (wCF M m (foN (caS Q cv) j (x, false)).1.1 (foN (caS Q cv) j (x, false)).1.2) 37 [some (.ref m), some (.int cv), some (.int (b2i (foN (caS Q cv) j (x, false)).2)), some (.int (if j < nA Q then nI (nA Q - 1 - j) else -1)), w2] [] := by
      refine upto (nA Q) (fun j hj ih w2 => ?_)
      have inn2 : j < nA Q → ∀ s, s ≤ 216 → X Γ E 0 0 G z (wCF M m (foN (caA Q cv (nA Q - 1 - j)) s (foN (caS Q cv) j (x, false))).1.1 (foN (caA Q cv (nA Q - 1 - j)) s (foN (caS Q cv) j (x, false))).1.2) 44 [some (.ref m), some (.int cv), some (.int (b2i (foN (caA Q cv (nA Q - 1 - j)) s (foN (caS Q cv) j (x, false))).2)), some (.int (nI (nA Q - 1 - j))), some (.int (nI s))] [] := by
        intro hjl
        refine upto 216 (fun s hs ih2 => ?_)
        refine x_iload h dX12_layCans_44 rfl ?_
        refine x_sipush h (nI 216) (by decide) dX12_layCans_46 ?_
        refine x_icmp_ge h 99 dX12_layCans_49 (by decide) (fun c49 => ?_) (fun c49 => ?_)
        · obtain rfl : s = 216 := up_ge (by decide) hs c49
          refine x_iinc h (-1) (by decide) dX12_layCans_99 rfl rfl rfl ?_
          dsimp only [List.set]
          refine x_goto h 37 dX12_layCans_102 (by decide) ?_
          have ihh := ih hjl
          rw [foN_succ, caS_def] at ihh
          rw [dec37 hjl]
          exact ihh _
        · have hlt : s < 216 := up_lt (by decide) hs c49
          refine x_aload_n h dX12_layCans_52 rfl ?_
          refine x_iload_n h dX12_layCans_53 rfl ?_
          refine x_iload h dX12_layCans_54 rfl ?_
          refine x_cVi h ci_X12_isThere im_X12_isThere l_X12_246 ⟨Nat.le_of_ble_eq_true rfl, Nat.le_of_ble_eq_true rfl⟩ ⟨rfl, rfl⟩ ⟨Nat.zero_le _, Nat.zero_le _⟩ (c_X12_isThere hF (by omega) hlt) rfl rfl rfl rfl hF.1 (by decide) rfl dX12_layCans_56 (fun v56 M56 hp56 => ?_)
          have hv := hp56.1
          have hM := hp56.2
          clear hp56
          rw [hv]
          clear hv v56
          obtain rfl := hM.symm
          clear hM
          refine x_if_ne h 83 dX12_layCans_59 (by decide) (fun c59 => ?_) (fun c59 => ?_)
          · have e1 := bool_nf (fun q => c59 (b2i_0.mpr q))
            refine x_iload_n h dX12_layCans_83 rfl ?_
            refine x_if_eq h 91 dX12_layCans_84 (by decide) (fun c84 => ?_) (fun c84 => ?_)
            · have e9 := b2i_0.mp c84
              refine x_ic0 h dX12_layCans_91 ?_
              refine x_topi (y := b2i (foN (caA Q cv (nA Q - 1 - j)) s (foN (caS Q cv) j (x, false))).2) (b2i_f e9) ?_
              refine x_istore_n h dX12_layCans_92 rfl rfl ?_
              dsimp only [List.set]
              refine x_incn h dX12_layCans_93 rfl rfl rfl ?_
              dsimp only [List.set]
              refine x_goto h 44 dX12_layCans_96 (by decide) ?_
              have hy : caA Q cv (nA Q - 1 - j) s (foN (caA Q cv (nA Q - 1 - j)) s (foN (caS Q cv) j (x, false))) = foN (caA Q cv (nA Q - 1 - j)) s (foN (caS Q cv) j (x, false)) := caA_no1 e1
              have ihh := ih2 hlt
              rw [foN_succ, hy] at ihh
              exact ihh
            · have e9 := bool_nf (fun q => c84 (b2i_0.mpr q))
              refine x_ic1 h dX12_layCans_87 ?_
              refine x_goto h 92 dX12_layCans_88 (by decide) ?_
              refine x_topi (y := b2i (foN (caA Q cv (nA Q - 1 - j)) s (foN (caS Q cv) j (x, false))).2) (b2i_t e9) ?_
              refine x_istore_n h dX12_layCans_92 rfl rfl ?_
              dsimp only [List.set]
              refine x_incn h dX12_layCans_93 rfl rfl rfl ?_
              dsimp only [List.set]
              refine x_goto h 44 dX12_layCans_96 (by decide) ?_
              have hy : caA Q cv (nA Q - 1 - j) s (foN (caA Q cv (nA Q - 1 - j)) s (foN (caS Q cv) j (x, false))) = foN (caA Q cv (nA Q - 1 - j)) s (foN (caS Q cv) j (x, false)) := caA_no1 e1
              have ihh := ih2 hlt
              rw [foN_succ, hy] at ihh
              exact ihh
          · have e1 := b2i_0.mp c59
            refine x_aload_n h dX12_layCans_62 rfl ?_
            refine x_iload_n h dX12_layCans_63 rfl ?_
            refine x_iload h dX12_layCans_64 rfl ?_
            refine x_iload_n h dX12_layCans_66 rfl ?_
            refine x_cVi h ci_X12_can im_X12_can l_X12_367 ⟨Nat.le_of_ble_eq_true rfl, Nat.le_of_ble_eq_true rfl⟩ ⟨rfl, rfl⟩ ⟨Nat.zero_le _, Nat.zero_le _⟩ (c_X12_can hF hP hO (k := nA Q - 1 - j) (by omega) hlt) rfl rfl rfl rfl hF.1 (by decide) rfl dX12_layCans_67 (fun v67 M67 hp67 => ?_)
            have hv := hp67.1
            have hM := hp67.2
            clear hp67
            rw [hv]
            clear hv v67
            obtain rfl := hM.symm
            clear hM
            refine x_if_eq h 83 dX12_layCans_70 (by decide) (fun c70 => ?_) (fun c70 => ?_)
            · have e2 := b2i_0.mp c70
              refine x_iload_n h dX12_layCans_83 rfl ?_
              refine x_if_eq h 91 dX12_layCans_84 (by decide) (fun c84 => ?_) (fun c84 => ?_)
              · have e9 := b2i_0.mp c84
                refine x_ic0 h dX12_layCans_91 ?_
                refine x_topi (y := b2i (foN (caA Q cv (nA Q - 1 - j)) s (foN (caS Q cv) j (x, false))).2) (b2i_f e9) ?_
                refine x_istore_n h dX12_layCans_92 rfl rfl ?_
                dsimp only [List.set]
                refine x_incn h dX12_layCans_93 rfl rfl rfl ?_
                dsimp only [List.set]
                refine x_goto h 44 dX12_layCans_96 (by decide) ?_
                have hy : caA Q cv (nA Q - 1 - j) s (foN (caA Q cv (nA Q - 1 - j)) s (foN (caS Q cv) j (x, false))) = foN (caA Q cv (nA Q - 1 - j)) s (foN (caS Q cv) j (x, false)) := caA_no2 e2
                have ihh := ih2 hlt
                rw [foN_succ, hy] at ihh
                exact ihh
              · have e9 := bool_nf (fun q => c84 (b2i_0.mpr q))
                refine x_ic1 h dX12_layCans_87 ?_
                refine x_goto h 92 dX12_layCans_88 (by decide) ?_
                refine x_topi (y := b2i (foN (caA Q cv (nA Q - 1 - j)) s (foN (caS Q cv) j (x, false))).2) (b2i_t e9) ?_
                refine x_istore_n h dX12_layCans_92 rfl rfl ?_
                dsimp only [List.set]
                refine x_incn h dX12_layCans_93 rfl rfl rfl ?_
                dsimp only [List.set]
                refine x_goto h 44 dX12_layCans_96 (by decide) ?_
                have hy : caA Q cv (nA Q - 1 - j) s (foN (caA Q cv (nA Q - 1 - j)) s (foN (caS Q cv) j (x, false))) = foN (caA Q cv (nA Q - 1 - j)) s (foN (caS Q cv) j (x, false)) := caA_no2 e2
                have ihh := ih2 hlt
                rw [foN_succ, hy] at ihh
                exact ihh
            · have e2 := bool_nf (fun q => c70 (b2i_0.mpr q))
              refine x_aload_n h dX12_layCans_73 rfl ?_
              refine x_iload_n h dX12_layCans_74 rfl ?_
              refine x_iload h dX12_layCans_75 rfl ?_
              refine x_cVi h ci_X12_put im_X12_put l_X12_252 ⟨Nat.le_of_ble_eq_true rfl, Nat.le_of_ble_eq_true rfl⟩ ⟨rfl, rfl⟩ ⟨Nat.zero_le _, Nat.zero_le _⟩ (c_X12_put hF (k := nA Q - 1 - j) (by omega) hlt) rfl rfl rfl rfl hF.1 (by decide) rfl dX12_layCans_77 (fun v77 M77 hp77 => ?_)
              have hv := hp77.1
              have hM := hp77.2
              clear hp77
              rw [hv]
              clear hv v77
              subst hM
              refine x_if_ne h 87 dX12_layCans_80 (by decide) (fun c80 => ?_) (fun c80 => ?_)
              · refine x_ic1 h dX12_layCans_87 ?_
                refine x_goto h 92 dX12_layCans_88 (by decide) ?_
                refine x_topi (y := b2i true) (by first | rfl | decide) ?_
                refine x_istore_n h dX12_layCans_92 rfl rfl ?_
                dsimp only [List.set]
                refine x_incn h dX12_layCans_93 rfl rfl rfl ?_
                dsimp only [List.set]
                refine x_goto h 44 dX12_layCans_96 (by decide) ?_
                have hy : caA Q cv (nA Q - 1 - j) s (foN (caA Q cv (nA Q - 1 - j)) s (foN (caS Q cv) j (x, false))) = (putP (nA Q - 1 - j) s (foN (caA Q cv (nA Q - 1 - j)) s (foN (caS Q cv) j (x, false))).1, true) := caA_yes e1 e2
                have ihh := ih2 hlt
                rw [foN_succ, hy] at ihh
                exact ihh
              · rw [e1] at c80; exact absurd c80 (by decide)
      refine x_iload_n h dX12_layCans_37 rfl ?_
      refine x_if_lt h 105 dX12_layCans_38 (by decide) (fun c38 => ?_) (fun c38 => ?_)
      · obtain rfl : j = nA Q := by
          rcases Nat.lt_or_ge j (nA Q) with q | q
          · rw [if_pos q] at c38; exact (nI_nneg (by omega) c38).elim
          · omega
        refine x_goto h 24 dX12_layCans_105 (by decide) ?_
        have co := cr_ok hN (cv := cv) q60 hx (nA Q) (Nat.le_refl _)
        cases hfb : (foN (caS Q cv) (nA Q) (x, false)).2 with
        | true => exact ihu (mc N (foN (caS Q cv) (nA Q) (x, false)).1.1) (Nat.lt_of_lt_of_le (co.2.2.1 hfb) hu) _ (Nat.le_refl _) co.1 true (fun q => by cases q) _ _
        | false => exact fin _ (cr_end co hfb) _ _
      · have hjl : j < nA Q := by
          rcases Nat.lt_or_ge j (nA Q) with q | q
          · exact q
          · rw [if_neg (by omega)] at c38; exact absurd (by decide) c38
        rw [if_pos hjl]
        refine x_in0 h dX12_layCans_41 ?_
        refine x_istore h dX12_layCans_42 rfl rfl ?_
        dsimp only [List.set]
        have i2 := inn2 hjl 0 (Nat.zero_le _)
        rw [foN_zero] at i2
        exact i2
    refine x_iload_n h dX12_layCans_24 rfl ?_
    refine x_if_eq h 108 dX12_layCans_25 (by decide) (fun c25 => ?_) (fun c25 => ?_)
    · have e := b2i_0.mp c25
      exact x_vret h hQ rfl dX12_layCans_108 ⟨rfl, rfl, rfl, x, rfl, hb e⟩
    · refine x_ic0 h dX12_layCans_28 ?_
      refine x_istore_n h dX12_layCans_29 rfl rfl ?_
      dsimp only [List.set]
      refine x_aload_n h dX12_layCans_30 rfl ?_
      refine x_getIv h hF.1 f_X12_205 rfl qn dX12_layCans_31 ?_
      refine x_in1 h dX12_layCans_34 ?_
      refine x_isub h dX12_layCans_35 ?_
      refine x_istore_n h dX12_layCans_36 rfl rfl ?_
      dsimp only [List.set]
      refine x_loc (L' := [some (.ref m), some (.int cv), some (.int (b2i (foN (caS Q cv) 0 (x, false)).2)), some (.int (if 0 < nA Q then nI (nA Q - 1 - 0) else -1)), _]) (by rw [dec0]; rfl) (inner 0 (Nat.zero_le _) _)
  have clr : ∀ i, i ≤ 248 → X Γ E 0 0 G z (wCF M m (clC i C) F) 2 [some (.ref m), some (.int cv), some (.int (nI i)), none, none] [] := by
    refine upto 248 (fun i hi ih => ?_)
    refine x_iload_n h dX12_layCans_2 rfl ?_
    refine x_sipush h (nI 248) (by decide) dX12_layCans_3 ?_
    refine x_icmp_ge h 22 dX12_layCans_6 (by decide) (fun c6 => ?_) (fun c6 => ?_)
    · obtain rfl : i = 248 := up_ge (by decide) hi c6
      refine x_ic1 h dX12_layCans_22 ?_
      refine x_istore_n h dX12_layCans_23 rfl rfl ?_
      dsimp only [List.set]
      refine x_mem (wCF_congr (C2 := fun _ _ => false) (F2 := F) M m (fun k s hk hs => ?_) (fun k s hk hs => rfl)) (loop 13392 (Nat.le_refl _) _ (fun _ _ => false, F) (Nat.le_refl _) (fun _ _ q => by cases q) true (fun q => by cases q) _ _)
      rw [clC, if_pos (by omega)]
    · have hlt : i < 248 := up_lt (by decide) hi c6
      refine x_aload_n h dX12_layCans_9 rfl ?_
      refine x_getR h hF.1 f_X12_92 rfl (md_comes hF).1 dX12_layCans_10 ?_
      refine x_iload_n h dX12_layCans_13 rfl ?_
      refine x_lc0 h dX12_layCans_14 ?_
      refine x_last h i (md_comes hF).2 (ix.ni (j := i) (by omega) (by decide)) dX12_layCans_15 ?_
      refine x_mem (wCF_clC M m C _ hlt) ?_
      refine x_incn h dX12_layCans_16 rfl rfl rfl ?_
      dsimp only [List.set]
      refine x_goto h 2 dX12_layCans_19 (by decide) ?_
      exact ih hlt
  refine x_in0 h dX12_layCans_0 ?_
  refine x_istore_n h dX12_layCans_1 rfl rfl ?_
  dsimp only [List.set]
  refine x_mem (wCF_congr (C2 := clC 0 C) (F2 := F) M m (fun k s hk hs => ?_) (fun k s hk hs => rfl)) (clr 0 (Nat.zero_le _))
  rw [clC, if_neg (by omega)]
