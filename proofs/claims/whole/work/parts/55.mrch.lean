/-! ===== the reference's steps; counting; what is reached ===== -/
theorem ct_mono {p q : Nat → Bool} : ∀ n, (∀ i, i < n → p i = true → q i = true) → fb_ct p n ≤ fb_ct q n
  | 0, _ => Nat.le_refl _
  | n + 1, h => by
    have ih := ct_mono n (fun i hi => h i (by omega))
    rw [fb_ct_succ, fb_ct_succ]
    cases hp : p n with
    | false => simp; omega
    | true => rw [h n (by omega) hp]; simp; omega
theorem ct_lt {p q : Nat → Bool} {a : Nat} : ∀ n, (∀ i, i < n → p i = true → q i = true) → a < n → p a = false → q a = true → fb_ct p n + 1 ≤ fb_ct q n
  | 0, _, h, _, _ => absurd h (Nat.not_lt_zero _)
  | n + 1, h, ha, h1, h2 => by
    rw [fb_ct_succ, fb_ct_succ]
    rcases Nat.lt_or_ge a n with q1 | q1
    · have ih := ct_lt n (fun i hi => h i (by omega)) q1 h1 h2
      cases hp : p n with
      | false => simp; omega
      | true => rw [h n (by omega) hp]; simp; omega
    · obtain rfl : a = n := by omega
      have ih := ct_mono a (fun i hi => h i (by omega))
      rw [h1, h2]; simp; omega
theorem ct_one {p q : Nat → Bool} {a : Nat} : ∀ n, (∀ i, i < n → i ≠ a → q i = true → p i = true) → fb_ct q n ≤ fb_ct p n + 1
  | 0, _ => by simp [fb_ct]
  | n + 1, h => by
    rw [fb_ct_succ, fb_ct_succ]
    rcases Nat.lt_or_ge a n with q1 | q1
    · have ih := ct_one n (fun i hi => h i (by omega))
      cases hp : q n with
      | false => simp; omega
      | true => rw [h n (by omega) (by omega) hp]; simp; omega
    · have ih := ct_mono (p := q) (q := p) n (fun i hi => h i (by omega) (by omega))
      cases hq : q n <;> cases hp : p n <;> simp <;> omega
theorem ct_eq {p q : Nat → Bool} (n : Nat) (h : ∀ i, i < n → p i = q i) : fb_ct p n = fb_ct q n := Nat.le_antisymm (ct_mono n (fun i hi e => by rw [← h i hi]; exact e)) (ct_mono n (fun i hi e => by rw [h i hi]; exact e))
/-- a step of the reference -/
def edM (Q : AP) (k s k' s' : Nat) : Prop :=
  if kA Q k ≤ 2 then k' = k + 1 ∧ s' = dnM Q k s 0
  else if kA Q k = 3 then k' = k + 1 ∧ ∃ w, w < 6 ∧ s' = dnM Q k s w
  else if kA Q k ≤ 5 then cndT (cA Q k) s = true ∧ k' = k + 1 ∧ s' = s
  else if kA Q k = 6 then k' = (if cndT (cA Q k) s then k + 1 else lA Q k) ∧ s' = s
  else if kA Q k = 8 then (k' = k + 1 ∨ k' = lA Q k) ∧ s' = s
  else if kA Q k = 10 then k' = k + 1 ∧ s' = s
  else k' = lA Q k ∧ s' = s
theorem ed_lt {Q : AP} (hO : okM Q) {k s k' s' : Nat} (hk : k < nA Q) (hs : s < 216) (h : edM Q k s k' s') : k' ≤ nA Q ∧ s' < 216 := by
  obtain ⟨o1, o2, o3, o4, o5, o6, o7⟩ := hO k hk
  unfold edM at h
  split at h
  · exact ⟨by omega, by rw [h.2]; exact dn_lt hO hk hs (by decide)⟩
  split at h
  · obtain ⟨h1, w, hw, h2⟩ := h
    exact ⟨by omega, by rw [h2]; exact dn_lt hO hk hs hw⟩
  split at h
  · exact ⟨by omega, by omega⟩
  split at h
  · rename_i e
    have := o5 (by omega) (by omega)
    refine ⟨?_, by omega⟩
    rw [h.1]
    split <;> omega
  split at h
  · have := o5 (by omega) (by omega)
    refine ⟨?_, by omega⟩
    rcases h.1 with q | q <;> omega
  split at h
  · exact ⟨by omega, by omega⟩
  · have := o5 (by omega) (by omega)
    exact ⟨by omega, by omega⟩
/-- how much is left to be found: twice what hasn't come, and what is fresh -/
def mu (N : Nat) (x : NS × NS) : Nat := 2 * fb_ct (fun i => !x.1 (i / 216) (i % 216)) N + fb_ct (fun i => x.2 (i / 216) (i % 216)) N
/-- y has what x has, and more; what is more is fresh -/
def extP (N : Nat) (x y : NS × NS) : Prop := (∀ j t, x.1 j t = true → y.1 j t = true) ∧ (∀ j t, x.2 j t = true → y.2 j t = true) ∧ (∀ j t, y.1 j t = true → x.1 j t = false → y.2 j t = true) ∧ ((∀ j t, x.2 j t = true → x.1 j t = true) → ∀ j t, y.2 j t = true → y.1 j t = true) ∧ mu N y ≤ mu N x
theorem ext_refl (N : Nat) (x : NS × NS) : extP N x x := ⟨fun _ _ h => h, fun _ _ h => h, fun _ _ h h2 => absurd h (by rw [h2]; decide), fun h => h, Nat.le_refl _⟩
theorem ext_trans {N : Nat} {x y z : NS × NS} (h1 : extP N x y) (h2 : extP N y z) : extP N x z := by
  refine ⟨fun j t h => h2.1 j t (h1.1 j t h), fun j t h => h2.2.1 j t (h1.2.1 j t h), fun j t h h0 => ?_, fun h => h2.2.2.2.1 (h1.2.2.2.1 h), Nat.le_trans h2.2.2.2.2 h1.2.2.2.2⟩
  cases hy : y.1 j t with
  | true => exact h2.2.1 j t (h1.2.2.1 j t hy h0)
  | false => exact h2.2.2.1 j t h hy
theorem adC_iff {C : NS} {k s j t : Nat} : adC C k s j t = true ↔ C j t = true ∨ (j = k ∧ t = s) := by
  unfold adC addS
  split
  · rename_i e; subst e; simp
  · rename_i e; simp [e]
theorem put_C {x : NS × NS} {k s j t : Nat} : (putP k s x).1 j t = true ↔ x.1 j t = true ∨ (j = k ∧ t = s) := adC_iff
theorem put_ext {N : Nat} (hN : 13392 ≤ N) (x : NS × NS) {k s : Nat} (hk : k < 62) (hs : s < 216) : extP N x (putP k s x) := by
  refine ⟨fun j t h => put_C.mpr (Or.inl h), fun j t h => ?_, fun j t h h0 => ?_, fun hF j t h => ?_, ?_⟩
  · show (if x.1 k s then x.2 else adC x.2 k s) j t = true
    split
    · exact h
    · exact adC_iff.mpr (Or.inl h)
  · show (if x.1 k s then x.2 else adC x.2 k s) j t = true
    rcases put_C.mp h with q | q
    · rw [h0] at q; cases q
    · rw [q.1, q.2] at h0
      rw [h0]
      exact adC_iff.mpr (Or.inr q)
  · have h' : (if x.1 k s then x.2 else adC x.2 k s) j t = true := h
    refine put_C.mpr ?_
    split at h'
    · exact Or.inl (hF j t h')
    · rcases adC_iff.mp h' with q | q
      · exact Or.inl (hF j t q)
      · exact Or.inr q
  · cases hx : x.1 k s with
    | true =>
      have e1 : fb_ct (fun i => !(putP k s x).1 (i / 216) (i % 216)) N = fb_ct (fun i => !x.1 (i / 216) (i % 216)) N := ct_eq N (fun i _ => by
        show (!adC x.1 k s _ _) = _
        cases hy : x.1 (i / 216) (i % 216) with
        | true => rw [adC_iff.mpr (Or.inl hy)]
        | false =>
          cases hz : adC x.1 k s (i / 216) (i % 216) with
          | false => rfl
          | true =>
            rcases adC_iff.mp hz with q | q
            · rw [hy] at q; cases q
            · rw [q.1, q.2, hx] at hy; cases hy)
      have e2 : (putP k s x).2 = x.2 := by show (if x.1 k s then x.2 else adC x.2 k s) = _; rw [hx]; rfl
      unfold mu
      rw [e1, e2]
      exact Nat.le_refl _
    | false =>
      have e1 := ct_lt (p := fun i => !(putP k s x).1 (i / 216) (i % 216)) (q := fun i => !x.1 (i / 216) (i % 216)) (a := 216 * k + s) N (fun i _ h => by
        cases hy : x.1 (i / 216) (i % 216) with
        | false => rfl
        | true =>
          have h' : (!(putP k s x).1 (i / 216) (i % 216)) = true := h
          rw [put_C.mpr (Or.inl hy)] at h'; cases h') (by omega) (by
          show (!(putP k s x).1 ((216 * k + s) / 216) ((216 * k + s) % 216)) = false
          rw [put_C.mpr (Or.inr ⟨by omega, by omega⟩)]; rfl) (by
          show (!x.1 ((216 * k + s) / 216) ((216 * k + s) % 216)) = true
          rw [show (216 * k + s) / 216 = k by omega, show (216 * k + s) % 216 = s by omega, hx]; rfl)
      have e2 := ct_one (p := fun i => x.2 (i / 216) (i % 216)) (q := fun i => (putP k s x).2 (i / 216) (i % 216)) (a := 216 * k + s) N (fun i _ hi h => by
        have h' : (if x.1 k s then x.2 else adC x.2 k s) (i / 216) (i % 216) = true := h
        rw [hx] at h'
        rcases adC_iff.mp h' with q | q
        · exact q
        · exact absurd (show i = 216 * k + s by omega) hi)
      unfold mu
      omega
theorem go_spec {N : Nat} (hN : 13392 ≤ N) {Q : AP} (hO : okM Q) (h60 : nA Q ≤ 60) {k s : Nat} (hk : k < nA Q) (hs : s < 216) (x : NS × NS) : extP N x (goP Q k s x) ∧ ∀ j t, (goP Q k s x).1 j t = true ↔ x.1 j t = true ∨ edM Q k s j t := by
  obtain ⟨o1, o2, o3, o4, o5, o6, o7⟩ := hO k hk
  unfold goP edM
  split
  · exact ⟨put_ext hN x (by omega) (dn_lt hO hk hs (by decide)), fun j t => put_C⟩
  split
  · have h6 : ∀ n, n ≤ 6 → extP N x (foN (fun w => putP (k + 1) (dnM Q k s w)) n x) ∧ ∀ j t, (foN (fun w => putP (k + 1) (dnM Q k s w)) n x).1 j t = true ↔ x.1 j t = true ∨ (j = k + 1 ∧ ∃ w, w < n ∧ t = dnM Q k s w) := by
      intro n
      induction n with
      | zero => intro _; exact ⟨ext_refl N x, fun j t => ⟨fun h => Or.inl h, fun h => h.elim (fun q => q) (fun q => by obtain ⟨_, w, hw, _⟩ := q; omega)⟩⟩
      | succ n ih =>
        intro hn
        have ihn := ih (by omega)
        refine ⟨ext_trans ihn.1 (put_ext hN _ (by omega) (dn_lt hO hk hs (by omega))), fun j t => ?_⟩
        show (putP (k + 1) (dnM Q k s n) (foN (fun w => putP (k + 1) (dnM Q k s w)) n x)).1 j t = true ↔ _
        rw [put_C, ihn.2]
        constructor
        · rintro ((h | ⟨h1, w, hw, h2⟩) | ⟨h1, h2⟩)
          · exact Or.inl h
          · exact Or.inr ⟨h1, w, by omega, h2⟩
          · exact Or.inr ⟨h1, n, by omega, h2⟩
        · rintro (h | ⟨h1, w, hw, h2⟩)
          · exact Or.inl (Or.inl h)
          · rcases Nat.lt_or_ge w n with q | q
            · exact Or.inl (Or.inr ⟨h1, w, q, h2⟩)
            · obtain rfl : w = n := by omega
              exact Or.inr ⟨h1, h2⟩
    exact h6 6 (Nat.le_refl _)
  split
  · cases hc : cndT (cA Q k) s with
    | true => exact ⟨put_ext hN x (by omega) hs, fun j t => put_C.trans ⟨fun h => h.elim Or.inl (fun q => Or.inr ⟨rfl, q⟩), fun h => h.elim Or.inl (fun q => Or.inr q.2)⟩⟩
    | false => exact ⟨ext_refl N x, fun j t => ⟨Or.inl, fun h => h.elim (fun q => q) (fun q => absurd q.1 (by decide))⟩⟩
  split
  · have := o5 (by omega) (by omega)
    exact ⟨put_ext hN x (by split <;> omega) hs, fun j t => put_C⟩
  split
  · have := o5 (by omega) (by omega)
    refine ⟨ext_trans (put_ext hN x (by omega) hs) (put_ext hN _ (by omega) hs), fun j t => ?_⟩
    rw [put_C, put_C]
    constructor
    · rintro ((h | ⟨h1, h2⟩) | ⟨h1, h2⟩)
      · exact Or.inl h
      · exact Or.inr ⟨Or.inl h1, h2⟩
      · exact Or.inr ⟨Or.inr h1, h2⟩
    · rintro (h | ⟨h1 | h1, h2⟩)
      · exact Or.inl (Or.inl h)
      · exact Or.inl (Or.inr ⟨h1, h2⟩)
      · exact Or.inr ⟨h1, h2⟩
  split
  · exact ⟨put_ext hN x (by omega) hs, fun j t => put_C⟩
  · have := o5 (by omega) (by omega)
    exact ⟨put_ext hN x (by omega) hs, fun j t => put_C⟩
/-- reached in r steps, from B at the first node -/
def rcN (ed : Nat → Nat → Nat → Nat → Prop) (n : Nat) (B : ST) : Nat → Nat → Nat → Prop
  | 0, k, s => k = 0 ∧ s < 216 ∧ B s = true
  | r + 1, k, s => ∃ k0 s0, k0 < n ∧ s0 < 216 ∧ rcN ed n B r k0 s0 ∧ ed k0 s0 k s
def Rch (ed : Nat → Nat → Nat → Nat → Prop) (n : Nat) (B : ST) (k s : Nat) : Prop := ∃ r, rcN ed n B r k s
theorem rch_step {ed : Nat → Nat → Nat → Nat → Prop} {n : Nat} {B : ST} {k s k' s' : Nat} (h : Rch ed n B k s) (hk : k < n) (hs : s < 216) (he : ed k s k' s') : Rch ed n B k' s' := by
  obtain ⟨r, hr⟩ := h
  exact ⟨r + 1, k, s, hk, hs, hr, he⟩
/-- a set that has the start and is closed has all that is reached -/
theorem rch_least {ed : Nat → Nat → Nat → Nat → Prop} {n : Nat} {B : ST} {P : Nat → Nat → Prop} (h0 : ∀ s, s < 216 → B s = true → P 0 s) (h1 : ∀ k s k' s', k < n → s < 216 → P k s → ed k s k' s' → P k' s') : ∀ r k s, rcN ed n B r k s → P k s
  | 0, k, s, h => by obtain ⟨rfl, h2, h3⟩ := h; exact h0 s h2 h3
  | r + 1, k, s, h => by
    obtain ⟨k0, s0, a, b, c, d⟩ := h
    exact h1 k0 s0 k s a b (rch_least h0 h1 r k0 s0 c) d
/-- the state of the finding; D pending at the node k -/
def rinv (Q : AP) (B : ST) (k : Nat) (D : ST) (x : NS × NS) : Prop := (∀ j t, x.1 j t = true → Rch (edM Q) (nA Q) B j t) ∧ (∀ j t, x.2 j t = true → x.1 j t = true) ∧ (∀ s, s < 216 → B s = true → x.1 0 s = true) ∧ (∀ j t, j < nA Q → t < 216 → x.1 j t = true → x.2 j t = false → (j = k → D t = false) → ∀ j' t', edM Q j t j' t' → x.1 j' t' = true) ∧ (∀ s, D s = true → x.1 k s = true)
theorem rinv_go {N : Nat} (hN : 13392 ≤ N) {Q : AP} (hO : okM Q) (h60 : nA Q ≤ 60) {B : ST} {k s : Nat} (hk : k < nA Q) (hs : s < 216) {D D' : ST} {x : NS × NS} (h : rinv Q B k D x) (hD : D s = true) (hD' : ∀ u, D' u = true ↔ D u = true ∧ u ≠ s) : rinv Q B k D' (goP Q k s x) ∧ mu N (goP Q k s x) ≤ mu N x := by
  obtain ⟨h1, h2, h3, h4, h5⟩ := h
  obtain ⟨g1, g2⟩ := go_spec hN hO h60 hk hs x
  refine ⟨⟨fun j t q => ?_, g1.2.2.2.1 h2, fun u a b => g1.1 0 u (h3 u a b), fun j t hj ht q1 q2 q3 j' t' q4 => ?_, fun u q => g1.1 k u (h5 u ((hD' u).mp q).1)⟩, g1.2.2.2.2⟩
  · rcases (g2 j t).mp q with q | q
    · exact h1 j t q
    · exact rch_step (h1 k s (h5 s hD)) hk hs q
  · have hx1 : x.1 j t = true := by
      cases hx : x.1 j t with
      | true => rfl
      | false => rw [g1.2.2.1 j t q1 hx] at q2; cases q2
    have hx2 : x.2 j t = false := by
      cases hx : x.2 j t with
      | false => rfl
      | true => rw [g1.2.1 j t hx] at q2; cases q2
    by_cases e : j = k ∧ t = s
    · exact (g2 j' t').mpr (Or.inr (by rw [← e.1, ← e.2]; exact q4))
    · refine g1.1 j' t' (h4 j t hj ht hx1 hx2 (fun ek => ?_) j' t' q4)
      cases hd : D t with
      | false => rfl
      | true =>
        have := (hD' t).mpr ⟨hd, fun q => e ⟨ek, q⟩⟩
        rw [q3 ek] at this; cases this
/-! ===== the reference's finding of what is reached ===== -/
theorem gfW_ok {N : Nat} (hN : 13392 ≤ N) {Q : AP} (hO : okM Q) (h60 : nA Q ≤ 60) {B : ST} {k w : Nat} (hk : k < nA Q) (hw : w < 4) {x : NS × NS} (h : rinv Q B k (fun _ => false) x) : rinv Q B k (fun _ => false) (gfW Q k w x) ∧ mu N (gfW Q k w x) ≤ mu N x ∧ (anyN (fun i => x.2 k (54 * w + i)) 54 = true → mu N (gfW Q k w x) < mu N x) ∧ (anyN (fun i => x.2 k (54 * w + i)) 54 = false → gfW Q k w x = x) := by
  obtain ⟨h1, h2, h3, h4, h5⟩ := h
  have hcl : ∀ j t, clW x.2 k w j t = true → x.2 j t = true := fun j t q => by
    unfold clW at q
    split at q
    · cases q
    · exact q
  have start : rinv Q B k (fun s => x.2 k s && decide (s / 54 = w)) (x.1, clW x.2 k w) := by
    refine ⟨h1, fun j t q => h2 j t (hcl j t q), h3, fun j t hj ht q1 q2 q3 j' t' q4 => ?_, fun s q => ?_⟩
    · refine h4 j t hj ht q1 ?_ (fun _ => rfl) j' t' q4
      cases hx : x.2 j t with
      | false => rfl
      | true =>
        have q2' : clW x.2 k w j t = false := q2
        unfold clW at q2'
        split at q2'
        · rename_i e
          have := q3 e.1
          have this' : (x.2 k t && decide (t / 54 = w)) = false := this
          rw [← e.1, hx, decide_eq_true e.2] at this'
          cases this'
        · rw [hx] at q2'; cases q2'
    · have q' : (x.2 k s && decide (s / 54 = w)) = true := q
      rw [Bool.and_eq_true] at q'
      exact h2 k s q'.1
  have muc : mu N (x.1, clW x.2 k w) ≤ mu N x := by
    have := ct_mono (p := fun i => clW x.2 k w (i / 216) (i % 216)) (q := fun i => x.2 (i / 216) (i % 216)) N (fun i _ q => hcl _ _ q)
    unfold mu
    exact Nat.add_le_add_left this _
  have loop : ∀ n, n ≤ 54 → rinv Q B k (fun s => x.2 k s && decide (s / 54 = w) && decide (54 * w + n ≤ s)) (foN (gfA Q (x.2 k) k w) n (x.1, clW x.2 k w)) ∧ mu N (foN (gfA Q (x.2 k) k w) n (x.1, clW x.2 k w)) ≤ mu N (x.1, clW x.2 k w) := by
    intro n
    induction n with
    | zero =>
      intro _
      refine ⟨?_, Nat.le_refl _⟩
      have e : (fun s => x.2 k s && decide (s / 54 = w) && decide (54 * w + 0 ≤ s)) = (fun s => x.2 k s && decide (s / 54 = w)) := by
        funext s
        by_cases q : s / 54 = w
        · rw [decide_eq_true (show 54 * w + 0 ≤ s by omega), Bool.and_true]
        · simp [q]
      rw [e]
      exact start
    | succ n ih =>
      intro hn
      obtain ⟨i1, i2⟩ := ih (by omega)
      show rinv Q B k _ (gfA Q (x.2 k) k w n (foN (gfA Q (x.2 k) k w) n (x.1, clW x.2 k w))) ∧ mu N (gfA Q (x.2 k) k w n (foN (gfA Q (x.2 k) k w) n (x.1, clW x.2 k w))) ≤ _
      cases hb : x.2 k (54 * w + n) with
      | false =>
        rw [gfA_no hb]
        refine ⟨?_, i2⟩
        have e : (fun s => x.2 k s && decide (s / 54 = w) && decide (54 * w + (n + 1) ≤ s)) = (fun s => x.2 k s && decide (s / 54 = w) && decide (54 * w + n ≤ s)) := by
          funext s
          by_cases q : s = 54 * w + n
          · rw [q, hb]; simp
          · rw [show decide (54 * w + (n + 1) ≤ s) = decide (54 * w + n ≤ s) from decide_eq_decide.mpr ⟨fun _ => by omega, fun _ => by omega⟩]
        rw [e]
        exact i1
      | true =>
        rw [gfA_yes hb]
        have := rinv_go hN hO h60 hk (s := 54 * w + n) (by omega) (D' := fun s => x.2 k s && decide (s / 54 = w) && decide (54 * w + (n + 1) ≤ s)) i1 (by
          show (x.2 k (54 * w + n) && decide ((54 * w + n) / 54 = w) && decide (54 * w + n ≤ 54 * w + n)) = true
          rw [hb, decide_eq_true (show (54 * w + n) / 54 = w by omega), decide_eq_true (Nat.le_refl _)]
          rfl) (fun u => by
          show (x.2 k u && decide (u / 54 = w) && decide (54 * w + (n + 1) ≤ u)) = true ↔ (x.2 k u && decide (u / 54 = w) && decide (54 * w + n ≤ u)) = true ∧ u ≠ 54 * w + n
          simp only [Bool.and_eq_true, decide_eq_true_iff]
          constructor
          · rintro ⟨⟨a, b⟩, c⟩; exact ⟨⟨⟨a, b⟩, by omega⟩, by omega⟩
          · rintro ⟨⟨⟨a, b⟩, c⟩, d⟩; exact ⟨⟨a, b⟩, by omega⟩)
        exact ⟨this.1, Nat.le_trans this.2 i2⟩
  have l54 := loop 54 (Nat.le_refl _)
  have e : (fun s => x.2 k s && decide (s / 54 = w) && decide (54 * w + 54 ≤ s)) = (fun _ => false) := by
    funext s
    by_cases q : s / 54 = w
    · rw [decide_eq_false (show ¬ 54 * w + 54 ≤ s by omega), Bool.and_false]
    · simp [q]
  rw [e] at l54
  refine ⟨l54.1, Nat.le_trans l54.2 muc, fun q => Nat.lt_of_le_of_lt l54.2 ?_, fun q => ?_⟩
  · obtain ⟨i, hi, hx⟩ := (anyN_iff 54).mp q
    have := ct_lt (p := fun i => clW x.2 k w (i / 216) (i % 216)) (q := fun i => x.2 (i / 216) (i % 216)) (a := 216 * k + (54 * w + i)) N (fun i _ q => hcl _ _ q) (by omega) (by
      show clW x.2 k w ((216 * k + (54 * w + i)) / 216) ((216 * k + (54 * w + i)) % 216) = false
      rw [show (216 * k + (54 * w + i)) / 216 = k by omega, show (216 * k + (54 * w + i)) % 216 = 54 * w + i by omega]
      exact if_pos ⟨rfl, by omega⟩) (by
      show x.2 ((216 * k + (54 * w + i)) / 216) ((216 * k + (54 * w + i)) % 216) = true
      rw [show (216 * k + (54 * w + i)) / 216 = k by omega, show (216 * k + (54 * w + i)) % 216 = 54 * w + i by omega]
      exact hx)
    unfold mu
    exact Nat.add_lt_add_left (Nat.lt_of_succ_le this) _
  · have hz : ∀ i, i < 54 → x.2 k (54 * w + i) = false := fun i hi => by
      cases hx : x.2 k (54 * w + i) with
      | false => rfl
      | true => rw [(anyN_iff (p := fun i => x.2 k (54 * w + i)) 54).mpr ⟨i, hi, hx⟩] at q; cases q
    have e1 : clW x.2 k w = x.2 := by
      funext j t
      unfold clW
      split
      · rename_i e
        have := hz (t - 54 * w) (by omega)
        rw [show 54 * w + (t - 54 * w) = t by omega] at this
        rw [e.1, this]
      · rfl
    have e2 := foN_skip (f := gfA Q (x.2 k) k w) (x := (x.1, clW x.2 k w)) (i := 0) 54 (fun j _ hj y => gfA_no (hz j (by omega)))
    show foN (gfA Q (x.2 k) k w) 54 (x.1, clW x.2 k w) = x
    rw [Nat.zero_add] at e2
    rw [e2, e1]
    rfl
theorem gfP_ok {N : Nat} (hN : 13392 ≤ N) {Q : AP} (hO : okM Q) (h60 : nA Q ≤ 60) {B : ST} {k : Nat} (hk : k < nA Q) {x : NS × NS} (h : rinv Q B k (fun _ => false) x) : rinv Q B k (fun _ => false) (gfP Q k x) ∧ mu N (gfP Q k x) ≤ mu N x ∧ (gfB Q k x = true → mu N (gfP Q k x) < mu N x) ∧ (gfB Q k x = false → gfP Q k x = x ∧ ∀ s, s < 216 → x.2 k s = false) := by
  have loop : ∀ n, n ≤ 4 → rinv Q B k (fun _ => false) (foN (gfW Q k) n x) ∧ mu N (foN (gfW Q k) n x) ≤ mu N x ∧ (anyN (fun w => anyN (fun i => (foN (gfW Q k) w x).2 k (54 * w + i)) 54) n = true → mu N (foN (gfW Q k) n x) < mu N x) ∧ (anyN (fun w => anyN (fun i => (foN (gfW Q k) w x).2 k (54 * w + i)) 54) n = false → foN (gfW Q k) n x = x ∧ ∀ s, s < 54 * n → x.2 k s = false) := by
    intro n
    induction n with
    | zero => intro _; exact ⟨h, Nat.le_refl _, fun q => (by cases q), fun _ => ⟨rfl, fun s hs => absurd hs (by omega)⟩⟩
    | succ n ih =>
      intro hn
      obtain ⟨i1, i2, i3, i4⟩ := ih (by omega)
      obtain ⟨g1, g2, g3, g4⟩ := gfW_ok hN hO h60 hk (w := n) (by omega) i1
      refine ⟨g1, Nat.le_trans g2 i2, fun q => ?_, fun q => ?_⟩
      · have q' : (anyN (fun w => anyN (fun i => (foN (gfW Q k) w x).2 k (54 * w + i)) 54) n || anyN (fun i => (foN (gfW Q k) n x).2 k (54 * n + i)) 54) = true := q
        rcases Bool.or_eq_true _ _ |>.mp q' with a | a
        · exact Nat.lt_of_le_of_lt g2 (i3 a)
        · exact Nat.lt_of_lt_of_le (g3 a) i2
      · have q' : (anyN (fun w => anyN (fun i => (foN (gfW Q k) w x).2 k (54 * w + i)) 54) n || anyN (fun i => (foN (gfW Q k) n x).2 k (54 * n + i)) 54) = false := q
        obtain ⟨a, b⟩ := Bool.or_eq_false_iff.mp q'
        obtain ⟨i5, i6⟩ := i4 a
        refine ⟨(g4 b).trans i5, fun s hs => ?_⟩
        rcases Nat.lt_or_ge s (54 * n) with c | c
        · exact i6 s c
        · rw [i5] at b
          cases hx : x.2 k s with
          | false => rfl
          | true =>
            rw [(anyN_iff (p := fun i => x.2 k (54 * n + i)) 54).mpr ⟨s - 54 * n, by omega, by show x.2 k (54 * n + (s - 54 * n)) = true; rw [show 54 * n + (s - 54 * n) = s by omega]; exact hx⟩] at b
            cases b
  obtain ⟨a, b, c, d⟩ := loop 4 (Nat.le_refl _)
  exact ⟨a, b, c, fun q => ⟨(d q).1, fun s hs => (d q).2 s (by omega)⟩⟩
theorem rinv_k {Q : AP} {B : ST} {k j : Nat} {x : NS × NS} (h : rinv Q B k (fun _ => false) x) : rinv Q B j (fun _ => false) x := ⟨h.1, h.2.1, h.2.2.1, fun j' t hj ht q1 q2 _ => h.2.2.2.1 j' t hj ht q1 q2 (fun _ => rfl), fun _ q => by cases q⟩
/-- a round of the finding: was anything fresh? -/
def frB (Q : AP) (x : NS × NS) (n : Nat) : Bool := anyN (fun k => gfB Q k (foN (gfP Q) k x)) n
theorem fr_ok {N : Nat} (hN : 13392 ≤ N) {Q : AP} (hO : okM Q) (h60 : nA Q ≤ 60) {B : ST} {x : NS × NS} (h : rinv Q B 0 (fun _ => false) x) : ∀ n, n ≤ nA Q → rinv Q B 0 (fun _ => false) (foN (gfP Q) n x) ∧ mu N (foN (gfP Q) n x) ≤ mu N x ∧ (frB Q x n = true → mu N (foN (gfP Q) n x) < mu N x) ∧ (frB Q x n = false → foN (gfP Q) n x = x ∧ ∀ k s, k < n → s < 216 → x.2 k s = false)
  | 0, _ => ⟨h, Nat.le_refl _, fun q => (by cases q), fun _ => ⟨rfl, fun k s hk => absurd hk (Nat.not_lt_zero _)⟩⟩
  | n + 1, hn => by
    obtain ⟨i1, i2, i3, i4⟩ := fr_ok hN hO h60 h n (by omega)
    obtain ⟨g1, g2, g3, g4⟩ := gfP_ok hN hO h60 (k := n) (by omega) (rinv_k i1)
    refine ⟨rinv_k g1, Nat.le_trans g2 i2, fun q => ?_, fun q => ?_⟩
    · rcases Bool.or_eq_true _ _ |>.mp (show (frB Q x n || gfB Q n (foN (gfP Q) n x)) = true from q) with a | a
      · exact Nat.lt_of_le_of_lt g2 (i3 a)
      · exact Nat.lt_of_lt_of_le (g3 a) i2
    · obtain ⟨a, b⟩ := Bool.or_eq_false_iff.mp (show (frB Q x n || gfB Q n (foN (gfP Q) n x)) = false from q)
      obtain ⟨i5, i6⟩ := i4 a
      obtain ⟨g5, g6⟩ := g4 b
      refine ⟨g5.trans i5, fun k s hk hs => ?_⟩
      rcases Nat.lt_or_ge k n with c | c
      · exact i6 k s c hs
      · obtain rfl : k = n := by omega
        rw [i5] at g6
        exact g6 s hs
/-- the finding's end -/
theorem fr_end {Q : AP} {B : ST} {x : NS × NS} (h : rinv Q B 0 (fun _ => false) x) (hF : ∀ k s, k < nA Q → s < 216 → x.2 k s = false) : ∀ j t, x.1 j t = true ↔ Rch (edM Q) (nA Q) B j t := by
  intro j t
  refine ⟨h.1 j t, fun q => ?_⟩
  obtain ⟨r, hr⟩ := q
  exact rch_least (P := fun k s => x.1 k s = true) h.2.2.1 (fun k s k' s' hk hs q e => h.2.2.2.1 k s hk hs q (hF k s hk hs) (fun _ => rfl) k' s' e) r j t hr
theorem rinv_0 {Q : AP} {t : Nat → Nat} : rinv Q (begS t) 0 (fun _ => false) (bgN t 216, bgN t 216) := by
  have e : ∀ j s, bgN t 216 j s = true → j = 0 ∧ s < 216 ∧ begS t s = true := fun j s q => by
    unfold bgN at q
    rw [Bool.and_eq_true, Bool.and_eq_true, decide_eq_true_iff, decide_eq_true_iff] at q
    exact ⟨q.1.1, q.1.2, q.2⟩
  exact ⟨fun j s q => ⟨0, e j s q⟩, fun _ _ q => q, fun s h1 h2 => by simp [bgN, h1, h2], fun j s _ _ q1 q2 _ _ _ _ => absurd ((show bgN t 216 j s = true from q1).symm.trans (show bgN t 216 j s = false from q2)) (by decide), fun _ q => by cases q⟩
