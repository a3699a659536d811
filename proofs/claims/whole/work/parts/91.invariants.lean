/-! ===== the search for invariants: class and reference alike ===== -/
/-- class's program A and reference's Q, as far as sweeps go -/
def prC (A Q : AP) (Gc : GC) (nl : Nat) (tt : Nat → Nat) : Prop := nA Q = nA A ∧ (∀ i, i < nA A → (kA Q i = 6 ↔ kA A i = 6)) ∧ (∀ i, i < nA A → kA A i = 6 → mA Q i = mA A i ∧ mA A i < nl) ∧ (∀ l, l < nl → ∃ j, j < nA A ∧ kA A j = 6 ∧ mA A j = l) ∧ nl ≤ 3 ∧ Gc.1 ≤ 5 ∧
  ∀ hs W, swE A (fun l => agS Gc (hs l)) (begS tt) W → (∀ u, u < 216 → ((lcP Q Gc hs tt).1 (nA A) u = true ↔ W (nA A) u = true)) ∧ (∀ j u, j < nA A → kA A j = 5 → u < 216 → ((lcP Q Gc hs tt).1 j u = true ↔ W j u = true)) ∧ (∀ j u, j < nA A → kA A j = 6 → u < 216 → ((lcP Q Gc hs tt).1 j u = true ↔ W j u = true ∨ W (lA A j) u = true))
/-- the sets of a flow are those of the nodes -/
def fiE (A : AP) (f : Nat) (τ : SG) (C : NS) : Prop := (∀ u, u < 216 → τ (f + 1) u = C (nA A) u) ∧ (∀ j u, j < nA A → kA A j = 5 → u < 216 → τ (f + 17 + 1 + 2 * mA A j) u = C j u) ∧ ∀ j u, j < nA A → kA A j = 6 → u < 216 → τ (f + 3 + 1 + 2 * mA A j) u = C j u
section IV
variable {A Q : AP} {Gc : GC} {nl : Nat} {tt : Nat → Nat} {f bg : Nat} {t gt : Nat → Nat}
theorem inv_fi {σ τ : SG} {gn : Nat → Nat} {W : Nat → ST} (hw : wfA A) (hP : prC A Q Gc nl tt) (h : invO A Gc f gn (begS tt) σ τ W) : fiE A f τ (lcP Q Gc gn tt).1 := by
  obtain ⟨sw, e1, e2, e3, -, -⟩ := h
  obtain ⟨p1, p2, p3⟩ := hP.2.2.2.2.2.2 gn W sw
  refine ⟨fun u hu => ?_, fun j u hj c hu => ?_, fun j u hj c hu => ?_⟩
  · rw [e1 u hu, Bool.eq_iff_iff]; exact (p1 u hu).symm
  · rw [e2 j u hj c, Bool.eq_iff_iff]; exact (p2 j u hj c hu).symm
  · obtain ⟨-, -, -, m6⟩ := hw.1 j hj
    rw [Bool.eq_iff_iff, e3 _ u (m6 (by omega)), p3 j u hj c hu]
    obtain ⟨q1, q2, q3, q4⟩ := hw.2.1 j hj c
    constructor
    · rintro ⟨i, i1, i2 | i2, i3, i4⟩
      · obtain rfl := hw.2.2.2.2.2.2 i j i1 hj (by omega) (by omega) i3
        exact Or.inl i4
      · obtain ⟨r1, r2, r3, r4, r5⟩ := hw.2.2.1 i i1 i2
        have : lA A i = j := hw.2.2.2.2.2.2 _ j (by omega) hj (by omega) (by omega) (by omega)
        rw [this] at r3
        rw [r3]
        exact Or.inr i4
    · rintro (h | h)
      · exact ⟨j, hj, Or.inl c, rfl, h⟩
      · refine ⟨lA A j, q2, Or.inr q3, ?_, h⟩
        have := (hw.2.2.1 _ q2 q3).2.2.2.1
        rw [q4] at this
        exact this.symm
theorem so_any {C : NS} {S T : ST} {g j : Nat} (h1 : ∀ u, u < 216 → S u = C j u) (h2 : ∀ u, u < 216 → T u = cndT (Gc.2 g) u) : soA Gc C g j = !anyS (fun s => S s && !T s) := by
  cases q : anyS (fun s => S s && !T s) with
  | false =>
    rw [anyS_not] at q
    refine (allN_iff 216).mpr (fun u hu => ?_)
    have a := q u hu
    rw [h1 u hu, h2 u hu] at a
    revert a
    cases C j u <;> cases cndT (Gc.2 g) u <;> simp
  | true =>
    obtain ⟨u, hu, a⟩ := anyS_iff.mp q
    rw [h1 u hu, h2 u hu] at a
    cases e : soA Gc C g j with
    | false => rfl
    | true =>
      have b := (allN_iff 216).mp e u hu
      revert a b
      cases C j u <;> cases cndT (Gc.2 g) u <;> simp
theorem fg_tb {σ : SG} {gn : Nat → Nat} (hw : wfA A) (hP : prC A Q Gc nl tt) (hbg : bg < f ∨ f + 40 ≤ bg) (h : invE A Gc f bg t gt (begS tt) σ) (hgn : ∀ l, gn l < 2 ^ Gc.1) {l j : Nat} (hj : j < nA A) (k6 : kA A j = 6) (m6 : mA A j = l) (g : Nat) : (fgN (invP f bg (pvA A t) (Gc.1, gt) (σ, gn)) f gn gt l).testBit g = ((gn l).testBit g && !soA Gc (lcP Q Gc gn tt).1 g j) := by
  obtain ⟨W, hO⟩ := inv_pass hw hbg h hP.2.2.2.2.2.1 hgn
  have fi := inv_fi hw hP hO
  unfold fgN
  rw [enN_bit, Nat.zero_add]
  unfold fgS
  cases q : (gn l).testBit g with
  | false => simp
  | true =>
    have hg := tb_lt (hgn l) q
    have g5 := hP.2.2.2.2.2.1
    rw [decide_eq_true (show g < 5 by omega)]
    have fr := hO.2.2.2.2.2
    have out := (h.2.1 g hg).1
    rw [so_any (S := (invP f bg (pvA A t) (Gc.1, gt) (σ, gn)) (f + 3 + 1 + 2 * l)) (T := (invP f bg (pvA A t) (Gc.1, gt) (σ, gn)) (gt g)) (fun u hu => by rw [← m6]; exact fi.2.2 j u hj k6 hu) (fun u hu => by rw [fr _ (by omega)]; exact (h.2.1 g hg).2 u hu)]
    simp
theorem pow_le32 {n : Nat} (h : n ≤ 5) : 2 ^ n ≤ 32 := by
  rcases (show n = 0 ∨ n = 1 ∨ n = 2 ∨ n = 3 ∨ n = 4 ∨ n = 5 by omega) with rfl | rfl | rfl | rfl | rfl | rfl <;> decide
theorem inv_gn {σ : SG} {gn : Nat → Nat} (hw : wfA A) (hP : prC A Q Gc nl tt) (hbg : bg < f ∨ f + 40 ≤ bg) (h : invE A Gc f bg t gt (begS tt) σ) (hgn : ∀ l, gn l < 2 ^ Gc.1) : (invS f bg (pvA A t) (Gc.1, gt) nl (σ, gn)).2 = guH Q Gc tt gn := by
  have h32 : ∀ l, gn l < 32 := fun l => Nat.lt_of_lt_of_le (hgn l) (pow_le32 hP.2.2.2.2.2.1)
  funext l
  show (if l < nl then difG (gn l) (fgN (invP f bg (pvA A t) (Gc.1, gt) (σ, gn)) f gn gt l) else gn l) = _
  refine Nat.eq_of_testBit_eq (fun g => ?_)
  by_cases c : l < nl
  · obtain ⟨j, j1, j2, j3⟩ := hP.2.2.2.1 l c
    have hjQ : j < nA Q := by rw [hP.1]; exact j1
    rw [if_pos c, difG_tb _ _ (h32 l), fg_tb hw hP hbg h hgn j1 j2 j3 g]
    unfold guH
    rw [guP_at h32 hjQ ((hP.2.1 j j1).mpr j2) (by rw [(hP.2.2.1 j j1 j2).1]; exact j3) (fun i hi k m => by
      have hi' : i < nA A := by rw [← hP.1]; exact hi
      have k' := (hP.2.1 i hi').mp k
      rw [(hP.2.2.1 i hi' k').1] at m
      exact hw.2.2.2.2.2.2 i j hi' j1 (by omega) (by omega) (by omega))]
    cases q : (gn l).testBit g with
    | false => rfl
    | true =>
      rw [decide_eq_true (tb_lt (hgn l) q)]
      simp
  · rw [if_neg c]
    unfold guH
    rw [guP_no h32 (fun i hi k m => by
      have hi' : i < nA A := by rw [← hP.1]; exact hi
      have k' := (hP.2.1 i hi').mp k
      have a := hP.2.2.1 i hi' k'
      omega)]
theorem inv_gr {σ : SG} {gn : Nat → Nat} (hw : wfA A) (hP : prC A Q Gc nl tt) (hbg : bg < f ∨ f + 40 ≤ bg) (h : invE A Gc f bg t gt (begS tt) σ) (hgn : ∀ l, gn l < 2 ^ Gc.1) : (invG f bg (pvA A t) (Gc.1, gt) nl (σ, gn) = true → guH Q Gc tt gn ≠ gn) ∧ (invG f bg (pvA A t) (Gc.1, gt) nl (σ, gn) = false → guH Q Gc tt gn = gn) := by
  have h32 : ∀ l, gn l < 32 := fun l => Nat.lt_of_lt_of_le (hgn l) (pow_le32 hP.2.2.2.2.2.1)
  rw [← inv_gn hw hP hbg h hgn]
  constructor
  · intro hg e
    unfold invG at hg
    obtain ⟨l, hl, a⟩ := (anyN_iff nl).mp hg
    rw [decide_eq_true_iff] at a
    refine a (Nat.eq_of_testBit_eq (fun g => ?_))
    have e2 := congrArg (fun x => x.testBit g) (congrFun e l)
    have e3 : (if l < nl then difG (gn l) (fgN (invP f bg (pvA A t) (Gc.1, gt) (σ, gn)) f gn gt l) else gn l).testBit g = (gn l).testBit g := e2
    rw [if_pos hl, difG_tb _ _ (h32 l)] at e3
    rw [Nat.zero_testBit]
    obtain ⟨j, j1, j2, j3⟩ := hP.2.2.2.1 l hl
    have e4 := fg_tb hw hP hbg h hgn j1 j2 j3 g
    show (fgN (invP f bg (pvA A t) (Gc.1, gt) (σ, gn)) f gn gt l).testBit g = false
    cases q : (fgN (invP f bg (pvA A t) (Gc.1, gt) (σ, gn)) f gn gt l).testBit g with
    | false => rfl
    | true =>
      rw [q] at e3 e4
      rw [← e3] at e4
      simp at e4
  · intro hg
    unfold invG at hg
    funext l
    show (if l < nl then difG (gn l) (fgN (invP f bg (pvA A t) (Gc.1, gt) (σ, gn)) f gn gt l) else gn l) = gn l
    by_cases c : l < nl
    · rw [if_pos c]
      have z : fgN (invP f bg (pvA A t) (Gc.1, gt) (σ, gn)) f gn gt l = 0 := by
        rcases Nat.eq_zero_or_pos (fgN (invP f bg (pvA A t) (Gc.1, gt) (σ, gn)) f gn gt l) with z | z
        · exact z
        · have := (anyN_iff (p := fun l => decide (fgN (invP f bg (pvA A t) (Gc.1, gt) (σ, gn)) f gn gt l ≠ 0)) nl).mpr ⟨l, c, decide_eq_true (show fgN (invP f bg (pvA A t) (Gc.1, gt) (σ, gn)) f gn gt l ≠ 0 by omega)⟩
          rw [hg] at this
          cases this
      rw [z]
      refine Nat.eq_of_testBit_eq (fun g => ?_)
      rw [difG_tb _ _ (h32 l), Nat.zero_testBit]
      simp
    · rw [if_neg c]
/-- how many guesses loops have -/
def msG (gn : Nat → Nat) (N : Nat) : Nat := fb_ct (fun i => (gn (i / 5)).testBit (i % 5)) N
theorem gu_sub {hs : Nat → Nat} (h32 : ∀ l, hs l < 32) (l g : Nat) : (guH Q Gc tt hs l).testBit g = true → (hs l).testBit g = true := by
  unfold guH guP
  rw [guP_tb (y := (hs, 0)) h32 l g, Bool.and_eq_true]
  exact fun h => h.1
theorem gu_lt {hs : Nat → Nat} {N : Nat} (hN : N = 15) (hP : prC A Q Gc nl tt) (h32 : ∀ l, hs l < 32) (hne : guH Q Gc tt hs ≠ hs) : msG (guH Q Gc tt hs) N + 1 ≤ msG hs N := by
  have ex : ∃ l g, (hs l).testBit g = true ∧ (guH Q Gc tt hs l).testBit g = false ∧ l < 3 := by
    apply Classical.byContradiction
    intro hno
    refine hne (funext fun l => Nat.eq_of_testBit_eq fun g => ?_)
    by_cases c : l < 3
    · cases q : (hs l).testBit g with
      | false =>
        cases r : (guH Q Gc tt hs l).testBit g with
        | false => rfl
        | true => exact absurd (gu_sub h32 l g r) (by rw [q]; decide)
      | true =>
        cases r : (guH Q Gc tt hs l).testBit g with
        | true => rfl
        | false => exact absurd ⟨l, g, q, r, c⟩ hno
    · unfold guH
      rw [guP_no h32 (fun i hi k m => by
        have hi' : i < nA A := by rw [← hP.1]; exact hi
        have k' := (hP.2.1 i hi').mp k
        have a := hP.2.2.1 i hi' k'
        have b := hP.2.2.2.2.1
        omega)]
  obtain ⟨l, g, a, b, c⟩ := ex
  have hg := tb_lt (n := 5) (h32 l) a
  unfold msG
  refine ct_lt (a := 5 * l + g) N (fun i _ => gu_sub h32 _ _) (by omega) ?_ ?_
  · show (guH Q Gc tt hs ((5 * l + g) / 5)).testBit ((5 * l + g) % 5) = false
    rw [show (5 * l + g) / 5 = l by omega, show (5 * l + g) % 5 = g by omega]; exact b
  · show (hs ((5 * l + g) / 5)).testBit ((5 * l + g) % 5) = true
    rw [show (5 * l + g) / 5 = l by omega, show (5 * l + g) % 5 = g by omega]; exact a
theorem it_ms {act N : Nat} (hN : N = 15) (hP : prC A Q Gc nl tt) (ha : act < 32) : ∀ r, guH Q Gc tt (itN (guH Q Gc tt) r (fun _ => act)) = itN (guH Q Gc tt) r (fun _ => act) ∨ r + 1 + msG (itN (guH Q Gc tt) (r + 1) (fun _ => act)) N ≤ N
  | 0 => by
    by_cases e : guH Q Gc tt (itN (guH Q Gc tt) 0 (fun _ => act)) = itN (guH Q Gc tt) 0 (fun _ => act)
    · exact Or.inl e
    · have a := gu_lt hN hP (it_lt ha 0) e
      have b : msG (itN (guH Q Gc tt) 0 (fun _ => act)) N ≤ N := fb_ct_le _ N
      have c : msG (itN (guH Q Gc tt) (0 + 1) (fun _ => act)) N = msG (guH Q Gc tt (itN (guH Q Gc tt) 0 (fun _ => act))) N := rfl
      exact Or.inr (by omega)
  | r + 1 => by
    rcases it_ms hN hP ha r with h | h
    · left
      have e : itN (guH Q Gc tt) (r + 1) (fun _ => act) = itN (guH Q Gc tt) r (fun _ => act) := h
      rw [e]; exact h
    · by_cases e : guH Q Gc tt (itN (guH Q Gc tt) (r + 1) (fun _ => act)) = itN (guH Q Gc tt) (r + 1) (fun _ => act)
      · exact Or.inl e
      · have a := gu_lt hN hP (it_lt ha (r + 1)) e
        have c : msG (itN (guH Q Gc tt) (r + 1 + 1) (fun _ => act)) N = msG (guH Q Gc tt (itN (guH Q Gc tt) (r + 1) (fun _ => act))) N := rfl
        exact Or.inr (by omega)
theorem hs_fix {act : Nat} (hP : prC A Q Gc nl tt) (ha : act < 32) : guH Q Gc tt (HS Q Gc tt act) = HS Q Gc tt act := by
  rcases it_ms (N := 15) rfl hP ha 15 with h | h
  · exact h
  · omega
theorem it_sub {act : Nat} (ha : act < 32) : ∀ r l g, (itN (guH Q Gc tt) r (fun _ => act) l).testBit g = true → act.testBit g = true
  | 0, l, g, h => h
  | r + 1, l, g, h => it_sub ha r l g (gu_sub (it_lt ha r) l g h)
theorem lt_tb {a b n : Nat} (hb : b < 2 ^ n) (h : ∀ g, a.testBit g = true → b.testBit g = true) : a < 2 ^ n := by
  refine Nat.lt_pow_two_of_testBit a (fun g hg => ?_)
  cases q : a.testBit g with
  | false => rfl
  | true => exact absurd (tb_lt hb (h g q)) (by omega)
theorem it_bd {act : Nat} (hP : prC A Q Gc nl tt) (ha : act < 2 ^ Gc.1) (r l : Nat) : itN (guH Q Gc tt) r (fun _ => act) l < 2 ^ Gc.1 :=
  lt_tb ha (fun g => it_sub (Nat.lt_of_lt_of_le ha (pow_le32 hP.2.2.2.2.2.1)) r l g)
/-- the rounds: sets and guesses between them -/
theorem inv_all {σ : SG} {act : Nat} (hw : wfA A) (hP : prC A Q Gc nl tt) (hbg : bg < f ∨ f + 40 ≤ bg) (h : invE A Gc f bg t gt (begS tt) σ) (ha : act < 2 ^ Gc.1) : ∀ r, ∃ τ, (rnds (invS f bg (pvA A t) (Gc.1, gt) nl) (invG f bg (pvA A t) (Gc.1, gt) nl) (σ, fun _ => act) r).1 = (τ, itN (guH Q Gc tt) r (fun _ => act)) ∧ (∀ b, b < f + 1 ∨ f + 40 ≤ b → τ b = σ b) ∧ ((rnds (invS f bg (pvA A t) (Gc.1, gt) nl) (invG f bg (pvA A t) (Gc.1, gt) nl) (σ, fun _ => act) r).2 = true → ∀ q, r = q + 1 → itN (guH Q Gc tt) r (fun _ => act) ≠ itN (guH Q Gc tt) q (fun _ => act)) ∧ ((rnds (invS f bg (pvA A t) (Gc.1, gt) nl) (invG f bg (pvA A t) (Gc.1, gt) nl) (σ, fun _ => act) r).2 = false → guH Q Gc tt (itN (guH Q Gc tt) r (fun _ => act)) = itN (guH Q Gc tt) r (fun _ => act) ∧ ∃ ρ W, invO A Gc f (itN (guH Q Gc tt) r (fun _ => act)) (begS tt) ρ τ W)
  | 0 => ⟨σ, rfl, fun _ _ => rfl, fun _ q e => by omega, fun e => by cases e⟩
  | r + 1 => by
    obtain ⟨τ, e1, e2, e3, e4⟩ := inv_all hw hP hbg h ha r
    rw [rnds]
    cases hf : (rnds (invS f bg (pvA A t) (Gc.1, gt) nl) (invG f bg (pvA A t) (Gc.1, gt) nl) (σ, fun _ => act) r).2 with
    | false =>
      rw [if_neg (by decide)]
      obtain ⟨fx, ρ, W, hO⟩ := e4 hf
      have e : itN (guH Q Gc tt) (r + 1) (fun _ => act) = itN (guH Q Gc tt) r (fun _ => act) := fx
      rw [e]
      exact ⟨τ, e1, e2, fun q => absurd (hf.symm.trans q) (by decide), fun _ => ⟨fx, ρ, W, hO⟩⟩
    | true =>
      rw [if_pos rfl, e1]
      have hE := invE_fr hbg h e2
      have hb := it_bd hP ha r
      have gn := inv_gn hw hP hbg hE hb
      have gr := inv_gr hw hP hbg hE hb
      obtain ⟨W, hO⟩ := inv_pass hw hbg hE hP.2.2.2.2.2.1 hb
      refine ⟨invP f bg (pvA A t) (Gc.1, gt) (τ, itN (guH Q Gc tt) r (fun _ => act)), ?_, fun b hb2 => ?_, fun q s es => ?_, fun q => ?_⟩
      · show (_, (invS f bg (pvA A t) (Gc.1, gt) nl (τ, itN (guH Q Gc tt) r (fun _ => act))).2) = _
        rw [gn]
        rfl
      · rw [hO.2.2.2.2.2 b hb2]; exact e2 b hb2
      · obtain rfl : s = r := by omega
        exact gr.1 q
      · have fx := gr.2 q
        have e : itN (guH Q Gc tt) (r + 1) (fun _ => act) = itN (guH Q Gc tt) r (fun _ => act) := fx
        rw [e]
        exact ⟨fx, _, W, hO⟩
theorem inv_ok {σ : SG} {act R : Nat} (hR : R = 16) (hw : wfA A) (hP : prC A Q Gc nl tt) (hbg : bg < f ∨ f + 40 ≤ bg) (h : invE A Gc f bg t gt (begS tt) σ) (ha : act < 2 ^ Gc.1) {x : SG × (Nat → Nat)} (hx : x = (rnds (invS f bg (pvA A t) (Gc.1, gt) nl) (invG f bg (pvA A t) (Gc.1, gt) nl) (σ, fun _ => act) R).1) : x.2 = HS Q Gc tt act ∧ fiE A f x.1 (lcP Q Gc (HS Q Gc tt act) tt).1 ∧ (∀ l u, l < 3 → u < 216 → x.1 (f + 10 + 1 + 2 * l) u = agS Gc (HS Q Gc tt act l) u) ∧ ∀ b, b < f + 1 ∨ f + 40 ≤ b → x.1 b = σ b := by
  have h32 := Nat.lt_of_lt_of_le ha (pow_le32 hP.2.2.2.2.2.1)
  have fx := hs_fix hP h32
  have e16 : itN (guH Q Gc tt) R (fun _ => act) = HS Q Gc tt act := by
    rw [hR]; exact fx
  obtain ⟨τ, e1, e2, e3, e4⟩ := inv_all hw hP hbg h ha R
  rw [e16] at e1 e3 e4
  rw [e1] at hx
  have hf : (rnds (invS f bg (pvA A t) (Gc.1, gt) nl) (invG f bg (pvA A t) (Gc.1, gt) nl) (σ, fun _ => act) R).2 = false := by
    cases q : (rnds (invS f bg (pvA A t) (Gc.1, gt) nl) (invG f bg (pvA A t) (Gc.1, gt) nl) (σ, fun _ => act) R).2 with
    | false => rfl
    | true => exact absurd rfl (e3 q 15 (by omega))
  obtain ⟨-, ρ, W, hO⟩ := e4 hf
  rw [hx]
  exact ⟨rfl, inv_fi hw hP hO, hO.2.2.2.2.1, e2⟩
end IV
