/-! ===== class's program and reference's, side by side ===== -/
def PR (S V : RT) : Prop := tabOk S ∧ ckOk S ∧ rel S V
theorem pr_n {S V : RT} (h : PR S V) : V 0 22 = S 0 1 ∧ V 0 23 = S 0 7 ∧ V 0 24 = S 0 8 ∧ V 0 26 = S 0 6 ∧ V 0 25 = S 0 9 := by
  obtain ⟨a, b, c, d, -⟩ := h.2.2.2.2.1.1 h.1.1.2
  exact ⟨a, b, c, d, h.2.2.2.1⟩
theorem pr_nd {S V : RT} (h : PR S V) {j : Nat} (hj : j < S 0 1) : ndR (S 200 5) S V j := h.2.2.2.2.2.2.1 j hj
theorem prC_of {S V : RT} (h : PR S V) (tt : Nat → Nat) : prC (aT S) (pgV V).1 (pgV V).2.1 (V 0 24) tt := by
  obtain ⟨e22, e23, e24, e26, -⟩ := pr_n h
  have hnm := h.1.2.2.2.2.2.1
  have ok := okV h.2.2 h.1
  refine ⟨e22, fun i hi => ?_, fun i hi k => ?_, fun l hl => ?_, ok.2.2.2.2.1, ok.2.2.2.2.2.2.1, fun hs W hW => lc_W h.1 h.2.2 hW⟩
  · show V 11 i = 6 ↔ S (65 + i) 0 = 6
    have := (pr_nd h hi).1
    omega
  · have k6 : S (65 + i) 0 = 6 := k
    have hi' : i < S 0 1 := hi
    show V 15 i = S (65 + i) 2 ∧ S (65 + i) 2 < V 0 24
    exact ⟨(pr_nd h hi').2.2.2.2.1 (by omega) (by omega), by rw [e24]; exact hnm.2.2.1.1 i hi' k6⟩
  · obtain ⟨j, j1, j2, j3⟩ := hnm.2.2.1.2.2 l (by omega)
    exact ⟨j, j1, j2, j3⟩
/-- the condition number j of a code -/
def cdS (S : RT) (j : Nat) : CND := (S (5 + 3 * j) 0, S (5 + 3 * j) 1, S (5 + 3 * j) 2)
theorem cd_ok {S V : RT} (h : PR S V) {j : Nat} (hj : j < S 0 3) : cndOk (cdS S j) := h.1.2.2.2.1 j hj
/-- the code at c, as a table -/
def cdW (M : MM) (c : Nat) (S : RT) : Prop := (∀ a f, a < 125 → ¬ refS a f → M.1 (c + a) f = nI (S a f)) ∧ (∀ a f, refS a f → M.2.2 (c + a) f = .ref (c + 5 + 3 * S a f) ∧ S a f < 20)
theorem cdW_of {M : MM} {u c : Nat} {T : RT} (h : rdW M u c T) : cdW M c T := ⟨h.1, h.2.2⟩
theorem cdW_c {M : MM} {c : Nat} {S : RT} (h : cdW M c S) (f : Nat) : M.1 c f = nI (S 0 f) := h.1 0 f (by decide) (by unfold refS; omega)
theorem cdW_s {M : MM} {c : Nat} {S : RT} (h : cdW M c S) {i f : Nat} (hi : i < 60) (hf : f < 4) : M.1 (c + 65 + i) f = nI (S (65 + i) f) := by
  have := h.1 (65 + i) f (by omega) (by unfold refS; omega)
  rw [← Nat.add_assoc] at this
  exact this
theorem cdW_sr {M : MM} {c : Nat} {S : RT} (h : cdW M c S) {i : Nat} (hi : i < 60) : M.2.2 (c + 65 + i) 4 = .ref (c + 5 + 3 * S (65 + i) 4) ∧ S (65 + i) 4 < 20 := by
  have := h.2 (65 + i) 4 (by unfold refS; omega)
  rw [← Nat.add_assoc] at this
  exact this
theorem cdW_q {M : MM} {c : Nat} {S : RT} (h : cdW M c S) {j : Nat} (hj : j < 20) : cnIs M (c + 5 + 3 * j) (cdS S j) := by
  have e : ∀ f, f < 3 → M.1 (c + 5 + 3 * j) f = nI (S (5 + 3 * j) f) := fun f hf => by
    have := h.1 (5 + 3 * j) f (by omega) (by unfold refS; omega)
    rw [← Nat.add_assoc] at this
    exact this
  exact ⟨e 0 (by decide), e 1 (by decide), e 2 (by decide)⟩
theorem cdW_cg {M N : MM} {c : Nat} {S : RT} (h : cdW M c S) (e1 : ∀ b j, c ≤ b → b < c + 125 → N.1 b j = M.1 b j) (e2 : ∀ b j, c ≤ b → b < c + 125 → N.2.2 b j = M.2.2 b j) : cdW N c S :=
  ⟨fun a f ha hr => (e1 _ _ (by omega) (by omega)).trans (h.1 a f ha hr), fun a f hr => ⟨(e2 _ _ (by omega) (by unfold refS at hr; omega)).trans (h.2 a f hr).1, (h.2 a f hr).2⟩⟩
theorem codeX_cd {G : GG} {M : MM} {D : DS} {c : Nat} {S : RT} (hW : codeF G M.2.2 c) (hT : cdW M c S) (hD : ∀ j, j < 20 → isD G M.2.2 D (c + 5 + 3 * j + 1)) (ht : tabOk S) : codeX G M D c (pvT S c) (gvT S c) (kvT S c) (S 0 8) := by
  obtain ⟨o1, o2, o3, o4, o5, o6, o7, o8, o9, o10, o11, o12⟩ := ht.2.1
  have hs := ht.2.2.1
  refine ⟨hW, ⟨o1, cdW_c hT 1, fun i hi => ?_⟩, ⟨o8, cdW_c hT 6, fun g hg => ?_⟩, ⟨o9, cdW_c hT 7, fun g hg => ?_⟩, cdW_c hT 8, o6⟩
  · have hi' : i < S 0 1 := hi
    have h60 : i < 60 := by omega
    have hr := cdW_sr hT h60
    have hc := hW.2.2.2.2.2.2.1 _ hr.2
    exact ⟨⟨(hW.2.2.2.1 i h60).2, cdW_s hT h60 (by decide), cdW_s hT h60 (by decide), cdW_s hT h60 (by decide), _, hr.1, hc.2.1, hc.2.2.1, hD _ hr.2⟩, hs i hi'⟩
  · have hg' : g < S 0 6 := hg
    have hr := hT.2 3 g (Or.inl ⟨rfl, by omega⟩)
    have hc := hW.2.2.2.2.2.2.1 _ hr.2
    exact ⟨_, hr.1, hc.2.1, hc.2.2.1, hD _ hr.2⟩
  · have hg' : g < S 0 7 := hg
    have hr := hT.2 4 g (Or.inr (Or.inl ⟨rfl, by omega⟩))
    have hc := hW.2.2.2.2.2.2.1 _ hr.2
    exact ⟨_, hr.1, hc.2.1, hc.2.2.1, hD _ hr.2⟩
/-- where the truths of a step's condition lie -/
def trA (S : RT) (c : Nat) : Nat → Nat := fun i => c + 5 + 3 * S (65 + i) 4 + 1
theorem pv_eq (S : RT) (c : Nat) : pvT S c = pvA (aT S) (trA S c) := rfl
/-- the conditions of the code have their truths in σ -/
def trS (σ : SG) (c : Nat) (S : RT) : Prop := ∀ j, j < S 0 3 → ∀ s, s < 216 → σ (c + 5 + 3 * j + 1) s = cndT (cdS S j) s
theorem trW_of {S V : RT} {M : MM} {σ : SG} {c f : Nat} (h : PR S V) (hT : cdW M c S) (ht : trS σ c S) (hf : c + 125 ≤ f) : trW (aT S) f (trA S c) σ := by
  have o1 := h.1.2.1.1
  intro j hj
  have hj' : j < S 0 1 := hj
  have h20 := (cdW_sr hT (i := j) (by omega)).2
  refine ⟨Or.inl (by show c + 5 + 3 * S (65 + j) 4 + 1 < f; omega), fun hu s hs => ?_⟩
  exact ht _ (h.1.2.2.2.2.1.1 j hj' hu) s hs
theorem invE_of {S V : RT} {M : MM} {σ : SG} {c f bg : Nat} {B : ST} (h : PR S V) (hT : cdW M c S) (ht : trS σ c S) (hf : c + 125 ≤ f) (hB : ∀ s, s < 216 → σ bg s = B s) : invE (aT S) (pgV V).2.1 f bg (trA S c) (gvT S c).2 B σ := by
  refine ⟨trW_of h hT ht hf, fun g hg => ?_, hB⟩
  have hg' : g < S 0 6 := by rw [← (pr_n h).2.2.2.1]; exact hg
  have ix := h.1.2.2.2.2.1.2.1 g hg'
  have o8 := h.1.2.1.2.2.2.2.2.2.2.1
  have h20 := (hT.2 3 g (Or.inl ⟨rfl, by omega⟩)).2
  refine ⟨Or.inl (by show c + 5 + 3 * S 3 g + 1 < f; omega), fun s hs => ?_⟩
  obtain ⟨g1, g2, g3⟩ := h.2.2.2.2.2.2.2.1 g hg'
  have e : (pgV V).2.1.2 g = cdS S (S 3 g) := by
    show (V 17 g, V 18 g, V 19 g) = _
    rw [g1, g2, g3]
    rfl
  rw [e]
  exact ht _ ix s hs
/-- what is reached, as sets at the nodes -/
noncomputable def rcC (Q : AP) (B : ST) : NS := fun j t => @decide (Rch (edM Q) (nA Q) B j t) (Classical.propDecidable _)
theorem rcC_ok (Q : AP) (B : ST) : rchC Q B (rcC Q B) := fun j t => by
  unfold rcC
  exact @decide_eq_true_iff _ (Classical.propDecidable _)
theorem bool_iff {a b : Bool} {p : Prop} (h1 : a = true ↔ p) (h2 : b = true ↔ p) : a = b := by
  cases a <;> cases b <;> simp_all
theorem rc_fi {S V : RT} {M : MM} {σ : SG} {c f bg : Nat} {B : ST} (h : PR S V) (hT : cdW M c S) (ht : trS σ c S) (hf : c + 125 ≤ f) (hbg : bg < f ∨ f + 40 ≤ bg) (hB : ∀ s, s < 216 → σ bg s = B s) {σ2 : SG} (h2 : σ2 = rchσ f bg (pvT S c) σ) : fiE (aT S) f σ2 (rcC (pgV V).1 B) ∧ ∀ b, b < f + 1 ∨ f + 40 ≤ b → σ2 b = σ b := by
  have en : nA (pgV V).1 = nA (aT S) := (pr_n h).1
  obtain ⟨a1, a2, a3, a4⟩ := rch_ok (B := B) (R := 650) (wf_of h.1) hbg (trW_of h hT ht hf) hB (by decide) (σ2 := σ2) (by rw [h2, pv_eq]; rfl)
  refine ⟨⟨fun u hu => ?_, fun j u hj k5 hu => ?_, fun j u hj k6 hu => ?_⟩, a4⟩
  · exact bool_iff (a1 u hu) ((rcC_ok _ _ _ u).trans (rch_eq h.1 h.2.2))
  · exact bool_iff (a3 j u hj k5 hu) ((rcC_ok _ _ _ u).trans (rch_eq h.1 h.2.2))
  · exact bool_iff (a2 j u hj k6 hu) ((rcC_ok _ _ _ u).trans (rch_eq h.1 h.2.2))
theorem anyS_cg {S T : ST} (h : ∀ s, s < 216 → S s = T s) : anyS S = anyS T := by
  cases e : anyS T with
  | false => exact anyS_not.mpr (fun s hs => by rw [h s hs]; exact anyS_not.mp e s hs)
  | true =>
    obtain ⟨s, hs, q⟩ := anyS_iff.mp e
    exact anyS_iff.mpr ⟨s, hs, by rw [h s hs]; exact q⟩
/-- the node of a check -/
theorem ck_nd {S V : RT} (h : PR S V) {i : Nat} (hi : i < S 0 7) : ndF V 5 i < S 0 1 ∧ S (65 + ndF V 5 i) 0 = 5 ∧ S (65 + ndF V 5 i) 2 = i ∧ S 4 i = S (65 + ndF V 5 i) 4 ∧ cA (pgV V).1 (ndF V 5 i) = cdS S (S 4 i) ∧ S 4 i < S 0 3 := by
  obtain ⟨e22, e23, -⟩ := pr_n h
  have np := (okV h.2.2 h.1).2.2.2.2.2.2.2.2.1.1 i (by omega)
  have j1 : ndF V 5 i < S 0 1 := by omega
  obtain ⟨n1, n2, n3, n4, n5, -⟩ := pr_nd h j1
  have k5 : S (65 + ndF V 5 i) 0 = 5 := by have := np.2.1; omega
  have m5 : S (65 + ndF V 5 i) 2 = i := (n5 (by omega) (by omega)).symm.trans np.2.2
  have ce : S 4 i = S (65 + ndF V 5 i) 4 := by
    have := h.2.1 _ j1 k5
    rw [m5] at this
    exact this
  obtain ⟨c1, c2, c3⟩ := n4 (by omega) (by omega)
  refine ⟨j1, k5, m5, ce, ?_, h.1.2.2.2.2.1.2.2 i hi⟩
  show (V 12 _, V 13 _, V 14 _) = _
  rw [c1, c2, c3 (by omega), ← ce]
  rfl
/-- the node of a loop -/
theorem lp_nd {S V : RT} (h : PR S V) {i : Nat} (hi : i < S 0 8) : ndF V 6 i < S 0 1 ∧ S (65 + ndF V 6 i) 0 = 6 ∧ S (65 + ndF V 6 i) 2 = i := by
  obtain ⟨e22, e23, e24, -⟩ := pr_n h
  have np := (okV h.2.2 h.1).2.2.2.2.2.2.2.2.2.1.1 i (by omega)
  have j1 : ndF V 6 i < S 0 1 := by omega
  obtain ⟨n1, n2, n3, n4, n5, -⟩ := pr_nd h j1
  have k6 : S (65 + ndF V 6 i) 0 = 6 := by have := np.2.1; omega
  exact ⟨j1, k6, (n5 (by omega) (by omega)).symm.trans np.2.2⟩
theorem fi_ck {S V : RT} {σ : SG} {f : Nat} {C : NS} (h : PR S V) (hf : fiE (aT S) f σ C) {i : Nat} (hi : i < S 0 7) {u : Nat} (hu : u < 216) : σ (f + 17 + 1 + 2 * i) u = C (ndF V 5 i) u := by
  obtain ⟨a, b, c, -⟩ := ck_nd h hi
  have := hf.2.1 _ u a b hu
  have e : mA (aT S) (ndF V 5 i) = i := c
  rw [e] at this
  exact this
theorem fi_lp {S V : RT} {σ : SG} {f : Nat} {C : NS} (h : PR S V) (hf : fiE (aT S) f σ C) {i : Nat} (hi : i < S 0 8) {u : Nat} (hu : u < 216) : σ (f + 3 + 1 + 2 * i) u = C (ndF V 6 i) u := by
  obtain ⟨a, b, c⟩ := lp_nd h hi
  have := hf.2.2 _ u a b hu
  have e : mA (aT S) (ndF V 6 i) = i := c
  rw [e] at this
  exact this
theorem ck_tr {S V : RT} {σ : SG} {c : Nat} (h : PR S V) (ht : trS σ c S) {i : Nat} (hi : i < S 0 7) {u : Nat} (hu : u < 216) : σ ((kvT S c).2 i) u = cndT (cA (pgV V).1 (ndF V 5 i)) u := by
  obtain ⟨-, -, -, -, e, l⟩ := ck_nd h hi
  rw [e]
  exact ht _ l u hu
theorem ful_eq {S V : RT} {σ : SG} {c f : Nat} {C : NS} (h : PR S V) (ht : trS σ c S) (hf : fiE (aT S) f σ C) : enN (fulS σ f (kvT S c).2) 0 (S 0 7) = enN (fneS (pgV V).1 (pgV V).2.2.1.2 C) 0 (V 0 23) := by
  rw [(pr_n h).2.1]
  refine enN_congr (fun i hi => ?_)
  rw [Nat.zero_add]
  show (!anyS _) = (!anyS _)
  congr 1
  exact anyS_cg (fun s hs => by rw [fi_ck h hf hi hs, ck_tr h ht hi hs]; rfl)
theorem fst_cg {S T : ST} (h : ∀ s, s < 216 → S s = T s) : fstV S = fstV T := by
  have e : fa_first S 216 = fa_first T 216 := by
    have a1 := fa_first_le S 216
    have a2 := fa_first_no S 216
    have a3 := fa_first_yes S 216
    have b1 := fa_first_le T 216
    have b2 := fa_first_no T 216
    have b3 := fa_first_yes T 216
    generalize fa_first S 216 = x at a1 a2 a3
    generalize fa_first T 216 = y at b1 b2 b3
    rcases Nat.lt_trichotomy x y with q | q | q
    · have e1 := a3 (by omega)
      rw [h x (by omega), b2 x q] at e1
      cases e1
    · exact q
    · have e1 := b3 (by omega)
      rw [← h y (by omega), a2 y q] at e1
      cases e1
  unfold fstV
  rw [e]
/-- what can fail, class and reference -/
theorem can_eq {S V : RT} (h : PR S V) {ck k s : Nat} (hc : ck < 4) : Can (edM (pgV V).1) (flM (pgV V).1 (nI ck)) (nA (pgV V).1) k s ↔ Can (edC (aT S)) (flC (aT S) ck) (nA (aT S)) k s := by
  have en : nA (pgV V).1 = nA (aT S) := (pr_n h).1
  have hO := (okV h.2.2 h.1).1
  have hw := wf_of h.1
  have e216 : ∀ {k s k' s' : Nat}, k < nA (aT S) → s < 216 → edC (aT S) k s k' s' → s' < 216 := fun {k s k' s'} hk hs he => by
    have kv := (hw.1 k hk).2.1
    unfold edC at he
    split at he
    · have hsu := he.2
      unfold suS at hsu
      split at hsu
      · obtain ⟨⟨w, hw2, rfl⟩, -⟩ := hsu; exact wth_lt hs hw2
      split at hsu
      · rw [hsu]; exact wth_lt hs (by split <;> omega)
      split at hsu
      · rw [hsu]; have := val_lt (v := vA (aT S) k) hs; exact wth_lt hs (by split <;> omega)
      split at hsu
      · obtain ⟨w, hw2, rfl⟩ := hsu; exact wth_lt hs hw2
      · rw [hsu.1]; exact hs
    split at he
    · rw [he.2]; exact hs
    split at he
    · rw [he.2]; exact hs
    split at he
    · rw [he.2]; exact hs
    split at he
    · rw [he.2]; exact hs
    · rw [he.2]; exact hs
  have fle : ∀ k s, k < S 0 1 → (flM (pgV V).1 (nI ck) k s ↔ flC (aT S) ck k s) := fun k s hk => by
    obtain ⟨n1, n2, n3, n4, n5, -⟩ := pr_nd h hk
    show (V 11 k = 5 ∧ cndT (V 12 k, V 13 k, V 14 k) s = false ∧ nI (V 15 k) = nI ck) ↔ (S (65 + k) 0 = 5 ∧ cndT (cdS S (S (65 + k) 4)) s = false ∧ S (65 + k) 2 = ck)
    have ek : V 11 k = 5 ↔ S (65 + k) 0 = 5 := by omega
    rw [ek]
    refine and_congr_right (fun k5 => ?_)
    obtain ⟨c1, c2, c3⟩ := n4 (by omega) (by omega)
    have m := n5 (by omega) (by omega)
    rw [c1, c2, c3 (by omega), m]
    refine and_congr_right (fun _ => ?_)
    have lt := (h.1.2.2.1 k hk).2.2.1 k5
    exact nI_eq_iff (by omega) (by omega)
  constructor
  · rintro ⟨r, hr⟩
    exact can_least (P := fun k s => Can (edC (aT S)) (flC (aT S) ck) (nA (aT S)) k s) (fun k s hk hs hf => can_fl (by rw [← en]; exact hk) hs ((fle k s (by rw [en] at hk; exact hk)).mp hf)) (fun k s k' s' hk hs he hP => can_ed (by rw [← en]; exact hk) hs ((ed_eq h.1 h.2.2 (by rw [en] at hk; exact hk) hs (ed_lt hO hk hs he).2).mp he) hP) r k s hr
  · rintro ⟨r, hr⟩
    exact can_least (P := fun k s => Can (edM (pgV V).1) (flM (pgV V).1 (nI ck)) (nA (pgV V).1) k s) (fun k s hk hs hf => can_fl (by rw [en]; exact hk) hs ((fle k s hk).mpr hf)) (fun k s k' s' hk hs he hP => can_ed (by rw [en]; exact hk) hs ((ed_eq h.1 h.2.2 hk hs (e216 hk hs he)).mpr he) hP) r k s hr
