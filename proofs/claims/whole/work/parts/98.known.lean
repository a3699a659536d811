/-! ===== what the analysis knows, and its methods by meaning ===== -/
def DG (G : GG) : DS := fun a => match G a with
  | some (.inl 9) => true
  | _ => false
theorem DG_S {G : GG} {R : Nat → Nat → Value} {a : Nat} (h : isS G R a) : isD G R (DG G) a := ⟨h, by unfold DG; rw [h.1]; rfl⟩
/-- every set of states in the memory -/
def hasA (G : GG) (M : MM) (σ : SG) : Prop := ∀ a, DG G a = true → hasS M a (σ a)
def hs6 (t : Nat → Nat) : Prop := t 0 ≤ 6 ∧ t 1 ≤ 6 ∧ t 2 ≤ 6
def eq3 (t t' : Nat → Nat) : Prop := t 0 = t' 0 ∧ t 1 = t' 1 ∧ t 2 = t' 2
theorem pkS_lt {t : Nat → Nat} (h : hs6 t) : pkS t < 343 := by
  obtain ⟨a, b, c⟩ := h
  unfold pkS
  omega
theorem pk_inj {t t' : Nat → Nat} (h : hs6 t) (h' : hs6 t') (e : nI (pkS t) = nI (pkS t')) : eq3 t t' := by
  have e2 := (nI_eq_iff (by have := pkS_lt h; omega) (by have := pkS_lt h'; omega)).mp e
  obtain ⟨a, b, c⟩ := h
  obtain ⟨a', b', c'⟩ := h'
  unfold pkS at e2
  unfold eq3
  omega
theorem nI_ne_m1 {n : Nat} (h : n < 2 ^ 31) : nI n ≠ -1 := fun e => by
  have e2 := congrArg Int32.toInt e
  rw [nI_toInt h] at e2
  have e3 : (-1 : Int32).toInt = -1 := by decide
  omega
theorem beg_cg {t t' : Nat → Nat} (h : eq3 t t') : begS t = begS t' := by
  funext s
  unfold begS
  rw [h.1, h.2.1, h.2.2]
theorem bgN_cg {t t' : Nat → Nat} (h : eq3 t t') (i : Nat) : bgN t i = bgN t' i := by
  funext k s
  unfold bgN
  rw [beg_cg h]
theorem lcP_cg {Q : AP} {V : GC} {t t' : Nat → Nat} (h : eq3 t t') (hs : Nat → Nat) : lcP Q V hs t = lcP Q V hs t' := by
  unfold lcP
  rw [bgN_cg h]
theorem guH_cg {Q : AP} {V : GC} {t t' : Nat → Nat} (h : eq3 t t') : guH Q V t = guH Q V t' := by
  funext hs
  unfold guH
  rw [lcP_cg h]
theorem HS_cg {Q : AP} {V : GC} {t t' : Nat → Nat} (h : eq3 t t') (act : Nat) : HS Q V t act = HS Q V t' act := by
  unfold HS
  rw [guH_cg h]
theorem prvS_cg {Q : AP} {V : GC} {kn t t' : Nat → Nat} (h : eq3 t t') (act : Nat) : prvS Q V kn t act = prvS Q V kn t' act := by
  unfold prvS
  rw [HS_cg h, lcP_cg h]
/-- the guesses given to the loops, and what comes by them -/
def ivI (M : MM) (σ : SG) (n : Nat) (S V : RT) (t : Nat → Nat) (act : Nat) : Prop := (∀ i, i < 3 → M.1 (n + 43 + 41) i = nI (HS (pgV V).1 (pgV V).2.1 t act i)) ∧ fiE (aT S) (n + 43 + 1) σ (lcP (pgV V).1 (pgV V).2.1 (HS (pgV V).1 (pgV V).2.1 t act) t).1 ∧ ∀ l u, l < 3 → u < 216 → σ (n + 43 + 1 + 10 + 1 + 2 * l) u = agS (pgV V).2.1 (HS (pgV V).1 (pgV V).2.1 t act l) u
def pvV (V : RT) (t : Nat → Nat) (a : Nat) : Nat := enN (prvS (pgV V).1 (pgV V).2.1 (pgV V).2.2.1.2 t a) 0 (V 0 23)
def knI (M : MM) (σ : SG) (n : Nat) (S V : RT) (t : Nat → Nat) : Prop := M.1 n 1 = nI (pkS t) ∧ (∀ s, s < 216 → σ (n + 1) s = begS t s) ∧ (M.1 n 4 ≠ 0 → fiE (aT S) (n + 3) σ (rcC (pgV V).1 (begS t))) ∧ (M.1 n 6 = -1 ∨ ∃ act, act < 2 ^ V 0 26 ∧ M.1 n 6 = nI act ∧ ivI M σ n S V t act) ∧ ∀ a, a < 2 ^ V 0 26 → M.1 (n + 127) a = -1 ∨ M.1 (n + 127) a = nI (pvV V t a)
theorem knI_cg {M : MM} {σ : SG} {n : Nat} {S V : RT} {t t' : Nat → Nat} (h : eq3 t t') (hk : knI M σ n S V t) : knI M σ n S V t' := by
  obtain ⟨a, b, c, d, e⟩ := hk
  have ep : pkS t = pkS t' := by unfold pkS; rw [h.1, h.2.1, h.2.2]
  refine ⟨by rw [← ep]; exact a, fun s hs => by rw [← beg_cg h]; exact b s hs, fun q => by rw [← beg_cg h]; exact c q, ?_, fun x hx => by
    have := e x hx
    unfold pvV at this ⊢
    rw [← prvS_cg h]
    exact this⟩
  rcases d with d | ⟨act, d1, d2, d3⟩
  · exact Or.inl d
  · refine Or.inr ⟨act, d1, d2, ?_⟩
    unfold ivI at d3 ⊢
    rw [← HS_cg h, ← lcP_cg h]
    exact d3
def faI (M : MM) (σ : SG) (n : Nat) (S : RT) : Prop := ∃ ff, ff < 16 ∧ M.1 n 11 = nI ff ∧ ∀ ck, ck < 4 → ff.testBit ck = true → ∀ s, s < 216 → (σ (n + 159 + 1 + 2 * ck) s = true ↔ Can (edC (aT S)) (flC (aT S) ck) (nA (aT S)) 0 s)
def anS (G : GG) (M : MM) (n c : Nat) (S V : RT) : Prop := anW G M.2.2 (DG G) n ∧ codeF G M.2.2 c ∧ cdW M c S ∧ M.2.2 n 0 = .ref c ∧ c + 125 ≤ n ∧ PR S V
def aK (G : GG) (M : MM) (n c : Nat) (S V : RT) (t : Nat → Nat) : Prop := anS G M n c S V ∧ hs6 t ∧ ∃ σ, hasA G M σ ∧ trS σ c S ∧ faI M σ n S ∧ knI M σ n S V t
def aC (G : GG) (M : MM) (n c : Nat) (S V : RT) : Prop := anS G M n c S V ∧ ∃ σ, hasA G M σ ∧ trS σ c S ∧ faI M σ n S ∧ (M.1 n 1 = -1 ∨ ∃ t, hs6 t ∧ knI M σ n S V t)
theorem aK_C {G : GG} {M : MM} {n c : Nat} {S V : RT} {t : Nat → Nat} (h : aK G M n c S V t) : aC G M n c S V := by
  obtain ⟨a, b, σ, d, e, f, g⟩ := h
  exact ⟨a, σ, d, e, f, Or.inr ⟨t, b, g⟩⟩
/-- nothing but the analysis's own cells has changed -/
def offA (n : Nat) (M M' : MM) : Prop := M'.2.2 = M.2.2 ∧ ∀ b, (b < n ∨ n + 168 ≤ b) → (∀ j, M'.1 b j = M.1 b j) ∧ ∀ j, M'.2.1 b j = M.2.1 b j
theorem offA_refl (n : Nat) (M : MM) : offA n M M := ⟨rfl, fun _ _ => ⟨fun _ => rfl, fun _ => rfl⟩⟩
theorem offA_trans {n : Nat} {M N K : MM} (h1 : offA n M N) (h2 : offA n N K) : offA n M K := ⟨h2.1.trans h1.1, fun b q => ⟨fun j => ((h2.2 b q).1 j).trans ((h1.2 b q).1 j), fun j => ((h2.2 b q).2 j).trans ((h1.2 b q).2 j)⟩⟩
theorem anS_off {G : GG} {M M' : MM} {n c : Nat} {S V : RT} (h : anS G M n c S V) (ho : offA n M M') : anS G M' n c S V := by
  obtain ⟨a, b, d, e, f, g⟩ := h
  refine ⟨by rw [ho.1]; exact a, by rw [ho.1]; exact b, cdW_cg d (fun b j h1 h2 => (ho.2 b (by omega)).1 j) (fun b j _ _ => by rw [ho.1]), by rw [ho.1]; exact e, f, g⟩
theorem hasA_w (G : GG) (N : MM) (τ : SG) : hasA G (wS (DG G) N τ) τ := fun _ h => hasS_wS h
theorem off_w {G : GG} {M N : MM} {σ τ : SG} {n : Nat} (hA : hasA G M σ) (e2 : N.2 = M.2) (e1 : ∀ b, (b < n ∨ n + 168 ≤ b) → ∀ j, N.1 b j = M.1 b j) (es : ∀ b, (b < n ∨ n + 167 ≤ b) → τ b = σ b) : offA n M (wS (DG G) N τ) := by
  refine ⟨by show N.2.2 = M.2.2; rw [e2], fun b hb => ⟨fun j => e1 b hb j, fun j => ?_⟩⟩
  show (if (1 ≤ b ∧ DG G (b - 1) = true) ∧ j < 6 then encF (τ (b - 1)) j else N.2.1 b j) = _
  by_cases q : (1 ≤ b ∧ DG G (b - 1) = true) ∧ j < 6
  · rw [if_pos q, es (b - 1) (by omega)]
    have := hA (b - 1) q.1.2 j q.2
    rw [show b - 1 + 1 = b by omega] at this
    exact this.symm
  · rw [if_neg q, e2]
theorem trS_fr {σ τ : SG} {c n : Nat} {S V : RT} (h : PR S V) (hc : c + 125 ≤ n) (ht : trS σ c S) (e : ∀ b, b < n → τ b = σ b) : trS τ c S := by
  have hu : S 0 3 ≤ 20 := by have := h.1.2.1.2.1; omega
  intro j hj s hs
  rw [e _ (by omega)]
  exact ht j hj s hs
theorem faI_fr {M N : MM} {σ τ : SG} {n : Nat} {S : RT} (h : faI M σ n S) (e : N.1 n 11 = M.1 n 11) (es : ∀ b, n + 159 ≤ b → τ b = σ b) : faI N τ n S := by
  obtain ⟨ff, a, b, d⟩ := h
  refine ⟨ff, a, e.trans b, fun ck hc q s hs => ?_⟩
  rw [es _ (by omega)]
  exact d ck hc q s hs
theorem fiE_fr {A : AP} {f : Nat} {σ τ : SG} {C : NS} (hw : wfA A) (h : fiE A f σ C) (e : ∀ b, f + 1 ≤ b → b < f + 40 → τ b = σ b) : fiE A f τ C := by
  obtain ⟨a, b, d⟩ := h
  refine ⟨fun u hu => ?_, fun j u hj k hu => ?_, fun j u hj k hu => ?_⟩
  · rw [e _ (by omega) (by omega)]; exact a u hu
  · have := (hw.1 j hj).2.2.1 k
    rw [e _ (by omega) (by omega)]; exact b j u hj k hu
  · have := (hw.1 j hj).2.2.2 (by omega)
    rw [e _ (by omega) (by omega)]; exact d j u hj k hu
theorem anS_X {G : GG} {M : MM} {n c : Nat} {S V : RT} (h : anS G M n c S V) : codeX G M (DG G) c (pvT S c) (gvT S c) (kvT S c) (S 0 8) := codeX_cd h.2.1 h.2.2.1 (fun j hj => DG_S (h.2.1.2.2.2.2.2.2.1 j hj).2.2.2) h.2.2.2.2.2.1
theorem s_lookAt {Γ : GT} {G : GG} {M : MM} {n c : Nat} {S V : RT} (h : aC G M n c S V) {u : Nat} {t : Nat → Nat} {off : Nat} (hU : suW G M.2.2 u) (hT : suIs M u t off) (h6 : hs6 t) (hun : u + 1 < n) : Calls Γ q_X0_lookAt [.ref n, .ref u] G M (rV (fun M' => aK G M' n c S V t ∧ offA n M M')) := by
  obtain ⟨hS, σ, hA, hTr, hFa, hK⟩ := h
  have hM := wS_of hA
  have k := c_X0_lookAt (Γ := Γ) (M := M) (σ := σ) hS.1 hU hT h6 ⟨by omega, by omega⟩
  rw [← hM] at k
  refine k.imp (fun r M' hp => ?_)
  obtain ⟨hr, p1, p2⟩ := hp
  refine ⟨hr, ?_⟩
  by_cases e : M.1 n 1 = nI (pkS t)
  · rw [p1 e]
    refine ⟨⟨hS, h6, σ, hA, hTr, hFa, ?_⟩, offA_refl n M⟩
    rcases hK with q | ⟨t', q6, q⟩
    · rw [q] at e
      exact absurd e.symm (nI_ne_m1 (by have := pkS_lt h6; omega))
    · exact knI_cg (pk_inj q6 h6 (q.1.symm.trans e)) q
  · rw [p2 e]
    clear p1 p2 k
    have es : ∀ b, b ≠ n + 1 → upσ σ (n + 1) (begS t) b = σ b := fun b hb => upσ_ne _ _ hb
    have hd := hS.2.2.2.2.1
    have ho := off_w (G := G) (N := wI (sI (sI (sI M n 1 (nI (pkS t))) n 4 0) n 6 (-1)) (n + 127) 32 (fun _ => -1)) (τ := upσ σ (n + 1) (begS t)) (n := n) hA rfl (fun b hb j => by rw [wI_ne _ _ _ _ (by omega)]; simp only [sI, up2]; rw [if_neg (by omega), if_neg (by omega), if_neg (by omega)]) (fun b hb => es b (by omega))
    refine ⟨⟨anS_off hS ho, h6, _, hasA_w _ _ _, trS_fr hS.2.2.2.2.2 hd hTr (fun b hb => es b (by omega)), faI_fr hFa ?_ (fun b hb => es b (by omega)), ?_, fun s hs => by rw [upσ_self], fun q => absurd ?_ q, Or.inl ?_, fun a ha => Or.inl ?_⟩, ho⟩
    · show (wI (sI (sI (sI M n 1 (nI (pkS t))) n 4 0) n 6 (-1)) (n + 127) 32 (fun _ => -1)).1 n 11 = _
      rw [wI_ne _ _ _ _ (by omega)]; simp [sI, up2]
    · show (wI (sI (sI (sI M n 1 (nI (pkS t))) n 4 0) n 6 (-1)) (n + 127) 32 (fun _ => -1)).1 n 1 = _
      rw [wI_ne _ _ _ _ (by omega)]; simp [sI, up2]
    · show (wI (sI (sI (sI M n 1 (nI (pkS t))) n 4 0) n 6 (-1)) (n + 127) 32 (fun _ => -1)).1 n 4 = _
      rw [wI_ne _ _ _ _ (by omega)]; simp [sI, up2]
    · show (wI (sI (sI (sI M n 1 (nI (pkS t))) n 4 0) n 6 (-1)) (n + 127) 32 (fun _ => -1)).1 n 6 = _
      rw [wI_ne _ _ _ _ (by omega)]; simp [sI, up2]
    · show (wI (sI (sI (sI M n 1 (nI (pkS t))) n 4 0) n 6 (-1)) (n + 127) 32 (fun _ => -1)).1 (n + 127) a = _
      have h26 := (okV hS.2.2.2.2.2.2.2 hS.2.2.2.2.2.1).2.2.2.2.2.2.1
      have := pow_le32 h26
      rw [wI_at, if_pos (by omega)]
theorem s_reached {Γ : GT} {G : GG} {M : MM} {n c : Nat} {S V : RT} {t : Nat → Nat} (h : aK G M n c S V t) : Calls Γ q_X0_reached [.ref n] G M (rR (fun a M' => a = n + 3 ∧ aK G M' n c S V t ∧ offA n M M' ∧ M'.1 n 4 ≠ 0)) := by
  obtain ⟨hS, h6, σ, hA, hTr, hFa, hK⟩ := h
  have hM := wS_of hA
  have k := c_X0_reached (Γ := Γ) (M := M) (σ := σ) hS.1 hS.2.2.2.1 (anS_X hS) hS.2.2.2.2.1
  rw [← hM] at k
  refine k.imp (fun r M' hp => ?_)
  obtain ⟨a, hr, ha, p1, p2⟩ := hp
  refine ⟨a, hr, ha, ?_⟩
  by_cases e : M.1 n 4 = 0
  · rw [p1 e]
    clear p1 p2 k
    have hd := hS.2.2.2.2.1
    obtain ⟨f1, f2⟩ := rc_fi (f := n + 3) (bg := n + 1) (B := begS t) hS.2.2.2.2.2 hS.2.2.1 hTr (by omega) (by omega) hK.2.1 rfl
    generalize rchσ (n + 3) (n + 1) (pvT S c) σ = τ at f1 f2
    have ho := off_w (G := G) (N := sI M n 4 1) (τ := τ) (n := n) hA rfl (fun b hb j => up2_ne _ _ (by omega)) (fun b hb => f2 b (by omega))
    have hw := wf_of hS.2.2.2.2.2.1
    refine ⟨⟨anS_off hS ho, h6, _, hasA_w _ _ _, trS_fr hS.2.2.2.2.2 hd hTr (fun b hb => f2 b (by omega)), faI_fr hFa (up2_ne _ _ (by omega)) (fun b hb => f2 b (by omega)), (up2_ne _ _ (by omega)).trans hK.1, fun s hs => by rw [f2 _ (by omega)]; exact hK.2.1 s hs, fun _ => f1, ?_, fun a ha => ?_⟩, ho, ?_⟩
    · rcases hK.2.2.2.1 with q | ⟨act, q1, q2, q3, q4, q5⟩
      · exact Or.inl ((up2_ne _ _ (by omega)).trans q)
      · exact Or.inr ⟨act, q1, (up2_ne _ _ (by omega)).trans q2, fun i hi => (up2_ne _ _ (by omega)).trans (q3 i hi), fiE_fr hw q4 (fun b h1 h2 => f2 b (by omega)), fun l u hl hu => by rw [f2 _ (by omega)]; exact q5 l u hl hu⟩
    · have e2 : (sI M n 4 1).1 (n + 127) a = M.1 (n + 127) a := up2_ne _ _ (by omega)
      show (sI M n 4 1).1 (n + 127) a = -1 ∨ (sI M n 4 1).1 (n + 127) a = _
      rw [e2]; exact hK.2.2.2.2 a ha
    · show (sI M n 4 1).1 n 4 ≠ 0
      rw [show (sI M n 4 1).1 n 4 = 1 from up2_self _ _ _ _]; decide
  · rw [p2 e]
    exact ⟨⟨hS, h6, σ, hA, hTr, hFa, hK⟩, offA_refl n M, e⟩
theorem inv_of {S V : RT} {M : MM} {σ : SG} {c f bg : Nat} {t : Nat → Nat} {act : Nat} (h : PR S V) (hT : cdW M c S) (ht : trS σ c S) (hf : c + 125 ≤ f) (hbg : bg < f ∨ f + 40 ≤ bg) (hB : ∀ s, s < 216 → σ bg s = begS t s) (ha : act < 2 ^ V 0 26) {x : SG × (Nat → Nat)} (hx : x = invR f bg (pvT S c) (gvT S c) (S 0 8) act σ) : x.2 = HS (pgV V).1 (pgV V).2.1 t act ∧ fiE (aT S) f x.1 (lcP (pgV V).1 (pgV V).2.1 (HS (pgV V).1 (pgV V).2.1 t act) t).1 ∧ (∀ l u, l < 3 → u < 216 → x.1 (f + 10 + 1 + 2 * l) u = agS (pgV V).2.1 (HS (pgV V).1 (pgV V).2.1 t act l) u) ∧ ∀ b, b < f + 1 ∨ f + 40 ≤ b → x.1 b = σ b := by
  have key : ∀ ng nl', ng = S 0 6 → nl' = S 0 8 → invR f bg (pvT S c) (gvT S c) (S 0 8) act σ = (rnds (invS f bg (pvA (aT S) (trA S c)) (ng, (gvT S c).2) nl') (invG f bg (pvA (aT S) (trA S c)) (ng, (gvT S c).2) nl') (σ, fun _ => act) 16).1 := by
    intro ng nl' h1 h2
    subst h1
    subst h2
    rfl
  obtain ⟨e22, e23, e24, e26, -⟩ := pr_n h
  exact inv_ok (R := 16) rfl (wf_of h.1) (prC_of h t) hbg (invE_of h hT ht hf hB) ha (x := x) (hx.trans (key _ _ e26 e24))
theorem s_invariants {Γ : GT} {G : GG} {M : MM} {n c : Nat} {S V : RT} {t : Nat → Nat} (h : aK G M n c S V t) {act : Nat} (hact : act < 2 ^ V 0 26) : Calls Γ q_X0_invariants [.ref n, .int (nI act)] G M (rR (fun a M' => a = n + 43 ∧ aK G M' n c S V t ∧ offA n M M' ∧ M'.1 n 6 = nI act)) := by
  obtain ⟨hS, h6, σ, hA, hTr, hFa, hK⟩ := h
  have hM := wS_of hA
  obtain ⟨e22, e23, e24, e26, -⟩ := pr_n hS.2.2.2.2.2
  have k := c_X0_invariants (Γ := Γ) (M := M) (σ := σ) hS.1 hS.2.2.2.1 (anS_X hS) hS.2.2.2.2.1 (act := act) (by show act < 2 ^ S 0 6; rw [← e26]; exact hact)
  rw [← hM] at k
  refine k.imp (fun r M' hp => ?_)
  obtain ⟨a, hr, ha, p1, p2⟩ := hp
  refine ⟨a, hr, ha, ?_⟩
  by_cases e : M.1 n 6 = nI act
  · rw [p1 e]
    exact ⟨⟨hS, h6, σ, hA, hTr, hFa, hK⟩, offA_refl n M, e⟩
  · rw [p2 e]
    clear p1 p2 k
    have hd := hS.2.2.2.2.1
    obtain ⟨g1, g2, g3, g4⟩ := inv_of (f := n + 43 + 1) (bg := n + 1) (t := t) hS.2.2.2.2.2 hS.2.2.1 hTr (by omega) (by omega) hK.2.1 hact rfl
    generalize invR (n + 43 + 1) (n + 1) (pvT S c) (gvT S c) (S 0 8) act σ = x at g1 g2 g3 g4
    have ho := off_w (G := G) (N := sI (wI M (n + 43 + 41) 3 (fun i => nI (x.2 i))) n 6 (nI act)) (τ := x.1) (n := n) hA rfl (fun b hb j => (up2_ne _ _ (by omega)).trans (wI_ne _ _ _ _ (by omega))) (fun b hb => g4 b (by omega))
    have hw := wf_of hS.2.2.2.2.2.1
    refine ⟨⟨anS_off hS ho, h6, _, hasA_w _ _ _, trS_fr hS.2.2.2.2.2 hd hTr (fun b hb => g4 b (by omega)), faI_fr hFa ((up2_ne _ _ (by omega)).trans (wI_ne _ _ _ _ (by omega))) (fun b hb => g4 b (by omega)), ((up2_ne _ _ (by omega)).trans (wI_ne _ _ _ _ (by omega))).trans hK.1, fun s hs => by rw [g4 _ (by omega)]; exact hK.2.1 s hs, fun q => fiE_fr hw (hK.2.2.1 ?_) (fun b h1 h2 => g4 b (by omega)), Or.inr ⟨act, hact, up2_self _ _ _ _, fun i hi => ?_, g2, g3⟩, fun a ha => ?_⟩, ho, up2_self _ _ _ _⟩
    · intro q2
      exact q (((up2_ne _ _ (by omega)).trans (wI_ne _ _ _ _ (by omega))).trans q2)
    · refine (up2_ne _ _ (by omega)).trans ((wI_at _ _ _ _ _).trans ?_)
      rw [if_pos hi, g1]
    · have e2 : (sI (wI M (n + 43 + 41) 3 (fun i => nI (x.2 i))) n 6 (nI act)).1 (n + 127) a = M.1 (n + 127) a := (up2_ne _ _ (by omega)).trans (wI_ne _ _ _ _ (by omega))
      show (sI (wI M (n + 43 + 41) 3 (fun i => nI (x.2 i))) n 6 (nI act)).1 (n + 127) a = -1 ∨ (sI (wI M (n + 43 + 41) 3 (fun i => nI (x.2 i))) n 6 (nI act)).1 (n + 127) a = _
      rw [e2]; exact hK.2.2.2.2 a ha
theorem pvV_lt {S V : RT} (h : PR S V) (t : Nat → Nat) (a : Nat) : pvV V t a < 32 := by
  have h4 := (okV h.2.2 h.1).2.2.2.1
  exact Nat.lt_of_lt_of_le (enN_lt _ _ _) (show 2 ^ V 0 23 ≤ 2 ^ 5 from Nat.pow_le_pow_right (by decide) (by omega))
theorem s_proved {Γ : GT} {G : GG} {M : MM} {n c : Nat} {S V : RT} {t : Nat → Nat} (h : aK G M n c S V t) {act : Nat} (hact : act < 2 ^ V 0 26) : Calls Γ q_X0_proved [.ref n, .int (nI act)] G M (rI (fun y M' => y = nI (pvV V t act) ∧ aK G M' n c S V t ∧ offA n M M')) := by
  obtain ⟨hS, h6, σ, hA, hTr, hFa, hK⟩ := h
  have hM := wS_of hA
  obtain ⟨e22, e23, e24, e26, -⟩ := pr_n hS.2.2.2.2.2
  have k := c_X0_proved (Γ := Γ) (M := M) (σ := σ) hS.1 hS.2.2.2.1 (anS_X hS) hS.2.2.2.2.1 (act := act) (by show act < 2 ^ S 0 6; rw [← e26]; exact hact)
  rw [← hM] at k
  refine k.imp (fun r M' hp => ?_)
  obtain ⟨y, hr, p1, p2⟩ := hp
  refine ⟨y, hr, ?_⟩
  have v31 := pvV_lt hS.2.2.2.2.2 t act
  by_cases e : M.1 (n + 127) act = -1
  · obtain ⟨p3, p4⟩ := p1 e
    rw [p3, p4]
    clear p1 p2 p3 p4 k
    have hd := hS.2.2.2.2.1
    obtain ⟨g1, g2, g3, g4⟩ := inv_of (f := n + 85 + 1) (bg := n + 1) (t := t) hS.2.2.2.2.2 hS.2.2.1 hTr (by omega) (by omega) hK.2.1 hact rfl
    generalize invR (n + 85 + 1) (n + 1) (pvT S c) (gvT S c) (S 0 8) act σ = x at g1 g2 g3 g4
    have hTr2 := trS_fr (τ := x.1) hS.2.2.2.2.2 hd hTr (fun b hb => g4 b (by omega))
    have ev : enN (fulS x.1 (n + 85 + 1) (kvT S c).2) 0 (kvT S c).1 = pvV V t act := ful_eq hS.2.2.2.2.2 hTr2 g2
    rw [ev]
    have ho := off_w (G := G) (N := sI (wI M (n + 85 + 41) 3 (fun i => nI (x.2 i))) (n + 127) act (nI (pvV V t act))) (τ := x.1) (n := n) hA rfl (fun b hb j => (up2_ne _ _ (by omega)).trans (wI_ne _ _ _ _ (by omega))) (fun b hb => g4 b (by omega))
    have hw := wf_of hS.2.2.2.2.2.1
    have ef : ∀ b j, b ≠ n + 85 + 41 → b ≠ n + 127 → (sI (wI M (n + 85 + 41) 3 (fun i => nI (x.2 i))) (n + 127) act (nI (pvV V t act))).1 b j = M.1 b j := fun b j h1 h2 => (up2_ne _ _ (fun q => h2 q.1)).trans (wI_ne _ _ _ _ h1)
    generalize hN : sI (wI M (n + 85 + 41) 3 (fun i => nI (x.2 i))) (n + 127) act (nI (pvV V t act)) = N at ho ef
    have e127 : ∀ a, N.1 (n + 127) a = if a = act then nI (pvV V t act) else M.1 (n + 127) a := fun a => by
      rw [← hN]
      by_cases q : a = act
      · rw [if_pos q, q]; exact up2_self _ _ _ _
      · rw [if_neg q]; exact (up2_ne _ _ (fun z => q z.2)).trans (wI_ne _ _ _ _ (by omega))
    refine ⟨rfl, ⟨anS_off hS ho, h6, x.1, hasA_w _ _ _, hTr2, faI_fr hFa (ef _ _ (by omega) (by omega)) (fun b hb => g4 b (by omega)), (ef _ _ (by omega) (by omega)).trans hK.1, fun s hs => by rw [g4 _ (by omega)]; exact hK.2.1 s hs, fun q => fiE_fr hw (hK.2.2.1 (fun q2 => q ((ef _ _ (by omega) (by omega)).trans q2))) (fun b h1 h2 => g4 b (by omega)), ?_, fun a ha => ?_⟩, ho⟩
    · rcases hK.2.2.2.1 with q | ⟨ac, q1, q2, q3, q4, q5⟩
      · exact Or.inl ((ef _ _ (by omega) (by omega)).trans q)
      · exact Or.inr ⟨ac, q1, (ef _ _ (by omega) (by omega)).trans q2, fun i hi => (ef _ _ (by omega) (by omega)).trans (q3 i hi), fiE_fr hw q4 (fun b h1 h2 => g4 b (by omega)), fun l u hl hu => by rw [g4 _ (by omega)]; exact q5 l u hl hu⟩
    · show N.1 (n + 127) a = -1 ∨ N.1 (n + 127) a = _
      rw [e127]
      by_cases q : a = act
      · rw [if_pos q, q]; exact Or.inr rfl
      · rw [if_neg q]; exact hK.2.2.2.2 a ha
  · obtain ⟨p3, p4⟩ := p2 e
    rw [p4]
    refine ⟨?_, ⟨hS, h6, σ, hA, hTr, hFa, hK⟩, offA_refl n M⟩
    rcases hK.2.2.2.2 act hact with q | q
    · exact absurd q e
    · rw [p3]; exact q
theorem or16 : ∀ ff, ff < 16 → ∀ ck, ck < 4 → ff ||| 2 ^ ck < 16 := by decide +kernel
theorem or16b : ∀ ff, ff < 16 → ∀ ck, ck < 4 → ∀ i, i < 4 → (ff ||| 2 ^ ck).testBit i = (ff.testBit i || decide (i = ck)) := by decide +kernel
/-- the check's failing states have been found -/
def faD (G : GG) (M : MM) (n : Nat) (S : RT) (ck : Nat) : Prop := ∃ T : ST, hasS M (n + 159 + 1 + 2 * ck) T ∧ ∀ s, s < 216 → (T s = true ↔ Can (edC (aT S)) (flC (aT S) ck) (nA (aT S)) 0 s)
theorem s_failing {Γ : GT} {G : GG} {M : MM} {n c : Nat} {S V : RT} (h : aC G M n c S V) {ck : Nat} (hck : ck < 4) : Calls Γ q_X0_failing [.ref n, .int (nI ck)] G M (rR (fun a M' => a = n + 159 + 1 + 2 * ck ∧ aC G M' n c S V ∧ offA n M M' ∧ faD G M' n S ck)) := by
  obtain ⟨hS, σ, hA, hTr, ⟨ff, ff16, hff, hfa⟩, hK⟩ := h
  have hM := wS_of hA
  have k := c_X0_failing (Γ := Γ) (M := M) (σ := σ) hS.1 hS.2.2.2.1 (anS_X hS) hS.2.2.2.2.1 hck hff (by omega)
  rw [← hM] at k
  have gD : DG G (n + 159 + 1 + 2 * ck) = true := (hS.1.2.2.2.2.2.2.2.2.2.2.2.2.2.2.2 ck hck).2.2
  refine k.imp (fun r M' hp => ?_)
  obtain ⟨a, hr, ha, p1, p2⟩ := hp
  refine ⟨a, hr, ha, ?_⟩
  cases e : ff.testBit ck with
  | true =>
    rw [p1 e]
    exact ⟨⟨hS, σ, hA, hTr, ⟨ff, ff16, hff, hfa⟩, hK⟩, offA_refl n M, _, hA _ gD, hfa ck hck e⟩
  | false =>
    rw [p2 e]
    clear p1 p2 k
    have hd := hS.2.2.2.2.1
    obtain ⟨b1, b2⟩ := blm_ok (A := aT S) (f := n + 128) (t := trA S c) (ck := ck) (R := 650) (wf_of hS.2.2.2.2.2.1) (trW_of hS.2.2.2.2.2 hS.2.2.1 hTr (by omega)) (by decide) (σ2 := blmσ (n + 128) ck (pvT S c) σ) (by rw [pv_eq]; rfl)
    generalize blmσ (n + 128) ck (pvT S c) σ = τ0 at b1 b2
    have es : ∀ b, (b < n + 129 ∨ n + 159 ≤ b) → b ≠ n + 159 + 1 + 2 * ck → copσ τ0 (n + 159 + 1 + 2 * ck) (n + 128 + 1) b = σ b := fun b h1 h2 => (upσ_ne _ _ h2).trans (b2 b (by omega))
    have ec : copσ τ0 (n + 159 + 1 + 2 * ck) (n + 128 + 1) (n + 159 + 1 + 2 * ck) = τ0 (n + 128 + 1) := upσ_self _ _ _
    generalize copσ τ0 (n + 159 + 1 + 2 * ck) (n + 128 + 1) = τ at es ec
    have ho := off_w (G := G) (N := sI M n 11 (nI (ff ||| 2 ^ ck))) (τ := τ) (n := n) hA rfl (fun b hb j => up2_ne _ _ (by omega)) (fun b hb => es b (by omega) (by omega))
    have hw := wf_of hS.2.2.2.2.2.1
    have ef : ∀ b j, ¬ (b = n ∧ j = 11) → (sI M n 11 (nI (ff ||| 2 ^ ck))).1 b j = M.1 b j := fun b j q => up2_ne _ _ q
    refine ⟨⟨anS_off hS ho, τ, hasA_w _ _ _, trS_fr hS.2.2.2.2.2 hd hTr (fun b hb => es b (by omega) (by omega)), ⟨_, or16 ff ff16 ck hck, up2_self _ _ _ _, fun i hi q s hs => ?_⟩, ?_⟩, ho, _, hasA_w G _ τ _ gD, fun s hs => by rw [ec]; exact b1 s hs⟩
    · by_cases ei : i = ck
      · rw [ei, ec]; exact b1 s hs
      · rw [or16b ff ff16 ck hck i hi, decide_eq_false ei, Bool.or_false] at q
        rw [es _ (by omega) (by omega)]
        exact hfa i hi q s hs
    · rcases hK with q | ⟨t, q6, k1, k2, k3, k4, k5⟩
      · exact Or.inl ((ef _ _ (by omega)).trans q)
      · refine Or.inr ⟨t, q6, (ef _ _ (by omega)).trans k1, fun s hs => by rw [es _ (by omega) (by omega)]; exact k2 s hs, fun q => fiE_fr hw (k3 (fun q2 => q ((ef _ _ (by omega)).trans q2))) (fun b h1 h2 => es b (by omega) (by omega)), ?_, fun a ha => ?_⟩
        · rcases k4 with q | ⟨ac, q1, q2, q3, q4, q5⟩
          · exact Or.inl ((ef _ _ (by omega)).trans q)
          · exact Or.inr ⟨ac, q1, (ef _ _ (by omega)).trans q2, fun i hi => (ef _ _ (by omega)).trans (q3 i hi), fiE_fr hw q4 (fun b h1 h2 => es b (by omega) (by omega)), fun l u hl hu => by rw [es _ (by omega) (by omega)]; exact q5 l u hl hu⟩
        · have e2 := ef (n + 127) a (by omega)
          show (sI M n 11 (nI (ff ||| 2 ^ ck))).1 (n + 127) a = -1 ∨ (sI M n 11 (nI (ff ||| 2 ^ ck))).1 (n + 127) a = _
          rw [e2]; exact k5 a ha
theorem low_ok2 : ∀ w, w < 32 → w ≠ 0 → (w.testBit (lowN w) = true ∧ ∀ g, g < 5 → g < lowN w → w.testBit g = false) := by decide +kernel
theorem low_first {W ng : Nat} {p : Nat → Bool} (hW : W < 32) (h1 : ∀ g, W.testBit g = true → g < ng ∧ p g = true) (h2 : ∀ g, g < ng → p g = true → W.testBit g = true) (h5 : ng ≤ 5) : (if W = 0 then (-9 : Int32) else nI (lowN W)) = (if fa_first p ng < ng then nI (fa_first p ng) else -9) := by
  have a1 := fa_first_le p ng
  have a2 := fa_first_no p ng
  have a3 := fa_first_yes p ng
  generalize fa_first p ng = x at a1 a2 a3
  by_cases e : W = 0
  · rw [if_pos e]
    by_cases q : x < ng
    · have := h2 x q (a3 q)
      rw [e] at this
      simp at this
    · rw [if_neg q]
  · rw [if_neg e]
    obtain ⟨l1, l2⟩ := low_ok2 W hW e
    have l5 := (lowN_ok W hW e).2
    obtain ⟨l3, l4⟩ := h1 _ l1
    have ex : x = lowN W := by
      rcases Nat.lt_trichotomy x (lowN W) with q | q | q
      · have := h2 x (by omega) (a3 (by omega))
        rw [l2 x (by omega) q] at this
        cases this
      · exact q
      · rw [a2 _ q] at l4
        cases l4
    rw [ex, if_pos l3]
theorem s_firstFalse {Γ : GT} {G : GG} {M : MM} {n c : Nat} {S V : RT} {t : Nat → Nat} (h : aK G M n c S V t) {act l w : Nat} (hact : act < 2 ^ V 0 26) (hl : l < V 0 24) (hw2 : w < 2 ^ V 0 26) : Calls Γ q_X0_firstFalse [.ref n, .int (nI l), .int (nI w), .int (nI act)] G M (rI (fun y M' => y = (if fa_first (fun gi => w.testBit gi && !soA (pgV V).2.1 (lcP (pgV V).1 (pgV V).2.1 (upN (HS (pgV V).1 (pgV V).2.1 t act) l w) t).1 gi (ndF V 6 l)) (V 0 26) < V 0 26 then nI (fa_first (fun gi => w.testBit gi && !soA (pgV V).2.1 (lcP (pgV V).1 (pgV V).2.1 (upN (HS (pgV V).1 (pgV V).2.1 t act) l w) t).1 gi (ndF V 6 l)) (V 0 26)) else -9) ∧ aK G M' n c S V t ∧ offA n M M')) := by
  obtain ⟨hS, h6, σ, hA, hTr, hFa, hK⟩ := h
  have hM := wS_of hA
  obtain ⟨e22, e23, e24, e26, -⟩ := pr_n hS.2.2.2.2.2
  have ok := okV hS.2.2.2.2.2.2.2 hS.2.2.2.2.2.1
  have v24 := ok.2.2.2.2.1
  have v26 := ok.2.2.2.2.2.2.1
  have hd := hS.2.2.2.2.1
  have hbd : ∀ i, HS (pgV V).1 (pgV V).2.1 t act i < 2 ^ V 0 26 := fun i => it_bd (prC_of hS.2.2.2.2.2 t) hact 15 i
  have hga : M.1 n 6 = nI act → (∀ i, i < 3 → M.1 (n + 43 + 41) i = nI (HS (pgV V).1 (pgV V).2.1 t act i)) ∧ ∀ i, HS (pgV V).1 (pgV V).2.1 t act i < 2 ^ (gvT S c).1 := fun q => by
    refine ⟨fun i hi => ?_, fun i => by show _ < 2 ^ S 0 6; rw [← e26]; exact hbd i⟩
    rcases hK.2.2.2.1 with z | ⟨ac, z1, z2, z3, -⟩
    · rw [z] at q
      exact absurd q.symm (nI_ne_m1 (by have := pow_le32 v26; omega))
    · rw [z2] at q
      have := (nI_eq_iff (by have := pow_le32 v26; omega) (by have := pow_le32 v26; omega)).mp q
      rw [← this]
      exact z3 i hi
  have k := c_X0_firstFalse (Γ := Γ) (M := M) (σ := σ) hS.1 hS.2.2.2.1 (anS_X hS) hd (act := act) (l := l) (gs := w) (by show act < 2 ^ S 0 6; rw [← e26]; exact hact) (by omega) (by show w < 2 ^ S 0 6; rw [← e26]; exact hw2) hga
  rw [← hM] at k
  refine k.imp (fun r M' hp => ?_)
  obtain ⟨y, hr, N, τ, gb, d1, d2, hy, hM'⟩ := hp
  clear k
  refine ⟨y, hr, ?_⟩
  have mid : N.2 = M.2 ∧ (∀ b, (b < n ∨ n + 168 ≤ b) → ∀ j, N.1 b j = M.1 b j) ∧ (∀ b, (b < n + 44 ∨ n + 85 ≤ b) → τ b = σ b) ∧ gb = HS (pgV V).1 (pgV V).2.1 t act ∧ N.1 n 1 = M.1 n 1 ∧ N.1 n 4 = M.1 n 4 ∧ N.1 n 11 = M.1 n 11 ∧ (∀ a, N.1 (n + 127) a = M.1 (n + 127) a) ∧ N.1 n 6 = nI act ∧ ivI N τ n S V t act := by
    by_cases e : M.1 n 6 = nI act
    · obtain ⟨x1, x2, x3⟩ := d1 e
      rw [x1, x2, x3]
      refine ⟨rfl, fun _ _ _ => rfl, fun _ _ => rfl, rfl, rfl, rfl, rfl, fun _ => rfl, e, ?_⟩
      rcases hK.2.2.2.1 with z | ⟨ac, z1, z2, z3⟩
      · rw [z] at e
        exact absurd e.symm (nI_ne_m1 (by have := pow_le32 v26; omega))
      · rw [z2] at e
        have := (nI_eq_iff (by have := pow_le32 v26; omega) (by have := pow_le32 v26; omega)).mp e
        rw [← this]
        exact z3
    · obtain ⟨x1, x2, x3⟩ := d2 e
      obtain ⟨g1, g2, g3, g4⟩ := inv_of (f := n + 43 + 1) (bg := n + 1) (t := t) hS.2.2.2.2.2 hS.2.2.1 hTr (by omega) (by omega) hK.2.1 hact rfl
      rw [← x2] at g2 g3 g4
      rw [← x3] at g1
      have ef : ∀ b j, b ≠ n + 43 + 41 → ¬ (b = n ∧ j = 6) → N.1 b j = M.1 b j := fun b j q1 q2 => by rw [x1]; exact (up2_ne _ _ q2).trans (wI_ne _ _ _ _ q1)
      refine ⟨by rw [x1]; rfl, fun b hb j => ef b j (by omega) (by omega), fun b hb => g4 b (by omega), g1, ef _ _ (by omega) (by omega), ef _ _ (by omega) (by omega), ef _ _ (by omega) (by omega), fun a => ef _ _ (by omega) (by omega), by rw [x1]; exact up2_self _ _ _ _, fun i hi => ?_, g2, g3⟩
      rw [x1]
      refine (up2_ne _ _ (by omega)).trans ((wI_at _ _ _ _ _).trans ?_)
      rw [if_pos hi, ← x3, g1]
  clear d1 d2
  obtain ⟨n2, n1, nσ, egb, m1, m4, m11, m127, m6, miv⟩ := mid
  have hTr1 : trS τ c S := trS_fr hS.2.2.2.2.2 hd hTr (fun b hb => nσ b (by omega))
  have hB1 : ∀ s, s < 216 → τ (n + 1) s = begS t s := fun s hs => by rw [nσ _ (by omega)]; exact hK.2.1 s hs
  have hE := invE_of (f := n + 85 + 1) (bg := n + 1) hS.2.2.2.2.2 hS.2.2.1 hTr1 (by omega) hB1
  have hgn : ∀ i, ffG gb l w i < 2 ^ (pgV V).2.1.1 := fun i => by
    unfold ffG
    split
    · exact hw2
    · rw [egb]; exact hbd i
  have efs : ∀ ng, ng = S 0 6 → ffσ n (pvT S c) (gvT S c) (ffG gb l w) τ = invP (n + 85 + 1) (n + 1) (pvA (aT S) (trA S c)) (ng, (gvT S c).2) (τ, ffG gb l w) := fun ng q => by
    subst q
    rfl
  have wf := wf_of hS.2.2.2.2.2.1
  obtain ⟨W, hO⟩ := inv_pass wf (by omega) hE v26 hgn
  have hfr := hO.2.2.2.2.2
  rw [← efs (pgV V).2.1.1 e26] at hfr
  obtain ⟨ln1, ln2, ln3⟩ := lp_nd hS.2.2.2.2.2 (i := l) (by omega)
  have tb : ∀ g, (ffW n (pvT S c) (gvT S c) (ffG gb l w) l τ).testBit g = ((ffG gb l w l).testBit g && !soA (pgV V).2.1 (lcP (pgV V).1 (pgV V).2.1 (ffG gb l w) t).1 g (ndF V 6 l)) := fun g => by
    have := fg_tb wf (prC_of hS.2.2.2.2.2 t) (by omega) hE hgn (l := l) (j := ndF V 6 l) ln1 ln2 ln3 g
    rw [← efs (pgV V).2.1.1 e26] at this
    exact this
  have eG : ffG gb l w = upN (HS (pgV V).1 (pgV V).2.1 t act) l w := by rw [egb]; rfl
  have eGl : ffG gb l w l = w := if_pos rfl
  rw [eGl, eG] at tb
  have hWl : ffW n (pvT S c) (gvT S c) (ffG gb l w) l τ < 32 := enN_lt _ 0 5
  have ho := off_w (G := G) (N := wI N (n + 85 + 41) 3 (fun i => nI (ffG gb l w i))) (τ := ffσ n (pvT S c) (gvT S c) (ffG gb l w) τ) (n := n) hA n2 (fun b hb j => (wI_ne _ _ _ _ (by omega)).trans (n1 b hb j)) (fun b hb => (hfr b (by omega)).trans (nσ b (by omega)))
  refine ⟨?_, ?_, by rw [hM']; exact ho⟩
  · rw [hy]
    rw [eG] at hWl ⊢
    refine low_first hWl (fun g q => ?_) (fun g q1 q2 => ?_) v26
    · have q' := q
      rw [tb g] at q
      refine ⟨?_, q⟩
      rw [Bool.and_eq_true] at q
      exact tb_lt hw2 q.1
    · rw [tb g]; exact q2
  · rw [hM']
    have ef : ∀ b j, b ≠ n + 85 + 41 → (wI N (n + 85 + 41) 3 (fun i => nI (ffG gb l w i))).1 b j = N.1 b j := fun b j q => wI_ne _ _ _ _ q
    have es : ∀ b, (b < n + 86 ∨ n + 127 ≤ b) → ffσ n (pvT S c) (gvT S c) (ffG gb l w) τ b = τ b := fun b hb => hfr b (by omega)
    refine ⟨anS_off hS ho, h6, _, hasA_w _ _ _, trS_fr hS.2.2.2.2.2 hd hTr1 (fun b hb => es b (by omega)), faI_fr hFa ((ef _ _ (by omega)).trans m11) (fun b hb => (es b (by omega)).trans (nσ b (by omega))), ((ef _ _ (by omega)).trans m1).trans hK.1, fun s hs => by rw [es _ (by omega)]; exact hB1 s hs, fun q => fiE_fr wf (hK.2.2.1 (fun q2 => q (((ef _ _ (by omega)).trans m4).trans q2))) (fun b h1 h2 => (es b (by omega)).trans (nσ b (by omega))), Or.inr ⟨act, hact, (ef _ _ (by omega)).trans m6, fun i hi => (ef _ _ (by omega)).trans (miv.1 i hi), fiE_fr wf miv.2.1 (fun b h1 h2 => es b (by omega)), fun l u hl hu => by rw [es _ (by omega)]; exact miv.2.2 l u hl hu⟩, fun a ha => ?_⟩
    have e2 : (wI N (n + 85 + 41) 3 (fun i => nI (ffG gb l w i))).1 (n + 127) a = M.1 (n + 127) a := (ef _ _ (by omega)).trans (m127 a)
    show (wI N (n + 85 + 41) 3 (fun i => nI (ffG gb l w i))).1 (n + 127) a = -1 ∨ (wI N (n + 85 + 41) 3 (fun i => nI (ffG gb l w i))).1 (n + 127) a = _
    rw [e2]; exact hK.2.2.2.2 a ha
