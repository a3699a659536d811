/-! ===== the class's object: frame and state ===== -/
def cd (o : Nat) (b : Bool) : Nat := if b then o + 129 else o + 4
theorem cd_in (o : Nat) (b : Bool) : o + 4 ≤ cd o b ∧ cd o b + 125 ≤ o + 254 := by
  unfold cd
  split <;> omega
theorem cd_ap (o : Nat) (b : Bool) : cd o b + 125 ≤ cd o (!b) ∨ cd o (!b) + 125 ≤ cd o b := by
  cases b <;> simp [cd] <;> omega
def lgF (G : GG) (R : Nat → Nat → Value) (o : Nat) (b : Bool) : Prop := G o = some (.inl 11) ∧ (R o 0 = .ref (o + 1) ∧ G (o + 1) = some (.inr (.char, 60))) ∧ (R o 2 = .ref (o + 2) ∧ rdF G R (o + 2)) ∧ (R o 3 = .ref (cd o b) ∧ codeF G R (cd o b)) ∧ (R o 4 = .ref (cd o (!b)) ∧ codeF G R (cd o (!b))) ∧ (R o 5 = .ref (o + 254) ∧ suW G R (o + 254)) ∧ (R o 6 = .ref (o + 256) ∧ suW G R (o + 256)) ∧ (R o 7 = .ref (o + 258) ∧ G (o + 258) = some (.inr (.int, 14))) ∧ (R o 9 = .ref (o + 259) ∧ G (o + 259) = some (.inr (.int, 2))) ∧ (R o 10 = .ref (o + 260) ∧ G (o + 260) = some (.inr (.int, 6))) ∧ (R o 11 = .ref (o + 261) ∧ G (o + 261) = some (.inr (.int, 6))) ∧ (R o 13 = .ref (o + 262) ∧ G (o + 262) = some (.inr (.int, 4))) ∧ (R o 14 = .ref (o + 263) ∧ isS G R (o + 263)) ∧ (R o 15 = .ref (o + 265) ∧ anW G R (DG G) (o + 265)) ∧ (R o 16 = .ref (o + 433) ∧ ruW G R (o + 433)) ∧ ∀ a, DG G a = true → o ≤ a ∧ a < o + 434
theorem lg_text {G : GG} {R : Nat → Nat → Value} {o : Nat} {b : Bool} (h : lgF G R o b) : R o 0 = .ref (o + 1) ∧ G (o + 1) = some (.inr (.char, 60)) := h.2.1
theorem lg_reader {G : GG} {R : Nat → Nat → Value} {o : Nat} {b : Bool} (h : lgF G R o b) : R o 2 = .ref (o + 2) ∧ rdF G R (o + 2) := h.2.2.1
theorem lg_code {G : GG} {R : Nat → Nat → Value} {o : Nat} {b : Bool} (h : lgF G R o b) : R o 3 = .ref (cd o b) ∧ codeF G R (cd o b) := h.2.2.2.1
theorem lg_draft {G : GG} {R : Nat → Nat → Value} {o : Nat} {b : Bool} (h : lgF G R o b) : R o 4 = .ref (cd o (!b)) ∧ codeF G R (cd o (!b)) := h.2.2.2.2.1
theorem lg_setup {G : GG} {R : Nat → Nat → Value} {o : Nat} {b : Bool} (h : lgF G R o b) : R o 5 = .ref (o + 254) ∧ suW G R (o + 254) := h.2.2.2.2.2.1
theorem lg_supposed {G : GG} {R : Nat → Nat → Value} {o : Nat} {b : Bool} (h : lgF G R o b) : R o 6 = .ref (o + 256) ∧ suW G R (o + 256) := h.2.2.2.2.2.2.1
theorem lg_past {G : GG} {R : Nat → Nat → Value} {o : Nat} {b : Bool} (h : lgF G R o b) : R o 7 = .ref (o + 258) ∧ G (o + 258) = some (.inr (.int, 14)) := h.2.2.2.2.2.2.2.1
theorem lg_slots {G : GG} {R : Nat → Nat → Value} {o : Nat} {b : Bool} (h : lgF G R o b) : R o 9 = .ref (o + 259) ∧ G (o + 259) = some (.inr (.int, 2)) := h.2.2.2.2.2.2.2.2.1
theorem lg_seenCheck {G : GG} {R : Nat → Nat → Value} {o : Nat} {b : Bool} (h : lgF G R o b) : R o 10 = .ref (o + 260) ∧ G (o + 260) = some (.inr (.int, 6)) := h.2.2.2.2.2.2.2.2.2.1
theorem lg_seenWas {G : GG} {R : Nat → Nat → Value} {o : Nat} {b : Bool} (h : lgF G R o b) : R o 11 = .ref (o + 261) ∧ G (o + 261) = some (.inr (.int, 6)) := h.2.2.2.2.2.2.2.2.2.2.1
theorem lg_lines {G : GG} {R : Nat → Nat → Value} {o : Nat} {b : Bool} (h : lgF G R o b) : R o 13 = .ref (o + 262) ∧ G (o + 262) = some (.inr (.int, 4)) := h.2.2.2.2.2.2.2.2.2.2.2.1
theorem lg_agreeing {G : GG} {R : Nat → Nat → Value} {o : Nat} {b : Bool} (h : lgF G R o b) : R o 14 = .ref (o + 263) ∧ isS G R (o + 263) := h.2.2.2.2.2.2.2.2.2.2.2.2.1
theorem lg_analysis {G : GG} {R : Nat → Nat → Value} {o : Nat} {b : Bool} (h : lgF G R o b) : R o 15 = .ref (o + 265) ∧ anW G R (DG G) (o + 265) := h.2.2.2.2.2.2.2.2.2.2.2.2.2.1
theorem lg_runner {G : GG} {R : Nat → Nat → Value} {o : Nat} {b : Bool} (h : lgF G R o b) : R o 16 = .ref (o + 433) ∧ ruW G R (o + 433) := h.2.2.2.2.2.2.2.2.2.2.2.2.2.2.1
theorem lg_D {G : GG} {R : Nat → Nat → Value} {o : Nat} {b : Bool} (h : lgF G R o b) : ∀ a, DG G a = true → o ≤ a ∧ a < o + 434 := h.2.2.2.2.2.2.2.2.2.2.2.2.2.2.2
theorem fw_now {G : GG} {R : Nat → Nat → Value} {D : DS} {f : Nat} (h : flowW G R D f) : R f 0 = .ref (f + 1) ∧ isD G R D (f + 1) := ⟨h.2.1, h.2.2.1⟩
theorem fw_come {G : GG} {R : Nat → Nat → Value} {D : DS} {f : Nat} (h : flowW G R D f) : R f 1 = .ref (f + 3) ∧ arrS G R D (f + 3) 3 := ⟨h.2.2.2.1, h.2.2.2.2.1⟩
theorem fw_inside {G : GG} {R : Nat → Nat → Value} {D : DS} {f : Nat} (h : flowW G R D f) : R f 2 = .ref (f + 10) ∧ arrS G R D (f + 10) 3 := ⟨h.2.2.2.2.2.1, h.2.2.2.2.2.2.1⟩
theorem fw_check {G : GG} {R : Nat → Nat → Value} {D : DS} {f : Nat} (h : flowW G R D f) : R f 3 = .ref (f + 17) ∧ arrS G R D (f + 17) 4 := ⟨h.2.2.2.2.2.2.2.1, h.2.2.2.2.2.2.2.2.1⟩
theorem an_fl {G : GG} {R : Nat → Nat → Value} {D : DS} {n : Nat} (h : anW G R D n) : flowW G R D (n + 3) := h.2.2.2.2.1
theorem an_iv {G : GG} {R : Nat → Nat → Value} {D : DS} {n : Nat} (h : anW G R D n) : invW G R D (n + 43) := h.2.2.2.2.2.2.1
def cTx (M : MM) (o : Nat) (tx : Nat → Nat) (len : Nat) : Prop := len ≤ 60 ∧ M.1 o 1 = nI len ∧ ∀ i, i < len → M.1 (o + 1) i = nI (tx i) ∧ tx i < 256
def cRd (M : MM) (o : Nat) (b : Bool) : Prop := ∃ T, rdW M (o + 2) (cd o (!b)) T ∧ tbOk T
def cSu (M : MM) (o ng : Nat) (s : SU) : Prop := suIs M (o + 254) s.1 s.2 ∧ suOk ng s
def pkU (s : SU) : Nat := pkS s.1 * 32 + s.2
def cHy (M : MM) (o ng : Nat) (h : HY) : Prop := h.1 ≤ 14 ∧ M.1 o 8 = nI h.1 ∧ ∀ i, i < h.1 → M.1 (o + 258) i = nI (pkU (h.2 i)) ∧ suOk ng (h.2 i)
def cKp (M : MM) (o ng : Nat) (kp : KP) : Prop := ∀ i, i < 2 → (kp i = none → M.1 (o + 259) i = -1) ∧ ∀ s, kp i = some s → M.1 (o + 259) i = nI (pkU s) ∧ suOk ng s
def cSe (M : MM) (o : Nat) (z : SE) : Prop := z.1 ≤ 6 ∧ M.1 o 12 = nI z.1 ∧ ∀ i, i < z.1 → M.1 (o + 260) i = nI (z.2.1 i) ∧ M.1 (o + 261) i = nI (z.2.2 i) ∧ z.2.1 i < 4 ∧ z.2.2 i < 2
def cO (G : GG) (M : MM) (o : Nat) (b : Bool) (S V : RT) (tx : Nat → Nat) (len : Nat) (su : SU) (hy : HY) (kp : KP) (ze : SE) (sd : Int64) : Prop := lgF G M.2.2 o b ∧ cTx M o tx len ∧ cRd M o b ∧ (cdW M (cd o b) S ∧ PR S V) ∧ cSu M o (V 0 26) su ∧ cHy M o (V 0 26) hy ∧ cKp M o (V 0 26) kp ∧ cSe M o ze ∧ M.2.1 (o + 433) 0 = sd
def cInv (G : GG) (M : MM) (o : Nat) (b : Bool) (S V : RT) (tx : Nat → Nat) (len : Nat) (su : SU) (hy : HY) (kp : KP) (ze : SE) (sd : Int64) : Prop := cO G M o b S V tx len su hy kp ze sd ∧ aC G M (o + 265) (cd o b) S V
def cKn (G : GG) (M : MM) (o : Nat) (b : Bool) (S V : RT) (tx : Nat → Nat) (len : Nat) (su : SU) (hy : HY) (kp : KP) (ze : SE) (sd : Int64) (t : Nat → Nat) : Prop := cO G M o b S V tx len su hy kp ze sd ∧ aK G M (o + 265) (cd o b) S V t
section CG
variable {G : GG} {M N : MM} {o : Nat} {b : Bool} {S V : RT} {tx : Nat → Nat} {len : Nat} {su : SU} {hy : HY} {kp : KP} {ze : SE} {sd : Int64} {t : Nat → Nat}
theorem cKn_I (h : cKn G M o b S V tx len su hy kp ze sd t) : cInv G M o b S V tx len su hy kp ze sd := ⟨h.1, aK_C h.2⟩
theorem cTx_cg (h : cTx M o tx len) (e : N.1 o 1 = M.1 o 1) (e1 : ∀ j, N.1 (o + 1) j = M.1 (o + 1) j) : cTx N o tx len := ⟨h.1, e.trans h.2.1, fun i hi => ⟨(e1 i).trans (h.2.2 i hi).1, (h.2.2 i hi).2⟩⟩
theorem rdW_cg {u c : Nat} {T : RT} (h : rdW M u c T) (e1 : ∀ a j, c ≤ a → a < c + 125 → N.1 a j = M.1 a j) (e2 : ∀ a j, u ≤ a → a < u + 2 → N.1 a j = M.1 a j) (e3 : ∀ a j, c ≤ a → a < c + 125 → N.2.2 a j = M.2.2 a j) : rdW N u c T :=
  ⟨fun a f ha hr => (e1 _ _ (by omega) (by omega)).trans (h.1 a f ha hr), fun a f ha => (e2 _ _ (by omega) (by omega)).trans (h.2.1 a f ha), fun a f hr => ⟨(e3 _ _ (by omega) (by unfold refS at hr; omega)).trans (h.2.2 a f hr).1, (h.2.2 a f hr).2⟩⟩
theorem cRd_cg (h : cRd M o b) (e : ∀ a j, o + 2 ≤ a → a < o + 254 → N.1 a j = M.1 a j) (er : N.2.2 = M.2.2) : cRd N o b := by
  obtain ⟨T, h1, h2⟩ := h
  have := cd_in o (!b)
  exact ⟨T, rdW_cg h1 (fun a j _ _ => e _ _ (by omega) (by omega)) (fun a j _ _ => e _ _ (by omega) (by omega)) (fun a j _ _ => by rw [er]), h2⟩
theorem cSu_cg {ng : Nat} (h : cSu M o ng su) (e : ∀ a j, a = o + 254 ∨ a = o + 254 + 1 → N.1 a j = M.1 a j) : cSu N o ng su := ⟨⟨(e _ _ (Or.inr rfl)).trans h.1.1, (e _ _ (Or.inr rfl)).trans h.1.2.1, (e _ _ (Or.inr rfl)).trans h.1.2.2.1, (e _ _ (Or.inl rfl)).trans h.1.2.2.2⟩, h.2⟩
theorem cHy_cg {ng : Nat} (h : cHy M o ng hy) (e : N.1 o 8 = M.1 o 8) (e2 : ∀ j, N.1 (o + 258) j = M.1 (o + 258) j) : cHy N o ng hy := ⟨h.1, e.trans h.2.1, fun i hi => ⟨(e2 i).trans (h.2.2 i hi).1, (h.2.2 i hi).2⟩⟩
theorem cKp_cg {ng : Nat} (h : cKp M o ng kp) (e : ∀ j, N.1 (o + 259) j = M.1 (o + 259) j) : cKp N o ng kp := fun i hi => ⟨fun q => (e i).trans ((h i hi).1 q), fun s q => ⟨(e i).trans ((h i hi).2 s q).1, ((h i hi).2 s q).2⟩⟩
theorem cSe_cg (h : cSe M o ze) (e : N.1 o 12 = M.1 o 12) (e2 : ∀ a j, a = o + 260 ∨ a = o + 261 → N.1 a j = M.1 a j) : cSe N o ze := ⟨h.1, e.trans h.2.1, fun i hi => ⟨(e2 _ i (Or.inl rfl)).trans (h.2.2 i hi).1, (e2 _ i (Or.inr rfl)).trans (h.2.2 i hi).2.1, (h.2.2 i hi).2.2⟩⟩
theorem cO_cg (h : cO G M o b S V tx len su hy kp ze sd) (er : N.2.2 = M.2.2) (ei : ∀ a j, o ≤ a → a < o + 262 → N.1 a j = M.1 a j) (el : N.2.1 (o + 433) 0 = M.2.1 (o + 433) 0) : cO G N o b S V tx len su hy kp ze sd := by
  obtain ⟨h1, h2, h3, ⟨h4, h5⟩, h6, h7, h8, h9, h10⟩ := h
  have := cd_in o b
  refine ⟨by rw [er]; exact h1, cTx_cg h2 (ei _ _ (by omega) (by omega)) (fun j => ei _ _ (by omega) (by omega)), cRd_cg h3 (fun a j _ _ => ei _ _ (by omega) (by omega)) er, ⟨cdW_cg h4 (fun a j _ _ => ei _ _ (by omega) (by omega)) (fun a j _ _ => by rw [er]), h5⟩, cSu_cg h6 (fun a j q => ei _ _ (by omega) (by omega)), cHy_cg h7 (ei _ _ (by omega) (by omega)) (fun j => ei _ _ (by omega) (by omega)), cKp_cg h8 (fun j => ei _ _ (by omega) (by omega)), cSe_cg h9 (ei _ _ (by omega) (by omega)) (fun a j q => ei _ _ (by omega) (by omega)), el.trans h10⟩
theorem cO_off (h : cO G M o b S V tx len su hy kp ze sd) (ho : offA (o + 265) M N) : cO G N o b S V tx len su hy kp ze sd :=
  cO_cg h ho.1 (fun a j _ _ => (ho.2 a (by omega)).1 j) ((ho.2 _ (by omega)).2 0)
theorem ivI_cg {σ : SG} {n act : Nat} (h : ivI M σ n S V t act) (e : ∀ j, N.1 (n + 43 + 41) j = M.1 (n + 43 + 41) j) : ivI N σ n S V t act := ⟨fun i hi => (e i).trans (h.1 i hi), h.2⟩
theorem knI_mem {σ : SG} {n : Nat} (h : knI M σ n S V t) (e : ∀ a j, n ≤ a → a < n + 168 → N.1 a j = M.1 a j) : knI N σ n S V t := by
  obtain ⟨a1, a2, a3, a4, a5⟩ := h
  refine ⟨(e _ _ (by omega) (by omega)).trans a1, a2, fun q => a3 (fun z => q ((e _ _ (by omega) (by omega)).trans z)), ?_, fun a ha => by rw [e _ _ (by omega) (by omega)]; exact a5 a ha⟩
  rcases a4 with q | ⟨act, q1, q2, q3⟩
  · exact Or.inl ((e _ _ (by omega) (by omega)).trans q)
  · exact Or.inr ⟨act, q1, (e _ _ (by omega) (by omega)).trans q2, ivI_cg q3 (fun j => e _ _ (by omega) (by omega))⟩
theorem aC_cg {n c : Nat} (h : aC G M n c S V) (er : N.2.2 = M.2.2) (ec : ∀ a j, c ≤ a → a < c + 125 → N.1 a j = M.1 a j) (en : ∀ a j, n ≤ a → a < n + 168 → N.1 a j = M.1 a j) (el : ∀ a j, DG G a = true → N.2.1 (a + 1) j = M.2.1 (a + 1) j) : aC G N n c S V := by
  obtain ⟨⟨s1, s2, s3, s4, s5, s6⟩, σ, h1, h2, ⟨ff, f1, f2, f3⟩, h4⟩ := h
  refine ⟨⟨by rw [er]; exact s1, by rw [er]; exact s2, cdW_cg s3 ec (fun a j _ _ => by rw [er]), by rw [er]; exact s4, s5, s6⟩, σ, fun a ha k hk => (el a k ha).trans (h1 a ha k hk), h2, ⟨ff, f1, (en _ _ (by omega) (by omega)).trans f2, f3⟩, ?_⟩
  rcases h4 with q | ⟨t, q1, q2⟩
  · exact Or.inl ((en _ _ (by omega) (by omega)).trans q)
  · exact Or.inr ⟨t, q1, knI_mem q2 en⟩
/-- ints alone have changed, and none of the programs' or the analysis's -/
theorem cInv_I {tx' : Nat → Nat} {len' : Nat} {su' : SU} {hy' : HY} {kp' : KP} {ze' : SE} (h : cInv G M o b S V tx len su hy kp ze sd) (e2 : N.2 = M.2) (ei : ∀ a j, (o + 2 ≤ a ∧ a < o + 254) ∨ (o + 265 ≤ a ∧ a < o + 435) → N.1 a j = M.1 a j) (k1 : cTx N o tx' len') (k2 : cSu N o (V 0 26) su') (k3 : cHy N o (V 0 26) hy') (k4 : cKp N o (V 0 26) kp') (k5 : cSe N o ze') : cInv G N o b S V tx' len' su' hy' kp' ze' sd := by
  obtain ⟨⟨h1, h2, h3, ⟨h4, h5⟩, h6, h7, h8, h9, h10⟩, h11⟩ := h
  have := cd_in o b
  have er : N.2.2 = M.2.2 := by rw [e2]
  refine ⟨⟨by rw [er]; exact h1, k1, cRd_cg h3 (fun a j _ _ => ei _ _ (by omega)) er, ⟨cdW_cg h4 (fun a j _ _ => ei _ _ (by omega)) (fun a j _ _ => by rw [er]), h5⟩, k2, k3, k4, k5, by rw [e2]; exact h10⟩, aC_cg h11 er (fun a j _ _ => ei _ _ (by omega)) (fun a j _ _ => ei _ _ (by omega)) (fun a j _ => by rw [e2])⟩
theorem cv_g (h : cO G M o b S V tx len su hy kp ze sd) : M.1 (cd o b) 6 = nI (V 0 26) := by rw [(pr_n h.2.2.2.1.2).2.2.2.1]; exact cdW_c h.2.2.2.1.1 6
theorem cv_k (h : cO G M o b S V tx len su hy kp ze sd) : M.1 (cd o b) 7 = nI (V 0 23) := by rw [(pr_n h.2.2.2.1.2).2.1]; exact cdW_c h.2.2.2.1.1 7
theorem cv_l (h : cO G M o b S V tx len su hy kp ze sd) : M.1 (cd o b) 8 = nI (V 0 24) := by rw [(pr_n h.2.2.2.1.2).2.2.1]; exact cdW_c h.2.2.2.1.1 8
theorem cv_e (h : cO G M o b S V tx len su hy kp ze sd) : M.1 (cd o b) 9 = nI (V 0 25) := by rw [(pr_n h.2.2.2.1.2).2.2.2.2]; exact cdW_c h.2.2.2.1.1 9
theorem cv_ok (h : cO G M o b S V tx len su hy kp ze sd) : V 0 22 ≤ 60 ∧ V 0 23 ≤ 4 ∧ V 0 24 ≤ 3 ∧ V 0 25 ≤ 3 ∧ V 0 26 ≤ 5 := by
  obtain ⟨-, -, a, b, c, d, e, -⟩ := okV h.2.2.2.1.2.2.2 h.2.2.2.1.2.1
  exact ⟨a, b, c, d, e⟩
theorem cv_6 (h : cO G M o b S V tx len su hy kp ze sd) : hs6 su.1 := ⟨h.2.2.2.2.1.2.1 0 (by decide), h.2.2.2.2.1.2.1 1 (by decide), h.2.2.2.2.1.2.1 2 (by decide)⟩
theorem cv_32 (h : cO G M o b S V tx len su hy kp ze sd) : su.2 < 32 := su32 h.2.2.2.2.1.2 (cv_ok h).2.2.2.2
end CG
/-- nothing but the object's cells has changed -/
def offO (o : Nat) (M M' : MM) : Prop := ∀ b, (b < o ∨ o + 435 ≤ b) → (∀ j, M'.1 b j = M.1 b j) ∧ (∀ j, M'.2.1 b j = M.2.1 b j) ∧ ∀ j, M'.2.2 b j = M.2.2 b j
theorem oO_refl (o : Nat) (M : MM) : offO o M M := fun _ _ => ⟨fun _ => rfl, fun _ => rfl, fun _ => rfl⟩
theorem oO_trans {o : Nat} {M N K : MM} (h1 : offO o M N) (h2 : offO o N K) : offO o M K := fun b q => ⟨fun j => ((h2 b q).1 j).trans ((h1 b q).1 j), fun j => ((h2 b q).2.1 j).trans ((h1 b q).2.1 j), fun j => ((h2 b q).2.2 j).trans ((h1 b q).2.2 j)⟩
theorem oO_A {o : Nat} {M N : MM} (h : offA (o + 265) M N) : offO o M N := fun b q => ⟨(h.2 b (by omega)).1, (h.2 b (by omega)).2, fun j => by rw [h.1]⟩
theorem oO_I {o : Nat} {M N : MM} (h : offO o M N) {a k : Nat} (x : Int32) (ha : o ≤ a ∧ a < o + 435) : offO o M (sI N a k x) := oO_trans h (fun b q => ⟨fun j => up2_ne _ _ (by omega), fun j => rfl, fun j => rfl⟩)
theorem oO_L {o : Nat} {M N : MM} (h : offO o M N) {a k : Nat} (x : Int64) (ha : o ≤ a ∧ a < o + 435) : offO o M (sL N a k x) := oO_trans h (fun b q => ⟨fun j => rfl, fun j => up2_ne _ _ (by omega), fun j => rfl⟩)
theorem oO_R {o : Nat} {M N : MM} (h : offO o M N) {a k : Nat} (x : Value) (ha : o ≤ a ∧ a < o + 435) : offO o M (sR N a k x) := oO_trans h (fun b q => ⟨fun j => rfl, fun j => rfl, fun j => up2_ne _ _ (by omega)⟩)
theorem oO_wI {o : Nat} {M N : MM} (h : offO o M N) {a k : Nat} (f : Nat → Int32) (ha : o ≤ a ∧ a < o + 435) : offO o M (wI N a k f) := oO_trans h (fun b q => ⟨fun j => wI_ne _ _ _ _ (by omega), fun j => rfl, fun j => rfl⟩)
theorem oO_su {o : Nat} {M N : MM} (h : offO o M N) {u : Nat} (t : Nat → Nat) (off : Nat) (ha : o ≤ u ∧ u + 1 < o + 435) : offO o M (setSu N u t off) := oO_I (oO_I (oO_I (oO_I h _ (by omega)) _ (by omega)) _ (by omega)) _ (by omega)
