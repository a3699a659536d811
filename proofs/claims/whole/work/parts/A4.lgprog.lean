/-! ===== LoopGuesses: fault, program, drawn ===== -/
theorem rng1 {x : Int32} {b : Nat} (h : ∀ n, n < b → x ≠ nI (n + 1)) (h0 : ¬ x < nI 1) (hb : b < 2 ^ 31 := by decide) : ¬ x ≤ nI b := fun q => by
  have a : 1 ≤ x.toInt := by
    have := mt Int32.lt_iff_toInt_lt.mpr h0
    rw [nI_toInt (by decide)] at this
    omega
  have q2 := Int32.le_iff_toInt_le.mp q
  rw [nI_toInt hb] at q2
  have e := i32_nat (x := x) (by omega)
  refine h (x.toInt.toNat - 1) (by omega) ?_
  rw [show x.toInt.toNat - 1 + 1 = x.toInt.toNat by omega]
  exact e
theorem cdOk_of {S : RT} (h : tabOk S) {j : Nat} (hj : j < S 0 3) : cndOk (cdS S j) := h.2.2.2.1 j hj
theorem isS_r {G : GG} {R R' : Nat → Nat → Value} {a : Nat} (h : isS G R a) (e : ∀ j, R' a j = R a j) : isS G R' a := ⟨h.1, (e 0).trans h.2.1, h.2.2⟩
theorem isD_r {G : GG} {R R' : Nat → Nat → Value} {D : DS} {a : Nat} (h : isD G R D a) (e : ∀ j, R' a j = R a j) : isD G R' D a := ⟨isS_r h.1 e, h.2⟩
theorem arrS_r {G : GG} {R R' : Nat → Nat → Value} {D : DS} {a n : Nat} (h : arrS G R D a n) (e : ∀ b j, a ≤ b → b < a + 1 + 2 * n → R' b j = R b j) : arrS G R' D a n := ⟨h.1, fun i hi => ⟨(e _ _ (by omega) (by omega)).trans (h.2 i hi).1, isD_r (h.2 i hi).2 (fun j => e _ _ (by omega) (by omega))⟩⟩
theorem flowW_r {G : GG} {R R' : Nat → Nat → Value} {D : DS} {f : Nat} (h : flowW G R D f) (e : ∀ b j, f ≤ b → b < f + 40 → R' b j = R b j) : flowW G R' D f := by
  obtain ⟨a1, a2, a3, a4, a5, a6, a7, a8, a9, a10, a11, a12, a13⟩ := h
  exact ⟨a1, (e _ _ (by omega) (by omega)).trans a2, isD_r a3 (fun j => e _ _ (by omega) (by omega)), (e _ _ (by omega) (by omega)).trans a4, arrS_r a5 (fun b j _ _ => e _ _ (by omega) (by omega)), (e _ _ (by omega) (by omega)).trans a6, arrS_r a7 (fun b j _ _ => e _ _ (by omega) (by omega)), (e _ _ (by omega) (by omega)).trans a8, arrS_r a9 (fun b j _ _ => e _ _ (by omega) (by omega)), (e _ _ (by omega) (by omega)).trans a10, arrS_r a11 (fun b j _ _ => e _ _ (by omega) (by omega)), (e _ _ (by omega) (by omega)).trans a12, arrS_r a13 (fun b j _ _ => e _ _ (by omega) (by omega))⟩
theorem invW_r {G : GG} {R R' : Nat → Nat → Value} {D : DS} {u : Nat} (h : invW G R D u) (e : ∀ b j, u ≤ b → b < u + 42 → R' b j = R b j) : invW G R' D u := by
  obtain ⟨a1, a2, a3, a4, a5⟩ := h
  exact ⟨a1, (e _ _ (by omega) (by omega)).trans a2, flowW_r a3 (fun b j _ _ => e _ _ (by omega) (by omega)), (e _ _ (by omega) (by omega)).trans a4, a5⟩
theorem blameW_r {G : GG} {R R' : Nat → Nat → Value} {D : DS} {f : Nat} (h : blameW G R D f) (e : ∀ b j, f ≤ b → b < f + 31 → R' b j = R b j) : blameW G R' D f := by
  obtain ⟨a1, a2, a3, a4, a5, a6, a7, a8, a9, a10, a11⟩ := h
  exact ⟨a1, (e _ _ (by omega) (by omega)).trans a2, isD_r a3 (fun j => e _ _ (by omega) (by omega)), (e _ _ (by omega) (by omega)).trans a4, arrS_r a5 (fun b j _ _ => e _ _ (by omega) (by omega)), (e _ _ (by omega) (by omega)).trans a6, arrS_r a7 (fun b j _ _ => e _ _ (by omega) (by omega)), (e _ _ (by omega) (by omega)).trans a8, arrS_r a9 (fun b j _ _ => e _ _ (by omega) (by omega)), (e _ _ (by omega) (by omega)).trans a10, arrS_r a11 (fun b j _ _ => e _ _ (by omega) (by omega))⟩
/-- all but the program itself (place 0) -/
theorem anW_r {G : GG} {R R' : Nat → Nat → Value} {D : DS} {n : Nat} (h : anW G R D n) (e : ∀ b j, n ≤ b → b < n + 168 → ¬ (b = n ∧ j = 0) → R' b j = R b j) : anW G R' D n := by
  obtain ⟨a1, a2, a3, a4, a5, a6, a7, a8, a9, a10, a11, a12, a13, a14, a15⟩ := h
  exact ⟨a1, (e _ _ (by omega) (by omega) (by omega)).trans a2, isD_r a3 (fun j => e _ _ (by omega) (by omega) (by omega)), (e _ _ (by omega) (by omega) (by omega)).trans a4, flowW_r a5 (fun b j _ _ => e _ _ (by omega) (by omega) (by omega)), (e _ _ (by omega) (by omega) (by omega)).trans a6, invW_r a7 (fun b j _ _ => e _ _ (by omega) (by omega) (by omega)), (e _ _ (by omega) (by omega) (by omega)).trans a8, invW_r a9 (fun b j _ _ => e _ _ (by omega) (by omega) (by omega)), (e _ _ (by omega) (by omega) (by omega)).trans a10, a11, (e _ _ (by omega) (by omega) (by omega)).trans a12, blameW_r a13 (fun b j _ _ => e _ _ (by omega) (by omega) (by omega)), (e _ _ (by omega) (by omega) (by omega)).trans a14, arrS_r a15 (fun b j _ _ => e _ _ (by omega) (by omega) (by omega))⟩
theorem suW_r {G : GG} {R R' : Nat → Nat → Value} {u : Nat} (h : suW G R u) (e : ∀ j, R' u j = R u j) : suW G R' u := ⟨h.1, (e 0).trans h.2.1, h.2.2⟩
/-- the frame, but for which code is which -/
theorem lgF_r {G : GG} {R R' : Nat → Nat → Value} {o : Nat} {b b' : Bool} (h : lgF G R o b) (r3 : R' o 3 = .ref (cd o b')) (r4 : R' o 4 = .ref (cd o (!b'))) (c1 : codeF G R' (cd o b)) (c2 : codeF G R' (cd o (!b))) (e : ∀ a j, (a = o ∧ j ≠ 3 ∧ j ≠ 4) ∨ a = o + 2 ∨ (o + 254 ≤ a ∧ a < o + 435 ∧ ¬ (a = o + 265 ∧ j = 0)) → R' a j = R a j) : lgF G R' o b' := by
  have cc : codeF G R' (cd o b') ∧ codeF G R' (cd o (!b')) := by
    cases b <;> cases b' <;> first | exact ⟨c1, c2⟩ | exact ⟨c2, c1⟩
  refine ⟨h.1, ⟨(e _ _ (by omega)).trans (lg_text h).1, (lg_text h).2⟩, ⟨(e _ _ (by omega)).trans (lg_reader h).1, (lg_reader h).2.1, (e _ _ (by omega)).trans (lg_reader h).2.2.1, (lg_reader h).2.2.2⟩, ⟨r3, cc.1⟩, ⟨r4, cc.2⟩, ⟨(e _ _ (by omega)).trans (lg_setup h).1, suW_r (lg_setup h).2 (fun j => e _ _ (by omega))⟩, ⟨(e _ _ (by omega)).trans (lg_supposed h).1, suW_r (lg_supposed h).2 (fun j => e _ _ (by omega))⟩, ⟨(e _ _ (by omega)).trans (lg_past h).1, (lg_past h).2⟩, ⟨(e _ _ (by omega)).trans (lg_slots h).1, (lg_slots h).2⟩, ⟨(e _ _ (by omega)).trans (lg_seenCheck h).1, (lg_seenCheck h).2⟩, ⟨(e _ _ (by omega)).trans (lg_seenWas h).1, (lg_seenWas h).2⟩, ⟨(e _ _ (by omega)).trans (lg_lines h).1, (lg_lines h).2⟩, ⟨(e _ _ (by omega)).trans (lg_agreeing h).1, isS_r (lg_agreeing h).2 (fun j => e _ _ (by omega))⟩, ⟨(e _ _ (by omega)).trans (lg_analysis h).1, anW_r (lg_analysis h).2 (fun a j _ _ q => e _ _ (by omega))⟩, ⟨(e _ _ (by omega)).trans (lg_runner h).1, (lg_runner h).2.1, (e _ _ (by omega)).trans (lg_runner h).2.2.1, (lg_runner h).2.2.2⟩, lg_D h⟩
theorem codeF_e {G : GG} {R R' : Nat → Nat → Value} {c : Nat} (h : codeF G R c) (e : ∀ a j, c ≤ a → a < c + 125 → R' a j = R a j) : codeF G R' c := codeF_r h (fun a j _ _ _ h1 h2 => e a j h1 h2)
theorem aC_r {G : GG} {M N : MM} {n c : Nat} {S V : RT} (h : aC G M n c S V) (er : ∀ a j, (c ≤ a ∧ a < c + 125) ∨ (n ≤ a ∧ a < n + 168) → N.2.2 a j = M.2.2 a j) (ec : ∀ a j, c ≤ a → a < c + 125 → N.1 a j = M.1 a j) (en : ∀ a j, n ≤ a → a < n + 168 → N.1 a j = M.1 a j) (el : ∀ a j, DG G a = true → N.2.1 (a + 1) j = M.2.1 (a + 1) j) : aC G N n c S V := by
  obtain ⟨⟨s1, s2, s3, s4, s5, s6⟩, σ, h1, h2, ⟨ff, f1, f2, f3⟩, h4⟩ := h
  refine ⟨⟨anW_r s1 (fun a j q1 q2 _ => er a j (Or.inr ⟨q1, q2⟩)), codeF_e s2 (fun a j q1 q2 => er a j (Or.inl ⟨q1, q2⟩)), cdW_cg s3 ec (fun a j q1 q2 => er a j (Or.inl ⟨q1, q2⟩)), (er _ _ (Or.inr (by omega))).trans s4, s5, s6⟩, σ, fun a ha k hk => (el a k ha).trans (h1 a ha k hk), h2, ⟨ff, f1, (en _ _ (by omega) (by omega)).trans f2, f3⟩, ?_⟩
  rcases h4 with q | ⟨t, q1, q2⟩
  · exact Or.inl ((en _ _ (by omega) (by omega)).trans q)
  · exact Or.inr ⟨t, q1, knI_mem q2 en⟩
theorem tb_rd {S : RT} {i : Nat} (h : rdOk S i) : tbOk S := ⟨h.2.2.2.1, h.2.2.2.2.2.2.2.2.2.2.1⟩
/-- the draft has been read into -/
theorem cInv_rd {G : GG} {M N : MM} {o : Nat} {b : Bool} {S V T : RT} {tx : Nat → Nat} {len : Nat} {su : SU} {hy : HY} {kp : KP} {ze : SE} {sd : Int64} (h : cInv G M o b S V tx len su hy kp ze sd) (hr : rdS (o + 2) (cd o (!b)) M N T) (ht : tbOk T) : cInv G N o b S V tx len su hy kp ze sd ∧ offO o M N := by
  have c1 := cd_in o b
  have c2 := cd_in o (!b)
  have c3 := cd_ap o b
  have hr0 := hr
  obtain ⟨hW, f1, f2, f3⟩ := hr
  have ei : ∀ a j, ¬ (cd o (!b) ≤ a ∧ a < cd o (!b) + 125) → ¬ (o + 2 ≤ a ∧ a < o + 4) → N.1 a j = M.1 a j := fun a j q1 q2 => f2 a j q1 (by omega)
  have er : ∀ a j, ¬ (cd o (!b) ≤ a ∧ a < cd o (!b) + 125) → N.2.2 a j = M.2.2 a j := fun a j q => f3 a j (fun ⟨q1, q2⟩ => by unfold refS at q2; omega)
  obtain ⟨⟨h1, h2, h3, ⟨h4, h5⟩, h6, h7, h8, h9, h10⟩, h11⟩ := h
  refine ⟨⟨⟨lgF_r h1 ((er _ _ (by omega)).trans (lg_code h1).1) ((er _ _ (by omega)).trans (lg_draft h1).1) (codeF_e (lg_code h1).2 (fun a j _ _ => er _ _ (by omega))) (rdS_codeF hr0 (lg_draft h1).2) (fun a j q => er _ _ (by omega)), cTx_cg h2 (ei _ _ (by omega) (by omega)) (fun j => ei _ _ (by omega) (by omega)), ⟨T, hW, ht⟩, ⟨cdW_cg h4 (fun a j _ _ => ei _ _ (by omega) (by omega)) (fun a j _ _ => er _ _ (by omega)), h5⟩, cSu_cg h6 (fun a j q => ei _ _ (by omega) (by omega)), cHy_cg h7 (ei _ _ (by omega) (by omega)) (fun j => ei _ _ (by omega) (by omega)), cKp_cg h8 (fun j => ei _ _ (by omega) (by omega)), cSe_cg h9 (ei _ _ (by omega) (by omega)) (fun a j q => ei _ _ (by omega) (by omega)), by rw [f1]; exact h10⟩, aC_r h11 (fun a j q => er _ _ (by omega)) (fun a j _ _ => ei _ _ (by omega) (by omega)) (fun a j _ _ => ei _ _ (by omega) (by omega)) (fun a j _ => by rw [f1])⟩, fun a q => ⟨fun j => ei _ _ (by omega) (by omega), fun j => by rw [f1], fun j => er _ _ (by omega)⟩⟩
theorem ftN_ne {c : Nat} {k : Nat → CND} {σ : SG} {a : Nat} : ∀ n, (∀ i, i < n → a ≠ c + 5 + 3 * i + 1) → ftN c k n σ a = σ a
  | 0, _ => rfl
  | n + 1, h => by
    rw [ftN, upσ_ne _ _ (h n (by omega))]
    exact ftN_ne n (fun i hi => h i (by omega))
theorem ftN_at {c : Nat} {k : Nat → CND} {σ : SG} {j : Nat} : ∀ n, j < n → ftN c k n σ (c + 5 + 3 * j + 1) = cndT (k j)
  | 0, h => absurd h (Nat.not_lt_zero _)
  | n + 1, h => by
    rw [ftN]
    by_cases e : j = n
    · rw [e, upσ_self]
    · rw [upσ_ne _ _ (by omega)]
      exact ftN_at n (by omega)
theorem wS_long {G : GG} {M N : MM} {σ τ : SG} {a j : Nat} (hA : hasA G M σ) (e : N.2.1 a j = M.2.1 a j) (es : τ (a - 1) = σ (a - 1)) : (wS (DG G) N τ).2.1 a j = M.2.1 a j := by
  show (if (1 ≤ a ∧ DG G (a - 1) = true) ∧ j < 6 then encF (τ (a - 1)) j else N.2.1 a j) = _
  by_cases q : (1 ≤ a ∧ DG G (a - 1) = true) ∧ j < 6
  · rw [if_pos q, es]
    have := hA (a - 1) q.1.2 j q.2
    rw [show a - 1 + 1 = a by omega] at this
    exact this.symm
  · rw [if_neg q]; exact e
theorem mixT {M : MM} {u c c' : Nat} {S S' : RT} (h : cdW M c S) (h' : rdW M u c' S') : rdW M u c (fun a f => if a < 200 then S a f else S' a f) := by
  refine ⟨fun a f ha hr => ?_, fun a f ha => ?_, fun a f hr => ?_⟩
  · show M.1 (c + a) f = nI (if a < 200 then S a f else S' a f)
    rw [if_pos (by omega)]; exact h.1 a f ha hr
  · show M.1 (u + a) f = nI (if 200 + a < 200 then S (200 + a) f else S' (200 + a) f)
    rw [if_neg (by omega)]; exact h'.2.1 a f ha
  · show M.2.2 (c + a) f = .ref (c + 5 + 3 * (if a < 200 then S a f else S' a f)) ∧ (if a < 200 then S a f else S' a f) < 20
    rw [if_pos (by unfold refS at hr; omega)]; exact h.2 a f hr
theorem c_X11_fault {Γ : GT} {G : GG} {M : MM} {o : Nat} {b : Bool} {S V : RT} {tx : Nat → Nat} {len : Nat} {su : SU} {hy : HY} {kp : KP} {ze : SE} {sd : Int64} (hI : cInv G M o b S V tx len su hy kp ze sd) {T : RT} (hT : rdW M (o + 2) (cd o (!b)) T) (ht : tbOk T) : Calls Γ q_X11_fault [.ref o] G M (rI (fun y M' => rdQ T tx len y ∧ cInv G M' o b S V (tx) (len) (su) (hy) (kp) (ze) (sd) ∧ offO o M M')) := by
  have hI0 := hI
  obtain ⟨hO, hA⟩ := hI
  have hO0 := hO
  obtain ⟨v22, v23, v24, v25, v26⟩ := cv_ok hO
  have c2 := cd_in o (!b)
  refine Calls.intro (by decide +kernel) (Nat.le_of_ble_eq_true rfl) (fun z E h hQ => ?_)
  refine x_loc (L' := [some (.ref o)]) rfl ?_
  refine x_aload_n h dX11_fault_0 rfl ?_
  refine x_getR h hO.1.1 f_X11_16 rfl (lg_reader hO.1).1 dX11_fault_1 ?_
  refine x_aload_n h dX11_fault_4 rfl ?_
  refine x_getR h hO.1.1 f_X11_9 rfl (lg_text hO.1).1 dX11_fault_5 ?_
  refine x_aload_n h dX11_fault_8 rfl ?_
  refine x_getIv h hO.1.1 f_X11_82 rfl hO.2.1.2.1 dX11_fault_9 ?_
  refine x_aload_n h dX11_fault_12 rfl ?_
  refine x_getR h hO.1.1 f_X11_27 rfl (lg_draft hO.1).1 dX11_fault_13 ?_
  refine x_cVi h ci_X6_read im_X6_read l_X11_86 ⟨Nat.le_of_ble_eq_true rfl, Nat.le_of_ble_eq_true rfl⟩ ⟨rfl, rfl⟩ ⟨Nat.zero_le _, Nat.zero_le _⟩ (c_X6_read (lg_reader hO.1).2 (lg_draft hO.1).2 (by omega) hT ht.1 ht.2 (lg_text hO.1).2 hO.2.1.1 (fun i hi => ⟨(hO.2.1.2.2 i hi).1, by have := (hO.2.1.2.2 i hi).2; omega⟩) (by omega)) rfl rfl rfl rfl (lg_reader hO.1).2.1 (by decide) rfl dX11_fault_16 (fun v16 M16 hp16 => ?_)
  have hq := readP_Q hp16
  obtain ⟨mm, S1, hm, hS1, hr1, hcase⟩ := hp16
  have hok := rdI_okT ht (by have := hO.2.1.1; omega) hS1
  obtain ⟨hI1, ho1⟩ := cInv_rd hI0 hr1 (tb_rd hok)
  exact x_iret h hQ rfl dX11_fault_19 ⟨rfl, rfl, _, rfl, hq, hI1, ho1⟩
theorem rd_end {u c : Nat} {M : MM} {tx : Nat → Nat} {len : Nat} {T : RT} {M' : MM} (ht : tbOk T) (hl : len ≤ 60) (h : readP u c M tx len T (-9) M') : ∃ S, rdI tx (t0T T) len = some S ∧ rdS u c M M' S ∧ wholeT S := by
  obtain ⟨m, S, h1, h2, h3, h4⟩ := h
  rcases h4 with ⟨a, b, e⟩ | ⟨a, b, e⟩
  · exfalso
    have e2 := congrArg Int32.toInt e
    rw [nI_toInt (by omega)] at e2
    have : (-9 : Int32).toInt = -9 := by decide
    omega
  · refine ⟨S, by rw [← a]; exact h2, h3, ?_⟩
    by_cases w : wholeT S
    · exact w
    · exfalso
      have e2 := congrArg Int32.toInt (e w)
      rw [nI_toInt (by omega)] at e2
      have : (-9 : Int32).toInt = -9 := by decide
      omega
/-- the new program is in place -/
theorem cInv_pg {G : GG} {M N : MM} {o : Nat} {b : Bool} {S V S' : RT} {tx : Nat → Nat} {len : Nat} {su : SU} {hy : HY} {kp : KP} {ze : SE} {sd : Int64} {σ : SG} (h : cInv G M o b S V tx len su hy kp ze sd) (hA : hasA G M σ) (hW : rdW M (o + 2) (cd o (!b)) S') (ht : tabOk S') (hk : ckOk S') (k : Nat → CND) (hkk : ∀ j, k j = cdS S' j)
    (hN : N = wS (DG G) (sI (sI (sR (wI (sI (setSu (wS (DG G) (sR (sR M o 3 (.ref (cd o (!b)))) o 4 (.ref (cd o b))) (ftN (cd o (!b)) k (S' 0 3) σ)) (o + 254) (fun _ => 6) 0) o 8 (nI 0)) (o + 259) 2 (fun _ => -1)) (o + 265) 0 (.ref (cd o (!b)))) (o + 265) 1 (-1)) (o + 265) 11 (nI 0)) (ftN (cd o (!b)) k (S' 0 3) σ)) : offO o M N ∧ ∀ V', rel S' V' → cInv G N o (!b) S' V' tx len (fun _ => 6, 0) (0, hy.2) (fun _ => none) ze sd := by
  have c1 := cd_in o b
  have c2 := cd_in o (!b)
  have c3 := cd_ap o b
  have hu3 : S' 0 3 ≤ 20 := by have := ht.2.1.2.1; omega
  have eR : ∀ a j, ¬ (a = o ∧ (j = 3 ∨ j = 4)) → ¬ (a = o + 265 ∧ j = 0) → N.2.2 a j = M.2.2 a j := fun a j q1 q2 => by
    rw [hN]
    show up2 (up2 (up2 M.2.2 o 3 _) o 4 _) (o + 265) 0 _ a j = _
    rw [up2_ne _ _ q2, up2_ne _ _ (by omega), up2_ne _ _ (by omega)]
  have eR3 : N.2.2 o 3 = .ref (cd o (!b)) := by
    rw [hN]
    show up2 (up2 (up2 M.2.2 o 3 _) o 4 _) (o + 265) 0 _ o 3 = _
    rw [up2_ne _ _ (by omega), up2_ne _ _ (by omega), up2_self]
  have eR4 : N.2.2 o 4 = .ref (cd o b) := by
    rw [hN]
    show up2 (up2 (up2 M.2.2 o 3 _) o 4 _) (o + 265) 0 _ o 4 = _
    rw [up2_ne _ _ (by omega), up2_self]
  have eRn : N.2.2 (o + 265) 0 = .ref (cd o (!b)) := by
    rw [hN]
    exact up2_self _ _ _ _
  have eI : ∀ a j, a ≠ o + 254 → a ≠ o + 254 + 1 → ¬ (a = o ∧ j = 8) → a ≠ o + 259 → ¬ (a = o + 265 ∧ (j = 1 ∨ j = 11)) → N.1 a j = M.1 a j := fun a j q1 q2 q3 q4 q5 => by
    rw [hN]
    show up2 (up2 (wI (sI (setSu (wS (DG G) (sR (sR M o 3 (.ref (cd o (!b)))) o 4 (.ref (cd o b))) (ftN (cd o (!b)) k (S' 0 3) σ)) (o + 254) (fun _ => 6) 0) o 8 (nI 0)) (o + 259) 2 (fun _ => -1)).1 (o + 265) 1 (-1)) (o + 265) 11 (nI 0) a j = _
    rw [up2_ne _ _ (by omega), up2_ne _ _ (by omega), wI_ne _ _ _ _ q4]
    exact (up2_ne _ _ q3).trans (setSu_ne q1 q2)
  have eL : ∀ a j, (∀ i, i < S' 0 3 → a - 1 ≠ cd o (!b) + 5 + 3 * i + 1) → N.2.1 a j = M.2.1 a j := fun a j q => by
    rw [hN]
    exact wS_long hA (wS_long hA rfl (ftN_ne _ q)) (ftN_ne _ q)
  have hAN : hasA G N (ftN (cd o (!b)) k (S' 0 3) σ) := by rw [hN]; exact hasA_w _ _ _
  have e8 : N.1 o 8 = nI 0 := by
    rw [hN]
    show up2 (up2 (wI (sI (setSu (wS (DG G) (sR (sR M o 3 (.ref (cd o (!b)))) o 4 (.ref (cd o b))) (ftN (cd o (!b)) k (S' 0 3) σ)) (o + 254) (fun _ => 6) 0) o 8 (nI 0)) (o + 259) 2 (fun _ => -1)).1 (o + 265) 1 (-1)) (o + 265) 11 (nI 0) o 8 = _
    rw [up2_ne _ _ (by omega), up2_ne _ _ (by omega), wI_ne _ _ _ _ (by omega)]
    exact up2_self _ _ _ _
  have eK : ∀ i, i < 2 → N.1 (o + 259) i = -1 := fun i hi => by
    rw [hN]
    show up2 (up2 (wI (sI (setSu (wS (DG G) (sR (sR M o 3 (.ref (cd o (!b)))) o 4 (.ref (cd o b))) (ftN (cd o (!b)) k (S' 0 3) σ)) (o + 254) (fun _ => 6) 0) o 8 (nI 0)) (o + 259) 2 (fun _ => -1)).1 (o + 265) 1 (-1)) (o + 265) 11 (nI 0) (o + 259) i = _
    rw [up2_ne _ _ (by omega), up2_ne _ _ (by omega), wI_at, if_pos hi]
  have e1 : N.1 (o + 265) 1 = -1 := by
    rw [hN]
    exact (up2_ne _ _ (by omega)).trans (up2_self _ _ _ _)
  have e11 : N.1 (o + 265) 11 = nI 0 := by
    rw [hN]
    exact up2_self _ _ _ _
  have eS : suIs N (o + 254) (fun _ => 6) 0 := by
    have q := suIs_set (wS (DG G) (sR (sR M o 3 (.ref (cd o (!b)))) o 4 (.ref (cd o b))) (ftN (cd o (!b)) k (S' 0 3) σ)) (o + 254) (fun _ => 6) 0
    have e : ∀ a j, a = o + 254 ∨ a = o + 254 + 1 → N.1 a j = (setSu (wS (DG G) (sR (sR M o 3 (.ref (cd o (!b)))) o 4 (.ref (cd o b))) (ftN (cd o (!b)) k (S' 0 3) σ)) (o + 254) (fun _ => 6) 0).1 a j := fun a j q => by
      rw [hN]
      show up2 (up2 (wI (sI (setSu (wS (DG G) (sR (sR M o 3 (.ref (cd o (!b)))) o 4 (.ref (cd o b))) (ftN (cd o (!b)) k (S' 0 3) σ)) (o + 254) (fun _ => 6) 0) o 8 (nI 0)) (o + 259) 2 (fun _ => -1)).1 (o + 265) 1 (-1)) (o + 265) 11 (nI 0) a j = _
      rw [up2_ne _ _ (by omega), up2_ne _ _ (by omega), wI_ne _ _ _ _ (by omega)]
      exact up2_ne _ _ (by omega)
    exact ⟨(e _ _ (Or.inr rfl)).trans q.1, (e _ _ (Or.inr rfl)).trans q.2.1, (e _ _ (Or.inr rfl)).trans q.2.2.1, (e _ _ (Or.inl rfl)).trans q.2.2.2⟩
  clear hN
  have fb : ∀ {a : Nat}, ¬ (cd o (!b) ≤ a ∧ a < cd o (!b) + 125) → ∀ i, i < S' 0 3 → a ≠ cd o (!b) + 5 + 3 * i + 1 := fun q i hi z => by omega
  obtain ⟨⟨h1, h2, h3, ⟨h4, h5⟩, h6, h7, h8, h9, h10⟩, h11⟩ := h
  have dc : codeF G N.2.2 (cd o (!b)) := codeF_e (lg_draft h1).2 (fun a j _ _ => eR _ _ (by omega) (by omega))
  have cc : codeF G N.2.2 (cd o b) := codeF_e (lg_code h1).2 (fun a j _ _ => eR _ _ (by omega) (by omega))
  have hWN : rdW N (o + 2) (cd o (!b)) S' := rdW_cg hW (fun a j _ _ => eI _ _ (by omega) (by omega) (by omega) (by omega) (by omega)) (fun a j _ _ => eI _ _ (by omega) (by omega) (by omega) (by omega) (by omega)) (fun a j _ _ => eR _ _ (by omega) (by omega))
  have hcN : cdW N (cd o b) S := cdW_cg h4 (fun a j _ _ => eI _ _ (by omega) (by omega) (by omega) (by omega) (by omega)) (fun a j _ _ => eR _ _ (by omega) (by omega))
  have hF : lgF G N.2.2 o (!b) := lgF_r h1 eR3 (by rw [Bool.not_not]; exact eR4) cc dc (fun a j q => eR _ _ (by omega) (by omega))
  refine ⟨fun a q => ⟨fun j => eI _ _ (by omega) (by omega) (by omega) (by omega) (by omega), fun j => eL _ _ (fb (by omega)), fun j => eR _ _ (by omega) (by omega)⟩, fun V' hV' => ?_⟩
  have hPR : PR S' V' := ⟨ht, hk, hV'⟩
  have zp : (0 : Nat) < 2 ^ V' 0 26 := Nat.two_pow_pos _
  refine ⟨⟨hF, cTx_cg h2 (eI _ _ (by omega) (by omega) (by omega) (by omega) (by omega)) (fun j => eI _ _ (by omega) (by omega) (by omega) (by omega) (by omega)), ⟨_, (by rw [Bool.not_not]; exact mixT hcN hWN), ?_, fun j hj => ?_⟩, ⟨cdW_of hWN, hPR⟩, ⟨eS, fun _ _ => Nat.le_refl _, zp⟩, ⟨Nat.zero_le _, e8, fun i hi => absurd hi (Nat.not_lt_zero _)⟩, fun i hi => ⟨fun _ => eK i hi, fun s q => by cases q⟩, cSe_cg h9 (eI _ _ (by omega) (by omega) (by omega) (by omega) (by omega)) (fun a j q => eI _ _ (by omega) (by omega) (by omega) (by omega) (by omega)), (eL _ _ (fb (by omega))).trans h10⟩, ⟨(lg_analysis hF).2, dc, cdW_of hWN, eRn, by omega, hPR⟩, _, hAN, fun j hj s hs => ?_, ⟨0, by decide, e11, fun ck hc q => by simp at q⟩, Or.inl e1⟩
  · show (if 200 < 200 then S 200 2 else S' 200 2) < 3
    rw [if_neg (by decide)]; exact ht.2.1.2.2.2.1
  · show (if 65 + j < 200 then S (65 + j) 0 else S' (65 + j) 0) ≤ 10
    rw [if_pos (by omega)]; exact h5.1.2.1.2.2.2.2.2.2.2.2.2.2.1 j hj
  · rw [ftN_at _ hj, hkk]
theorem c_X11_program {Γ : GT} {G : GG} {M : MM} {o : Nat} {b : Bool} {S V : RT} {tx : Nat → Nat} {len : Nat} {su : SU} {hy : HY} {kp : KP} {ze : SE} {sd : Int64} (hI : cInv G M o b S V tx len su hy kp ze sd) {T : RT} (hT : rdW M (o + 2) (cd o (!b)) T) (ht : tbOk T) : Calls Γ q_X11_program [.ref o] G M (rI (fun y M' => ∃ y0, rdQ T tx len y0 ∧ (y0 ≠ -9 → y = -3 ∧ cInv G M' o b S V tx len su hy kp ze sd) ∧ (y0 = -9 → ∃ S', rdI tx (t0T T) len = some S' ∧ y = nI (S' 0 10) ∧ ∀ V', rel S' V' → cInv G M' o (!b) S' V' tx len (fun _ => 6, 0) (0, hy.2) (fun _ => none) ze sd) ∧ offO o M M')) := by
  have hI0 := hI
  obtain ⟨hO, hA⟩ := hI
  have hO0 := hO
  obtain ⟨v22, v23, v24, v25, v26⟩ := cv_ok hO
  have c1 := cd_in o b
  have c2 := cd_in o (!b)
  have l60 := hO.2.1.1
  refine Calls.intro (by decide +kernel) (Nat.le_of_ble_eq_true rfl) (fun z E h hQ => ?_)
  refine x_loc (L' := [some (.ref o), none]) rfl ?_
  refine x_aload_n h dX11_program_0 rfl ?_
  refine x_getR h hO.1.1 f_X11_16 rfl (lg_reader hO.1).1 dX11_program_1 ?_
  refine x_aload_n h dX11_program_4 rfl ?_
  refine x_getR h hO.1.1 f_X11_9 rfl (lg_text hO.1).1 dX11_program_5 ?_
  refine x_aload_n h dX11_program_8 rfl ?_
  refine x_getIv h hO.1.1 f_X11_82 rfl hO.2.1.2.1 dX11_program_9 ?_
  refine x_aload_n h dX11_program_12 rfl ?_
  refine x_getR h hO.1.1 f_X11_27 rfl (lg_draft hO.1).1 dX11_program_13 ?_
  refine x_cVi h ci_X6_read im_X6_read l_X11_86 ⟨Nat.le_of_ble_eq_true rfl, Nat.le_of_ble_eq_true rfl⟩ ⟨rfl, rfl⟩ ⟨Nat.zero_le _, Nat.zero_le _⟩ (c_X6_read (lg_reader hO.1).2 (lg_draft hO.1).2 (by omega) hT ht.1 ht.2 (lg_text hO.1).2 hO.2.1.1 (fun i hi => ⟨(hO.2.1.2.2 i hi).1, by have := (hO.2.1.2.2 i hi).2; omega⟩) (by omega)) rfl rfl rfl rfl (lg_reader hO.1).2.1 (by decide) rfl dX11_program_16 (fun v16 M16 hp16 => ?_)
  have hq := readP_Q hp16
  refine x_bipush h (-9) (by decide) dX11_program_19 ?_
  refine x_icmp_eq h 27 dX11_program_21 (by decide) (fun c21 => ?_) (fun c21 => ?_)
  · rw [c21] at hp16 hq
    obtain ⟨S1, hS1, hr1, hw1⟩ := rd_end ht l60 hp16
    have tab := rdI_tab ht l60 hS1 hw1
    have ckk := rdI_ck ht _ _ l60 hS1
    obtain ⟨hI1, ho1⟩ := cInv_rd hI0 hr1 (tb_rd tab.2.1)
    have hO := hI1.1
    have hW1 := hr1.1
    obtain ⟨-, σ, hAσ, -⟩ := hI1.2
    have hu3 : S1 0 3 ≤ 20 := by have := tab.2.1.2.1; omega
    have hm2 : (sR (sR M16 o 3 (.ref (cd o (!b)))) o 4 (.ref (cd o b))) = wS (DG G) (sR (sR M16 o 3 (.ref (cd o (!b)))) o 4 (.ref (cd o b))) σ := wS_of hAσ
    obtain ⟨hoN, hcN⟩ := cInv_pg hI1 hAσ hW1 tab ckk (cdS S1) (fun _ => rfl) rfl
    refine x_aload_n h dX11_program_27 rfl ?_
    refine x_getR h hO.1.1 f_X11_23 rfl (lg_code hO.1).1 dX11_program_28 ?_
    refine x_astore_n h dX11_program_31 rfl rfl ?_
    dsimp only [List.set]
    refine x_aload_n h dX11_program_32 rfl ?_
    refine x_aload_n h dX11_program_33 rfl ?_
    refine x_getR h hO.1.1 f_X11_27 rfl (lg_draft hO.1).1 dX11_program_34 ?_
    refine x_putR h hO.1.1 f_X11_23 rfl rfl dX11_program_37 ?_
    refine x_aload_n h dX11_program_40 rfl ?_
    refine x_aload_n h dX11_program_41 rfl ?_
    refine x_putR h hO.1.1 f_X11_27 rfl rfl dX11_program_42 ?_
    refine x_mem hm2 ?_
    refine x_aload_n h dX11_program_45 rfl ?_
    refine x_getR h hO.1.1 f_X11_23 rfl ((up2_ne _ _ (by omega)).trans (up2_self _ _ _ _)) dX11_program_46 ?_
    refine x_cVv h ci_X2_findTruths im_X2_findTruths l_X11_90 ⟨Nat.le_of_ble_eq_true rfl, Nat.le_of_ble_eq_true rfl⟩ ⟨rfl, rfl⟩ ⟨Nat.zero_le _, Nat.zero_le _⟩ (c_X2_findTruths (M := sR (sR M16 o 3 (.ref (cd o (!b)))) o 4 (.ref (cd o b))) (codeF_e (lg_draft hO.1).2 (fun a j _ _ => (up2_ne _ _ (by omega)).trans (up2_ne _ _ (by omega)))) (k := cdS S1) (rdW_c hW1 3) hu3 (fun i hi => ⟨cdW_q (cdW_of hW1) (by omega), cdOk_of tab hi⟩) (fun i hi => (DG_S ((lg_draft hO.1).2.2.2.2.2.2.2.1 i hi).2.2.2).2)) rfl rfl rfl rfl (lg_draft hO.1).2.1 (by decide) rfl dX11_program_49 (fun M49 hp49 => ?_)
    subst hp49
    refine x_aload_n h dX11_program_52 rfl ?_
    refine x_getR h hO.1.1 f_X11_33 rfl ((up2_ne _ _ (by omega)).trans ((up2_ne _ _ (by omega)).trans (lg_setup hO.1).1)) dX11_program_53 ?_
    refine x_cVv h ci_X8_reset im_X8_reset l_X11_93 ⟨Nat.le_of_ble_eq_true rfl, Nat.le_of_ble_eq_true rfl⟩ ⟨rfl, rfl⟩ ⟨Nat.zero_le _, Nat.zero_le _⟩ (c_X8_reset (M := wS (DG G) (sR (sR M16 o 3 (.ref (cd o (!b)))) o 4 (.ref (cd o b))) (ftN (cd o (!b)) (cdS S1) (S1 0 3) σ)) (suW_r (lg_setup hO.1).2 (fun j => (up2_ne _ _ (by omega)).trans (up2_ne _ _ (by omega))))) rfl rfl rfl rfl (lg_setup hO.1).2.1 (by decide) rfl dX11_program_56 (fun M56 hp56 => ?_)
    subst hp56
    refine x_aload_n h dX11_program_59 rfl ?_
    refine x_in0 h dX11_program_60 ?_
    refine x_putI h hO.1.1 f_X11_96 rfl rfl dX11_program_61 ?_
    refine x_aload_n h dX11_program_64 rfl ?_
    refine x_cVv h ci_X11_emptySlots im_X11_emptySlots l_X11_79 ⟨Nat.le_of_ble_eq_true rfl, Nat.le_of_ble_eq_true rfl⟩ ⟨rfl, rfl⟩ ⟨Nat.zero_le _, Nat.zero_le _⟩ (c_X11_emptySlots (M := sI (setSu (wS (DG G) (sR (sR M16 o 3 (.ref (cd o (!b)))) o 4 (.ref (cd o b))) (ftN (cd o (!b)) (cdS S1) (S1 0 3) σ)) (o + 254) (fun _ => 6) 0) o 8 (nI 0)) hO.1.1 ((up2_ne _ _ (by omega)).trans ((up2_ne _ _ (by omega)).trans (lg_slots hO.1).1)) (lg_slots hO.1).2) rfl rfl rfl rfl hO.1.1 (by decide) rfl dX11_program_65 (fun M65 hp65 => ?_)
    subst hp65
    refine x_mem (wS_of (D := DG G) (σ := ftN (cd o (!b)) (cdS S1) (S1 0 3) σ) (fun a ha k hk => hasS_wS (D := DG G) (M := sR (sR M16 o 3 (.ref (cd o (!b)))) o 4 (.ref (cd o b))) (σ := ftN (cd o (!b)) (cdS S1) (S1 0 3) σ) ha k hk)) ?_
    refine x_aload_n h dX11_program_68 rfl ?_
    refine x_getR h hO.1.1 f_X11_68 rfl ((up2_ne _ _ (by omega)).trans ((up2_ne _ _ (by omega)).trans (lg_analysis hO.1).1)) dX11_program_69 ?_
    refine x_aload_n h dX11_program_72 rfl ?_
    refine x_getR h hO.1.1 f_X11_23 rfl ((up2_ne _ _ (by omega)).trans (up2_self _ _ _ _)) dX11_program_73 ?_
    refine x_cVv h ci_X0_forget im_X0_forget l_X11_99 ⟨Nat.le_of_ble_eq_true rfl, Nat.le_of_ble_eq_true rfl⟩ ⟨rfl, rfl⟩ ⟨Nat.zero_le _, Nat.zero_le _⟩ (c_X0_forget (D := DG G) (M := wI (sI (setSu (wS (DG G) (sR (sR M16 o 3 (.ref (cd o (!b)))) o 4 (.ref (cd o b))) (ftN (cd o (!b)) (cdS S1) (S1 0 3) σ)) (o + 254) (fun _ => 6) 0) o 8 (nI 0)) (o + 259) 2 (fun _ => -1)) (σ := ftN (cd o (!b)) (cdS S1) (S1 0 3) σ) (c := cd o (!b)) (anW_r (lg_analysis hO.1).2 (fun a j _ _ _ => (up2_ne _ _ (by omega)).trans (up2_ne _ _ (by omega))))) rfl rfl rfl rfl (lg_analysis hO.1).2.1 (by decide) rfl dX11_program_76 (fun M76 hp76 => ?_)
    subst hp76
    refine x_aload_n h dX11_program_79 rfl ?_
    refine x_getR h hO.1.1 f_X11_23 rfl ((up2_ne _ _ (by omega)).trans ((up2_ne _ _ (by omega)).trans (up2_self _ _ _ _))) dX11_program_80 ?_
    refine x_getI h (lg_draft hO.1).2.1 f_X11_102 rfl dX11_program_83 ?_
    refine x_topi (y := nI (S1 0 10)) ?_ ?_
    · show up2 (up2 (wI (sI (setSu (wS (DG G) (sR (sR M16 o 3 (.ref (cd o (!b)))) o 4 (.ref (cd o b))) (ftN (cd o (!b)) (cdS S1) (S1 0 3) σ)) (o + 254) (fun _ => 6) 0) o 8 (nI 0)) (o + 259) 2 (fun _ => -1)).1 (o + 265) 1 (-1)) (o + 265) 11 (nI 0) (cd o (!b)) 10 = _
      rw [up2_ne _ _ (by omega), up2_ne _ _ (by omega), wI_ne _ _ _ _ (by omega)]
      exact (up2_ne _ _ (by omega)).trans ((setSu_ne (by omega) (by omega)).trans (rdW_c hW1 10))
    exact x_iret h hQ rfl dX11_program_86 ⟨rfl, rfl, _, rfl, -9, hq, fun q => absurd rfl q, fun _ => ⟨S1, hS1, rfl, hcN⟩, oO_trans ho1 hoN⟩
  · have hq2 := hq
    obtain ⟨mm, S1, hm, hS1, hr1, hcase⟩ := hp16
    obtain ⟨hI1, ho1⟩ := cInv_rd hI0 hr1 (tb_rd (rdI_okT ht (by omega) hS1))
    refine x_bipush h (-3) (by decide) dX11_program_24 ?_
    exact x_iret h hQ rfl dX11_program_26 ⟨rfl, rfl, _, rfl, _, hq2, fun _ => ⟨rfl, hI1⟩, fun q => absurd q c21, ho1⟩
theorem c_X11_drawn_0 {Γ : GT} {G : GG} {M : MM} {o : Nat} {b : Bool} {S V : RT} {tx : Nat → Nat} {len : Nat} {su : SU} {hy : HY} {kp : KP} {ze : SE} {sd : Int64} (hI : cInv G M o b S V tx len su hy kp ze sd) {x : Int32} (hx : ∀ n, n < 20 → x ≠ nI (n + 1)) : Calls Γ q_X11_drawn [.ref o, .int x] G M (rI (fun y M' => y = -2 ∧ cInv G M' o b S V (tx) (len) (su) (hy) (kp) (ze) (sd) ∧ offO o M M')) := by
  have hI0 := hI
  obtain ⟨hO, hA⟩ := hI
  have hO0 := hO
  obtain ⟨v22, v23, v24, v25, v26⟩ := cv_ok hO
  refine Calls.intro (by decide +kernel) (Nat.le_of_ble_eq_true rfl) (fun z E h hQ => ?_)
  refine x_loc (L' := [some (.ref o), some (.int x), none, none]) rfl ?_
  refine x_iload_n h dX11_drawn_0 rfl ?_
  refine x_in1 h dX11_drawn_1 ?_
  refine x_icmp_lt h 11 dX11_drawn_2 (by decide) (fun c2 => ?_) (fun c2 => ?_)
  · refine x_bipush h (-2) (by decide) dX11_drawn_11 ?_
    exact x_iret h hQ rfl dX11_drawn_13 ⟨rfl, rfl, _, rfl, rfl, hI0, oO_refl o M⟩
  · refine x_iload_n h dX11_drawn_5 rfl ?_
    refine x_bipush h (nI 20) (by decide) dX11_drawn_6 ?_
    refine x_icmp_le h 14 dX11_drawn_8 (by decide) (fun c8 => ?_) (fun c8 => ?_)
    · exact absurd c8 (rng1 hx c2)
    · refine x_bipush h (-2) (by decide) dX11_drawn_11 ?_
      exact x_iret h hQ rfl dX11_drawn_13 ⟨rfl, rfl, _, rfl, rfl, hI0, oO_refl o M⟩
