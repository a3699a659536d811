/-! ===== the law: the class's state under new cells; the script; one step of the law, case by case ===== -/
section LX
variable {G G' : GG} {R R' : Nat → Nat → Value} {f : Nat}
theorem codeF_x (h : codeF G R f) (e : ∀ a, f ≤ a → a < f + 125 → sam G G' R R' a) : codeF G' R' f := by
  obtain ⟨a1, a2, a3, a4, a5, a6, a7, a8, a9, a10, a11⟩ := h
  have e0 := e f (by omega) (by omega)
  exact ⟨e0.1.trans a1, (e0.2 0).trans a2, (e (f + 1) (by omega) (by omega)).1.trans a3, fun i hi => ⟨((e (f + 1) (by omega) (by omega)).2 i).trans (a4 i hi).1, (e _ (by omega) (by omega)).1.trans (a4 i hi).2⟩, (e0.2 2).trans a5, (e (f + 2) (by omega) (by omega)).1.trans a6, fun i hi => ⟨((e (f + 2) (by omega) (by omega)).2 i).trans (a7 i hi).1, (e _ (by omega) (by omega)).1.trans (a7 i hi).2.1, ((e _ (by omega) (by omega)).2 3).trans (a7 i hi).2.2.1, isS_x (a7 i hi).2.2.2 (fun a _ _ => e a (by omega) (by omega))⟩, (e0.2 4).trans a8, (e (f + 3) (by omega) (by omega)).1.trans a9, (e0.2 5).trans a10, (e (f + 4) (by omega) (by omega)).1.trans a11⟩
end LX
theorem lgF_x {G G' : GG} {R R' : Nat → Nat → Value} {o : Nat} {b : Bool} (h : lgF G R o b) (e : ∀ a, o ≤ a → a < o + 435 → sam G G' R R' a) (hD : ∀ a, DG G' a = true → o ≤ a ∧ a < o + 434) : lgF G' R' o b := by
  have c1 := cd_in o b
  have c2 := cd_in o (!b)
  have r0 := (e o (by omega) (by omega)).2
  exact ⟨(e o (by omega) (by omega)).1.trans h.1, ⟨(r0 0).trans (lg_text h).1, (e _ (by omega) (by omega)).1.trans (lg_text h).2⟩, ⟨(r0 2).trans (lg_reader h).1, rdF_x (lg_reader h).2 (fun a _ _ => e a (by omega) (by omega))⟩, ⟨(r0 3).trans (lg_code h).1, codeF_x (lg_code h).2 (fun a _ _ => e a (by omega) (by omega))⟩, ⟨(r0 4).trans (lg_draft h).1, codeF_x (lg_draft h).2 (fun a _ _ => e a (by omega) (by omega))⟩, ⟨(r0 5).trans (lg_setup h).1, suW_x (lg_setup h).2 (fun a _ _ => e a (by omega) (by omega))⟩, ⟨(r0 6).trans (lg_supposed h).1, suW_x (lg_supposed h).2 (fun a _ _ => e a (by omega) (by omega))⟩, ⟨(r0 7).trans (lg_past h).1, (e _ (by omega) (by omega)).1.trans (lg_past h).2⟩, ⟨(r0 9).trans (lg_slots h).1, (e _ (by omega) (by omega)).1.trans (lg_slots h).2⟩, ⟨(r0 10).trans (lg_seenCheck h).1, (e _ (by omega) (by omega)).1.trans (lg_seenCheck h).2⟩, ⟨(r0 11).trans (lg_seenWas h).1, (e _ (by omega) (by omega)).1.trans (lg_seenWas h).2⟩, ⟨(r0 13).trans (lg_lines h).1, (e _ (by omega) (by omega)).1.trans (lg_lines h).2⟩, ⟨(r0 14).trans (lg_agreeing h).1, isS_x (lg_agreeing h).2 (fun a _ _ => e a (by omega) (by omega))⟩, ⟨(r0 15).trans (lg_analysis h).1, anW_x (lg_analysis h).2 (fun a _ _ => e a (by omega) (by omega))⟩, ⟨(r0 16).trans (lg_runner h).1, ruW_x (lg_runner h).2 (fun a _ _ => e a (by omega) (by omega))⟩, hD⟩
theorem cInv_x {G G' : GG} {M N : MM} {o : Nat} {b : Bool} {S V : RT} {tx : Nat → Nat} {len : Nat} {su : SU} {hy : HY} {kp : KP} {ze : SE} {sd : Int64} (h : cInv G M o b S V tx len su hy kp ze sd) (eg : ∀ a, o ≤ a → a < o + 435 → G' a = G a) (em : ∀ a, o ≤ a → a < o + 435 → (∀ j, N.1 a j = M.1 a j) ∧ (∀ j, N.2.1 a j = M.2.1 a j) ∧ ∀ j, N.2.2 a j = M.2.2 a j) (hD : ∀ a, DG G' a = true → o ≤ a ∧ a < o + 434) : cInv G' N o b S V tx len su hy kp ze sd := by
  have e : ∀ a, o ≤ a → a < o + 435 → sam G G' M.2.2 N.2.2 a := fun a h1 h2 => ⟨eg a h1 h2, (em a h1 h2).2.2⟩
  have ei : ∀ a j, o ≤ a → a < o + 435 → N.1 a j = M.1 a j := fun a j h1 h2 => (em a h1 h2).1 j
  have er : ∀ a j, o ≤ a → a < o + 435 → N.2.2 a j = M.2.2 a j := fun a j h1 h2 => (em a h1 h2).2.2 j
  have c1 := cd_in o b
  have c2 := cd_in o (!b)
  obtain ⟨⟨h1, h2, ⟨T, t1, t2⟩, ⟨h4, h5⟩, h6, h7, h8, h9, h10⟩, ⟨s1, s2, s3, s4, s5, s6⟩, σ, a1, a2, ⟨ff, f1, f2, f3⟩, a4⟩ := h
  refine ⟨⟨lgF_x h1 e hD, cTx_cg h2 (ei _ _ (by omega) (by omega)) (fun j => ei _ _ (by omega) (by omega)), ⟨T, rdW_cg t1 (fun a j _ _ => ei _ _ (by omega) (by omega)) (fun a j _ _ => ei _ _ (by omega) (by omega)) (fun a j _ _ => er _ _ (by omega) (by omega)), t2⟩, ⟨cdW_cg h4 (fun a j _ _ => ei _ _ (by omega) (by omega)) (fun a j _ _ => er _ _ (by omega) (by omega)), h5⟩, cSu_cg h6 (fun a j q => ei _ _ (by omega) (by omega)), cHy_cg h7 (ei _ _ (by omega) (by omega)) (fun j => ei _ _ (by omega) (by omega)), cKp_cg h8 (fun j => ei _ _ (by omega) (by omega)), cSe_cg h9 (ei _ _ (by omega) (by omega)) (fun a j q => ei _ _ (by omega) (by omega)), ((em _ (by omega) (by omega)).2.1 0).trans h10⟩, ⟨anW_x s1 (fun a _ _ => e a (by omega) (by omega)), codeF_x s2 (fun a _ _ => e a (by omega) (by omega)), cdW_cg s3 (fun a j _ _ => ei _ _ (by omega) (by omega)) (fun a j _ _ => er _ _ (by omega) (by omega)), (er _ _ (by omega) (by omega)).trans s4, s5, s6⟩, σ, fun a ha k hk => ?_, a2, ⟨ff, f1, (ei _ _ (by omega) (by omega)).trans f2, f3⟩, ?_⟩
  · have q := hD a ha
    rw [(em (a + 1) (by omega) (by omega)).2.1 k]
    refine a1 a ?_ k hk
    have g := eg a q.1 (by omega)
    unfold DG at ha ⊢
    rw [g] at ha
    exact ha
  · rcases a4 with q | ⟨t, q1, q2⟩
    · exact Or.inl ((ei _ _ (by omega) (by omega)).trans q)
    · exact Or.inr ⟨t, q1, knI_mem q2 (fun a j _ _ => ei _ _ (by omega) (by omega))⟩
/-- the law's own method -/
abbrev q_L (nm : String) : MD := (⟨"LoopGuessesLaw", nm, "([I)Z"⟩, cL_law, 4, some .boolean, room_1)
section LR
variable {Γ : GT} {E : CT} {q : MD} {k n : Nat} {G : GG} {z : Nat} {M : MM} {pc : Nat} {L : List (Option Value)} {st : List Value} {b sl : Nat} {xs : Nat → Int32}
theorem x_slen (h : Ok Γ E q) (hX : va_X b sl xs E.1.2.2.1 Γ.2.2.2.1) (d : decode q.2.1 pc = .ok (.arraylength, 1)) (kk : X Γ E k n G z M (pc + 1) L (.int (nI sl) :: st)) : X Γ E k n G z M pc L (.ref b :: st) := fun H locs ls hH hF hL => by
  obtain ⟨cell, t1, t2, t3, t4, t5⟩ := hX
  exact W.alen h.1 h.2.1 (by rw [hH.2.2.1 _ (Array.getElem?_eq_some_iff.mp t1).1]; exact t1) t2 (by rw [t4]; rfl) rfl rfl d (kk H locs ls hH hF hL)
theorem x_sget (h : Ok Γ E q) (hX : va_X b sl xs E.1.2.2.1 Γ.2.2.2.1) (h31 : sl ≤ 2048) {i : Nat} (hj : i < sl) (d : decode q.2.1 pc = .ok (.iaload, 1)) (kk : X Γ E k n G z M (pc + 1) L (.int (xs i) :: st)) : X Γ E k n G z M pc L (.int (nI i) :: .ref b :: st) := fun H locs ls hH hF hL => by
  obtain ⟨cell, t1, t2, t3, t4, t5⟩ := hX
  have hi := ix.ni (n := sl) hj (by omega)
  refine W.iald h.1 h.2.1 (by rw [hH.2.2.1 _ (Array.getElem?_eq_some_iff.mp t1).1]; exact t1) t2 t3 ?_ (v := .int (xs i)) ?_ rfl rfl d (kk H locs ls hH hF hL)
  · rw [hi.2.1, t4]
    rintro (q | q)
    · exact hi.1 q
    · omega
  · rw [hi.2.1]; exact t5 i hj
end LR
section LC
variable {Γ : GT} {E : CT} {nm : String} {k n : Nat} {G : GG} {z : Nat} {M : MM} {b sl : Nat} {xs : Nat → Int32} {o m j : Nat}
theorem lc_write (h : Ok Γ E (q_L nm)) (hX : va_X b sl xs E.1.2.2.1 Γ.2.2.2.1) (h31 : sl ≤ 2048) (hj : 4 * j + 4 ≤ sl) (hk : k ≤ 600000 ∧ n ≤ 7302250) (hB : bothI G M o m) (go : G o = some (.inl 11)) (gm : G m = some (.inl 12)) (nx : ∀ M2 : MM, bothI G M2 o m → X Γ E k n G z M2 792 [some (.ref b), some (.ref o), some (.ref m), some (.int (nI (4 * j)))] []) : X Γ E k n G z M 140 [some (.ref b), some (.ref o), some (.ref m), some (.int (nI (4 * j)))] [] := by
  obtain ⟨P, p1, p2⟩ := pi_write (Γ := Γ) hB (xs (4 * j + 1))
  refine x_aload_n h dL_law_140 rfl ?_
  refine x_aload_n h dL_law_141 rfl ?_
  refine x_iload_n h dL_law_142 rfl ?_
  refine x_in1 h dL_law_143 ?_
  refine x_iaddn h dL_law_144 ?_
  refine x_sget h hX h31 (by omega) dL_law_145 ?_
  refine x_cVi h ci_X11_write im_X11_write l_L_13 ⟨Nat.le_of_ble_eq_true rfl, Nat.le_of_ble_eq_true rfl⟩ ⟨rfl, rfl⟩ hk p1 rfl rfl rfl rfl go (by decide) rfl dL_law_146 (fun y M1 hy => ?_)
  refine x_aload_n h dL_law_149 rfl ?_
  refine x_aload_n h dL_law_150 rfl ?_
  refine x_iload_n h dL_law_151 rfl ?_
  refine x_in1 h dL_law_152 ?_
  refine x_iaddn h dL_law_153 ?_
  refine x_sget h hX h31 (by omega) dL_law_154 ?_
  refine x_cVi h ci_X12_write im_X12_write l_L_17 ⟨Nat.le_of_ble_eq_true rfl, Nat.le_of_ble_eq_true rfl⟩ ⟨rfl, rfl⟩ hk (p2 y M1 hy) rfl rfl rfl rfl gm (by decide) rfl dL_law_155 (fun y' M2 hy' => ?_)
  exact x_icmp_eq h 792 dL_law_158 (by decide) (fun _ => nx M2 hy'.2) (fun q => absurd hy'.1.symm q)
theorem lc_wipe (h : Ok Γ E (q_L nm)) (hX : va_X b sl xs E.1.2.2.1 Γ.2.2.2.1) (h31 : sl ≤ 2048) (hj : 4 * j + 4 ≤ sl) (hk : k ≤ 600000 ∧ n ≤ 7302250) (hB : bothI G M o m) (go : G o = some (.inl 11)) (gm : G m = some (.inl 12)) (nx : ∀ M2 : MM, bothI G M2 o m → X Γ E k n G z M2 792 [some (.ref b), some (.ref o), some (.ref m), some (.int (nI (4 * j)))] []) : X Γ E k n G z M 163 [some (.ref b), some (.ref o), some (.ref m), some (.int (nI (4 * j)))] [] := by
  obtain ⟨P, p1, p2⟩ := pi_wipe (Γ := Γ) hB 
  refine x_aload_n h dL_law_163 rfl ?_
  refine x_cVi h ci_X11_wipe im_X11_wipe l_L_18 ⟨Nat.le_of_ble_eq_true rfl, Nat.le_of_ble_eq_true rfl⟩ ⟨rfl, rfl⟩ hk p1 rfl rfl rfl rfl go (by decide) rfl dL_law_164 (fun y M1 hy => ?_)
  refine x_aload_n h dL_law_167 rfl ?_
  refine x_cVi h ci_X12_wipe im_X12_wipe l_L_22 ⟨Nat.le_of_ble_eq_true rfl, Nat.le_of_ble_eq_true rfl⟩ ⟨rfl, rfl⟩ hk (p2 y M1 hy) rfl rfl rfl rfl gm (by decide) rfl dL_law_168 (fun y' M2 hy' => ?_)
  exact x_icmp_eq h 792 dL_law_171 (by decide) (fun _ => nx M2 hy'.2) (fun q => absurd hy'.1.symm q)
theorem lc_fault (h : Ok Γ E (q_L nm)) (hX : va_X b sl xs E.1.2.2.1 Γ.2.2.2.1) (h31 : sl ≤ 2048) (hj : 4 * j + 4 ≤ sl) (hk : k ≤ 600000 ∧ n ≤ 7302250) (hB : bothI G M o m) (go : G o = some (.inl 11)) (gm : G m = some (.inl 12)) (nx : ∀ M2 : MM, bothI G M2 o m → X Γ E k n G z M2 792 [some (.ref b), some (.ref o), some (.ref m), some (.int (nI (4 * j)))] []) : X Γ E k n G z M 176 [some (.ref b), some (.ref o), some (.ref m), some (.int (nI (4 * j)))] [] := by
  obtain ⟨P, p1, p2⟩ := pi_fault (Γ := Γ) hB 
  refine x_aload_n h dL_law_176 rfl ?_
  refine x_cVi h ci_X11_fault im_X11_fault l_L_23 ⟨Nat.le_of_ble_eq_true rfl, Nat.le_of_ble_eq_true rfl⟩ ⟨rfl, rfl⟩ hk p1 rfl rfl rfl rfl go (by decide) rfl dL_law_177 (fun y M1 hy => ?_)
  refine x_aload_n h dL_law_180 rfl ?_
  refine x_cVi h ci_X12_fault im_X12_fault l_L_26 ⟨Nat.le_of_ble_eq_true rfl, Nat.le_of_ble_eq_true rfl⟩ ⟨rfl, rfl⟩ hk (p2 y M1 hy) rfl rfl rfl rfl gm (by decide) rfl dL_law_181 (fun y' M2 hy' => ?_)
  exact x_icmp_eq h 792 dL_law_184 (by decide) (fun _ => nx M2 hy'.2) (fun q => absurd hy'.1.symm q)
theorem lc_program (h : Ok Γ E (q_L nm)) (hX : va_X b sl xs E.1.2.2.1 Γ.2.2.2.1) (h31 : sl ≤ 2048) (hj : 4 * j + 4 ≤ sl) (hk : k ≤ 600000 ∧ n ≤ 7302250) (hB : bothI G M o m) (go : G o = some (.inl 11)) (gm : G m = some (.inl 12)) (nx : ∀ M2 : MM, bothI G M2 o m → X Γ E k n G z M2 792 [some (.ref b), some (.ref o), some (.ref m), some (.int (nI (4 * j)))] []) : X Γ E k n G z M 189 [some (.ref b), some (.ref o), some (.ref m), some (.int (nI (4 * j)))] [] := by
  obtain ⟨P, p1, p2⟩ := pi_program (Γ := Γ) hB 
  refine x_aload_n h dL_law_189 rfl ?_
  refine x_cVi h ci_X11_program im_X11_program l_L_27 ⟨Nat.le_of_ble_eq_true rfl, Nat.le_of_ble_eq_true rfl⟩ ⟨rfl, rfl⟩ hk p1 rfl rfl rfl rfl go (by decide) rfl dL_law_190 (fun y M1 hy => ?_)
  refine x_aload_n h dL_law_193 rfl ?_
  refine x_cVi h ci_X12_program im_X12_program l_L_30 ⟨Nat.le_of_ble_eq_true rfl, Nat.le_of_ble_eq_true rfl⟩ ⟨rfl, rfl⟩ hk (p2 y M1 hy) rfl rfl rfl rfl gm (by decide) rfl dL_law_194 (fun y' M2 hy' => ?_)
  exact x_icmp_eq h 792 dL_law_197 (by decide) (fun _ => nx M2 hy'.2) (fun q => absurd hy'.1.symm q)
theorem lc_about (h : Ok Γ E (q_L nm)) (hX : va_X b sl xs E.1.2.2.1 Γ.2.2.2.1) (h31 : sl ≤ 2048) (hj : 4 * j + 4 ≤ sl) (hk : k ≤ 600000 ∧ n ≤ 7302250) (hB : bothI G M o m) (go : G o = some (.inl 11)) (gm : G m = some (.inl 12)) (nx : ∀ M2 : MM, bothI G M2 o m → X Γ E k n G z M2 792 [some (.ref b), some (.ref o), some (.ref m), some (.int (nI (4 * j)))] []) : X Γ E k n G z M 202 [some (.ref b), some (.ref o), some (.ref m), some (.int (nI (4 * j)))] [] := by
  obtain ⟨P, p1, p2⟩ := pi_about (Γ := Γ) hB (xs (4 * j + 1))
  refine x_aload_n h dL_law_202 rfl ?_
  refine x_aload_n h dL_law_203 rfl ?_
  refine x_iload_n h dL_law_204 rfl ?_
  refine x_in1 h dL_law_205 ?_
  refine x_iaddn h dL_law_206 ?_
  refine x_sget h hX h31 (by omega) dL_law_207 ?_
  refine x_cVi h ci_X11_about im_X11_about l_L_31 ⟨Nat.le_of_ble_eq_true rfl, Nat.le_of_ble_eq_true rfl⟩ ⟨rfl, rfl⟩ hk p1 rfl rfl rfl rfl go (by decide) rfl dL_law_208 (fun y M1 hy => ?_)
  refine x_aload_n h dL_law_211 rfl ?_
  refine x_aload_n h dL_law_212 rfl ?_
  refine x_iload_n h dL_law_213 rfl ?_
  refine x_in1 h dL_law_214 ?_
  refine x_iaddn h dL_law_215 ?_
  refine x_sget h hX h31 (by omega) dL_law_216 ?_
  refine x_cVi h ci_X12_about im_X12_about l_L_34 ⟨Nat.le_of_ble_eq_true rfl, Nat.le_of_ble_eq_true rfl⟩ ⟨rfl, rfl⟩ hk (p2 y M1 hy) rfl rfl rfl rfl gm (by decide) rfl dL_law_217 (fun y' M2 hy' => ?_)
  exact x_icmp_eq h 792 dL_law_220 (by decide) (fun _ => nx M2 hy'.2) (fun q => absurd hy'.1.symm q)
theorem lc_loop (h : Ok Γ E (q_L nm)) (hX : va_X b sl xs E.1.2.2.1 Γ.2.2.2.1) (h31 : sl ≤ 2048) (hj : 4 * j + 4 ≤ sl) (hk : k ≤ 600000 ∧ n ≤ 7302250) (hB : bothI G M o m) (go : G o = some (.inl 11)) (gm : G m = some (.inl 12)) (nx : ∀ M2 : MM, bothI G M2 o m → X Γ E k n G z M2 792 [some (.ref b), some (.ref o), some (.ref m), some (.int (nI (4 * j)))] []) : X Γ E k n G z M 225 [some (.ref b), some (.ref o), some (.ref m), some (.int (nI (4 * j)))] [] := by
  obtain ⟨P, p1, p2⟩ := pi_loop (Γ := Γ) hB (xs (4 * j + 1)) (xs (4 * j + 2))
  refine x_aload_n h dL_law_225 rfl ?_
  refine x_aload_n h dL_law_226 rfl ?_
  refine x_iload_n h dL_law_227 rfl ?_
  refine x_in1 h dL_law_228 ?_
  refine x_iaddn h dL_law_229 ?_
  refine x_sget h hX h31 (by omega) dL_law_230 ?_
  refine x_aload_n h dL_law_231 rfl ?_
  refine x_iload_n h dL_law_232 rfl ?_
  refine x_in2 h dL_law_233 ?_
  refine x_iaddn h dL_law_234 ?_
  refine x_sget h hX h31 (by omega) dL_law_235 ?_
  refine x_cVi h ci_X11_loop im_X11_loop l_L_35 ⟨Nat.le_of_ble_eq_true rfl, Nat.le_of_ble_eq_true rfl⟩ ⟨rfl, rfl⟩ hk p1 rfl rfl rfl rfl go (by decide) rfl dL_law_236 (fun y M1 hy => ?_)
  refine x_aload_n h dL_law_239 rfl ?_
  refine x_aload_n h dL_law_240 rfl ?_
  refine x_iload_n h dL_law_241 rfl ?_
  refine x_in1 h dL_law_242 ?_
  refine x_iaddn h dL_law_243 ?_
  refine x_sget h hX h31 (by omega) dL_law_244 ?_
  refine x_aload_n h dL_law_245 rfl ?_
  refine x_iload_n h dL_law_246 rfl ?_
  refine x_in2 h dL_law_247 ?_
  refine x_iaddn h dL_law_248 ?_
  refine x_sget h hX h31 (by omega) dL_law_249 ?_
  refine x_cVi h ci_X12_loop im_X12_loop l_L_39 ⟨Nat.le_of_ble_eq_true rfl, Nat.le_of_ble_eq_true rfl⟩ ⟨rfl, rfl⟩ hk (p2 y M1 hy) rfl rfl rfl rfl gm (by decide) rfl dL_law_250 (fun y' M2 hy' => ?_)
  exact x_icmp_eq h 792 dL_law_253 (by decide) (fun _ => nx M2 hy'.2) (fun q => absurd hy'.1.symm q)
theorem lc_check (h : Ok Γ E (q_L nm)) (hX : va_X b sl xs E.1.2.2.1 Γ.2.2.2.1) (h31 : sl ≤ 2048) (hj : 4 * j + 4 ≤ sl) (hk : k ≤ 600000 ∧ n ≤ 7302250) (hB : bothI G M o m) (go : G o = some (.inl 11)) (gm : G m = some (.inl 12)) (nx : ∀ M2 : MM, bothI G M2 o m → X Γ E k n G z M2 792 [some (.ref b), some (.ref o), some (.ref m), some (.int (nI (4 * j)))] []) : X Γ E k n G z M 258 [some (.ref b), some (.ref o), some (.ref m), some (.int (nI (4 * j)))] [] := by
  obtain ⟨P, p1, p2⟩ := pi_check (Γ := Γ) hB (xs (4 * j + 1)) (xs (4 * j + 2))
  refine x_aload_n h dL_law_258 rfl ?_
  refine x_aload_n h dL_law_259 rfl ?_
  refine x_iload_n h dL_law_260 rfl ?_
  refine x_in1 h dL_law_261 ?_
  refine x_iaddn h dL_law_262 ?_
  refine x_sget h hX h31 (by omega) dL_law_263 ?_
  refine x_aload_n h dL_law_264 rfl ?_
  refine x_iload_n h dL_law_265 rfl ?_
  refine x_in2 h dL_law_266 ?_
  refine x_iaddn h dL_law_267 ?_
  refine x_sget h hX h31 (by omega) dL_law_268 ?_
  refine x_cVi h ci_X11_check im_X11_check l_L_40 ⟨Nat.le_of_ble_eq_true rfl, Nat.le_of_ble_eq_true rfl⟩ ⟨rfl, rfl⟩ hk p1 rfl rfl rfl rfl go (by decide) rfl dL_law_269 (fun y M1 hy => ?_)
  refine x_aload_n h dL_law_272 rfl ?_
  refine x_aload_n h dL_law_273 rfl ?_
  refine x_iload_n h dL_law_274 rfl ?_
  refine x_in1 h dL_law_275 ?_
  refine x_iaddn h dL_law_276 ?_
  refine x_sget h hX h31 (by omega) dL_law_277 ?_
  refine x_aload_n h dL_law_278 rfl ?_
  refine x_iload_n h dL_law_279 rfl ?_
  refine x_in2 h dL_law_280 ?_
  refine x_iaddn h dL_law_281 ?_
  refine x_sget h hX h31 (by omega) dL_law_282 ?_
  refine x_cVi h ci_X12_check im_X12_check l_L_43 ⟨Nat.le_of_ble_eq_true rfl, Nat.le_of_ble_eq_true rfl⟩ ⟨rfl, rfl⟩ hk (p2 y M1 hy) rfl rfl rfl rfl gm (by decide) rfl dL_law_283 (fun y' M2 hy' => ?_)
  exact x_icmp_eq h 792 dL_law_286 (by decide) (fun _ => nx M2 hy'.2) (fun q => absurd hy'.1.symm q)
theorem lc_start (h : Ok Γ E (q_L nm)) (hX : va_X b sl xs E.1.2.2.1 Γ.2.2.2.1) (h31 : sl ≤ 2048) (hj : 4 * j + 4 ≤ sl) (hk : k ≤ 600000 ∧ n ≤ 7302250) (hB : bothI G M o m) (go : G o = some (.inl 11)) (gm : G m = some (.inl 12)) (nx : ∀ M2 : MM, bothI G M2 o m → X Γ E k n G z M2 792 [some (.ref b), some (.ref o), some (.ref m), some (.int (nI (4 * j)))] []) : X Γ E k n G z M 291 [some (.ref b), some (.ref o), some (.ref m), some (.int (nI (4 * j)))] [] := by
  obtain ⟨P, p1, p2⟩ := pi_start (Γ := Γ) hB (xs (4 * j + 1))
  refine x_aload_n h dL_law_291 rfl ?_
  refine x_aload_n h dL_law_292 rfl ?_
  refine x_iload_n h dL_law_293 rfl ?_
  refine x_in1 h dL_law_294 ?_
  refine x_iaddn h dL_law_295 ?_
  refine x_sget h hX h31 (by omega) dL_law_296 ?_
  refine x_cVi h ci_X11_start im_X11_start l_L_44 ⟨Nat.le_of_ble_eq_true rfl, Nat.le_of_ble_eq_true rfl⟩ ⟨rfl, rfl⟩ hk p1 rfl rfl rfl rfl go (by decide) rfl dL_law_297 (fun y M1 hy => ?_)
  refine x_aload_n h dL_law_300 rfl ?_
  refine x_aload_n h dL_law_301 rfl ?_
  refine x_iload_n h dL_law_302 rfl ?_
  refine x_in1 h dL_law_303 ?_
  refine x_iaddn h dL_law_304 ?_
  refine x_sget h hX h31 (by omega) dL_law_305 ?_
  refine x_cVi h ci_X12_start im_X12_start l_L_47 ⟨Nat.le_of_ble_eq_true rfl, Nat.le_of_ble_eq_true rfl⟩ ⟨rfl, rfl⟩ hk (p2 y M1 hy) rfl rfl rfl rfl gm (by decide) rfl dL_law_306 (fun y' M2 hy' => ?_)
  exact x_icmp_eq h 792 dL_law_309 (by decide) (fun _ => nx M2 hy'.2) (fun q => absurd hy'.1.symm q)
theorem lc_begin (h : Ok Γ E (q_L nm)) (hX : va_X b sl xs E.1.2.2.1 Γ.2.2.2.1) (h31 : sl ≤ 2048) (hj : 4 * j + 4 ≤ sl) (hk : k ≤ 600000 ∧ n ≤ 7302250) (hB : bothI G M o m) (go : G o = some (.inl 11)) (gm : G m = some (.inl 12)) (nx : ∀ M2 : MM, bothI G M2 o m → X Γ E k n G z M2 792 [some (.ref b), some (.ref o), some (.ref m), some (.int (nI (4 * j)))] []) : X Γ E k n G z M 314 [some (.ref b), some (.ref o), some (.ref m), some (.int (nI (4 * j)))] [] := by
  obtain ⟨P, p1, p2⟩ := pi_begin (Γ := Γ) hB (xs (4 * j + 1)) (xs (4 * j + 2))
  refine x_aload_n h dL_law_314 rfl ?_
  refine x_aload_n h dL_law_315 rfl ?_
  refine x_iload_n h dL_law_316 rfl ?_
  refine x_in1 h dL_law_317 ?_
  refine x_iaddn h dL_law_318 ?_
  refine x_sget h hX h31 (by omega) dL_law_319 ?_
  refine x_aload_n h dL_law_320 rfl ?_
  refine x_iload_n h dL_law_321 rfl ?_
  refine x_in2 h dL_law_322 ?_
  refine x_iaddn h dL_law_323 ?_
  refine x_sget h hX h31 (by omega) dL_law_324 ?_
  refine x_cVi h ci_X11_begin im_X11_begin l_L_48 ⟨Nat.le_of_ble_eq_true rfl, Nat.le_of_ble_eq_true rfl⟩ ⟨rfl, rfl⟩ hk p1 rfl rfl rfl rfl go (by decide) rfl dL_law_325 (fun y M1 hy => ?_)
  refine x_aload_n h dL_law_328 rfl ?_
  refine x_aload_n h dL_law_329 rfl ?_
  refine x_iload_n h dL_law_330 rfl ?_
  refine x_in1 h dL_law_331 ?_
  refine x_iaddn h dL_law_332 ?_
  refine x_sget h hX h31 (by omega) dL_law_333 ?_
  refine x_aload_n h dL_law_334 rfl ?_
  refine x_iload_n h dL_law_335 rfl ?_
  refine x_in2 h dL_law_336 ?_
  refine x_iaddn h dL_law_337 ?_
  refine x_sget h hX h31 (by omega) dL_law_338 ?_
  refine x_cVi h ci_X12_begin im_X12_begin l_L_51 ⟨Nat.le_of_ble_eq_true rfl, Nat.le_of_ble_eq_true rfl⟩ ⟨rfl, rfl⟩ hk (p2 y M1 hy) rfl rfl rfl rfl gm (by decide) rfl dL_law_339 (fun y' M2 hy' => ?_)
  exact x_icmp_eq h 792 dL_law_342 (by decide) (fun _ => nx M2 hy'.2) (fun q => absurd hy'.1.symm q)
theorem lc_turn (h : Ok Γ E (q_L nm)) (hX : va_X b sl xs E.1.2.2.1 Γ.2.2.2.1) (h31 : sl ≤ 2048) (hj : 4 * j + 4 ≤ sl) (hk : k ≤ 600000 ∧ n ≤ 7302250) (hB : bothI G M o m) (go : G o = some (.inl 11)) (gm : G m = some (.inl 12)) (nx : ∀ M2 : MM, bothI G M2 o m → X Γ E k n G z M2 792 [some (.ref b), some (.ref o), some (.ref m), some (.int (nI (4 * j)))] []) : X Γ E k n G z M 347 [some (.ref b), some (.ref o), some (.ref m), some (.int (nI (4 * j)))] [] := by
  obtain ⟨P, p1, p2⟩ := pi_turn (Γ := Γ) hB (xs (4 * j + 1))
  refine x_aload_n h dL_law_347 rfl ?_
  refine x_aload_n h dL_law_348 rfl ?_
  refine x_iload_n h dL_law_349 rfl ?_
  refine x_in1 h dL_law_350 ?_
  refine x_iaddn h dL_law_351 ?_
  refine x_sget h hX h31 (by omega) dL_law_352 ?_
  refine x_cVi h ci_X11_turn im_X11_turn l_L_52 ⟨Nat.le_of_ble_eq_true rfl, Nat.le_of_ble_eq_true rfl⟩ ⟨rfl, rfl⟩ hk p1 rfl rfl rfl rfl go (by decide) rfl dL_law_353 (fun y M1 hy => ?_)
  refine x_aload_n h dL_law_356 rfl ?_
  refine x_aload_n h dL_law_357 rfl ?_
  refine x_iload_n h dL_law_358 rfl ?_
  refine x_in1 h dL_law_359 ?_
  refine x_iaddn h dL_law_360 ?_
  refine x_sget h hX h31 (by omega) dL_law_361 ?_
  refine x_cVi h ci_X12_turn im_X12_turn l_L_55 ⟨Nat.le_of_ble_eq_true rfl, Nat.le_of_ble_eq_true rfl⟩ ⟨rfl, rfl⟩ hk (p2 y M1 hy) rfl rfl rfl rfl gm (by decide) rfl dL_law_362 (fun y' M2 hy' => ?_)
  exact x_icmp_eq h 792 dL_law_365 (by decide) (fun _ => nx M2 hy'.2) (fun q => absurd hy'.1.symm q)
theorem lc_undo (h : Ok Γ E (q_L nm)) (hX : va_X b sl xs E.1.2.2.1 Γ.2.2.2.1) (h31 : sl ≤ 2048) (hj : 4 * j + 4 ≤ sl) (hk : k ≤ 600000 ∧ n ≤ 7302250) (hB : bothI G M o m) (go : G o = some (.inl 11)) (gm : G m = some (.inl 12)) (nx : ∀ M2 : MM, bothI G M2 o m → X Γ E k n G z M2 792 [some (.ref b), some (.ref o), some (.ref m), some (.int (nI (4 * j)))] []) : X Γ E k n G z M 370 [some (.ref b), some (.ref o), some (.ref m), some (.int (nI (4 * j)))] [] := by
  obtain ⟨P, p1, p2⟩ := pi_undo (Γ := Γ) hB 
  refine x_aload_n h dL_law_370 rfl ?_
  refine x_cVi h ci_X11_undo im_X11_undo l_L_56 ⟨Nat.le_of_ble_eq_true rfl, Nat.le_of_ble_eq_true rfl⟩ ⟨rfl, rfl⟩ hk p1 rfl rfl rfl rfl go (by decide) rfl dL_law_371 (fun y M1 hy => ?_)
  refine x_aload_n h dL_law_374 rfl ?_
  refine x_cVi h ci_X12_undo im_X12_undo l_L_59 ⟨Nat.le_of_ble_eq_true rfl, Nat.le_of_ble_eq_true rfl⟩ ⟨rfl, rfl⟩ hk (p2 y M1 hy) rfl rfl rfl rfl gm (by decide) rfl dL_law_375 (fun y' M2 hy' => ?_)
  exact x_icmp_eq h 792 dL_law_378 (by decide) (fun _ => nx M2 hy'.2) (fun q => absurd hy'.1.symm q)
theorem lc_falls (h : Ok Γ E (q_L nm)) (hX : va_X b sl xs E.1.2.2.1 Γ.2.2.2.1) (h31 : sl ≤ 2048) (hj : 4 * j + 4 ≤ sl) (hk : k ≤ 600000 ∧ n ≤ 7302250) (hB : bothI G M o m) (go : G o = some (.inl 11)) (gm : G m = some (.inl 12)) (nx : ∀ M2 : MM, bothI G M2 o m → X Γ E k n G z M2 792 [some (.ref b), some (.ref o), some (.ref m), some (.int (nI (4 * j)))] []) : X Γ E k n G z M 383 [some (.ref b), some (.ref o), some (.ref m), some (.int (nI (4 * j)))] [] := by
  obtain ⟨P, p1, p2⟩ := pi_falls (Γ := Γ) hB (xs (4 * j + 1)) (xs (4 * j + 2))
  refine x_aload_n h dL_law_383 rfl ?_
  refine x_aload_n h dL_law_384 rfl ?_
  refine x_iload_n h dL_law_385 rfl ?_
  refine x_in1 h dL_law_386 ?_
  refine x_iaddn h dL_law_387 ?_
  refine x_sget h hX h31 (by omega) dL_law_388 ?_
  refine x_aload_n h dL_law_389 rfl ?_
  refine x_iload_n h dL_law_390 rfl ?_
  refine x_in2 h dL_law_391 ?_
  refine x_iaddn h dL_law_392 ?_
  refine x_sget h hX h31 (by omega) dL_law_393 ?_
  refine x_cVi h ci_X11_falls im_X11_falls l_L_60 ⟨Nat.le_of_ble_eq_true rfl, Nat.le_of_ble_eq_true rfl⟩ ⟨rfl, rfl⟩ hk p1 rfl rfl rfl rfl go (by decide) rfl dL_law_394 (fun y M1 hy => ?_)
  refine x_aload_n h dL_law_397 rfl ?_
  refine x_aload_n h dL_law_398 rfl ?_
  refine x_iload_n h dL_law_399 rfl ?_
  refine x_in1 h dL_law_400 ?_
  refine x_iaddn h dL_law_401 ?_
  refine x_sget h hX h31 (by omega) dL_law_402 ?_
  refine x_aload_n h dL_law_403 rfl ?_
  refine x_iload_n h dL_law_404 rfl ?_
  refine x_in2 h dL_law_405 ?_
  refine x_iaddn h dL_law_406 ?_
  refine x_sget h hX h31 (by omega) dL_law_407 ?_
  refine x_cVi h ci_X12_falls im_X12_falls l_L_63 ⟨Nat.le_of_ble_eq_true rfl, Nat.le_of_ble_eq_true rfl⟩ ⟨rfl, rfl⟩ hk (p2 y M1 hy) rfl rfl rfl rfl gm (by decide) rfl dL_law_408 (fun y' M2 hy' => ?_)
  exact x_icmp_eq h 792 dL_law_411 (by decide) (fun _ => nx M2 hy'.2) (fun q => absurd hy'.1.symm q)
theorem lc_fewest (h : Ok Γ E (q_L nm)) (hX : va_X b sl xs E.1.2.2.1 Γ.2.2.2.1) (h31 : sl ≤ 2048) (hj : 4 * j + 4 ≤ sl) (hk : k ≤ 600000 ∧ n ≤ 7302250) (hB : bothI G M o m) (go : G o = some (.inl 11)) (gm : G m = some (.inl 12)) (nx : ∀ M2 : MM, bothI G M2 o m → X Γ E k n G z M2 792 [some (.ref b), some (.ref o), some (.ref m), some (.int (nI (4 * j)))] []) : X Γ E k n G z M 416 [some (.ref b), some (.ref o), some (.ref m), some (.int (nI (4 * j)))] [] := by
  obtain ⟨P, p1, p2⟩ := pi_fewest (Γ := Γ) hB (xs (4 * j + 1))
  refine x_aload_n h dL_law_416 rfl ?_
  refine x_aload_n h dL_law_417 rfl ?_
  refine x_iload_n h dL_law_418 rfl ?_
  refine x_in1 h dL_law_419 ?_
  refine x_iaddn h dL_law_420 ?_
  refine x_sget h hX h31 (by omega) dL_law_421 ?_
  refine x_cVi h ci_X11_fewest im_X11_fewest l_L_64 ⟨Nat.le_of_ble_eq_true rfl, Nat.le_of_ble_eq_true rfl⟩ ⟨rfl, rfl⟩ hk p1 rfl rfl rfl rfl go (by decide) rfl dL_law_422 (fun y M1 hy => ?_)
  refine x_aload_n h dL_law_425 rfl ?_
  refine x_aload_n h dL_law_426 rfl ?_
  refine x_iload_n h dL_law_427 rfl ?_
  refine x_in1 h dL_law_428 ?_
  refine x_iaddn h dL_law_429 ?_
  refine x_sget h hX h31 (by omega) dL_law_430 ?_
  refine x_cVi h ci_X12_fewest im_X12_fewest l_L_67 ⟨Nat.le_of_ble_eq_true rfl, Nat.le_of_ble_eq_true rfl⟩ ⟨rfl, rfl⟩ hk (p2 y M1 hy) rfl rfl rfl rfl gm (by decide) rfl dL_law_431 (fun y' M2 hy' => ?_)
  exact x_icmp_eq h 792 dL_law_434 (by decide) (fun _ => nx M2 hy'.2) (fun q => absurd hy'.1.symm q)
theorem lc_judge (h : Ok Γ E (q_L nm)) (hX : va_X b sl xs E.1.2.2.1 Γ.2.2.2.1) (h31 : sl ≤ 2048) (hj : 4 * j + 4 ≤ sl) (hk : k ≤ 600000 ∧ n ≤ 7302250) (hB : bothI G M o m) (go : G o = some (.inl 11)) (gm : G m = some (.inl 12)) (nx : ∀ M2 : MM, bothI G M2 o m → X Γ E k n G z M2 792 [some (.ref b), some (.ref o), some (.ref m), some (.int (nI (4 * j)))] []) : X Γ E k n G z M 439 [some (.ref b), some (.ref o), some (.ref m), some (.int (nI (4 * j)))] [] := by
  obtain ⟨P, p1, p2⟩ := pi_judge (Γ := Γ) hB (xs (4 * j + 1)) ((xs (4 * j + 2)).toInt64 <<< ((nI 32).toInt64 &&& 63) ||| ((xs (4 * j + 3)).toInt64 &&& 4294967295))
  refine x_aload_n h dL_law_439 rfl ?_
  refine x_aload_n h dL_law_440 rfl ?_
  refine x_iload_n h dL_law_441 rfl ?_
  refine x_in1 h dL_law_442 ?_
  refine x_iaddn h dL_law_443 ?_
  refine x_sget h hX h31 (by omega) dL_law_444 ?_
  refine x_aload_n h dL_law_445 rfl ?_
  refine x_iload_n h dL_law_446 rfl ?_
  refine x_in2 h dL_law_447 ?_
  refine x_iaddn h dL_law_448 ?_
  refine x_sget h hX h31 (by omega) dL_law_449 ?_
  refine x_i2l h dL_law_450 ?_
  refine x_bipush h (nI 32) (by decide) dL_law_451 ?_
  refine x_lshl h dL_law_453 ?_
  refine x_aload_n h dL_law_454 rfl ?_
  refine x_iload_n h dL_law_455 rfl ?_
  refine x_in3 h dL_law_456 ?_
  refine x_iaddn h dL_law_457 ?_
  refine x_sget h hX h31 (by omega) dL_law_458 ?_
  refine x_i2l h dL_law_459 ?_
  refine x_ldc2 h kl_L_68 dL_law_460 ?_
  refine x_land h dL_law_463 ?_
  refine x_lor h dL_law_464 ?_
  refine x_cVi h ci_X11_judge im_X11_judge l_L_70 ⟨Nat.le_of_ble_eq_true rfl, Nat.le_of_ble_eq_true rfl⟩ ⟨rfl, rfl⟩ hk p1 rfl rfl rfl rfl go (by decide) rfl dL_law_465 (fun y M1 hy => ?_)
  refine x_aload_n h dL_law_468 rfl ?_
  refine x_aload_n h dL_law_469 rfl ?_
  refine x_iload_n h dL_law_470 rfl ?_
  refine x_in1 h dL_law_471 ?_
  refine x_iaddn h dL_law_472 ?_
  refine x_sget h hX h31 (by omega) dL_law_473 ?_
  refine x_aload_n h dL_law_474 rfl ?_
  refine x_iload_n h dL_law_475 rfl ?_
  refine x_in2 h dL_law_476 ?_
  refine x_iaddn h dL_law_477 ?_
  refine x_sget h hX h31 (by omega) dL_law_478 ?_
  refine x_i2l h dL_law_479 ?_
  refine x_bipush h (nI 32) (by decide) dL_law_480 ?_
  refine x_lshl h dL_law_482 ?_
  refine x_aload_n h dL_law_483 rfl ?_
  refine x_iload_n h dL_law_484 rfl ?_
  refine x_in3 h dL_law_485 ?_
  refine x_iaddn h dL_law_486 ?_
  refine x_sget h hX h31 (by omega) dL_law_487 ?_
  refine x_i2l h dL_law_488 ?_
  refine x_ldc2 h kl_L_68 dL_law_489 ?_
  refine x_land h dL_law_492 ?_
  refine x_lor h dL_law_493 ?_
  refine x_cVi h ci_X12_judge im_X12_judge l_L_74 ⟨Nat.le_of_ble_eq_true rfl, Nat.le_of_ble_eq_true rfl⟩ ⟨rfl, rfl⟩ hk (p2 y M1 hy) rfl rfl rfl rfl gm (by decide) rfl dL_law_494 (fun y' M2 hy' => ?_)
  exact x_icmp_eq h 792 dL_law_497 (by decide) (fun _ => nx M2 hy'.2) (fun q => absurd hy'.1.symm q)
theorem lc_share (h : Ok Γ E (q_L nm)) (hX : va_X b sl xs E.1.2.2.1 Γ.2.2.2.1) (h31 : sl ≤ 2048) (hj : 4 * j + 4 ≤ sl) (hk : k ≤ 600000 ∧ n ≤ 7302250) (hB : bothI G M o m) (go : G o = some (.inl 11)) (gm : G m = some (.inl 12)) (nx : ∀ M2 : MM, bothI G M2 o m → X Γ E k n G z M2 792 [some (.ref b), some (.ref o), some (.ref m), some (.int (nI (4 * j)))] []) : X Γ E k n G z M 502 [some (.ref b), some (.ref o), some (.ref m), some (.int (nI (4 * j)))] [] := by
  by_cases cb : xs (4 * j + 2) = 0
  · obtain ⟨P, p1, p2⟩ := pi_share (Γ := Γ) hB (xs (4 * j + 1)) false
    refine x_aload_n h dL_law_502 rfl ?_
    refine x_aload_n h dL_law_503 rfl ?_
    refine x_iload_n h dL_law_504 rfl ?_
    refine x_in1 h dL_law_505 ?_
    refine x_iaddn h dL_law_506 ?_
    refine x_sget h hX h31 (by omega) dL_law_507 ?_
    refine x_aload_n h dL_law_508 rfl ?_
    refine x_iload_n h dL_law_509 rfl ?_
    refine x_in2 h dL_law_510 ?_
    refine x_iaddn h dL_law_511 ?_
    refine x_sget h hX h31 (by omega) dL_law_512 ?_
    refine x_if_eq h 520 dL_law_513 (by decide) (fun _ => ?_) (fun q => absurd cb q)
    refine x_ic0 h dL_law_520 ?_
    refine x_cVi h ci_X11_share im_X11_share l_L_75 ⟨Nat.le_of_ble_eq_true rfl, Nat.le_of_ble_eq_true rfl⟩ ⟨rfl, rfl⟩ hk p1 rfl rfl rfl rfl go (by decide) rfl dL_law_521 (fun y M1 hy => ?_)
    refine x_aload_n h dL_law_524 rfl ?_
    refine x_aload_n h dL_law_525 rfl ?_
    refine x_iload_n h dL_law_526 rfl ?_
    refine x_in1 h dL_law_527 ?_
    refine x_iaddn h dL_law_528 ?_
    refine x_sget h hX h31 (by omega) dL_law_529 ?_
    refine x_aload_n h dL_law_530 rfl ?_
    refine x_iload_n h dL_law_531 rfl ?_
    refine x_in2 h dL_law_532 ?_
    refine x_iaddn h dL_law_533 ?_
    refine x_sget h hX h31 (by omega) dL_law_534 ?_
    refine x_if_eq h 542 dL_law_535 (by decide) (fun _ => ?_) (fun q => absurd cb q)
    refine x_ic0 h dL_law_542 ?_
    refine x_cVi h ci_X12_share im_X12_share l_L_79 ⟨Nat.le_of_ble_eq_true rfl, Nat.le_of_ble_eq_true rfl⟩ ⟨rfl, rfl⟩ hk (p2 y M1 hy) rfl rfl rfl rfl gm (by decide) rfl dL_law_543 (fun y' M2 hy' => ?_)
    exact x_icmp_eq h 792 dL_law_546 (by decide) (fun _ => nx M2 hy'.2) (fun q => absurd hy'.1.symm q)
  · obtain ⟨P, p1, p2⟩ := pi_share (Γ := Γ) hB (xs (4 * j + 1)) true
    refine x_aload_n h dL_law_502 rfl ?_
    refine x_aload_n h dL_law_503 rfl ?_
    refine x_iload_n h dL_law_504 rfl ?_
    refine x_in1 h dL_law_505 ?_
    refine x_iaddn h dL_law_506 ?_
    refine x_sget h hX h31 (by omega) dL_law_507 ?_
    refine x_aload_n h dL_law_508 rfl ?_
    refine x_iload_n h dL_law_509 rfl ?_
    refine x_in2 h dL_law_510 ?_
    refine x_iaddn h dL_law_511 ?_
    refine x_sget h hX h31 (by omega) dL_law_512 ?_
    refine x_if_eq h 520 dL_law_513 (by decide) (fun q => absurd q cb) (fun _ => ?_)
    refine x_ic1 h dL_law_516 ?_
    refine x_goto h 521 dL_law_517 (by decide) ?_
    refine x_cVi h ci_X11_share im_X11_share l_L_75 ⟨Nat.le_of_ble_eq_true rfl, Nat.le_of_ble_eq_true rfl⟩ ⟨rfl, rfl⟩ hk p1 rfl rfl rfl rfl go (by decide) rfl dL_law_521 (fun y M1 hy => ?_)
    refine x_aload_n h dL_law_524 rfl ?_
    refine x_aload_n h dL_law_525 rfl ?_
    refine x_iload_n h dL_law_526 rfl ?_
    refine x_in1 h dL_law_527 ?_
    refine x_iaddn h dL_law_528 ?_
    refine x_sget h hX h31 (by omega) dL_law_529 ?_
    refine x_aload_n h dL_law_530 rfl ?_
    refine x_iload_n h dL_law_531 rfl ?_
    refine x_in2 h dL_law_532 ?_
    refine x_iaddn h dL_law_533 ?_
    refine x_sget h hX h31 (by omega) dL_law_534 ?_
    refine x_if_eq h 542 dL_law_535 (by decide) (fun q => absurd q cb) (fun _ => ?_)
    refine x_ic1 h dL_law_538 ?_
    refine x_goto h 543 dL_law_539 (by decide) ?_
    refine x_cVi h ci_X12_share im_X12_share l_L_79 ⟨Nat.le_of_ble_eq_true rfl, Nat.le_of_ble_eq_true rfl⟩ ⟨rfl, rfl⟩ hk (p2 y M1 hy) rfl rfl rfl rfl gm (by decide) rfl dL_law_543 (fun y' M2 hy' => ?_)
    exact x_icmp_eq h 792 dL_law_546 (by decide) (fun _ => nx M2 hy'.2) (fun q => absurd hy'.1.symm q)
theorem lc_see (h : Ok Γ E (q_L nm)) (hX : va_X b sl xs E.1.2.2.1 Γ.2.2.2.1) (h31 : sl ≤ 2048) (hj : 4 * j + 4 ≤ sl) (hk : k ≤ 600000 ∧ n ≤ 7302250) (hB : bothI G M o m) (go : G o = some (.inl 11)) (gm : G m = some (.inl 12)) (nx : ∀ M2 : MM, bothI G M2 o m → X Γ E k n G z M2 792 [some (.ref b), some (.ref o), some (.ref m), some (.int (nI (4 * j)))] []) : X Γ E k n G z M 551 [some (.ref b), some (.ref o), some (.ref m), some (.int (nI (4 * j)))] [] := by
  obtain ⟨P, p1, p2⟩ := pi_see (Γ := Γ) hB (xs (4 * j + 1)) (xs (4 * j + 2))
  refine x_aload_n h dL_law_551 rfl ?_
  refine x_aload_n h dL_law_552 rfl ?_
  refine x_iload_n h dL_law_553 rfl ?_
  refine x_in1 h dL_law_554 ?_
  refine x_iaddn h dL_law_555 ?_
  refine x_sget h hX h31 (by omega) dL_law_556 ?_
  refine x_aload_n h dL_law_557 rfl ?_
  refine x_iload_n h dL_law_558 rfl ?_
  refine x_in2 h dL_law_559 ?_
  refine x_iaddn h dL_law_560 ?_
  refine x_sget h hX h31 (by omega) dL_law_561 ?_
  refine x_cVi h ci_X11_see im_X11_see l_L_80 ⟨Nat.le_of_ble_eq_true rfl, Nat.le_of_ble_eq_true rfl⟩ ⟨rfl, rfl⟩ hk p1 rfl rfl rfl rfl go (by decide) rfl dL_law_562 (fun y M1 hy => ?_)
  refine x_aload_n h dL_law_565 rfl ?_
  refine x_aload_n h dL_law_566 rfl ?_
  refine x_iload_n h dL_law_567 rfl ?_
  refine x_in1 h dL_law_568 ?_
  refine x_iaddn h dL_law_569 ?_
  refine x_sget h hX h31 (by omega) dL_law_570 ?_
  refine x_aload_n h dL_law_571 rfl ?_
  refine x_iload_n h dL_law_572 rfl ?_
  refine x_in2 h dL_law_573 ?_
  refine x_iaddn h dL_law_574 ?_
  refine x_sget h hX h31 (by omega) dL_law_575 ?_
  refine x_cVi h ci_X12_see im_X12_see l_L_83 ⟨Nat.le_of_ble_eq_true rfl, Nat.le_of_ble_eq_true rfl⟩ ⟨rfl, rfl⟩ hk (p2 y M1 hy) rfl rfl rfl rfl gm (by decide) rfl dL_law_576 (fun y' M2 hy' => ?_)
  exact x_icmp_eq h 792 dL_law_579 (by decide) (fun _ => nx M2 hy'.2) (fun q => absurd hy'.1.symm q)
theorem lc_unsee (h : Ok Γ E (q_L nm)) (hX : va_X b sl xs E.1.2.2.1 Γ.2.2.2.1) (h31 : sl ≤ 2048) (hj : 4 * j + 4 ≤ sl) (hk : k ≤ 600000 ∧ n ≤ 7302250) (hB : bothI G M o m) (go : G o = some (.inl 11)) (gm : G m = some (.inl 12)) (nx : ∀ M2 : MM, bothI G M2 o m → X Γ E k n G z M2 792 [some (.ref b), some (.ref o), some (.ref m), some (.int (nI (4 * j)))] []) : X Γ E k n G z M 584 [some (.ref b), some (.ref o), some (.ref m), some (.int (nI (4 * j)))] [] := by
  obtain ⟨P, p1, p2⟩ := pi_unsee (Γ := Γ) hB 
  refine x_aload_n h dL_law_584 rfl ?_
  refine x_cVi h ci_X11_unsee im_X11_unsee l_L_84 ⟨Nat.le_of_ble_eq_true rfl, Nat.le_of_ble_eq_true rfl⟩ ⟨rfl, rfl⟩ hk p1 rfl rfl rfl rfl go (by decide) rfl dL_law_585 (fun y M1 hy => ?_)
  refine x_aload_n h dL_law_588 rfl ?_
  refine x_cVi h ci_X12_unsee im_X12_unsee l_L_87 ⟨Nat.le_of_ble_eq_true rfl, Nat.le_of_ble_eq_true rfl⟩ ⟨rfl, rfl⟩ hk (p2 y M1 hy) rfl rfl rfl rfl gm (by decide) rfl dL_law_589 (fun y' M2 hy' => ?_)
  exact x_icmp_eq h 792 dL_law_592 (by decide) (fun _ => nx M2 hy'.2) (fun q => absurd hy'.1.symm q)
theorem lc_which (h : Ok Γ E (q_L nm)) (hX : va_X b sl xs E.1.2.2.1 Γ.2.2.2.1) (h31 : sl ≤ 2048) (hj : 4 * j + 4 ≤ sl) (hk : k ≤ 600000 ∧ n ≤ 7302250) (hB : bothI G M o m) (go : G o = some (.inl 11)) (gm : G m = some (.inl 12)) (nx : ∀ M2 : MM, bothI G M2 o m → X Γ E k n G z M2 792 [some (.ref b), some (.ref o), some (.ref m), some (.int (nI (4 * j)))] []) : X Γ E k n G z M 597 [some (.ref b), some (.ref o), some (.ref m), some (.int (nI (4 * j)))] [] := by
  obtain ⟨P, p1, p2⟩ := pi_which (Γ := Γ) hB (xs (4 * j + 1))
  refine x_aload_n h dL_law_597 rfl ?_
  refine x_aload_n h dL_law_598 rfl ?_
  refine x_iload_n h dL_law_599 rfl ?_
  refine x_in1 h dL_law_600 ?_
  refine x_iaddn h dL_law_601 ?_
  refine x_sget h hX h31 (by omega) dL_law_602 ?_
  refine x_cVi h ci_X11_which im_X11_which l_L_88 ⟨Nat.le_of_ble_eq_true rfl, Nat.le_of_ble_eq_true rfl⟩ ⟨rfl, rfl⟩ hk p1 rfl rfl rfl rfl go (by decide) rfl dL_law_603 (fun y M1 hy => ?_)
  refine x_aload_n h dL_law_606 rfl ?_
  refine x_aload_n h dL_law_607 rfl ?_
  refine x_iload_n h dL_law_608 rfl ?_
  refine x_in1 h dL_law_609 ?_
  refine x_iaddn h dL_law_610 ?_
  refine x_sget h hX h31 (by omega) dL_law_611 ?_
  refine x_cVi h ci_X12_which im_X12_which l_L_91 ⟨Nat.le_of_ble_eq_true rfl, Nat.le_of_ble_eq_true rfl⟩ ⟨rfl, rfl⟩ hk (p2 y M1 hy) rfl rfl rfl rfl gm (by decide) rfl dL_law_612 (fun y' M2 hy' => ?_)
  exact x_icmp_eq h 792 dL_law_615 (by decide) (fun _ => nx M2 hy'.2) (fun q => absurd hy'.1.symm q)
theorem lc_lost (h : Ok Γ E (q_L nm)) (hX : va_X b sl xs E.1.2.2.1 Γ.2.2.2.1) (h31 : sl ≤ 2048) (hj : 4 * j + 4 ≤ sl) (hk : k ≤ 600000 ∧ n ≤ 7302250) (hB : bothI G M o m) (go : G o = some (.inl 11)) (gm : G m = some (.inl 12)) (nx : ∀ M2 : MM, bothI G M2 o m → X Γ E k n G z M2 792 [some (.ref b), some (.ref o), some (.ref m), some (.int (nI (4 * j)))] []) : X Γ E k n G z M 620 [some (.ref b), some (.ref o), some (.ref m), some (.int (nI (4 * j)))] [] := by
  by_cases cb : xs (4 * j + 2) = 0
  · obtain ⟨P, p1, p2⟩ := pi_lost (Γ := Γ) hB (xs (4 * j + 1)) false
    refine x_aload_n h dL_law_620 rfl ?_
    refine x_aload_n h dL_law_621 rfl ?_
    refine x_iload_n h dL_law_622 rfl ?_
    refine x_in1 h dL_law_623 ?_
    refine x_iaddn h dL_law_624 ?_
    refine x_sget h hX h31 (by omega) dL_law_625 ?_
    refine x_aload_n h dL_law_626 rfl ?_
    refine x_iload_n h dL_law_627 rfl ?_
    refine x_in2 h dL_law_628 ?_
    refine x_iaddn h dL_law_629 ?_
    refine x_sget h hX h31 (by omega) dL_law_630 ?_
    refine x_if_eq h 638 dL_law_631 (by decide) (fun _ => ?_) (fun q => absurd cb q)
    refine x_ic0 h dL_law_638 ?_
    refine x_cVi h ci_X11_lost im_X11_lost l_L_92 ⟨Nat.le_of_ble_eq_true rfl, Nat.le_of_ble_eq_true rfl⟩ ⟨rfl, rfl⟩ hk p1 rfl rfl rfl rfl go (by decide) rfl dL_law_639 (fun y M1 hy => ?_)
    refine x_aload_n h dL_law_642 rfl ?_
    refine x_aload_n h dL_law_643 rfl ?_
    refine x_iload_n h dL_law_644 rfl ?_
    refine x_in1 h dL_law_645 ?_
    refine x_iaddn h dL_law_646 ?_
    refine x_sget h hX h31 (by omega) dL_law_647 ?_
    refine x_aload_n h dL_law_648 rfl ?_
    refine x_iload_n h dL_law_649 rfl ?_
    refine x_in2 h dL_law_650 ?_
    refine x_iaddn h dL_law_651 ?_
    refine x_sget h hX h31 (by omega) dL_law_652 ?_
    refine x_if_eq h 660 dL_law_653 (by decide) (fun _ => ?_) (fun q => absurd cb q)
    refine x_ic0 h dL_law_660 ?_
    refine x_cVi h ci_X12_lost im_X12_lost l_L_95 ⟨Nat.le_of_ble_eq_true rfl, Nat.le_of_ble_eq_true rfl⟩ ⟨rfl, rfl⟩ hk (p2 y M1 hy) rfl rfl rfl rfl gm (by decide) rfl dL_law_661 (fun y' M2 hy' => ?_)
    exact x_icmp_eq h 792 dL_law_664 (by decide) (fun _ => nx M2 hy'.2) (fun q => absurd hy'.1.symm q)
  · obtain ⟨P, p1, p2⟩ := pi_lost (Γ := Γ) hB (xs (4 * j + 1)) true
    refine x_aload_n h dL_law_620 rfl ?_
    refine x_aload_n h dL_law_621 rfl ?_
    refine x_iload_n h dL_law_622 rfl ?_
    refine x_in1 h dL_law_623 ?_
    refine x_iaddn h dL_law_624 ?_
    refine x_sget h hX h31 (by omega) dL_law_625 ?_
    refine x_aload_n h dL_law_626 rfl ?_
    refine x_iload_n h dL_law_627 rfl ?_
    refine x_in2 h dL_law_628 ?_
    refine x_iaddn h dL_law_629 ?_
    refine x_sget h hX h31 (by omega) dL_law_630 ?_
    refine x_if_eq h 638 dL_law_631 (by decide) (fun q => absurd q cb) (fun _ => ?_)
    refine x_ic1 h dL_law_634 ?_
    refine x_goto h 639 dL_law_635 (by decide) ?_
    refine x_cVi h ci_X11_lost im_X11_lost l_L_92 ⟨Nat.le_of_ble_eq_true rfl, Nat.le_of_ble_eq_true rfl⟩ ⟨rfl, rfl⟩ hk p1 rfl rfl rfl rfl go (by decide) rfl dL_law_639 (fun y M1 hy => ?_)
    refine x_aload_n h dL_law_642 rfl ?_
    refine x_aload_n h dL_law_643 rfl ?_
    refine x_iload_n h dL_law_644 rfl ?_
    refine x_in1 h dL_law_645 ?_
    refine x_iaddn h dL_law_646 ?_
    refine x_sget h hX h31 (by omega) dL_law_647 ?_
    refine x_aload_n h dL_law_648 rfl ?_
    refine x_iload_n h dL_law_649 rfl ?_
    refine x_in2 h dL_law_650 ?_
    refine x_iaddn h dL_law_651 ?_
    refine x_sget h hX h31 (by omega) dL_law_652 ?_
    refine x_if_eq h 660 dL_law_653 (by decide) (fun q => absurd q cb) (fun _ => ?_)
    refine x_ic1 h dL_law_656 ?_
    refine x_goto h 661 dL_law_657 (by decide) ?_
    refine x_cVi h ci_X12_lost im_X12_lost l_L_95 ⟨Nat.le_of_ble_eq_true rfl, Nat.le_of_ble_eq_true rfl⟩ ⟨rfl, rfl⟩ hk (p2 y M1 hy) rfl rfl rfl rfl gm (by decide) rfl dL_law_661 (fun y' M2 hy' => ?_)
    exact x_icmp_eq h 792 dL_law_664 (by decide) (fun _ => nx M2 hy'.2) (fun q => absurd hy'.1.symm q)
theorem lc_seed (h : Ok Γ E (q_L nm)) (hX : va_X b sl xs E.1.2.2.1 Γ.2.2.2.1) (h31 : sl ≤ 2048) (hj : 4 * j + 4 ≤ sl) (hk : k ≤ 600000 ∧ n ≤ 7302250) (hB : bothI G M o m) (go : G o = some (.inl 11)) (gm : G m = some (.inl 12)) (nx : ∀ M2 : MM, bothI G M2 o m → X Γ E k n G z M2 792 [some (.ref b), some (.ref o), some (.ref m), some (.int (nI (4 * j)))] []) : X Γ E k n G z M 669 [some (.ref b), some (.ref o), some (.ref m), some (.int (nI (4 * j)))] [] := by
  obtain ⟨P, p1, p2⟩ := pi_seed (Γ := Γ) hB ((xs (4 * j + 1)).toInt64 <<< ((nI 32).toInt64 &&& 63) ||| ((xs (4 * j + 2)).toInt64 &&& 4294967295))
  refine x_aload_n h dL_law_669 rfl ?_
  refine x_aload_n h dL_law_670 rfl ?_
  refine x_iload_n h dL_law_671 rfl ?_
  refine x_in1 h dL_law_672 ?_
  refine x_iaddn h dL_law_673 ?_
  refine x_sget h hX h31 (by omega) dL_law_674 ?_
  refine x_i2l h dL_law_675 ?_
  refine x_bipush h (nI 32) (by decide) dL_law_676 ?_
  refine x_lshl h dL_law_678 ?_
  refine x_aload_n h dL_law_679 rfl ?_
  refine x_iload_n h dL_law_680 rfl ?_
  refine x_in2 h dL_law_681 ?_
  refine x_iaddn h dL_law_682 ?_
  refine x_sget h hX h31 (by omega) dL_law_683 ?_
  refine x_i2l h dL_law_684 ?_
  refine x_ldc2 h kl_L_68 dL_law_685 ?_
  refine x_land h dL_law_688 ?_
  refine x_lor h dL_law_689 ?_
  refine x_cVl h ci_X11_seed im_X11_seed l_L_96 ⟨Nat.le_of_ble_eq_true rfl, Nat.le_of_ble_eq_true rfl⟩ ⟨rfl, rfl⟩ hk p1 rfl rfl rfl rfl go (by decide) rfl dL_law_690 (fun y M1 hy => ?_)
  refine x_aload_n h dL_law_693 rfl ?_
  refine x_aload_n h dL_law_694 rfl ?_
  refine x_iload_n h dL_law_695 rfl ?_
  refine x_in1 h dL_law_696 ?_
  refine x_iaddn h dL_law_697 ?_
  refine x_sget h hX h31 (by omega) dL_law_698 ?_
  refine x_i2l h dL_law_699 ?_
  refine x_bipush h (nI 32) (by decide) dL_law_700 ?_
  refine x_lshl h dL_law_702 ?_
  refine x_aload_n h dL_law_703 rfl ?_
  refine x_iload_n h dL_law_704 rfl ?_
  refine x_in2 h dL_law_705 ?_
  refine x_iaddn h dL_law_706 ?_
  refine x_sget h hX h31 (by omega) dL_law_707 ?_
  refine x_i2l h dL_law_708 ?_
  refine x_ldc2 h kl_L_68 dL_law_709 ?_
  refine x_land h dL_law_712 ?_
  refine x_lor h dL_law_713 ?_
  refine x_cVl h ci_X12_seed im_X12_seed l_L_100 ⟨Nat.le_of_ble_eq_true rfl, Nat.le_of_ble_eq_true rfl⟩ ⟨rfl, rfl⟩ hk (p2 y M1 hy) rfl rfl rfl rfl gm (by decide) rfl dL_law_714 (fun y' M2 hy' => ?_)
  refine x_lcmp h dL_law_717 ?_
  exact x_if_eq h 792 dL_law_718 (by decide) (fun _ => nx M2 hy'.2) (fun q => absurd ((lg_cmp_eq y y').mpr hy'.1.symm) q)
theorem lc_drawn (h : Ok Γ E (q_L nm)) (hX : va_X b sl xs E.1.2.2.1 Γ.2.2.2.1) (h31 : sl ≤ 2048) (hj : 4 * j + 4 ≤ sl) (hk : k ≤ 600000 ∧ n ≤ 7302250) (hB : bothI G M o m) (go : G o = some (.inl 11)) (gm : G m = some (.inl 12)) (nx : ∀ M2 : MM, bothI G M2 o m → X Γ E k n G z M2 792 [some (.ref b), some (.ref o), some (.ref m), some (.int (nI (4 * j)))] []) : X Γ E k n G z M 723 [some (.ref b), some (.ref o), some (.ref m), some (.int (nI (4 * j)))] [] := by
  obtain ⟨P, p1, p2⟩ := pi_drawn (Γ := Γ) hB (xs (4 * j + 1))
  refine x_aload_n h dL_law_723 rfl ?_
  refine x_aload_n h dL_law_724 rfl ?_
  refine x_iload_n h dL_law_725 rfl ?_
  refine x_in1 h dL_law_726 ?_
  refine x_iaddn h dL_law_727 ?_
  refine x_sget h hX h31 (by omega) dL_law_728 ?_
  refine x_cVi h ci_X11_drawn im_X11_drawn l_L_101 ⟨Nat.le_of_ble_eq_true rfl, Nat.le_of_ble_eq_true rfl⟩ ⟨rfl, rfl⟩ hk p1 rfl rfl rfl rfl go (by decide) rfl dL_law_729 (fun y M1 hy => ?_)
  refine x_aload_n h dL_law_732 rfl ?_
  refine x_aload_n h dL_law_733 rfl ?_
  refine x_iload_n h dL_law_734 rfl ?_
  refine x_in1 h dL_law_735 ?_
  refine x_iaddn h dL_law_736 ?_
  refine x_sget h hX h31 (by omega) dL_law_737 ?_
  refine x_cVi h ci_X12_drawn im_X12_drawn l_L_104 ⟨Nat.le_of_ble_eq_true rfl, Nat.le_of_ble_eq_true rfl⟩ ⟨rfl, rfl⟩ hk (p2 y M1 hy) rfl rfl rfl rfl gm (by decide) rfl dL_law_738 (fun y' M2 hy' => ?_)
  exact x_icmp_eq h 792 dL_law_741 (by decide) (fun _ => nx M2 hy'.2) (fun q => absurd hy'.1.symm q)
theorem lc_keep (h : Ok Γ E (q_L nm)) (hX : va_X b sl xs E.1.2.2.1 Γ.2.2.2.1) (h31 : sl ≤ 2048) (hj : 4 * j + 4 ≤ sl) (hk : k ≤ 600000 ∧ n ≤ 7302250) (hB : bothI G M o m) (go : G o = some (.inl 11)) (gm : G m = some (.inl 12)) (nx : ∀ M2 : MM, bothI G M2 o m → X Γ E k n G z M2 792 [some (.ref b), some (.ref o), some (.ref m), some (.int (nI (4 * j)))] []) : X Γ E k n G z M 746 [some (.ref b), some (.ref o), some (.ref m), some (.int (nI (4 * j)))] [] := by
  obtain ⟨P, p1, p2⟩ := pi_keep (Γ := Γ) hB (xs (4 * j + 1))
  refine x_aload_n h dL_law_746 rfl ?_
  refine x_aload_n h dL_law_747 rfl ?_
  refine x_iload_n h dL_law_748 rfl ?_
  refine x_in1 h dL_law_749 ?_
  refine x_iaddn h dL_law_750 ?_
  refine x_sget h hX h31 (by omega) dL_law_751 ?_
  refine x_cVi h ci_X11_keep im_X11_keep l_L_105 ⟨Nat.le_of_ble_eq_true rfl, Nat.le_of_ble_eq_true rfl⟩ ⟨rfl, rfl⟩ hk p1 rfl rfl rfl rfl go (by decide) rfl dL_law_752 (fun y M1 hy => ?_)
  refine x_aload_n h dL_law_755 rfl ?_
  refine x_aload_n h dL_law_756 rfl ?_
  refine x_iload_n h dL_law_757 rfl ?_
  refine x_in1 h dL_law_758 ?_
  refine x_iaddn h dL_law_759 ?_
  refine x_sget h hX h31 (by omega) dL_law_760 ?_
  refine x_cVi h ci_X12_keep im_X12_keep l_L_108 ⟨Nat.le_of_ble_eq_true rfl, Nat.le_of_ble_eq_true rfl⟩ ⟨rfl, rfl⟩ hk (p2 y M1 hy) rfl rfl rfl rfl gm (by decide) rfl dL_law_761 (fun y' M2 hy' => ?_)
  exact x_icmp_eq h 792 dL_law_764 (by decide) (fun _ => nx M2 hy'.2) (fun q => absurd hy'.1.symm q)
theorem lc_again (h : Ok Γ E (q_L nm)) (hX : va_X b sl xs E.1.2.2.1 Γ.2.2.2.1) (h31 : sl ≤ 2048) (hj : 4 * j + 4 ≤ sl) (hk : k ≤ 600000 ∧ n ≤ 7302250) (hB : bothI G M o m) (go : G o = some (.inl 11)) (gm : G m = some (.inl 12)) (nx : ∀ M2 : MM, bothI G M2 o m → X Γ E k n G z M2 792 [some (.ref b), some (.ref o), some (.ref m), some (.int (nI (4 * j)))] []) : X Γ E k n G z M 769 [some (.ref b), some (.ref o), some (.ref m), some (.int (nI (4 * j)))] [] := by
  obtain ⟨P, p1, p2⟩ := pi_again (Γ := Γ) hB (xs (4 * j + 1))
  refine x_aload_n h dL_law_769 rfl ?_
  refine x_aload_n h dL_law_770 rfl ?_
  refine x_iload_n h dL_law_771 rfl ?_
  refine x_in1 h dL_law_772 ?_
  refine x_iaddn h dL_law_773 ?_
  refine x_sget h hX h31 (by omega) dL_law_774 ?_
  refine x_cVi h ci_X11_again im_X11_again l_L_109 ⟨Nat.le_of_ble_eq_true rfl, Nat.le_of_ble_eq_true rfl⟩ ⟨rfl, rfl⟩ hk p1 rfl rfl rfl rfl go (by decide) rfl dL_law_775 (fun y M1 hy => ?_)
  refine x_aload_n h dL_law_778 rfl ?_
  refine x_aload_n h dL_law_779 rfl ?_
  refine x_iload_n h dL_law_780 rfl ?_
  refine x_in1 h dL_law_781 ?_
  refine x_iaddn h dL_law_782 ?_
  refine x_sget h hX h31 (by omega) dL_law_783 ?_
  refine x_cVi h ci_X12_again im_X12_again l_L_112 ⟨Nat.le_of_ble_eq_true rfl, Nat.le_of_ble_eq_true rfl⟩ ⟨rfl, rfl⟩ hk (p2 y M1 hy) rfl rfl rfl rfl gm (by decide) rfl dL_law_784 (fun y' M2 hy' => ?_)
  exact x_icmp_eq h 792 dL_law_787 (by decide) (fun _ => nx M2 hy'.2) (fun q => absurd hy'.1.symm q)
end LC
