/-! ===== the class and the reference, side by side: both answer alike ===== -/
theorem mdF_r {G : GG} {R R' : Nat → Nat → Value} {m : Nat} (e : ∀ j, R' m j = R m j) (h : mdF G R m) : mdF G R' m := by
  simp only [mdF, e]
  exact h
section PA
variable {Γ : GT} {G : GG} {M N : MM} {o m : Nat} {b : Bool} {S V : RT} {tx tx' : Nat → Nat} {len len' : Nat} {pg : PGM} {su su' : SU} {hy hy' : HY} {kp kp' : KP} {ze ze' : SE} {sd sd' : Int64}
theorem mInv_o (hm : o + 435 ≤ m) (h : offO o M N) (hI : mInv M m tx len pg su hy kp ze sd) : mInv N m tx len pg su hy kp ze sd := by
  obtain ⟨h1, h2, h3, h4, h5, h6, h7, h8⟩ := hI
  exact ⟨mTx_cg h1 (fun a j _ => (h _ (by omega)).1 j), mPg_cg h2 (fun a j _ => (h _ (by omega)).1 j), mNw_cg h3 (fun a j _ => (h _ (by omega)).1 j), mDy_cg h4 (fun a j _ => (h _ (by omega)).1 j), mKp_cg h5 (fun a j _ => (h _ (by omega)).1 j), mSn_cg h6 (fun a j _ => (h _ (by omega)).1 j), ((h m (by omega)).2.1 43).trans h7, mCF_lg h8 (fun a j q => (h a (by omega)).2.1 j)⟩
theorem cInv_m (hm : o + 435 ≤ m) (h : offM m M N) (hI : cInv G M o b S V tx len su hy kp ze sd) : cInv G N o b S V tx len su hy kp ze sd := by
  have hc := cd_in o b
  exact ⟨cO_cg hI.1 h.1 (fun a j _ _ => (h.2 a (by omega)).1 j) ((h.2 _ (by omega)).2 0), aC_cg hI.2 h.1 (fun a j _ _ => (h.2 a (by omega)).1 j) (fun a j _ _ => (h.2 a (by omega)).1 j) (fun a j q => (h.2 _ (by have := lg_D hI.1.1 a q; omega)).2 j)⟩
/-- both are in the same state -/
def bothI (G : GG) (M : MM) (o m : Nat) : Prop := o + 435 ≤ m ∧ ∃ b S V tx len su hy kp ze sd, cInv G M o b S V tx len su hy kp ze sd ∧ mdF G M.2.2 m ∧ mInv M m tx len (pgV V) su hy kp ze sd
/-- the class is called, then the reference: the same int, and again the same state -/
def PI (Γ : GT) (q q' : MD) (as : List Value) (G : GG) (M : MM) (o m : Nat) : Prop := ∃ P : Int32 → MM → Prop, Calls Γ q (.ref o :: as) G M (rI P) ∧ ∀ y M1, P y M1 → Calls Γ q' (.ref m :: as) G M1 (rI (fun y' M2 => y' = y ∧ bothI G M2 o m))
def PL8 (Γ : GT) (q q' : MD) (as : List Value) (G : GG) (M : MM) (o m : Nat) : Prop := ∃ P : Int64 → MM → Prop, Calls Γ q (.ref o :: as) G M (rL P) ∧ ∀ y M1, P y M1 → Calls Γ q' (.ref m :: as) G M1 (rL (fun y' M2 => y' = y ∧ bothI G M2 o m))
theorem mkPI {q q' : MD} {as : List Value} {Pr : Int32 → Prop} (hm : o + 435 ≤ m) (hF : mdF G M.2.2 m) (hJ : mInv M m tx len (pgV V) su hy kp ze sd) (h1 : Calls Γ q (.ref o :: as) G M (rI (fun y M' => Pr y ∧ cInv G M' o b S V tx' len' su' hy' kp' ze' sd' ∧ offO o M M'))) (h2 : ∀ M1 : MM, mdF G M1.2.2 m → mInv M1 m tx len (pgV V) su hy kp ze sd → Calls Γ q' (.ref m :: as) G M1 (rI (fun y M' => Pr y ∧ mInv M' m tx' len' (pgV V) su' hy' kp' ze' sd' ∧ offM m M1 M'))) (hf : ∀ y y', Pr y → Pr y' → y' = y) : PI Γ q q' as G M o m := by
  refine ⟨_, h1, fun y M1 hp => ?_⟩
  have f1 := mdF_r (fun j => (hp.2.2 m (by omega)).2.2 j) hF
  refine (h2 M1 f1 (mInv_o hm hp.2.2 hJ)).imp (fun r M2 hr => ?_)
  obtain ⟨y', e, k1, k2, k3⟩ := hr
  exact ⟨y', e, hf y y' hp.1 k1, hm, b, S, V, tx', len', su', hy', kp', ze', sd', cInv_m hm k3 hp.2.1, by rw [k3.1]; exact f1, k2⟩
theorem mkPL {q q' : MD} {as : List Value} {Pr : Int64 → Prop} (hm : o + 435 ≤ m) (hF : mdF G M.2.2 m) (hJ : mInv M m tx len (pgV V) su hy kp ze sd) (h1 : Calls Γ q (.ref o :: as) G M (rL (fun y M' => Pr y ∧ cInv G M' o b S V tx' len' su' hy' kp' ze' sd' ∧ offO o M M'))) (h2 : ∀ M1 : MM, mdF G M1.2.2 m → mInv M1 m tx len (pgV V) su hy kp ze sd → Calls Γ q' (.ref m :: as) G M1 (rL (fun y M' => Pr y ∧ mInv M' m tx' len' (pgV V) su' hy' kp' ze' sd' ∧ offM m M1 M'))) (hf : ∀ y y', Pr y → Pr y' → y' = y) : PL8 Γ q q' as G M o m := by
  refine ⟨_, h1, fun y M1 hp => ?_⟩
  have f1 := mdF_r (fun j => (hp.2.2 m (by omega)).2.2 j) hF
  refine (h2 M1 f1 (mInv_o hm hp.2.2 hJ)).imp (fun r M2 hr => ?_)
  obtain ⟨y', e, k1, k2, k3⟩ := hr
  exact ⟨y', e, hf y y' hp.1 k1, hm, b, S, V, tx', len', su', hy', kp', ze', sd', cInv_m hm k3 hp.2.1, by rw [k3.1]; exact f1, k2⟩
theorem fe {α : Type} {e : α} (y y' : α) (h1 : y = e) (h2 : y' = e) : y' = y := h2.trans h1.symm
theorem rg (x : Int32) {k : Nat} (hk : k < 2 ^ 31) : (∀ n, n < k → x ≠ nI n) ∨ ∃ n, n < k ∧ x = nI n := by
  obtain ⟨r, hr⟩ := isR_ex x hk
  cases r with
  | none => exact Or.inl hr
  | some n => exact Or.inr ⟨n, hr⟩
theorem rg1 (x : Int32) (k : Nat) : (∀ n, n < k → x ≠ nI (n + 1)) ∨ ∃ n, n < k ∧ x = nI (n + 1) := by
  by_cases h : ∃ n, n < k ∧ x = nI (n + 1)
  · exact Or.inr h
  · exact Or.inl (fun n hn e => h ⟨n, hn, e⟩)
theorem rc_un {Q : AP} {B : ST} {C D : NS} (h1 : rchC Q B C) (h2 : rchC Q B D) : C = D := by
  funext j t
  exact Bool.eq_iff_iff.mpr ((h1 j t).trans (h2 j t).symm)
theorem ab_un {n : Nat} : ∀ y y', abS pg su hy ze len n y → abS pg su hy ze len n y' → y' = y := by
  intro y y' h1 h2
  rcases n with _ | _ | _ | _ | _ | _ | _ | _ | _ | _ | _ | k
  all_goals first
    | exact (show y' = _ from h2).trans (Eq.symm (show y = _ from h1))
    | (obtain ⟨C, a1, a2⟩ := h1; obtain ⟨D, b1, b2⟩ := h2; rw [a2, b2, rc_un a1 b1])
theorem lp_un {n w : Nat} : ∀ y y', lpS pg su n w y → lpS pg su n w y' → y' = y := by
  intro y y' h1 h2
  rcases w with _ | _ | _ | k
  all_goals first
    | exact (show y' = _ from h2).trans (Eq.symm (show y = _ from h1))
    | (obtain ⟨C, a1, a2⟩ := h1; obtain ⟨D, b1, b2⟩ := h2; rw [a2, b2, rc_un a1 b1])
theorem ck_un {n w : Nat} : ∀ y y', ckS pg su n w y → ckS pg su n w y' → y' = y := by
  intro y y' h1 h2
  rcases w with _ | _ | _ | k
  all_goals first
    | exact (show y' = _ from h2).trans (Eq.symm (show y = _ from h1))
    | (obtain ⟨C, a1, a2⟩ := h1; obtain ⟨D, b1, b2⟩ := h2; rw [a2, b2, rc_un a1 b1])
theorem wh_un {n : Nat} : ∀ y y', whS pg su ze n y → whS pg su ze n y' → y' = y := by
  intro y y' h1 h2
  obtain ⟨C, a1, a2⟩ := h1
  obtain ⟨D, b1, b2⟩ := h2
  have e : ∀ s, s < 216 → D s = C s := fun s hs => Bool.eq_iff_iff.mpr ((b1 s hs).trans (a1 s hs).symm)
  rw [a2, b2, ct_eq 216 e, fst_cg e]
theorem jd_un {how a e v : Nat} {ts : SU} {r r' : Bool} {s s' : SU} (h1 : jdS pg how a e v ts r s) (h2 : jdS pg how a e v ts r' s') : r = r' ∧ s = s' := by
  unfold jdS at h1 h2
  by_cases c1 : how = 1
  · rw [if_pos c1] at h1 h2
    split at h1
    · rename_i c; rw [if_pos c] at h2; exact ⟨h1.1.trans h2.1.symm, h1.2.trans h2.2.symm⟩
    · rename_i c; rw [if_neg c] at h2; exact ⟨h1.1.trans h2.1.symm, h1.2.trans h2.2.symm⟩
  rw [if_neg c1] at h1 h2
  by_cases c2 : how = 2
  · rw [if_pos c2] at h1 h2
    split at h1
    · rename_i c; rw [if_pos c] at h2; exact ⟨h1.1.trans h2.1.symm, h1.2.trans h2.2.symm⟩
    · rename_i c; rw [if_neg c] at h2; exact ⟨h1.1.trans h2.1.symm, h1.2.trans h2.2.symm⟩
  rw [if_neg c2] at h1 h2
  by_cases c3 : how = 3
  · rw [if_pos c3] at h1 h2
    refine ⟨?_, h1.1.trans h2.1.symm⟩
    replace h1 := h1.2
    replace h2 := h2.2
    split at h1
    · rename_i c; rw [if_pos c] at h2; exact h1.trans h2.symm
    · rename_i c; rw [if_neg c] at h2; exact h1.trans h2.symm
  rw [if_neg c3] at h1 h2
  by_cases c4 : how = 4
  · rw [if_pos c4] at h1 h2
    refine ⟨?_, h1.1.trans h2.1.symm⟩
    replace h1 := h1.2
    replace h2 := h2.2
    split at h1
    · rename_i c
      rw [if_pos c] at h2
      obtain ⟨C, a1, a2⟩ := h1
      obtain ⟨D, b1, b2⟩ := h2
      rw [a2, b2, rc_un a1 b1]
    · rename_i c; rw [if_neg c] at h2; exact h1.trans h2.symm
  rw [if_neg c4] at h1 h2
  by_cases c5 : how = 5
  · rw [if_pos c5] at h1 h2
    refine ⟨?_, h1.1.trans h2.1.symm⟩
    replace h1 := h1.2
    replace h2 := h2.2
    split at h1
    · rename_i c; rw [if_pos c] at h2; exact h1.trans h2.symm
    · rename_i c; rw [if_neg c] at h2; exact h1.trans h2.symm
  rw [if_neg c5] at h1 h2
  by_cases c6 : how = 6
  · rw [if_pos c6] at h1 h2
    refine ⟨?_, h1.1.trans h2.1.symm⟩
    replace h1 := h1.2
    replace h2 := h2.2
    split at h1
    · rename_i c
      rw [if_pos c] at h2
      obtain ⟨C, a1, a2⟩ := h1
      obtain ⟨D, b1, b2⟩ := h2
      rw [a2, b2, rc_un a1 b1]
    · rename_i c; rw [if_neg c] at h2; exact h1.trans h2.symm
  rw [if_neg c6] at h1 h2
  exact ⟨h1.1.trans h2.1.symm, h1.2.trans h2.2.symm⟩
theorem jg_un {w n : Nat} : ∀ (r : Nat) (ts : SU) (y y' : Int32), jgC pg w n r ts y → jgC pg w n r ts y' → y' = y := by
  intro r
  induction r with
  | zero => exact fun ts y y' h1 h2 => Eq.trans (show y' = -9 from h2) (Eq.symm (show y = -9 from h1))
  | succ r ih =>
    intro ts y y' h1 h2
    obtain ⟨rr, t2, a1, a2, a3⟩ := h1
    obtain ⟨rr', t2', b1, b2, b3⟩ := h2
    obtain ⟨rfl, rfl⟩ := jd_un a1 b1
    cases rr with
    | true => exact ih _ _ _ (a2 rfl) (b2 rfl)
    | false => exact (b3 rfl).trans (a3 rfl).symm
theorem pi_wipe (hB : bothI G M o m) : PI Γ q_X11_wipe q_X12_wipe [] G M o m := by
  obtain ⟨hm, b, S, V, tx, len, su, hy, kp, ze, sd, hI, hF, hJ⟩ := hB
  exact mkPI hm hF hJ (c_X11_wipe hI) (fun _ f i => c_X12_wipe f i) fe
theorem pi_unsee (hB : bothI G M o m) : PI Γ q_X11_unsee q_X12_unsee [] G M o m := by
  obtain ⟨hm, b, S, V, tx, len, su, hy, kp, ze, sd, hI, hF, hJ⟩ := hB
  exact mkPI hm hF hJ (c_X11_unsee hI) (fun _ f i => c_X12_unsee f i) fe
theorem pi_undo (hB : bothI G M o m) : PI Γ q_X11_undo q_X12_undo [] G M o m := by
  obtain ⟨hm, b, S, V, tx, len, su, hy, kp, ze, sd, hI, hF, hJ⟩ := hB
  exact mkPI hm hF hJ (c_X11_undo hI) (fun _ f i => c_X12_undo f i) fe
theorem pi_write (hB : bothI G M o m) (x : Int32) : PI Γ q_X11_write q_X12_write [.int x] G M o m := by
  obtain ⟨hm, b, S, V, tx, len, su, hy, kp, ze, sd, hI, hF, hJ⟩ := hB
  rcases rg x (k := 256) (by decide) with hx | ⟨n, hn, rfl⟩
  · exact mkPI hm hF hJ (c_X11_write_0 hI hx) (fun _ f i => c_X12_write_0 f i hx) fe
  · exact mkPI hm hF hJ (c_X11_write_1 hI hn) (fun _ f i => c_X12_write_1 f i hn) fe
theorem pi_start (hB : bothI G M o m) (x : Int32) : PI Γ q_X11_start q_X12_start [.int x] G M o m := by
  obtain ⟨hm, b, S, V, tx, len, su, hy, kp, ze, sd, hI, hF, hJ⟩ := hB
  rcases rg x (k := 3) (by decide) with hx | ⟨n, hn, rfl⟩
  · exact mkPI hm hF hJ (c_X11_start_0 hI hx) (fun _ f i => c_X12_start_0 f i hx) fe
  · exact mkPI hm hF hJ (c_X11_start_1 hI hn) (fun _ f i => c_X12_start_1 f i hn) fe
theorem pi_keep (hB : bothI G M o m) (x : Int32) : PI Γ q_X11_keep q_X12_keep [.int x] G M o m := by
  obtain ⟨hm, b, S, V, tx, len, su, hy, kp, ze, sd, hI, hF, hJ⟩ := hB
  rcases rg x (k := 2) (by decide) with hx | ⟨n, hn, rfl⟩
  · exact mkPI hm hF hJ (c_X11_keep_0 hI hx) (fun _ f i => c_X12_keep_0 f i hx) fe
  · exact mkPI hm hF hJ (c_X11_keep_1 hI hn) (fun _ f i => c_X12_keep_1 f i hn) fe
theorem pi_turn (hB : bothI G M o m) (x : Int32) : PI Γ q_X11_turn q_X12_turn [.int x] G M o m := by
  obtain ⟨hm, b, S, V, tx, len, su, hy, kp, ze, sd, hI, hF, hJ⟩ := hB
  rcases rg x (k := V 0 26) (by have := cv_ok hI.1; omega) with hx | ⟨n, hn, rfl⟩
  · exact mkPI hm hF hJ (c_X11_turn_0 hI hx) (fun _ f i => c_X12_turn_0 f i hx) fe
  · exact mkPI hm hF hJ (c_X11_turn_1 hI hn) (fun _ f i => c_X12_turn_1 f i hn) fe
theorem pi_about (hB : bothI G M o m) (x : Int32) : PI Γ q_X11_about q_X12_about [.int x] G M o m := by
  obtain ⟨hm, b, S, V, tx, len, su, hy, kp, ze, sd, hI, hF, hJ⟩ := hB
  rcases rg x (k := 12) (by decide) with hx | ⟨n, hn, rfl⟩
  · exact mkPI hm hF hJ (c_X11_about_0 hI hx) (fun _ f i => c_X12_about_0 f i hx) fe
  · exact mkPI hm hF hJ (c_X11_about_1 hI hn) (fun _ f i => c_X12_about_1 f i hn) ab_un
theorem pi_fewest (hB : bothI G M o m) (x : Int32) : PI Γ q_X11_fewest q_X12_fewest [.int x] G M o m := by
  obtain ⟨hm, b, S, V, tx, len, su, hy, kp, ze, sd, hI, hF, hJ⟩ := hB
  rcases rg x (k := 2) (by decide) with hx | ⟨n, hn, rfl⟩
  · exact mkPI hm hF hJ (c_X11_fewest_0 hI hx) (fun _ f i => c_X12_fewest_0 f i hx) fe
  · exact mkPI hm hF hJ (c_X11_fewest_1 hI hn) (fun _ f i => c_X12_fewest_1 f i hn) fe
theorem pi_which (hB : bothI G M o m) (x : Int32) : PI Γ q_X11_which q_X12_which [.int x] G M o m := by
  obtain ⟨hm, b, S, V, tx, len, su, hy, kp, ze, sd, hI, hF, hJ⟩ := hB
  rcases rg x (k := 2) (by decide) with hx | ⟨n, hn, rfl⟩
  · exact mkPI hm hF hJ (c_X11_which_0 hI hx) (fun _ f i => c_X12_which_0 f i hx) fe
  · exact mkPI hm hF hJ (c_X11_which_1 hI hn) (fun _ f i => c_X12_which_1 f i hn) wh_un
theorem pi_drawn (hB : bothI G M o m) (x : Int32) : PI Γ q_X11_drawn q_X12_drawn [.int x] G M o m := by
  obtain ⟨hm, b, S, V, tx, len, su, hy, kp, ze, sd, hI, hF, hJ⟩ := hB
  rcases rg1 x 20 with hx | ⟨n, hn, rfl⟩
  · exact mkPI hm hF hJ (c_X11_drawn_0 hI hx) (fun _ f i => c_X12_drawn_0 f i hx) fe
  · exact mkPI hm hF hJ (c_X11_drawn_1 hI hn) (fun _ f i => c_X12_drawn_1 f i (okV hI.1.2.2.2.1.2.2.2 hI.1.2.2.2.1.2.1).2.1 hn) fe
theorem pi_again (hB : bothI G M o m) (x : Int32) : PI Γ q_X11_again q_X12_again [.int x] G M o m := by
  obtain ⟨hm, b, S, V, tx, len, su, hy, kp, ze, sd, hI, hF, hJ⟩ := hB
  rcases rg x (k := 2) (by decide) with hx | ⟨n, hn, rfl⟩
  · exact mkPI hm hF hJ (c_X11_again_0 hI hx) (fun _ f i => c_X12_again_0 f i hx) fe
  · cases hk : kp n with
    | none => exact mkPI hm hF hJ (c_X11_again_1 hI hn hk) (fun _ f i => c_X12_again_1 f i hn hk) fe
    | some s => exact mkPI hm hF hJ (c_X11_again_2 hI hn hk) (fun _ f i => c_X12_again_2 f i hn hk) fe
theorem pi_see (hB : bothI G M o m) (x w : Int32) : PI Γ q_X11_see q_X12_see [.int x, .int w] G M o m := by
  obtain ⟨hm, b, S, V, tx, len, su, hy, kp, ze, sd, hI, hF, hJ⟩ := hB
  rcases rg x (k := V 0 23) (by have := cv_ok hI.1; omega) with hx | ⟨n, hn, rfl⟩
  · exact mkPI hm hF hJ (c_X11_see_0 hI hx) (fun _ f i => c_X12_see_0 f i hx) fe
  · rcases rg w (k := 2) (by decide) with hw | ⟨k, hw, rfl⟩
    · exact mkPI hm hF hJ (c_X11_see_1 hI hn hw) (fun _ f i => c_X12_see_1 f i hn hw) fe
    · exact mkPI hm hF hJ (c_X11_see_2 hI hn hw) (fun _ f i => c_X12_see_2 f i hn hw) fe
theorem pi_begin (hB : bothI G M o m) (x w : Int32) : PI Γ q_X11_begin q_X12_begin [.int x, .int w] G M o m := by
  obtain ⟨hm, b, S, V, tx, len, su, hy, kp, ze, sd, hI, hF, hJ⟩ := hB
  rcases rg x (k := 3) (by decide) with hx | ⟨n, hn, rfl⟩
  · exact mkPI hm hF hJ (c_X11_begin_0 hI hx) (fun _ f i => c_X12_begin_0 f i hx) fe
  · rcases rg w (k := 7) (by decide) with hw | ⟨k, hw, rfl⟩
    · exact mkPI hm hF hJ (c_X11_begin_1 hI hn hw) (fun _ f i => c_X12_begin_1 f i hn hw) fe
    · exact mkPI hm hF hJ (c_X11_begin_2 hI hn hw) (fun _ f i => c_X12_begin_2 f i hn hw) fe
theorem pi_loop (hB : bothI G M o m) (x w : Int32) : PI Γ q_X11_loop q_X12_loop [.int x, .int w] G M o m := by
  obtain ⟨hm, b, S, V, tx, len, su, hy, kp, ze, sd, hI, hF, hJ⟩ := hB
  rcases rg x (k := V 0 24) (by have := cv_ok hI.1; omega) with hx | ⟨n, hn, rfl⟩
  · exact mkPI hm hF hJ (c_X11_loop_0 hI hx) (fun _ f i => c_X12_loop_0 f i hx) fe
  · rcases rg w (k := 4) (by decide) with hw | ⟨k, hw, rfl⟩
    · exact mkPI hm hF hJ (c_X11_loop_1 hI hn hw) (fun _ f i => c_X12_loop_1 f i hn hw) fe
    · exact mkPI hm hF hJ (c_X11_loop_2 hI hn hw) (fun _ f i => c_X12_loop_2 f i hn hw) lp_un
theorem pi_check (hB : bothI G M o m) (x w : Int32) : PI Γ q_X11_check q_X12_check [.int x, .int w] G M o m := by
  obtain ⟨hm, b, S, V, tx, len, su, hy, kp, ze, sd, hI, hF, hJ⟩ := hB
  rcases rg x (k := V 0 23) (by have := cv_ok hI.1; omega) with hx | ⟨n, hn, rfl⟩
  · exact mkPI hm hF hJ (c_X11_check_0 hI hx) (fun _ f i => c_X12_check_0 f i hx) fe
  · rcases rg w (k := 4) (by decide) with hw | ⟨k, hw, rfl⟩
    · exact mkPI hm hF hJ (c_X11_check_1 hI hn hw) (fun _ f i => c_X12_check_1 f i hn hw) fe
    · exact mkPI hm hF hJ (c_X11_check_2 hI hn hw) (fun _ f i => c_X12_check_2 f i hn hw) ck_un
theorem pi_falls (hB : bothI G M o m) (x w : Int32) : PI Γ q_X11_falls q_X12_falls [.int x, .int w] G M o m := by
  obtain ⟨hm, b, S, V, tx, len, su, hy, kp, ze, sd, hI, hF, hJ⟩ := hB
  rcases rg x (k := V 0 24) (by have := cv_ok hI.1; omega) with hx | ⟨n, hn, rfl⟩
  · exact mkPI hm hF hJ (c_X11_falls_0 hI hx) (fun _ f i => c_X12_falls_0 f i hx) fe
  · by_cases hw : ∃ k, k < 32 ∧ k &&& actP (pgV V) su = k ∧ w = nI k
    · obtain ⟨k, hk, hs, rfl⟩ := hw
      exact mkPI hm hF hJ (c_X11_falls_2 hI hn hk hs) (fun _ f i => c_X12_falls_2 f i hn hk hs) fe
    · have hx : ∀ k, k < 32 → k &&& actP (pgV V) su = k → w ≠ nI k := fun k hk hs e => hw ⟨k, hk, hs, e⟩
      exact mkPI hm hF hJ (c_X11_falls_1 hI hn hx) (fun _ f i => c_X12_falls_1 f i hn hx) fe
theorem pi_share (hB : bothI G M o m) (x : Int32) (u : Bool) : PI Γ q_X11_share q_X12_share [.int x, .int (b2i u)] G M o m := by
  obtain ⟨hm, b, S, V, tx, len, su, hy, kp, ze, sd, hI, hF, hJ⟩ := hB
  rcases rg x (k := V 0 26) (by have := cv_ok hI.1; omega) with hx | ⟨n, hn, rfl⟩
  · exact mkPI hm hF hJ (c_X11_share_0 hI hx) (fun _ f i => c_X12_share_0 f i hx) fe
  · cases hb : (actP (pgV V) su).testBit n with
    | false => exact mkPI hm hF hJ (c_X11_share_1 hI hn hb) (fun _ f i => c_X12_share_1 f i hn hb) fe
    | true => exact mkPI hm hF hJ (c_X11_share_2 hI hn hb) (fun _ f i => c_X12_share_2 f i hn hb (fun s hs _ => pv_mon hI.1 hs (by have := cv_ok hI.1; omega))) fe
theorem pi_lost (hB : bothI G M o m) (x : Int32) (u : Bool) : PI Γ q_X11_lost q_X12_lost [.int x, .int (b2i u)] G M o m := by
  obtain ⟨hm, b, S, V, tx, len, su, hy, kp, ze, sd, hI, hF, hJ⟩ := hB
  rcases rg x (k := 11) (by decide) with hx | ⟨n, hn, rfl⟩
  · exact mkPI hm hF hJ (c_X11_lost_0 hI hx) (fun _ f i => c_X12_lost_0 f i hx) fe
  · exact mkPI hm hF hJ (c_X11_lost_1 hI hn) (fun _ f i => c_X12_lost_1 f i hn) fe
theorem pi_judge (hB : bothI G M o m) (x : Int32) (w : Int64) : PI Γ q_X11_judge q_X12_judge [.int x, .long w] G M o m := by
  obtain ⟨hm, b, S, V, tx, len, su, hy, kp, ze, sd, hI, hF, hJ⟩ := hB
  rcases rg1 x 4 with hx | ⟨n, hn, rfl⟩
  · exact mkPI hm hF hJ (c_X11_judge_0 hI hx) (fun _ f i => c_X12_judge_0 f i hx) fe
  · by_cases hw : ∃ k, k < 10000 ^ (n + 1) ∧ w = lN k
    · obtain ⟨k, hk, rfl⟩ := hw
      exact mkPI hm hF hJ (c_X11_judge_2 hI hn hk) (fun _ f i => c_X12_judge_2 f i hn hk) (jg_un _ _)
    · have hx : ∀ k, k < 10000 ^ (n + 1) → w ≠ lN k := fun k hk e => hw ⟨k, hk, e⟩
      exact mkPI hm hF hJ (c_X11_judge_1 hI hn hx) (fun _ f i => c_X12_judge_1 f i hn hx) fe
theorem pi_seed (hB : bothI G M o m) (x : Int64) : PL8 Γ q_X11_seed q_X12_seed [.long x] G M o m := by
  obtain ⟨hm, b, S, V, tx, len, su, hy, kp, ze, sd, hI, hF, hJ⟩ := hB
  exact mkPL hm hF hJ (c_X11_seed hI) (fun _ f i => c_X12_seed f i) fe
theorem pi_fault (hB : bothI G M o m) : PI Γ q_X11_fault q_X12_fault [] G M o m := by
  obtain ⟨hm, b, S, V, tx, len, su, hy, kp, ze, sd, hI, hF, hJ⟩ := hB
  obtain ⟨T, hT, ht⟩ := hI.1.2.2.1
  exact mkPI hm hF hJ (c_X11_fault hI hT ht) (fun _ f i => c_X12_fault f i ht) (fun y y' h1 h2 => rdQ_fun h2 h1)
theorem pi_program (hB : bothI G M o m) : PI Γ q_X11_program q_X12_program [] G M o m := by
  obtain ⟨hm, b, S, V, tx, len, su, hy, kp, ze, sd, hI, hF, hJ⟩ := hB
  obtain ⟨T, hT, ht⟩ := hI.1.2.2.1
  refine ⟨_, c_X11_program hI hT ht, fun y M1 hp => ?_⟩
  obtain ⟨y0, p1, p2, p3, p4⟩ := hp
  have f1 := mdF_r (fun j => (p4 m (by omega)).2.2 j) hF
  refine (c_X12_program f1 (mInv_o hm p4 hJ) ht).imp (fun r M2 hr => ?_)
  obtain ⟨y', e, z0, r1, r2, r3, r4⟩ := hr
  have ez := rdQ_fun r1 p1
  by_cases c : y0 = -9
  · obtain ⟨S', s1, s2, s3⟩ := p3 c
    obtain ⟨S2, V2, t1, t2, t3, t4, t5⟩ := r3 (ez.trans c)
    have eS : S2 = S' := Option.some.inj (t1.symm.trans s1)
    subst eS
    exact ⟨y', e, t4.trans s2.symm, hm, _, _, V2, _, _, _, _, _, _, _, cInv_m hm r4 (s3 V2 t2), by rw [r4.1]; exact f1, t5⟩
  · obtain ⟨a1, a2⟩ := p2 c
    obtain ⟨b1, b2⟩ := r2 (fun q => c (ez.symm.trans q))
    exact ⟨y', e, b1.trans a1.symm, hm, _, _, V, _, _, _, _, _, _, _, cInv_m hm r4 a2, by rw [r4.1]; exact f1, b2⟩
end PA
