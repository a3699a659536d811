/-! ===== LoopGuesses: judge ===== -/
theorem eqv {tb : Bool} {v : Nat} (h : v = if tb then 1 else 0) : v ≤ 1 ∧ true = (tb == decide (v = 1)) := by
  cases tb <;> simp at h <;> subst h <;> decide
theorem nev {tb : Bool} {v : Nat} (h : ¬ v = if tb then 1 else 0) (h1 : v ≤ 1) : false = (tb == decide (v = 1)) := by
  rcases (show v = 0 ∨ v = 1 by omega) with rfl | rfl <;> cases tb <;> simp at h ⊢
section JE
variable {pg : PGM} {a e v : Nat} {ts : SU}
theorem jd_e {how : Nat} (h0 : ¬ e = 0) (h5 : ¬ how = 5) (h6 : ¬ how = 6) : jdS pg how a e v ts false ts := by
  rcases (show how = 1 ∨ how = 2 ∨ how = 3 ∨ how = 4 ∨ (how = 0 ∨ 6 < how) by omega) with rfl | rfl | rfl | rfl | q
  · exact jd_f1 (fun q => h0 q.2.1)
  · exact jd_f2 (fun q => h0 q.2.1)
  · exact jd_f3 (fun q => h0 q.2.1)
  · exact jd_f4 (fun q => h0 q.2.1)
  · exact jd_f7 q
theorem jd5_y (h : a < pg.2.2.2.1.1) (h2 : e < pg.2.1.1) (hv : v = if (hsP pg ts a).testBit e then 1 else 0) : jdS pg 5 a e v ts true ts := jd_t5 ⟨h, h2, (eqv hv).1⟩ (eqv hv).2
theorem jd5_n (h : a < pg.2.2.2.1.1) (h2 : e < pg.2.1.1) (hv : ¬ v = if (hsP pg ts a).testBit e then 1 else 0) : jdS pg 5 a e v ts false ts := by
  by_cases q : v ≤ 1
  · exact jd_t5 ⟨h, h2, q⟩ (nev hv q)
  · exact jd_f5 (fun z => q z.2.2)
theorem jd3_y (h : a < pg.2.2.1.1) (hv : v = if (enN (fneS pg.1 pg.2.2.1.2 (lcC pg ts)) 0 pg.2.2.1.1).testBit a then 1 else 0) : jdS pg 3 a 0 v ts true ts := by
  rw [enN_bit, decide_eq_true h, Bool.true_and, Nat.zero_add] at hv
  exact jd_t3 ⟨h, rfl, (eqv hv).1⟩ (eqv hv).2
theorem jd3_n (h : a < pg.2.2.1.1) (hv : ¬ v = if (enN (fneS pg.1 pg.2.2.1.2 (lcC pg ts)) 0 pg.2.2.1.1).testBit a then 1 else 0) : jdS pg 3 a 0 v ts false ts := by
  rw [enN_bit, decide_eq_true h, Bool.true_and, Nat.zero_add] at hv
  by_cases q : v ≤ 1
  · exact jd_t3 ⟨h, rfl, q⟩ (nev hv q)
  · exact jd_f3 (fun z => q z.2.2)
theorem jd4_y (h : a < pg.2.2.1.1) {C : NS} (hC : rchC pg.1 (begS ts.1) C) (hv : v = if (enN (fneS pg.1 pg.2.2.1.2 C) 0 pg.2.2.1.1).testBit a then 1 else 0) : jdS pg 4 a 0 v ts true ts := by
  rw [enN_bit, decide_eq_true h, Bool.true_and, Nat.zero_add] at hv
  exact jd_t4 ⟨h, rfl, (eqv hv).1⟩ hC (eqv hv).2
theorem jd4_n (h : a < pg.2.2.1.1) {C : NS} (hC : rchC pg.1 (begS ts.1) C) (hv : ¬ v = if (enN (fneS pg.1 pg.2.2.1.2 C) 0 pg.2.2.1.1).testBit a then 1 else 0) : jdS pg 4 a 0 v ts false ts := by
  rw [enN_bit, decide_eq_true h, Bool.true_and, Nat.zero_add] at hv
  by_cases q : v ≤ 1
  · exact jd_t4 ⟨h, rfl, q⟩ hC (nev hv q)
  · exact jd_f4 (fun z => q z.2.2)
theorem jd6_all {C : NS} (hC : rchC pg.1 (begS ts.1) C) : jdS pg 6 a e v ts (isSt a e v && C (nA pg.1) (36 * a + 6 * e + v)) ts := by
  by_cases q : a < 6 ∧ e < 6 ∧ v < 6
  · refine jd_t6 q hC ?_
    unfold isSt
    rw [decide_eq_true q.1, decide_eq_true q.2.1, decide_eq_true q.2.2]
    rfl
  · have : isSt a e v = false := by
      unfold isSt
      cases h1 : decide (a < 6) <;> cases h2 : decide (e < 6) <;> cases h3 : decide (v < 6) <;> first | rfl | exact absurd ⟨of_decide_eq_true h1, of_decide_eq_true h2, of_decide_eq_true h3⟩ q
    rw [this]
    exact jd_f6 q
end JE
theorem su_offA {M N : MM} {o : Nat} {t : Nat → Nat} {off : Nat} (h : suIs M (o + 256) t off) (ho : offA (o + 265) M N) : suIs N (o + 256) t off := ⟨((ho.2 _ (by omega)).1 _).trans h.1, ((ho.2 _ (by omega)).1 _).trans h.2.1, ((ho.2 _ (by omega)).1 _).trans h.2.2.1, ((ho.2 _ (by omega)).1 _).trans h.2.2.2⟩
theorem ite01 {tb : Bool} {v : Nat} (hv : v < 10) : nI v = nI (if tb then 1 else 0) ↔ v = if tb then 1 else 0 := nI_eq_iff (by omega) (by split <;> decide)
/-- the supposed setup has been set -/
theorem cInv_su {G : GG} {M : MM} {o : Nat} {b : Bool} {S V : RT} {tx : Nat → Nat} {len : Nat} {su : SU} {hy : HY} {kp : KP} {ze : SE} {sd : Int64} (h : cInv G M o b S V tx len su hy kp ze sd) (t : Nat → Nat) (off : Nat) : cInv G (setSu M (o + 256) t off) o b S V tx len su hy kp ze sd := by
  have hO0 := h.1
  exact cInv_I h rfl (fun a j q => setSu_ne (by omega) (by omega)) (cTx_cg hO0.2.1 (setSu_ne (by omega) (by omega)) (fun j => setSu_ne (by omega) (by omega))) (cSu_cg hO0.2.2.2.2.1 (fun a j q => setSu_ne (by omega) (by omega))) (cHy_cg hO0.2.2.2.2.2.1 (setSu_ne (by omega) (by omega)) (fun j => setSu_ne (by omega) (by omega))) (cKp_cg hO0.2.2.2.2.2.2.1 (fun j => setSu_ne (by omega) (by omega))) (cSe_cg hO0.2.2.2.2.2.2.2.1 (setSu_ne (by omega) (by omega)) (fun a j q => setSu_ne (by omega) (by omega)))
theorem c_X11_stands {Γ : GT} {G : GG} {M : MM} {o : Nat} {b : Bool} {S V : RT} {tx : Nat → Nat} {len : Nat} {su : SU} {hy : HY} {kp : KP} {ze : SE} {sd : Int64} (hI : cInv G M o b S V tx len su hy kp ze sd) {ts : SU} (hT : suIs M (o + 256) ts.1 ts.2) (hS : suOk (V 0 26) ts) {how a e v : Nat} (hh : how < 10) (ha : a < 10) (he : e < 10) (hv : v < 10) : Calls Γ q_X11_stands [.ref o, .int (nI how), .int (nI a), .int (nI e), .int (nI v)] G M (rI (fun y M' => ∃ rr ts2, y = b2i rr ∧ jdS (pgV V) how a e v ts rr ts2 ∧ cInv G M' o b S V tx len su hy kp ze sd ∧ suIs M' (o + 256) ts2.1 ts2.2 ∧ suOk (V 0 26) ts2 ∧ offO o M M' ∧ ∀ j, M'.1 (o + 262) j = M.1 (o + 262) j)) := by
  have hI0 := hI
  obtain ⟨hO, hA⟩ := hI
  have hO0 := hO
  obtain ⟨v22, v23, v24, v25, v26⟩ := cv_ok hO
  have t6 : hs6 ts.1 := ⟨hS.1 0 (by decide), hS.1 1 (by decide), hS.1 2 (by decide)⟩
  have t32 := su32 hS v26
  have hP := hO.2.2.2.1.2
  refine Calls.intro (by decide +kernel) (Nat.le_of_ble_eq_true rfl) (fun z E h hQ => ?_)
  refine x_loc (L' := [some (.ref o), some (.int (nI how)), some (.int (nI a)), some (.int (nI e)), some (.int (nI v))]) rfl ?_
  refine x_iload_n h dX11_stands_0 rfl ?_
  refine x_in5 h dX11_stands_1 ?_
  refine x_icmp_ne h 71 dX11_stands_2 (by decide) (fun c2 => ?_) (fun c2 => ?_)
  · have h5 : ¬ how = 5 := fun q => c2 (by rw [q])
    refine x_iload_n h dX11_stands_71 rfl ?_
    refine x_bipush h (nI 6) (by decide) dX11_stands_72 ?_
    refine x_icmp_ne h 99 dX11_stands_74 (by decide) (fun c74 => ?_) (fun c74 => ?_)
    · have h6 : ¬ how = 6 := fun q => c74 (by rw [q])
      refine x_iload_n h dX11_stands_99 rfl ?_
      refine x_if_eq h 105 dX11_stands_100 (by decide) (fun c100 => ?_) (fun c100 => ?_)
      · obtain rfl : e = 0 := nI_small 0 (by omega) (by decide) (c100.trans nI_0.symm)
        refine x_iload_n h dX11_stands_105 rfl ?_
        rcases (show how = 1 ∨ how = 2 ∨ how = 3 ∨ how = 4 ∨ (how = 0 ∨ 6 < how) by omega) with rfl | rfl | rfl | rfl | hq
        · refine x_tin h 136 dX11_stands_106 (by decide) (by decide) (off := 30) (by decide) (by decide) ?_
          refine x_aload_n h dX11_stands_136 rfl ?_
          refine x_getR h hO.1.1 f_X11_37 rfl (lg_supposed hO.1).1 dX11_stands_137 ?_
          refine x_iload_n h dX11_stands_140 rfl ?_
          refine x_iload h dX11_stands_141 rfl ?_
          refine x_cVi h ci_X8_putStart im_X8_putStart l_X11_220 ⟨Nat.le_of_ble_eq_true rfl, Nat.le_of_ble_eq_true rfl⟩ ⟨rfl, rfl⟩ ⟨Nat.zero_le _, Nat.zero_le _⟩ (c_X8_putStart (lg_supposed hO.1).2 (v := a) (x := v) (by omega) (by omega)) rfl rfl rfl rfl (lg_supposed hO.1).2.1 (by decide) rfl dX11_stands_143 (fun v143 M143 hp143 => ?_)
          have hv1 := hp143.1
          have hM1 := hp143.2
          clear hp143
          rw [hv1]
          clear hv1 v143
          subst hM1
          by_cases q : a < 3 ∧ v ≤ 6
          · rw [if_pos q, decide_eq_true q.1, decide_eq_true q.2]
            exact x_zret h hQ rfl (by decide) dX11_stands_146 ⟨rfl, rfl, _, rfl, true, _, (by decide), jd_t1 ⟨by omega, rfl, q.2⟩, (cInv_I hI0 rfl (fun a j q => by simp only [sI, up2]; rw [if_neg (by omega)]) (cTx_cg hO0.2.1 (by simp only [sI, up2]; rw [if_neg (by omega)]) (fun j => by simp only [sI, up2]; rw [if_neg (by omega)])) (cSu_cg hO0.2.2.2.2.1 (fun a j q => by simp only [sI, up2]; rw [if_neg (by omega)])) (cHy_cg hO0.2.2.2.2.2.1 (by simp only [sI, up2]; rw [if_neg (by omega)]) (fun j => by simp only [sI, up2]; rw [if_neg (by omega)])) (cKp_cg hO0.2.2.2.2.2.2.1 (fun j => by simp only [sI, up2]; rw [if_neg (by omega)])) (cSe_cg hO0.2.2.2.2.2.2.2.1 (by simp only [sI, up2]; rw [if_neg (by omega)]) (fun a j q => by simp only [sI, up2]; rw [if_neg (by omega)]))), suIs_up hT q.1, suOk_up hS q.2, oO_I (oO_refl o M) _ (by omega), fun j => up2_ne _ _ (by omega)⟩
          · rw [if_neg q]
            have e0 : (decide (a < 3) && decide (v ≤ 6)) = false := by
              cases q1 : decide (a < 3) <;> cases q2 : decide (v ≤ 6) <;> first | rfl | exact absurd ⟨of_decide_eq_true q1, of_decide_eq_true q2⟩ q
            rw [e0]
            exact x_zret h hQ rfl (by decide) dX11_stands_146 ⟨rfl, rfl, _, rfl, false, ts, (by decide), jd_f1 (fun z => q ⟨by omega, z.2.2⟩), hI0, hT, hS, oO_refl o M, fun _ => rfl⟩
        · refine x_tin h 147 dX11_stands_106 (by decide) (by decide) (off := 41) (by decide) (by decide) ?_
          refine x_iload_n h dX11_stands_147 rfl ?_
          refine x_aload_n h dX11_stands_148 rfl ?_
          refine x_getR h hO.1.1 f_X11_23 rfl (lg_code hO.1).1 dX11_stands_149 ?_
          refine x_getIv h (lg_code hO.1).2.1 f_X11_114 rfl (cv_g hO) dX11_stands_152 ?_
          refine x_icmp_ge h 175 dX11_stands_155 (by decide) (fun c155 => ?_) (fun c155 => ?_)
          · have h1 : ¬ a < V 0 26 := by
              have := (nI_le_iff (by omega) (by omega)).mp c155
              omega
            refine x_ic0 h dX11_stands_175 ?_
            exact x_zret h hQ rfl (by decide) dX11_stands_176 ⟨rfl, rfl, _, rfl, false, ts, (by decide), jd_f2 (fun z => h1 z.1), hI0, hT, hS, oO_refl o M, fun _ => rfl⟩
          · have h1 : a < V 0 26 := by
              have := mt (nI_le_iff (a := V 0 26) (b := a) (by omega) (by omega)).mpr c155
              omega
            refine x_aload_n h dX11_stands_158 rfl ?_
            refine x_getR h hO.1.1 f_X11_37 rfl (lg_supposed hO.1).1 dX11_stands_159 ?_
            refine x_iload_n h dX11_stands_162 rfl ?_
            refine x_iload h dX11_stands_163 rfl ?_
            refine x_cVi h ci_X8_putOff im_X8_putOff l_X11_224 ⟨Nat.le_of_ble_eq_true rfl, Nat.le_of_ble_eq_true rfl⟩ ⟨rfl, rfl⟩ ⟨Nat.zero_le _, Nat.zero_le _⟩ (c_X8_putOff (lg_supposed hO.1).2 hT t32 (gu := a) (b := v) (by omega) (by omega)) rfl rfl rfl rfl (lg_supposed hO.1).2.1 (by decide) rfl dX11_stands_165 (fun v165 M165 hp165 => ?_)
            have hv1 := hp165.1
            have hM1 := hp165.2
            clear hp165
            rw [hv1]
            clear hv1 v165
            subst hM1
            refine x_if_eq h 175 dX11_stands_168 (by decide) (fun c168 => ?_) (fun c168 => ?_)
            · have hb := b2i_0.mp c168
              refine x_ic0 h dX11_stands_175 ?_
              have q : ¬ v ≤ 1 := of_decide_eq_false hb
              rw [if_neg q]
              exact x_zret h hQ rfl (by decide) dX11_stands_176 ⟨rfl, rfl, _, rfl, false, ts, (by decide), jd_f2 (fun z => q z.2.2), hI0, hT, hS, oO_refl o M, fun _ => rfl⟩
            · have hb := bool_nf (fun q => c168 (b2i_0.mpr q))
              refine x_in1 h dX11_stands_171 ?_
              refine x_goto h 176 dX11_stands_172 (by decide) ?_
              have q := of_decide_eq_true hb
              rw [if_pos q]
              exact x_zret h hQ rfl (by decide) dX11_stands_176 ⟨rfl, rfl, _, rfl, true, _, (by decide), jd_t2 ⟨h1, rfl, q⟩, (cInv_I hI0 rfl (fun a j q => by simp only [sI, up2]; rw [if_neg (by omega)]) (cTx_cg hO0.2.1 (by simp only [sI, up2]; rw [if_neg (by omega)]) (fun j => by simp only [sI, up2]; rw [if_neg (by omega)])) (cSu_cg hO0.2.2.2.2.1 (fun a j q => by simp only [sI, up2]; rw [if_neg (by omega)])) (cHy_cg hO0.2.2.2.2.2.1 (by simp only [sI, up2]; rw [if_neg (by omega)]) (fun j => by simp only [sI, up2]; rw [if_neg (by omega)])) (cKp_cg hO0.2.2.2.2.2.2.1 (fun j => by simp only [sI, up2]; rw [if_neg (by omega)])) (cSe_cg hO0.2.2.2.2.2.2.2.1 (by simp only [sI, up2]; rw [if_neg (by omega)]) (fun a j q => by simp only [sI, up2]; rw [if_neg (by omega)]))), ⟨(up2_ne _ _ (by omega)).trans hT.1, (up2_ne _ _ (by omega)).trans hT.2.1, (up2_ne _ _ (by omega)).trans hT.2.2.1, up2_self _ _ _ _⟩, ⟨hS.1, offP_lt v hS.2 h1⟩, oO_I (oO_refl o M) _ (by omega), fun j => up2_ne _ _ (by omega)⟩
        · refine x_tin h 177 dX11_stands_106 (by decide) (by decide) (off := 71) (by decide) (by decide) ?_
          refine x_iload_n h dX11_stands_177 rfl ?_
          refine x_aload_n h dX11_stands_178 rfl ?_
          refine x_getR h hO.1.1 f_X11_23 rfl (lg_code hO.1).1 dX11_stands_179 ?_
          refine x_getIv h (lg_code hO.1).2.1 f_X11_105 rfl (cv_k hO) dX11_stands_182 ?_
          refine x_icmp_ge h 220 dX11_stands_185 (by decide) (fun c185 => ?_) (fun c185 => ?_)
          · have h1 : ¬ a < V 0 23 := by
              have := (nI_le_iff (by omega) (by omega)).mp c185
              omega
            refine x_ic0 h dX11_stands_220 ?_
            exact x_zret h hQ rfl (by decide) dX11_stands_221 ⟨rfl, rfl, _, rfl, false, ts, (by decide), jd_f3 (fun q => h1 q.1), hI0, hT, hS, oO_refl o M, fun _ => rfl⟩
          · have h1 : a < V 0 23 := by
              have := mt (nI_le_iff (a := V 0 23) (b := a) (by omega) (by omega)).mpr c185
              omega
            refine x_iload h dX11_stands_188 rfl ?_
            refine x_aload_n h dX11_stands_190 rfl ?_
            refine x_aload_n h dX11_stands_191 rfl ?_
            refine x_getR h hO.1.1 f_X11_37 rfl (lg_supposed hO.1).1 dX11_stands_192 ?_
            refine x_cVr h ci_X11_view im_X11_view l_X11_120 ⟨Nat.le_of_ble_eq_true rfl, Nat.le_of_ble_eq_true rfl⟩ ⟨rfl, rfl⟩ ⟨Nat.zero_le _, Nat.zero_le _⟩ (c_X11_view hI0 (lg_supposed hO.1).2 hT t6 (by omega)) rfl rfl rfl rfl hO.1.1 (by decide) rfl dX11_stands_195 (fun v195 M195 hp195 => ?_)
            obtain ⟨rfl, ⟨hO, hK⟩, ho195⟩ := hp195
            have hT := su_offA hT ho195
            have hl195 := fun j => (ho195.2 (o + 262) (by omega)).1 j
            refine x_aload_n h dX11_stands_198 rfl ?_
            refine x_aload_n h dX11_stands_199 rfl ?_
            refine x_getR h hO.1.1 f_X11_37 rfl (lg_supposed hO.1).1 dX11_stands_200 ?_
            refine x_cVi h ci_X11_active im_X11_active l_X11_124 ⟨Nat.le_of_ble_eq_true rfl, Nat.le_of_ble_eq_true rfl⟩ ⟨rfl, rfl⟩ ⟨Nat.zero_le _, Nat.zero_le _⟩ (c_X11_active hO (lg_supposed hO.1).2.1 hT.2.2.2 t32) rfl rfl rfl rfl hO.1.1 (by decide) rfl dX11_stands_203 (fun v203 M203 hp203 => ?_)
            obtain ⟨rfl, hM⟩ := hp203
            obtain rfl := hM.symm
            clear hM
            refine x_cVi h ci_X0_proved im_X0_proved l_X11_128 ⟨Nat.le_of_ble_eq_true rfl, Nat.le_of_ble_eq_true rfl⟩ ⟨rfl, rfl⟩ ⟨Nat.zero_le _, Nat.zero_le _⟩ (s_proved hK (act_lt _ _)) rfl rfl rfl rfl (lg_analysis hO.1).2.1 (by decide) rfl dX11_stands_206 (fun v206 M206 hp206 => ?_)
            obtain ⟨rfl, hK, ho206⟩ := hp206
            have hO := cO_off hO ho206
            have hT := su_offA hT ho206
            have hl206 := fun j => (ho206.2 (o + 262) (by omega)).1 j
            refine x_iload_n h dX11_stands_209 rfl ?_
            refine x_ishr h dX11_stands_210 ?_
            refine x_in1 h dX11_stands_211 ?_
            refine x_iand h dX11_stands_212 ?_
            refine x_topi (bit5 _ (pvV_lt hP _ _) a (by omega)) ?_
            refine x_icmp_ne h 220 dX11_stands_213 (by decide) (fun c213 => ?_) (fun c213 => ?_)
            · have hc : ¬ v = if (pvV V ts.1 (actP (pgV V) ts)).testBit a then 1 else 0 := fun q => c213 (congrArg nI q)
              refine x_ic0 h dX11_stands_220 ?_
              exact x_zret h hQ rfl (by decide) dX11_stands_221 ⟨rfl, rfl, _, rfl, false, ts, (by decide), jd3_n h1 hc, (cKn_I ⟨hO, hK⟩), hT, hS, (oO_trans (oO_A ho195) (oO_A ho206)), fun j => (hl206 j).trans (hl195 j)⟩
            · have hc : v = if (pvV V ts.1 (actP (pgV V) ts)).testBit a then 1 else 0 := (ite01 hv).mp c213
              refine x_in1 h dX11_stands_216 ?_
              refine x_goto h 221 dX11_stands_217 (by decide) ?_
              exact x_zret h hQ rfl (by decide) dX11_stands_221 ⟨rfl, rfl, _, rfl, true, ts, (by decide), jd3_y h1 hc, (cKn_I ⟨hO, hK⟩), hT, hS, (oO_trans (oO_A ho195) (oO_A ho206)), fun j => (hl206 j).trans (hl195 j)⟩
        · refine x_tin h 222 dX11_stands_106 (by decide) (by decide) (off := 116) (by decide) (by decide) ?_
          refine x_iload_n h dX11_stands_222 rfl ?_
          refine x_aload_n h dX11_stands_223 rfl ?_
          refine x_getR h hO.1.1 f_X11_23 rfl (lg_code hO.1).1 dX11_stands_224 ?_
          refine x_getIv h (lg_code hO.1).2.1 f_X11_105 rfl (cv_k hO) dX11_stands_227 ?_
          refine x_icmp_ge h 264 dX11_stands_230 (by decide) (fun c230 => ?_) (fun c230 => ?_)
          · have h1 : ¬ a < V 0 23 := by
              have := (nI_le_iff (by omega) (by omega)).mp c230
              omega
            refine x_ic0 h dX11_stands_264 ?_
            exact x_zret h hQ rfl (by decide) dX11_stands_265 ⟨rfl, rfl, _, rfl, false, ts, (by decide), jd_f4 (fun q => h1 q.1), hI0, hT, hS, oO_refl o M, fun _ => rfl⟩
          · have h1 : a < V 0 23 := by
              have := mt (nI_le_iff (a := V 0 23) (b := a) (by omega) (by omega)).mpr c230
              omega
            refine x_iload h dX11_stands_233 rfl ?_
            refine x_aload_n h dX11_stands_235 rfl ?_
            refine x_getR h hO.1.1 f_X11_23 rfl (lg_code hO.1).1 dX11_stands_236 ?_
            refine x_aload_n h dX11_stands_239 rfl ?_
            refine x_aload_n h dX11_stands_240 rfl ?_
            refine x_getR h hO.1.1 f_X11_37 rfl (lg_supposed hO.1).1 dX11_stands_241 ?_
            refine x_cVr h ci_X11_view im_X11_view l_X11_120 ⟨Nat.le_of_ble_eq_true rfl, Nat.le_of_ble_eq_true rfl⟩ ⟨rfl, rfl⟩ ⟨Nat.zero_le _, Nat.zero_le _⟩ (c_X11_view hI0 (lg_supposed hO.1).2 hT t6 (by omega)) rfl rfl rfl rfl hO.1.1 (by decide) rfl dX11_stands_244 (fun v244 M244 hp244 => ?_)
            obtain ⟨rfl, ⟨hO, hK⟩, ho244⟩ := hp244
            have hT := su_offA hT ho244
            have hl244 := fun j => (ho244.2 (o + 262) (by omega)).1 j
            refine x_cVr h ci_X0_reached im_X0_reached l_X11_132 ⟨Nat.le_of_ble_eq_true rfl, Nat.le_of_ble_eq_true rfl⟩ ⟨rfl, rfl⟩ ⟨Nat.zero_le _, Nat.zero_le _⟩ (s_reached hK) rfl rfl rfl rfl (lg_analysis hO.1).2.1 (by decide) rfl dX11_stands_247 (fun v247 M247 hp247 => ?_)
            obtain ⟨rfl, hK, ho247, h4⟩ := hp247
            have hO := cO_off hO ho247
            have hT := su_offA hT ho247
            have hl247 := fun j => (ho247.2 (o + 262) (by omega)).1 j
            refine x_cVi h ci_X2_fulfilled im_X2_fulfilled l_X11_136 ⟨Nat.le_of_ble_eq_true rfl, Nat.le_of_ble_eq_true rfl⟩ ⟨rfl, rfl⟩ ⟨Nat.zero_le _, Nat.zero_le _⟩ (s_fulfilled hK h4) rfl rfl rfl rfl (lg_code hO.1).2.1 (by decide) rfl dX11_stands_250 (fun v250 M250 hp250 => ?_)
            have hv := hp250.1
            have hM := hp250.2
            clear hp250
            rw [hv]
            clear hv v250
            obtain rfl := hM.symm
            clear hM
            refine x_iload_n h dX11_stands_253 rfl ?_
            refine x_ishr h dX11_stands_254 ?_
            refine x_in1 h dX11_stands_255 ?_
            refine x_iand h dX11_stands_256 ?_
            refine x_topi (bit5 _ (Nat.lt_of_lt_of_le (enN_lt _ _ _) (show 2 ^ V 0 23 ≤ 2 ^ 5 from Nat.pow_le_pow_right (by decide) (by omega))) a (by omega)) ?_
            refine x_icmp_ne h 264 dX11_stands_257 (by decide) (fun c257 => ?_) (fun c257 => ?_)
            · have hc : ¬ v = if (enN (fneS (pgV V).1 (pgV V).2.2.1.2 (rcC (pgV V).1 (begS ts.1))) 0 (V 0 23)).testBit a then 1 else 0 := fun q => c257 (congrArg nI q)
              refine x_ic0 h dX11_stands_264 ?_
              exact x_zret h hQ rfl (by decide) dX11_stands_265 ⟨rfl, rfl, _, rfl, false, ts, (by decide), jd4_n h1 (rcC_ok _ _) hc, (cKn_I ⟨hO, hK⟩), hT, hS, (oO_trans (oO_A ho244) (oO_A ho247)), fun j => (hl247 j).trans (hl244 j)⟩
            · have hc : v = if (enN (fneS (pgV V).1 (pgV V).2.2.1.2 (rcC (pgV V).1 (begS ts.1))) 0 (V 0 23)).testBit a then 1 else 0 := (ite01 hv).mp c257
              refine x_in1 h dX11_stands_260 ?_
              refine x_goto h 265 dX11_stands_261 (by decide) ?_
              exact x_zret h hQ rfl (by decide) dX11_stands_265 ⟨rfl, rfl, _, rfl, true, ts, (by decide), jd4_y h1 (rcC_ok _ _) hc, (cKn_I ⟨hO, hK⟩), hT, hS, (oO_trans (oO_A ho244) (oO_A ho247)), fun j => (hl247 j).trans (hl244 j)⟩
        · refine x_tout h 266 dX11_stands_106 (by rw [nI_toInt (by omega)]; omega) (by decide) ?_
          refine x_ic0 h dX11_stands_266 ?_
          exact x_zret h hQ rfl (by decide) dX11_stands_267 ⟨rfl, rfl, _, rfl, false, ts, (by decide), jd_f7 hq, hI0, hT, hS, oO_refl o M, fun _ => rfl⟩
      · have h0 : ¬ e = 0 := fun q => c100 (by rw [q]; exact nI_0)
        refine x_ic0 h dX11_stands_103 ?_
        exact x_zret h hQ rfl (by decide) dX11_stands_104 ⟨rfl, rfl, _, rfl, false, ts, (by decide), jd_e h0 h5 h6, hI0, hT, hS, oO_refl o M, fun _ => rfl⟩
    · obtain rfl : how = 6 := nI_small 6 (by omega) (by decide) c74
      refine x_aload_n h dX11_stands_77 rfl ?_
      refine x_aload_n h dX11_stands_78 rfl ?_
      refine x_getR h hO.1.1 f_X11_37 rfl (lg_supposed hO.1).1 dX11_stands_79 ?_
      refine x_cVr h ci_X11_view im_X11_view l_X11_120 ⟨Nat.le_of_ble_eq_true rfl, Nat.le_of_ble_eq_true rfl⟩ ⟨rfl, rfl⟩ ⟨Nat.zero_le _, Nat.zero_le _⟩ (c_X11_view hI0 (lg_supposed hO.1).2 hT t6 (by omega)) rfl rfl rfl rfl hO.1.1 (by decide) rfl dX11_stands_82 (fun v82 M82 hp82 => ?_)
      obtain ⟨rfl, ⟨hO, hK⟩, ho82⟩ := hp82
      have hT := su_offA hT ho82
      have hl82 := fun j => (ho82.2 (o + 262) (by omega)).1 j
      refine x_cVr h ci_X0_reached im_X0_reached l_X11_132 ⟨Nat.le_of_ble_eq_true rfl, Nat.le_of_ble_eq_true rfl⟩ ⟨rfl, rfl⟩ ⟨Nat.zero_le _, Nat.zero_le _⟩ (s_reached hK) rfl rfl rfl rfl (lg_analysis hO.1).2.1 (by decide) rfl dX11_stands_85 (fun v85 M85 hp85 => ?_)
      obtain ⟨rfl, hK, ho85, h4⟩ := hp85
      have hO := cO_off hO ho85
      have hT := su_offA hT ho85
      have hl85 := fun j => (ho85.2 (o + 262) (by omega)).1 j
      obtain ⟨σ, hσ, htr, hfi⟩ := rc_of hK h4
      refine x_getR h (an_fl (lg_analysis hO.1).2).1 f_X11_150 rfl (fw_now (an_fl (lg_analysis hO.1).2)).1 dX11_stands_88 ?_
      refine x_iload_n h dX11_stands_91 rfl ?_
      refine x_iload_n h dX11_stands_92 rfl ?_
      refine x_iload h dX11_stands_93 rfl ?_
      refine x_cVi h ci_X9_has im_X9_has l_X11_216 ⟨Nat.le_of_ble_eq_true rfl, Nat.le_of_ble_eq_true rfl⟩ ⟨rfl, rfl⟩ ⟨Nat.zero_le _, Nat.zero_le _⟩ (c_X9_has (fw_now (an_fl hK.1.1)).2.1 (fi_now hK.1 (an_fl hK.1.1) hσ hfi) (by omega) (by omega) (by omega)) rfl rfl rfl rfl (fw_now (an_fl (lg_analysis hO.1).2)).2.1.1 (by decide) rfl dX11_stands_95 (fun v95 M95 hp95 => ?_)
      have hv := hp95.1
      have hM := hp95.2
      clear hp95
      rw [hv]
      clear hv v95
      obtain rfl := hM.symm
      clear hM
      exact x_zret h hQ rfl (b2i_01 _) dX11_stands_98 ⟨rfl, rfl, _, rfl, _, ts, rfl, jd6_all (rcC_ok _ _), (cKn_I ⟨hO, hK⟩), hT, hS, (oO_trans (oO_A ho82) (oO_A ho85)), fun j => (hl85 j).trans (hl82 j)⟩
  · obtain rfl : how = 5 := nI_small 5 (by omega) (by decide) c2
    refine x_iload_n h dX11_stands_5 rfl ?_
    refine x_aload_n h dX11_stands_6 rfl ?_
    refine x_getR h hO.1.1 f_X11_23 rfl (lg_code hO.1).1 dX11_stands_7 ?_
    refine x_getIv h (lg_code hO.1).2.1 f_X11_108 rfl (cv_l hO) dX11_stands_10 ?_
    refine x_icmp_ge h 69 dX11_stands_13 (by decide) (fun c13 => ?_) (fun c13 => ?_)
    · have h1 : ¬ a < V 0 24 := by
        have := (nI_le_iff (by omega) (by omega)).mp c13
        omega
      refine x_ic0 h dX11_stands_69 ?_
      exact x_zret h hQ rfl (by decide) dX11_stands_70 ⟨rfl, rfl, _, rfl, false, ts, (by decide), jd_f5 (fun q => h1 q.1), hI0, hT, hS, oO_refl o M, fun _ => rfl⟩
    · have h1 : a < V 0 24 := by
        have := mt (nI_le_iff (a := V 0 24) (b := a) (by omega) (by omega)).mpr c13
        omega
      refine x_iload_n h dX11_stands_16 rfl ?_
      refine x_in3 h dX11_stands_17 ?_
      refine x_icmp_ge h 69 dX11_stands_18 (by decide) (fun c18 => ?_) (fun c18 => ?_)
      · exact absurd ((nI_le_iff (by decide) (by omega)).mp c18) (by omega)
      · refine x_iload_n h dX11_stands_21 rfl ?_
        refine x_aload_n h dX11_stands_22 rfl ?_
        refine x_getR h hO.1.1 f_X11_23 rfl (lg_code hO.1).1 dX11_stands_23 ?_
        refine x_getIv h (lg_code hO.1).2.1 f_X11_114 rfl (cv_g hO) dX11_stands_26 ?_
        refine x_icmp_ge h 69 dX11_stands_29 (by decide) (fun c29 => ?_) (fun c29 => ?_)
        · have h2 : ¬ e < V 0 26 := by
            have := (nI_le_iff (by omega) (by omega)).mp c29
            omega
          refine x_ic0 h dX11_stands_69 ?_
          exact x_zret h hQ rfl (by decide) dX11_stands_70 ⟨rfl, rfl, _, rfl, false, ts, (by decide), jd_f5 (fun q => h2 q.2.1), hI0, hT, hS, oO_refl o M, fun _ => rfl⟩
        · have h2 : e < V 0 26 := by
            have := mt (nI_le_iff (a := V 0 26) (b := e) (by omega) (by omega)).mpr c29
            omega
          refine x_iload h dX11_stands_32 rfl ?_
          refine x_aload_n h dX11_stands_34 rfl ?_
          refine x_aload_n h dX11_stands_35 rfl ?_
          refine x_getR h hO.1.1 f_X11_37 rfl (lg_supposed hO.1).1 dX11_stands_36 ?_
          refine x_cVr h ci_X11_view im_X11_view l_X11_120 ⟨Nat.le_of_ble_eq_true rfl, Nat.le_of_ble_eq_true rfl⟩ ⟨rfl, rfl⟩ ⟨Nat.zero_le _, Nat.zero_le _⟩ (c_X11_view hI0 (lg_supposed hO.1).2 hT t6 (by omega)) rfl rfl rfl rfl hO.1.1 (by decide) rfl dX11_stands_39 (fun v39 M39 hp39 => ?_)
          obtain ⟨rfl, ⟨hO, hK⟩, ho39⟩ := hp39
          have hT := su_offA hT ho39
          have hl39 := fun j => (ho39.2 (o + 262) (by omega)).1 j
          refine x_aload_n h dX11_stands_42 rfl ?_
          refine x_aload_n h dX11_stands_43 rfl ?_
          refine x_getR h hO.1.1 f_X11_37 rfl (lg_supposed hO.1).1 dX11_stands_44 ?_
          refine x_cVi h ci_X11_active im_X11_active l_X11_124 ⟨Nat.le_of_ble_eq_true rfl, Nat.le_of_ble_eq_true rfl⟩ ⟨rfl, rfl⟩ ⟨Nat.zero_le _, Nat.zero_le _⟩ (c_X11_active hO (lg_supposed hO.1).2.1 hT.2.2.2 t32) rfl rfl rfl rfl hO.1.1 (by decide) rfl dX11_stands_47 (fun v47 M47 hp47 => ?_)
          obtain ⟨rfl, hM⟩ := hp47
          obtain rfl := hM.symm
          clear hM
          refine x_cVr h ci_X0_invariants im_X0_invariants l_X11_140 ⟨Nat.le_of_ble_eq_true rfl, Nat.le_of_ble_eq_true rfl⟩ ⟨rfl, rfl⟩ ⟨Nat.zero_le _, Nat.zero_le _⟩ (s_invariants hK (act_lt _ _)) rfl rfl rfl rfl (lg_analysis hO.1).2.1 (by decide) rfl dX11_stands_50 (fun v50 M50 hp50 => ?_)
          obtain ⟨rfl, hK, ho50, h6n⟩ := hp50
          have hO := cO_off hO ho50
          have hT := su_offA hT ho50
          have hl50 := fun j => (ho50.2 (o + 262) (by omega)).1 j
          obtain ⟨σ, hσ, htr, hiv⟩ := iv_of hK h6n (act_lt _ _)
          refine x_getR h (an_iv (lg_analysis hO.1).2).1 f_X11_166 rfl (an_iv (lg_analysis hO.1).2).2.2.2.1 dX11_stands_53 ?_
          refine x_iload_n h dX11_stands_56 rfl ?_
          refine x_ialdv h a (an_iv (lg_analysis hO.1).2).2.2.2.2 (ix.ni (by omega) (by decide)) (show _ = nI (hsP (pgV V) ts a) from hiv.1 a (by omega)) dX11_stands_57 ?_
          refine x_iload_n h dX11_stands_58 rfl ?_
          refine x_ishr h dX11_stands_59 ?_
          refine x_in1 h dX11_stands_60 ?_
          refine x_iand h dX11_stands_61 ?_
          refine x_topi (bit5 _ (it_lt (actP_lt ts v26) 15 a) e (by omega)) ?_
          refine x_icmp_ne h 69 dX11_stands_62 (by decide) (fun c62 => ?_) (fun c62 => ?_)
          · have hc : ¬ v = if (hsP (pgV V) ts a).testBit e then 1 else 0 := fun q => c62 (congrArg nI q)
            refine x_ic0 h dX11_stands_69 ?_
            exact x_zret h hQ rfl (by decide) dX11_stands_70 ⟨rfl, rfl, _, rfl, false, ts, (by decide), jd5_n h1 h2 hc, (cKn_I ⟨hO, hK⟩), hT, hS, (oO_trans (oO_A ho39) (oO_A ho50)), fun j => (hl50 j).trans (hl39 j)⟩
          · have hc : v = if (hsP (pgV V) ts a).testBit e then 1 else 0 := (ite01 hv).mp c62
            refine x_in1 h dX11_stands_65 ?_
            refine x_goto h 70 dX11_stands_66 (by decide) ?_
            exact x_zret h hQ rfl (by decide) dX11_stands_70 ⟨rfl, rfl, _, rfl, true, ts, (by decide), jd5_y h1 h2 hc, (cKn_I ⟨hO, hK⟩), hT, hS, (oO_trans (oO_A ho39) (oO_A ho50)), fun j => (hl50 j).trans (hl39 j)⟩
theorem c_X11_judge_0 {Γ : GT} {G : GG} {M : MM} {o : Nat} {b : Bool} {S V : RT} {tx : Nat → Nat} {len : Nat} {su : SU} {hy : HY} {kp : KP} {ze : SE} {sd : Int64} (hI : cInv G M o b S V tx len su hy kp ze sd) {x : Int32} {w : Int64} (hx : ∀ n, n < 4 → x ≠ nI (n + 1)) : Calls Γ q_X11_judge [.ref o, .int x, .long w] G M (rI (fun y M' => y = -2 ∧ cInv G M' o b S V (tx) (len) (su) (hy) (kp) (ze) (sd) ∧ offO o M M')) := by
  have hI0 := hI
  obtain ⟨hO, hA⟩ := hI
  have hO0 := hO
  obtain ⟨v22, v23, v24, v25, v26⟩ := cv_ok hO
  refine Calls.intro (by decide +kernel) (Nat.le_of_ble_eq_true rfl) (fun z E h hQ => ?_)
  refine x_loc (L' := [some (.ref o), some (.int x), some (.long w), none, none, none, none, none]) rfl ?_
  refine x_iload_n h dX11_judge_0 rfl ?_
  refine x_in1 h dX11_judge_1 ?_
  refine x_icmp_lt h 10 dX11_judge_2 (by decide) (fun c2 => ?_) (fun c2 => ?_)
  · refine x_bipush h (-2) (by decide) dX11_judge_10 ?_
    exact x_iret h hQ rfl dX11_judge_12 ⟨rfl, rfl, _, rfl, rfl, hI0, oO_refl o M⟩
  · refine x_iload_n h dX11_judge_5 rfl ?_
    refine x_in4 h dX11_judge_6 ?_
    refine x_icmp_le h 13 dX11_judge_7 (by decide) (fun c7 => ?_) (fun c7 => ?_)
    · exact absurd c7 (rng1 hx c2)
    · refine x_bipush h (-2) (by decide) dX11_judge_10 ?_
      exact x_iret h hQ rfl dX11_judge_12 ⟨rfl, rfl, _, rfl, rfl, hI0, oO_refl o M⟩
/-- a line has been set -/
theorem cInv_ln {G : GG} {M : MM} {o : Nat} {b : Bool} {S V : RT} {tx : Nat → Nat} {len : Nat} {su : SU} {hy : HY} {kp : KP} {ze : SE} {sd : Int64} (h : cInv G M o b S V tx len su hy kp ze sd) (k : Nat) (x : Int32) : cInv G (sI M (o + 262) k x) o b S V tx len su hy kp ze sd := by
  have hI0 := h
  obtain ⟨hO0, -⟩ := h
  exact (cInv_I hI0 rfl (fun a j q => by simp only [sI, up2]; rw [if_neg (by omega)]) (cTx_cg hO0.2.1 (by simp only [sI, up2]; rw [if_neg (by omega)]) (fun j => by simp only [sI, up2]; rw [if_neg (by omega)])) (cSu_cg hO0.2.2.2.2.1 (fun a j q => by simp only [sI, up2]; rw [if_neg (by omega)])) (cHy_cg hO0.2.2.2.2.2.1 (by simp only [sI, up2]; rw [if_neg (by omega)]) (fun j => by simp only [sI, up2]; rw [if_neg (by omega)])) (cKp_cg hO0.2.2.2.2.2.2.1 (fun j => by simp only [sI, up2]; rw [if_neg (by omega)])) (cSe_cg hO0.2.2.2.2.2.2.2.1 (by simp only [sI, up2]; rw [if_neg (by omega)]) (fun a j q => by simp only [sI, up2]; rw [if_neg (by omega)])))
theorem c_X11_judge_1 {Γ : GT} {G : GG} {M : MM} {o : Nat} {b : Bool} {S V : RT} {tx : Nat → Nat} {len : Nat} {su : SU} {hy : HY} {kp : KP} {ze : SE} {sd : Int64} (hI : cInv G M o b S V tx len su hy kp ze sd) {n : Nat} {w0 : Int64} (hn : n < 4) (hw : ∀ k, k < 10000 ^ (n + 1) → w0 ≠ lN k) : Calls Γ q_X11_judge [.ref o, .int (nI (n + 1)), .long w0] G M (rI (fun y M' => y = -2 ∧ cInv G M' o b S V (tx) (len) (su) (hy) (kp) (ze) (sd) ∧ offO o M M')) := by
  have hI0 := hI
  obtain ⟨hO, hA⟩ := hI
  have hO0 := hO
  obtain ⟨v22, v23, v24, v25, v26⟩ := cv_ok hO
  refine Calls.intro (by decide +kernel) (Nat.le_of_ble_eq_true rfl) (fun z E h hQ => ?_)
  refine x_loc (L' := [some (.ref o), some (.int (nI (n + 1))), some (.long w0), none, none, none, none, none]) rfl ?_
  have p4 := t4_lt (n + 1) (by omega)
  by_cases neg : w0 < 0
  · have loopB : ∀ j, j ≤ n + 1 → ∀ (N : MM) (rs : Int64), cInv G N o b S V tx len su hy kp ze sd → offO o M N → X Γ E 0 0 G z N 21 [some (.ref o), some (.int (nI (n + 1))), some (.long w0), none, some (.long rs), none, some (.int (if j < n + 1 then nI (n + 1 - 1 - j) else -1)), none] [] := by
      refine upto (n + 1) (fun j hj ih N rs hI1 ho => ?_)
      have hO := hI1.1
      refine x_iload h dX11_judge_21 rfl ?_
      refine x_if_lt h 64 dX11_judge_23 (by decide) (fun c23 => ?_) (fun c23 => ?_)
      · obtain rfl : j = n + 1 := by
          rcases Nat.lt_or_ge j (n + 1) with q | q
          · rw [if_pos q] at c23; exact (nI_nneg (by omega) c23).elim
          · omega
        refine x_lload_n h dX11_judge_64 rfl ?_
        refine x_lc0 h dX11_judge_65 ?_
        refine x_lcmp h dX11_judge_66 ?_
        refine x_if_lt h 77 dX11_judge_67 (by decide) (fun c67 => ?_) (fun c67 => ?_)
        · refine x_bipush h (-2) (by decide) dX11_judge_77 ?_
          exact x_iret h hQ rfl dX11_judge_79 ⟨rfl, rfl, _, rfl, rfl, hI1, ho⟩
        · exact absurd ((lg_cmp_lt _ _).mpr neg) c67
      · have hjl : j < n + 1 := by
          rcases Nat.lt_or_ge j (n + 1) with q | q
          · exact q
          · rw [if_neg (by omega)] at c23; exact absurd (by decide) c23
        rw [if_pos hjl]
        refine x_iload h dX11_judge_26 rfl ?_
        refine x_aload_n h dX11_judge_28 rfl ?_
        refine x_getR h hO.1.1 f_X11_53 rfl (lg_lines hO.1).1 dX11_judge_29 ?_
        refine x_alen h (lg_lines hO.1).2 (by decide) dX11_judge_32 ?_
        refine x_icmp_ge h 64 dX11_judge_33 (by decide) (fun c33 => ?_) (fun c33 => ?_)
        · exact absurd ((nI_le_iff (by omega) (by omega)).mp c33) (by omega)
        · refine x_aload_n h dX11_judge_36 rfl ?_
          refine x_getR h hO.1.1 f_X11_53 rfl (lg_lines hO.1).1 dX11_judge_37 ?_
          refine x_iload h dX11_judge_40 rfl ?_
          refine x_lload h dX11_judge_42 rfl ?_
          refine x_ldc2 h kl_X11_210 dX11_judge_44 ?_
          refine x_lrem h (by decide) dX11_judge_47 ?_
          refine x_l2i h dX11_judge_48 ?_
          refine x_iast h (n + 1 - 1 - j) (lg_lines hO.1).2 (ix.ni (by omega) (by decide)) dX11_judge_49 ?_
          refine x_lload h dX11_judge_50 rfl ?_
          refine x_ldc2 h kl_X11_210 dX11_judge_52 ?_
          refine x_ldiv h (by decide) dX11_judge_55 ?_
          refine x_lstore h dX11_judge_56 rfl rfl ?_
          dsimp only [List.set]
          refine x_iinc h (-1) (by decide) dX11_judge_58 rfl rfl rfl ?_
          dsimp only [List.set]
          refine x_goto h 21 dX11_judge_61 (by decide) ?_
          rw [dec37 hjl]
          exact ih hjl _ _ (cInv_ln hI1 _ _) (oO_I ho _ (by omega))
    refine x_iload_n h dX11_judge_0 rfl ?_
    refine x_in1 h dX11_judge_1 ?_
    refine x_icmp_lt h 10 dX11_judge_2 (by decide) (fun c2 => ?_) (fun c2 => ?_)
    · exact absurd ((nI_lt_iff (by omega) (by decide)).mp c2) (by omega)
    · refine x_iload_n h dX11_judge_5 rfl ?_
      refine x_in4 h dX11_judge_6 ?_
      refine x_icmp_le h 13 dX11_judge_7 (by decide) (fun c7 => ?_) (fun c7 => ?_)
      · refine x_lload_n h dX11_judge_13 rfl ?_
        refine x_lstore h dX11_judge_14 rfl rfl ?_
        dsimp only [List.set]
        refine x_iload_n h dX11_judge_16 rfl ?_
        refine x_in1 h dX11_judge_17 ?_
        refine x_isubn h (show 1 ≤ n + 1 by omega) dX11_judge_18 ?_
        refine x_istore h dX11_judge_19 rfl rfl ?_
        dsimp only [List.set]
        have hl := loopB 0 (Nat.zero_le _) M w0 hI0 (oO_refl o M)
        rw [if_pos (by omega)] at hl
        exact hl
      · exact absurd ((nI_le_iff (by omega) (by omega)).mpr (by omega)) c7
  · obtain ⟨w, w63, hw0⟩ := pk_lOf (x := w0) neg
    subst hw0
    have wge : 10000 ^ (n + 1) ≤ w := by
      rcases Nat.lt_or_ge w (10000 ^ (n + 1)) with q | q
      · exact absurd rfl (hw w q)
      · exact q
    have loopA : ∀ j, j ≤ n + 1 → ∀ N, cInv G N o b S V tx len su hy kp ze sd → offO o M N → (∀ i, i < j → N.1 (o + 262) (n + 1 - 1 - i) = nI (w / 10000 ^ i % 10000)) → X Γ E 0 0 G z N 21 [some (.ref o), some (.int (nI (n + 1))), some (.long (lN w)), none, some (.long (lN (w / 10000 ^ j))), none, some (.int (if j < n + 1 then nI (n + 1 - 1 - j) else -1)), none] [] := by
      refine upto (n + 1) (fun j hj ih N hI1 ho hln => ?_)
      have hO := hI1.1
      refine x_iload h dX11_judge_21 rfl ?_
      refine x_if_lt h 64 dX11_judge_23 (by decide) (fun c23 => ?_) (fun c23 => ?_)
      · obtain rfl : j = n + 1 := by
          rcases Nat.lt_or_ge j (n + 1) with q | q
          · rw [if_pos q] at c23; exact (nI_nneg (by omega) c23).elim
          · omega
        refine x_lload_n h dX11_judge_64 rfl ?_
        refine x_lc0 h dX11_judge_65 ?_
        refine x_lcmp h dX11_judge_66 ?_
        refine x_if_lt h 77 dX11_judge_67 (by decide) (fun c67 => ?_) (fun c67 => ?_)
        · exact absurd ((lg_cmp_lt _ _).mp c67) neg
        · refine x_lload h dX11_judge_70 rfl ?_
          refine x_lc0 h dX11_judge_72 ?_
          refine x_lcmp h dX11_judge_73 ?_
          refine x_if_eq h 80 dX11_judge_74 (by decide) (fun c74 => ?_) (fun c74 => ?_)
          · have e := (lg_cmp_eq _ _).mp c74
            have e2 := (pk_lEQ (Nat.lt_of_le_of_lt (Nat.div_le_self _ _) w63) (by decide)).mp (show lN (w / 10000 ^ (n + 1)) = lN 0 from e)
            have := Nat.div_pos wge (Nat.pow_pos (by decide))
            omega
          · refine x_bipush h (-2) (by decide) dX11_judge_77 ?_
            exact x_iret h hQ rfl dX11_judge_79 ⟨rfl, rfl, _, rfl, rfl, hI1, ho⟩
      · have hjl : j < n + 1 := by
          rcases Nat.lt_or_ge j (n + 1) with q | q
          · exact q
          · rw [if_neg (by omega)] at c23; exact absurd (by decide) c23
        rw [if_pos hjl]
        refine x_iload h dX11_judge_26 rfl ?_
        refine x_aload_n h dX11_judge_28 rfl ?_
        refine x_getR h hO.1.1 f_X11_53 rfl (lg_lines hO.1).1 dX11_judge_29 ?_
        refine x_alen h (lg_lines hO.1).2 (by decide) dX11_judge_32 ?_
        refine x_icmp_ge h 64 dX11_judge_33 (by decide) (fun c33 => ?_) (fun c33 => ?_)
        · exact absurd ((nI_le_iff (by omega) (by omega)).mp c33) (by omega)
        · refine x_aload_n h dX11_judge_36 rfl ?_
          refine x_getR h hO.1.1 f_X11_53 rfl (lg_lines hO.1).1 dX11_judge_37 ?_
          refine x_iload h dX11_judge_40 rfl ?_
          refine x_lload h dX11_judge_42 rfl ?_
          refine x_ldc2 h kl_X11_210 dX11_judge_44 ?_
          refine x_lrem h (by decide) dX11_judge_47 ?_
          refine x_topl (pk_lRem (Nat.lt_of_le_of_lt (Nat.div_le_self _ _) w63) (by decide) (by decide)) ?_
          refine x_l2i h dX11_judge_48 ?_
          refine x_topi (show _ = nI (w / 10000 ^ j % 10000) from lN_i _) ?_
          refine x_iast h (n + 1 - 1 - j) (lg_lines hO.1).2 (ix.ni (by omega) (by decide)) dX11_judge_49 ?_
          refine x_lload h dX11_judge_50 rfl ?_
          refine x_ldc2 h kl_X11_210 dX11_judge_52 ?_
          refine x_ldiv h (by decide) dX11_judge_55 ?_
          refine x_topl (pk_lDiv (Nat.lt_of_le_of_lt (Nat.div_le_self _ _) w63) (by decide) (by decide)) ?_
          refine x_lstore h dX11_judge_56 rfl rfl ?_
          dsimp only [List.set]
          refine x_iinc h (-1) (by decide) dX11_judge_58 rfl rfl rfl ?_
          dsimp only [List.set]
          refine x_goto h 21 dX11_judge_61 (by decide) ?_
          rw [dec37 hjl, Nat.div_div_eq_div_mul, ← Nat.pow_succ]
          refine ih hjl _ (cInv_ln hI1 _ _) (oO_I ho _ (by omega)) (fun i hi => ?_)
          by_cases q : i = j
          · rw [q]; exact up2_self _ _ _ _
          · exact (up2_ne _ _ (by omega)).trans (hln i (by omega))
    refine x_iload_n h dX11_judge_0 rfl ?_
    refine x_in1 h dX11_judge_1 ?_
    refine x_icmp_lt h 10 dX11_judge_2 (by decide) (fun c2 => ?_) (fun c2 => ?_)
    · exact absurd ((nI_lt_iff (by omega) (by decide)).mp c2) (by omega)
    · refine x_iload_n h dX11_judge_5 rfl ?_
      refine x_in4 h dX11_judge_6 ?_
      refine x_icmp_le h 13 dX11_judge_7 (by decide) (fun c7 => ?_) (fun c7 => ?_)
      · refine x_lload_n h dX11_judge_13 rfl ?_
        refine x_lstore h dX11_judge_14 rfl rfl ?_
        dsimp only [List.set]
        refine x_iload_n h dX11_judge_16 rfl ?_
        refine x_in1 h dX11_judge_17 ?_
        refine x_isubn h (show 1 ≤ n + 1 by omega) dX11_judge_18 ?_
        refine x_istore h dX11_judge_19 rfl rfl ?_
        dsimp only [List.set]
        have hl := loopA 0 (Nat.zero_le _) M hI0 (oO_refl o M) (fun i hi => absurd hi (Nat.not_lt_zero _))
        rw [if_pos (by omega), Nat.pow_zero, Nat.div_one] at hl
        exact hl
      · exact absurd ((nI_le_iff (by omega) (by omega)).mpr (by omega)) c7
theorem c_X11_judge_2 {Γ : GT} {G : GG} {M : MM} {o : Nat} {b : Bool} {S V : RT} {tx : Nat → Nat} {len : Nat} {su : SU} {hy : HY} {kp : KP} {ze : SE} {sd : Int64} (hI : cInv G M o b S V tx len su hy kp ze sd) {n w : Nat} (hn : n < 4) (hw : w < 10000 ^ (n + 1)) : Calls Γ q_X11_judge [.ref o, .int (nI (n + 1)), .long (lN w)] G M (rI (fun y M' => jgC (pgV V) w (n + 1) (n + 1) su y ∧ cInv G M' o b S V (tx) (len) (su) (hy) (kp) (ze) (sd) ∧ offO o M M')) := by
  have hI0 := hI
  obtain ⟨hO, hA⟩ := hI
  have hO0 := hO
  obtain ⟨v22, v23, v24, v25, v26⟩ := cv_ok hO
  refine Calls.intro (by decide +kernel) (Nat.le_of_ble_eq_true rfl) (fun z E h hQ => ?_)
  refine x_loc (L' := [some (.ref o), some (.int (nI (n + 1))), some (.long (lN w)), none, none, none, none, none]) rfl ?_
  have p4 := t4_lt (n + 1) (by omega)
  have w63 : w < 2 ^ 63 := by omega
  have neg : ¬ lN w < 0 := fun q => by
    have := mt (pk_lLE (a := 0) (b := w) (by decide) w63).mpr
    exact absurd (Int64.not_le.mpr q) (fun z => z ((pk_lLE (a := 0) (b := w) (by decide) w63).mpr (Nat.zero_le _)))
  have loop2 : ∀ k, k ≤ n + 1 → ∀ (N : MM) (ts : SU), cInv G N o b S V tx len su hy kp ze sd → offO o M N → (∀ i, i < n + 1 → N.1 (o + 262) (n + 1 - 1 - i) = nI (w / 10000 ^ i % 10000)) → suIs N (o + 256) ts.1 ts.2 → suOk (V 0 26) ts → (∀ y, jgC (pgV V) w (n + 1) (n + 1 - k) ts y → jgC (pgV V) w (n + 1) (n + 1) su y) → ∀ lr l7, X Γ E 0 0 G z N 97 [some (.ref o), some (.int (nI (n + 1))), some (.long (lN w)), none, lr, none, some (.int (nI k)), l7] [] := by
    refine upto (n + 1) (fun k hk ih N ts hI1 ho hln hT hS hj lr l7 => ?_)
    have hO := hI1.1
    refine x_iload h dX11_judge_97 rfl ?_
    refine x_iload_n h dX11_judge_99 rfl ?_
    refine x_icmp_ge h 165 dX11_judge_100 (by decide) (fun c100 => ?_) (fun c100 => ?_)
    · obtain rfl : k = n + 1 := by
        have := (nI_le_iff (by omega) (by omega)).mp c100
        omega
      refine x_bipush h (-9) (by decide) dX11_judge_165 ?_
      exact x_iret h hQ rfl dX11_judge_167 ⟨rfl, rfl, _, rfl, hj _ (by rw [Nat.sub_self]; rfl), hI1, ho⟩
    · have hkl : k < n + 1 := by
        have := mt (nI_le_iff (a := n + 1) (b := k) (by omega) (by omega)).mpr c100
        omega
      have l4 : lnN w (n + 1) k < 10000 := Nat.mod_lt _ (by decide)
      refine x_iload h dX11_judge_103 rfl ?_
      refine x_aload_n h dX11_judge_105 rfl ?_
      refine x_getR h hO.1.1 f_X11_53 rfl (lg_lines hO.1).1 dX11_judge_106 ?_
      refine x_alen h (lg_lines hO.1).2 (by decide) dX11_judge_109 ?_
      refine x_icmp_ge h 165 dX11_judge_110 (by decide) (fun c110 => ?_) (fun c110 => ?_)
      · exact absurd ((nI_le_iff (by omega) (by omega)).mp c110) (by omega)
      · refine x_aload_n h dX11_judge_113 rfl ?_
        refine x_getR h hO.1.1 f_X11_53 rfl (lg_lines hO.1).1 dX11_judge_114 ?_
        refine x_iload h dX11_judge_117 rfl ?_
        refine x_ialdv h k (lg_lines hO.1).2 (ix.ni (by omega) (by decide)) (show _ = nI (lnN w (n + 1) k) from by have q := hln (n - k) (by omega); rw [show n + 1 - 1 - (n - k) = k by omega] at q; unfold lnN; rw [show n + 1 - 1 - k = n - k by omega]; exact q) dX11_judge_119 ?_
        refine x_istore h dX11_judge_120 rfl rfl ?_
        dsimp only [List.set]
        refine x_aload_n h dX11_judge_122 rfl ?_
        refine x_iload h dX11_judge_123 rfl ?_
        refine x_sipush h (nI 1000) (by decide) dX11_judge_125 ?_
        refine x_idivn h ⟨by omega, by decide, by decide⟩ dX11_judge_128 ?_
        refine x_iload h dX11_judge_129 rfl ?_
        refine x_bipush h (nI 100) (by decide) dX11_judge_131 ?_
        refine x_idivn h ⟨by omega, by decide, by decide⟩ dX11_judge_133 ?_
        refine x_bipush h (nI 10) (by decide) dX11_judge_134 ?_
        refine x_iremn h ⟨by omega, by decide, by decide⟩ dX11_judge_136 ?_
        refine x_iload h dX11_judge_137 rfl ?_
        refine x_bipush h (nI 10) (by decide) dX11_judge_139 ?_
        refine x_idivn h ⟨by omega, by decide, by decide⟩ dX11_judge_141 ?_
        refine x_bipush h (nI 10) (by decide) dX11_judge_142 ?_
        refine x_iremn h ⟨by omega, by decide, by decide⟩ dX11_judge_144 ?_
        refine x_iload h dX11_judge_145 rfl ?_
        refine x_bipush h (nI 10) (by decide) dX11_judge_147 ?_
        refine x_iremn h ⟨by omega, by decide, by decide⟩ dX11_judge_149 ?_
        refine x_cVi h ci_X11_stands im_X11_stands l_X11_212 ⟨Nat.le_of_ble_eq_true rfl, Nat.le_of_ble_eq_true rfl⟩ ⟨rfl, rfl⟩ ⟨Nat.zero_le _, Nat.zero_le _⟩ (c_X11_stands hI1 hT hS (how := lnN w (n + 1) k / 1000) (a := lnN w (n + 1) k / 100 % 10) (e := lnN w (n + 1) k / 10 % 10) (v := lnN w (n + 1) k % 10) (by omega) (by omega) (by omega) (by omega)) rfl rfl rfl rfl hO.1.1 (by decide) rfl dX11_judge_150 (fun v150 M150 hp150 => ?_)
        obtain ⟨rr, ts2, hyr, hjd, hI2, hT2, hS2, ho2, hl2⟩ := hp150
        obtain ⟨j1, j2⟩ := jgN hkl hjd
        refine x_if_ne h 159 dX11_judge_153 (by decide) (fun c153 => ?_) (fun c153 => ?_)
        · have hrt := bool_nf (fun q => c153 (by rw [hyr]; exact b2i_0.mpr q))
          refine x_incn h dX11_judge_159 rfl rfl rfl ?_
          dsimp only [List.set]
          refine x_goto h 97 dX11_judge_162 (by decide) ?_
          refine ih hkl _ ts2 hI2 (oO_trans ho ho2) (fun i hi => (hl2 _).trans (hln i hi)) hT2 hS2 (fun y q => hj y (j1 hrt y q)) _ _
        · have hrf := b2i_0.mp (hyr.symm.trans c153)
          refine x_iload h dX11_judge_156 rfl ?_
          exact x_iret h hQ rfl dX11_judge_158 ⟨rfl, rfl, _, rfl, hj _ (j2 hrf), hI2, oO_trans ho ho2⟩
  have loopA : ∀ j, j ≤ n + 1 → ∀ N, cInv G N o b S V tx len su hy kp ze sd → offO o M N → (∀ i, i < j → N.1 (o + 262) (n + 1 - 1 - i) = nI (w / 10000 ^ i % 10000)) → X Γ E 0 0 G z N 21 [some (.ref o), some (.int (nI (n + 1))), some (.long (lN w)), none, some (.long (lN (w / 10000 ^ j))), none, some (.int (if j < n + 1 then nI (n + 1 - 1 - j) else -1)), none] [] := by
    refine upto (n + 1) (fun j hj ih N hI1 ho hln => ?_)
    have hO := hI1.1
    refine x_iload h dX11_judge_21 rfl ?_
    refine x_if_lt h 64 dX11_judge_23 (by decide) (fun c23 => ?_) (fun c23 => ?_)
    · obtain rfl : j = n + 1 := by
        rcases Nat.lt_or_ge j (n + 1) with q | q
        · rw [if_pos q] at c23; exact (nI_nneg (by omega) c23).elim
        · omega
      refine x_lload_n h dX11_judge_64 rfl ?_
      refine x_lc0 h dX11_judge_65 ?_
      refine x_lcmp h dX11_judge_66 ?_
      refine x_if_lt h 77 dX11_judge_67 (by decide) (fun c67 => ?_) (fun c67 => ?_)
      · exact absurd ((lg_cmp_lt _ _).mp c67) neg
      · refine x_lload h dX11_judge_70 rfl ?_
        refine x_lc0 h dX11_judge_72 ?_
        refine x_lcmp h dX11_judge_73 ?_
        refine x_if_eq h 80 dX11_judge_74 (by decide) (fun c74 => ?_) (fun c74 => ?_)
        · refine x_aload_n h dX11_judge_80 rfl ?_
          refine x_getR h hO.1.1 f_X11_37 rfl (lg_supposed hO.1).1 dX11_judge_81 ?_
          refine x_aload_n h dX11_judge_84 rfl ?_
          refine x_getR h hO.1.1 f_X11_33 rfl (lg_setup hO.1).1 dX11_judge_85 ?_
          refine x_cVi h ci_X8_packed im_X8_packed l_X11_194 ⟨Nat.le_of_ble_eq_true rfl, Nat.le_of_ble_eq_true rfl⟩ ⟨rfl, rfl⟩ ⟨Nat.zero_le _, Nat.zero_le _⟩ (c_X8_packed (lg_setup hO.1).2 hO.2.2.2.2.1.1) rfl rfl rfl rfl (lg_setup hO.1).2.1 (by decide) rfl dX11_judge_88 (fun v88 M88 hp88 => ?_)
          obtain ⟨rfl, hM⟩ := hp88
          obtain rfl := hM.symm
          clear hM
          refine x_cVv h ci_X8_unpack im_X8_unpack l_X11_197 ⟨Nat.le_of_ble_eq_true rfl, Nat.le_of_ble_eq_true rfl⟩ ⟨rfl, rfl⟩ ⟨Nat.zero_le _, Nat.zero_le _⟩ (c_X8_unpack (lg_supposed hO.1).2 (p := pkU su) (by have := pkU_lt hO.2.2.2.2.1.2 v26; omega)) rfl rfl rfl rfl (lg_supposed hO.1).2.1 (by decide) rfl dX11_judge_91 (fun M91 hp91 => ?_)
          subst hp91
          refine x_in0 h dX11_judge_94 ?_
          refine x_istore h dX11_judge_95 rfl rfl ?_
          dsimp only [List.set]
          have pl := pkU_lt hO.2.2.2.2.1.2 v26
          have un := unpk hO.2.2.2.2.1.2 v26 N (o + 256)
          refine loop2 0 (Nat.zero_le _) _ su (cInv_su hI1 _ _) (oO_su ho _ _ (by omega)) (fun i hi => (setSu_ne (by omega) (by omega)).trans (hln i hi)) un hO.2.2.2.2.1.2 (fun y q => q) _ _
        · refine absurd ((lg_cmp_eq _ _).mpr ?_) c74
          rw [Nat.div_eq_of_lt hw]
          rfl
    · have hjl : j < n + 1 := by
        rcases Nat.lt_or_ge j (n + 1) with q | q
        · exact q
        · rw [if_neg (by omega)] at c23; exact absurd (by decide) c23
      rw [if_pos hjl]
      refine x_iload h dX11_judge_26 rfl ?_
      refine x_aload_n h dX11_judge_28 rfl ?_
      refine x_getR h hO.1.1 f_X11_53 rfl (lg_lines hO.1).1 dX11_judge_29 ?_
      refine x_alen h (lg_lines hO.1).2 (by decide) dX11_judge_32 ?_
      refine x_icmp_ge h 64 dX11_judge_33 (by decide) (fun c33 => ?_) (fun c33 => ?_)
      · exact absurd ((nI_le_iff (by omega) (by omega)).mp c33) (by omega)
      · refine x_aload_n h dX11_judge_36 rfl ?_
        refine x_getR h hO.1.1 f_X11_53 rfl (lg_lines hO.1).1 dX11_judge_37 ?_
        refine x_iload h dX11_judge_40 rfl ?_
        refine x_lload h dX11_judge_42 rfl ?_
        refine x_ldc2 h kl_X11_210 dX11_judge_44 ?_
        refine x_lrem h (by decide) dX11_judge_47 ?_
        refine x_topl (pk_lRem (Nat.lt_of_le_of_lt (Nat.div_le_self _ _) w63) (by decide) (by decide)) ?_
        refine x_l2i h dX11_judge_48 ?_
        refine x_topi (show _ = nI (w / 10000 ^ j % 10000) from lN_i _) ?_
        refine x_iast h (n + 1 - 1 - j) (lg_lines hO.1).2 (ix.ni (by omega) (by decide)) dX11_judge_49 ?_
        refine x_lload h dX11_judge_50 rfl ?_
        refine x_ldc2 h kl_X11_210 dX11_judge_52 ?_
        refine x_ldiv h (by decide) dX11_judge_55 ?_
        refine x_topl (pk_lDiv (Nat.lt_of_le_of_lt (Nat.div_le_self _ _) w63) (by decide) (by decide)) ?_
        refine x_lstore h dX11_judge_56 rfl rfl ?_
        dsimp only [List.set]
        refine x_iinc h (-1) (by decide) dX11_judge_58 rfl rfl rfl ?_
        dsimp only [List.set]
        refine x_goto h 21 dX11_judge_61 (by decide) ?_
        rw [dec37 hjl, Nat.div_div_eq_div_mul, ← Nat.pow_succ]
        refine ih hjl _ (cInv_ln hI1 _ _) (oO_I ho _ (by omega)) (fun i hi => ?_)
        by_cases q : i = j
        · rw [q]; exact up2_self _ _ _ _
        · exact (up2_ne _ _ (by omega)).trans (hln i (by omega))
  refine x_iload_n h dX11_judge_0 rfl ?_
  refine x_in1 h dX11_judge_1 ?_
  refine x_icmp_lt h 10 dX11_judge_2 (by decide) (fun c2 => ?_) (fun c2 => ?_)
  · exact absurd ((nI_lt_iff (by omega) (by decide)).mp c2) (by omega)
  · refine x_iload_n h dX11_judge_5 rfl ?_
    refine x_in4 h dX11_judge_6 ?_
    refine x_icmp_le h 13 dX11_judge_7 (by decide) (fun c7 => ?_) (fun c7 => ?_)
    · refine x_lload_n h dX11_judge_13 rfl ?_
      refine x_lstore h dX11_judge_14 rfl rfl ?_
      dsimp only [List.set]
      refine x_iload_n h dX11_judge_16 rfl ?_
      refine x_in1 h dX11_judge_17 ?_
      refine x_isubn h (show 1 ≤ n + 1 by omega) dX11_judge_18 ?_
      refine x_istore h dX11_judge_19 rfl rfl ?_
      dsimp only [List.set]
      have hl := loopA 0 (Nat.zero_le _) M hI0 (oO_refl o M) (fun i hi => absurd hi (Nat.not_lt_zero _))
      rw [if_pos (by omega), Nat.pow_zero, Nat.div_one] at hl
      exact hl
    · exact absurd ((nI_le_iff (by omega) (by omega)).mpr (by omega)) c7
