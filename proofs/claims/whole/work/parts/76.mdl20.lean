/-! ===== the reference: program ===== -/
/-- rows lo .. hi with their first k numbers from the table, nine rows behind -/
def cpR (N : MM) (m : Nat) (V : RT) (lo hi k : Nat) : MM := ((fun b j => if (m + lo ≤ b ∧ b ≤ m + hi) ∧ j < k then nI (V (b - m + 9) j) else N.1 b j), N.2)
theorem cp_0 (N : MM) (m : Nat) (V : RT) (lo hi : Nat) : cpR N m V lo hi 0 = N := by
  refine Prod.ext ?_ rfl
  funext b j
  exact if_neg (fun q => absurd q.2 (Nat.not_lt_zero _))
theorem cp_in (N : MM) (m : Nat) (V : RT) {lo hi k a j : Nat} (h1 : lo ≤ a) (h2 : a ≤ hi) (h3 : j < k) : (cpR N m V lo hi k).1 (m + a) j = nI (V (a + 9) j) := by
  show (if (m + lo ≤ m + a ∧ m + a ≤ m + hi) ∧ j < k then nI (V (m + a - m + 9) j) else _) = _
  rw [if_pos ⟨by omega, h3⟩, show m + a - m = a by omega]
theorem cp_out (N : MM) (m : Nat) (V : RT) {lo hi k a : Nat} (j : Nat) (h : a < lo ∨ hi < a) : (cpR N m V lo hi k).1 (m + a) j = N.1 (m + a) j := if_neg (by omega)
theorem cp_6 (N : MM) (m : Nat) (V : RT) (k : Nat) : sI (sI (sI (sI (sI (sI (cpR N m V 2 7 k) (m + 2) k (nI (V 11 k))) (m + 3) k (nI (V 12 k))) (m + 4) k (nI (V 13 k))) (m + 5) k (nI (V 14 k))) (m + 6) k (nI (V 15 k))) (m + 7) k (nI (V 16 k)) = cpR N m V 2 7 (k + 1) := by
  refine Prod.ext ?_ rfl
  funext b j
  show (if b = m + 7 ∧ j = k then nI (V 16 k) else if b = m + 6 ∧ j = k then nI (V 15 k) else if b = m + 5 ∧ j = k then nI (V 14 k) else if b = m + 4 ∧ j = k then nI (V 13 k) else if b = m + 3 ∧ j = k then nI (V 12 k) else if b = m + 2 ∧ j = k then nI (V 11 k) else if (m + 2 ≤ b ∧ b ≤ m + 7) ∧ j < k then nI (V (b - m + 9) j) else N.1 b j) = (if (m + 2 ≤ b ∧ b ≤ m + 7) ∧ j < k + 1 then nI (V (b - m + 9) j) else N.1 b j)
  by_cases q : j = k
  · subst q
    by_cases q2 : m + 2 ≤ b ∧ b ≤ m + 7
    · rw [if_pos (show (m + 2 ≤ b ∧ b ≤ m + 7) ∧ j < j + 1 from ⟨q2, Nat.lt_succ_self _⟩)]
      rcases (show b = m + 7 ∨ b = m + 6 ∨ b = m + 5 ∨ b = m + 4 ∨ b = m + 3 ∨ b = m + 2 by omega) with rfl | rfl | rfl | rfl | rfl | rfl
      · rw [if_pos ⟨rfl, rfl⟩, show m + 7 - m + 9 = 16 by omega]
      · rw [if_neg (by omega), if_pos ⟨rfl, rfl⟩, show m + 6 - m + 9 = 15 by omega]
      · rw [if_neg (by omega), if_neg (by omega), if_pos ⟨rfl, rfl⟩, show m + 5 - m + 9 = 14 by omega]
      · rw [if_neg (by omega), if_neg (by omega), if_neg (by omega), if_pos ⟨rfl, rfl⟩, show m + 4 - m + 9 = 13 by omega]
      · rw [if_neg (by omega), if_neg (by omega), if_neg (by omega), if_neg (by omega), if_pos ⟨rfl, rfl⟩, show m + 3 - m + 9 = 12 by omega]
      · rw [if_neg (by omega), if_neg (by omega), if_neg (by omega), if_neg (by omega), if_neg (by omega), if_pos ⟨rfl, rfl⟩, show m + 2 - m + 9 = 11 by omega]
    · rw [if_neg (by omega), if_neg (by omega), if_neg (by omega), if_neg (by omega), if_neg (by omega), if_neg (by omega), if_neg (by omega), if_neg (by omega)]
  · rw [if_neg (by omega), if_neg (by omega), if_neg (by omega), if_neg (by omega), if_neg (by omega), if_neg (by omega)]
    by_cases q2 : (m + 2 ≤ b ∧ b ≤ m + 7) ∧ j < k
    · rw [if_pos q2, if_pos ⟨q2.1, by omega⟩]
    · rw [if_neg q2, if_neg (by omega)]
theorem cp_3 (N : MM) (m : Nat) (V : RT) (k : Nat) : sI (sI (sI (cpR N m V 8 10 k) (m + 8) k (nI (V 17 k))) (m + 9) k (nI (V 18 k))) (m + 10) k (nI (V 19 k)) = cpR N m V 8 10 (k + 1) := by
  refine Prod.ext ?_ rfl
  funext b j
  show (if b = m + 10 ∧ j = k then nI (V 19 k) else if b = m + 9 ∧ j = k then nI (V 18 k) else if b = m + 8 ∧ j = k then nI (V 17 k) else if (m + 8 ≤ b ∧ b ≤ m + 10) ∧ j < k then nI (V (b - m + 9) j) else N.1 b j) = (if (m + 8 ≤ b ∧ b ≤ m + 10) ∧ j < k + 1 then nI (V (b - m + 9) j) else N.1 b j)
  by_cases q : j = k
  · subst q
    by_cases q2 : m + 8 ≤ b ∧ b ≤ m + 10
    · rw [if_pos (show (m + 8 ≤ b ∧ b ≤ m + 10) ∧ j < j + 1 from ⟨q2, Nat.lt_succ_self _⟩)]
      rcases (show b = m + 10 ∨ b = m + 9 ∨ b = m + 8 by omega) with rfl | rfl | rfl
      · rw [if_pos ⟨rfl, rfl⟩, show m + 10 - m + 9 = 19 by omega]
      · rw [if_neg (by omega), if_pos ⟨rfl, rfl⟩, show m + 9 - m + 9 = 18 by omega]
      · rw [if_neg (by omega), if_neg (by omega), if_pos ⟨rfl, rfl⟩, show m + 8 - m + 9 = 17 by omega]
    · rw [if_neg (by omega), if_neg (by omega), if_neg (by omega), if_neg (by omega), if_neg (by omega)]
  · rw [if_neg (by omega), if_neg (by omega), if_neg (by omega)]
    by_cases q2 : (m + 8 ≤ b ∧ b ≤ m + 10) ∧ j < k
    · rw [if_pos q2, if_pos ⟨q2.1, by omega⟩]
    · rw [if_neg q2, if_neg (by omega)]
/-- the memory when the text has been read and the counts are set -/
def prN (M N : MM) (m : Nat) (V : RT) : Prop := N.2 = M.2 ∧ N.1 m 8 = nI (V 0 22) ∧ N.1 m 9 = nI (V 0 23) ∧ N.1 m 10 = nI (V 0 24) ∧ N.1 m 11 = nI (V 0 25) ∧ N.1 m 12 = nI (V 0 26) ∧ (∀ a j, 11 ≤ a → a ≤ 19 → N.1 (m + a) j = nI (V a j)) ∧ (∀ a j, (a = 0 ∧ (j < 8 ∨ 32 < j)) ∨ a = 1 ∨ 20 < a → N.1 (m + a) j = M.1 (m + a) j) ∧ ∀ b j, b < m ∨ m + 33 ≤ b → N.1 b j = M.1 b j
theorem c_X12_program {Γ : GT} {G : GG} {M : MM} {m : Nat} (hF : mdF G M.2.2 m) {tx : Nat → Nat} {len : Nat} {pg : PGM} {su : SU} {hy : HY} {kp : KP} {ze : SE} {sd : Int64} (hI : mInv M m tx len pg su hy kp ze sd) {T : RT} (ht : tbOk T) : Calls Γ q_X12_program [.ref m] G M (rI (fun y M' => ∃ y0, rdQ T tx len y0 ∧ (y0 ≠ -9 → y = -3 ∧ mInv M' m tx len pg su hy kp ze sd) ∧ (y0 = -9 → ∃ S V, rdI tx (t0T T) len = some S ∧ rel S V ∧ wholeT S ∧ y = nI (S 0 10) ∧ mInv M' m tx len (pgV V) (fun _ => 6, 0) (0, hy.2) (fun _ => none) ze sd) ∧ offM m M M')) := by
  have hI0 := hI
  obtain ⟨iT, iP, iN, iD, iK, iS, iE, iC⟩ := hI
  obtain ⟨U, hU⟩ := mt_ex M m
  have hr := ok_reads (tx := tx) (U := U) ht iT.1
  have l60 := iT.1
  refine Calls.intro (by decide +kernel) (Nat.le_of_ble_eq_true rfl) (fun z E h hQ => ?_)
  refine x_loc (L' := [some (.ref m), none, none]) rfl ?_
  have main : ∀ (S V : RT) (N : MM), rdI tx (t0T T) len = some S → rel S V → wholeT S → rdQ T tx len (-9) → prN M N m V → X Γ E 0 0 G z N 52 [some (.ref m), none, none] [] := by
    intro S V N hS hrel hwh hq hN
    obtain ⟨k1, k2, k3, k4, k5, k6, k7, k8, k9, k10, k11⟩ := okV hrel (rdI_tab ht l60 hS hwh)
    obtain ⟨p0, p8, p9, p10, p11, p12, pr, pk, po⟩ := hN
    have hF2 : mdF G N.2.2 m := by rw [p0]; exact hF
    have ek : ∀ k, k < V 0 22 → V 11 k < 2 ^ 31 := fun k hk => by have : V 11 k ≤ 10 := (k1 k hk).1; omega
    have kget : ∀ a j, a < 2 ∨ 10 < a → (cpR (cpR N m V 2 7 (V 0 22)) m V 8 10 (V 0 26)).1 (m + a) j = N.1 (m + a) j := fun a j h => (cp_out _ m V j (by omega)).trans (cp_out _ m V j (by omega))
    have kg1 : ∀ a j, 2 ≤ a → a ≤ 7 → j < V 0 22 → (cpR (cpR N m V 2 7 (V 0 22)) m V 8 10 (V 0 26)).1 (m + a) j = nI (V (a + 9) j) := fun a j h1 h2 h3 => (cp_out _ m V j (by omega)).trans (cp_in _ m V h1 h2 h3)
    have kg2 : ∀ a j, 8 ≤ a → a ≤ 10 → j < V 0 26 → (cpR (cpR N m V 2 7 (V 0 22)) m V 8 10 (V 0 26)).1 (m + a) j = nI (V (a + 9) j) := fun a j h1 h2 h3 => cp_in _ m V h1 h2 h3
    have fget : ∀ a j, a ≠ 21 → a ≠ 25 → (a = 0 → j ≠ 36) → (sI (sI (sI (sI (sI (sI (sI (cpR (cpR N m V 2 7 (V 0 22)) m V 8 10 (V 0 26)) (m + 21) 0 (nI 6)) (m + 21) 1 (nI 6)) (m + 21) 2 (nI 6)) (m + 21) 3 (nI 0)) m 36 (nI 0)) (m + 25) 0 (nI 0)) (m + 25) 1 (nI 0)).1 (m + a) j = (cpR (cpR N m V 2 7 (V 0 22)) m V 8 10 (V 0 26)).1 (m + a) j := fun a j h1 h2 h3 => by
      simp only [sI, up2]
      rw [if_neg (by omega), if_neg (by omega), if_neg (by omega), if_neg (by omega), if_neg (by omega), if_neg (by omega), if_neg (by omega)]
    have fin : mInv (sI (sI (sI (sI (sI (sI (sI (cpR (cpR N m V 2 7 (V 0 22)) m V 8 10 (V 0 26)) (m + 21) 0 (nI 6)) (m + 21) 1 (nI 6)) (m + 21) 2 (nI 6)) (m + 21) 3 (nI 0)) m 36 (nI 0)) (m + 25) 0 (nI 0)) (m + 25) 1 (nI 0)) m tx len (pgV V) (fun _ => 6, 0) (0, hy.2) (fun _ => none) ze sd ∧ offM m M (sI (sI (sI (sI (sI (sI (sI (cpR (cpR N m V 2 7 (V 0 22)) m V 8 10 (V 0 26)) (m + 21) 0 (nI 6)) (m + 21) 1 (nI 6)) (m + 21) 2 (nI 6)) (m + 21) 3 (nI 0)) m 36 (nI 0)) (m + 25) 0 (nI 0)) (m + 25) 1 (nI 0)) := by
      have low : ∀ a j, (a = 0 ∧ (j < 8 ∨ 32 < j) ∧ j ≠ 36) ∨ a = 1 ∨ (20 < a ∧ a ≠ 21 ∧ a ≠ 25) → (sI (sI (sI (sI (sI (sI (sI (cpR (cpR N m V 2 7 (V 0 22)) m V 8 10 (V 0 26)) (m + 21) 0 (nI 6)) (m + 21) 1 (nI 6)) (m + 21) 2 (nI 6)) (m + 21) 3 (nI 0)) m 36 (nI 0)) (m + 25) 0 (nI 0)) (m + 25) 1 (nI 0)).1 (m + a) j = M.1 (m + a) j := fun a j h => ((fget a j (by omega) (by omega) (by omega)).trans (kget a j (by omega))).trans (pk a j (by omega))
      have cnt : ∀ j, 8 ≤ j → j ≤ 12 → (sI (sI (sI (sI (sI (sI (sI (cpR (cpR N m V 2 7 (V 0 22)) m V 8 10 (V 0 26)) (m + 21) 0 (nI 6)) (m + 21) 1 (nI 6)) (m + 21) 2 (nI 6)) (m + 21) 3 (nI 0)) m 36 (nI 0)) (m + 25) 0 (nI 0)) (m + 25) 1 (nI 0)).1 (m + 0) j = N.1 (m + 0) j := fun j h1 h2 => (fget 0 j (by omega) (by omega) (by omega)).trans (kget 0 j (by omega))
      refine ⟨⟨mTx_cg iT (fun a j h => low a j (by omega)), ⟨⟨k3, (cnt 8 (by omega) (by omega)).trans p8, fun k hk => ?_⟩, k1, ⟨k7, (cnt 12 (by omega) (by omega)).trans p12, fun gi hg => ?_⟩, ⟨k4, (cnt 9 (by omega) (by omega)).trans p9, k9⟩, ⟨k5, (cnt 10 (by omega) (by omega)).trans p10, k10⟩, (cnt 11 (by omega) (by omega)).trans p11, k6⟩, ⟨⟨fun v hv => ?_, by simp [sI, up2]⟩, fun v _ => Nat.le_refl 6, Nat.two_pow_pos _⟩, ?_, fun i hi => ⟨?_, fun s hs => by cases hs⟩, mSn_cg iS (fun a j h => low a j (by omega)), ?_, mCF_cg iC (by show N.2.1 = M.2.1; rw [p0])⟩, ?_⟩
      · have hk' : k < V 0 22 := hk
        exact ⟨(fget 2 k (by omega) (by omega) (by omega)).trans (kg1 2 k (by omega) (by omega) hk'), (fget 3 k (by omega) (by omega) (by omega)).trans (kg1 3 k (by omega) (by omega) hk'), (fget 4 k (by omega) (by omega) (by omega)).trans (kg1 4 k (by omega) (by omega) hk'), (fget 5 k (by omega) (by omega) (by omega)).trans (kg1 5 k (by omega) (by omega) hk'), (fget 6 k (by omega) (by omega) (by omega)).trans (kg1 6 k (by omega) (by omega) hk'), (fget 7 k (by omega) (by omega) (by omega)).trans (kg1 7 k (by omega) (by omega) hk')⟩
      · have hg' : gi < V 0 26 := hg
        exact ⟨(fget 8 gi (by omega) (by omega) (by omega)).trans (kg2 8 gi (by omega) (by omega) hg'), (fget 9 gi (by omega) (by omega) (by omega)).trans (kg2 9 gi (by omega) (by omega) hg'), (fget 10 gi (by omega) (by omega) (by omega)).trans (kg2 10 gi (by omega) (by omega) hg'), k8 gi hg'⟩
      · rcases (show v = 0 ∨ v = 1 ∨ v = 2 by omega) with rfl | rfl | rfl <;> simp [sI, up2]
      · obtain ⟨d1, d2, nx, d3, d4, d5⟩ := iD
        exact ⟨Nat.zero_le _, by simp [sI, up2], nx, d3, (low 0 37 (by omega)).trans d4, fun i hi => absurd hi (Nat.not_lt_zero _)⟩
      · rcases (show i = 0 ∨ i = 1 by omega) with rfl | rfl <;> (simp [sI, up2]; rfl)
      · show N.2.1 m 43 = sd
        rw [p0]; exact iE
      · refine off_I (off_I (off_I (off_I (off_I (off_I (off_I ⟨by show N.2.2 = M.2.2; rw [p0], fun b q => ⟨fun j => ?_, fun j => by show N.2.1 b j = M.2.1 b j; rw [p0]⟩⟩ _ (by omega)) _ (by omega)) _ (by omega)) _ (by omega)) _ (by omega)) _ (by omega)) _ (by omega)
        exact ((if_neg (by omega)).trans (if_neg (by omega))).trans (po b j q)
    have loop2 : ∀ gi, gi ≤ V 0 26 → X Γ E 0 0 G z (cpR (cpR N m V 2 7 (V 0 22)) m V 8 10 gi) 164 [some (.ref m), some (.int (nI (fb_ct (fun k => isStm (V 11 k)) (V 0 22)))), some (.int (nI gi))] [] := by
      refine upto (V 0 26) (fun gi hgi ih => ?_)
      refine x_iload_n h dX12_program_164 rfl ?_
      refine x_aload_n h dX12_program_165 rfl ?_
      refine x_getIv h hF2.1 f_X12_217 rfl (show _ = nI (V 0 26) from ((cp_out _ m V (a := 0) 12 (by omega)).trans (cp_out _ m V (a := 0) 12 (by omega))).trans p12) dX12_program_166 ?_
      refine x_icmp_ge h 214 dX12_program_169 (by decide) (fun c169 => ?_) (fun c169 => ?_)
      · obtain rfl : gi = V 0 26 := by
          have := (nI_le_iff (by omega) (by omega)).mp c169
          omega
        refine x_in0 h dX12_program_214 ?_
        refine x_istore_n h dX12_program_215 rfl rfl ?_
        dsimp only [List.set]
        refine x_iload_n h dX12_program_216 rfl ?_
        refine x_in3 h dX12_program_217 ?_
        refine x_icmp_ge h 235 dX12_program_218 (by decide) (fun c218 => ?_) (fun c218 => ?_)
        · exact absurd c218 (by decide)
        · refine x_aload_n h dX12_program_221 rfl ?_
          refine x_getR h hF2.1 f_X12_70 rfl (md_now hF2).1 dX12_program_222 ?_
          refine x_iload_n h dX12_program_225 rfl ?_
          refine x_bipush h (nI 6) (by decide) dX12_program_226 ?_
          refine x_iast h 0 (md_now hF2).2 (ix.ni (j := 0) (by decide) (by decide)) dX12_program_228 ?_
          refine x_incn h dX12_program_229 rfl rfl rfl ?_
          dsimp only [List.set]
          refine x_goto h 216 dX12_program_232 (by decide) ?_
          refine x_iload_n h dX12_program_216 rfl ?_
          refine x_in3 h dX12_program_217 ?_
          refine x_icmp_ge h 235 dX12_program_218 (by decide) (fun c218 => ?_) (fun c218 => ?_)
          · exact absurd c218 (by decide)
          · refine x_aload_n h dX12_program_221 rfl ?_
            refine x_getR h hF2.1 f_X12_70 rfl (md_now hF2).1 dX12_program_222 ?_
            refine x_iload_n h dX12_program_225 rfl ?_
            refine x_bipush h (nI 6) (by decide) dX12_program_226 ?_
            refine x_iast h 1 (md_now hF2).2 (ix.ni (j := 1) (by decide) (by decide)) dX12_program_228 ?_
            refine x_incn h dX12_program_229 rfl rfl rfl ?_
            dsimp only [List.set]
            refine x_goto h 216 dX12_program_232 (by decide) ?_
            refine x_iload_n h dX12_program_216 rfl ?_
            refine x_in3 h dX12_program_217 ?_
            refine x_icmp_ge h 235 dX12_program_218 (by decide) (fun c218 => ?_) (fun c218 => ?_)
            · exact absurd c218 (by decide)
            · refine x_aload_n h dX12_program_221 rfl ?_
              refine x_getR h hF2.1 f_X12_70 rfl (md_now hF2).1 dX12_program_222 ?_
              refine x_iload_n h dX12_program_225 rfl ?_
              refine x_bipush h (nI 6) (by decide) dX12_program_226 ?_
              refine x_iast h 2 (md_now hF2).2 (ix.ni (j := 2) (by decide) (by decide)) dX12_program_228 ?_
              refine x_incn h dX12_program_229 rfl rfl rfl ?_
              dsimp only [List.set]
              refine x_goto h 216 dX12_program_232 (by decide) ?_
              refine x_iload_n h dX12_program_216 rfl ?_
              refine x_in3 h dX12_program_217 ?_
              refine x_icmp_ge h 235 dX12_program_218 (by decide) (fun c218 => ?_) (fun c218 => ?_)
              · refine x_aload_n h dX12_program_235 rfl ?_
                refine x_getR h hF2.1 f_X12_70 rfl (md_now hF2).1 dX12_program_236 ?_
                refine x_in3 h dX12_program_239 ?_
                refine x_in0 h dX12_program_240 ?_
                refine x_iast h 3 (md_now hF2).2 (ix.ni (j := 3) (by decide) (by decide)) dX12_program_241 ?_
                refine x_aload_n h dX12_program_242 rfl ?_
                refine x_in0 h dX12_program_243 ?_
                refine x_putI h hF2.1 f_X12_223 rfl rfl dX12_program_244 ?_
                refine x_aload_n h dX12_program_247 rfl ?_
                refine x_getR h hF2.1 f_X12_82 rfl (md_isKept hF2).1 dX12_program_248 ?_
                refine x_in0 h dX12_program_251 ?_
                refine x_in0 h dX12_program_252 ?_
                refine x_zast h 0 (md_isKept hF2).2 (ix.ni (j := 0) (by decide) (by decide)) (by decide) dX12_program_253 ?_
                refine x_aload_n h dX12_program_254 rfl ?_
                refine x_getR h hF2.1 f_X12_82 rfl (md_isKept hF2).1 dX12_program_255 ?_
                refine x_in1 h dX12_program_258 ?_
                refine x_in0 h dX12_program_259 ?_
                refine x_zast h 1 (md_isKept hF2).2 (ix.ni (j := 1) (by decide) (by decide)) (by decide) dX12_program_260 ?_
                refine x_iload_n h dX12_program_261 rfl ?_
                exact x_iret h hQ rfl dX12_program_262 ⟨rfl, rfl, _, rfl, -9, hq, fun q => absurd rfl q, fun _ => ⟨S, V, hS, hrel, hwh, by rw [k11], fin.1⟩, fin.2⟩
              · exact absurd c218 (by decide)
      · have hlt : gi < V 0 26 := by
          have := mt (nI_le_iff (a := V 0 26) (b := gi) (by omega) (by omega)).mpr c169
          omega
        refine x_aload_n h dX12_program_172 rfl ?_
        refine x_getR h hF2.1 f_X12_31 rfl (md_guessVariable hF2).1 dX12_program_173 ?_
        refine x_iload_n h dX12_program_176 rfl ?_
        refine x_aload_n h dX12_program_177 rfl ?_
        refine x_getR h hF2.1 f_X12_58 rfl (md_readGuessVariable hF2).1 dX12_program_178 ?_
        refine x_iload_n h dX12_program_181 rfl ?_
        refine x_ialdv h gi (md_readGuessVariable hF2).2 (ix.ni (j := gi) (by omega) (by decide)) (((cp_out _ m V gi (by omega)).trans (cp_out _ m V gi (by omega))).trans (pr 17 gi (by omega) (by omega))) dX12_program_182 ?_
        refine x_iast h gi (md_guessVariable hF2).2 (ix.ni (j := gi) (by omega) (by decide)) dX12_program_183 ?_
        refine x_aload_n h dX12_program_184 rfl ?_
        refine x_getR h hF2.1 f_X12_34 rfl (md_guessSign hF2).1 dX12_program_185 ?_
        refine x_iload_n h dX12_program_188 rfl ?_
        refine x_aload_n h dX12_program_189 rfl ?_
        refine x_getR h hF2.1 f_X12_61 rfl (md_readGuessSign hF2).1 dX12_program_190 ?_
        refine x_iload_n h dX12_program_193 rfl ?_
        refine x_ialdv h gi (md_readGuessSign hF2).2 (ix.ni (j := gi) (by omega) (by decide)) ((up2_ne _ _ (by omega)).trans (((cp_out _ m V gi (by omega)).trans (cp_out _ m V gi (by omega))).trans (pr 18 gi (by omega) (by omega)))) dX12_program_194 ?_
        refine x_iast h gi (md_guessSign hF2).2 (ix.ni (j := gi) (by omega) (by decide)) dX12_program_195 ?_
        refine x_aload_n h dX12_program_196 rfl ?_
        refine x_getR h hF2.1 f_X12_37 rfl (md_guessTerm hF2).1 dX12_program_197 ?_
        refine x_iload_n h dX12_program_200 rfl ?_
        refine x_aload_n h dX12_program_201 rfl ?_
        refine x_getR h hF2.1 f_X12_64 rfl (md_readGuessTerm hF2).1 dX12_program_202 ?_
        refine x_iload_n h dX12_program_205 rfl ?_
        refine x_ialdv h gi (md_readGuessTerm hF2).2 (ix.ni (j := gi) (by omega) (by decide)) ((up2_ne _ _ (by omega)).trans ((up2_ne _ _ (by omega)).trans (((cp_out _ m V gi (by omega)).trans (cp_out _ m V gi (by omega))).trans (pr 19 gi (by omega) (by omega))))) dX12_program_206 ?_
        refine x_iast h gi (md_guessTerm hF2).2 (ix.ni (j := gi) (by omega) (by decide)) dX12_program_207 ?_
        refine x_mem (cp_3 _ m V gi) ?_
        refine x_incn h dX12_program_208 rfl rfl rfl ?_
        dsimp only [List.set]
        refine x_goto h 164 dX12_program_211 (by decide) ?_
        exact ih hlt
    have loop1 : ∀ k, k ≤ V 0 22 → X Γ E 0 0 G z (cpR N m V 2 7 k) 56 [some (.ref m), some (.int (nI (fb_ct (fun k => isStm (V 11 k)) k))), some (.int (nI k))] [] := by
      refine upto (V 0 22) (fun k hk ih => ?_)
      refine x_iload_n h dX12_program_56 rfl ?_
      refine x_aload_n h dX12_program_57 rfl ?_
      refine x_getIv h hF2.1 f_X12_205 rfl (show _ = nI (V 0 22) from (cp_out N m V (a := 0) 8 (by omega)).trans p8) dX12_program_58 ?_
      refine x_icmp_ge h 162 dX12_program_61 (by decide) (fun c61 => ?_) (fun c61 => ?_)
      · obtain rfl : k = V 0 22 := by
          have := (nI_le_iff (by omega) (by omega)).mp c61
          omega
        refine x_in0 h dX12_program_162 ?_
        refine x_istore_n h dX12_program_163 rfl rfl ?_
        dsimp only [List.set]
        have l0 := loop2 0 (Nat.zero_le _)
        rw [cp_0] at l0
        exact l0
      · have hlt : k < V 0 22 := by
          have := mt (nI_le_iff (a := V 0 22) (b := k) (by omega) (by omega)).mpr c61
          omega
        refine x_aload_n h dX12_program_64 rfl ?_
        refine x_getR h hF2.1 f_X12_13 rfl (md_kind hF2).1 dX12_program_65 ?_
        refine x_iload_n h dX12_program_68 rfl ?_
        refine x_aload_n h dX12_program_69 rfl ?_
        refine x_getR h hF2.1 f_X12_40 rfl (md_readKind hF2).1 dX12_program_70 ?_
        refine x_iload_n h dX12_program_73 rfl ?_
        refine x_ialdv h k (md_readKind hF2).2 (ix.ni (j := k) (by omega) (by decide)) ((cp_out _ m V k (by omega)).trans (pr 11 k (by omega) (by omega))) dX12_program_74 ?_
        refine x_iast h k (md_kind hF2).2 (ix.ni (j := k) (by omega) (by decide)) dX12_program_75 ?_
        refine x_aload_n h dX12_program_76 rfl ?_
        refine x_getR h hF2.1 f_X12_16 rfl (md_variable hF2).1 dX12_program_77 ?_
        refine x_iload_n h dX12_program_80 rfl ?_
        refine x_aload_n h dX12_program_81 rfl ?_
        refine x_getR h hF2.1 f_X12_43 rfl (md_readVariable hF2).1 dX12_program_82 ?_
        refine x_iload_n h dX12_program_85 rfl ?_
        refine x_ialdv h k (md_readVariable hF2).2 (ix.ni (j := k) (by omega) (by decide)) ((up2_ne _ _ (by omega)).trans ((cp_out _ m V k (by omega)).trans (pr 12 k (by omega) (by omega)))) dX12_program_86 ?_
        refine x_iast h k (md_variable hF2).2 (ix.ni (j := k) (by omega) (by decide)) dX12_program_87 ?_
        refine x_aload_n h dX12_program_88 rfl ?_
        refine x_getR h hF2.1 f_X12_19 rfl (md_sign hF2).1 dX12_program_89 ?_
        refine x_iload_n h dX12_program_92 rfl ?_
        refine x_aload_n h dX12_program_93 rfl ?_
        refine x_getR h hF2.1 f_X12_46 rfl (md_readSign hF2).1 dX12_program_94 ?_
        refine x_iload_n h dX12_program_97 rfl ?_
        refine x_ialdv h k (md_readSign hF2).2 (ix.ni (j := k) (by omega) (by decide)) ((up2_ne _ _ (by omega)).trans ((up2_ne _ _ (by omega)).trans ((cp_out _ m V k (by omega)).trans (pr 13 k (by omega) (by omega))))) dX12_program_98 ?_
        refine x_iast h k (md_sign hF2).2 (ix.ni (j := k) (by omega) (by decide)) dX12_program_99 ?_
        refine x_aload_n h dX12_program_100 rfl ?_
        refine x_getR h hF2.1 f_X12_22 rfl (md_term hF2).1 dX12_program_101 ?_
        refine x_iload_n h dX12_program_104 rfl ?_
        refine x_aload_n h dX12_program_105 rfl ?_
        refine x_getR h hF2.1 f_X12_49 rfl (md_readTerm hF2).1 dX12_program_106 ?_
        refine x_iload_n h dX12_program_109 rfl ?_
        refine x_ialdv h k (md_readTerm hF2).2 (ix.ni (j := k) (by omega) (by decide)) ((up2_ne _ _ (by omega)).trans ((up2_ne _ _ (by omega)).trans ((up2_ne _ _ (by omega)).trans ((cp_out _ m V k (by omega)).trans (pr 14 k (by omega) (by omega)))))) dX12_program_110 ?_
        refine x_iast h k (md_term hF2).2 (ix.ni (j := k) (by omega) (by decide)) dX12_program_111 ?_
        refine x_aload_n h dX12_program_112 rfl ?_
        refine x_getR h hF2.1 f_X12_25 rfl (md_number hF2).1 dX12_program_113 ?_
        refine x_iload_n h dX12_program_116 rfl ?_
        refine x_aload_n h dX12_program_117 rfl ?_
        refine x_getR h hF2.1 f_X12_52 rfl (md_readNumber hF2).1 dX12_program_118 ?_
        refine x_iload_n h dX12_program_121 rfl ?_
        refine x_ialdv h k (md_readNumber hF2).2 (ix.ni (j := k) (by omega) (by decide)) ((up2_ne _ _ (by omega)).trans ((up2_ne _ _ (by omega)).trans ((up2_ne _ _ (by omega)).trans ((up2_ne _ _ (by omega)).trans ((cp_out _ m V k (by omega)).trans (pr 15 k (by omega) (by omega))))))) dX12_program_122 ?_
        refine x_iast h k (md_number hF2).2 (ix.ni (j := k) (by omega) (by decide)) dX12_program_123 ?_
        refine x_aload_n h dX12_program_124 rfl ?_
        refine x_getR h hF2.1 f_X12_28 rfl (md_leads hF2).1 dX12_program_125 ?_
        refine x_iload_n h dX12_program_128 rfl ?_
        refine x_aload_n h dX12_program_129 rfl ?_
        refine x_getR h hF2.1 f_X12_55 rfl (md_readLeads hF2).1 dX12_program_130 ?_
        refine x_iload_n h dX12_program_133 rfl ?_
        refine x_ialdv h k (md_readLeads hF2).2 (ix.ni (j := k) (by omega) (by decide)) ((up2_ne _ _ (by omega)).trans ((up2_ne _ _ (by omega)).trans ((up2_ne _ _ (by omega)).trans ((up2_ne _ _ (by omega)).trans ((up2_ne _ _ (by omega)).trans ((cp_out _ m V k (by omega)).trans (pr 16 k (by omega) (by omega)))))))) dX12_program_134 ?_
        refine x_iast h k (md_leads hF2).2 (ix.ni (j := k) (by omega) (by decide)) dX12_program_135 ?_
        refine x_mem (cp_6 N m V k) ?_
        refine x_iload_n h dX12_program_136 rfl ?_
        refine x_aload_n h dX12_program_137 rfl ?_
        refine x_getR h hF2.1 f_X12_13 rfl (md_kind hF2).1 dX12_program_138 ?_
        refine x_iload_n h dX12_program_141 rfl ?_
        refine x_ialdv h k (md_kind hF2).2 (ix.ni (j := k) (by omega) (by decide)) (cp_in N m V (a := 2) (by omega) (by omega) (Nat.lt_succ_self k)) dX12_program_142 ?_
        refine x_cSi h ci_X12_isStatement sm_X12_isStatement l_X12_220 ⟨Nat.le_of_ble_eq_true rfl, Nat.le_of_ble_eq_true rfl⟩ ⟨rfl, rfl⟩ ⟨Nat.zero_le _, Nat.zero_le _⟩ (c_X12_isStatement (x := V 11 k) (ek k hlt)) rfl rfl rfl rfl dX12_program_143 (fun v143 M143 hp143 => ?_)
        obtain ⟨rfl, hM⟩ := hp143
        obtain rfl := hM.symm
        clear hM
        refine x_if_eq h 153 dX12_program_146 (by decide) (fun c146 => ?_) (fun c146 => ?_)
        · have e := b2i_0.mp c146
          refine x_in0 h dX12_program_153 ?_
          refine x_iaddn h  dX12_program_154 ?_
          refine x_topi (y := nI (fb_ct (fun k => isStm (V 11 k)) (k + 1))) (by rw [fb_ct_succ, e]; rfl) ?_
          refine x_istore_n h dX12_program_155 rfl rfl ?_
          dsimp only [List.set]
          refine x_incn h dX12_program_156 rfl rfl rfl ?_
          dsimp only [List.set]
          refine x_goto h 56 dX12_program_159 (by decide) ?_
          exact ih hlt
        · have e := bool_nf (fun q => c146 (b2i_0.mpr q))
          refine x_in1 h dX12_program_149 ?_
          refine x_goto h 154 dX12_program_150 (by decide) ?_
          refine x_iaddn h  dX12_program_154 ?_
          refine x_topi (y := nI (fb_ct (fun k => isStm (V 11 k)) (k + 1))) (by rw [fb_ct_succ, e]; rfl) ?_
          refine x_istore_n h dX12_program_155 rfl rfl ?_
          dsimp only [List.set]
          refine x_incn h dX12_program_156 rfl rfl rfl ?_
          dsimp only [List.set]
          refine x_goto h 56 dX12_program_159 (by decide) ?_
          exact ih hlt
    refine x_in0 h dX12_program_52 ?_
    refine x_istore_n h dX12_program_53 rfl rfl ?_
    dsimp only [List.set]
    refine x_in0 h dX12_program_54 ?_
    refine x_istore_n h dX12_program_55 rfl rfl ?_
    dsimp only [List.set]
    have l0 := loop1 0 (Nat.zero_le _)
    rw [cp_0] at l0
    exact l0
  refine x_mem hU ?_
  refine x_aload_n h dX12_program_0 rfl ?_
  refine x_cVi h ci_X12_readText im_X12_readText l_X12_202 ⟨Nat.le_of_ble_eq_true rfl, Nat.le_of_ble_eq_true rfl⟩ ⟨rfl, rfl⟩ ⟨Nat.zero_le _, Nat.zero_le _⟩ (c_X12_readText hF (U := U) iT hr.1 hr.2) rfl rfl rfl rfl hF.1 (by decide) rfl dX12_program_1 (fun v1 M1 hp1 => ?_)
  have hq := rdmP_Q ht iT.1 hp1
  have hM1 : ∃ U2, M1 = mtM M m U2 := by
    obtain ⟨k, V, a, b, d⟩ := hp1
    rcases d with ⟨-, -, -, d4⟩ | ⟨-, d4, -⟩
    · exact d4
    · exact ⟨V, d4⟩
  refine x_bipush h (-9) (by decide) dX12_program_4 ?_
  refine x_icmp_eq h 12 dX12_program_6 (by decide) (fun c6 => ?_) (fun c6 => ?_)
  · have hfull : ∃ S V, rdI tx (t0T T) len = some S ∧ rel S V ∧ wholeT S ∧ M1 = mtM M m V := by
      obtain ⟨k, V, a, b, d⟩ := hp1
      obtain ⟨S, e1, e2⟩ := rel_V (T := T) ht (by omega) b
      rcases d with ⟨d1, d2, d3, -⟩ | ⟨d1, d2, d3, d4⟩
      · exact absurd (d3.symm.trans c6) (nI_ne9 (by omega))
      · subst d1
        refine ⟨S, V, e1, e2, ?_, d2⟩
        refine (wh_iff e2 (rdI_nm ht k S (by omega) e1).1).mpr ?_
        by_cases w : wholeU V
        · exact w
        · exact absurd ((d4 w).symm.trans c6) (nI_ne9 (by omega))
    obtain ⟨S, V, hS, hrel, hwh, hM⟩ := hfull
    have hq9 : rdQ T tx len (-9) := by rw [← c6]; exact hq
    clear hp1 hM1
    subst hM
    refine x_aload_n h dX12_program_12 rfl ?_
    refine x_aload_n h dX12_program_13 rfl ?_
    refine x_getIv h hF.1 f_X12_130 rfl (show _ = nI (V 0 22) from by skip; exact mt_f M m V (by decide)) dX12_program_14 ?_
    refine x_putI h hF.1 f_X12_205 rfl rfl dX12_program_17 ?_
    refine x_aload_n h dX12_program_20 rfl ?_
    refine x_aload_n h dX12_program_21 rfl ?_
    refine x_getIv h hF.1 f_X12_151 rfl (show _ = nI (V 0 23) from by simp only [sI, up2]; rw [if_neg (by omega)]; exact mt_f M m V (by decide)) dX12_program_22 ?_
    refine x_putI h hF.1 f_X12_208 rfl rfl dX12_program_25 ?_
    refine x_aload_n h dX12_program_28 rfl ?_
    refine x_aload_n h dX12_program_29 rfl ?_
    refine x_getIv h hF.1 f_X12_154 rfl (show _ = nI (V 0 24) from by simp only [sI, up2]; rw [if_neg (by omega), if_neg (by omega)]; exact mt_f M m V (by decide)) dX12_program_30 ?_
    refine x_putI h hF.1 f_X12_211 rfl rfl dX12_program_33 ?_
    refine x_aload_n h dX12_program_36 rfl ?_
    refine x_aload_n h dX12_program_37 rfl ?_
    refine x_getIv h hF.1 f_X12_157 rfl (show _ = nI (V 0 25) from by simp only [sI, up2]; rw [if_neg (by omega), if_neg (by omega), if_neg (by omega)]; exact mt_f M m V (by decide)) dX12_program_38 ?_
    refine x_putI h hF.1 f_X12_214 rfl rfl dX12_program_41 ?_
    refine x_aload_n h dX12_program_44 rfl ?_
    refine x_aload_n h dX12_program_45 rfl ?_
    refine x_getIv h hF.1 f_X12_180 rfl (show _ = nI (V 0 26) from by simp only [sI, up2]; rw [if_neg (by omega), if_neg (by omega), if_neg (by omega), if_neg (by omega)]; exact mt_f M m V (by decide)) dX12_program_46 ?_
    refine x_putI h hF.1 f_X12_217 rfl rfl dX12_program_49 ?_
    refine main S V _ hS hrel hwh hq9 ⟨rfl, by simp [sI, up2], by simp [sI, up2], by simp [sI, up2], by simp [sI, up2], by simp [sI, up2], fun a j h1 h2 => ?_, fun a j h1 => ?_, fun b j h1 => ?_⟩
    · simp only [sI, up2]
      rw [if_neg (by omega), if_neg (by omega), if_neg (by omega), if_neg (by omega), if_neg (by omega)]
      exact mt_get M m V (by unfold regR; rw [decide_eq_true (show 11 ≤ a ∧ a ≤ 20 by omega)]; simp)
    · simp only [sI, up2]
      rw [if_neg (by omega), if_neg (by omega), if_neg (by omega), if_neg (by omega), if_neg (by omega)]
      refine mt_ne M m V ?_
      unfold regR
      rw [decide_eq_false (show ¬ (11 ≤ a ∧ a ≤ 20) by omega)]
      by_cases qa : a = 0
      · rw [decide_eq_false (show ¬ (22 ≤ j ∧ j ≤ 26) by omega), decide_eq_false (show ¬ j = 31 by omega), decide_eq_false (show ¬ j = 32 by omega)]; simp
      · rw [decide_eq_false qa]; rfl
    · simp only [sI, up2]
      rw [if_neg (by omega), if_neg (by omega), if_neg (by omega), if_neg (by omega), if_neg (by omega)]
      exact ((off_mt M m V).2 b h1).1 j
  · obtain ⟨U2, rfl⟩ := hM1
    refine x_bipush h (-3) (by decide) dX12_program_9 ?_
    exact x_iret h hQ rfl dX12_program_11 ⟨rfl, rfl, _, rfl, v1, hq, fun _ => ⟨rfl, mInv_mt hI0 U2⟩, fun q => absurd q c6, off_mt M m U2⟩
