/-! ===== runs of class and reference alike ===== -/
def rvT (S : RT) : RV := (S 0 1, fun i => S (65 + i) 0, fun i => S (65 + i) 1, fun i => S (65 + i) 3, fun i => cdS S (S (65 + i) 4))
/-- the values of the variables are those of the state -/
def rS (vs : Nat → Nat) (s : Nat) : Prop := s < 216 ∧ ∀ v, v < 3 → vs v = valS s v
theorem rS_up {vs : Nat → Nat} {s v y : Nat} (h : rS vs s) (hv : v < 3) (hy : y < 6) : rS (upN vs v y) (wth s v y) := by
  refine ⟨wth_lt h.1 hy, fun u hu => ?_⟩
  by_cases e : u = v
  · rw [e, upN_at, wth_val h.1 hv hy]
  · rw [upN_ne _ _ e, wth_other h.1 hu hv e hy]
    exact h.2 u hu
theorem rS_c {vs : Nat → Nat} {s : Nat} (h : rS vs s) (k : CND) : cndV k (vs 0) (vs 1) (vs 2) = cndT k s := by
  rw [h.2 0 (by decide), h.2 1 (by decide), h.2 2 (by decide)]
  rfl
theorem rS_t {vs : Nat → Nat} {s : Nat} (h : rS vs s) (k : Nat) : trmV k (vs 0) (vs 1) (vs 2) = trmV k (s / 36) (s / 6 % 6) (s % 6) := by
  rw [h.2 0 (by decide), h.2 1 (by decide), h.2 2 (by decide)]
  rfl
theorem trm_s {s t : Nat} (hs : s < 216) (ht : t < 9) : trmV t (s / 36) (s / 6 % 6) (s % 6) < 6 := trm_lt ht (by omega) (by omega) (by omega)
/-- a step of the class that goes on, and the reference's -/
theorem st_eq {S V : RT} (h : PR S V) {pl s : Nat} {x : Int64} {vs : Nat → Nat} (hp : pl < S 0 1) (hr : rS vs s) :
    ((stM (pgV V).1 pl s x).1 = (if S (65 + pl) 0 = 5 ∧ cndV (cdS S (S (65 + pl) 4)) (vs 0) (vs 1) (vs 2) = false then some 1 else if S (65 + pl) 0 = 4 ∧ cndV (cdS S (S (65 + pl) 4)) (vs 0) (vs 1) (vs 2) = false then some 2 else none)) ∧
    ((stM (pgV V).1 pl s x).1 ≠ none → (stM (pgV V).1 pl s x).2.1 = x) ∧
    ((stM (pgV V).1 pl s x).1 = none → (nxtV (S (65 + pl) 0) (S (65 + pl) 3) pl (cdS S (S (65 + pl) 4)) (chgV (S (65 + pl) 0) (S (65 + pl) 1) (cdS S (S (65 + pl) 4)) x vs).1 (chgV (S (65 + pl) 0) (S (65 + pl) 1) (cdS S (S (65 + pl) 4)) x vs).2).1 = (stM (pgV V).1 pl s x).2.2.2 ∧ (nxtV (S (65 + pl) 0) (S (65 + pl) 3) pl (cdS S (S (65 + pl) 4)) (chgV (S (65 + pl) 0) (S (65 + pl) 1) (cdS S (S (65 + pl) 4)) x vs).1 (chgV (S (65 + pl) 0) (S (65 + pl) 1) (cdS S (S (65 + pl) 4)) x vs).2).2 = (stM (pgV V).1 pl s x).2.1 ∧ rS (chgV (S (65 + pl) 0) (S (65 + pl) 1) (cdS S (S (65 + pl) 4)) x vs).2 (stM (pgV V).1 pl s x).2.2.1) := by
  have hd : S 200 5 = 0 := h.1.1.1
  obtain ⟨n1, n2, n3, n4, n5, n6, n7, n8⟩ := pr_nd h hp
  rw [hd] at n7 n8
  obtain ⟨t1, t2, t3, t4⟩ := h.1.2.2.1 pl hp
  have ix := h.1.2.2.2.2.1.1 pl hp
  have eA : kA (pgV V).1 pl = V 11 pl := rfl
  have eV : vA (pgV V).1 pl = V 12 pl := rfl
  have eC : cA (pgV V).1 pl = (V 12 pl, V 13 pl, V 14 pl) := rfl
  have eL : lA (pgV V).1 pl = V 16 pl := rfl
  have hw := hr.1
  unfold stM
  rw [eA, eC, eL]
  rcases (show S (65 + pl) 0 = 0 ∨ S (65 + pl) 0 = 1 ∨ S (65 + pl) 0 = 2 ∨ S (65 + pl) 0 = 3 ∨ S (65 + pl) 0 = 4 ∨ S (65 + pl) 0 = 5 ∨ S (65 + pl) 0 = 6 ∨ S (65 + pl) 0 = 7 ∨ S (65 + pl) 0 = 8 ∨ S (65 + pl) 0 = 9 ∨ S (65 + pl) 0 = 10 by omega) with k | k | k | k | k | k | k | k | k | k | k
  · have e : V 11 pl = 0 := by omega
    have v3 := t2 (by omega)
    have ev := n2 (by omega)
    obtain ⟨c1, c2, c3, c4⟩ := n3 k
    have ck := cd_ok h (ix (Or.inl k))
    rw [k, e]
    simp only [Nat.zero_le, if_true, chgV, nxtV]
    refine ⟨by simp, fun q => absurd rfl q, fun _ => ⟨by simp, by simp, ?_⟩⟩
    have ed : dnM (pgV V).1 pl s 0 = wth s (S (65 + pl) 1) (trmV (cdS S (S (65 + pl) 4)).2.2 (vs 0) (vs 1) (vs 2)) := by
      unfold dnM
      rw [eA, eV, eC, e, if_pos rfl, ev, c1, rS_t hr]
      rfl
    rw [ed]
    exact rS_up hr v3 (by rw [rS_t hr]; exact trm_s hw ck.2.2)
  · have e : V 11 pl = 1 := by omega
    have v3 := t2 (by omega)
    have ev := n2 (by omega)
    rw [k, e]
    simp only [show (1 : Nat) ≤ 2 from by decide, if_true, chgV, nxtV]
    refine ⟨by simp, fun q => absurd rfl q, fun _ => ⟨by simp, by simp, ?_⟩⟩
    have hv := hr.2 _ v3
    have lt := val_lt (v := S (65 + pl) 1) hw
    have ed : dnM (pgV V).1 pl s 0 = wth s (S (65 + pl) 1) (if 5 < vs (S (65 + pl) 1) + 1 then 5 else vs (S (65 + pl) 1) + 1) := by
      unfold dnM
      rw [eA, eV, e, if_neg (by decide), if_pos rfl, ev, hv]
      congr 1
      split <;> split <;> omega
    rw [ed]
    simp only [if_neg (show ¬ (1 : Nat) = 0 from by decide)]
    exact rS_up hr v3 (by split <;> omega)
  · have e : V 11 pl = 2 := by omega
    have v3 := t2 (by omega)
    have ev := n2 (by omega)
    rw [k, e]
    simp only [show (2 : Nat) ≤ 2 from by decide, if_true, chgV, nxtV]
    refine ⟨by simp, fun q => absurd rfl q, fun _ => ⟨by simp, by simp, ?_⟩⟩
    have hv := hr.2 _ v3
    have lt := val_lt (v := S (65 + pl) 1) hw
    have ed : dnM (pgV V).1 pl s 0 = wth s (S (65 + pl) 1) (vs (S (65 + pl) 1) - 1) := by
      unfold dnM
      rw [eA, eV, e, if_neg (by decide), if_neg (by decide), if_pos rfl, ev, hv]
      congr 1
      split <;> omega
    rw [ed]
    simp only [if_neg (show ¬ (2 : Nat) = 0 from by decide), if_neg (show ¬ (2 : Nat) = 1 from by decide)]
    exact rS_up hr v3 (by omega)
  · have e : V 11 pl = 3 := by omega
    have v3 := t2 (by omega)
    have ev := n2 (by omega)
    rw [k, e]
    simp only [show ¬ (3 : Nat) ≤ 2 from by decide, if_true, if_false, chgV, nxtV]
    refine ⟨by simp, fun q => absurd rfl q, fun _ => ⟨by simp, by simp, ?_⟩⟩
    have ed : dnM (pgV V).1 pl s (drN x 6) = wth s (S (65 + pl) 1) (drN x 6) := by
      unfold dnM
      rw [eA, eV, e, if_neg (by decide), if_neg (by decide), if_neg (by decide), ev]
    rw [ed]
    simp only [if_neg (show ¬ (3 : Nat) = 0 from by decide), if_neg (show ¬ (3 : Nat) = 1 from by decide), if_neg (show ¬ (3 : Nat) = 2 from by decide)]
    exact rS_up hr v3 (drN_lt x (by decide))
  · obtain ⟨c1, c2, c3⟩ := n4 (by omega) (by omega)
    have ck := cd_ok h (ix (by omega))
    rcases n1 with e | ⟨e, -, e1, e2⟩
    · rw [k] at e
      have ec : (V 12 pl, V 13 pl, V 14 pl) = cdS S (S (65 + pl) 4) := by
        rw [c1, c2, c3 (by omega)]; rfl
      rw [k, e, ec, rS_c hr]
      simp only [show ¬ (4 : Nat) ≤ 2 from by decide, if_true, if_false, chgV, nxtV]
      refine ⟨?_, fun _ => by simp, fun _ => ⟨by simp, by simp, by simpa using hr⟩⟩
      cases cndT (cdS S (S (65 + pl) 4)) s <;> simp
    · have e0 : (cdS S (S (65 + pl) 4)) = (S (5 + 3 * S (65 + pl) 4) 0, 61, 6 + S (5 + 3 * S (65 + pl) 4) 0) := by
        unfold cdS; rw [e1, e2]
      have et : cndT (cdS S (S (65 + pl) 4)) s = true := by rw [e0]; exact same_c
      rw [k, e, rS_c hr, et]
      simp only [Nat.zero_le, if_true, chgV, nxtV]
      refine ⟨by simp, fun q => absurd rfl q, fun _ => ⟨by simp, by simp, ?_⟩⟩
      have v3 : S (5 + 3 * S (65 + pl) 4) 0 < 3 := ck.1
      have ed : dnM (pgV V).1 pl s 0 = s := by
        unfold dnM
        rw [eA, eV, eC, e, if_pos rfl, c1]
        show wth s _ (trmV (V 14 pl) _ _ _) = s
        rw [c2, e2]
        have : trmV (6 + S (5 + 3 * S (65 + pl) 4) 0) (s / 36) (s / 6 % 6) (s % 6) = valS s (S (5 + 3 * S (65 + pl) 4) 0) := by
          unfold trmV
          rw [if_neg (by omega), show 6 + S (5 + 3 * S (65 + pl) 4) 0 - 6 = S (5 + 3 * S (65 + pl) 4) 0 by omega, val_pk]
        rw [this, wth_id hw]
      rw [ed]
      simpa using hr
  · have e : V 11 pl = 5 := by omega
    obtain ⟨c1, c2, c3⟩ := n4 (by omega) (by omega)
    have ec : (V 12 pl, V 13 pl, V 14 pl) = cdS S (S (65 + pl) 4) := by
      rw [c1, c2, c3 (by omega)]; rfl
    rw [k, e, ec, rS_c hr]
    simp only [show ¬ (5 : Nat) ≤ 2 from by decide, if_true, if_false, chgV, nxtV]
    refine ⟨?_, fun _ => by simp, fun _ => ⟨by simp, by simp, by simpa using hr⟩⟩
    cases cndT (cdS S (S (65 + pl) 4)) s <;> simp
  · have e : V 11 pl = 6 := by omega
    obtain ⟨c1, c2, c3⟩ := n4 (by omega) (by omega)
    have ec : (V 12 pl, V 13 pl, V 14 pl) = cdS S (S (65 + pl) 4) := by
      rw [c1, c2, c3 (by omega)]; rfl
    have el := n7 (Or.inl k) (fun d hd2 => absurd hd2 (Nat.not_lt_zero _))
    rw [k, e, ec, el]
    simp only [show ¬ (6 : Nat) ≤ 2 from by decide, if_true, if_false, chgV, nxtV]
    refine ⟨by simp, fun q => by simp, fun _ => ⟨?_, by simp, by simpa using hr⟩⟩
    simp [rS_c hr]
  · have e : V 11 pl = 7 := by omega
    have el := n6 k
    rw [k, e, el]
    simp only [show ¬ (7 : Nat) ≤ 2 from by decide, if_true, if_false, chgV, nxtV]
    exact ⟨by simp, fun q => by simp, fun _ => ⟨by simp, by simp, by simpa using hr⟩⟩
  · have e : V 11 pl = 8 := by omega
    have el := n7 (Or.inr k) (fun d hd2 => absurd hd2 (Nat.not_lt_zero _))
    rw [k, e, el]
    simp only [show ¬ (8 : Nat) ≤ 2 from by decide, if_true, if_false, chgV, nxtV]
    exact ⟨by simp, fun q => absurd (by simp) q, fun _ => ⟨by simp, by simp, by simpa using hr⟩⟩
  · have e : V 11 pl = 9 := by omega
    have el := n8 k (fun d hd2 => absurd hd2 (Nat.not_lt_zero _))
    rw [k, e, el]
    simp only [show ¬ (9 : Nat) ≤ 2 from by decide, if_true, if_false, chgV, nxtV]
    exact ⟨by simp, fun q => by simp, fun _ => ⟨by simp, by simp, by simpa using hr⟩⟩
  · have e : V 11 pl = 10 := by omega
    rw [k, e]
    simp only [show ¬ (10 : Nat) ≤ 2 from by decide, if_true, if_false, chgV, nxtV]
    exact ⟨by simp, fun q => by simp, fun _ => ⟨by simp, by simp, by simpa using hr⟩⟩
theorem stm_eq {S V : RT} (h : PR S V) {pl : Nat} (hp : pl < S 0 1) : isStm (V 11 pl) = isStm (S (65 + pl) 0) := by
  rcases (pr_nd h hp).1 with e | ⟨e, e2, -⟩
  · rw [e]
  · rw [e, e2]; rfl
theorem run_eq {S V : RT} (h : PR S V) : ∀ f pl dn (x : Int64) vs s, dn ≤ 60 → rS vs s → (runF (rvT S) f pl dn x vs).1 = (rmF (pgV V).1 f pl dn x s).1 ∧ (runF (rvT S) f pl dn x vs).2.1 = (rmF (pgV V).1 f pl dn x s).2
  | 0, pl, dn, x, vs, s, _, _ => ⟨rfl, rfl⟩
  | f + 1, pl, dn, x, vs, s, hd, hr => by
    have en : nA (pgV V).1 = S 0 1 := (pr_n h).1
    rw [runF, rmF, en]
    show (if S 0 1 ≤ pl then _ else if isStm (S (65 + pl) 0) = true ∧ 60 ≤ dn then _ else if S (65 + pl) 0 = 5 ∧ cndV (cdS S (S (65 + pl) 4)) (vs 0) (vs 1) (vs 2) = false then _ else if S (65 + pl) 0 = 4 ∧ cndV (cdS S (S (65 + pl) 4)) (vs 0) (vs 1) (vs 2) = false then _ else _ : Nat × Int64 × (Nat → Nat)).1 = _ ∧ (if S 0 1 ≤ pl then _ else if isStm (S (65 + pl) 0) = true ∧ 60 ≤ dn then _ else if S (65 + pl) 0 = 5 ∧ cndV (cdS S (S (65 + pl) 4)) (vs 0) (vs 1) (vs 2) = false then _ else if S (65 + pl) 0 = 4 ∧ cndV (cdS S (S (65 + pl) 4)) (vs 0) (vs 1) (vs 2) = false then _ else _ : Nat × Int64 × (Nat → Nat)).2.1 = _
    by_cases hn : S 0 1 ≤ pl
    · rw [if_pos hn, if_pos hn]; exact ⟨rfl, rfl⟩
    · have hp : pl < S 0 1 := by omega
      have ek : isStm (kA (pgV V).1 pl) = isStm (S (65 + pl) 0) := stm_eq h hp
      rw [if_neg hn, if_neg hn, ek]
      by_cases hq : isStm (S (65 + pl) 0) = true ∧ 60 ≤ dn
      · rw [if_pos hq, if_pos (by rw [if_pos hq.1]; omega)]; exact ⟨rfl, rfl⟩
      · have hq2 : ¬ 60 < dn + (if isStm (S (65 + pl) 0) = true then 1 else 0) := by
          by_cases z : isStm (S (65 + pl) 0) = true
          · rw [if_pos z]; have : ¬ 60 ≤ dn := fun w => hq ⟨z, w⟩; omega
          · rw [if_neg z]; omega
        rw [if_neg hq, if_neg hq2]
        obtain ⟨s1, s2, s3⟩ := st_eq (x := x) h hp hr
        by_cases h5 : S (65 + pl) 0 = 5 ∧ cndV (cdS S (S (65 + pl) 4)) (vs 0) (vs 1) (vs 2) = false
        · rw [if_pos h5] at s1 ⊢
          rw [s1, if_neg (by simp)]
          exact ⟨rfl, (s2 (by rw [s1]; simp)).symm⟩
        · rw [if_neg h5] at s1 ⊢
          by_cases h4 : S (65 + pl) 0 = 4 ∧ cndV (cdS S (S (65 + pl) 4)) (vs 0) (vs 1) (vs 2) = false
          · rw [if_pos h4] at s1 ⊢
            rw [s1, if_neg (by simp)]
            exact ⟨rfl, (s2 (by rw [s1]; simp)).symm⟩
          · rw [if_neg h4] at s1 ⊢
            rw [if_pos s1]
            obtain ⟨u1, u2, u3⟩ := s3 s1
            have ih := run_eq h f (stM (pgV V).1 pl s x).2.2.2 (dn + (if isStm (S (65 + pl) 0) = true then 1 else 0)) (stM (pgV V).1 pl s x).2.1 _ _ (by omega) u3
            rw [← ih.1, ← ih.2]
            have ed : (if isStm (S (65 + pl) 0) = true then dn + 1 else dn) = dn + (if isStm (S (65 + pl) 0) = true then 1 else 0) := by split <;> rfl
            rw [← u1, ← u2, ← ed]
            exact ⟨rfl, rfl⟩
theorem ini_eq {t vs : Nat → Nat} {x : Int64} (h : ∀ v, v < 3 → t v ≤ 6) : ∀ i, i ≤ 3 → (iniV t x vs i).1 = (inM t x i).1 ∧ (inM t x i).2 < 216 ∧ ∀ v, v < i → (iniV t x vs i).2 v = valS (inM t x i).2 v
  | 0, _ => ⟨rfl, (by decide : (0 : Nat) < 216), fun v hv => absurd hv (Nat.not_lt_zero _)⟩
  | i + 1, hi => by
    obtain ⟨a, b, c⟩ := ini_eq (vs := vs) (x := x) h i (by omega)
    have key : ∀ y, y < 6 → wth (inM t x i).2 i y < 216 ∧ ∀ v, v < i + 1 → upN (iniV t x vs i).2 i y v = valS (wth (inM t x i).2 i y) v := fun y hy => by
      refine ⟨wth_lt b hy, fun v hv => ?_⟩
      by_cases e : v = i
      · rw [e, upN_at, wth_val b (by omega) hy]
      · rw [upN_ne _ _ e, wth_other b (by omega) (by omega) e hy]
        exact c v (by omega)
    rw [iniV, inM]
    by_cases e : t i = 6
    · rw [if_pos e, if_pos e, a]
      exact ⟨rfl, key _ (drN_lt _ (by decide))⟩
    · rw [if_neg e, if_neg e]
      have := h i (by omega)
      exact ⟨a, key _ (by omega)⟩
theorem rn_eq {S V : RT} (h : PR S V) {t vs : Nat → Nat} {x : Int64} (h6 : ∀ v, v < 3 → t v ≤ 6) {F : Nat} (hF : F = 3721) : (runF (rvT S) F 0 0 (iniV t x vs 3).1 (iniV t x vs 3).2).1 = (rmF (pgV V).1 F 0 0 (inM t x 3).1 (inM t x 3).2).1 ∧ (runF (rvT S) F 0 0 (iniV t x vs 3).1 (iniV t x vs 3).2).2.1 = (rmF (pgV V).1 F 0 0 (inM t x 3).1 (inM t x 3).2).2 := by
  obtain ⟨a, b, c⟩ := ini_eq (vs := vs) (x := x) h6 3 (Nat.le_refl _)
  rw [a]
  exact run_eq h F 0 0 _ _ _ (by decide) ⟨b, c⟩
/-! ===== fractions in lowest terms; sums over the sets of guesses ===== -/
/-- Euclid's steps from (d, r) -/
def euN : Nat → Nat → Nat → Nat × Nat
  | 0, d, r => (d, r)
  | i + 1, d, r => if r = 0 then (d, 0) else euN i r (d % r)
theorem euN_gcd : ∀ i d r, Nat.gcd (euN i d r).1 (euN i d r).2 = Nat.gcd d r
  | 0, d, r => rfl
  | i + 1, d, r => by
    rw [euN]
    by_cases e : r = 0
    · rw [if_pos e, e]
    · rw [if_neg e, euN_gcd i r (d % r), Nat.gcd_comm d r, Nat.gcd_rec r d, Nat.gcd_comm]
theorem euN_end : ∀ k d r, r < 2 ^ k → (euN (2 * k) d r).2 = 0
  | 0, d, r, h => by
    show r = 0
    have : r < 1 := h
    omega
  | k + 1, d, r, h => by
    rw [show 2 * (k + 1) = 2 * k + 1 + 1 by omega, euN]
    by_cases e : r = 0
    · rw [if_pos e]
    · rw [if_neg e, euN]
      by_cases e2 : d % r = 0
      · rw [if_pos e2]
      · rw [if_neg e2]
        refine euN_end k _ _ ?_
        have l1 : d % r < r := Nat.mod_lt _ (by omega)
        have l2 : r % (d % r) < d % r := Nat.mod_lt _ (by omega)
        have hp : 2 ^ (k + 1) = 2 * 2 ^ k := by rw [Nat.pow_succ]; omega
        rcases Nat.lt_or_ge (2 * (d % r)) (r + 1) with q | q
        · omega
        · have l3 : r % (d % r) ≤ r - d % r := by
            rw [Nat.mod_eq_sub_mod (by omega)]
            exact Nat.mod_le _ _
          omega
theorem euN_0 (i d : Nat) : euN i d 0 = (d, 0) := by
  cases i with
  | zero => rfl
  | succ i => rw [euN, if_pos rfl]
theorem euN_more : ∀ i k d r, (euN i d r).2 = 0 → euN (i + k) d r = euN i d r
  | 0, k, d, r, h => by
    have e : r = 0 := h
    rw [e, euN_0, euN_0]
  | i + 1, k, d, r, h => by
    rw [show i + 1 + k = i + k + 1 by omega]
    rw [euN] at h ⊢
    rw [euN]
    by_cases e : r = 0
    · rw [if_pos e, if_pos e]
    · rw [if_neg e] at h ⊢
      rw [if_neg e]
      exact euN_more i k _ _ h
theorem eu_64 {d r N : Nat} (hN : N = 64) (h : r < 2 ^ 31) : euN N d r = (Nat.gcd r d, 0) := by
  have a := euN_end 31 d r h
  have b := euN_more (2 * 31) 2 d r a
  have g := euN_gcd (2 * 31) d r
  rw [a, Nat.gcd_zero_right] at g
  rw [hN, show 64 = 2 * 31 + 2 from rfl, b, Nat.gcd_comm]
  exact Prod.ext g a
/-- the class's search for the fewest guesses, upwards -/
def fwC (pv : Nat → Nat) (all : Nat) : Nat → Nat
  | 0 => all
  | s + 1 => if difG s all = 0 ∧ on5 s < on5 (fwC pv all s) ∧ pv s = pv all then s else fwC pv all s
/-- the fewest, and the smallest of those -/
def fwB (pv : Nat → Nat) (all r : Nat) : Prop := r ≤ all ∧ difG r all = 0 ∧ pv r = pv all ∧ ∀ s, s ≤ all → difG s all = 0 → pv s = pv all → on5 r < on5 s ∨ (on5 r = on5 s ∧ r ≤ s)
theorem fwB_un {pv : Nat → Nat} {all r r' : Nat} (h : fwB pv all r) (h' : fwB pv all r') : r = r' := by
  have a := h.2.2.2 r' h'.1 h'.2.1 h'.2.2.1
  have b := h'.2.2.2 r h.1 h.2.1 h.2.2.1
  omega
theorem dif_self (a : Nat) (h : a < 32) : difG a a = 0 := by
  revert a
  decide +kernel
theorem dif_le : ∀ a, a < 32 → ∀ s, s < 32 → difG s a = 0 → s ≤ a := by decide +kernel
theorem fwN_sp {pv : Nat → Nat} {all : Nat} (h : all < 32) : ∀ i, i ≤ all + 1 → fwN pv all i ≤ all ∧ difG (fwN pv all i) all = 0 ∧ pv (fwN pv all i) = pv all ∧ (i = 0 → fwN pv all i = all) ∧ (0 < i → all + 1 - i ≤ fwN pv all i) ∧ ∀ s, all + 1 - i ≤ s → s ≤ all → difG s all = 0 → pv s = pv all → on5 (fwN pv all i) < on5 s ∨ (on5 (fwN pv all i) = on5 s ∧ fwN pv all i ≤ s)
  | 0, _ => ⟨Nat.le_refl _, dif_self all h, rfl, fun _ => rfl, fun q => absurd q (Nat.lt_irrefl _), fun s h1 h2 => absurd h2 (by omega)⟩
  | i + 1, hi => by
    obtain ⟨a, b, c, d, e, f⟩ := fwN_sp (pv := pv) h i (by omega)
    rw [fwN]
    by_cases q : difG (all - i) all = 0 ∧ on5 (all - i) ≤ on5 (fwN pv all i) ∧ pv (all - i) = pv all
    · rw [if_pos q]
      refine ⟨by omega, q.1, q.2.2, fun z => absurd z (by omega), fun _ => by omega, fun s h1 h2 h3 h4 => ?_⟩
      rcases Nat.lt_or_ge s (all + 1 - i) with z | z
      · right
        have : s = all - i := by omega
        rw [this]; exact ⟨rfl, Nat.le_refl _⟩
      · have := f s z h2 h3 h4
        omega
    · rw [if_neg q]
      refine ⟨a, b, c, fun z => absurd z (by omega), fun _ => ?_, fun s h1 h2 h3 h4 => ?_⟩
      · rcases Nat.eq_zero_or_pos i with z | z
        · have := d z; omega
        · have := e z; omega
      · rcases Nat.lt_or_ge s (all + 1 - i) with z | z
        · have es : s = all - i := by omega
          rw [es] at h3 h4 ⊢
          left
          have : ¬ on5 (all - i) ≤ on5 (fwN pv all i) := fun w => q ⟨h3, w, h4⟩
          omega
        · exact f s z h2 h3 h4
theorem fwC_sp {pv : Nat → Nat} {all : Nat} (h : all < 32) : ∀ i, i ≤ 32 → fwC pv all i ≤ all ∧ difG (fwC pv all i) all = 0 ∧ pv (fwC pv all i) = pv all ∧ (fwC pv all i = all ∨ fwC pv all i < i) ∧ ∀ s, s < i → difG s all = 0 → pv s = pv all → on5 (fwC pv all i) < on5 s ∨ (on5 (fwC pv all i) = on5 s ∧ (fwC pv all i ≤ s ∨ fwC pv all i = all))
  | 0, _ => ⟨Nat.le_refl _, dif_self all h, rfl, Or.inl rfl, fun s h1 => absurd h1 (Nat.not_lt_zero _)⟩
  | i + 1, hi => by
    obtain ⟨a, b, c, d, e⟩ := fwC_sp (pv := pv) h i (by omega)
    rw [fwC]
    by_cases q : difG i all = 0 ∧ on5 i < on5 (fwC pv all i) ∧ pv i = pv all
    · rw [if_pos q]
      refine ⟨dif_le all h i (by omega) q.1, q.1, q.2.2, Or.inr (by omega), fun s h1 h2 h3 => ?_⟩
      rcases Nat.lt_or_ge s i with z | z
      · have w := e s z h2 h3
        have := q.2.1
        left
        omega
      · right
        have : s = i := by omega
        rw [this]; exact ⟨rfl, Or.inl (Nat.le_refl _)⟩
    · rw [if_neg q]
      refine ⟨a, b, c, by omega, fun s h1 h2 h3 => ?_⟩
      rcases Nat.lt_or_ge s i with z | z
      · exact e s z h2 h3
      · have es : s = i := by omega
        rw [es] at h2 h3 ⊢
        have nl : ¬ on5 i < on5 (fwC pv all i) := fun w => q ⟨h2, w, h3⟩
        omega
theorem on_sub : ∀ a, a < 32 → ∀ s, s < 32 → difG s a = 0 → on5 s = on5 a → s = a := by decide +kernel
theorem fw_eq {pv : Nat → Nat} {all N : Nat} (hN : N = 32) (h : all < 32) : fwC pv all N = fwN pv all (all + 1) := by
  obtain ⟨a, b, c, d, e⟩ := fwC_sp (pv := pv) h N (by omega)
  obtain ⟨a', b', c', -, -, f'⟩ := fwN_sp (pv := pv) h (all + 1) (Nat.le_refl _)
  refine fwB_un (pv := pv) (all := all) ⟨a, b, c, fun s h1 h2 h3 => ?_⟩ ⟨a', b', c', fun s h1 h2 h3 => f' s (by omega) h1 h2 h3⟩
  rcases e s (by omega) h2 h3 with q | ⟨q1, q2 | q2⟩
  · exact Or.inl q
  · exact Or.inr ⟨q1, q2⟩
  · right
    rw [q2] at q1 ⊢
    have := on_sub all h s (by omega) h2 q1.symm
    omega
/-- the class's sums: sets up to 31 -/
def shC (pv : Nat → Nat) (all gi : Nat) : Nat → Nat
  | 0 => 0
  | s + 1 => shC pv all gi s + (if difG s (difG all (2 ^ gi)) = 0 then fct (on5 s) * fct (on5 all - 1 - on5 s) * (pv (s ||| 2 ^ gi) - pv s) else 0)
theorem dd8 : ∀ a, a < 32 → ∀ s, s < 32 → ∀ gi, gi < 5 → (!a.testBit gi || (decide (difG s (difG a (2 ^ gi)) = 0) == (decide (difG s a = 0) && !s.testBit gi))) = true := by decide +kernel
theorem dd9 (a : Nat) (ha : a < 32) (s : Nat) (hs : s < 32) (gi : Nat) (hg : gi < 5) (hb : a.testBit gi = true) : difG s (difG a (2 ^ gi)) = 0 ↔ difG s a = 0 ∧ s.testBit gi = false := by
  have h := dd8 a ha s hs gi hg
  rw [hb, Bool.not_true, Bool.false_or] at h
  have h2 := eq_of_beq h
  constructor
  · intro q
    rw [decide_eq_true q] at h2
    have h3 := h2.symm
    rw [Bool.and_eq_true] at h3
    exact ⟨of_decide_eq_true h3.1, by simpa using h3.2⟩
  · intro q
    rw [decide_eq_true q.1, q.2] at h2
    exact of_decide_eq_true h2
theorem shC_eq {pv : Nat → Nat} {all gi : Nat} (h : all < 32) (hg : gi < 5) (hb : all.testBit gi = true) : ∀ s, s ≤ 32 → shC pv all gi s = shN pv all gi s
  | 0, _ => rfl
  | s + 1, hs => by
    have ih := shC_eq (pv := pv) h hg hb s (by omega)
    rw [shC, shN, ih]
    congr 1
    by_cases q : difG s all = 0 ∧ s.testBit gi = false
    · rw [if_pos q, if_pos ((dd9 all h s (by omega) gi hg hb).mpr q)]
    · rw [if_neg q, if_neg (fun z => q ((dd9 all h s (by omega) gi hg hb).mp z))]
theorem shN_hi {pv : Nat → Nat} {all gi : Nat} (h : all < 32) : ∀ d, all + 1 + d ≤ 32 → shN pv all gi (all + 1 + d) = shN pv all gi (all + 1)
  | 0, _ => rfl
  | d + 1, hd => by
    rw [show all + 1 + (d + 1) = all + 1 + d + 1 by omega, shN, if_neg (fun q => absurd (dif_le all h (all + 1 + d) (by omega) q.1) (by omega)), Nat.add_zero]
    exact shN_hi h d (by omega)
theorem sh_eq {pv : Nat → Nat} {all gi N : Nat} (hN : N = 32) (h : all < 32) (hg : gi < 5) (hb : all.testBit gi = true) : shC pv all gi N = shN pv all gi (all + 1) := by
  rw [shC_eq h hg hb N (by omega)]
  have := shN_hi (pv := pv) (gi := gi) h (N - (all + 1)) (by omega)
  rw [show all + 1 + (N - (all + 1)) = N by omega] at this
  exact this
theorem lsN_hi {pv : Nat → Nat} {nk all x : Nat} (h : all < 32) : ∀ d, all + 1 + d ≤ 32 → lsN pv nk all x (all + 1 + d) = lsN pv nk all x (all + 1)
  | 0, _ => rfl
  | d + 1, hd => by
    rw [show all + 1 + (d + 1) = all + 1 + d + 1 by omega, lsN, if_neg (fun q => absurd (dif_le all h (all + 1 + d) (by omega) q.1) (by omega)), Nat.add_zero]
    exact lsN_hi h d (by omega)
theorem ls_eq {pv : Nat → Nat} {nk all x N : Nat} (hN : N = 32) (h : all < 32) : lsN pv nk all x N = lsN pv nk all x (all + 1) := by
  have := lsN_hi (pv := pv) (nk := nk) (x := x) h (N - (all + 1)) (by omega)
  rw [show all + 1 + (N - (all + 1)) = N by omega] at this
  exact this
theorem all_ct : ∀ nk, nk < 5 → ∀ m, m < 2 ^ nk → (m = 2 ^ nk - 1 ↔ on5 m = nk) := by decide +kernel
