/-! ===== the two programs have the same edges ===== -/
def aT (S : RT) : AP := (S 0 1, fun j => S (65 + j) 0, fun j => S (65 + j) 1, fun j => (S (5 + 3 * S (65 + j) 4) 0, S (5 + 3 * S (65 + j) 4) 1, S (5 + 3 * S (65 + j) 4) 2), fun j => S (65 + j) 2, fun j => S (65 + j) 3)
theorem set_iff {s s2 v t : Nat} (hs : s < 216) (hs2 : s2 < 216) (hv : v < 3) (ht : t < 9) (hne : ¬ t = 6 + v) : ((∃ w, w < 6 ∧ s2 = wth s v w) ∧ cndT (v, 61, t) s2 = true) ↔ s2 = wth s v (trmV t (s / 36) (s / 6 % 6) (s % 6)) := by
  have hc : ∀ x, cndT (v, 61, t) x = true ↔ valS x v = trmV t (x / 36) (x / 6 % 6) (x % 6) := fun x => by
    show cmpS 61 (pkv v (x / 36) (x / 6 % 6) (x % 6)) (trmV t (x / 36) (x / 6 % 6) (x % 6)) = true ↔ _
    rw [val_pk]
    simp [cmpS]
  have htr : ∀ w, w < 6 → trmV t (wth s v w / 36) (wth s v w / 6 % 6) (wth s v w % 6) = trmV t (s / 36) (s / 6 % 6) (s % 6) := fun w hw => by
    unfold trmV
    split
    · rfl
    · rename_i q
      have e := wth_other (u := t - 6) (v := v) hs (by omega) hv (by omega) hw
      rw [val_pk, val_pk] at e
      exact e
  have hl : trmV t (s / 36) (s / 6 % 6) (s % 6) < 6 := trm_lt ht (by omega) (by omega) (by omega)
  rw [hc]
  constructor
  · rintro ⟨⟨w, hw, rfl⟩, h⟩
    rw [wth_val hs hv hw, htr w hw] at h
    rw [← h]
  · rintro rfl
    exact ⟨⟨_, hl, rfl⟩, by rw [wth_val hs hv hl, htr _ hl]⟩
theorem same_c {s v : Nat} : cndT (v, 61, 6 + v) s = true := by
  show cmpS 61 (pkv v (s / 36) (s / 6 % 6) (s % 6)) (trmV (6 + v) (s / 36) (s / 6 % 6) (s % 6)) = true
  simp [cmpS, trmV]
theorem ed_eq {S V : RT} (ht : tabOk S) (hrel : rel S V) {k s k' s' : Nat} (hk : k < S 0 1) (hs : s < 216) (hs' : s' < 216) : edM (pgV V).1 k s k' s' ↔ edC (aT S) k s k' s' := by
  obtain ⟨hw, hok, hst, hcn, hix, hnm, hbr, h10⟩ := ht
  have hN := hrel.2.2.2.2.1 k hk
  rw [hw.1] at hN
  have noO : ∀ d, d < 0 → S 201 d ≠ k := fun d hd => absurd hd (Nat.not_lt_zero _)
  have hkd := (hst k hk).1
  have hcon : (S (65 + k) 0 = 0 ∨ (4 ≤ S (65 + k) 0 ∧ S (65 + k) 0 ≤ 7)) → S (5 + 3 * S (65 + k) 4) 0 < 3 ∧ (S (5 + 3 * S (65 + k) 4) 1 = 60 ∨ S (5 + 3 * S (65 + k) 4) 1 = 61 ∨ S (5 + 3 * S (65 + k) 4) 1 = 62 ∨ S (5 + 3 * S (65 + k) 4) 1 = 35) ∧ S (5 + 3 * S (65 + k) 4) 2 < 9 := fun q => hcn _ (hix.1 k hk q)
  have eK : kA (aT S) k = S (65 + k) 0 := rfl
  have eV : vA (aT S) k = S (65 + k) 1 := rfl
  have eL : lA (aT S) k = S (65 + k) 3 := rfl
  have eC : cA (aT S) k = (S (5 + 3 * S (65 + k) 4) 0, S (5 + 3 * S (65 + k) 4) 1, S (5 + 3 * S (65 + k) 4) 2) := rfl
  have fK : kA (pgV V).1 k = V 11 k := rfl
  have fV : vA (pgV V).1 k = V 12 k := rfl
  have fL : lA (pgV V).1 k = V 16 k := rfl
  have fC : cA (pgV V).1 k = (V 12 k, V 13 k, V 14 k) := rfl
  obtain ⟨n1, n2, n3, n4, n5, n6, n7, n8⟩ := hN
  rcases n1 with u | ⟨u1, u2, u3, u4⟩
  · rcases (show S (65 + k) 0 = 0 ∨ S (65 + k) 0 = 1 ∨ S (65 + k) 0 = 2 ∨ S (65 + k) 0 = 3 ∨ S (65 + k) 0 = 4 ∨ S (65 + k) 0 = 5 ∨ S (65 + k) 0 = 6 ∨ S (65 + k) 0 = 7 ∨ S (65 + k) 0 = 8 ∨ S (65 + k) 0 = 9 ∨ S (65 + k) 0 = 10 by clear n2 n3 n4 n5 n6 n7 n8; omega) with q | q | q | q | q | q | q | q | q | q | q
    · have a := n3 q
      have b := n2 (by rw [q]; decide)
      have c := hcon (Or.inl q)
      have vv := (hst k hk).2.1 (by rw [q]; decide)
      unfold edM edC suS
      rw [fK, u, eK, q, if_pos (by decide), if_pos (by decide), if_pos rfl]
      show k' = k + 1 ∧ s' = dnM (pgV V).1 k s 0 ↔ k' = k + 1 ∧ (∃ w, w < 6 ∧ s' = wth s (vA (aT S) k) w) ∧ cndT (cA (aT S) k) s' = true
      have e := set_iff (s := s) (s2 := s') (v := S (65 + k) 1) (t := S (5 + 3 * S (65 + k) 4) 2) hs hs' vv c.2.2 a.2.2.2
      rw [eV, eC, a.2.1, a.2.2.1, e]
      have d : dnM (pgV V).1 k s 0 = wth s (S (65 + k) 1) (trmV (S (5 + 3 * S (65 + k) 4) 2) (s / 36) (s / 6 % 6) (s % 6)) := by
        unfold dnM
        rw [fK, u, q, if_pos rfl, fV, b, fC]
        show wth s _ (trmV (V 14 k) _ _ _) = _
        rw [a.1]
      rw [d]
    · have b := n2 (by rw [q]; decide)
      unfold edM edC suS
      rw [fK, u, eK, q, if_pos (by decide), if_pos (by decide), if_neg (by decide), if_pos rfl, eV]
      have d : dnM (pgV V).1 k s 0 = wth s (S (65 + k) 1) (if valS s (S (65 + k) 1) < 5 then valS s (S (65 + k) 1) + 1 else 5) := by
        unfold dnM
        rw [fK, u, q, if_neg (by decide), if_pos rfl, fV, b]
      rw [d]
    · have b := n2 (by rw [q]; decide)
      unfold edM edC suS
      rw [fK, u, eK, q, if_pos (by decide), if_pos (by decide), if_neg (by decide), if_neg (by decide), if_pos rfl, eV]
      have d : dnM (pgV V).1 k s 0 = wth s (S (65 + k) 1) (if 0 < valS s (S (65 + k) 1) then valS s (S (65 + k) 1) - 1 else 0) := by
        unfold dnM
        rw [fK, u, q, if_neg (by decide), if_neg (by decide), if_pos rfl, fV, b]
      rw [d]
    · have b := n2 (by rw [q]; decide)
      unfold edM edC suS
      rw [fK, u, eK, q, if_neg (by decide), if_pos rfl, if_pos (by decide), if_neg (by decide), if_neg (by decide), if_neg (by decide), if_pos rfl, eV]
      have d : ∀ w, dnM (pgV V).1 k s w = wth s (S (65 + k) 1) w := fun w => by
        unfold dnM
        rw [fK, u, q, if_neg (by decide), if_neg (by decide), if_neg (by decide), fV, b]
      constructor
      · rintro ⟨h1, w, hw2, h2⟩; exact ⟨h1, w, hw2, by rw [← d]; exact h2⟩
      · rintro ⟨h1, w, hw2, h2⟩; exact ⟨h1, w, hw2, by rw [d]; exact h2⟩
    · have a := n4 (by rw [q]; decide) (by rw [q]; decide)
      have e : cA (pgV V).1 k = cA (aT S) k := by rw [fC, eC, a.1, a.2.1, a.2.2 u]
      unfold edM edC suS tA
      rw [fK, u, eK, q, if_neg (by decide), if_neg (by decide), if_pos (by decide), if_pos (by decide), if_neg (by decide), if_neg (by decide), if_neg (by decide), if_neg (by decide), e]
      exact ⟨fun h => ⟨h.2.1, h.2.2, h.1⟩, fun h => ⟨h.2.2, h.1, h.2.1⟩⟩
    · have a := n4 (by rw [q]; decide) (by rw [q]; decide)
      have e : cA (pgV V).1 k = cA (aT S) k := by rw [fC, eC, a.1, a.2.1, a.2.2 u]
      unfold edM edC suS tA
      rw [fK, u, eK, q, if_neg (by decide), if_neg (by decide), if_pos (by decide), if_pos (by decide), if_neg (by decide), if_neg (by decide), if_neg (by decide), if_neg (by decide), e]
      exact ⟨fun h => ⟨h.2.1, h.2.2, h.1⟩, fun h => ⟨h.2.2, h.1, h.2.1⟩⟩
    · have a := n4 (by rw [q]; decide) (by rw [q]; decide)
      have e : cA (pgV V).1 k = cA (aT S) k := by rw [fC, eC, a.1, a.2.1, a.2.2 u]
      have l := n7 (Or.inl q) noO
      unfold edM edC tA
      rw [fK, u, eK, q, if_neg (show ¬ (6 : Nat) ≤ 2 by decide), if_neg (show ¬ (6 : Nat) = 3 by decide), if_neg (show ¬ (6 : Nat) ≤ 5 by decide), if_pos (show (6 : Nat) = 6 from rfl), if_neg (show ¬ (6 : Nat) ≤ 5 by decide), if_pos (show (6 : Nat) = 6 from rfl), e, fL, l, eL]
    · have l := n6 q
      unfold edM edC
      rw [fK, u, eK, q, if_neg (by decide), if_neg (by decide), if_neg (by decide), if_neg (by decide), if_neg (by decide), if_neg (by decide), if_neg (by decide), if_neg (by decide), if_pos rfl, fL, l, eL]
    · have l := n7 (Or.inr q) noO
      unfold edM edC
      rw [fK, u, eK, q, if_neg (by decide), if_neg (by decide), if_neg (by decide), if_neg (by decide), if_pos rfl, if_neg (by decide), if_neg (by decide), if_neg (by decide), if_pos rfl, fL, l, eL]
    · have l := n8 q noO
      unfold edM edC
      rw [fK, u, eK, q, if_neg (by decide), if_neg (by decide), if_neg (by decide), if_neg (by decide), if_neg (by decide), if_neg (by decide), if_neg (by decide), if_neg (by decide), if_neg (by decide), if_neg (by decide), if_pos rfl, fL, l, eL]
    · unfold edM edC
      rw [fK, u, eK, q, if_neg (by decide), if_neg (by decide), if_neg (by decide), if_neg (by decide), if_neg (by decide), if_pos rfl, if_neg (by decide), if_neg (by decide), if_neg (by decide), if_neg (by decide), if_neg (by decide)]
  · have a := n4 (by rw [u2]; decide) (by rw [u2]; decide)
    unfold edM edC suS tA
    rw [fK, u1, eK, u2, if_pos (by decide), if_pos (by decide), if_neg (by decide), if_neg (by decide), if_neg (by decide), if_neg (by decide), eC, u3, u4]
    have d : dnM (pgV V).1 k s 0 = s := by
      unfold dnM
      rw [fK, u1, if_pos rfl, fV, fC]
      show wth s (V 12 k) (trmV (V 14 k) _ _ _) = s
      rw [a.1, a.2.1, u4]
      have : trmV (6 + S (5 + 3 * S (65 + k) 4) 0) (s / 36) (s / 6 % 6) (s % 6) = valS s (S (5 + 3 * S (65 + k) 4) 0) := by
        unfold trmV
        rw [if_neg (by omega), val_pk, show 6 + S (5 + 3 * S (65 + k) 4) 0 - 6 = S (5 + 3 * S (65 + k) 4) 0 by omega]
      rw [this, wth_id hs]
    rw [d]
    exact ⟨fun h => ⟨h.1, h.2, same_c⟩, fun h => ⟨h.1, h.2.1⟩⟩
