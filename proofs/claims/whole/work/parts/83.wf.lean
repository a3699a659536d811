/-! ===== a program that is read has matched brackets ===== -/
theorem wf_of {S : RT} (ht : tabOk S) : wfA (aT S) := by
  obtain ⟨hw, hok, hst, hcn, hix, hnm, hbr, h10⟩ := ht
  have noO : ∀ j, ¬ isO S j := fun j ⟨d, a, _⟩ => by have := hw.1; omega
  have eN : nA (aT S) = S 0 1 := rfl
  have eK : ∀ j, kA (aT S) j = S (65 + j) 0 := fun _ => rfl
  have eV : ∀ j, vA (aT S) j = S (65 + j) 1 := fun _ => rfl
  have eM : ∀ j, mA (aT S) j = S (65 + j) 2 := fun _ => rfl
  have eL : ∀ j, lA (aT S) j = S (65 + j) 3 := fun _ => rfl
  have eC : ∀ i j, S (65 + i) 4 = S (65 + j) 4 → cA (aT S) i = cA (aT S) j := fun i j h => by
    show (S (5 + 3 * S (65 + i) 4) 0, S (5 + 3 * S (65 + i) 4) 1, S (5 + 3 * S (65 + i) 4) 2) = (S (5 + 3 * S (65 + j) 4) 0, S (5 + 3 * S (65 + j) 4) 1, S (5 + 3 * S (65 + j) 4) 2)
    rw [h]
  refine ⟨fun k hk => hst k hk, fun k hk c => ?_, fun k hk c => ?_, fun k hk c => ?_, fun k hk c => ?_, fun k hk c => ?_, fun i j hi hj e h1 h2 => ?_⟩
  · rcases (hbr.2 k hk).1 c with u | u
    · exact absurd u (noO k)
    · exact u
  · obtain ⟨u1, u2, u3, u4, u5, -⟩ := (hbr.2 k hk).2.1 c
    exact ⟨u1, u2, u3, u4, eC _ _ u5⟩
  · rcases (hbr.2 k hk).2.2.1 c with u | u
    · exact absurd u (noO k)
    · exact u
  · obtain ⟨⟨i, i1, i2, i3, i4, -⟩, u⟩ := (hbr.2 k hk).2.2.2.1 c
    refine ⟨⟨i, i1, i2, i3, i4⟩, ?_⟩
    rcases u with u | u
    · exact absurd u (noO k)
    · exact u
  · obtain ⟨i, i1, i2, i3, i4, -⟩ := (hbr.2 k hk).2.2.2.2 c
    exact ⟨i, i1, i2, i3, i4⟩
  · rcases h1 with c | c | c
    · exact hnm.2.1.2.1 i j hi hj c (e.symm.trans c) h2
    · exact hnm.2.2.1.2.1 i j hi hj c (e.symm.trans c) h2
    · exact hnm.2.2.2.2.1 i j hi hj c (e.symm.trans c) h2
/-- reached by the reference's steps or by the class's -/
theorem rch_eq {S V : RT} (ht : tabOk S) (hrel : rel S V) {B : ST} {k s : Nat} : Rch (edM (pgV V).1) (nA (pgV V).1) B k s ↔ Rch (edC (aT S)) (nA (aT S)) B k s := by
  have en : nA (pgV V).1 = nA (aT S) := by
    have s := hrel.2.2.1.1 ht.1.2
    exact s.1
  have hO := (okV hrel ht).1
  have hw := wf_of ht
  have e216 : ∀ {k s k' s' : Nat}, k < nA (aT S) → s < 216 → edC (aT S) k s k' s' → s' < 216 := fun {k s k' s'} hk hs he => by
    have kv := (hw.1 k hk).2.1
    unfold edC at he
    split at he
    · have hsu := he.2
      unfold suS at hsu
      split at hsu
      · obtain ⟨⟨w, hw2, rfl⟩, -⟩ := hsu; exact wth_lt hs hw2
      split at hsu
      · rw [hsu]; exact wth_lt hs (by split <;> omega)
      split at hsu
      · rw [hsu]; have := val_lt (v := vA (aT S) k) hs; exact wth_lt hs (by split <;> omega)
      split at hsu
      · obtain ⟨w, hw2, rfl⟩ := hsu; exact wth_lt hs hw2
      · rw [hsu.1]; exact hs
    split at he
    · rw [he.2]; exact hs
    split at he
    · rw [he.2]; exact hs
    split at he
    · rw [he.2]; exact hs
    split at he
    · rw [he.2]; exact hs
    · rw [he.2]; exact hs
  constructor
  · rintro ⟨r, hr⟩
    exact rch_least (P := fun k s => Rch (edC (aT S)) (nA (aT S)) B k s) (fun s h1 h2 => ⟨0, rfl, h1, h2⟩) (fun k s k' s' hk hs hP he => rch_step hP (by rw [← en]; exact hk) hs ((ed_eq ht hrel (by rw [en] at hk; exact hk) hs (ed_lt hO hk hs he).2).mp he)) r k s hr
  · rintro ⟨r, hr⟩
    exact rch_least (P := fun k s => Rch (edM (pgV V).1) (nA (pgV V).1) B k s) (fun s h1 h2 => ⟨0, rfl, h1, h2⟩) (fun k s k' s' hk hs hP he => rch_step hP (by rw [en]; exact hk) hs ((ed_eq ht hrel hk hs (e216 hk hs he)).mpr he)) r k s hr
