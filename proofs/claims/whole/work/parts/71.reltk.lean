/-! ===== the two readers agree, letter by letter ===== -/
theorem inn_iff {T U : RT} {i : Nat} (h : rel T U) (hok : rdOk T i) (hx : T 200 0 = 0) {k : Nat} (hk0 : ¬ k = 0) (hk4 : ¬ k = 4) : inU U = k ↔ 1 ≤ T 200 5 ∧ T (65 + plT T) 0 = k := by
  obtain ⟨e32, e25, sc, hO, hN, hG, pd⟩ := h
  obtain ⟨s22, s23, s24, s26, s31⟩ := sc.1 (Or.inl hx)
  unfold inU
  by_cases q : T 200 5 = 0
  · rw [if_pos (by rw [s31]; exact q)]
    exact ⟨fun e => absurd e.symm hk0, fun e => absurd e.1 (by omega)⟩
  · rw [if_neg (by rw [s31]; exact q)]
    have ep : plT T = T 201 (T 200 5 - 1) := if_pos (by omega)
    have eo : opU U = plT T := by rw [opU, s31, hO _ (by omega), ep]
    have hlt : plT T < T 0 1 := by rw [ep]; exact hok.2.2.2.2.2.2.2.2.2.1 _ (by omega)
    rw [eo]
    have a := (hN _ hlt).1
    constructor
    · intro e; exact ⟨by omega, by omega⟩
    · intro e; omega
theorem okU_of {T U : RT} {i : Nat} (h : rel T U) (hok : rdOk T i) (hi : i < 60) : okU U := by
  obtain ⟨e32, e25, sc, hO, hN, hG, pd⟩ := h
  obtain ⟨o1, o2, o3, o4, o5, o6, o7, o8, o9, o10, o11, o12⟩ := hok
  have hkd : ∀ j, j < T 0 1 → U 11 j ≤ 10 := fun j hj => by
    have a := (hN j hj).1
    have b := o11 j (by omega)
    omega
  rcases (show T 200 0 = 0 ∨ T 200 0 = 1 ∨ T 200 0 = 2 ∨ (3 ≤ T 200 0 ∧ T 200 0 ≤ 5) ∨ T 200 0 = 6 by omega) with hx | hx | hx | hx | hx
  · obtain ⟨s22, s23, s24, s26, s31⟩ := sc.1 (Or.inl hx)
    exact ⟨by omega, by omega, fun d hd => by rw [hO d (by omega), s22]; exact o10 d (by omega), by omega, by omega, by omega, by omega, fun j hj => hkd j (by omega), by omega, fun q => by omega, fun q => by omega⟩
  · obtain ⟨s22, s23, s24, s26, s31⟩ := sc.2.1 (Or.inl hx)
    obtain ⟨p12, p11⟩ := pd.1 hx
    refine ⟨by omega, by omega, fun d hd => by rw [hO d (by omega), s22]; have := o10 d (by omega); omega, by omega, by omega, by omega, by omega, fun j hj => ?_, by omega, fun q => by omega, fun q => by omega⟩
    rcases Nat.lt_or_ge j (T 0 1) with q | q
    · exact hkd j q
    · rw [show j = T 0 1 by omega, p11]; omega
  · obtain ⟨s22, s23, s24, s26, s31⟩ := sc.2.1 (Or.inr hx)
    obtain ⟨p11, p12⟩ := pd.2.1 hx
    refine ⟨by omega, by omega, fun d hd => by rw [hO d (by omega), s22]; have := o10 d (by omega); omega, by omega, by omega, by omega, by omega, fun j hj => ?_, by omega, fun q => by omega, fun q => by omega⟩
    rcases Nat.lt_or_ge j (T 0 1) with q | q
    · exact hkd j q
    · rw [show j = T 0 1 by omega, p11]; omega
  · have w := o12 hx.1 hx.2
    have sw := sc.2.2 hx.1 hx.2
    by_cases hG9 : T 200 1 = 4294967295
    · obtain ⟨s22, s23, s24, s26, s31⟩ := sw.2.2.2 hG9
      exact ⟨by omega, by omega, fun d hd => by rw [hO d (by omega), s22]; exact o10 d (by omega), by omega, by omega, by omega, by omega, fun j hj => hkd j (by omega), by omega, fun q => by omega, fun q => by omega⟩
    · obtain ⟨p11, p15, p16, p12, p13, hgs⟩ := pd.2.2.1 hx.1 hx.2 hG9
      have hkd2 : ∀ j, j < T 0 1 + 1 → U 11 j ≤ 10 := fun j hj => by
        rcases Nat.lt_or_ge j (T 0 1) with q | q
        · exact hkd j q
        · rw [show j = T 0 1 by omega, p11]; omega
      rcases w with w | w | w | w
      · obtain ⟨s22, s23, s24, s26, s31⟩ := sw.1 w
        exact ⟨by omega, by omega, fun d hd => by rw [hO d (by omega), s22]; have := o10 d (by omega); omega, by omega, by omega, by omega, by omega, fun j hj => hkd2 j (by omega), by omega, fun q => by omega, fun q => by omega⟩
      · obtain ⟨s22, s23, s24, s26, s31⟩ := sw.2.1 w.1
        exact ⟨by omega, by omega, fun d hd => by rw [hO d (by omega), s22]; have := o10 d (by omega); omega, by omega, by omega, by omega, by omega, fun j hj => hkd2 j (by omega), by omega, fun q => by omega, fun q => by omega⟩
      · obtain ⟨s22, s23, s24, s26, s31, s20⟩ := sw.2.2.1 w.1
        refine ⟨by omega, by omega, fun d hd => ?_, by omega, by omega, by omega, by omega, fun j hj => hkd2 j (by omega), by omega, fun q => by omega, fun q => by omega⟩
        rcases Nat.lt_or_ge d (T 200 5) with q | q
        · rw [hO d q, s22]; have := o10 d q; omega
        · rw [show d = T 200 5 by omega, s20, s22]; omega
      · exact absurd w.1 hG9
  · obtain ⟨s22, s23, s24, s26, s31⟩ := sc.1 (Or.inr hx)
    exact ⟨by omega, by omega, fun d hd => by rw [hO d (by omega), s22]; exact o10 d (by omega), by omega, by omega, by omega, by omega, fun j hj => hkd j (by omega), by omega, fun q => by omega, fun q => by omega⟩
def tkR (a b : Option RT) : Prop := (a = none ∧ b = none) ∨ ∃ T' U', a = some T' ∧ b = some U' ∧ rel T' U'
theorem tkR_if {p q : Prop} [Decidable p] [Decidable q] (h : p ↔ q) {T' U' : RT} (hr : p → rel T' U') : tkR (if p then some T' else none) (if q then some U' else none) := by
  by_cases c : p
  · rw [if_pos c, if_pos (h.mp c)]; exact Or.inr ⟨T', U', rfl, rfl, hr c⟩
  · rw [if_neg c, if_neg (mt h.mpr c)]; exact Or.inl ⟨rfl, rfl⟩
theorem rel_st {T U : RT} {i ch : Nat} (h : rel T U) (hok : rdOk T i) (hi : i < 60) (hx9 : idxOk T) (hx : T 200 0 = 0) : tkR (stT T ch) (stU U ch) := by
  have hok0 := hok
  obtain ⟨o1, o2, o3, o4, o5, o6, o7, o8, o9, o10, o11, o12⟩ := hok
  have hn : T 0 1 < 60 := by omega
  have hu : T 0 3 ≤ 20 := by omega
  have hd : T 200 5 ≤ 6 := by omega
  obtain ⟨s22, s23, s24, s26, s31⟩ := h.2.2.1.1 (Or.inl hx)
  have e25 := h.2.1
  have hgs : T 0 6 = 0 := h.2.2.2.2.2.2.2.2.2.2 (by omega)
  have hpl : 1 ≤ T 200 5 → T 201 (T 200 5 - 1) = plT T ∧ plT T < T 0 1 := fun q => ⟨(if_pos q).symm, by rw [show plT T = T 201 (T 200 5 - 1) from if_pos q]; exact o10 _ (by omega)⟩
  unfold stT stU
  by_cases c0 : isNm ch = true
  · rw [if_pos c0, if_pos c0]; exact Or.inr ⟨_, _, rfl, rfl, re_nm h hn hu hd hx9 o8 hx⟩
  rw [if_neg c0, if_neg c0]
  by_cases c1 : ch = 64
  · rw [if_pos c1, if_pos c1]; exact Or.inr ⟨_, _, rfl, rfl, re_ec4 h hn hu hd hx9 o8 hx⟩
  rw [if_neg c1, if_neg c1]
  by_cases c2 : ch = 33
  · rw [if_pos c2, if_pos c2, s23]; exact tkR_if Iff.rfl (fun _ => re_ec5 h hn hu hd hx9 o8 hx)
  rw [if_neg c2, if_neg c2]
  by_cases c3 : ch = 40
  · rw [if_pos c3, if_pos c3, s24]; exact tkR_if Iff.rfl (fun _ => re_ec6 h hn hu hd hx9 o8 hx)
  rw [if_neg c3, if_neg c3]
  by_cases c4 : ch = 41
  · rw [if_pos c4, if_pos c4]; exact tkR_if (inn_iff h hok0 hx (by decide) (by decide)).symm (fun q => re_cl h hn hu hd hx9 o8 hx q.1 (hpl q.1).1 (hpl q.1).2 q.2)
  rw [if_neg c4, if_neg c4]
  by_cases c5 : ch = 123
  · rw [if_pos c5, if_pos c5, e25]; exact tkR_if Iff.rfl (fun _ => re_oc h hn hu hd hx9 o8 hx)
  rw [if_neg c5, if_neg c5]
  by_cases c6 : ch = 124
  · rw [if_pos c6, if_pos c6]; exact tkR_if (inn_iff h hok0 hx (by decide) (by decide)).symm (fun q => re_pb9 h hn hu hd hx9 o8 hx q.1 (hpl q.1).1 (hpl q.1).2 q.2)
  rw [if_neg c6, if_neg c6]
  by_cases c7 : ch = 125
  · rw [if_pos c7, if_pos c7]; exact tkR_if (inn_iff h hok0 hx (by decide) (by decide)).symm (fun q => re_pb10 h hn hu hd hx9 o8 hx q.1 (hpl q.1).1 (hpl q.1).2 q.2)
  rw [if_neg c7, if_neg c7]
  by_cases c8 : ch = 59
  · rw [if_pos c8, if_pos c8]; exact tkR_if (by rw [s31, s26]; omega) (fun _ => re_ecG h hn hu hd hx9 o8 hx)
  rw [if_neg c8, if_neg c8]
  exact Or.inl ⟨rfl, rfl⟩
theorem rel_op {T U : RT} {i ch : Nat} (h : rel T U) (hok : rdOk T i) (hi : i < 60) (hx9 : idxOk T) (hx : T 200 0 = 1) : tkR (opT T ch) (if ddK ch < 4 then some (ddU U (ddK ch)) else none) := by
  obtain ⟨o1, o2, o3, o4, o5, o6, o7, o8, o9, o10, o11, o12⟩ := hok
  have hn : T 0 1 < 60 := by omega
  have hu : T 0 3 ≤ 20 := by omega
  have hd : T 200 5 ≤ 6 := by omega
  unfold opT ddK
  by_cases c0 : ch = 61
  · rw [if_pos c0, if_pos c0]; exact Or.inr ⟨_, _, rfl, rfl, re_op h hn hu hd hx9 o8 hx⟩
  rw [if_neg c0, if_neg c0]
  by_cases c1 : ch = 43
  · rw [if_pos c1, if_pos c1]; exact Or.inr ⟨_, _, rfl, rfl, re_ch1 h hn hu hd hx9 o8 hx⟩
  rw [if_neg c1, if_neg c1]
  by_cases c2 : ch = 45
  · rw [if_pos c2, if_pos c2]; exact Or.inr ⟨_, _, rfl, rfl, re_ch2 h hn hu hd hx9 o8 hx⟩
  rw [if_neg c2, if_neg c2]
  by_cases c3 : ch = 63
  · rw [if_pos c3, if_pos c3]; exact Or.inr ⟨_, _, rfl, rfl, re_ch3 h hn hu hd hx9 o8 hx⟩
  rw [if_neg c3, if_neg c3, if_neg (by decide)]
  exact Or.inl ⟨rfl, rfl⟩
theorem rel_tr {T U : RT} {i t : Nat} (h : rel T U) (hok : rdOk T i) (hi : i < 60) (hx9 : idxOk T) (hx : T 200 0 = 5) : rel (trT T t) (ptU U 2 t) := by
  obtain ⟨o1, o2, o3, o4, o5, o6, o7, o8, o9, o10, o11, o12⟩ := hok
  have hn : T 0 1 < 60 := by omega
  have hu : T 0 3 ≤ 20 := by omega
  have hu2 : T 0 3 < 20 := by omega
  have hd : T 200 5 ≤ 6 := by omega
  have e : ∀ a f, a ≠ 5 + 3 * T 0 3 → ¬ (a = 0 ∧ f = 3) → ncT T (T 200 2) (T 200 3) t a f = T a f := fun a f h1 h2 => by
    simp [ncT, tU, h1, h2]
  have f3 : ncT T (T 200 2) (T 200 3) t 0 3 = T 0 3 + 1 := by simp [ncT, tU] <;> omega
  have f0 : ncT T (T 200 2) (T 200 3) t (5 + 3 * T 0 3) 0 = T 200 2 := by simp [ncT, tU]
  have f1 : ncT T (T 200 2) (T 200 3) t (5 + 3 * T 0 3) 1 = T 200 3 := by simp [ncT, tU]
  have f2 : ncT T (T 200 2) (T 200 3) t (5 + 3 * T 0 3) 2 = t := by simp [ncT, tU]
  unfold trT
  rcases o12 (by omega) (by omega) with w | w | w | w
  · rw [if_pos w]
    exact re_tr4 h hn hu hd hx9 o8 hu2 hx w
  · rw [if_neg (by omega), if_pos w.1]
    have hr := re_nc h hx9 hn hu2 o8 (x := T 200 2) (y := T 200 3) (w := t)
    have hix := ix_nc hx9 hu2 hn o8 o9 (x := T 200 2) (y := T 200 3) (w := t)
    generalize ncT T (T 200 2) (T 200 3) t = S at *
    exact re_ac hr (by rw [e 0 1 (by omega) (by omega)]; exact hn) (by omega) (by rw [e 200 5 (by omega) (by omega)]; exact hd) hix (by rw [e 0 6 (by omega) (by omega)]; exact o8) (by rw [e 200 0 (by omega) (by omega)]; exact hx) (by rw [e 200 1 (by omega) (by omega)]; exact w.1) (by omega) (by rw [f0, e 200 2 (by omega) (by omega)]) (by rw [f1, e 200 3 (by omega) (by omega)]) f2
  · rw [if_neg (by omega), if_neg (by omega), if_pos w.1]
    have hr := re_nc h hx9 hn hu2 o8 (x := T 200 2) (y := T 200 3) (w := t)
    have hix := ix_nc hx9 hu2 hn o8 o9 (x := T 200 2) (y := T 200 3) (w := t)
    generalize ncT T (T 200 2) (T 200 3) t = S at *
    exact re_ol hr (by rw [e 0 1 (by omega) (by omega)]; exact hn) (by omega) (by rw [e 200 5 (by omega) (by omega)]; exact hd) hix (by rw [e 0 6 (by omega) (by omega)]; exact o8) (by rw [e 200 0 (by omega) (by omega)]; exact hx) (by rw [e 200 1 (by omega) (by omega)]; exact w.1) (by omega) (by rw [f0, e 200 2 (by omega) (by omega)]) (by rw [f1, e 200 3 (by omega) (by omega)]) f2
  · rw [if_neg (by omega), if_neg (by omega), if_neg (by omega)]
    exact re_trG h hn hu hd hx9 o8 hu2 hx w.1
theorem rel_tk {T U : RT} {i ch : Nat} (h : rel T U) (hok : rdOk T i) (hi : i < 60) (hx9 : idxOk T) : tkR (tkT T ch) (mkU U ch) := by
  have hok0 := hok
  obtain ⟨o1, o2, o3, o4, o5, o6, o7, o8, o9, o10, o11, o12⟩ := hok
  have hn : T 0 1 < 60 := by omega
  have hu : T 0 3 ≤ 20 := by omega
  have hu2 : T 200 0 = 2 → T 0 3 < 20 := fun q => by omega
  have hd : T 200 5 ≤ 6 := by omega
  have e32 := h.1
  unfold tkT mkU
  rw [e32]
  by_cases x0 : T 200 0 = 0
  · rw [if_pos x0, if_pos x0]; exact rel_st h hok0 hi hx9 x0
  rw [if_neg x0, if_neg x0]
  by_cases x1 : T 200 0 = 1
  · rw [if_pos x1, if_pos x1]; exact rel_op h hok0 hi hx9 x1
  rw [if_neg x1, if_neg x1]
  by_cases x2 : T 200 0 = 2
  · rw [if_pos x2, if_pos x2]
    refine tkR_if Iff.rfl (fun _ => ?_)
    by_cases e : trmN ch = 6 + T 200 2
    · exact re_nva h hn hu hd hx9 o8 (hu2 x2) x2 e
    · exact re_nvb h hn hu hd hx9 o8 (hu2 x2) x2 e
  rw [if_neg x2, if_neg x2]
  have w3 : 3 ≤ T 200 0 → T 200 0 ≤ 5 → T 200 1 = 4 ∨ T 200 1 = 5 ∨ T 200 1 = 6 ∨ T 200 1 = 4294967295 := fun a b => by
    have := o12 a b
    omega
  by_cases x3 : T 200 0 = 3
  · rw [if_pos x3, if_pos x3]
    refine tkR_if Iff.rfl (fun _ => ?_)
    rcases w3 (by omega) (by omega) with w | w | w | w
    · exact re_lf4 h hn hu hd hx9 o8 x3 w
    · exact re_lf5 h hn hu hd hx9 o8 x3 w
    · exact re_lf6 h hn hu hd hx9 o8 x3 w
    · exact re_lfG h hn hu hd hx9 o8 x3 w
  rw [if_neg x3, if_neg x3]
  by_cases x4 : T 200 0 = 4
  · rw [if_pos x4, if_pos x4]
    refine tkR_if Iff.rfl (fun _ => ?_)
    rcases w3 (by omega) (by omega) with w | w | w | w
    · exact re_sg4 h hn hu hd hx9 o8 x4 w
    · exact re_sg5 h hn hu hd hx9 o8 x4 w
    · exact re_sg6 h hn hu hd hx9 o8 x4 w
    · exact re_sgG h hn hu hd hx9 o8 x4 w
  rw [if_neg x4, if_neg x4]
  by_cases x5 : T 200 0 = 5
  · rw [if_pos x5, if_pos x5]
    exact tkR_if Iff.rfl (fun _ => rel_tr h hok0 hi hx9 x5)
  rw [if_neg x5, if_neg x5]
  have x6 : T 200 0 = 6 := by omega
  obtain ⟨s22, s23, s24, s26, s31⟩ := h.2.2.1.1 (Or.inr x6)
  exact tkR_if (by rw [s26]; omega) (fun _ => re_ecH h hn hu hd hx9 o8 x6)
