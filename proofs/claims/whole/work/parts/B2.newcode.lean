/-! ===== the constructor of Code ===== -/
theorem exB_R2 {b z' : Nat} {G G' : GG} {M N : MM} (h : exB b z' G G' M N) {c : Nat} (hc : b ≤ c) (k : Nat) (v : Value) : exB b z' G G' M (sR N c k v) := ⟨h.1, fun a ha => ⟨(h.2.1 a ha).1, (h.2.1 a ha).2.1, fun j => (up2_ne _ _ (by omega)).trans ((h.2.1 a ha).2.2 j)⟩, h.2.2.1, h.2.2.2.1, h.2.2.2.2⟩
def basC (G : GG) (R : Nat → Nat → Value) (b : Nat) : Prop := G b = some (.inl 2) ∧ R b 0 = .ref (b + 1) ∧ R b 2 = .ref (b + 2) ∧ R b 4 = .ref (b + 3) ∧ R b 5 = .ref (b + 4) ∧ G (b + 1) = some (.inr (.object "LoopGuesses$Step", 60)) ∧ G (b + 2) = some (.inr (.object "LoopGuesses$Condition", 20)) ∧ G (b + 3) = some (.inr (.object "LoopGuesses$Condition", 5)) ∧ G (b + 4) = some (.inr (.object "LoopGuesses$Condition", 4))
/-- so many conditions, steps, guesses' and checks' places are made -/
def cdI (G : GG) (R : Nat → Nat → Value) (b i1 i2 i3 i4 : Nat) : Prop := basC G R b ∧ (∀ j, j < i1 → R (b + 2) j = .ref (b + 5 + 3 * j) ∧ condW G R (b + 5 + 3 * j)) ∧ (∀ j, j < i2 → R (b + 1) j = .ref (b + 65 + j) ∧ G (b + 65 + j) = some (.inl 10) ∧ R (b + 65 + j) 4 = .ref (b + 5)) ∧ (∀ j, j < i3 → R (b + 3) j = .ref (b + 5)) ∧ ∀ j, j < i4 → R (b + 4) j = .ref (b + 5)
theorem cdI_N {G G' : GG} {R R' : Nat → Nat → Value} {b i1 i2 i3 i4 z : Nat} (h : cdI G R b i1 i2 i3 i4) (e : ∀ a, b ≤ a → a < z → sam G G' R R' a) (h1 : b + 5 + 3 * i1 ≤ z) (h2 : i2 = 0 ∨ b + 65 + i2 ≤ z) : cdI G' R' b i1 i2 i3 i4 := by
  obtain ⟨⟨a1, a2, a3, a4, a5, a6, a7, a8, a9⟩, c1, c2, c3, c4⟩ := h
  have e0 := e b (by omega) (by omega)
  exact ⟨⟨e0.1.trans a1, (e0.2 _).trans a2, (e0.2 _).trans a3, (e0.2 _).trans a4, (e0.2 _).trans a5, (e _ (by omega) (by omega)).1.trans a6, (e _ (by omega) (by omega)).1.trans a7, (e _ (by omega) (by omega)).1.trans a8, (e _ (by omega) (by omega)).1.trans a9⟩, fun j hj => ⟨((e _ (by omega) (by omega)).2 _).trans (c1 j hj).1, cond_x (c1 j hj).2 (fun a _ _ => e a (by omega) (by omega))⟩, fun j hj => ⟨((e _ (by omega) (by omega)).2 _).trans (c2 j hj).1, (e _ (by omega) (by omega)).1.trans (c2 j hj).2.1, ((e _ (by omega) (by omega)).2 _).trans (c2 j hj).2.2⟩, fun j hj => ((e _ (by omega) (by omega)).2 _).trans (c3 j hj), fun j hj => ((e _ (by omega) (by omega)).2 _).trans (c4 j hj)⟩
theorem cdI_c {G : GG} {M : MM} {b i1 : Nat} (h : cdI G M.2.2 b i1 0 0 0) (hc : condW G M.2.2 (b + 5 + 3 * i1)) : cdI G (sR M (b + 2) i1 (.ref (b + 5 + 3 * i1))).2.2 b (i1 + 1) 0 0 0 := by
  obtain ⟨⟨a1, a2, a3, a4, a5, a6, a7, a8, a9⟩, c1, c2, c3, c4⟩ := h
  refine ⟨⟨a1, (up2_ne _ _ (by omega)).trans a2, (up2_ne _ _ (by omega)).trans a3, (up2_ne _ _ (by omega)).trans a4, (up2_ne _ _ (by omega)).trans a5, a6, a7, a8, a9⟩, fun j hj => ?_, fun j hj => absurd hj (Nat.not_lt_zero _), fun j hj => absurd hj (Nat.not_lt_zero _), fun j hj => absurd hj (Nat.not_lt_zero _)⟩
  by_cases q : j = i1
  · rw [q]; exact ⟨up2_self _ _ _ _, cond_x hc (fun a _ _ => sam_R _ _ _ _ (by omega))⟩
  · exact ⟨(up2_ne _ _ (by omega)).trans (c1 j (by omega)).1, cond_x (c1 j (by omega)).2 (fun a _ _ => sam_R _ _ _ _ (by omega))⟩
theorem cdI_s {G : GG} {M : MM} {b i2 : Nat} (h : cdI G M.2.2 b 20 i2 0 0) (h1 : G (b + 65 + i2) = some (.inl 10)) (h2 : M.2.2 (b + 65 + i2) 4 = .ref (b + 5)) : cdI G (sR M (b + 1) i2 (.ref (b + 65 + i2))).2.2 b 20 (i2 + 1) 0 0 := by
  obtain ⟨⟨a1, a2, a3, a4, a5, a6, a7, a8, a9⟩, c1, c2, c3, c4⟩ := h
  refine ⟨⟨a1, (up2_ne _ _ (by omega)).trans a2, (up2_ne _ _ (by omega)).trans a3, (up2_ne _ _ (by omega)).trans a4, (up2_ne _ _ (by omega)).trans a5, a6, a7, a8, a9⟩, fun j hj => ⟨(up2_ne _ _ (by omega)).trans (c1 j (by omega)).1, cond_x (c1 j (by omega)).2 (fun a _ _ => sam_R _ _ _ _ (by omega))⟩, fun j hj => ?_, fun j hj => absurd hj (Nat.not_lt_zero _), fun j hj => absurd hj (Nat.not_lt_zero _)⟩
  by_cases q : j = i2
  · rw [q]; exact ⟨up2_self _ _ _ _, h1, (up2_ne _ _ (by omega)).trans h2⟩
  · exact ⟨(up2_ne _ _ (by omega)).trans (c2 j (by omega)).1, (c2 j (by omega)).2.1, (up2_ne _ _ (by omega)).trans (c2 j (by omega)).2.2⟩
theorem cdI_g {G : GG} {M : MM} {b i3 i4 c j0 : Nat} (h : cdI G M.2.2 b 20 60 i3 i4) (hc : (c = b + 3 ∧ j0 = i3) ∨ (c = b + 4 ∧ j0 = i4)) : cdI G (sR M c j0 (.ref (b + 5))).2.2 b 20 60 (if c = b + 3 then i3 + 1 else i3) (if c = b + 3 then i4 else i4 + 1) := by
  obtain ⟨⟨a1, a2, a3, a4, a5, a6, a7, a8, a9⟩, c1, c2, c3, c4⟩ := h
  refine ⟨⟨a1, (up2_ne _ _ (by omega)).trans a2, (up2_ne _ _ (by omega)).trans a3, (up2_ne _ _ (by omega)).trans a4, (up2_ne _ _ (by omega)).trans a5, a6, a7, a8, a9⟩, fun j hj => ⟨(up2_ne _ _ (by omega)).trans (c1 j (by omega)).1, cond_x (c1 j (by omega)).2 (fun a _ _ => sam_R _ _ _ _ (by omega))⟩, fun j hj => ⟨(up2_ne _ _ (by omega)).trans (c2 j (by omega)).1, (c2 j (by omega)).2.1, (up2_ne _ _ (by omega)).trans (c2 j (by omega)).2.2⟩, fun j hj => ?_, fun j hj => ?_⟩
  · by_cases q : b + 3 = c ∧ j = j0
    · rw [q.1, q.2]; exact up2_self _ _ _ _
    · refine (up2_ne _ _ q).trans (c3 j ?_)
      split at hj <;> omega
  · by_cases q : b + 4 = c ∧ j = j0
    · rw [q.1, q.2]; exact up2_self _ _ _ _
    · refine (up2_ne _ _ q).trans (c4 j ?_)
      split at hj <;> omega
theorem cdI_end {G : GG} {R : Nat → Nat → Value} {b : Nat} (h : cdI G R b 20 60 5 4) : code0 G R b := by
  obtain ⟨⟨a1, a2, a3, a4, a5, a6, a7, a8, a9⟩, c1, c2, c3, c4⟩ := h
  refine ⟨⟨a1, a2, a6, fun i hi => ⟨(c2 i hi).1, (c2 i hi).2.1⟩, a3, a7, fun i hi => ⟨(c1 i hi).1, (c1 i hi).2.1, (c1 i hi).2.2.1, (c1 i hi).2.2.2⟩, a4, a8, a5, a9⟩, fun a j hr => ?_⟩
  unfold refS at hr
  rcases hr with ⟨rfl, q⟩ | ⟨rfl, q⟩ | ⟨q1, q2, rfl⟩
  · exact c3 j q
  · exact c4 j q
  · have := (c2 (a - 65) (by omega)).2.2
    rw [show b + 65 + (a - 65) = b + a by omega] at this
    exact this
theorem x_kn {Γ : GT} {E : CT} {k n k' n' : Nat} {G : GG} {z : Nat} {M : MM} {pc : Nat} {L : List (Option Value)} {st : List Value} (e : k' = k ∧ n' = n) (kk : X Γ E k' n' G z M pc L st) : X Γ E k n G z M pc L st := by rw [← e.1, ← e.2]; exact kk
theorem ff_X2_11 : KW (Cond.fieldLink RX2 11 (cR 2) (cT 2 0).2.1 (cT 2 0).2.2.1) := KW.by 134 (by decide +kernel) rfl
theorem ff_X2_19 : KW (Cond.fieldLink RX2 19 (cR 2) (cT 2 2).2.1 (cT 2 2).2.2.1) := KW.by 140 (by decide +kernel) rfl
theorem ff_X2_23 : KW (Cond.fieldLink RX2 23 (cR 2) (cT 2 4).2.1 (cT 2 4).2.2.1) := KW.by 142 (by decide +kernel) rfl
theorem ff_X2_26 : KW (Cond.fieldLink RX2 26 (cR 2) (cT 2 5).2.1 (cT 2 5).2.2.1) := KW.by 145 (by decide +kernel) rfl
theorem c_X2_init {Γ : GT} {G : GG} {M : MM} {b : Nat} (gb : G b = some (.inl 2)) : CallsG Γ q_X2_init [.ref b] G (b + 1) M (rC (fun G' z' M' => z' = b + 125 ∧ exB b (b + 125) G G' M M' ∧ code0 G' M'.2.2 b)) 124 609 := by
  refine CallsG.intro (by decide +kernel) (Nat.le_of_ble_eq_true rfl) (fun E h hQ => ?_)
  have hB := exB_0 b G M
  have l4 : ∀ i, i ≤ 4 → ∀ (G1 : GG) (M1 : MM), exB b (b + 125) G G1 M M1 → cdI G1 M1.2.2 b 20 60 5 i → X Γ E (124) (609) G1 (b + 125) M1 135 [some (.ref b), some (.int (nI i))] [] := by
    refine upto 4 (fun i hi ih G1 M1 hB hc => ?_)
    refine x_iload_n h dX2_init_135 rfl ?_
    refine x_aload_n h dX2_init_136 rfl ?_
    refine x_getR h hc.1.1 f_X2_26 rfl hc.1.2.2.2.2.1 dX2_init_137 ?_
    refine x_alen h hc.1.2.2.2.2.2.2.2.2 (by decide) dX2_init_140 ?_
    refine x_icmp_ge h 162 dX2_init_141 (by decide) (fun c141 => ?_) (fun c141 => ?_)
    · obtain rfl : i = 4 := up_ge (by decide) hi c141
      exact x_vret h hQ rfl dX2_init_162 ⟨rfl, rfl, hB, cdI_end hc⟩
    · have hlt : i < 4 := up_lt (by decide) hi c141
      refine x_aload_n h dX2_init_144 rfl ?_
      refine x_getR h hc.1.1 f_X2_26 rfl hc.1.2.2.2.2.1 dX2_init_145 ?_
      refine x_iload_n h dX2_init_148 rfl ?_
      refine x_aload_n h dX2_init_149 rfl ?_
      refine x_getR h hc.1.1 f_X2_19 rfl hc.1.2.2.1 dX2_init_150 ?_
      refine x_in0 h dX2_init_153 ?_
      refine x_aald h 0 hc.1.2.2.2.2.2.2.1 (by decide) (ix.ni (j := 0) (by decide) (by decide)) (hc.2.1 0 (by decide)).1 dX2_init_154 ?_
      refine x_aast (ci := 3) h i hc.1.2.2.2.2.2.2.2.2 (by decide) (by decide) (hc.2.1 0 (by decide)).2.1 (ix.ni hlt (by decide)) dX2_init_155 ?_
      refine x_incn h dX2_init_156 rfl rfl rfl ?_
      dsimp only [List.set]
      refine x_goto h 135 dX2_init_159 (by decide) ?_
      have hc2 := cdI_g hc (Or.inr ⟨rfl, rfl⟩ : (b + 4 = b + 3 ∧ i = 5) ∨ (b + 4 = b + 4 ∧ i = i))
      rw [if_neg (by omega), if_neg (by omega)] at hc2
      exact ih hlt _ _ (exB_R2 hB (by omega) _ _) hc2
  have l3 : ∀ i, i ≤ 5 → ∀ (G1 : GG) (M1 : MM), exB b (b + 125) G G1 M M1 → cdI G1 M1.2.2 b 20 60 i 0 → X Γ E (124) (609) G1 (b + 125) M1 106 [some (.ref b), some (.int (nI i))] [] := by
    refine upto 5 (fun i hi ih G1 M1 hB hc => ?_)
    refine x_iload_n h dX2_init_106 rfl ?_
    refine x_aload_n h dX2_init_107 rfl ?_
    refine x_getR h hc.1.1 f_X2_23 rfl hc.1.2.2.2.1 dX2_init_108 ?_
    refine x_alen h hc.1.2.2.2.2.2.2.2.1 (by decide) dX2_init_111 ?_
    refine x_icmp_ge h 133 dX2_init_112 (by decide) (fun c112 => ?_) (fun c112 => ?_)
    · obtain rfl : i = 5 := up_ge (by decide) hi c112
      refine x_in0 h dX2_init_133 ?_
      refine x_istore_n h dX2_init_134 rfl rfl ?_
      dsimp only [List.set]
      exact l4 0 (by decide) _ _ hB hc
    · have hlt : i < 5 := up_lt (by decide) hi c112
      refine x_aload_n h dX2_init_115 rfl ?_
      refine x_getR h hc.1.1 f_X2_23 rfl hc.1.2.2.2.1 dX2_init_116 ?_
      refine x_iload_n h dX2_init_119 rfl ?_
      refine x_aload_n h dX2_init_120 rfl ?_
      refine x_getR h hc.1.1 f_X2_19 rfl hc.1.2.2.1 dX2_init_121 ?_
      refine x_in0 h dX2_init_124 ?_
      refine x_aald h 0 hc.1.2.2.2.2.2.2.1 (by decide) (ix.ni (j := 0) (by decide) (by decide)) (hc.2.1 0 (by decide)).1 dX2_init_125 ?_
      refine x_aast (ci := 3) h i hc.1.2.2.2.2.2.2.2.1 (by decide) (by decide) (hc.2.1 0 (by decide)).2.1 (ix.ni hlt (by decide)) dX2_init_126 ?_
      refine x_incn h dX2_init_127 rfl rfl rfl ?_
      dsimp only [List.set]
      refine x_goto h 106 dX2_init_130 (by decide) ?_
      have hc2 := cdI_g hc (Or.inl ⟨rfl, rfl⟩ : (b + 3 = b + 3 ∧ i = i) ∨ (b + 3 = b + 4 ∧ i = 0))
      rw [if_pos rfl, if_pos rfl] at hc2
      exact ih hlt _ _ (exB_R2 hB (by omega) _ _) hc2
  have l2 : ∀ i, i ≤ 60 → ∀ (G1 : GG) (M1 : MM), exB b (b + 65 + i) G G1 M M1 → cdI G1 M1.2.2 b 20 i 0 0 → X Γ E (64 + i) (309 + 5 * i) G1 (b + 65 + i) M1 70 [some (.ref b), some (.int (nI i))] [] := by
    refine upto 60 (fun i hi ih G1 M1 hB hc => ?_)
    refine x_iload_n h dX2_init_70 rfl ?_
    refine x_aload_n h dX2_init_71 rfl ?_
    refine x_getR h hc.1.1 f_X2_11 rfl hc.1.2.1 dX2_init_72 ?_
    refine x_alen h hc.1.2.2.2.2.2.1 (by decide) dX2_init_75 ?_
    refine x_icmp_ge h 104 dX2_init_76 (by decide) (fun c76 => ?_) (fun c76 => ?_)
    · obtain rfl : i = 60 := up_ge (by decide) hi c76
      refine x_in0 h dX2_init_104 ?_
      refine x_istore_n h dX2_init_105 rfl rfl ?_
      dsimp only [List.set]
      exact l3 0 (by decide) _ _ hB hc
    · have hlt : i < 60 := up_lt (by decide) hi c76
      refine x_aload_n h dX2_init_79 rfl ?_
      refine x_getR h hc.1.1 f_X2_11 rfl hc.1.2.1 dX2_init_80 ?_
      refine x_iload_n h dX2_init_83 rfl ?_
      refine x_new h (ci := 10) (by decide) k_X2_9 mk_X10 ini_X10 ⟨by show 64 + i + 1 ≤ 124; omega, by show 309 + 5 * i + 5 ≤ 609; omega⟩ dX2_init_84 ?_
      refine x_dup h rfl dX2_init_87 ?_
      refine x_aload_n h dX2_init_88 rfl ?_
      refine x_getR h (show gup G1 (b + 65 + i) (.inl 10) b = _ from (if_neg (by omega)).trans hc.1.1) f_X2_19 rfl (((zr_off M1 (b + 65 + i) (b) (by omega)).2.2 2).symm.trans hc.1.2.2.1) dX2_init_89 ?_
      refine x_in0 h dX2_init_92 ?_
      refine x_aald h 0 (show gup G1 (b + 65 + i) (.inl 10) (b + 2) = _ from (if_neg (by omega)).trans hc.1.2.2.2.2.2.2.1) (by decide) (ix.ni (j := 0) (by decide) (by decide)) (((zr_off M1 (b + 65 + i) (b + 2) (by omega)).2.2 0).symm.trans (hc.2.1 0 (by decide)).1) dX2_init_93 ?_
      refine x_cI h ci_X10_init im_X10_init rfl rfl l_X2_30 ⟨Nat.le_of_ble_eq_true rfl, Nat.le_of_ble_eq_true rfl⟩ rfl rfl ⟨by show 64 + i + 1 + 0 ≤ 124; omega, by show 309 + 5 * i + 5 + 0 ≤ 609; omega⟩ (c_X10_init (b := b + 65 + i) (q := b + 5) (if_pos rfl)) rfl rfl rfl rfl dX2_init_94 (fun G9 z9 M9 hp9 => ?_)
      obtain ⟨hg9, hz9, hm9⟩ := hp9
      subst hg9 hz9 hm9
      have hx : exB (b + 65 + i) (b + 65 + i + 1) (gup G1 (b + 65 + i) (.inl 10)) (gup G1 (b + 65 + i) (.inl 10)) (zr M1 (b + 65 + i)) (sR (zr M1 (b + 65 + i)) (b + 65 + i) 4 (.ref (b + 5))) := exB_R (exB_0 _ _ _) _ _
      have hn := exN_new hx (by omega) (fun e => absurd e (by decide))
      have hB := exB_N hB hn (by omega) (by omega)
      have hc := cdI_N hc (fun a _ _ => sam_N hn (a := a) (by omega)) (by omega) (by omega)
      have hc2 := cdI_s hc (if_pos rfl) (up2_self _ _ _ _)
      refine x_aast (ci := 10) h i hc.1.2.2.2.2.2.1 (by decide) (by decide) (show gup G1 (b + 65 + i) (.inl 10) (b + 65 + i) = _ from if_pos rfl) (ix.ni hlt (by decide)) dX2_init_97 ?_
      refine x_incn h dX2_init_98 rfl rfl rfl ?_
      dsimp only [List.set]
      refine x_goto h 70 dX2_init_101 (by decide) ?_
      refine x_kn (k' := 64 + (i + 1)) (n' := 309 + 5 * (i + 1)) ⟨by show 64 + (i + 1) = 64 + i + 1 + 0; omega, by show 309 + 5 * (i + 1) = 309 + 5 * i + 5 + 0; omega⟩ ?_
      exact ih hlt _ _ (exB_R2 hB (by omega) _ _) hc2
  have l1 : ∀ i, i ≤ 20 → ∀ (G1 : GG) (M1 : MM), exB b (b + 5 + 3 * i) G G1 M M1 → cdI G1 M1.2.2 b i 0 0 0 → X Γ E (4 + 3 * i) (89 + 11 * i) G1 (b + 5 + 3 * i) M1 40 [some (.ref b), some (.int (nI i))] [] := by
    refine upto 20 (fun i hi ih G1 M1 hB hc => ?_)
    refine x_iload_n h dX2_init_40 rfl ?_
    refine x_aload_n h dX2_init_41 rfl ?_
    refine x_getR h hc.1.1 f_X2_19 rfl hc.1.2.2.1 dX2_init_42 ?_
    refine x_alen h hc.1.2.2.2.2.2.2.1 (by decide) dX2_init_45 ?_
    refine x_icmp_ge h 68 dX2_init_46 (by decide) (fun c46 => ?_) (fun c46 => ?_)
    · obtain rfl : i = 20 := up_ge (by decide) hi c46
      refine x_in0 h dX2_init_68 ?_
      refine x_istore_n h dX2_init_69 rfl rfl ?_
      dsimp only [List.set]
      exact l2 0 (by decide) _ _ hB hc
    · have hlt : i < 20 := up_lt (by decide) hi c46
      refine x_aload_n h dX2_init_49 rfl ?_
      refine x_getR h hc.1.1 f_X2_19 rfl hc.1.2.2.1 dX2_init_50 ?_
      refine x_iload_n h dX2_init_53 rfl ?_
      refine x_new h (ci := 3) (by decide) k_X2_17 mk_X3 ini_X3 ⟨by show 4 + 3 * i + 1 ≤ 124; omega, by show 89 + 11 * i + 4 ≤ 609; omega⟩ dX2_init_54 ?_
      refine x_dup h rfl dX2_init_57 ?_
      refine x_cI h ci_X3_init im_X3_init rfl rfl l_X2_29 ⟨Nat.le_of_ble_eq_true rfl, Nat.le_of_ble_eq_true rfl⟩ rfl rfl ⟨by show 4 + 3 * i + 1 + 2 ≤ 124; omega, by show 89 + 11 * i + 4 + 7 ≤ 609; omega⟩ (c_X3_init (b := b + 5 + 3 * i) (if_pos rfl)) rfl rfl rfl rfl dX2_init_58 (fun G9 z9 M9 hp9 => ?_)
      obtain ⟨hz9, hx, hw⟩ := hp9
      obtain rfl := hz9
      have hn := exN_new hx (by omega) (fun e => absurd e (by decide))
      have hB := exB_N hB hn (by omega) (by omega)
      have hc := cdI_N hc (fun a _ _ => sam_N hn (a := a) (by omega)) (by omega) (by omega)
      have hc2 := cdI_c hc hw
      refine x_aast (ci := 3) h i hc.1.2.2.2.2.2.2.1 (by decide) (by decide) hw.1 (ix.ni hlt (by decide)) dX2_init_61 ?_
      refine x_incn h dX2_init_62 rfl rfl rfl ?_
      dsimp only [List.set]
      refine x_goto h 40 dX2_init_65 (by decide) ?_
      refine x_kn (k' := 4 + 3 * (i + 1)) (n' := 89 + 11 * (i + 1)) ⟨by show 4 + 3 * (i + 1) = 4 + 3 * i + 1 + 2; omega, by show 89 + 11 * (i + 1) = 89 + 11 * i + 4 + 7; omega⟩ ?_
      refine x_z (z' := b + 5 + 3 * (i + 1)) (by omega) ?_
      exact ih hlt _ _ (exB_R2 (by rw [show b + 5 + 3 * (i + 1) = b + 5 + 3 * i + 3 by omega]; exact hB) (by omega) _ _) hc2
  refine x_loc (L' := [some (.ref b), none]) rfl ?_
  refine x_aload_n h dX2_init_0 rfl ?_
  refine x_obj h l_X2_3 oi_in oi_cd rfl (Nat.le_of_ble_eq_true rfl) (Nat.le_of_ble_eq_true rfl) rfl dX2_init_1 ?_
  refine x_aload_n h dX2_init_4 rfl ?_
  refine x_bipush h (nI 60) (by decide) dX2_init_5 ?_
  refine x_aarr h 60 k_X2_9 ao_X10 (by decide) (by decide) rfl ⟨Nat.le_of_ble_eq_true rfl, Nat.le_of_ble_eq_true rfl⟩ dX2_init_7 (fun G7 M7 hn gk => ?_)
  refine x_z (z' := b + 2) rfl ?_
  have hs : ∀ a, a < b + 1 → a ≠ b → sam G G7 M.2.2 M7.2.2 a := fun a h1 _ => sam_N hn h1
  replace gb := kin_x gb (sam_N hn (by omega))
  replace hB := exB_N hB hn (by omega) (by omega)
  clear hs
  have k1 : G7 (b + 1) = some (.inr (.object "LoopGuesses$Step", 60)) := gk
  clear hn gk
  refine x_putFR h gb (by decide) (by decide) ff_X2_11 rfl rfl rfl rfl dX2_init_10 ?_
  refine x_aload_n h dX2_init_13 rfl ?_
  refine x_bipush h (nI 20) (by decide) dX2_init_14 ?_
  refine x_aarr h 20 k_X2_17 ao_X3 (by decide) (by decide) rfl ⟨Nat.le_of_ble_eq_true rfl, Nat.le_of_ble_eq_true rfl⟩ dX2_init_16 (fun G16 M16 hn gk => ?_)
  refine x_z (z' := b + 3) rfl ?_
  have hs : ∀ a, a < b + 2 → a ≠ b → sam G7 G16 M7.2.2 M16.2.2 a := fun a h1 h2 => sam_t (sam_R G7 M7 0 (.ref (b + 1)) h2) (sam_N hn h1)
  replace gb := kin_x gb (sam_N hn (by omega))
  replace k1 := kin_x k1 (hs _ (by omega) (by omega))
  have hr0 := ((sam_N hn (a := b) (by omega)).2 0).trans (up2_self M7.2.2 b 0 (.ref (b + 1)))
  replace hB := exB_N (exB_R hB 0 (.ref (b + 1))) hn (by omega) (by omega)
  clear hs
  have k2 : G16 (b + 2) = some (.inr (.object "LoopGuesses$Condition", 20)) := gk
  clear hn gk
  refine x_putFR h gb (by decide) (by decide) ff_X2_19 rfl rfl rfl rfl dX2_init_19 ?_
  refine x_aload_n h dX2_init_22 rfl ?_
  refine x_in5 h dX2_init_23 ?_
  refine x_aarr h 5 k_X2_17 ao_X3 (by decide) (by decide) rfl ⟨Nat.le_of_ble_eq_true rfl, Nat.le_of_ble_eq_true rfl⟩ dX2_init_24 (fun G24 M24 hn gk => ?_)
  refine x_z (z' := b + 4) rfl ?_
  have hs : ∀ a, a < b + 3 → a ≠ b → sam G16 G24 M16.2.2 M24.2.2 a := fun a h1 h2 => sam_t (sam_R G16 M16 2 (.ref (b + 2)) h2) (sam_N hn h1)
  replace gb := kin_x gb (sam_N hn (by omega))
  replace k1 := kin_x k1 (hs _ (by omega) (by omega))
  replace hr0 := ((sam_N hn (a := b) (by omega)).2 0).trans ((up2_ne _ _ (by omega)).trans hr0)
  replace k2 := kin_x k2 (hs _ (by omega) (by omega))
  have hr2 := ((sam_N hn (a := b) (by omega)).2 2).trans (up2_self M16.2.2 b 2 (.ref (b + 2)))
  replace hB := exB_N (exB_R hB 2 (.ref (b + 2))) hn (by omega) (by omega)
  clear hs
  have k3 : G24 (b + 3) = some (.inr (.object "LoopGuesses$Condition", 5)) := gk
  clear hn gk
  refine x_putFR h gb (by decide) (by decide) ff_X2_23 rfl rfl rfl rfl dX2_init_27 ?_
  refine x_aload_n h dX2_init_30 rfl ?_
  refine x_in4 h dX2_init_31 ?_
  refine x_aarr h 4 k_X2_17 ao_X3 (by decide) (by decide) rfl ⟨Nat.le_of_ble_eq_true rfl, Nat.le_of_ble_eq_true rfl⟩ dX2_init_32 (fun G32 M32 hn gk => ?_)
  refine x_z (z' := b + 5) rfl ?_
  have hs : ∀ a, a < b + 4 → a ≠ b → sam G24 G32 M24.2.2 M32.2.2 a := fun a h1 h2 => sam_t (sam_R G24 M24 4 (.ref (b + 3)) h2) (sam_N hn h1)
  replace gb := kin_x gb (sam_N hn (by omega))
  replace k1 := kin_x k1 (hs _ (by omega) (by omega))
  replace hr0 := ((sam_N hn (a := b) (by omega)).2 0).trans ((up2_ne _ _ (by omega)).trans hr0)
  replace k2 := kin_x k2 (hs _ (by omega) (by omega))
  replace hr2 := ((sam_N hn (a := b) (by omega)).2 2).trans ((up2_ne _ _ (by omega)).trans hr2)
  replace k3 := kin_x k3 (hs _ (by omega) (by omega))
  have hr4 := ((sam_N hn (a := b) (by omega)).2 4).trans (up2_self M24.2.2 b 4 (.ref (b + 3)))
  replace hB := exB_N (exB_R hB 4 (.ref (b + 3))) hn (by omega) (by omega)
  clear hs
  have k4 : G32 (b + 4) = some (.inr (.object "LoopGuesses$Condition", 4)) := gk
  clear hn gk
  refine x_putFR h gb (by decide) (by decide) ff_X2_26 rfl rfl rfl rfl dX2_init_35 ?_
  replace hr0 : (sR M32 b 5 (.ref (b + 4))).2.2 b 0 = _ := (up2_ne _ _ (by omega)).trans hr0
  replace hr2 : (sR M32 b 5 (.ref (b + 4))).2.2 b 2 = _ := (up2_ne _ _ (by omega)).trans hr2
  replace hr4 : (sR M32 b 5 (.ref (b + 4))).2.2 b 4 = _ := (up2_ne _ _ (by omega)).trans hr4
  have hr5 : (sR M32 b 5 (.ref (b + 4))).2.2 b 5 = .ref (b + 4) := up2_self _ _ _ _
  replace hB := exB_R hB 5 (.ref (b + 4))
  refine x_in0 h dX2_init_38 ?_
  refine x_istore_n h dX2_init_39 rfl rfl ?_
  dsimp only [List.set]
  exact l1 0 (by decide) _ _ hB ⟨⟨gb, hr0, hr2, hr4, hr5, k1, k2, k3, k4⟩, fun j hj => absurd hj (Nat.not_lt_zero _), fun j hj => absurd hj (Nat.not_lt_zero _), fun j hj => absurd hj (Nat.not_lt_zero _), fun j hj => absurd hj (Nat.not_lt_zero _)⟩
