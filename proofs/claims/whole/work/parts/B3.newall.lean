/-! ===== the constructors of LoopGuesses and of the reference ===== -/
def tZ : RT := fun _ _ => 0
theorem tZ_0 : t0T tZ = tZ := by
  funext a f
  simp only [t0T, tU, tZ]
  (repeat' split) <;> rfl
theorem uZ_0 : u0U tZ = tZ := by
  funext a f
  simp only [u0U, tU, tZ]
  (repeat' split) <;> rfl
theorem tbZ : tbOk tZ := ⟨by decide, fun j _ => Nat.zero_le _⟩
theorem tabZ : tabOk tZ := by
  have h := rdI_tab (tx := fun _ => 0) tbZ (i := 0) (S := t0T tZ) (Nat.zero_le _) rfl ⟨by rw [tZ_0]; rfl, Or.inl (by rw [tZ_0]; rfl)⟩
  rw [tZ_0] at h
  exact h
theorem prZ : PR tZ tZ := by
  refine ⟨tabZ, fun j hj => absurd hj (Nat.not_lt_zero _), ?_⟩
  have h := rel_0 tZ tZ
  rw [tZ_0, uZ_0] at h
  exact h
theorem cdW_Z {M : MM} {c : Nat} (h1 : ∀ a j, c ≤ a → a < c + 125 → M.1 a j = 0) (h2 : ∀ a j, refS a j → M.2.2 (c + a) j = .ref (c + 5)) : cdW M c tZ := ⟨fun a f ha _ => (h1 _ _ (by omega) (by omega)).trans nI_0.symm, fun a f hr => ⟨h2 a f hr, by show 0 < 20; decide⟩⟩
def su0 : SU := (fun _ => 6, 0)
theorem cInv_new {G : GG} {M : MM} {o : Nat} {tx : Nat → Nat} {h2 : Nat → SU} {z2 : (Nat → Nat) × (Nat → Nat)} (hF : lgF G M.2.2 o false) (c4 : code0 G M.2.2 (o + 4)) (c129 : code0 G M.2.2 (o + 129)) (iz : ∀ a j, o + 2 ≤ a → a < o + 254 → M.1 a j = 0) (io : ∀ j, M.1 o j = 0) (hsu : suIs M (o + 254) (fun _ => 6) 0) (hk : ∀ i, i < 2 → M.1 (o + 259) i = -1) (hn0 : M.2.2 (o + 265) 0 = .ref (o + 4)) (n1 : M.1 (o + 265) 1 = -1) (n11 : M.1 (o + 265) 11 = nI 0) (hl : ∀ a j, o < a → a < o + 435 → M.2.1 a j = 0) : cInv G M o false tZ tZ tx 0 su0 (0, h2) (fun _ => none) (0, z2) 0 := by
  have hT : cdW M (o + 4) tZ := cdW_Z (fun a j _ _ => iz a j (by omega) (by omega)) c4.2
  have hT2 : cdW M (o + 129) tZ := cdW_Z (fun a j _ _ => iz a j (by omega) (by omega)) c129.2
  refine ⟨⟨hF, ⟨Nat.zero_le _, (io 1).trans nI_0.symm, fun i hi => absurd hi (Nat.not_lt_zero _)⟩, ⟨tZ, ⟨hT2.1, fun a f ha => (iz _ _ (by omega) (by omega)).trans nI_0.symm, hT2.2⟩, tbZ⟩, ⟨hT, prZ⟩, ⟨hsu, fun _ _ => Nat.le_refl _, by decide⟩, ⟨Nat.zero_le _, (io 8).trans nI_0.symm, fun i hi => absurd hi (Nat.not_lt_zero _)⟩, fun i hi => ⟨fun _ => hk i hi, fun s q => by cases q⟩, ⟨Nat.zero_le _, (io 12).trans nI_0.symm, fun i hi => absurd hi (Nat.not_lt_zero _)⟩, hl _ _ (by omega) (by omega)⟩, ⟨(lg_analysis hF).2, c4.1, hT, hn0, by show o + 4 + 125 ≤ o + 265; omega, prZ⟩, fun _ _ => false, fun a ha k hk => ?_, fun j hj => absurd hj (Nat.not_lt_zero _), ⟨0, by decide, n11, fun ck hc q => by simp at q⟩, Or.inl n1⟩
  have := lg_D hF a ha
  rw [hl (a + 1) k (by omega) (by omega)]
  exact encF_none k
theorem ff_X11_9 : KW (Cond.fieldLink RX11 9 (cR 11) (cT 11 0).2.1 (cT 11 0).2.2.1) := KW.by 363 (by decide +kernel) rfl
theorem ff_X11_16 : KW (Cond.fieldLink RX11 16 (cR 11) (cT 11 2).2.1 (cT 11 2).2.2.1) := KW.by 365 (by decide +kernel) rfl
theorem ff_X11_33 : KW (Cond.fieldLink RX11 33 (cR 11) (cT 11 5).2.1 (cT 11 5).2.2.1) := KW.by 368 (by decide +kernel) rfl
theorem ff_X11_37 : KW (Cond.fieldLink RX11 37 (cR 11) (cT 11 6).2.1 (cT 11 6).2.2.1) := KW.by 369 (by decide +kernel) rfl
theorem ff_X11_40 : KW (Cond.fieldLink RX11 40 (cR 11) (cT 11 7).2.1 (cT 11 7).2.2.1) := KW.by 370 (by decide +kernel) rfl
theorem ff_X11_44 : KW (Cond.fieldLink RX11 44 (cR 11) (cT 11 9).2.1 (cT 11 9).2.2.1) := KW.by 372 (by decide +kernel) rfl
theorem ff_X11_47 : KW (Cond.fieldLink RX11 47 (cR 11) (cT 11 10).2.1 (cT 11 10).2.2.1) := KW.by 373 (by decide +kernel) rfl
theorem ff_X11_50 : KW (Cond.fieldLink RX11 50 (cR 11) (cT 11 11).2.1 (cT 11 11).2.2.1) := KW.by 374 (by decide +kernel) rfl
theorem ff_X11_53 : KW (Cond.fieldLink RX11 53 (cR 11) (cT 11 13).2.1 (cT 11 13).2.2.1) := KW.by 376 (by decide +kernel) rfl
theorem ff_X11_59 : KW (Cond.fieldLink RX11 59 (cR 11) (cT 11 14).2.1 (cT 11 14).2.2.1) := KW.by 377 (by decide +kernel) rfl
theorem ff_X11_68 : KW (Cond.fieldLink RX11 68 (cR 11) (cT 11 15).2.1 (cT 11 15).2.2.1) := KW.by 378 (by decide +kernel) rfl
theorem ff_X11_75 : KW (Cond.fieldLink RX11 75 (cR 11) (cT 11 16).2.1 (cT 11 16).2.2.1) := KW.by 379 (by decide +kernel) rfl
theorem c_X11_init {Γ : GT} {G : GG} {M : MM} {b : Nat} {tx : Nat → Nat} {h2 : Nat → SU} {z2 : (Nat → Nat) × (Nat → Nat)} (gb : G b = some (.inl 11)) (io : ∀ j, M.1 b j = 0) (hDn : ∀ a, DG G a = true → False) : CallsG Γ q_X11_init [.ref b] G (b + 1) M (rC (fun G' z' M' => z' = b + 435 ∧ exV b (b + 435) G G' M M' ∧ cInv G' M' b false tZ tZ tx 0 su0 (0, h2) (fun _ => none) (0, z2) 0)) 434 1990 := by
  refine CallsG.intro (by decide +kernel) (Nat.le_of_ble_eq_true rfl) (fun E h hQ => ?_)
  have hB := exB_0 b G M
  refine x_loc (L' := [some (.ref b)]) rfl ?_
  refine x_aload_n h dX11_init_0 rfl ?_
  refine x_obj h l_X11_3 oi_in oi_cd rfl (Nat.le_of_ble_eq_true rfl) (Nat.le_of_ble_eq_true rfl) rfl dX11_init_1 ?_
  refine x_aload_n h dX11_init_4 rfl ?_
  refine x_bipush h (nI 60) (by decide) dX11_init_5 ?_
  refine x_arr (at' := .char) (ty := .char) h 60 rfl ac_char (by decide) (by decide) (by decide) rfl ⟨Nat.le_of_ble_eq_true rfl, Nat.le_of_ble_eq_true rfl⟩ dX11_init_7 (fun G7 M7 hn gk => ?_)
  refine x_z (z' := b + 2) rfl ?_
  have hs : ∀ a, a < b + 1 → a ≠ b → sam G G7 M.2.2 M7.2.2 a := fun a h1 _ => sam_N hn h1
  replace gb := kin_x gb (sam_N hn (by omega))
  replace io : ∀ j, M7.1 b j = 0 := fun j => ((hn.2.1 b (by omega)).1 j).trans (io j)
  replace hB := exB_N hB hn (by omega) (by omega)
  clear hs
  have k1 : G7 (b + 1) = some (.inr (.char, 60)) := gk
  clear hn gk
  refine x_putFR h gb (by decide) (by decide) ff_X11_9 rfl rfl rfl rfl dX11_init_9 ?_
  refine x_aload_n h dX11_init_12 rfl ?_
  refine x_new h (ci := 6) (by decide) k_X11_13 mk_X6 ini_X6 ⟨Nat.le_of_ble_eq_true rfl, Nat.le_of_ble_eq_true rfl⟩ dX11_init_13 ?_
  refine x_dup h rfl dX11_init_16 ?_
  refine x_cI h ci_X6_init im_X6_init rfl rfl l_X11_15 ⟨Nat.le_of_ble_eq_true rfl, Nat.le_of_ble_eq_true rfl⟩ rfl rfl ⟨Nat.le_of_ble_eq_true rfl, Nat.le_of_ble_eq_true rfl⟩ (c_X6_init (b := b + 2) (if_pos rfl)) rfl rfl rfl rfl dX11_init_17 (fun G17 z17 M17 hp17 => ?_)
  obtain ⟨hz, hx, hw⟩ := hp17
  obtain rfl := hz
  refine x_z (z' := b + 4) rfl ?_
  have hn := exN_new hx (by omega) (fun e => absurd e (by decide))
  have hs : ∀ a, a < b + 2 → a ≠ b → sam G7 G17 M7.2.2 M17.2.2 a := fun a h1 h2 => sam_t (sam_R G7 M7 0 (.ref (b + 1)) h2) (sam_N hn h1)
  replace gb := kin_x gb (sam_N hn (by omega))
  replace io : ∀ j, M17.1 b j = 0 := fun j => ((hn.2.1 b (by omega)).1 j).trans (io j)
  replace k1 := kin_x k1 (hs _ (by omega) (by omega))
  have hr0 := ((sam_N hn (a := b) (by omega)).2 0).trans (up2_self M7.2.2 b 0 (.ref (b + 1)))
  replace hB := exB_N (exB_R hB 0 (.ref (b + 1))) hn (by omega) (by omega)
  clear hs
  have f2 := hw
  have iz2 : ∀ a j, b + 2 ≤ a → a < b + 4 → M17.1 a j = 0 := fun a j h1 h2 => (hn.2.2.1 a j h1 h2).1
  clear hn hx
  refine x_putFR h gb (by decide) (by decide) ff_X11_16 rfl rfl rfl rfl dX11_init_20 ?_
  refine x_aload_n h dX11_init_23 rfl ?_
  refine x_new h (ci := 2) (by decide) k_X11_20 mk_X2 ini_X2 ⟨Nat.le_of_ble_eq_true rfl, Nat.le_of_ble_eq_true rfl⟩ dX11_init_24 ?_
  refine x_dup h rfl dX11_init_27 ?_
  refine x_cI h ci_X2_init im_X2_init rfl rfl l_X11_22 ⟨Nat.le_of_ble_eq_true rfl, Nat.le_of_ble_eq_true rfl⟩ rfl rfl ⟨Nat.le_of_ble_eq_true rfl, Nat.le_of_ble_eq_true rfl⟩ (c_X2_init (b := b + 4) (if_pos rfl)) rfl rfl rfl rfl dX11_init_28 (fun G28 z28 M28 hp28 => ?_)
  obtain ⟨hz, hx, hw⟩ := hp28
  obtain rfl := hz
  refine x_z (z' := b + 129) rfl ?_
  have hn := exN_new hx (by omega) (fun e => absurd e (by decide))
  have hs : ∀ a, a < b + 4 → a ≠ b → sam G17 G28 M17.2.2 M28.2.2 a := fun a h1 h2 => sam_t (sam_R G17 M17 2 (.ref (b + 2)) h2) (sam_N hn h1)
  replace gb := kin_x gb (sam_N hn (by omega))
  replace io : ∀ j, M28.1 b j = 0 := fun j => ((hn.2.1 b (by omega)).1 j).trans (io j)
  replace k1 := kin_x k1 (hs _ (by omega) (by omega))
  replace hr0 := ((sam_N hn (a := b) (by omega)).2 0).trans ((up2_ne _ _ (by omega)).trans hr0)
  replace f2 := rdF_x f2 (fun a _ _ => hs a (by omega) (by omega))
  replace iz2 : ∀ a j, b + 2 ≤ a → a < b + 4 → M28.1 a j = 0 := fun a j h1 h2 => ((hn.2.1 a (by omega)).1 j).trans (iz2 a j h1 h2)
  have hr2 := ((sam_N hn (a := b) (by omega)).2 2).trans (up2_self M17.2.2 b 2 (.ref (b + 2)))
  replace hB := exB_N (exB_R hB 2 (.ref (b + 2))) hn (by omega) (by omega)
  clear hs
  have f4 := hw
  have iz4 : ∀ a j, b + 4 ≤ a → a < b + 129 → M28.1 a j = 0 := fun a j h1 h2 => (hn.2.2.1 a j h1 h2).1
  clear hn hx
  refine x_putR h gb f_X11_23 rfl rfl dX11_init_31 ?_
  refine x_aload_n h dX11_init_34 rfl ?_
  refine x_new h (ci := 2) (by decide) k_X11_20 mk_X2 ini_X2 ⟨Nat.le_of_ble_eq_true rfl, Nat.le_of_ble_eq_true rfl⟩ dX11_init_35 ?_
  refine x_dup h rfl dX11_init_38 ?_
  refine x_cI h ci_X2_init im_X2_init rfl rfl l_X11_22 ⟨Nat.le_of_ble_eq_true rfl, Nat.le_of_ble_eq_true rfl⟩ rfl rfl ⟨Nat.le_of_ble_eq_true rfl, Nat.le_of_ble_eq_true rfl⟩ (c_X2_init (b := b + 129) (if_pos rfl)) rfl rfl rfl rfl dX11_init_39 (fun G39 z39 M39 hp39 => ?_)
  obtain ⟨hz, hx, hw⟩ := hp39
  obtain rfl := hz
  refine x_z (z' := b + 254) rfl ?_
  have hn := exN_new hx (by omega) (fun e => absurd e (by decide))
  have hs : ∀ a, a < b + 129 → a ≠ b → sam G28 G39 M28.2.2 M39.2.2 a := fun a h1 h2 => sam_t (sam_R G28 M28 3 (.ref (b + 4)) h2) (sam_N hn h1)
  replace gb := kin_x gb (sam_N hn (by omega))
  replace io : ∀ j, M39.1 b j = 0 := fun j => ((hn.2.1 b (by omega)).1 j).trans (io j)
  replace k1 := kin_x k1 (hs _ (by omega) (by omega))
  replace hr0 := ((sam_N hn (a := b) (by omega)).2 0).trans ((up2_ne _ _ (by omega)).trans hr0)
  replace f2 := rdF_x f2 (fun a _ _ => hs a (by omega) (by omega))
  replace iz2 : ∀ a j, b + 2 ≤ a → a < b + 4 → M39.1 a j = 0 := fun a j h1 h2 => ((hn.2.1 a (by omega)).1 j).trans (iz2 a j h1 h2)
  replace hr2 := ((sam_N hn (a := b) (by omega)).2 2).trans ((up2_ne _ _ (by omega)).trans hr2)
  replace f4 := code0_x f4 (fun a _ _ => hs a (by omega) (by omega))
  replace iz4 : ∀ a j, b + 4 ≤ a → a < b + 129 → M39.1 a j = 0 := fun a j h1 h2 => ((hn.2.1 a (by omega)).1 j).trans (iz4 a j h1 h2)
  have hr3 := ((sam_N hn (a := b) (by omega)).2 3).trans (up2_self M28.2.2 b 3 (.ref (b + 4)))
  replace hB := exB_N (exB_R hB 3 (.ref (b + 4))) hn (by omega) (by omega)
  clear hs
  have f129 := hw
  have iz129 : ∀ a j, b + 129 ≤ a → a < b + 254 → M39.1 a j = 0 := fun a j h1 h2 => (hn.2.2.1 a j h1 h2).1
  clear hn hx
  refine x_putR h gb f_X11_27 rfl rfl dX11_init_42 ?_
  refine x_aload_n h dX11_init_45 rfl ?_
  refine x_new h (ci := 8) (by decide) k_X11_30 mk_X8 ini_X8 ⟨Nat.le_of_ble_eq_true rfl, Nat.le_of_ble_eq_true rfl⟩ dX11_init_46 ?_
  refine x_dup h rfl dX11_init_49 ?_
  refine x_cI h ci_X8_init im_X8_init rfl rfl l_X11_32 ⟨Nat.le_of_ble_eq_true rfl, Nat.le_of_ble_eq_true rfl⟩ rfl rfl ⟨Nat.le_of_ble_eq_true rfl, Nat.le_of_ble_eq_true rfl⟩ (c_X8_init (b := b + 254) (if_pos rfl)) rfl rfl rfl rfl dX11_init_50 (fun G50 z50 M50 hp50 => ?_)
  obtain ⟨hz, hx, hw, hw2⟩ := hp50
  obtain rfl := hz
  refine x_z (z' := b + 256) rfl ?_
  have hn := exW_new hx (by omega) (by decide)
  have hs : ∀ a, a < b + 254 → a ≠ b → sam G39 G50 M39.2.2 M50.2.2 a := fun a h1 h2 => sam_t (sam_R G39 M39 4 (.ref (b + 129)) h2) (sam_W hn h1)
  replace gb := kin_x gb (sam_W hn (by omega))
  replace io : ∀ j, M50.1 b j = 0 := fun j => ((hn.2.1 b (by omega)).1 j).trans (io j)
  replace k1 := kin_x k1 (hs _ (by omega) (by omega))
  replace hr0 := ((sam_W hn (a := b) (by omega)).2 0).trans ((up2_ne _ _ (by omega)).trans hr0)
  replace f2 := rdF_x f2 (fun a _ _ => hs a (by omega) (by omega))
  replace iz2 : ∀ a j, b + 2 ≤ a → a < b + 4 → M50.1 a j = 0 := fun a j h1 h2 => ((hn.2.1 a (by omega)).1 j).trans (iz2 a j h1 h2)
  replace hr2 := ((sam_W hn (a := b) (by omega)).2 2).trans ((up2_ne _ _ (by omega)).trans hr2)
  replace f4 := code0_x f4 (fun a _ _ => hs a (by omega) (by omega))
  replace iz4 : ∀ a j, b + 4 ≤ a → a < b + 129 → M50.1 a j = 0 := fun a j h1 h2 => ((hn.2.1 a (by omega)).1 j).trans (iz4 a j h1 h2)
  replace hr3 := ((sam_W hn (a := b) (by omega)).2 3).trans ((up2_ne _ _ (by omega)).trans hr3)
  replace f129 := code0_x f129 (fun a _ _ => hs a (by omega) (by omega))
  replace iz129 : ∀ a j, b + 129 ≤ a → a < b + 254 → M50.1 a j = 0 := fun a j h1 h2 => ((hn.2.1 a (by omega)).1 j).trans (iz129 a j h1 h2)
  have hr4 := ((sam_W hn (a := b) (by omega)).2 4).trans (up2_self M39.2.2 b 4 (.ref (b + 129)))
  replace hB := exV_N (exB_V (exB_R hB 4 (.ref (b + 129)))) hn (by omega) (by omega)
  clear hs
  have f254 := hw
  have g254 := hw2
  clear hn hx
  refine x_putFR h gb (by decide) (by decide) ff_X11_33 rfl rfl rfl rfl dX11_init_53 ?_
  refine x_aload_n h dX11_init_56 rfl ?_
  refine x_new h (ci := 8) (by decide) k_X11_30 mk_X8 ini_X8 ⟨Nat.le_of_ble_eq_true rfl, Nat.le_of_ble_eq_true rfl⟩ dX11_init_57 ?_
  refine x_dup h rfl dX11_init_60 ?_
  refine x_cI h ci_X8_init im_X8_init rfl rfl l_X11_32 ⟨Nat.le_of_ble_eq_true rfl, Nat.le_of_ble_eq_true rfl⟩ rfl rfl ⟨Nat.le_of_ble_eq_true rfl, Nat.le_of_ble_eq_true rfl⟩ (c_X8_init (b := b + 256) (if_pos rfl)) rfl rfl rfl rfl dX11_init_61 (fun G61 z61 M61 hp61 => ?_)
  obtain ⟨hz, hx, hw, hw2⟩ := hp61
  obtain rfl := hz
  refine x_z (z' := b + 258) rfl ?_
  have hn := exW_new hx (by omega) (by decide)
  have hs : ∀ a, a < b + 256 → a ≠ b → sam G50 G61 M50.2.2 M61.2.2 a := fun a h1 h2 => sam_t (sam_R G50 M50 5 (.ref (b + 254)) h2) (sam_W hn h1)
  replace gb := kin_x gb (sam_W hn (by omega))
  replace io : ∀ j, M61.1 b j = 0 := fun j => ((hn.2.1 b (by omega)).1 j).trans (io j)
  replace k1 := kin_x k1 (hs _ (by omega) (by omega))
  replace hr0 := ((sam_W hn (a := b) (by omega)).2 0).trans ((up2_ne _ _ (by omega)).trans hr0)
  replace f2 := rdF_x f2 (fun a _ _ => hs a (by omega) (by omega))
  replace iz2 : ∀ a j, b + 2 ≤ a → a < b + 4 → M61.1 a j = 0 := fun a j h1 h2 => ((hn.2.1 a (by omega)).1 j).trans (iz2 a j h1 h2)
  replace hr2 := ((sam_W hn (a := b) (by omega)).2 2).trans ((up2_ne _ _ (by omega)).trans hr2)
  replace f4 := code0_x f4 (fun a _ _ => hs a (by omega) (by omega))
  replace iz4 : ∀ a j, b + 4 ≤ a → a < b + 129 → M61.1 a j = 0 := fun a j h1 h2 => ((hn.2.1 a (by omega)).1 j).trans (iz4 a j h1 h2)
  replace hr3 := ((sam_W hn (a := b) (by omega)).2 3).trans ((up2_ne _ _ (by omega)).trans hr3)
  replace f129 := code0_x f129 (fun a _ _ => hs a (by omega) (by omega))
  replace iz129 : ∀ a j, b + 129 ≤ a → a < b + 254 → M61.1 a j = 0 := fun a j h1 h2 => ((hn.2.1 a (by omega)).1 j).trans (iz129 a j h1 h2)
  replace hr4 := ((sam_W hn (a := b) (by omega)).2 4).trans ((up2_ne _ _ (by omega)).trans hr4)
  replace f254 := suW_x f254 (fun a _ _ => hs a (by omega) (by omega))
  replace g254 : suIs M61 (b + 254) (fun _ => 6) 0 := ⟨((hn.2.1 _ (by omega)).1 _).trans g254.1, ((hn.2.1 _ (by omega)).1 _).trans g254.2.1, ((hn.2.1 _ (by omega)).1 _).trans g254.2.2.1, ((hn.2.1 _ (by omega)).1 _).trans g254.2.2.2⟩
  have hr5 := ((sam_W hn (a := b) (by omega)).2 5).trans (up2_self M50.2.2 b 5 (.ref (b + 254)))
  replace hB := exV_N (exV_R hB 5 (.ref (b + 254))) hn (by omega) (by omega)
  clear hs
  have f256 := hw
  have g256 := hw2
  clear hn hx
  refine x_putFR h gb (by decide) (by decide) ff_X11_37 rfl rfl rfl rfl dX11_init_64 ?_
  refine x_aload_n h dX11_init_67 rfl ?_
  refine x_bipush h (nI 14) (by decide) dX11_init_68 ?_
  refine x_arr (at' := .int) (ty := .int) h 14 rfl ac_int (by decide) (by decide) (by decide) rfl ⟨Nat.le_of_ble_eq_true rfl, Nat.le_of_ble_eq_true rfl⟩ dX11_init_70 (fun G70 M70 hn gk => ?_)
  refine x_z (z' := b + 259) rfl ?_
  have hs : ∀ a, a < b + 258 → a ≠ b → sam G61 G70 M61.2.2 M70.2.2 a := fun a h1 h2 => sam_t (sam_R G61 M61 6 (.ref (b + 256)) h2) (sam_N hn h1)
  replace gb := kin_x gb (sam_N hn (by omega))
  replace io : ∀ j, M70.1 b j = 0 := fun j => ((hn.2.1 b (by omega)).1 j).trans (io j)
  replace k1 := kin_x k1 (hs _ (by omega) (by omega))
  replace hr0 := ((sam_N hn (a := b) (by omega)).2 0).trans ((up2_ne _ _ (by omega)).trans hr0)
  replace f2 := rdF_x f2 (fun a _ _ => hs a (by omega) (by omega))
  replace iz2 : ∀ a j, b + 2 ≤ a → a < b + 4 → M70.1 a j = 0 := fun a j h1 h2 => ((hn.2.1 a (by omega)).1 j).trans (iz2 a j h1 h2)
  replace hr2 := ((sam_N hn (a := b) (by omega)).2 2).trans ((up2_ne _ _ (by omega)).trans hr2)
  replace f4 := code0_x f4 (fun a _ _ => hs a (by omega) (by omega))
  replace iz4 : ∀ a j, b + 4 ≤ a → a < b + 129 → M70.1 a j = 0 := fun a j h1 h2 => ((hn.2.1 a (by omega)).1 j).trans (iz4 a j h1 h2)
  replace hr3 := ((sam_N hn (a := b) (by omega)).2 3).trans ((up2_ne _ _ (by omega)).trans hr3)
  replace f129 := code0_x f129 (fun a _ _ => hs a (by omega) (by omega))
  replace iz129 : ∀ a j, b + 129 ≤ a → a < b + 254 → M70.1 a j = 0 := fun a j h1 h2 => ((hn.2.1 a (by omega)).1 j).trans (iz129 a j h1 h2)
  replace hr4 := ((sam_N hn (a := b) (by omega)).2 4).trans ((up2_ne _ _ (by omega)).trans hr4)
  replace f254 := suW_x f254 (fun a _ _ => hs a (by omega) (by omega))
  replace g254 : suIs M70 (b + 254) (fun _ => 6) 0 := ⟨((hn.2.1 _ (by omega)).1 _).trans g254.1, ((hn.2.1 _ (by omega)).1 _).trans g254.2.1, ((hn.2.1 _ (by omega)).1 _).trans g254.2.2.1, ((hn.2.1 _ (by omega)).1 _).trans g254.2.2.2⟩
  replace hr5 := ((sam_N hn (a := b) (by omega)).2 5).trans ((up2_ne _ _ (by omega)).trans hr5)
  replace f256 := suW_x f256 (fun a _ _ => hs a (by omega) (by omega))
  replace g256 : suIs M70 (b + 256) (fun _ => 6) 0 := ⟨((hn.2.1 _ (by omega)).1 _).trans g256.1, ((hn.2.1 _ (by omega)).1 _).trans g256.2.1, ((hn.2.1 _ (by omega)).1 _).trans g256.2.2.1, ((hn.2.1 _ (by omega)).1 _).trans g256.2.2.2⟩
  have hr6 := ((sam_N hn (a := b) (by omega)).2 6).trans (up2_self M61.2.2 b 6 (.ref (b + 256)))
  replace hB := exV_N (exV_R hB 6 (.ref (b + 256))) (exN_W hn) (by omega) (by omega)
  clear hs
  have k258 : G70 (b + 258) = some (.inr (.int, 14)) := gk
  clear hn gk
  refine x_putFR h gb (by decide) (by decide) ff_X11_40 rfl rfl rfl rfl dX11_init_72 ?_
  refine x_aload_n h dX11_init_75 rfl ?_
  refine x_in2 h dX11_init_76 ?_
  refine x_arr (at' := .int) (ty := .int) h 2 rfl ac_int (by decide) (by decide) (by decide) rfl ⟨Nat.le_of_ble_eq_true rfl, Nat.le_of_ble_eq_true rfl⟩ dX11_init_77 (fun G77 M77 hn gk => ?_)
  refine x_z (z' := b + 260) rfl ?_
  have hs : ∀ a, a < b + 259 → a ≠ b → sam G70 G77 M70.2.2 M77.2.2 a := fun a h1 h2 => sam_t (sam_R G70 M70 7 (.ref (b + 258)) h2) (sam_N hn h1)
  replace gb := kin_x gb (sam_N hn (by omega))
  replace io : ∀ j, M77.1 b j = 0 := fun j => ((hn.2.1 b (by omega)).1 j).trans (io j)
  replace k1 := kin_x k1 (hs _ (by omega) (by omega))
  replace hr0 := ((sam_N hn (a := b) (by omega)).2 0).trans ((up2_ne _ _ (by omega)).trans hr0)
  replace f2 := rdF_x f2 (fun a _ _ => hs a (by omega) (by omega))
  replace iz2 : ∀ a j, b + 2 ≤ a → a < b + 4 → M77.1 a j = 0 := fun a j h1 h2 => ((hn.2.1 a (by omega)).1 j).trans (iz2 a j h1 h2)
  replace hr2 := ((sam_N hn (a := b) (by omega)).2 2).trans ((up2_ne _ _ (by omega)).trans hr2)
  replace f4 := code0_x f4 (fun a _ _ => hs a (by omega) (by omega))
  replace iz4 : ∀ a j, b + 4 ≤ a → a < b + 129 → M77.1 a j = 0 := fun a j h1 h2 => ((hn.2.1 a (by omega)).1 j).trans (iz4 a j h1 h2)
  replace hr3 := ((sam_N hn (a := b) (by omega)).2 3).trans ((up2_ne _ _ (by omega)).trans hr3)
  replace f129 := code0_x f129 (fun a _ _ => hs a (by omega) (by omega))
  replace iz129 : ∀ a j, b + 129 ≤ a → a < b + 254 → M77.1 a j = 0 := fun a j h1 h2 => ((hn.2.1 a (by omega)).1 j).trans (iz129 a j h1 h2)
  replace hr4 := ((sam_N hn (a := b) (by omega)).2 4).trans ((up2_ne _ _ (by omega)).trans hr4)
  replace f254 := suW_x f254 (fun a _ _ => hs a (by omega) (by omega))
  replace g254 : suIs M77 (b + 254) (fun _ => 6) 0 := ⟨((hn.2.1 _ (by omega)).1 _).trans g254.1, ((hn.2.1 _ (by omega)).1 _).trans g254.2.1, ((hn.2.1 _ (by omega)).1 _).trans g254.2.2.1, ((hn.2.1 _ (by omega)).1 _).trans g254.2.2.2⟩
  replace hr5 := ((sam_N hn (a := b) (by omega)).2 5).trans ((up2_ne _ _ (by omega)).trans hr5)
  replace f256 := suW_x f256 (fun a _ _ => hs a (by omega) (by omega))
  replace g256 : suIs M77 (b + 256) (fun _ => 6) 0 := ⟨((hn.2.1 _ (by omega)).1 _).trans g256.1, ((hn.2.1 _ (by omega)).1 _).trans g256.2.1, ((hn.2.1 _ (by omega)).1 _).trans g256.2.2.1, ((hn.2.1 _ (by omega)).1 _).trans g256.2.2.2⟩
  replace hr6 := ((sam_N hn (a := b) (by omega)).2 6).trans ((up2_ne _ _ (by omega)).trans hr6)
  replace k258 := kin_x k258 (hs _ (by omega) (by omega))
  have hr7 := ((sam_N hn (a := b) (by omega)).2 7).trans (up2_self M70.2.2 b 7 (.ref (b + 258)))
  replace hB := exV_N (exV_R hB 7 (.ref (b + 258))) (exN_W hn) (by omega) (by omega)
  clear hs
  have k259 : G77 (b + 259) = some (.inr (.int, 2)) := gk
  clear hn gk
  refine x_putFR h gb (by decide) (by decide) ff_X11_44 rfl rfl rfl rfl dX11_init_79 ?_
  refine x_aload_n h dX11_init_82 rfl ?_
  refine x_bipush h (nI 6) (by decide) dX11_init_83 ?_
  refine x_arr (at' := .int) (ty := .int) h 6 rfl ac_int (by decide) (by decide) (by decide) rfl ⟨Nat.le_of_ble_eq_true rfl, Nat.le_of_ble_eq_true rfl⟩ dX11_init_85 (fun G85 M85 hn gk => ?_)
  refine x_z (z' := b + 261) rfl ?_
  have hs : ∀ a, a < b + 260 → a ≠ b → sam G77 G85 M77.2.2 M85.2.2 a := fun a h1 h2 => sam_t (sam_R G77 M77 9 (.ref (b + 259)) h2) (sam_N hn h1)
  replace gb := kin_x gb (sam_N hn (by omega))
  replace io : ∀ j, M85.1 b j = 0 := fun j => ((hn.2.1 b (by omega)).1 j).trans (io j)
  replace k1 := kin_x k1 (hs _ (by omega) (by omega))
  replace hr0 := ((sam_N hn (a := b) (by omega)).2 0).trans ((up2_ne _ _ (by omega)).trans hr0)
  replace f2 := rdF_x f2 (fun a _ _ => hs a (by omega) (by omega))
  replace iz2 : ∀ a j, b + 2 ≤ a → a < b + 4 → M85.1 a j = 0 := fun a j h1 h2 => ((hn.2.1 a (by omega)).1 j).trans (iz2 a j h1 h2)
  replace hr2 := ((sam_N hn (a := b) (by omega)).2 2).trans ((up2_ne _ _ (by omega)).trans hr2)
  replace f4 := code0_x f4 (fun a _ _ => hs a (by omega) (by omega))
  replace iz4 : ∀ a j, b + 4 ≤ a → a < b + 129 → M85.1 a j = 0 := fun a j h1 h2 => ((hn.2.1 a (by omega)).1 j).trans (iz4 a j h1 h2)
  replace hr3 := ((sam_N hn (a := b) (by omega)).2 3).trans ((up2_ne _ _ (by omega)).trans hr3)
  replace f129 := code0_x f129 (fun a _ _ => hs a (by omega) (by omega))
  replace iz129 : ∀ a j, b + 129 ≤ a → a < b + 254 → M85.1 a j = 0 := fun a j h1 h2 => ((hn.2.1 a (by omega)).1 j).trans (iz129 a j h1 h2)
  replace hr4 := ((sam_N hn (a := b) (by omega)).2 4).trans ((up2_ne _ _ (by omega)).trans hr4)
  replace f254 := suW_x f254 (fun a _ _ => hs a (by omega) (by omega))
  replace g254 : suIs M85 (b + 254) (fun _ => 6) 0 := ⟨((hn.2.1 _ (by omega)).1 _).trans g254.1, ((hn.2.1 _ (by omega)).1 _).trans g254.2.1, ((hn.2.1 _ (by omega)).1 _).trans g254.2.2.1, ((hn.2.1 _ (by omega)).1 _).trans g254.2.2.2⟩
  replace hr5 := ((sam_N hn (a := b) (by omega)).2 5).trans ((up2_ne _ _ (by omega)).trans hr5)
  replace f256 := suW_x f256 (fun a _ _ => hs a (by omega) (by omega))
  replace g256 : suIs M85 (b + 256) (fun _ => 6) 0 := ⟨((hn.2.1 _ (by omega)).1 _).trans g256.1, ((hn.2.1 _ (by omega)).1 _).trans g256.2.1, ((hn.2.1 _ (by omega)).1 _).trans g256.2.2.1, ((hn.2.1 _ (by omega)).1 _).trans g256.2.2.2⟩
  replace hr6 := ((sam_N hn (a := b) (by omega)).2 6).trans ((up2_ne _ _ (by omega)).trans hr6)
  replace k258 := kin_x k258 (hs _ (by omega) (by omega))
  replace hr7 := ((sam_N hn (a := b) (by omega)).2 7).trans ((up2_ne _ _ (by omega)).trans hr7)
  replace k259 := kin_x k259 (hs _ (by omega) (by omega))
  have hr9 := ((sam_N hn (a := b) (by omega)).2 9).trans (up2_self M77.2.2 b 9 (.ref (b + 259)))
  replace hB := exV_N (exV_R hB 9 (.ref (b + 259))) (exN_W hn) (by omega) (by omega)
  clear hs
  have k260 : G85 (b + 260) = some (.inr (.int, 6)) := gk
  clear hn gk
  refine x_putFR h gb (by decide) (by decide) ff_X11_47 rfl rfl rfl rfl dX11_init_87 ?_
  refine x_aload_n h dX11_init_90 rfl ?_
  refine x_bipush h (nI 6) (by decide) dX11_init_91 ?_
  refine x_arr (at' := .int) (ty := .int) h 6 rfl ac_int (by decide) (by decide) (by decide) rfl ⟨Nat.le_of_ble_eq_true rfl, Nat.le_of_ble_eq_true rfl⟩ dX11_init_93 (fun G93 M93 hn gk => ?_)
  refine x_z (z' := b + 262) rfl ?_
  have hs : ∀ a, a < b + 261 → a ≠ b → sam G85 G93 M85.2.2 M93.2.2 a := fun a h1 h2 => sam_t (sam_R G85 M85 10 (.ref (b + 260)) h2) (sam_N hn h1)
  replace gb := kin_x gb (sam_N hn (by omega))
  replace io : ∀ j, M93.1 b j = 0 := fun j => ((hn.2.1 b (by omega)).1 j).trans (io j)
  replace k1 := kin_x k1 (hs _ (by omega) (by omega))
  replace hr0 := ((sam_N hn (a := b) (by omega)).2 0).trans ((up2_ne _ _ (by omega)).trans hr0)
  replace f2 := rdF_x f2 (fun a _ _ => hs a (by omega) (by omega))
  replace iz2 : ∀ a j, b + 2 ≤ a → a < b + 4 → M93.1 a j = 0 := fun a j h1 h2 => ((hn.2.1 a (by omega)).1 j).trans (iz2 a j h1 h2)
  replace hr2 := ((sam_N hn (a := b) (by omega)).2 2).trans ((up2_ne _ _ (by omega)).trans hr2)
  replace f4 := code0_x f4 (fun a _ _ => hs a (by omega) (by omega))
  replace iz4 : ∀ a j, b + 4 ≤ a → a < b + 129 → M93.1 a j = 0 := fun a j h1 h2 => ((hn.2.1 a (by omega)).1 j).trans (iz4 a j h1 h2)
  replace hr3 := ((sam_N hn (a := b) (by omega)).2 3).trans ((up2_ne _ _ (by omega)).trans hr3)
  replace f129 := code0_x f129 (fun a _ _ => hs a (by omega) (by omega))
  replace iz129 : ∀ a j, b + 129 ≤ a → a < b + 254 → M93.1 a j = 0 := fun a j h1 h2 => ((hn.2.1 a (by omega)).1 j).trans (iz129 a j h1 h2)
  replace hr4 := ((sam_N hn (a := b) (by omega)).2 4).trans ((up2_ne _ _ (by omega)).trans hr4)
  replace f254 := suW_x f254 (fun a _ _ => hs a (by omega) (by omega))
  replace g254 : suIs M93 (b + 254) (fun _ => 6) 0 := ⟨((hn.2.1 _ (by omega)).1 _).trans g254.1, ((hn.2.1 _ (by omega)).1 _).trans g254.2.1, ((hn.2.1 _ (by omega)).1 _).trans g254.2.2.1, ((hn.2.1 _ (by omega)).1 _).trans g254.2.2.2⟩
  replace hr5 := ((sam_N hn (a := b) (by omega)).2 5).trans ((up2_ne _ _ (by omega)).trans hr5)
  replace f256 := suW_x f256 (fun a _ _ => hs a (by omega) (by omega))
  replace g256 : suIs M93 (b + 256) (fun _ => 6) 0 := ⟨((hn.2.1 _ (by omega)).1 _).trans g256.1, ((hn.2.1 _ (by omega)).1 _).trans g256.2.1, ((hn.2.1 _ (by omega)).1 _).trans g256.2.2.1, ((hn.2.1 _ (by omega)).1 _).trans g256.2.2.2⟩
  replace hr6 := ((sam_N hn (a := b) (by omega)).2 6).trans ((up2_ne _ _ (by omega)).trans hr6)
  replace k258 := kin_x k258 (hs _ (by omega) (by omega))
  replace hr7 := ((sam_N hn (a := b) (by omega)).2 7).trans ((up2_ne _ _ (by omega)).trans hr7)
  replace k259 := kin_x k259 (hs _ (by omega) (by omega))
  replace hr9 := ((sam_N hn (a := b) (by omega)).2 9).trans ((up2_ne _ _ (by omega)).trans hr9)
  replace k260 := kin_x k260 (hs _ (by omega) (by omega))
  have hr10 := ((sam_N hn (a := b) (by omega)).2 10).trans (up2_self M85.2.2 b 10 (.ref (b + 260)))
  replace hB := exV_N (exV_R hB 10 (.ref (b + 260))) (exN_W hn) (by omega) (by omega)
  clear hs
  have k261 : G93 (b + 261) = some (.inr (.int, 6)) := gk
  clear hn gk
  refine x_putFR h gb (by decide) (by decide) ff_X11_50 rfl rfl rfl rfl dX11_init_95 ?_
  refine x_aload_n h dX11_init_98 rfl ?_
  refine x_in4 h dX11_init_99 ?_
  refine x_arr (at' := .int) (ty := .int) h 4 rfl ac_int (by decide) (by decide) (by decide) rfl ⟨Nat.le_of_ble_eq_true rfl, Nat.le_of_ble_eq_true rfl⟩ dX11_init_100 (fun G100 M100 hn gk => ?_)
  refine x_z (z' := b + 263) rfl ?_
  have hs : ∀ a, a < b + 262 → a ≠ b → sam G93 G100 M93.2.2 M100.2.2 a := fun a h1 h2 => sam_t (sam_R G93 M93 11 (.ref (b + 261)) h2) (sam_N hn h1)
  replace gb := kin_x gb (sam_N hn (by omega))
  replace io : ∀ j, M100.1 b j = 0 := fun j => ((hn.2.1 b (by omega)).1 j).trans (io j)
  replace k1 := kin_x k1 (hs _ (by omega) (by omega))
  replace hr0 := ((sam_N hn (a := b) (by omega)).2 0).trans ((up2_ne _ _ (by omega)).trans hr0)
  replace f2 := rdF_x f2 (fun a _ _ => hs a (by omega) (by omega))
  replace iz2 : ∀ a j, b + 2 ≤ a → a < b + 4 → M100.1 a j = 0 := fun a j h1 h2 => ((hn.2.1 a (by omega)).1 j).trans (iz2 a j h1 h2)
  replace hr2 := ((sam_N hn (a := b) (by omega)).2 2).trans ((up2_ne _ _ (by omega)).trans hr2)
  replace f4 := code0_x f4 (fun a _ _ => hs a (by omega) (by omega))
  replace iz4 : ∀ a j, b + 4 ≤ a → a < b + 129 → M100.1 a j = 0 := fun a j h1 h2 => ((hn.2.1 a (by omega)).1 j).trans (iz4 a j h1 h2)
  replace hr3 := ((sam_N hn (a := b) (by omega)).2 3).trans ((up2_ne _ _ (by omega)).trans hr3)
  replace f129 := code0_x f129 (fun a _ _ => hs a (by omega) (by omega))
  replace iz129 : ∀ a j, b + 129 ≤ a → a < b + 254 → M100.1 a j = 0 := fun a j h1 h2 => ((hn.2.1 a (by omega)).1 j).trans (iz129 a j h1 h2)
  replace hr4 := ((sam_N hn (a := b) (by omega)).2 4).trans ((up2_ne _ _ (by omega)).trans hr4)
  replace f254 := suW_x f254 (fun a _ _ => hs a (by omega) (by omega))
  replace g254 : suIs M100 (b + 254) (fun _ => 6) 0 := ⟨((hn.2.1 _ (by omega)).1 _).trans g254.1, ((hn.2.1 _ (by omega)).1 _).trans g254.2.1, ((hn.2.1 _ (by omega)).1 _).trans g254.2.2.1, ((hn.2.1 _ (by omega)).1 _).trans g254.2.2.2⟩
  replace hr5 := ((sam_N hn (a := b) (by omega)).2 5).trans ((up2_ne _ _ (by omega)).trans hr5)
  replace f256 := suW_x f256 (fun a _ _ => hs a (by omega) (by omega))
  replace g256 : suIs M100 (b + 256) (fun _ => 6) 0 := ⟨((hn.2.1 _ (by omega)).1 _).trans g256.1, ((hn.2.1 _ (by omega)).1 _).trans g256.2.1, ((hn.2.1 _ (by omega)).1 _).trans g256.2.2.1, ((hn.2.1 _ (by omega)).1 _).trans g256.2.2.2⟩
  replace hr6 := ((sam_N hn (a := b) (by omega)).2 6).trans ((up2_ne _ _ (by omega)).trans hr6)
  replace k258 := kin_x k258 (hs _ (by omega) (by omega))
  replace hr7 := ((sam_N hn (a := b) (by omega)).2 7).trans ((up2_ne _ _ (by omega)).trans hr7)
  replace k259 := kin_x k259 (hs _ (by omega) (by omega))
  replace hr9 := ((sam_N hn (a := b) (by omega)).2 9).trans ((up2_ne _ _ (by omega)).trans hr9)
  replace k260 := kin_x k260 (hs _ (by omega) (by omega))
  replace hr10 := ((sam_N hn (a := b) (by omega)).2 10).trans ((up2_ne _ _ (by omega)).trans hr10)
  replace k261 := kin_x k261 (hs _ (by omega) (by omega))
  have hr11 := ((sam_N hn (a := b) (by omega)).2 11).trans (up2_self M93.2.2 b 11 (.ref (b + 261)))
  replace hB := exV_N (exV_R hB 11 (.ref (b + 261))) (exN_W hn) (by omega) (by omega)
  clear hs
  have k262 : G100 (b + 262) = some (.inr (.int, 4)) := gk
  clear hn gk
  refine x_putFR h gb (by decide) (by decide) ff_X11_53 rfl rfl rfl rfl dX11_init_102 ?_
  refine x_aload_n h dX11_init_105 rfl ?_
  refine x_new h (ci := 9) (by decide) k_X11_56 mk_X9 ini_X9 ⟨Nat.le_of_ble_eq_true rfl, Nat.le_of_ble_eq_true rfl⟩ dX11_init_106 ?_
  refine x_dup h rfl dX11_init_109 ?_
  refine x_cI h ci_X9_init im_X9_init rfl rfl l_X11_58 ⟨Nat.le_of_ble_eq_true rfl, Nat.le_of_ble_eq_true rfl⟩ rfl rfl ⟨Nat.le_of_ble_eq_true rfl, Nat.le_of_ble_eq_true rfl⟩ (c_X9_init (b := b + 263) (if_pos rfl)) rfl rfl rfl rfl dX11_init_110 (fun G110 z110 M110 hp110 => ?_)
  obtain ⟨hz, hx, hw⟩ := hp110
  obtain rfl := hz
  refine x_z (z' := b + 265) rfl ?_
  have hn := exN_new hx (by omega) (fun _ => by omega)
  have hs : ∀ a, a < b + 263 → a ≠ b → sam G100 G110 M100.2.2 M110.2.2 a := fun a h1 h2 => sam_t (sam_R G100 M100 13 (.ref (b + 262)) h2) (sam_N hn h1)
  replace gb := kin_x gb (sam_N hn (by omega))
  replace io : ∀ j, M110.1 b j = 0 := fun j => ((hn.2.1 b (by omega)).1 j).trans (io j)
  replace k1 := kin_x k1 (hs _ (by omega) (by omega))
  replace hr0 := ((sam_N hn (a := b) (by omega)).2 0).trans ((up2_ne _ _ (by omega)).trans hr0)
  replace f2 := rdF_x f2 (fun a _ _ => hs a (by omega) (by omega))
  replace iz2 : ∀ a j, b + 2 ≤ a → a < b + 4 → M110.1 a j = 0 := fun a j h1 h2 => ((hn.2.1 a (by omega)).1 j).trans (iz2 a j h1 h2)
  replace hr2 := ((sam_N hn (a := b) (by omega)).2 2).trans ((up2_ne _ _ (by omega)).trans hr2)
  replace f4 := code0_x f4 (fun a _ _ => hs a (by omega) (by omega))
  replace iz4 : ∀ a j, b + 4 ≤ a → a < b + 129 → M110.1 a j = 0 := fun a j h1 h2 => ((hn.2.1 a (by omega)).1 j).trans (iz4 a j h1 h2)
  replace hr3 := ((sam_N hn (a := b) (by omega)).2 3).trans ((up2_ne _ _ (by omega)).trans hr3)
  replace f129 := code0_x f129 (fun a _ _ => hs a (by omega) (by omega))
  replace iz129 : ∀ a j, b + 129 ≤ a → a < b + 254 → M110.1 a j = 0 := fun a j h1 h2 => ((hn.2.1 a (by omega)).1 j).trans (iz129 a j h1 h2)
  replace hr4 := ((sam_N hn (a := b) (by omega)).2 4).trans ((up2_ne _ _ (by omega)).trans hr4)
  replace f254 := suW_x f254 (fun a _ _ => hs a (by omega) (by omega))
  replace g254 : suIs M110 (b + 254) (fun _ => 6) 0 := ⟨((hn.2.1 _ (by omega)).1 _).trans g254.1, ((hn.2.1 _ (by omega)).1 _).trans g254.2.1, ((hn.2.1 _ (by omega)).1 _).trans g254.2.2.1, ((hn.2.1 _ (by omega)).1 _).trans g254.2.2.2⟩
  replace hr5 := ((sam_N hn (a := b) (by omega)).2 5).trans ((up2_ne _ _ (by omega)).trans hr5)
  replace f256 := suW_x f256 (fun a _ _ => hs a (by omega) (by omega))
  replace g256 : suIs M110 (b + 256) (fun _ => 6) 0 := ⟨((hn.2.1 _ (by omega)).1 _).trans g256.1, ((hn.2.1 _ (by omega)).1 _).trans g256.2.1, ((hn.2.1 _ (by omega)).1 _).trans g256.2.2.1, ((hn.2.1 _ (by omega)).1 _).trans g256.2.2.2⟩
  replace hr6 := ((sam_N hn (a := b) (by omega)).2 6).trans ((up2_ne _ _ (by omega)).trans hr6)
  replace k258 := kin_x k258 (hs _ (by omega) (by omega))
  replace hr7 := ((sam_N hn (a := b) (by omega)).2 7).trans ((up2_ne _ _ (by omega)).trans hr7)
  replace k259 := kin_x k259 (hs _ (by omega) (by omega))
  replace hr9 := ((sam_N hn (a := b) (by omega)).2 9).trans ((up2_ne _ _ (by omega)).trans hr9)
  replace k260 := kin_x k260 (hs _ (by omega) (by omega))
  replace hr10 := ((sam_N hn (a := b) (by omega)).2 10).trans ((up2_ne _ _ (by omega)).trans hr10)
  replace k261 := kin_x k261 (hs _ (by omega) (by omega))
  replace hr11 := ((sam_N hn (a := b) (by omega)).2 11).trans ((up2_ne _ _ (by omega)).trans hr11)
  replace k262 := kin_x k262 (hs _ (by omega) (by omega))
  have hr13 := ((sam_N hn (a := b) (by omega)).2 13).trans (up2_self M100.2.2 b 13 (.ref (b + 262)))
  replace hB := exV_N (exV_R hB 13 (.ref (b + 262))) (exN_W hn) (by omega) (by omega)
  clear hs
  have f263 := hw
  clear hn hx
  refine x_putFR h gb (by decide) (by decide) ff_X11_59 rfl rfl rfl rfl dX11_init_113 ?_
  refine x_aload_n h dX11_init_116 rfl ?_
  replace hr0 : (sR M110 b 14 (.ref (b + 263))).2.2 b 0 = _ := (up2_ne _ _ (by omega)).trans hr0
  replace f2 := rdF_x (G' := G110) (R' := (sR M110 b 14 (.ref (b + 263))).2.2) f2 (fun a _ _ => sam_R G110 M110 14 (.ref (b + 263)) (by omega))
  replace hr2 : (sR M110 b 14 (.ref (b + 263))).2.2 b 2 = _ := (up2_ne _ _ (by omega)).trans hr2
  replace f4 := code0_x (G' := G110) (R' := (sR M110 b 14 (.ref (b + 263))).2.2) f4 (fun a _ _ => sam_R G110 M110 14 (.ref (b + 263)) (by omega))
  replace hr3 : (sR M110 b 14 (.ref (b + 263))).2.2 b 3 = _ := (up2_ne _ _ (by omega)).trans hr3
  replace f129 := code0_x (G' := G110) (R' := (sR M110 b 14 (.ref (b + 263))).2.2) f129 (fun a _ _ => sam_R G110 M110 14 (.ref (b + 263)) (by omega))
  replace hr4 : (sR M110 b 14 (.ref (b + 263))).2.2 b 4 = _ := (up2_ne _ _ (by omega)).trans hr4
  replace f254 := suW_x (G' := G110) (R' := (sR M110 b 14 (.ref (b + 263))).2.2) f254 (fun a _ _ => sam_R G110 M110 14 (.ref (b + 263)) (by omega))
  replace hr5 : (sR M110 b 14 (.ref (b + 263))).2.2 b 5 = _ := (up2_ne _ _ (by omega)).trans hr5
  replace f256 := suW_x (G' := G110) (R' := (sR M110 b 14 (.ref (b + 263))).2.2) f256 (fun a _ _ => sam_R G110 M110 14 (.ref (b + 263)) (by omega))
  replace hr6 : (sR M110 b 14 (.ref (b + 263))).2.2 b 6 = _ := (up2_ne _ _ (by omega)).trans hr6
  replace hr7 : (sR M110 b 14 (.ref (b + 263))).2.2 b 7 = _ := (up2_ne _ _ (by omega)).trans hr7
  replace hr9 : (sR M110 b 14 (.ref (b + 263))).2.2 b 9 = _ := (up2_ne _ _ (by omega)).trans hr9
  replace hr10 : (sR M110 b 14 (.ref (b + 263))).2.2 b 10 = _ := (up2_ne _ _ (by omega)).trans hr10
  replace hr11 : (sR M110 b 14 (.ref (b + 263))).2.2 b 11 = _ := (up2_ne _ _ (by omega)).trans hr11
  replace hr13 : (sR M110 b 14 (.ref (b + 263))).2.2 b 13 = _ := (up2_ne _ _ (by omega)).trans hr13
  replace f263 := isS_x (G' := G110) (R' := (sR M110 b 14 (.ref (b + 263))).2.2) f263 (fun a _ _ => sam_R G110 M110 14 (.ref (b + 263)) (by omega))
  have hr14 : (sR M110 b 14 (.ref (b + 263))).2.2 b 14 = .ref (b + 263) := up2_self _ _ _ _
  replace hB := exV_R hB 14 (.ref (b + 263))
  refine x_new h (ci := 0) (by decide) k_X11_63 mk_X0 ini_X0 ⟨Nat.le_of_ble_eq_true rfl, Nat.le_of_ble_eq_true rfl⟩ dX11_init_117 ?_
  refine x_dup h rfl dX11_init_120 ?_
  refine x_aload_n h dX11_init_121 rfl ?_
  refine x_getR h (show gup G110 (b + 265) (.inl 0) b = _ from (if_neg (by omega)).trans gb) f_X11_23 rfl (((zr_off (sR M110 b 14 (.ref (b + 263))) (b + 265) b (by omega)).2.2 3).symm.trans hr3) dX11_init_122 ?_
  refine x_cI h ci_X0_init im_X0_init rfl rfl l_X11_65 ⟨Nat.le_of_ble_eq_true rfl, Nat.le_of_ble_eq_true rfl⟩ rfl rfl ⟨Nat.le_of_ble_eq_true rfl, Nat.le_of_ble_eq_true rfl⟩ (c_X0_init (b := b + 265) (c := b + 4) (if_pos rfl)) rfl rfl rfl rfl dX11_init_125 (fun G125 z125 M125 hp125 => ?_)
  obtain ⟨hz, hx, hw, hw2, hw3, hw4⟩ := hp125
  obtain rfl := hz
  refine x_z (z' := b + 433) rfl ?_
  have hn := exW_new hx (by omega) (by decide)
  have hs : ∀ a, a < b + 265 → a ≠ b → sam G110 G125 (sR M110 b 14 (.ref (b + 263))).2.2 M125.2.2 a := fun a h1 _ => sam_W hn h1
  replace gb := kin_x gb (sam_W hn (by omega))
  replace io : ∀ j, M125.1 b j = 0 := fun j => ((hn.2.1 b (by omega)).1 j).trans (io j)
  replace k1 := kin_x k1 (hs _ (by omega) (by omega))
  replace hr0 := ((sam_W hn (a := b) (by omega)).2 0).trans (hr0)
  replace f2 := rdF_x f2 (fun a _ _ => hs a (by omega) (by omega))
  replace iz2 : ∀ a j, b + 2 ≤ a → a < b + 4 → M125.1 a j = 0 := fun a j h1 h2 => ((hn.2.1 a (by omega)).1 j).trans (iz2 a j h1 h2)
  replace hr2 := ((sam_W hn (a := b) (by omega)).2 2).trans (hr2)
  replace f4 := code0_x f4 (fun a _ _ => hs a (by omega) (by omega))
  replace iz4 : ∀ a j, b + 4 ≤ a → a < b + 129 → M125.1 a j = 0 := fun a j h1 h2 => ((hn.2.1 a (by omega)).1 j).trans (iz4 a j h1 h2)
  replace hr3 := ((sam_W hn (a := b) (by omega)).2 3).trans (hr3)
  replace f129 := code0_x f129 (fun a _ _ => hs a (by omega) (by omega))
  replace iz129 : ∀ a j, b + 129 ≤ a → a < b + 254 → M125.1 a j = 0 := fun a j h1 h2 => ((hn.2.1 a (by omega)).1 j).trans (iz129 a j h1 h2)
  replace hr4 := ((sam_W hn (a := b) (by omega)).2 4).trans (hr4)
  replace f254 := suW_x f254 (fun a _ _ => hs a (by omega) (by omega))
  replace g254 : suIs M125 (b + 254) (fun _ => 6) 0 := ⟨((hn.2.1 _ (by omega)).1 _).trans g254.1, ((hn.2.1 _ (by omega)).1 _).trans g254.2.1, ((hn.2.1 _ (by omega)).1 _).trans g254.2.2.1, ((hn.2.1 _ (by omega)).1 _).trans g254.2.2.2⟩
  replace hr5 := ((sam_W hn (a := b) (by omega)).2 5).trans (hr5)
  replace f256 := suW_x f256 (fun a _ _ => hs a (by omega) (by omega))
  replace g256 : suIs M125 (b + 256) (fun _ => 6) 0 := ⟨((hn.2.1 _ (by omega)).1 _).trans g256.1, ((hn.2.1 _ (by omega)).1 _).trans g256.2.1, ((hn.2.1 _ (by omega)).1 _).trans g256.2.2.1, ((hn.2.1 _ (by omega)).1 _).trans g256.2.2.2⟩
  replace hr6 := ((sam_W hn (a := b) (by omega)).2 6).trans (hr6)
  replace k258 := kin_x k258 (hs _ (by omega) (by omega))
  replace hr7 := ((sam_W hn (a := b) (by omega)).2 7).trans (hr7)
  replace k259 := kin_x k259 (hs _ (by omega) (by omega))
  replace hr9 := ((sam_W hn (a := b) (by omega)).2 9).trans (hr9)
  replace k260 := kin_x k260 (hs _ (by omega) (by omega))
  replace hr10 := ((sam_W hn (a := b) (by omega)).2 10).trans (hr10)
  replace k261 := kin_x k261 (hs _ (by omega) (by omega))
  replace hr11 := ((sam_W hn (a := b) (by omega)).2 11).trans (hr11)
  replace k262 := kin_x k262 (hs _ (by omega) (by omega))
  replace hr13 := ((sam_W hn (a := b) (by omega)).2 13).trans (hr13)
  replace f263 := isS_x f263 (fun a _ _ => hs a (by omega) (by omega))
  replace hr14 := ((sam_W hn (a := b) (by omega)).2 14).trans (hr14)
  replace hB := exV_N hB hn (by omega) (by omega)
  clear hs
  have f265 := hw
  have rn0 := hw2
  have an1 := hw3
  have an11 := hw4
  clear hn hx
  refine x_putFR h gb (by decide) (by decide) ff_X11_68 rfl rfl rfl rfl dX11_init_128 ?_
  refine x_aload_n h dX11_init_131 rfl ?_
  refine x_new h (ci := 7) (by decide) k_X11_72 mk_X7 ini_X7 ⟨Nat.le_of_ble_eq_true rfl, Nat.le_of_ble_eq_true rfl⟩ dX11_init_132 ?_
  refine x_dup h rfl dX11_init_135 ?_
  refine x_cI h ci_X7_init im_X7_init rfl rfl l_X11_74 ⟨Nat.le_of_ble_eq_true rfl, Nat.le_of_ble_eq_true rfl⟩ rfl rfl ⟨Nat.le_of_ble_eq_true rfl, Nat.le_of_ble_eq_true rfl⟩ (c_X7_init (b := b + 433) (if_pos rfl)) rfl rfl rfl rfl dX11_init_136 (fun G136 z136 M136 hp136 => ?_)
  obtain ⟨hz, hx, hw⟩ := hp136
  obtain rfl := hz
  refine x_z (z' := b + 435) rfl ?_
  have hn := exN_new hx (by omega) (fun e => absurd e (by decide))
  have hs : ∀ a, a < b + 433 → a ≠ b → sam G125 G136 M125.2.2 M136.2.2 a := fun a h1 h2 => sam_t (sam_R G125 M125 15 (.ref (b + 265)) h2) (sam_N hn h1)
  replace gb := kin_x gb (sam_N hn (by omega))
  replace io : ∀ j, M136.1 b j = 0 := fun j => ((hn.2.1 b (by omega)).1 j).trans (io j)
  replace k1 := kin_x k1 (hs _ (by omega) (by omega))
  replace hr0 := ((sam_N hn (a := b) (by omega)).2 0).trans ((up2_ne _ _ (by omega)).trans hr0)
  replace f2 := rdF_x f2 (fun a _ _ => hs a (by omega) (by omega))
  replace iz2 : ∀ a j, b + 2 ≤ a → a < b + 4 → M136.1 a j = 0 := fun a j h1 h2 => ((hn.2.1 a (by omega)).1 j).trans (iz2 a j h1 h2)
  replace hr2 := ((sam_N hn (a := b) (by omega)).2 2).trans ((up2_ne _ _ (by omega)).trans hr2)
  replace f4 := code0_x f4 (fun a _ _ => hs a (by omega) (by omega))
  replace iz4 : ∀ a j, b + 4 ≤ a → a < b + 129 → M136.1 a j = 0 := fun a j h1 h2 => ((hn.2.1 a (by omega)).1 j).trans (iz4 a j h1 h2)
  replace hr3 := ((sam_N hn (a := b) (by omega)).2 3).trans ((up2_ne _ _ (by omega)).trans hr3)
  replace f129 := code0_x f129 (fun a _ _ => hs a (by omega) (by omega))
  replace iz129 : ∀ a j, b + 129 ≤ a → a < b + 254 → M136.1 a j = 0 := fun a j h1 h2 => ((hn.2.1 a (by omega)).1 j).trans (iz129 a j h1 h2)
  replace hr4 := ((sam_N hn (a := b) (by omega)).2 4).trans ((up2_ne _ _ (by omega)).trans hr4)
  replace f254 := suW_x f254 (fun a _ _ => hs a (by omega) (by omega))
  replace g254 : suIs M136 (b + 254) (fun _ => 6) 0 := ⟨((hn.2.1 _ (by omega)).1 _).trans g254.1, ((hn.2.1 _ (by omega)).1 _).trans g254.2.1, ((hn.2.1 _ (by omega)).1 _).trans g254.2.2.1, ((hn.2.1 _ (by omega)).1 _).trans g254.2.2.2⟩
  replace hr5 := ((sam_N hn (a := b) (by omega)).2 5).trans ((up2_ne _ _ (by omega)).trans hr5)
  replace f256 := suW_x f256 (fun a _ _ => hs a (by omega) (by omega))
  replace g256 : suIs M136 (b + 256) (fun _ => 6) 0 := ⟨((hn.2.1 _ (by omega)).1 _).trans g256.1, ((hn.2.1 _ (by omega)).1 _).trans g256.2.1, ((hn.2.1 _ (by omega)).1 _).trans g256.2.2.1, ((hn.2.1 _ (by omega)).1 _).trans g256.2.2.2⟩
  replace hr6 := ((sam_N hn (a := b) (by omega)).2 6).trans ((up2_ne _ _ (by omega)).trans hr6)
  replace k258 := kin_x k258 (hs _ (by omega) (by omega))
  replace hr7 := ((sam_N hn (a := b) (by omega)).2 7).trans ((up2_ne _ _ (by omega)).trans hr7)
  replace k259 := kin_x k259 (hs _ (by omega) (by omega))
  replace hr9 := ((sam_N hn (a := b) (by omega)).2 9).trans ((up2_ne _ _ (by omega)).trans hr9)
  replace k260 := kin_x k260 (hs _ (by omega) (by omega))
  replace hr10 := ((sam_N hn (a := b) (by omega)).2 10).trans ((up2_ne _ _ (by omega)).trans hr10)
  replace k261 := kin_x k261 (hs _ (by omega) (by omega))
  replace hr11 := ((sam_N hn (a := b) (by omega)).2 11).trans ((up2_ne _ _ (by omega)).trans hr11)
  replace k262 := kin_x k262 (hs _ (by omega) (by omega))
  replace hr13 := ((sam_N hn (a := b) (by omega)).2 13).trans ((up2_ne _ _ (by omega)).trans hr13)
  replace f263 := isS_x f263 (fun a _ _ => hs a (by omega) (by omega))
  replace hr14 := ((sam_N hn (a := b) (by omega)).2 14).trans ((up2_ne _ _ (by omega)).trans hr14)
  replace f265 := anW_x f265 (fun a _ _ => hs a (by omega) (by omega))
  replace rn0 := ((hs (b + 265) (by omega) (by omega)).2 0).trans rn0
  replace an1 := ((hn.2.1 (b + 265) (by omega)).1 1).trans an1
  replace an11 := ((hn.2.1 (b + 265) (by omega)).1 11).trans an11
  have hr15 := ((sam_N hn (a := b) (by omega)).2 15).trans (up2_self M125.2.2 b 15 (.ref (b + 265)))
  replace hB := exV_N (exV_R hB 15 (.ref (b + 265))) (exN_W hn) (by omega) (by omega)
  clear hs
  have f433 := hw
  clear hn hx
  refine x_putFR h gb (by decide) (by decide) ff_X11_75 rfl rfl rfl rfl dX11_init_139 ?_
  refine x_aload_n h dX11_init_142 rfl ?_
  replace hr0 : (sR M136 b 16 (.ref (b + 433))).2.2 b 0 = _ := (up2_ne _ _ (by omega)).trans hr0
  replace f2 := rdF_x (G' := G136) (R' := (sR M136 b 16 (.ref (b + 433))).2.2) f2 (fun a _ _ => sam_R G136 M136 16 (.ref (b + 433)) (by omega))
  replace hr2 : (sR M136 b 16 (.ref (b + 433))).2.2 b 2 = _ := (up2_ne _ _ (by omega)).trans hr2
  replace f4 := code0_x (G' := G136) (R' := (sR M136 b 16 (.ref (b + 433))).2.2) f4 (fun a _ _ => sam_R G136 M136 16 (.ref (b + 433)) (by omega))
  replace hr3 : (sR M136 b 16 (.ref (b + 433))).2.2 b 3 = _ := (up2_ne _ _ (by omega)).trans hr3
  replace f129 := code0_x (G' := G136) (R' := (sR M136 b 16 (.ref (b + 433))).2.2) f129 (fun a _ _ => sam_R G136 M136 16 (.ref (b + 433)) (by omega))
  replace hr4 : (sR M136 b 16 (.ref (b + 433))).2.2 b 4 = _ := (up2_ne _ _ (by omega)).trans hr4
  replace f254 := suW_x (G' := G136) (R' := (sR M136 b 16 (.ref (b + 433))).2.2) f254 (fun a _ _ => sam_R G136 M136 16 (.ref (b + 433)) (by omega))
  replace hr5 : (sR M136 b 16 (.ref (b + 433))).2.2 b 5 = _ := (up2_ne _ _ (by omega)).trans hr5
  replace f256 := suW_x (G' := G136) (R' := (sR M136 b 16 (.ref (b + 433))).2.2) f256 (fun a _ _ => sam_R G136 M136 16 (.ref (b + 433)) (by omega))
  replace hr6 : (sR M136 b 16 (.ref (b + 433))).2.2 b 6 = _ := (up2_ne _ _ (by omega)).trans hr6
  replace hr7 : (sR M136 b 16 (.ref (b + 433))).2.2 b 7 = _ := (up2_ne _ _ (by omega)).trans hr7
  replace hr9 : (sR M136 b 16 (.ref (b + 433))).2.2 b 9 = _ := (up2_ne _ _ (by omega)).trans hr9
  replace hr10 : (sR M136 b 16 (.ref (b + 433))).2.2 b 10 = _ := (up2_ne _ _ (by omega)).trans hr10
  replace hr11 : (sR M136 b 16 (.ref (b + 433))).2.2 b 11 = _ := (up2_ne _ _ (by omega)).trans hr11
  replace hr13 : (sR M136 b 16 (.ref (b + 433))).2.2 b 13 = _ := (up2_ne _ _ (by omega)).trans hr13
  replace f263 := isS_x (G' := G136) (R' := (sR M136 b 16 (.ref (b + 433))).2.2) f263 (fun a _ _ => sam_R G136 M136 16 (.ref (b + 433)) (by omega))
  replace hr14 : (sR M136 b 16 (.ref (b + 433))).2.2 b 14 = _ := (up2_ne _ _ (by omega)).trans hr14
  replace f265 := anW_x (G' := G136) (R' := (sR M136 b 16 (.ref (b + 433))).2.2) f265 (fun a _ _ => sam_R G136 M136 16 (.ref (b + 433)) (by omega))
  replace rn0 : (sR M136 b 16 (.ref (b + 433))).2.2 (b + 265) 0 = _ := (up2_ne _ _ (by omega)).trans rn0
  replace hr15 : (sR M136 b 16 (.ref (b + 433))).2.2 b 15 = _ := (up2_ne _ _ (by omega)).trans hr15
  replace f433 := ruW_x (G' := G136) (R' := (sR M136 b 16 (.ref (b + 433))).2.2) f433 (fun a _ _ => sam_R G136 M136 16 (.ref (b + 433)) (by omega))
  have hr16 : (sR M136 b 16 (.ref (b + 433))).2.2 b 16 = .ref (b + 433) := up2_self _ _ _ _
  replace hB := exV_R hB 16 (.ref (b + 433))
  refine x_cVv h ci_X11_emptySlots im_X11_emptySlots l_X11_79 ⟨Nat.le_of_ble_eq_true rfl, Nat.le_of_ble_eq_true rfl⟩ ⟨rfl, rfl⟩ ⟨Nat.le_of_ble_eq_true rfl, Nat.le_of_ble_eq_true rfl⟩ (c_X11_emptySlots (M := (sR M136 b 16 (.ref (b + 433)))) gb hr9 k259) rfl rfl rfl rfl gb (by decide) rfl dX11_init_143 (fun M143 hp143 => ?_)
  subst hp143
  have hD : ∀ a, DG G136 a = true → b ≤ a ∧ a < b + 434 := fun a q => by
    rcases Nat.lt_or_ge b a with w | w
    · rcases Nat.lt_or_ge a (b + 435) with w2 | w2
      · have := hB.2.2.2.2 a w w2 q; omega
      · unfold DG at q; rw [hB.1 a (by omega)] at q; exact (hDn a q).elim
    · unfold DG at q; rw [hB.1 a (by omega)] at q; exact (hDn a q).elim
  have hF : lgF G136 ((sR M136 b 16 (.ref (b + 433)))).2.2 b false := ⟨gb, ⟨hr0, k1⟩, ⟨hr2, f2⟩, ⟨hr3, f4.1⟩, ⟨hr4, f129.1⟩, ⟨hr5, f254⟩, ⟨hr6, f256⟩, ⟨hr7, k258⟩, ⟨hr9, k259⟩, ⟨hr10, k260⟩, ⟨hr11, k261⟩, ⟨hr13, k262⟩, ⟨hr14, f263⟩, ⟨hr15, f265⟩, ⟨hr16, f433⟩, hD⟩
  refine x_vret h hQ rfl dX11_init_146 ⟨rfl, rfl, exV_I hB rfl (fun a ha j => wI_ne _ _ _ _ (by omega)), cInv_new hF f4 f129 (fun a j q1 q2 => (wI_ne _ _ _ _ (by omega)).trans ?_) (fun j => (wI_ne _ _ _ _ (by omega)).trans (io j)) ⟨(wI_ne _ _ _ _ (by omega)).trans g254.1, (wI_ne _ _ _ _ (by omega)).trans g254.2.1, (wI_ne _ _ _ _ (by omega)).trans g254.2.2.1, (wI_ne _ _ _ _ (by omega)).trans g254.2.2.2⟩ (fun i hi => (wI_at _ _ _ _ _).trans (if_pos hi)) rn0 ((wI_ne _ _ _ _ (by omega)).trans an1) ((wI_ne _ _ _ _ (by omega)).trans an11) (fun a j q1 q2 => hB.2.2.2.1 a j q1 q2)⟩
  rcases Nat.lt_or_ge a (b + 4) with w | w
  · exact iz2 a j q1 w
  · rcases Nat.lt_or_ge a (b + 129) with w2 | w2
    · exact iz4 a j w w2
    · exact iz129 a j w2 q2
