/-! ===== the views of a program, from the table ===== -/
def pvT (T : RT) (c : Nat) : PV := (T 0 1, fun i => T (65 + i) 0, fun i => T (65 + i) 1, fun i => T (65 + i) 2, fun i => c + 5 + 3 * T (65 + i) 4 + 1)
def gvT (T : RT) (c : Nat) : GV := (T 0 6, fun g => c + 5 + 3 * T 3 g + 1)
def kvT (T : RT) (c : Nat) : GV := (T 0 7, fun g => c + 5 + 3 * T 4 g + 1)
/-- the places of a program are in range -/
def stpOk (T : RT) : Prop := ∀ i, i < T 0 1 → T (65 + i) 0 ≤ 10 ∧ (T (65 + i) 0 ≤ 3 → T (65 + i) 1 < 3) ∧ (T (65 + i) 0 = 5 → T (65 + i) 2 < 4) ∧ (6 ≤ T (65 + i) 0 → T (65 + i) 2 < 3)
theorem pvW_of {G : GG} {M : MM} {D : DS} {u c : Nat} {T : RT} (hW : codeF G M.2.2 c) (hT : rdW M u c T) (hD : ∀ j, j < 20 → isD G M.2.2 D (c + 5 + 3 * j + 1)) (hn : T 0 1 ≤ 60) (hs : stpOk T) : pvW G M D c (pvT T c) := by
  refine ⟨hn, rdW_c hT 1, fun i hi => ?_⟩
  have hi' : i < T 0 1 := hi
  have h60 : i < 60 := by omega
  have hr := rdW_sr hT h60
  have hc := hW.2.2.2.2.2.2.1 _ hr.2
  exact ⟨⟨(hW.2.2.2.1 i h60).2, rdW_s hT h60 (by decide), rdW_s hT h60 (by decide), rdW_s hT h60 (by decide), _, hr.1, hc.2.1, hc.2.2.1, hD _ hr.2⟩, hs i hi'⟩
theorem gvW_of {G : GG} {M : MM} {D : DS} {u c : Nat} {T : RT} (hW : codeF G M.2.2 c) (hT : rdW M u c T) (hD : ∀ j, j < 20 → isD G M.2.2 D (c + 5 + 3 * j + 1)) (h5 : T 0 6 ≤ 5) : gvW G M D c (gvT T c) := by
  refine ⟨h5, rdW_c hT 6, fun g hg => ?_⟩
  have hg' : g < T 0 6 := hg
  have hr := hT.2.2 3 g (Or.inl ⟨rfl, by omega⟩)
  have hc := hW.2.2.2.2.2.2.1 _ hr.2
  exact ⟨_, hr.1, hc.2.1, hc.2.2.1, hD _ hr.2⟩
theorem kvW_of {G : GG} {M : MM} {D : DS} {u c : Nat} {T : RT} (hW : codeF G M.2.2 c) (hT : rdW M u c T) (hD : ∀ j, j < 20 → isD G M.2.2 D (c + 5 + 3 * j + 1)) (h4 : T 0 7 ≤ 4) : kvW G M D c (kvT T c) := by
  refine ⟨h4, rdW_c hT 7, fun g hg => ?_⟩
  have hg' : g < T 0 7 := hg
  have hr := hT.2.2 4 g (Or.inr (Or.inl ⟨rfl, by omega⟩))
  have hc := hW.2.2.2.2.2.2.1 _ hr.2
  exact ⟨_, hr.1, hc.2.1, hc.2.2.1, hD _ hr.2⟩
theorem codeX_of {G : GG} {M : MM} {D : DS} {u c i : Nat} {T : RT} (hW : codeF G M.2.2 c) (hT : rdW M u c T) (hD : ∀ j, j < 20 → isD G M.2.2 D (c + 5 + 3 * j + 1)) (hok : rdOk T i) (hi : i ≤ 60) (hs : stpOk T) : codeX G M D c (pvT T c) (gvT T c) (kvT T c) (T 0 8) := by
  obtain ⟨o1, o2, o3, o4, o5, o6, o7, o8, o9, o10, o11, o12⟩ := hok
  exact ⟨hW, pvW_of hW hT hD (by omega) hs, gvW_of hW hT hD o8, kvW_of hW hT hD o9, rdW_c hT 8, o6⟩
